/-! the heap instructions -/
def pm_hts (args : Array Value) (s : State) : Prop := (∀ w ∈ lw_tbl, goodWord w = true → w.before args s = true) ∧ ∀ w ∈ lw_tbl, pm_nw w = true → va_Nw w s
theorem pm_use {w : Nat} {c : Cond} {args : Array Value} {s : State} (h : pm_place w c = true) (ht : pm_hts args s) : c.before args s = true := by
  unfold pm_place at h
  rw [Bool.and_eq_true, Bool.or_eq_true] at h
  have hm : c ∈ lw_tbl := List.mem_of_getElem? (of_decide_eq_true h.1)
  rcases h.2 with g | g
  · exact ht.1 c hm g
  · have h2 := ht.2 c hm g
    cases c with
    | fieldLinkNest => exact va_Nw.use rfl h2
    | methodLinkNest => exact va_Nw.use rfl h2
    | arrayOver => exact h2
    | _ => cases g
theorem pm_lnk_use {w k o idx a b : Nat} {v : Int} {c : Cond} {args : Array Value} {s : State} (h : pm_lnk w k o idx a b v = true) (ht : pm_hts args s) (hc : pm_lword k o idx a b v = some c) : c.before args s = true := by
  unfold pm_lnk at h
  split at h
  · next r hr =>
    have h1 := pm_lk_all w r hr
    simp only [Bool.and_eq_true, decide_eq_true_eq] at h
    obtain ⟨⟨⟨⟨⟨e1, e2⟩, e3⟩, e4⟩, e5⟩, e6⟩ := h
    unfold pm_lkc at h1
    rw [Nat.eq_of_beq_eq_true e1, Nat.eq_of_beq_eq_true e2, Nat.eq_of_beq_eq_true e3, Nat.eq_of_beq_eq_true e4, Nat.eq_of_beq_eq_true e5, e6, hc] at h1
    exact pm_use h1 ht
  · cases h
/-- what the checks say of a class -/
theorem pm_class {ci : Nat} {q : vw_C} (h : pm_nth pm_cl ci = some q) : ci < 12 ∧ ∃ Y : Nat → FieldType, q.2.2 = pm_nf ci ∧ (∀ k, k < q.2.2 → (q.2.1 k).1 = q.1 ∧ parseFieldDescriptor (q.2.1 k).2.2.1 = some (Y k) ∧ pm_tok (pm_ft ci k) (Y k) = true) ∧
    (∀ a, a < q.2.2 → ∀ b, b < q.2.2 → a ≠ b → (q.2.1 a).2.1 ≠ (q.2.1 b).2.1) ∧ (∃ p1, pm_place p1 (.instantiable q.1 q.2.2) = true) ∧ (∃ p2, pm_place p2 (.initialized q.1) = true) ∧ ∀ w ∈ u_ws q.1 q.2.1 q.2.2, w ∈ lw_tbl := by
  have hlt : ci < 12 := by
    rw [pm_nth_eq] at h
    exact (List.getElem?_eq_some_iff.mp h).1
  refine ⟨hlt, ?_⟩
  have hc := pm_okCs ci hlt
  unfold pm_okC at hc
  rw [h] at hc
  obtain ⟨C, T, N⟩ := q
  split at hc
  · next C' T' N' Y ps p1 p2 e1 e2 e3 =>
    cases e1
    simp only [Bool.and_eq_true, decide_eq_true_eq] at hc
    obtain ⟨⟨⟨⟨c1, c2⟩, c3⟩, c4⟩, c5⟩ := hc
    have key := fun k (hk : k < N) => List.all_eq_true.mp c2 k (List.mem_range.mpr hk)
    simp only [Bool.and_eq_true, decide_eq_true_eq] at key
    refine ⟨Y, Nat.eq_of_beq_eq_true c1, fun k hk => ⟨(key k hk).1.1.1, (key k hk).1.1.2, (key k hk).1.2⟩, fun a ha b hb hab => ?_, ⟨p1, c3⟩, ⟨p2, c4⟩, fun w hw => ?_⟩
    · have h2 := List.all_eq_true.mp (key b hb).2 a (List.mem_range.mpr ha)
      rw [Bool.or_eq_true] at h2
      rcases h2 with h2 | h2
      · exact absurd (Nat.eq_of_beq_eq_true h2) hab
      · exact of_decide_eq_true h2
    · rw [c5] at hw
      obtain ⟨i, -, hi⟩ := List.mem_filterMap.mp hw
      exact List.mem_of_getElem? hi
  · cases hc
section PMH
variable {p : Program} {l : Launch} {e : Env} {R : Room} {s : State} {m : MethodId} {args : Array Value} {below : List Frame} {meth : Method} {c : Code} {H : Heap} {locs : List Loc} {cells slots : Nat} {Q : State → Prop}
variable {cc : ByteArray} {pc : Nat} {ls : Array Slot} {G : va_G} {base : Nat} {roA : Nat → Nat} {z8 : Value} {as : List (Nat × ClassId)} {h : pm_H} {X : List Int}
def pm_goalH (p : Program) (l : Launch) (e : Env) (R : Room) (s : State) (m : MethodId) (args : Array Value) (below : List Frame) (meth : Method) (c : Code) (H : Heap) (locs : List Loc) (cells slots : Nat) (Q : State → Prop) (G : va_G) (base : Nat) (roA : Nat → Nat) (z8 : Value) (as : List (Nat × ClassId)) (h : pm_H) (pc n : Nat) (ls : Array Slot) (S S' : List pm_V) (h' : pm_H) : Prop :=
  okL h'.1.length S' ∧ h.1.length ≤ h'.1.length ∧ pm_sz h ≤ pm_sz h' ∧
  (cells + (h'.1.length - h.1.length) ≤ R.cells → slots + (pm_sz h' - pm_sz h) ≤ R.slots →
    (∀ (ys : List (Nat × ClassId)) (H' : Heap) (locs' : List Loc), pm_WD G base roA z8 (as ++ ys) h' s H' → va_S (fun q : Nat => base ≤ q) s.heap H' locs' →
      W p l e R s m args below meth c H' locs' (cells + (h'.1.length - h.1.length)) (slots + (pm_sz h' - pm_sz h)) Q (F0 m (pc + n) ls (S'.map (pm_cv (pm_adr roA (as ++ ys)) z8)))) →
    W p l e R s m args below meth c H locs cells slots Q (F0 m pc ls (S.map (pm_cv (pm_adr roA as) z8))))
theorem pm_same {n : Nat} {S S' : List pm_V} (hW : pm_WD G base roA z8 as h s H) (hS : va_S (fun q : Nat => base ≤ q) s.heap H locs) (hok : okL h.1.length S')
    (K : W p l e R s m args below meth c H locs cells slots Q (F0 m (pc + n) ls (S'.map (pm_cv (pm_adr roA as) z8))) → W p l e R s m args below meth c H locs cells slots Q (F0 m pc ls (S.map (pm_cv (pm_adr roA as) z8)))) : pm_goalH p l e R s m args below meth c H locs cells slots Q G base roA z8 as h pc n ls S S' h := by
  refine ⟨hok, Nat.le_refl _, Nat.le_refl _, fun _ _ k => K ?_⟩
  have e1 := k [] H locs (by rw [List.append_nil]; exact hW) hS
  rwa [List.append_nil, Nat.sub_self, Nat.sub_self, Nat.add_zero, Nat.add_zero] at e1
/-- a step that writes one object -/
theorem pm_wrote {n : Nat} {S S' : List pm_V} {h' : pm_H} (hl : h'.1.length = h.1.length) (hz : pm_sz h' = pm_sz h) (hok : okL h.1.length S')
    (K : (∀ (H' : Heap) (locs' : List Loc), pm_WD G base roA z8 as h' s H' → va_S (fun q : Nat => base ≤ q) s.heap H' locs' → W p l e R s m args below meth c H' locs' cells slots Q (F0 m (pc + n) ls (S'.map (pm_cv (pm_adr roA as) z8)))) → W p l e R s m args below meth c H locs cells slots Q (F0 m pc ls (S.map (pm_cv (pm_adr roA as) z8)))) : pm_goalH p l e R s m args below meth c H locs cells slots Q G base roA z8 as h pc n ls S S' h' := by
  refine ⟨by rw [hl]; exact hok, by omega, by omega, fun _ _ k => K fun H' locs' hW hS => ?_⟩
  have e1 := k [] H' locs' (by rw [List.append_nil]; exact hW) hS
  rwa [List.append_nil, hl, hz, Nat.sub_self, Nat.sub_self, Nat.add_zero, Nat.add_zero] at e1
theorem pm_ent_obj {cv : pm_V → Value} {rf : Int → Option Nat} {sh : pm_SH} {cA : ClassId} {f : Nat → Int} (h20 : sh.1 < 20) : pm_ent cv rf sh cA f = .inr (sh.1, (List.range sh.2.1).map (pm_fv cv sh f)) := if_pos h20
theorem pm_ent_arr {cv : pm_V → Value} {rf : Int → Option Nat} {sh : pm_SH} {cA : ClassId} {f : Nat → Int} (h20 : 20 ≤ sh.1) : pm_ent cv rf sh cA f = .inl (cA, sh.2.1, pm_av rf sh f) := if_neg (by omega)
theorem pm_cvr {x : Int} (h0 : -1 ≤ x) : pm_cv (pm_adr roA as) z8 (Vr x) = va_rf (pm_rf roA as x) := by
  show (if pm_rok x = true then Value.ref (pm_adr roA as x) else if x = -1 then .null else z8) = _
  by_cases e : x = -1
  · subst e
    rfl
  · have e1 : pm_rf roA as x = some (pm_adr roA as x) := if_neg e
    rw [e1]
    exact if_pos (pm_rok_of (by omega))
theorem pm_cl_get {a : Nat} (h : a < 12) : ∃ q, pm_nth pm_cl a = some q := by
  match a, h with
  | 0, _ => exact ⟨_, rfl⟩
  | 1, _ => exact ⟨_, rfl⟩
  | 2, _ => exact ⟨_, rfl⟩
  | 3, _ => exact ⟨_, rfl⟩
  | 4, _ => exact ⟨_, rfl⟩
  | 5, _ => exact ⟨_, rfl⟩
  | 6, _ => exact ⟨_, rfl⟩
  | 7, _ => exact ⟨_, rfl⟩
  | 8, _ => exact ⟨_, rfl⟩
  | 9, _ => exact ⟨_, rfl⟩
  | 10, _ => exact ⟨_, rfl⟩
  | 11, _ => exact ⟨_, rfl⟩
  | n + 12, h => exact absurd h (by omega)
theorem pm_nf_lt {a b : Nat} (h : Nat.blt b (pm_nf a) = true) : a < 12 ∧ b < pm_nf a := by
  have h1 := Nat.blt_eq.mp h
  refine ⟨?_, h1⟩
  unfold pm_nf at h1
  split at h1
  · next l hl =>
    rw [pm_nth_eq] at hl
    exact (List.getElem?_eq_some_iff.mp hl).1
  · omega
set_option maxHeartbeats 1000000 in
theorem pm_s_get (hx : p.tables.exec = Jvm.exec) (hb : c.code = cc) {own : Nat} (hown : s.vm.findClass (pm_on own) = some m.cls) (ht : pm_hts args s) (hW : pm_WD G base roA z8 as h s H) (hS0 : va_S (fun q : Nat => base ≤ q) s.heap H locs) (hR : pm_RO base roA z8 X s s.heap)
    {idx n a b w : Nat} {v : Int} {ini : Bool} (hdg : decode cc pc = .ok (.getfield idx, n)) (hE : pm_okE own ini (.getfield idx, n, a, b, v, w) = true) {S S' : List pm_V} {h' : pm_H} (hS : okL h.1.length S) (hr : pm_get h a b S = some (S', h')) :
    pm_goalH p l e R s m args below meth c H locs cells slots Q G base roA z8 as h pc 3 ls S S' h' := by
  obtain ⟨o, T, rfl, h1⟩ := pR_spec hr
  unfold pm_okE at hE
  rw [Bool.and_eq_true] at hE
  have hn : n = 3 := Nat.eq_of_beq_eq_true hE.1
  subst hn
  have hE2 := hE.2
  dsimp only at hE2
  cases h99 : Nat.beq a 99 with
  | true =>
    rw [h99] at h1 hE2
    dsimp only [cond_true] at h1 hE2
    split at h1
    · next ho =>
      subst ho
      obtain ⟨-, -, -, -, -, -, r7, r8, r9, r10, r11⟩ := hR
      match b, h1, hE2 with
      | 0, h1, hE2 =>
        cases h1
        refine pm_same hW hS0 (okL.cons (by show (-7 : Int) < _; omega) hS.tl) fun K => ?_
        exact vk_getf hx hb r10 hS0 hown (pm_lnk_use hE2 ht rfl) (fun _ h => h) hdg K
      | b + 1, h1, hE2 =>
        cases h1
        refine pm_same hW hS0 (okL.cons R32_0 hS.tl) fun K => ?_
        exact vk_getf hx hb r9 hS0 hown (pm_lnk_use hE2 ht rfl) (fun _ h => h) hdg K
    · cases h1
  | false =>
    rw [h99] at h1 hE2
    dsimp only [cond_false] at h1 hE2
    obtain ⟨kd, nn, rs, ho, hs, h2⟩ := pm_ob_spec h1
    rw [Bool.and_eq_true] at hE2
    obtain ⟨ha12, hbf⟩ := pm_nf_lt hE2.1
    obtain ⟨q, hq⟩ := pm_cl_get ha12
    obtain ⟨-, Y, g1, g2, g3, g4, g5, g6⟩ := pm_class hq
    cases hbk : (Nat.beq kd a && Nat.blt b nn) with
    | false => rw [hbk] at h2; cases h2
    | true =>
      rw [hbk] at h2
      dsimp only [cond_true] at h2
      rw [Bool.and_eq_true] at hbk
      have hkd : kd = a := Nat.eq_of_beq_eq_true hbk.1
      subst hkd
      have hbn : b < nn := Nat.blt_eq.mp hbk.2
      have hbN : b < q.2.2 := by rw [g1]; exact hbf
      obtain ⟨a0, ha0⟩ := hW.as hs
      have hat := pm_at_eq (roA := roA) (z8 := z8) ha0 hs
      rw [pm_ent_obj (by show kd < 20; omega)] at hat
      have hlen : o.toNat < h.1.length := (List.getElem?_eq_some_iff.mp hs).1
      have he := pm_ws_get (roA := roA) (z8 := z8) (as := as) hlen
      rw [hat] at he
      have hokS := hW.2.1.1 o.toNat _ hs
      have hlk := pm_lnk_use (c := .fieldLink (pm_on own) idx q.1 (q.2.1 b).2.1 (q.2.1 b).2.2.1) hE2.2 ht (by simp only [pm_lword, hq])
      have hrow : ∀ v : Value, pm_fv (pm_cv (pm_adr roA as) z8) (kd, nn, rs) (h.2 o.toNat) b = v → W p l e R s m args below meth c H locs cells slots Q (F0 m (pc + 3) ls (v :: T.map (pm_cv (pm_adr roA as) z8))) → W p l e R s m args below meth c H locs cells slots Q (F0 m pc ls ((Vr o :: T).map (pm_cv (pm_adr roA as) z8))) := by
        intro v hv K
        rw [List.map_cons, pm_cv_r (pm_rok_of ho), pm_adr_at ho ha0]
        obtain ⟨tys, hK, -⟩ := hW.2.2.2.2
        obtain ⟨C, T0, N0⟩ := q
        refine va_get hx hb (Ts := u_ws C T0 N0) (fun w hw => ?_) (fun w hw => hw) hown hK hW.2.2.1 o.toNat he (by rw [← pm_nth_eq]; exact hq) b hbN hlk (fun x hx => by rw [(g2 b hbN).1] at hx; exact hx) (by rw [List.getElem?_map, List.getElem?_range hbn]; exact congrArg some hv) hdg K
        have hm := g6 w hw
        refine ht.1 w hm ?_
        have hlw : w ∈ (List.range N0).map (u_lay C T0) := hw
        obtain ⟨k, -, rfl⟩ := List.mem_map.mp hlw
        unfold u_lay
        split <;> rfl
      unfold pm_fv at hrow
      dsimp only at hrow
      have hnl : pm_ft kd b ≠ 1 → R32 (h.2 o.toNat b) := fun hne => by
        refine (hokS.2.2.2 b).2 ?_
        unfold pm_lg
        rw [show Nat.blt kd 20 = true from Nat.blt_eq.mpr (by omega)]
        cases hq1 : Nat.beq (pm_ft kd b) 1 with
        | true => exact absurd (Nat.eq_of_beq_eq_true hq1) hne
        | false => rfl
      split at h2
      · next hft =>
        cases h2
        exact pm_same hW hS0 (okL.cons (hnl (by omega)) hS.tl) fun K => hrow _ (by rw [hft]; rfl) K
      · next hft =>
        cases h2
        exact pm_same hW hS0 (okL.cons (hnl (by omega)) hS.tl) fun K => hrow _ (by rw [hft]; rfl) K
      · next hft =>
        cases h2
        refine pm_same hW hS0 (okL.cons ?_ hS.tl) fun K => hrow _ (by rw [hft]; rfl) K
        refine (hokS.2.2.2 b).1 ?_
        unfold pm_lg
        rw [show Nat.blt kd 20 = true from Nat.blt_eq.mpr (by omega), hft]
        rfl
      · next hft =>
        split at h2
        · next r hrs =>
          cases h2
          rw [pm_nth_eq] at hrs
          exact pm_same hW hS0 (okL.cons (hokS.2.1 r (List.mem_of_getElem? hrs)).2 hS.tl) fun K => hrow _ (by rw [hft, hrs]; rfl) K
        · cases h2
      · cases h2
end PMH
