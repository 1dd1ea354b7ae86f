section PMH5
variable {p : Program} {l : Launch} {e : Env} {R : Room} {s : State} {m : MethodId} {args : Array Value} {below : List Frame} {meth : Method} {c : Code} {H : Heap} {locs : List Loc} {cells slots : Nat} {Q : State → Prop}
variable {cc : ByteArray} {pc : Nat} {ls : Array Slot} {G : va_G} {base : Nat} {roA : Nat → Nat} {z8 : Value} {as : List (Nat × ClassId)} {h : pm_H} {X : List Int}
theorem pm_okS.mono {N M : Nat} {sh : pm_SH} {f : Nat → Int} (hk : pm_okS N sh f) (hm : N ≤ M) : pm_okS M sh f := ⟨hk.1, fun r hr => ⟨(hk.2.1 r hr).1, by have := (hk.2.1 r hr).2; omega⟩, hk.2.2.1, hk.2.2.2⟩
theorem pm_okH_push (hok : pm_okH h) {sh : pm_SH} (hs : pm_okS (h.1.length + 1) sh (fun _ => 0)) : pm_okH (h.1 ++ [sh], h.2) := by
  refine ⟨fun o sh' hs' => ?_, fun o ho i => hok.2 o (by simp at ho; omega) i⟩
  have hs2 : (h.1 ++ [sh])[o]? = some sh' := hs'
  show pm_okS (h.1 ++ [sh]).length sh' (h.2 o)
  rw [List.length_append, show [sh].length = 1 from rfl]
  by_cases hl : o < h.1.length
  · rw [List.getElem?_append_left hl] at hs2
    exact (hok.1 o sh' hs2).mono (by omega)
  · rw [List.getElem?_append_right (by omega)] at hs2
    have hz : o - h.1.length < 1 := (List.getElem?_eq_some_iff.mp hs2).1
    rw [show o - h.1.length = 0 by omega] at hs2
    cases hs2
    have e1 : h.2 o = fun _ => 0 := funext fun i => hok.2 o (by omega) i
    rw [e1]
    exact hs
theorem pm_WD_push {H1 : Heap} {tys tys' : List (ClassId × FieldType)} {q : Nat} {cA : ClassId} {sh : pm_SH} {E : Nat × va_E} (w1 : as.length = h.1.length) (w2 : pm_okH h) (w6 : ∀ (o : Nat) (a : Nat × ClassId) (sh : pm_SH), as[o]? = some a → h.1[o]? = some sh → 20 ≤ sh.1 → (a.2, pm_aty sh.1) ∈ tys)
    (hs : pm_okS (h.1.length + 1) sh (fun _ => 0)) (hE : E = (q, pm_ent (pm_cv (pm_adr roA (as ++ [(q, cA)])) z8) (pm_rf roA (as ++ [(q, cA)])) sh cA (fun _ => 0))) (hP : va_P G pm_cl (pm_ws roA z8 as h ++ [E]) H1) (hD : va_D (fun q : Nat => base ≤ q) (pm_ws roA z8 as h ++ [E]))
    (hK : va_K G pm_cl tys' s) (hsub : ∀ x ∈ tys, x ∈ tys') (hnew : 20 ≤ sh.1 → (cA, pm_aty sh.1) ∈ tys') : pm_WD G base roA z8 (as ++ [(q, cA)]) (h.1 ++ [sh], h.2) s H1 := by
  have e1 : pm_ws roA z8 (as ++ [(q, cA)]) (h.1 ++ [sh], h.2) = pm_ws roA z8 as h ++ [E] := by
    rw [pm_ws_push (h := h) (as := as) (by show (h.1 ++ [sh]).length = _; simp) (fun j hj => ?_)]
    · congr 2
      rw [hE, pm_at_eq (a := (q, cA)) (sh := sh) (by rw [← w1, List.getElem?_append_right (Nat.le_refl _), Nat.sub_self]; rfl) (by show (h.1 ++ [sh])[h.1.length]? = _; rw [List.getElem?_append_right (Nat.le_refl _), Nat.sub_self]; rfl)]
      show (q, pm_ent _ _ sh cA (h.2 h.1.length)) = _
      have e2 : h.2 h.1.length = fun _ => 0 := funext fun i => w2.2 _ (Nat.le_refl _) i
      rw [e2]
    · have ha : as[j]? = some (as[j]'(by omega)) := List.getElem?_eq_getElem _
      have hb : h.1[j]? = some (h.1[j]'hj) := List.getElem?_eq_getElem _
      rw [pm_at_eq ha hb, pm_at_eq (by rw [List.getElem?_append_left (by omega)]; exact ha) (by show (h.1 ++ [sh])[j]? = _; rw [List.getElem?_append_left hj]; exact hb)]
      rw [pm_ent_ext w1 (w2.1 j _ hb).2.1]
  refine ⟨by simp [w1], pm_okH_push w2 hs, by rw [e1]; exact hP, by rw [e1]; exact hD, tys', hK, fun o a sh2 g1 g2 g3 => ?_⟩
  have g2' : (h.1 ++ [sh])[o]? = some sh2 := g2
  by_cases hl : o < h.1.length
  · rw [List.getElem?_append_left (by omega)] at g1
    rw [List.getElem?_append_left hl] at g2'
    exact hsub _ (w6 o a sh2 g1 g2' g3)
  · rw [List.getElem?_append_right (by omega)] at g2'
    have hz : o - h.1.length < 1 := (List.getElem?_eq_some_iff.mp g2').1
    rw [show o - h.1.length = 0 by omega] at g2'
    rw [List.getElem?_append_right (by omega), show o - as.length = 0 by omega] at g1
    cases g1
    cases g2'
    exact hnew g3
theorem pm_sz_push {sh : pm_SH} {cf : Nat → Nat → Int} : pm_sz (h.1 ++ [sh], cf) = pm_sz h + sh.2.1 := by
  unfold pm_sz
  simp
/-- a step that makes one object -/
theorem pm_made {n : Nat} {S T : List pm_V} {sh : pm_SH} (hW : pm_WD G base roA z8 as h s H) (hok : okL h.1.length T)
    (K : cells + 1 ≤ R.cells → slots + sh.2.1 ≤ R.slots → (∀ (q : Nat) (cA : ClassId) (H' : Heap), pm_WD G base roA z8 (as ++ [(q, cA)]) (h.1 ++ [sh], h.2) s H' → va_S (fun q : Nat => base ≤ q) s.heap H' locs → W p l e R s m args below meth c H' locs (cells + 1) (slots + sh.2.1) Q (F0 m (pc + n) ls (.ref q :: T.map (pm_cv (pm_adr roA as) z8)))) → W p l e R s m args below meth c H locs cells slots Q (F0 m pc ls (S.map (pm_cv (pm_adr roA as) z8)))) : pm_goalH p l e R s m args below meth c H locs cells slots Q G base roA z8 as h pc n ls S (Vr h.1.length :: T) (h.1 ++ [sh], h.2) := by
  have e0 : (h.1 ++ [sh]).length = h.1.length + 1 := by simp
  refine ⟨okL.cons (by show ((h.1.length : Nat) : Int) < ((h.1 ++ [sh]).length : Nat); rw [e0]; omega) (hok.mono (by rw [e0]; omega)), by show h.1.length ≤ (h.1 ++ [sh]).length; omega, by rw [pm_sz_push]; omega, fun hc hs k => ?_⟩
  have hc' : cells + ((h.1 ++ [sh]).length - h.1.length) ≤ R.cells := hc
  rw [pm_sz_push] at hs
  refine K (by omega) (by omega) fun q cA H' hW' hS' => ?_
  have e1 := k [(q, cA)] H' locs hW' hS'
  rw [pm_sz_push, show slots + (pm_sz h + sh.2.1 - pm_sz h) = slots + sh.2.1 by omega] at e1
  have e1 : W p l e R s m args below meth c H' locs (cells + ((h.1 ++ [sh]).length - h.1.length)) (slots + sh.2.1) Q (F0 m (pc + n) ls ((Vr h.1.length :: T).map (pm_cv (pm_adr roA (as ++ [(q, cA)])) z8))) := e1
  rw [show cells + ((h.1 ++ [sh]).length - h.1.length) = cells + 1 by omega, List.map_cons, pm_map_ext hW.1 hok, pm_cv_r (pm_rok_of (by omega)), pm_adr_at (a := (q, cA)) (by omega) (by rw [show (((h.1.length : Nat) : Int)).toNat = as.length by rw [hW.1]; omega, List.getElem?_append_right (Nat.le_refl _), Nat.sub_self]; rfl)] at e1
  exact e1
theorem pm_zero {cv : pm_V → Value} (hcv : cv (Vr (-1)) = .null) {a N : Nat} {Y : Nat → FieldType} (hN : N = pm_nf a) (hY : ∀ k, k < N → pm_tok (pm_ft a k) (Y k) = true) : ∀ j, j < N → defaultValue (Y j) = vp_V ((List.range N).map (pm_fv cv (a, N, List.replicate N (-1)) (fun _ => 0))) j := by
  intro j hj
  unfold vp_V
  rw [List.getD_eq_getElem?_getD, List.getElem?_map, List.getElem?_range hj]
  show _ = pm_fv cv (a, N, List.replicate N (-1)) (fun _ => 0) j
  have h1 := hY j hj
  unfold pm_fv
  dsimp only
  have h2 : (List.replicate N (-1 : Int))[j]? = some (-1) := by simp [hj]
  rw [h2]
  cases hf : pm_ft a j with
  | zero => rw [hf] at h1; cases hy : Y j <;> rw [hy] at h1 <;> first | rfl | cases h1
  | succ k =>
    rw [hf] at h1
    match k, h1 with
    | 0, h1 => cases hy : Y j <;> rw [hy] at h1 <;> first | rfl | cases h1
    | 1, h1 => show _ = cv (Vr (-1)); rw [hcv]; cases hy : Y j <;> rw [hy] at h1 <;> first | rfl | cases h1
    | 2, h1 => cases hy : Y j <;> rw [hy] at h1 <;> first | rfl | cases h1
    | k + 3, h1 => cases hy : Y j <;> rw [hy] at h1 <;> cases h1
set_option maxHeartbeats 1000000 in
theorem pm_s_new (hx : p.tables.exec = Jvm.exec) (hb : c.code = cc) {own : Nat} (hown : s.vm.findClass (pm_on own) = some m.cls) (ht : pm_hts args s) (hbs : base ≤ s.heap.size) (hW : pm_WD G base roA z8 as h s H) (hS0 : va_S (fun q : Nat => base ≤ q) s.heap H locs)
    {idx n a b w : Nat} {v : Int} {ini : Bool} (hdg : decode cc pc = .ok (.new idx, n)) (hE : pm_okE own ini (.new idx, n, a, b, v, w) = true) {S S' : List pm_V} {h' : pm_H} (hS : okL h.1.length S) (hr : pm_new h a S = some (S', h')) :
    pm_goalH p l e R s m args below meth c H locs cells slots Q G base roA z8 as h pc 3 ls S S' h' := by
  unfold pm_okE at hE
  rw [Bool.and_eq_true] at hE
  have hn : n = 3 := Nat.eq_of_beq_eq_true hE.1
  subst hn
  have hE2 := hE.2
  dsimp only at hE2
  unfold pm_new at hr
  cases ha : Nat.blt a 12 with
  | false => rw [ha] at hr; cases hr
  | true =>
    rw [ha] at hr hE2
    dsimp only [cond_true] at hE2
    cases hr
    have ha12 := Nat.blt_eq.mp ha
    obtain ⟨q, hq⟩ := pm_cl_get ha12
    obtain ⟨-, Y, g1, g2, g3, ⟨p1, g4⟩, ⟨p2, g5⟩, g6⟩ := pm_class hq
    have hlk := pm_lnk_use (c := .classLink (pm_on own) idx q.1) hE2 ht (by simp only [pm_lword, hq])
    have hin : ∀ w ∈ u_ws q.1 q.2.1 q.2.2, w.before args s = true := fun w hw => by
      refine ht.1 w (g6 w hw) ?_
      have hlw : w ∈ (List.range q.2.2).map (u_lay q.1 q.2.1) := hw
      obtain ⟨k, -, rfl⟩ := List.mem_map.mp hlw
      unfold u_lay
      split <;> rfl
    refine pm_made hW hS fun hc hs K => ?_
    obtain ⟨w1, w2, w3, w4, tys, w5, w6⟩ := hW
    rw [← g1] at hs K
    refine va_new (ci := a) hx hb (Ts := u_ws q.1 q.2.1 q.2.2) hin (fun w hw => hw) Y (fun k hk => (g2 k hk).2.1) hown hlk (pm_use g4 ht) (pm_use g5 ht) w5 w3 w4 hS0 (fun x hx => Nat.le_trans hbs hx) (by rw [← pm_nth_eq]; exact hq) (pm_zero (cv := pm_cv (pm_adr roA as) z8) rfl g1 (fun k hk => (g2 k hk).2.2)) hc hs hdg fun q0 H1 p1 d1 s1 => K q0 0 H1 ?_ s1
    refine pm_WD_push w1 w2 w6 ⟨Or.inl ⟨ha12, g1⟩, fun r hr => ?_, fun _ => List.length_replicate, fun i => ⟨fun _ => R64_0, fun _ => R32_0⟩⟩ ?_ p1 d1 w5 (fun _ h => h) (fun h20 => absurd h20 (by show ¬ 20 ≤ a; omega))
    · rw [List.eq_of_mem_replicate hr]
      omega
    · rw [pm_ent_obj (by show a < 20; omega)]
      congr 3
      apply List.map_congr_left
      intro k hk
      unfold pm_fv
      dsimp only
      rw [show (List.replicate q.2.2 (-1 : Int))[k]? = some (-1) by simp [List.mem_range.mp hk]]
      rfl
theorem pm_s_nwa (hx : p.tables.exec = Jvm.exec) (hb : c.code = cc) {own : Nat} (ht : pm_hts args s) (hbs : base ≤ s.heap.size) (hW : pm_WD G base roA z8 as h s H) (hS0 : va_S (fun q : Nat => base ≤ q) s.heap H locs)
    {n a b w : Nat} {v : Int} {ini : Bool} {t : ArrayType} (hdg : decode cc pc = .ok (.newarray t, n)) (hE : pm_okE own ini (.newarray t, n, a, b, v, w) = true) {S S' : List pm_V} {h' : pm_H} (hS : okL h.1.length S) (hr : pm_nwa h a S = some (S', h')) :
    pm_goalH p l e R s m args below meth c H locs cells slots Q G base roA z8 as h pc 2 ls S S' h' := by
  unfold pm_okE at hE
  rw [Bool.and_eq_true] at hE
  have hn : n = 2 := Nat.eq_of_beq_eq_true hE.1
  subst hn
  have hE2 := hE.2
  dsimp only at hE2
  rw [Bool.and_eq_true] at hE2
  obtain ⟨k, T, rfl, h1⟩ := pI_spec hr
  split at h1
  · cases h1
  next hk =>
  cases h1
  have hk32 : R32 k := hS.hd
  refine pm_made hW hS.tl fun hc hs K => ?_
  obtain ⟨w1, w2, w3, w4, tys, w5, w6⟩ := hW
  have key : ∀ (ty : FieldType) (a0 : vp_A), newarray.typeOf t = ty → pm_aty a = ty → 20 ≤ a → a ≤ 25 → componentBytes ty ≤ 8 → (∀ cA : ClassId, vp_cell cA a0 = arrV cA k.toNat (fun _ => defaultValue ty)) → (∀ rf : Int → Option Nat, (k.toNat, pm_av rf (a, k.toNat, []) (fun _ => 0)) = a0) → pm_lword 4 0 0 a 0 0 = some (.arrayClass ty) → (24 ≤ a → k.toNat = 0) →
      W p l e R s m args below meth c H locs cells slots Q (F0 m pc ls ((Vi k :: T).map (pm_cv (pm_adr roA as) z8))) := by
    intro ty a0 e1 e2 e3 e3' e4 e5 e6 e7 e8
    refine va_newa hx hb (by rw [e1]; exact pm_lnk_use hE2.2 ht e7) e1 w5 w3 w4 hS0 (fun x hx => Nat.le_trans hbs hx) e5 (pn_neg hk32 (by omega)) (pn_clamp hk32) ?_ hc hs hdg fun q0 cA H1 k1 p1 d1 s1 => K q0 cA H1 ?_ s1
    · have h3 : k.toNat * componentBytes ty ≤ 100000 * 8 := Nat.mul_le_mul (by omega) e4
      omega
    · refine pm_WD_push (tys' := tys ++ [(cA, ty)]) w1 w2 w6 ⟨Or.inr ⟨e3, e3', by show k.toNat ≤ 100000; omega⟩, (fun r hr => by cases hr), fun q => ?_, fun i => ⟨fun _ => R64_0, fun _ => R32_0⟩⟩ ?_ p1 d1 k1 (fun x hx => List.mem_append_left _ hx) (fun _ => by show (cA, pm_aty a) ∈ _; rw [e2]; simp)
      · show ([] : List Int).length = k.toNat
        have q' : a < 20 ∨ 24 ≤ a := q
        rw [e8 (by omega)]
        rfl
      · rw [pm_ent_arr (by show 20 ≤ a; exact e3), ← e6 (pm_rf roA (as ++ [(q0, cA)]))]
  have hat := hE2.1
  unfold pm_atok at hat
  split at hat
  · exact key .int (k.toNat, .inl (fun _ => 0)) rfl rfl (by omega) (by omega) (by decide) (fun _ => rfl) (fun _ => rfl) rfl (fun q => absurd q (by omega))
  · exact key .byte (k.toNat, .inl (fun _ => 0)) rfl rfl (by omega) (by omega) (by decide) (fun _ => rfl) (fun _ => rfl) rfl (fun q => absurd q (by omega))
  · exact key .boolean (k.toNat, .inl (fun _ => 0)) rfl rfl (by omega) (by omega) (by decide) (fun _ => rfl) (fun _ => rfl) rfl (fun q => absurd q (by omega))
  · exact key .long (k.toNat, .inr (.inl (fun _ => 0))) rfl rfl (by omega) (by omega) (by decide) (fun _ => rfl) (fun _ => rfl) rfl (fun q => absurd q (by omega))
  · cases hat
theorem pm_s_nwr (hx : p.tables.exec = Jvm.exec) (hb : c.code = cc) {own : Nat} (hown : s.vm.findClass (pm_on own) = some m.cls) (ht : pm_hts args s) (hbs : base ≤ s.heap.size) (hW : pm_WD G base roA z8 as h s H) (hS0 : va_S (fun q : Nat => base ≤ q) s.heap H locs)
    {idx n a b w : Nat} {v : Int} {ini : Bool} (hdg : decode cc pc = .ok (.anewarray idx, n)) (hE : pm_okE own ini (.anewarray idx, n, a, b, v, w) = true) {S S' : List pm_V} {h' : pm_H} (hS : okL h.1.length S) (hr : pm_nwr h a S = some (S', h')) :
    pm_goalH p l e R s m args below meth c H locs cells slots Q G base roA z8 as h pc 3 ls S S' h' := by
  unfold pm_okE at hE
  rw [Bool.and_eq_true] at hE
  have hn : n = 3 := Nat.eq_of_beq_eq_true hE.1
  subst hn
  have hE2 := hE.2
  dsimp only at hE2
  rw [Bool.and_eq_true, Bool.and_eq_true, Bool.or_eq_true] at hE2
  obtain ⟨k, T, rfl, h1⟩ := pI_spec hr
  split at h1
  · cases h1
  next hk =>
  cases h1
  have hk32 : R32 k := hS.hd
  refine pm_made hW hS.tl fun hc hs K => ?_
  obtain ⟨w1, w2, w3, w4, tys, w5, w6⟩ := hW
  have ha : 24 ≤ a ∧ a ≤ 25 ∧ pm_aty a = .object (pm_acls a) := by
    rcases hE2.1.1 with q | q <;> rw [Nat.eq_of_beq_eq_true q] <;> exact ⟨by omega, by omega, rfl⟩
  refine va_newq hx hb hown (pm_lnk_use hE2.1.2 ht rfl) (va_AO.of (pm_lnk_use hE2.2 ht rfl)) w5 w3 w4 hS0 (fun x hx => Nat.le_trans hbs hx) (pn_neg hk32 (by omega)) (pn_clamp hk32) (by omega) hc hs hdg fun q0 cA H1 k1 p1 d1 s1 => K q0 cA H1 ?_ s1
  refine pm_WD_push w1 w2 w6 ⟨Or.inr ⟨by show 20 ≤ a; omega, ha.2.1, by show k.toNat ≤ 100000; omega⟩, fun r hr => by rw [List.eq_of_mem_replicate hr]; omega, fun _ => List.length_replicate, fun i => ⟨fun _ => R64_0, fun _ => R32_0⟩⟩ ?_ p1 d1 k1 (fun x hx => List.mem_append_left _ hx) (fun _ => by show (cA, pm_aty a) ∈ _; rw [ha.2.2]; simp)
  rw [pm_ent_arr (by show 20 ≤ a; omega)]
  have e1 : pm_av (pm_rf roA (as ++ [(q0, cA)])) (a, k.toNat, List.replicate k.toNat (-1)) (fun _ => 0) = .inr (.inr (.inr (.inr (fun _ => none)))) := by
    unfold pm_av
    rw [if_neg (by show ¬ a = 23; omega), if_pos (by show 24 ≤ a; omega)]
    congr 4
    funext i
    have e2 : ((List.replicate k.toNat (-1 : Int))[i]?).getD (-1) = -1 := by
      by_cases hi : i < k.toNat
      · simp [hi]
      · rw [List.getElem?_eq_none (by simp; omega)]
        rfl
    show pm_rf roA (as ++ [(q0, cA)]) (((List.replicate k.toNat (-1 : Int))[i]?).getD (-1)) = none
    rw [e2]
    rfl
  rw [e1]
end PMH5
