section PMH2
variable {p : Program} {l : Launch} {e : Env} {R : Room} {s : State} {m : MethodId} {args : Array Value} {below : List Frame} {meth : Method} {c : Code} {H : Heap} {locs : List Loc} {cells slots : Nat} {Q : State → Prop}
variable {cc : ByteArray} {pc : Nat} {ls : Array Slot} {G : va_G} {base : Nat} {roA : Nat → Nat} {z8 : Value} {as : List (Nat × ClassId)} {h : pm_H} {X : List Int}
theorem updC_ne {cf : Nat → Nat → Int} {o i j : Nat} {v : Int} (hj : j ≠ o) : updC cf o i v j = cf j := by
  funext k
  unfold updC
  cases hq : Nat.beq j o with
  | true => exact absurd (Nat.eq_of_beq_eq_true hq) hj
  | false => rfl
theorem updC_at {cf : Nat → Nat → Int} {o i : Nat} {v : Int} : updC cf o i v o i = v := by
  unfold updC
  rw [Nat.beq_refl, Nat.beq_refl]
  rfl
theorem updC_off {cf : Nat → Nat → Int} {o i k : Nat} {v : Int} (hk : k ≠ i) : updC cf o i v o k = cf o k := by
  unfold updC
  cases hq : Nat.beq k i with
  | true => exact absurd (Nat.eq_of_beq_eq_true hq) hk
  | false => rw [Bool.and_false]; rfl
theorem pm_okH_c (hok : pm_okH h) {o i : Nat} {v : Int} {sh : pm_SH} (hs : h.1[o]? = some sh) (hv : (pm_lg sh.1 i = true → R64 v) ∧ (pm_lg sh.1 i = false → R32 v)) : pm_okH (h.1, updC h.2 o i v) := by
  have hlt := (List.getElem?_eq_some_iff.mp hs).1
  refine ⟨fun o' sh' hs' => ?_, fun o' ho' i' => ?_⟩
  · have h1 := hok.1 o' sh' hs'
    by_cases e : o' = o
    · subst e
      cases hs.symm.trans hs'
      refine ⟨h1.1, h1.2.1, h1.2.2.1, fun k => ?_⟩
      by_cases ek : k = i
      · subst ek
        show (_ → R64 (updC h.2 o' k v o' k)) ∧ (_ → R32 (updC h.2 o' k v o' k))
        rw [updC_at]
        exact hv
      · show (_ → R64 (updC h.2 o' i v o' k)) ∧ (_ → R32 (updC h.2 o' i v o' k))
        rw [updC_off ek]
        exact h1.2.2.2 k
    · show pm_okS h.1.length sh' (updC h.2 o i v o')
      rw [updC_ne e]
      exact h1
  · show updC h.2 o i v o' i' = 0
    have ho : h.1.length ≤ o' := ho'
    rw [updC_ne (by omega)]
    exact hok.2 o' ho' i'
theorem pm_WD_set {h' : pm_H} {H' : Heap} (hW : pm_WD G base roA z8 as h s H) {o : Nat} {a0 : Nat × ClassId} {sh sh' : pm_SH} (ha0 : as[o]? = some a0) (hs : h.1[o]? = some sh) (hl : h'.1.length = h.1.length) (hne : ∀ j, j ≠ o → h'.1[j]? = h.1[j]? ∧ h'.2 j = h.2 j) (hs' : h'.1[o]? = some sh') (hk : sh'.1 = sh.1) (hok : pm_okH h')
    {E : Nat × va_E} (hE : E = (a0.1, pm_ent (pm_cv (pm_adr roA as) z8) (pm_rf roA as) sh' a0.2 (h'.2 o))) (hP : va_P G pm_cl ((pm_ws roA z8 as h).set o E) H') (hD : va_D (fun q : Nat => base ≤ q) ((pm_ws roA z8 as h).set o E)) : pm_WD G base roA z8 as h' s H' := by
  obtain ⟨w1, w2, w3, w4, tys, w5, w6⟩ := hW
  have e1 := pm_ws_upd (roA := roA) (z8 := z8) (as := as) hl o (fun j hj => by unfold pm_at; rw [(hne j hj).1, (hne j hj).2])
  rw [pm_at_eq ha0 hs', ← hE] at e1
  refine ⟨by rw [hl]; exact w1, hok, by rw [e1]; exact hP, by rw [e1]; exact hD, tys, w5, fun o' a sh2 g1 g2 g3 => ?_⟩
  by_cases eo : o' = o
  · subst eo
    cases hs'.symm.trans g2
    rw [hk]
    exact w6 o' a sh g1 hs (by rw [← hk]; exact g3)
  · exact w6 o' a sh2 g1 (by rw [← (hne o' eo).1]; exact g2) g3
theorem pm_WD_c {H' : Heap} (hW : pm_WD G base roA z8 as h s H) {o i : Nat} {v : Int} {a0 : Nat × ClassId} {sh : pm_SH} (ha0 : as[o]? = some a0) (hs : h.1[o]? = some sh) (hv : (pm_lg sh.1 i = true → R64 v) ∧ (pm_lg sh.1 i = false → R32 v))
    {E : Nat × va_E} (hE : E = (a0.1, pm_ent (pm_cv (pm_adr roA as) z8) (pm_rf roA as) sh a0.2 (updC h.2 o i v o))) (hP : va_P G pm_cl ((pm_ws roA z8 as h).set o E) H') (hD : va_D (fun q : Nat => base ≤ q) ((pm_ws roA z8 as h).set o E)) : pm_WD G base roA z8 as (h.1, updC h.2 o i v) s H' :=
  pm_WD_set hW ha0 hs rfl (fun j hj => ⟨rfl, updC_ne hj⟩) hs rfl (pm_okH_c hW.2.1 hs hv) hE hP hD
theorem pm_sz_set {h : pm_H} {o : Nat} {sh sh' : pm_SH} {cf : Nat → Nat → Int} (hs : h.1[o]? = some sh) (hn : sh'.2.1 = sh.2.1) : pm_sz (h.1.set o sh', cf) = pm_sz h := by
  unfold pm_sz
  show ((h.1.set o sh').map (fun sh => sh.2.1)).sum = _
  congr 1
  rw [List.map_set]
  apply List.ext_getElem?
  intro j
  rw [List.getElem?_set]
  split
  · next e =>
    subst e
    rw [List.getElem?_map, hs]
    split
    · rw [Option.map_some, hn]
    · next q =>
      exact absurd (List.getElem?_eq_some_iff.mp hs).1 (by simpa using q)
  · rfl
theorem pm_okH_r (hok : pm_okH h) {o i : Nat} {r : Int} {kd n : Nat} {rs : List Int} (hs : h.1[o]? = some (kd, n, rs)) (hr : -1 ≤ r ∧ r < (h.1.length : Int)) : pm_okH (h.1.set o (kd, n, rs.set i r), h.2) := by
  have hlt := (List.getElem?_eq_some_iff.mp hs).1
  refine ⟨fun o' sh' hs' => ?_, fun o' ho' i' => hok.2 o' (by simpa using ho') i'⟩
  have hs2 : (h.1.set o (kd, n, rs.set i r))[o']? = some sh' := hs'
  show pm_okS (h.1.set o (kd, n, rs.set i r)).length sh' (h.2 o')
  rw [List.length_set]
  by_cases e : o = o'
  · subst e
    rw [List.getElem?_set_self hlt] at hs2
    cases hs2
    have h1 := hok.1 o _ hs
    refine ⟨h1.1, fun x hx => ?_, fun q => by show (rs.set i r).length = n; rw [List.length_set]; exact h1.2.2.1 q, h1.2.2.2⟩
    rcases List.mem_or_eq_of_mem_set hx with g | g
    · exact h1.2.1 x g
    · rw [g]; exact hr
  · rw [List.getElem?_set_ne e] at hs2
    exact hok.1 o' sh' hs2
theorem pm_WD_r {H' : Heap} (hW : pm_WD G base roA z8 as h s H) {o i : Nat} {r : Int} {a0 : Nat × ClassId} {kd n : Nat} {rs : List Int} (ha0 : as[o]? = some a0) (hs : h.1[o]? = some (kd, n, rs)) (hr : -1 ≤ r ∧ r < (h.1.length : Int))
    {E : Nat × va_E} (hE : E = (a0.1, pm_ent (pm_cv (pm_adr roA as) z8) (pm_rf roA as) (kd, n, rs.set i r) a0.2 (h.2 o))) (hP : va_P G pm_cl ((pm_ws roA z8 as h).set o E) H') (hD : va_D (fun q : Nat => base ≤ q) ((pm_ws roA z8 as h).set o E)) : pm_WD G base roA z8 as (h.1.set o (kd, n, rs.set i r), h.2) s H' := by
  refine pm_WD_set hW (sh' := (kd, n, rs.set i r)) ha0 hs (List.length_set ..) (fun j hj => ⟨?_, rfl⟩) ?_ rfl (pm_okH_r hW.2.1 hs hr) hE hP hD
  · show (h.1.set o _)[j]? = _
    rw [List.getElem?_set_ne (fun q => hj q.symm)]
  · show (h.1.set o _)[o]? = _
    rw [List.getElem?_set_self (List.getElem?_eq_some_iff.mp hs).1]
theorem pm_map_set {g g' : Nat → Value} {n k : Nat} {v : Value} (hk : k < n) (h1 : g' k = v) (h2 : ∀ j, j ≠ k → g' j = g j) : ((List.range n).map g).set k v = (List.range n).map g' := by
  apply List.ext_getElem?
  intro j
  rw [List.getElem?_set]
  by_cases e : k = j
  · subst e
    rw [if_pos rfl, if_pos (by simpa using hk), List.getElem?_map, List.getElem?_range hk, ← h1]
    rfl
  · rw [if_neg e, List.getElem?_map, List.getElem?_map]
    by_cases hj : j < n
    · rw [List.getElem?_range hj]
      exact congrArg some (h2 j (fun q => e q.symm)).symm
    · rw [List.getElem?_eq_none (by simpa using hj)]
      rfl
set_option maxHeartbeats 1000000 in
theorem pm_s_put (hx : p.tables.exec = Jvm.exec) (hb : c.code = cc) {own : Nat} (hown : s.vm.findClass (pm_on own) = some m.cls) (ht : pm_hts args s) (hW : pm_WD G base roA z8 as h s H) (hS0 : va_S (fun q : Nat => base ≤ q) s.heap H locs)
    {idx n a b w : Nat} {v : Int} {ini : Bool} (hini : ini = true → meth.name = "<init>") (hdg : decode cc pc = .ok (.putfield idx, n)) (hE : pm_okE own ini (.putfield idx, n, a, b, v, w) = true) {S S' : List pm_V} {h' : pm_H} (hS : okL h.1.length S) (hr : pm_put h a b S = some (S', h')) :
    pm_goalH p l e R s m args below meth c H locs cells slots Q G base roA z8 as h pc 3 ls S S' h' := by
  unfold pm_put at hr
  split at hr
  case h_2 => cases hr
  next u S0 =>
  obtain ⟨o, T, rfl, h1⟩ := pR_spec hr
  unfold pm_okE at hE
  rw [Bool.and_eq_true] at hE
  have hn : n = 3 := Nat.eq_of_beq_eq_true hE.1
  subst hn
  have hE2 := hE.2
  dsimp only at hE2
  rw [Bool.and_eq_true, Bool.and_eq_true] at hE2
  obtain ⟨ha12, hbf⟩ := pm_nf_lt hE2.1.1
  obtain ⟨q, hq⟩ := pm_cl_get ha12
  rw [hq] at hE2
  obtain ⟨-, Y, g1, g2, g3, g4, g5, g6⟩ := pm_class hq
  obtain ⟨kd, nn, rs, ho, hs, h2⟩ := pm_ob_spec h1
  cases hbk : (Nat.beq kd a && Nat.blt b nn) with
  | false => rw [hbk] at h2; cases h2
  | true =>
    rw [hbk] at h2
    dsimp only [cond_true] at h2
    rw [Bool.and_eq_true] at hbk
    have hkd : kd = a := Nat.eq_of_beq_eq_true hbk.1
    subst hkd
    have hbn : b < nn := Nat.blt_eq.mp hbk.2
    have hbN : b < q.2.2 := by rw [g1]; exact hbf
    obtain ⟨a0, ha0⟩ := hW.as hs
    have hat := pm_at_eq (roA := roA) (z8 := z8) ha0 hs
    rw [pm_ent_obj (by show kd < 20; omega)] at hat
    have hlen : o.toNat < h.1.length := (List.getElem?_eq_some_iff.mp hs).1
    have he := pm_ws_get (roA := roA) (z8 := z8) (as := as) hlen
    rw [hat] at he
    have hokS := hW.2.1.1 o.toNat _ hs
    have hlk := pm_lnk_use (c := .fieldLink (pm_on own) idx q.1 (q.2.1 b).2.1 (q.2.1 b).2.2.1) hE2.1.2 ht (by simp only [pm_lword, hq])
    have hin : ∀ w ∈ u_ws q.1 q.2.1 q.2.2, w.before args s = true := fun w hw => by
      refine ht.1 w (g6 w hw) ?_
      have hlw : w ∈ (List.range q.2.2).map (u_lay q.1 q.2.1) := hw
      obtain ⟨k, -, rfl⟩ := List.mem_map.mp hlw
      unfold u_lay
      split <;> rfl
    have hrow : ∀ (x : Value) (h' : pm_H), narrow (Y b) x = x → fits (Y b) x = true →
        (∀ H', va_P G pm_cl ((pm_ws roA z8 as h).set o.toNat (a0.1, .inr (kd, ((List.range nn).map (pm_fv (pm_cv (pm_adr roA as) z8) (kd, nn, rs) (h.2 o.toNat))).set b x))) H' → va_D (fun q : Nat => base ≤ q) ((pm_ws roA z8 as h).set o.toNat (a0.1, .inr (kd, ((List.range nn).map (pm_fv (pm_cv (pm_adr roA as) z8) (kd, nn, rs) (h.2 o.toNat))).set b x))) → pm_WD G base roA z8 as h' s H') →
        (∀ (H' : Heap) (locs' : List Loc), pm_WD G base roA z8 as h' s H' → va_S (fun q : Nat => base ≤ q) s.heap H' locs' → W p l e R s m args below meth c H' locs' cells slots Q (F0 m (pc + 3) ls (T.map (pm_cv (pm_adr roA as) z8)))) →
        W p l e R s m args below meth c H locs cells slots Q (F0 m pc ls (x :: pm_cv (pm_adr roA as) z8 (Vr o) :: T.map (pm_cv (pm_adr roA as) z8))) := by
      intro x h' hnar hfit hwd K
      rw [pm_cv_r (pm_rok_of ho), pm_adr_at ho ha0]
      obtain ⟨tys, hK, -⟩ := hW.2.2.2.2
      obtain ⟨C, T0, N0⟩ := q
      by_cases hfin : (T0 b).2.2.2 = true
      · have h5 := hE2.2
        dsimp only at h5
        rw [hfin] at h5
        simp only [Bool.not_true, Bool.false_or, Bool.and_eq_true] at h5
        have hao : kd = own := Nat.eq_of_beq_eq_true h5.2
        have hCo : (T0 b).1 = pm_on own := by
          rw [(g2 b hbN).1, ← hao]
          show C = pm_on kd
          have hown2 : ∀ k, k < 12 → ∀ q' : vw_C, pm_nth pm_cl k = some q' → q'.1 = pm_on k := by
            intro k hk q' hq'
            match k, hk with
            | 0, _ => cases hq'; rfl
            | 1, _ => cases hq'; rfl
            | 2, _ => cases hq'; rfl
            | 3, _ => cases hq'; rfl
            | 4, _ => cases hq'; rfl
            | 5, _ => cases hq'; rfl
            | 6, _ => cases hq'; rfl
            | 7, _ => cases hq'; rfl
            | 8, _ => cases hq'; rfl
            | 9, _ => cases hq'; rfl
            | 10, _ => cases hq'; rfl
            | 11, _ => cases hq'; rfl
            | n + 12, hk => exact absurd hk (by omega)
          exact hown2 kd ha12 _ hq
        exact va_putF hx hb (Ts := u_ws C T0 N0) hin (fun w hw => hw) Y (fun k hk => (g2 k hk).2.1) g3 hown hK hW.2.2.1 hW.2.2.2.1 hS0 o.toNat he (by rw [← pm_nth_eq]; exact hq) b hbN hlk (fun x hx => by rw [(g2 b hbN).1] at hx; exact hx) hfin (hini h5.1) hCo (g2 b hbN).2.1 hnar hfit (by simpa using hbn) hdg
          (fun H1 locs1 p1 d1 s1 => K H1 locs1 (hwd H1 p1 d1) s1)
      · exact va_put hx hb (Ts := u_ws C T0 N0) hin (fun w hw => hw) Y (fun k hk => (g2 k hk).2.1) g3 hown hK hW.2.2.1 hW.2.2.2.1 hS0 o.toNat he (by rw [← pm_nth_eq]; exact hq) b hbN hlk (fun x hx => by rw [(g2 b hbN).1] at hx; exact hx) (by simpa using hfin) (g2 b hbN).2.1 hnar hfit (by simpa using hbn) hdg
          (fun H1 locs1 p1 d1 s1 => K H1 locs1 (hwd H1 p1 d1) s1)
    have htok := (g2 b hbN).2.2
    have hlg : pm_lg kd b = Nat.beq (pm_ft kd b) 1 := by
      unfold pm_lg
      rw [show Nat.blt kd 20 = true from Nat.blt_eq.mpr (by omega)]
      rfl
    have hfv : ∀ (v : Int) (j : Nat), j ≠ b → pm_fv (pm_cv (pm_adr roA as) z8) (kd, nn, rs) (updC h.2 o.toNat b v o.toNat) j = pm_fv (pm_cv (pm_adr roA as) z8) (kd, nn, rs) (h.2 o.toNat) j := by
      intro v j hj
      unfold pm_fv
      rw [updC_off hj]
    split at h2
    · next x hft =>
      cases h2
      have hY : Y b = .int := by
        rw [hft] at htok
        cases hyb : Y b <;> rw [hyb] at htok <;> first | rfl | cases htok
      refine pm_wrote rfl rfl hS.tl.tl fun K => hrow (.int (Int32.ofInt x)) (h.1, updC h.2 o.toNat b x) (by rw [hY]; rfl) (by rw [hY]; rfl) (fun H' p1 d1 => ?_) K
      refine pm_WD_c hW ha0 hs (by rw [show pm_lg (kd, nn, rs).1 b = pm_lg kd b from rfl, hlg, hft]; exact ⟨(fun q => by cases q), fun _ => hS.hd⟩) ?_ p1 d1
      rw [pm_ent_obj (by show kd < 20; omega)]
      congr 3
      exact pm_map_set hbn (by unfold pm_fv; dsimp only; rw [hft, updC_at]; rfl) (hfv x)
    · next x hft =>
      split at h2
      case isFalse => cases h2
      next hbit =>
      cases h2
      have hY : Y b = .boolean := by
        rw [hft] at htok
        cases hyb : Y b <;> rw [hyb] at htok <;> first | rfl | cases htok
      refine pm_wrote rfl rfl hS.tl.tl fun K => hrow (.int (Int32.ofInt x)) (h.1, updC h.2 o.toNat b x) (by rw [hY]; rcases hbit with rfl | rfl <;> rfl) (by rw [hY]; rcases hbit with rfl | rfl <;> rfl) (fun H' p1 d1 => ?_) K
      refine pm_WD_c hW ha0 hs (by rw [show pm_lg (kd, nn, rs).1 b = pm_lg kd b from rfl, hlg, hft]; exact ⟨(fun q => by cases q), fun _ => hS.hd⟩) ?_ p1 d1
      rw [pm_ent_obj (by show kd < 20; omega)]
      congr 3
      exact pm_map_set hbn (by unfold pm_fv; dsimp only; rw [hft, updC_at]; rfl) (hfv x)
    · next x hft =>
      cases h2
      have hY : Y b = .long := by
        rw [hft] at htok
        cases hyb : Y b <;> rw [hyb] at htok <;> first | rfl | cases htok
      refine pm_wrote rfl rfl hS.tl.tl fun K => hrow (.long (Int64.ofInt x)) (h.1, updC h.2 o.toNat b x) (by rw [hY]; rfl) (by rw [hY]; rfl) (fun H' p1 d1 => ?_) K
      refine pm_WD_c hW ha0 hs (by rw [show pm_lg (kd, nn, rs).1 b = pm_lg kd b from rfl, hlg, hft]; exact ⟨fun _ => hS.hd, (fun q => by cases q)⟩) ?_ p1 d1
      rw [pm_ent_obj (by show kd < 20; omega)]
      congr 3
      exact pm_map_set hbn (by unfold pm_fv; dsimp only; rw [hft, updC_at]; rfl) (hfv x)
    · next r hft =>
      split at h2
      · cases h2
      · next hr0 =>
        rw [pm_set_eq, pm_set_eq] at h2
        cases h2
        have hbr : b < rs.length := by rw [hokS.2.2.1 (Or.inl (by show kd < 20; omega))]; exact hbn
        have hcr : pm_cv (pm_adr roA as) z8 (Vr r) = .ref (pm_adr roA as r) := pm_cv_r (pm_rok_of hr0)
        have hro : -1 ≤ r ∧ r < (h.1.length : Int) := ⟨by omega, hS.hd⟩
        have hfit : narrow (Y b) (.ref (pm_adr roA as r)) = .ref (pm_adr roA as r) ∧ fits (Y b) (.ref (pm_adr roA as r)) = true := by
          rw [hft] at htok
          cases hyb : Y b <;> rw [hyb] at htok <;> first | exact ⟨rfl, rfl⟩ | cases htok
        refine pm_wrote (List.length_set ..) (pm_sz_set hs rfl) hS.tl.tl fun K => ?_
        rw [List.map_cons, hcr]
        refine hrow (.ref (pm_adr roA as r)) (h.1.set o.toNat (kd, nn, rs.set b r), h.2) hfit.1 hfit.2 (fun H' p1 d1 => ?_) K
        refine pm_WD_r hW ha0 hs hro ?_ p1 d1
        rw [pm_ent_obj (by show kd < 20; omega)]
        congr 3
        refine pm_map_set hbn (by unfold pm_fv; dsimp only; rw [hft, List.getElem?_set_self hbr]; exact hcr) (fun j hj => ?_)
        unfold pm_fv
        dsimp only
        rw [List.getElem?_set_ne (fun q => hj q.symm)]
    · cases h2
end PMH2
