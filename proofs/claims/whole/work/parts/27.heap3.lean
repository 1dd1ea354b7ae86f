section PMH3
variable {p : Program} {l : Launch} {e : Env} {R : Room} {s : State} {m : MethodId} {args : Array Value} {below : List Frame} {meth : Method} {c : Code} {H : Heap} {locs : List Loc} {cells slots : Nat} {Q : State → Prop}
variable {cc : ByteArray} {pc : Nat} {ls : Array Slot} {G : va_G} {base : Nat} {roA : Nat → Nat} {z8 : Value} {as : List (Nat × ClassId)} {h : pm_H} {X : List Int}
theorem pm_getD {l : List Int} {i : Nat} {x : Int} (h : pm_nth l i = some x) : l.getD i 0 = x := by
  rw [pm_nth_eq] at h
  rw [List.getD_eq_getElem?_getD, h]
  rfl
theorem pm_nth_lt {α : Type} {l : List α} {i : Nat} {x : α} (h : pm_nth l i = some x) : i < l.length := by
  rw [pm_nth_eq] at h
  exact (List.getElem?_eq_some_iff.mp h).1
/-- an array of the heap: its cell, its class -/
theorem pm_arr (hW : pm_WD G base roA z8 as h s H) {o : Int} (ho : ¬ o < 0) {kd n : Nat} {rs : List Int} (hs : h.1[o.toNat]? = some (kd, n, rs)) (h20 : 20 ≤ kd) : ∃ (a0 : Nat × ClassId) (tys : List (ClassId × FieldType)) (t0 : Nat), as[o.toNat]? = some a0 ∧ pm_cv (pm_adr roA as) z8 (Vr o) = .ref a0.1 ∧
    (pm_ws roA z8 as h)[o.toNat]? = some (a0.1, .inl (a0.2, n, pm_av (pm_rf roA as) (kd, n, rs) (h.2 o.toNat))) ∧ va_K G pm_cl tys s ∧ tys[t0]? = some (a0.2, pm_aty kd) := by
  obtain ⟨a0, ha0⟩ := hW.as hs
  have hat := pm_at_eq (roA := roA) (z8 := z8) ha0 hs
  rw [pm_ent_arr h20] at hat
  have he := pm_ws_get (roA := roA) (z8 := z8) (as := as) (List.getElem?_eq_some_iff.mp hs).1
  rw [hat] at he
  obtain ⟨-, -, -, -, tys, hK, ht⟩ := hW
  obtain ⟨t0, h0⟩ := List.getElem?_of_mem (ht o.toNat a0 _ ha0 hs h20)
  exact ⟨a0, tys, t0, ha0, by rw [pm_cv_r (pm_rok_of ho), pm_adr_at ho ha0], he, hK, h0⟩
theorem pm_and {α : Type} {b : Bool} {x r : Option α} (h : (bif b then x else none) = r) (hr : r ≠ none) : b = true ∧ x = r := by
  cases b
  · exact absurd h.symm hr
  · exact ⟨rfl, h⟩
theorem pm_R32_at (hW : pm_WD G base roA z8 as h s H) {o : Nat} {sh : pm_SH} (hs : h.1[o]? = some sh) (hl : ∀ i, pm_lg sh.1 i = false) (i : Nat) : R32 (h.2 o i) := ((hW.2.1.1 o sh hs).2.2.2 i).2 (hl i)
theorem pm_R64_at (hW : pm_WD G base roA z8 as h s H) {o : Nat} {sh : pm_SH} (hs : h.1[o]? = some sh) (hl : ∀ i, pm_lg sh.1 i = true) (i : Nat) : R64 (h.2 o i) := ((hW.2.1.1 o sh hs).2.2.2 i).1 (hl i)
theorem pm_own_r : ∀ x ∈ pm_own, R32 x := by
  have e : pm_own.all pm_r32 = true := by decide +kernel
  exact fun x hx => pm_r32_spec (List.all_eq_true.mp e x hx)
theorem pm_most_r : ∀ x ∈ pm_most, R32 x := by
  have e : pm_most.all pm_r32 = true := by decide +kernel
  exact fun x hx => pm_r32_spec (List.all_eq_true.mp e x hx)
theorem pm_shift_r : ∀ x ∈ pm_shift, R32 x := by
  have e : pm_shift.all pm_r32 = true := by decide +kernel
  exact fun x hx => pm_r32_spec (List.all_eq_true.mp e x hx)
theorem pm_mask_r : ∀ x ∈ pm_mask, R32 x := by
  have e : pm_mask.all pm_r32 = true := by decide +kernel
  exact fun x hx => pm_r32_spec (List.all_eq_true.mp e x hx)
theorem pm_mem {l : List Int} {i : Nat} {x : Int} (h : pm_nth l i = some x) : x ∈ l := by
  rw [pm_nth_eq] at h
  exact List.mem_of_getElem? h
set_option maxHeartbeats 1000000 in
theorem pm_s_ild (hx : p.tables.exec = Jvm.exec) (hb : c.code = cc) (hW : pm_WD G base roA z8 as h s H) (hS0 : va_S (fun q : Nat => base ≤ q) s.heap H locs) (hR : pm_RO base roA z8 X s s.heap)
    (hdg : decode cc pc = .ok (.iaload, 1)) {S S' : List pm_V} {h' : pm_H} (hS : okL h.1.length S) (hr : pm_ild X h S = some (S', h')) :
    pm_goalH p l e R s m args below meth c H locs cells slots Q G base roA z8 as h pc 1 ls S S' h' := by
  obtain ⟨i, S1, rfl, h1⟩ := pI_spec hr
  obtain ⟨o, T, rfl, h2⟩ := pR_spec h1
  have hi : R32 i := hS.hd
  split at h2
  · cases h2
  next hi0 =>
  split at h2
  · next ho =>
    split at h2
    case h_2 => cases h2
    next l0 hl0 =>
    split at h2
    case h_2 => cases h2
    next x hxx =>
    cases h2
    have hlt := pm_nth_lt hxx
    unfold pm_ro at hl0
    obtain ⟨⟨r1, r2, r3, r4⟩, ⟨-, q1⟩, ⟨-, q2⟩, ⟨-, q3⟩, -⟩ := hR
    split at hl0
    · next e1 =>
      subst e1
      cases hl0
      refine pm_same hW hS0 (okL.cons (r3 x (pm_mem hxx)) hS.tl.tl) fun K => ?_
      obtain ⟨scr, z1, -⟩ := id r1
      refine va_sld hx hb r1 (Array.getElem?_eq_some_iff.mp z1).1 (by omega) hS0 (pn_in hi (by omega) hlt) hdg ?_
      rw [pn_clamp hi, pm_getD hxx]
      exact K
    · split at hl0
      · next e1 =>
        subst e1
        cases hl0
        refine pm_same hW hS0 (okL.cons (pm_most_r x (pm_mem hxx)) hS.tl.tl) fun K => ?_
        exact va_ti hx hb q1 hS0 (pn_in hi (by omega) hlt) (v := .int (Int32.ofInt x)) (by rw [pn_clamp hi, pm_getD hxx]) hdg K
      · split at hl0
        · next e1 =>
          subst e1
          cases hl0
          refine pm_same hW hS0 (okL.cons (pm_shift_r x (pm_mem hxx)) hS.tl.tl) fun K => ?_
          exact va_ti hx hb q2 hS0 (pn_in hi (by omega) hlt) (v := .int (Int32.ofInt x)) (by rw [pn_clamp hi, pm_getD hxx]) hdg K
        · split at hl0
          · next e1 =>
            subst e1
            cases hl0
            refine pm_same hW hS0 (okL.cons (pm_mask_r x (pm_mem hxx)) hS.tl.tl) fun K => ?_
            exact va_ti hx hb q3 hS0 (pn_in hi (by omega) hlt) (v := .int (Int32.ofInt x)) (by rw [pn_clamp hi, pm_getD hxx]) hdg K
          · cases hl0
  · next ho =>
    obtain ⟨kd, n, rs, -, hs, h3⟩ := pm_ob_spec h2
    obtain ⟨hk, h4⟩ := pm_bif h3
    cases h4
    rw [Bool.and_eq_true] at hk
    have hkd := Nat.eq_of_beq_eq_true hk.1
    subst hkd
    obtain ⟨a0, tys, t0, ha0, hcv, he, hK, ht0⟩ := pm_arr hW ho hs (by omega)
    refine pm_same hW hS0 (okL.cons (pm_R32_at hW hs (fun _ => rfl) _) hS.tl.tl) fun K => ?_
    rw [pm_cons2, hcv]
    refine va_iald hx hb hK hW.2.2.1 o.toNat t0 he ht0 (pn_in hi (by omega) (Nat.blt_eq.mp hk.2)) hdg ?_
    rw [pn_clamp hi]
    exact K
set_option maxHeartbeats 1000000 in
theorem pm_s_bld (hx : p.tables.exec = Jvm.exec) (hb : c.code = cc) (hW : pm_WD G base roA z8 as h s H) (hS0 : va_S (fun q : Nat => base ≤ q) s.heap H locs) (hR : pm_RO base roA z8 X s s.heap)
    (hdg : decode cc pc = .ok (.baload, 1)) {S S' : List pm_V} {h' : pm_H} (hS : okL h.1.length S) (hr : pm_bld h S = some (S', h')) :
    pm_goalH p l e R s m args below meth c H locs cells slots Q G base roA z8 as h pc 1 ls S S' h' := by
  obtain ⟨i, S1, rfl, h1⟩ := pI_spec hr
  obtain ⟨o, T, rfl, h2⟩ := pR_spec h1
  have hi : R32 i := hS.hd
  split at h2
  · cases h2
  next hi0 =>
  split at h2
  · next ho =>
    split at h2
    case isFalse => cases h2
    next e1 =>
    subst e1
    split at h2
    case h_2 => cases h2
    next x hxx =>
    cases h2
    obtain ⟨-, -, -, -, -, -, -, -, -, -, r11⟩ := hR
    refine pm_same hW hS0 (okL.cons (pm_own_r x (pm_mem hxx)) hS.tl.tl) fun K => ?_
    exact va_tb hx hb r11 hS0 (pn_in hi (by omega) (pm_nth_lt hxx)) (v := .int (Int32.ofInt x)) (by rw [pn_clamp hi, pm_getD hxx]) hdg K
  · next ho =>
    obtain ⟨kd, n, rs, -, hs, h3⟩ := pm_ob_spec h2
    obtain ⟨hk, h4⟩ := pm_bif h3
    cases h4
    rw [Bool.and_eq_true, Bool.or_eq_true] at hk
    rcases hk.1 with q | q
    · have hkd := Nat.eq_of_beq_eq_true q
      subst hkd
      obtain ⟨a0, tys, t0, ha0, hcv, he, hK, ht0⟩ := pm_arr hW ho hs (by omega)
      refine pm_same hW hS0 (okL.cons (pm_R32_at hW hs (fun _ => rfl) _) hS.tl.tl) fun K => ?_
      rw [pm_cons2, hcv]
      refine va_bald hx hb hK hW.2.2.1 o.toNat t0 he ht0 (pn_in hi (by omega) (Nat.blt_eq.mp hk.2)) hdg ?_
      rw [pn_clamp hi]
      exact K
    · have hkd := Nat.eq_of_beq_eq_true q
      subst hkd
      obtain ⟨a0, tys, t0, ha0, hcv, he, hK, ht0⟩ := pm_arr hW ho hs (by omega)
      refine pm_same hW hS0 (okL.cons (pm_R32_at hW hs (fun _ => rfl) _) hS.tl.tl) fun K => ?_
      rw [pm_cons2, hcv]
      refine va_zald hx hb hK hW.2.2.1 o.toNat t0 he ht0 (pn_in hi (by omega) (Nat.blt_eq.mp hk.2)) hdg ?_
      rw [pn_clamp hi]
      exact K
theorem pm_s_lld (hx : p.tables.exec = Jvm.exec) (hb : c.code = cc) (hW : pm_WD G base roA z8 as h s H) (hS0 : va_S (fun q : Nat => base ≤ q) s.heap H locs)
    (hdg : decode cc pc = .ok (.laload, 1)) {S S' : List pm_V} {h' : pm_H} (hS : okL h.1.length S) (hr : pm_lld h S = some (S', h')) :
    pm_goalH p l e R s m args below meth c H locs cells slots Q G base roA z8 as h pc 1 ls S S' h' := by
  obtain ⟨i, S1, rfl, h1⟩ := pI_spec hr
  obtain ⟨o, T, rfl, h2⟩ := pR_spec h1
  have hi : R32 i := hS.hd
  split at h2
  · cases h2
  next hi0 =>
  obtain ⟨kd, n, rs, ho, hs, h3⟩ := pm_ob_spec h2
  obtain ⟨hk, h4⟩ := pm_bif h3
  cases h4
  rw [Bool.and_eq_true] at hk
  have hkd := Nat.eq_of_beq_eq_true hk.1
  subst hkd
  obtain ⟨a0, tys, t0, ha0, hcv, he, hK, ht0⟩ := pm_arr hW ho hs (by omega)
  refine pm_same hW hS0 (okL.cons (pm_R64_at hW hs (fun _ => rfl) _) hS.tl.tl) fun K => ?_
  rw [pm_cons2, hcv]
  refine va_lald hx hb hK hW.2.2.1 o.toNat t0 he ht0 (pn_in hi (by omega) (Nat.blt_eq.mp hk.2)) hdg ?_
  rw [pn_clamp hi]
  exact K
theorem pm_s_ald (hx : p.tables.exec = Jvm.exec) (hb : c.code = cc) (hW : pm_WD G base roA z8 as h s H) (hS0 : va_S (fun q : Nat => base ≤ q) s.heap H locs)
    (hdg : decode cc pc = .ok (.aaload, 1)) {S S' : List pm_V} {h' : pm_H} (hS : okL h.1.length S) (hr : pm_ald h S = some (S', h')) :
    pm_goalH p l e R s m args below meth c H locs cells slots Q G base roA z8 as h pc 1 ls S S' h' := by
  obtain ⟨i, S1, rfl, h1⟩ := pI_spec hr
  obtain ⟨o, T, rfl, h2⟩ := pR_spec h1
  have hi : R32 i := hS.hd
  split at h2
  · cases h2
  next hi0 =>
  obtain ⟨kd, n, rs, ho, hs, h3⟩ := pm_ob_spec h2
  obtain ⟨hk, h4⟩ := pm_and h3 (by simp)
  split at h4
  case h_2 => cases h4
  next r hrr =>
  cases h4
  rw [Bool.and_eq_true, Bool.or_eq_true] at hk
  have hrs := (hW.2.1.1 _ _ hs).2.1 r (by rw [pm_nth_eq] at hrr; exact List.mem_of_getElem? hrr)
  rw [pm_nth_eq] at hrr
  have hfin : ∀ K : W p l e R s m args below meth c H locs cells slots Q (F0 m (pc + 1) ls ((Vr r :: T).map (pm_cv (pm_adr roA as) z8))), W p l e R s m args below meth c H locs cells slots Q (F0 m (pc + 1) ls (va_rf (pm_rf roA as ((rs[i.toNat]?).getD (-1))) :: T.map (pm_cv (pm_adr roA as) z8))) := by
    intro K
    rw [hrr]
    rw [List.map_cons, pm_cvr hrs.1] at K
    exact K
  rcases hk.1 with q | q
  · have hkd := Nat.eq_of_beq_eq_true q
    subst hkd
    obtain ⟨a0, tys, t0, ha0, hcv, he, hK, ht0⟩ := pm_arr hW ho hs (by omega)
    refine pm_same hW hS0 (okL.cons hrs.2 hS.tl.tl) fun K => ?_
    rw [pm_cons2, hcv]
    refine va_aldq hx hb hK hW.2.2.1 o.toNat t0 he ht0 (pn_in hi (by omega) (Nat.blt_eq.mp hk.2)) hdg ?_
    rw [pn_clamp hi]
    exact hfin K
  · have hkd := Nat.eq_of_beq_eq_true q
    subst hkd
    obtain ⟨a0, tys, t0, ha0, hcv, he, hK, ht0⟩ := pm_arr hW ho hs (by omega)
    refine pm_same hW hS0 (okL.cons hrs.2 hS.tl.tl) fun K => ?_
    rw [pm_cons2, hcv]
    refine va_aldq hx hb hK hW.2.2.1 o.toNat t0 he ht0 (pn_in hi (by omega) (Nat.blt_eq.mp hk.2)) hdg ?_
    rw [pn_clamp hi]
    exact hfin K
end PMH3
