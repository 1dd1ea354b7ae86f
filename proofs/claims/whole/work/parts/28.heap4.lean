section PMH4
variable {p : Program} {l : Launch} {e : Env} {R : Room} {s : State} {m : MethodId} {args : Array Value} {below : List Frame} {meth : Method} {c : Code} {H : Heap} {locs : List Loc} {cells slots : Nat} {Q : State → Prop}
variable {cc : ByteArray} {pc : Nat} {ls : Array Slot} {G : va_G} {base : Nat} {roA : Nat → Nat} {z8 : Value} {as : List (Nat × ClassId)} {h : pm_H} {X : List Int}
theorem pm_av_upd32 {rf : Int → Option Nat} {kd n : Nat} {rs : List Int} {cf : Nat → Nat → Int} {o i : Nat} {x : Int} (hk : kd = 20 ∨ kd = 21 ∨ kd = 22) : pm_av rf (kd, n, rs) (updC cf o i x o) = .inl (upd (fun j => Int32.ofInt (cf o j)) i (Int32.ofInt x)) := by
  have e : (fun j => Int32.ofInt (updC cf o i x o j)) = upd (fun j => Int32.ofInt (cf o j)) i (Int32.ofInt x) := by
    funext j
    unfold upd
    by_cases hj : j = i
    · subst hj
      rw [updC_at, if_pos rfl]
    · rw [updC_off hj, if_neg hj]
  rcases hk with rfl | rfl | rfl <;> (show Sum.inl (fun j => Int32.ofInt (updC cf o i x o j)) = _; rw [e])
theorem pm_s_ist (hx : p.tables.exec = Jvm.exec) (hb : c.code = cc) (hW : pm_WD G base roA z8 as h s H) (hS0 : va_S (fun q : Nat => base ≤ q) s.heap H locs)
    (hdg : decode cc pc = .ok (.iastore, 1)) {S S' : List pm_V} {h' : pm_H} (hS : okL h.1.length S) (hr : pm_ist h S = some (S', h')) :
    pm_goalH p l e R s m args below meth c H locs cells slots Q G base roA z8 as h pc 1 ls S S' h' := by
  obtain ⟨x, S2, rfl, h0⟩ := pI_spec hr
  obtain ⟨i, S1, rfl, h1⟩ := pI_spec h0
  obtain ⟨o, T, rfl, h2⟩ := pR_spec h1
  have hi : R32 i := hS.tl.hd
  split at h2
  · cases h2
  next hi0 =>
  obtain ⟨kd, n, rs, ho, hs, h3⟩ := pm_ob_spec h2
  obtain ⟨hk, h4⟩ := pm_bif h3
  cases h4
  rw [Bool.and_eq_true] at hk
  have hkd := Nat.eq_of_beq_eq_true hk.1
  subst hkd
  obtain ⟨a0, tys, t0, ha0, hcv, he, hK, ht0⟩ := pm_arr hW ho hs (by omega)
  refine pm_wrote rfl rfl hS.tl.tl.tl fun K => ?_
  rw [List.map_cons, pm_cons2, hcv]
  refine va_iast hx hb hK hW.2.2.1 hW.2.2.2.1 hS0 o.toNat t0 he ht0 (pn_in hi (by omega) (Nat.blt_eq.mp hk.2)) hdg fun H1 locs1 p1 d1 s1 => K H1 locs1 ?_ s1
  rw [pn_clamp hi] at p1 d1
  refine pm_WD_c hW ha0 hs ⟨(fun q => by cases q), fun _ => hS.hd⟩ ?_ p1 d1
  rw [pm_ent_arr (by show 20 ≤ 20; omega), pm_av_upd32 (Or.inl rfl)]
theorem pm_s_bst (hx : p.tables.exec = Jvm.exec) (hb : c.code = cc) (hW : pm_WD G base roA z8 as h s H) (hS0 : va_S (fun q : Nat => base ≤ q) s.heap H locs)
    (hdg : decode cc pc = .ok (.bastore, 1)) {S S' : List pm_V} {h' : pm_H} (hS : okL h.1.length S) (hr : pm_bst h S = some (S', h')) :
    pm_goalH p l e R s m args below meth c H locs cells slots Q G base roA z8 as h pc 1 ls S S' h' := by
  obtain ⟨x, S2, rfl, h0⟩ := pI_spec hr
  obtain ⟨i, S1, rfl, h1⟩ := pI_spec h0
  obtain ⟨o, T, rfl, h2⟩ := pR_spec h1
  have hi : R32 i := hS.tl.hd
  split at h2
  · cases h2
  next hi0 =>
  obtain ⟨kd, n, rs, ho, hs, h3⟩ := pm_ob_spec h2
  obtain ⟨hk, h4⟩ := pm_and h3 (by simp)
  have hin := pn_in hi (by omega) (Nat.blt_eq.mp hk)
  split at h4
  · split at h4
    case isFalse => cases h4
    next hxr =>
    cases h4
    obtain ⟨a0, tys, t0, ha0, hcv, he, hK, ht0⟩ := pm_arr hW ho hs (by omega)
    refine pm_wrote rfl rfl hS.tl.tl.tl fun K => ?_
    rw [List.map_cons, pm_cons2, hcv]
    refine va_bast hx hb hK hW.2.2.1 hW.2.2.2.1 hS0 o.toNat t0 he ht0 hin hdg fun H1 locs1 p1 d1 s1 => K H1 locs1 ?_ s1
    have hn : vp_nar .byte (Int32.ofInt x) = Int32.ofInt x := by
      show (Int32.ofInt x).toInt8.toInt32 = Int32.ofInt x
      rw [pn_i2b hS.hd]
      congr 1
      unfold w8
      omega
    rw [pn_clamp hi, hn] at p1 d1
    refine pm_WD_c hW ha0 hs ⟨(fun q => by cases q), fun _ => hS.hd⟩ ?_ p1 d1
    rw [pm_ent_arr (by show 20 ≤ 21; omega), pm_av_upd32 (Or.inr (Or.inl rfl))]
  · split at h4
    case isFalse => cases h4
    next hxr =>
    cases h4
    obtain ⟨a0, tys, t0, ha0, hcv, he, hK, ht0⟩ := pm_arr hW ho hs (by omega)
    refine pm_wrote rfl rfl hS.tl.tl.tl fun K => ?_
    rw [List.map_cons, pm_cons2, hcv]
    refine va_zast hx hb hK hW.2.2.1 hW.2.2.2.1 hS0 o.toNat t0 he ht0 hin hdg fun H1 locs1 p1 d1 s1 => K H1 locs1 ?_ s1
    have hn : vp_nar .boolean (Int32.ofInt x) = Int32.ofInt x := by
      rcases hxr with rfl | rfl <;> rfl
    rw [pn_clamp hi, hn] at p1 d1
    refine pm_WD_c hW ha0 hs ⟨(fun q => by cases q), fun _ => hS.hd⟩ ?_ p1 d1
    rw [pm_ent_arr (by show 20 ≤ 22; omega), pm_av_upd32 (Or.inr (Or.inr rfl))]
  · cases h4
theorem pm_s_lst (hx : p.tables.exec = Jvm.exec) (hb : c.code = cc) (hW : pm_WD G base roA z8 as h s H) (hS0 : va_S (fun q : Nat => base ≤ q) s.heap H locs)
    (hdg : decode cc pc = .ok (.lastore, 1)) {S S' : List pm_V} {h' : pm_H} (hS : okL h.1.length S) (hr : pm_lst h S = some (S', h')) :
    pm_goalH p l e R s m args below meth c H locs cells slots Q G base roA z8 as h pc 1 ls S S' h' := by
  obtain ⟨x, S2, rfl, h0⟩ := pL_spec hr
  obtain ⟨i, S1, rfl, h1⟩ := pI_spec h0
  obtain ⟨o, T, rfl, h2⟩ := pR_spec h1
  have hi : R32 i := hS.tl.hd
  split at h2
  · cases h2
  next hi0 =>
  obtain ⟨kd, n, rs, ho, hs, h3⟩ := pm_ob_spec h2
  obtain ⟨hk, h4⟩ := pm_bif h3
  cases h4
  rw [Bool.and_eq_true] at hk
  have hkd := Nat.eq_of_beq_eq_true hk.1
  subst hkd
  obtain ⟨a0, tys, t0, ha0, hcv, he, hK, ht0⟩ := pm_arr hW ho hs (by omega)
  refine pm_wrote rfl rfl hS.tl.tl.tl fun K => ?_
  rw [List.map_cons, pm_cons2, hcv]
  refine va_last hx hb hK hW.2.2.1 hW.2.2.2.1 hS0 o.toNat t0 he ht0 (pn_in hi (by omega) (Nat.blt_eq.mp hk.2)) hdg fun H1 locs1 p1 d1 s1 => K H1 locs1 ?_ s1
  rw [pn_clamp hi] at p1 d1
  refine pm_WD_c hW ha0 hs ⟨(fun _ => hS.hd), (fun q => by cases q)⟩ ?_ p1 d1
  rw [pm_ent_arr (by show 20 ≤ 23; omega)]
  have e1 : pm_av (pm_rf roA as) (23, n, rs) (updC h.2 o.toNat i.toNat x o.toNat) = .inr (.inl (vp_updL (fun j => Int64.ofInt (h.2 o.toNat j)) i.toNat (Int64.ofInt x))) := by
    show Sum.inr (Sum.inl (fun j => Int64.ofInt (updC h.2 o.toNat i.toNat x o.toNat j))) = _
    congr 2
    funext j
    unfold vp_updL
    by_cases hj : j = i.toNat
    · subst hj
      rw [updC_at, if_pos rfl]
    · rw [updC_off hj, if_neg hj]
  rw [e1]
theorem pm_s_ast (hx : p.tables.exec = Jvm.exec) (hb : c.code = cc) (hW : pm_WD G base roA z8 as h s H) (hS0 : va_S (fun q : Nat => base ≤ q) s.heap H locs)
    (hdg : decode cc pc = .ok (.aastore, 1)) {S S' : List pm_V} {h' : pm_H} (hS : okL h.1.length S) (hr : pm_ast h S = some (S', h')) :
    pm_goalH p l e R s m args below meth c H locs cells slots Q G base roA z8 as h pc 1 ls S S' h' := by
  obtain ⟨r, S2, rfl, h0⟩ := pR_spec hr
  obtain ⟨i, S1, rfl, h1⟩ := pI_spec h0
  obtain ⟨o, T, rfl, h2⟩ := pR_spec h1
  have hi : R32 i := hS.tl.hd
  split at h2
  · cases h2
  next hi0 =>
  obtain ⟨kd, n, rs, ho, hs, h3⟩ := pm_ob_spec h2
  obtain ⟨kr, nr, rr, hro, hsr, h3⟩ := pm_ob_spec h3
  obtain ⟨hk, h4⟩ := pm_bif h3
  rw [pm_set_eq, pm_set_eq] at h4
  cases h4
  rw [Bool.and_eq_true, Bool.or_eq_true] at hk
  have hin := pn_in hi (by omega) (Nat.blt_eq.mp hk.1)
  have hlt := Nat.blt_eq.mp hk.1
  have hro2 : -1 ≤ r ∧ r < (h.1.length : Int) := ⟨by omega, hS.hd⟩
  have key : ∀ (C : String) (ci : Nat), 24 ≤ kd → ci < 20 → pm_aty kd = .object C → (∃ q : vw_C, pm_cl[ci]? = some q ∧ q.1 = C) → kr = ci → pm_goalH p l e R s m args below meth c H locs cells slots Q G base roA z8 as h pc 1 ls (Vr r :: Vi i :: Vr o :: S') S' (h.1.set o.toNat (kd, n, rs.set i.toNat r), h.2) := by
    intro C ci hkd hci hty hq hkr
    subst hkr
    obtain ⟨q, hq1, hq2⟩ := hq
    subst hq2
    obtain ⟨a0, tys, t0, ha0, hcv, he, hK, ht0⟩ := pm_arr hW ho hs (by omega)
    obtain ⟨ar, har⟩ := hW.as hsr
    have hat := pm_at_eq (roA := roA) (z8 := z8) har hsr
    rw [pm_ent_obj (by show kr < 20; omega)] at hat
    have her := pm_ws_get (roA := roA) (z8 := z8) (as := as) (List.getElem?_eq_some_iff.mp hsr).1
    rw [hat] at her
    have hcr : pm_cv (pm_adr roA as) z8 (Vr r) = .ref ar.1 := by rw [pm_cv_r (pm_rok_of hro), pm_adr_at hro har]
    have hrn : rs.length = n := (hW.2.1.1 _ _ hs).2.2.1 (Or.inr hkd)
    refine pm_wrote (List.length_set ..) (pm_sz_set hs rfl) hS.tl.tl.tl fun K => ?_
    rw [List.map_cons, pm_cons2, hcv, hcr]
    have hav : pm_av (pm_rf roA as) (kd, n, rs) (h.2 o.toNat) = .inr (.inr (.inr (.inr (fun j => pm_rf roA as ((rs[j]?).getD (-1)))))) := by
      unfold pm_av
      rw [if_neg (by show ¬ kd = 23; omega), if_pos (by show 24 ≤ kd; omega)]
    have hav2 : pm_av (pm_rf roA as) (kd, n, rs.set i.toNat r) (h.2 o.toNat) = .inr (.inr (.inr (.inr (va_up (fun j => pm_rf roA as ((rs[j]?).getD (-1))) i.toNat (some ar.1))))) := by
      unfold pm_av
      rw [if_neg (by show ¬ kd = 23; omega), if_pos (by show 24 ≤ kd; omega)]
      congr 4
      funext j
      unfold va_up
      by_cases hj : j = i.toNat
      · subst hj
        rw [if_pos rfl, List.getElem?_set_self (by omega)]
        show pm_rf roA as r = _
        have e1 := pm_cvr (roA := roA) (z8 := z8) (as := as) hro2.1
        rw [hcr] at e1
        cases hq : pm_rf roA as r with
        | none => rw [hq] at e1; cases e1
        | some y => rw [hq] at e1; cases e1; rfl
      · rw [if_neg hj, List.getElem?_set_ne (fun q => hj q.symm)]
    rw [hav] at he
    rw [hty] at ht0
    refine va_astq hx hb hK hW.2.2.1 hW.2.2.2.1 hS0 o.toNat t0 r.toNat kr he ht0 her hq1 hin hdg fun H1 locs1 p1 d1 s1 => K H1 locs1 ?_ s1
    rw [pn_clamp hi] at p1 d1
    refine pm_WD_r hW ha0 hs hro2 ?_ p1 d1
    rw [pm_ent_arr (by show 20 ≤ kd; omega), hav2]
  rcases hk.2 with q | q <;> rw [Bool.and_eq_true] at q
  · have e1 := Nat.eq_of_beq_eq_true q.1
    have e2 := Nat.eq_of_beq_eq_true q.2
    subst e1
    exact key "SnowHouse$Rule" 7 (by omega) (by omega) rfl ⟨_, rfl, rfl⟩ e2
  · have e1 := Nat.eq_of_beq_eq_true q.1
    have e2 := Nat.eq_of_beq_eq_true q.2
    subst e1
    exact key "SnowHouse$Claim" 2 (by omega) (by omega) rfl ⟨_, rfl, rfl⟩ e2
theorem pn_nat (n : Nat) : Int32.ofInt (n : Int) = Int32.ofNat n := Int32.ofInt_eq_ofNat
theorem pm_s_len (hx : p.tables.exec = Jvm.exec) (hb : c.code = cc) (hW : pm_WD G base roA z8 as h s H) (hS0 : va_S (fun q : Nat => base ≤ q) s.heap H locs) (hR : pm_RO base roA z8 X s s.heap)
    (hdg : decode cc pc = .ok (.arraylength, 1)) {S S' : List pm_V} {h' : pm_H} (hS : okL h.1.length S) (hr : pm_len X h S = some (S', h')) :
    pm_goalH p l e R s m args below meth c H locs cells slots Q G base roA z8 as h pc 1 ls S S' h' := by
  obtain ⟨o, T, rfl, h2⟩ := pR_spec hr
  split at h2
  · next e1 =>
    subst e1
    cases h2
    obtain ⟨-, -, -, -, -, -, -, -, -, -, r11⟩ := hR
    refine pm_same hW hS0 (okL.cons (by show R32 124; unfold R32; omega) hS.tl) fun K => ?_
    exact va_tlen hx hb r11 hS0 (v := Int32.ofInt 124) rfl hdg K
  · split at h2
    · split at h2
      case h_2 => cases h2
      next ho l0 hl0 =>
      cases h2
      unfold pm_ro at hl0
      obtain ⟨⟨r1, r2, r3, r4⟩, ⟨-, q1⟩, ⟨-, q2⟩, ⟨-, q3⟩, -⟩ := hR
      split at hl0
      · next e1 =>
        subst e1
        cases hl0
        refine pm_same hW hS0 (okL.cons (by show R32 (X.length : Int); unfold R32; omega) hS.tl) fun K => ?_
        obtain ⟨scr, z1, -⟩ := id r1
        refine va_slen hx hb r1 (Array.getElem?_eq_some_iff.mp z1).1 (show ¬ base ≤ roA 0 by omega) hS0 hdg ?_
        rw [← pn_nat]
        exact K
      · split at hl0
        · next e1 =>
          subst e1
          cases hl0
          exact pm_same hW hS0 (okL.cons (by show R32 6; unfold R32; omega) hS.tl) fun K => va_tlen hx hb q1 hS0 (v := Int32.ofInt 6) rfl hdg K
        · split at hl0
          · next e1 =>
            subst e1
            cases hl0
            exact pm_same hW hS0 (okL.cons (by show R32 6; unfold R32; omega) hS.tl) fun K => va_tlen hx hb q2 hS0 (v := Int32.ofInt 6) rfl hdg K
          · split at hl0
            · next e1 =>
              subst e1
              cases hl0
              exact pm_same hW hS0 (okL.cons (by show R32 6; unfold R32; omega) hS.tl) fun K => va_tlen hx hb q3 hS0 (v := Int32.ofInt 6) rfl hdg K
            · cases hl0
    · next ho =>
      obtain ⟨kd, n, rs, -, hs, h3⟩ := pm_ob_spec h2
      obtain ⟨hk, h4⟩ := pm_bif h3
      cases h4
      have h20 : 20 ≤ kd := Nat.le_of_ble_eq_true hk
      obtain ⟨a0, tys, t0, ha0, hcv, he, hK, ht0⟩ := pm_arr hW ho hs h20
      have hn : n ≤ 100000 := by
        rcases (hW.2.1.1 _ _ hs).1 with q | q
        · have := q.1; dsimp only at this; omega
        · exact q.2.2
      refine pm_same hW hS0 (okL.cons (by show R32 (n : Int); unfold R32; omega) hS.tl) fun K => ?_
      rw [List.map_cons, hcv]
      refine va_alen hx hb hK hW.2.2.1 o.toNat t0 he ht0 (v := Int32.ofInt (n : Int)) (pn_nat n).symm hdg ?_
      exact K
end PMH4
