/-! THE REFERENCE: breakfasts, an evening is let go -/
noncomputable def nBegin (G : GST) (p r : Int) : GST := if okW G p ∧ okR G r then gsB G (updC (gB G) 0 p.toNat r) else G
noncomputable def nPut (G : GST) (p r : Int) : GST := if okT G p ∧ okR G r then gsB G (updC (gB G) 1 p.toNat r) else G
noncomputable def nSkip (G : GST) (r o : Int) : GST := if okRl G r then gsB G (updC (gB G) 2 r.toNat o) else G
noncomputable def nRun (G : GST) (n : Int) : GST := if 1 ≤ n ∧ n ≤ 180 then gsE G n.toNat else G
noncomputable def aRun (G : GST) (n : Int) : Int := if 1 ≤ n ∧ n ≤ 180 then aftS (gS G) (gB G) n.toNat 9 0 else -1
theorem g_begin {X : List Int} {d : Nat} {st dr rd : Int} {a s b : C3} (x r : Int) {G : GST} (hT : TopM G b) : Ev X (d + 2) 199 0 [Vr 166, Vi x, Vi r] [] (SHv st dr rd, ovl a s b) (fun rr hh => rr = some (Vi (if okW G x ∧ okR G r then 1 else 0)) ∧ ∃ b' : C3, hh = (SHv st dr rd, ovl a s b') ∧ TopM (nBegin G x r) b') := by
  obtain ⟨bk, hY_b, hWY, hB1, hWB, hWE, hn180, hEQ, hTp, hfk, hfp, hO⟩ := id hT
  obtain ⟨hb2_b, h12_b, h168_b, h169_b, h170_b, h171_b, h173_b, h172_b, h174_b, h176_b, h178_b, h175_b, h177_b, h179_b, h180_b, h184_b⟩ := id hY_b
  obtain ⟨wR, wD, wW, wT, wL, wC, wdoor, wsym, wWI, wTI, wCl, wRu⟩ := id hWY
  obtain ⟨w8, wWc⟩ := wW
  obtain ⟨t8, wTc⟩ := wT
  obtain ⟨r8, wRc⟩ := wR
  obtain ⟨l30, wLc⟩ := wL
  obtain ⟨c12, wCc⟩ := wC
  obtain ⟨e202, e203, e204, e211, e210, eHis, e212⟩ := id hEQ
  refine Ev.call (k := 2) (pc1 := 2) (L1 := [Vr 166, Vi x, Vi r]) (S1 := [Vi x, Vr 166]) (h1 := ((SHv st dr rd), (ovl a s b))) (m' := 197) (as := [Vr 166, Vi x]) (S' := []) (L0 := [Vr 166, Vi x]) (fun _ => rfl) rfl rfl rfl rfl rfl rfl (m_gWho x hT) (fun r h' hq => ?_)
  obtain ⟨rfl, rfl⟩ := hq
  by_cases c2 : okW G x
  · rw [if_pos c2]
    show Ev X _ _ 5 [Vr 166, Vi x, Vi r] [Vi 1] ((SHv st dr rd), (ovl a s b)) _
    refine Ev.call (k := 3) (pc1 := 10) (L1 := [Vr 166, Vi x, Vi r]) (S1 := [Vi r, Vr 166]) (h1 := ((SHv st dr rd), (ovl a s b))) (m' := 195) (as := [Vr 166, Vi r]) (S' := []) (L0 := [Vr 166, Vi r]) (fun _ => rfl) rfl rfl rfl rfl rfl rfl (m_gRoom r hT) (fun r h' hq => ?_)
    obtain ⟨rfl, rfl⟩ := hq
    by_cases c10 : okR G r
    · rw [if_pos c10]
      show Ev X _ _ 13 [Vr 166, Vi x, Vi r] [Vi 1] ((SHv st dr rd), (ovl a s b)) _
      refine Ev.steps (k := 6) (pc' := 26) (L' := [Vr 166, Vi x, Vi r]) (S' := [Vi (w32 (8 + x)), Vr 199]) (h' := ((SHv st dr rd), (ovl a s b))) (fun _ => rfl) ?_
      rw [show (w32 (8 + x)) = (8 + x) from w32_id (by unfold R32; omega)]
      refine Ev.steps (k := 1) (pc' := 27) (L' := [Vr 166, Vi x, Vi r]) (S' := [Vi r, Vi (8 + x), Vr 199]) (h' := ((SHv st dr rd), (ovl a s b))) (fun _ => rfl) ?_
      refine Ev.iast (c' := (ovl a s (updC b 199 (8 + x).toNat r))) rfl (by decide) rfl (by omega) (by omega) (ovl_wm (by decide)) ?_
      refine Ev.fin (k := 2) (r := (some (Vi 1))) (h' := ((SHv st dr rd), (ovl a s (updC b 199 (8 + x).toNat r)))) (fun _ => rfl) ?_
      refine ⟨by rw [if_pos (by omega)], _, rfl, ?_⟩
      unfold nBegin
      rw [if_pos (by omega)]
      obtain ⟨b0, b1, b2⟩ := hB1
      obtain ⟨u0, u1, u2⟩ := hWB
      have hix : (8 + x).toNat = 8 * 1 + x.toNat := by omega
      rw [hix]
      refine hT.setB (FrS.rf.up (by unfold InS; omega)) ⟨fun p hp => ?_, b1, b2⟩ ⟨fun p hp => ?_, u1, u2⟩ hO
      · rw [updC_if, updC_if]
        by_cases h : p = x.toNat
        · rw [if_pos h, if_pos (by omega)]
        · rw [if_neg h, if_neg (by omega)]
          exact b0 p hp
      · rw [updC_if]
        by_cases h : p = x.toNat
        · rw [if_pos h]
          omega
        · rw [if_neg h]
          exact u0 p hp
    · rw [if_neg c10]
      show Ev X _ _ 13 [Vr 166, Vi x, Vi r] [Vi 0] ((SHv st dr rd), (ovl a s b)) _
      refine Ev.fin (k := 3) (r := (some (Vi 0))) (h' := ((SHv st dr rd), (ovl a s b))) (fun _ => rfl) ?_
      refine ⟨by rw [if_neg (by omega)], b, rfl, ?_⟩
      unfold nBegin
      rw [if_neg (by omega)]
      exact hT
  · rw [if_neg c2]
    show Ev X _ _ 5 [Vr 166, Vi x, Vi r] [Vi 0] ((SHv st dr rd), (ovl a s b)) _
    refine Ev.fin (k := 3) (r := (some (Vi 0))) (h' := ((SHv st dr rd), (ovl a s b))) (fun _ => rfl) ?_
    refine ⟨by rw [if_neg (by omega)], b, rfl, ?_⟩
    unfold nBegin
    rw [if_neg (by omega)]
    exact hT
theorem g_put {X : List Int} {d : Nat} {st dr rd : Int} {a s b : C3} (x r : Int) {G : GST} (hT : TopM G b) : Ev X (d + 2) 200 0 [Vr 166, Vi x, Vi r] [] (SHv st dr rd, ovl a s b) (fun rr hh => rr = some (Vi (if okT G x ∧ okR G r then 1 else 0)) ∧ ∃ b' : C3, hh = (SHv st dr rd, ovl a s b') ∧ TopM (nPut G x r) b') := by
  obtain ⟨bk, hY_b, hWY, hB1, hWB, hWE, hn180, hEQ, hTp, hfk, hfp, hO⟩ := id hT
  obtain ⟨hb2_b, h12_b, h168_b, h169_b, h170_b, h171_b, h173_b, h172_b, h174_b, h176_b, h178_b, h175_b, h177_b, h179_b, h180_b, h184_b⟩ := id hY_b
  obtain ⟨wR, wD, wW, wT, wL, wC, wdoor, wsym, wWI, wTI, wCl, wRu⟩ := id hWY
  obtain ⟨w8, wWc⟩ := wW
  obtain ⟨t8, wTc⟩ := wT
  obtain ⟨r8, wRc⟩ := wR
  obtain ⟨l30, wLc⟩ := wL
  obtain ⟨c12, wCc⟩ := wC
  obtain ⟨e202, e203, e204, e211, e210, eHis, e212⟩ := id hEQ
  refine Ev.call (k := 2) (pc1 := 2) (L1 := [Vr 166, Vi x, Vi r]) (S1 := [Vi x, Vr 166]) (h1 := ((SHv st dr rd), (ovl a s b))) (m' := 198) (as := [Vr 166, Vi x]) (S' := []) (L0 := [Vr 166, Vi x]) (fun _ => rfl) rfl rfl rfl rfl rfl rfl (m_gThing x hT) (fun r h' hq => ?_)
  obtain ⟨rfl, rfl⟩ := hq
  by_cases c2 : okT G x
  · rw [if_pos c2]
    show Ev X _ _ 5 [Vr 166, Vi x, Vi r] [Vi 1] ((SHv st dr rd), (ovl a s b)) _
    refine Ev.call (k := 3) (pc1 := 10) (L1 := [Vr 166, Vi x, Vi r]) (S1 := [Vi r, Vr 166]) (h1 := ((SHv st dr rd), (ovl a s b))) (m' := 195) (as := [Vr 166, Vi r]) (S' := []) (L0 := [Vr 166, Vi r]) (fun _ => rfl) rfl rfl rfl rfl rfl rfl (m_gRoom r hT) (fun r h' hq => ?_)
    obtain ⟨rfl, rfl⟩ := hq
    by_cases c10 : okR G r
    · rw [if_pos c10]
      show Ev X _ _ 13 [Vr 166, Vi x, Vi r] [Vi 1] ((SHv st dr rd), (ovl a s b)) _
      refine Ev.steps (k := 6) (pc' := 26) (L' := [Vr 166, Vi x, Vi r]) (S' := [Vi (w32 (8 + x)), Vr 200]) (h' := ((SHv st dr rd), (ovl a s b))) (fun _ => rfl) ?_
      rw [show (w32 (8 + x)) = (8 + x) from w32_id (by unfold R32; omega)]
      refine Ev.steps (k := 1) (pc' := 27) (L' := [Vr 166, Vi x, Vi r]) (S' := [Vi r, Vi (8 + x), Vr 200]) (h' := ((SHv st dr rd), (ovl a s b))) (fun _ => rfl) ?_
      refine Ev.iast (c' := (ovl a s (updC b 200 (8 + x).toNat r))) rfl (by decide) rfl (by omega) (by omega) (ovl_wm (by decide)) ?_
      refine Ev.fin (k := 2) (r := (some (Vi 1))) (h' := ((SHv st dr rd), (ovl a s (updC b 200 (8 + x).toNat r)))) (fun _ => rfl) ?_
      refine ⟨by rw [if_pos (by omega)], _, rfl, ?_⟩
      unfold nPut
      rw [if_pos (by omega)]
      obtain ⟨b0, b1, b2⟩ := hB1
      obtain ⟨u0, u1, u2⟩ := hWB
      have hix : (8 + x).toNat = 8 * 1 + x.toNat := by omega
      rw [hix]
      refine hT.setB (FrS.rf.up (by unfold InS; omega)) ⟨b0, fun p hp => ?_, b2⟩ ⟨u0, fun p hp => ?_, u2⟩ hO
      · rw [updC_if, updC_if]
        by_cases h : p = x.toNat
        · rw [if_pos h, if_pos (by omega)]
        · rw [if_neg h, if_neg (by omega)]
          exact b1 p hp
      · rw [updC_if]
        by_cases h : p = x.toNat
        · rw [if_pos h]
          omega
        · rw [if_neg h]
          exact u1 p hp
    · rw [if_neg c10]
      show Ev X _ _ 13 [Vr 166, Vi x, Vi r] [Vi 0] ((SHv st dr rd), (ovl a s b)) _
      refine Ev.fin (k := 3) (r := (some (Vi 0))) (h' := ((SHv st dr rd), (ovl a s b))) (fun _ => rfl) ?_
      refine ⟨by rw [if_neg (by omega)], b, rfl, ?_⟩
      unfold nPut
      rw [if_neg (by omega)]
      exact hT
  · rw [if_neg c2]
    show Ev X _ _ 5 [Vr 166, Vi x, Vi r] [Vi 0] ((SHv st dr rd), (ovl a s b)) _
    refine Ev.fin (k := 3) (r := (some (Vi 0))) (h' := ((SHv st dr rd), (ovl a s b))) (fun _ => rfl) ?_
    refine ⟨by rw [if_neg (by omega)], b, rfl, ?_⟩
    unfold nPut
    rw [if_neg (by omega)]
    exact hT
theorem g_skip {X : List Int} {d : Nat} {st dr rd : Int} {a s b : C3} (x o : Int) {G : GST} (hT : TopM G b) (ho : o = 0 ∨ o = 1) : Ev X (d + 1) 201 0 [Vr 166, Vi x, Vi o] [] (SHv st dr rd, ovl a s b) (fun rr hh => rr = some (Vi (if okRl G x then 1 else 0)) ∧ ∃ b' : C3, hh = (SHv st dr rd, ovl a s b') ∧ TopM (nSkip G x o) b') := by
  obtain ⟨bk, hY_b, hWY, hB1, hWB, hWE, hn180, hEQ, hTp, hfk, hfp, hO⟩ := id hT
  obtain ⟨hb2_b, h12_b, h168_b, h169_b, h170_b, h171_b, h173_b, h172_b, h174_b, h176_b, h178_b, h175_b, h177_b, h179_b, h180_b, h184_b⟩ := id hY_b
  obtain ⟨wR, wD, wW, wT, wL, wC, wdoor, wsym, wWI, wTI, wCl, wRu⟩ := id hWY
  obtain ⟨w8, wWc⟩ := wW
  obtain ⟨t8, wTc⟩ := wT
  obtain ⟨r8, wRc⟩ := wR
  obtain ⟨l30, wLc⟩ := wL
  obtain ⟨c12, wCc⟩ := wC
  obtain ⟨e202, e203, e204, e211, e210, eHis, e212⟩ := id hEQ
  refine Ev.steps (k := 6) (pc' := 10) (L' := [Vr 166, Vi x, Vi o]) (S' := [Vi (b 166 12), Vr 173, Vi 0, Vi x]) (h' := ((SHv st dr rd), (ovl a s b))) (fun _ => rfl) ?_
  rw [h12_b]
  refine Ev.iald (v := ((nL (gS G) : Nat) : Int)) rfl (by decide) rfl (by omega) (by omega) (h173_b) ?_
  refine Ev.steps (k := 2) (pc' := 13) (L' := [Vr 166, Vi x, Vi o]) (S' := [Vi (w32 (((nL (gS G) : Nat) : Int) - 1)), Vi 0, Vi x]) (h' := ((SHv st dr rd), (ovl a s b))) (fun _ => rfl) ?_
  rw [show (w32 (((nL (gS G) : Nat) : Int) - 1)) = (((nL (gS G) : Nat) : Int) - 1) from w32_id (by unfold R32; omega)]
  refine Ev.call (k := 0) (pc1 := 13) (L1 := [Vr 166, Vi x, Vi o]) (S1 := [Vi (((nL (gS G) : Nat) : Int) - 1), Vi 0, Vi x]) (h1 := ((SHv st dr rd), (ovl a s b))) (m' := 189) (as := [Vi x, Vi 0, Vi (((nL (gS G) : Nat) : Int) - 1)]) (S' := []) (L0 := [Vi x, Vi 0, Vi (((nL (gS G) : Nat) : Int) - 1)]) (fun _ => rfl) rfl rfl rfl rfl rfl rfl (m_is x 0 ((((nL (gS G) : Nat) : Int) - 1))) (fun r h' hq => ?_)
  obtain ⟨rfl, rfl⟩ := hq
  rw [show (if 0 ≤ x ∧ x ≤ (((nL (gS G) : Nat) : Int) - 1) then (1 : Int) else 0) = if okRl G x then 1 else 0 from ite_cg (by omega)]
  by_cases c13 : okRl G x
  · rw [if_pos c13]
    show Ev X _ _ 16 [Vr 166, Vi x, Vi o] [Vi 1] ((SHv st dr rd), (ovl a s b)) _
    refine Ev.steps (k := 6) (pc' := 29) (L' := [Vr 166, Vi x, Vi o]) (S' := [Vi (w32 (30 + x)), Vr 201]) (h' := ((SHv st dr rd), (ovl a s b))) (fun _ => rfl) ?_
    rw [show (w32 (30 + x)) = (30 + x) from w32_id (by unfold R32; omega)]
    refine Ev.steps (k := 1) (pc' := 30) (L' := [Vr 166, Vi x, Vi o]) (S' := [Vi o, Vi (30 + x), Vr 201]) (h' := ((SHv st dr rd), (ovl a s b))) (fun _ => rfl) ?_
    refine Ev.zast (c' := (ovl a s (updC b 201 (30 + x).toNat o))) rfl (by decide) rfl (by omega) (by omega) (by omega) (ovl_wm (by decide)) ?_
    refine Ev.fin (k := 2) (r := (some (Vi 1))) (h' := ((SHv st dr rd), (ovl a s (updC b 201 (30 + x).toNat o)))) (fun _ => rfl) ?_
    refine ⟨by first | rfl | rw [if_pos (by omega)], _, rfl, ?_⟩
    unfold nSkip
    rw [if_pos (by omega)]
    obtain ⟨b0, b1, b2⟩ := hB1
    obtain ⟨u0, u1, u2⟩ := hWB
    have hix : (30 + x).toNat = 30 * 1 + x.toNat := by omega
    rw [hix]
    refine hT.setB (FrS.rf.up (by unfold InS; omega)) ⟨b0, b1, fun p hp => ?_⟩ ⟨u0, u1, fun p hp => ?_⟩ (fun i hi => ?_)
    · rw [updC_if, updC_if]
      by_cases h : p = x.toNat
      · rw [if_pos h, if_pos (by omega)]
      · rw [if_neg h, if_neg (by omega)]
        exact b2 p hp
    · rw [updC_if]
      by_cases h : p = x.toNat
      · rw [if_pos h]
        omega
      · rw [if_neg h]
        exact u2 p hp
    · rw [updC_if]
      split
      · exact ho
      · exact hO i hi
  · rw [if_neg c13]
    show Ev X _ _ 16 [Vr 166, Vi x, Vi o] [Vi 0] ((SHv st dr rd), (ovl a s b)) _
    refine Ev.fin (k := 3) (r := (some (Vi 0))) (h' := ((SHv st dr rd), (ovl a s b))) (fun _ => rfl) ?_
    refine ⟨by first | rfl | rw [if_neg (by omega)], b, rfl, ?_⟩
    unfold nSkip
    rw [if_neg (by omega)]
    exact hT
theorem m_copies_r {X : List Int} {d : Nat} {st dr rd : Int} {a s b : C3} (f t : Nat) (hf : f < 3) (ht : t < 3) (hft : f ≠ t) {b0 : C3} (r : Nat) (hr : r ≤ 30) (hO : ∀ i, i < 90 → b 201 i = 0 ∨ b 201 i = 1) (hF : FrS t b0 b) (hC : ∀ q, q < 8 → b 199 (8 * t + q) = b0 199 (8 * f + q) ∧ b 200 (8 * t + q) = b0 200 (8 * f + q)) (hD : ∀ q, q < r → b 201 (30 * t + q) = b0 201 (30 * f + q)) : Ev X d 204 60 [Vr 166, Vi (f : Int), Vi (t : Int), Vi (r : Int)] [] (SHv st dr rd, ovl a s b) (fun rr hh => rr = none ∧ ∃ b2 : C3, hh = (SHv st dr rd, ovl a s b2) ∧ FrS t b0 b2 ∧ (∀ q, q < 8 → b2 199 (8 * t + q) = b0 199 (8 * f + q) ∧ b2 200 (8 * t + q) = b0 200 (8 * f + q)) ∧ (∀ q, q < 30 → b2 201 (30 * t + q) = b0 201 (30 * f + q)) ∧ (∀ i, i < 90 → b2 201 i = 0 ∨ b2 201 i = 1)) := by
  induction hk : (30 - r) using Nat.strongRecOn generalizing r b with
  | ind k ih =>
    refine Ev.ite (P := 30 ≤ (r : Int)) (k := 3) (a := 94) (b := 66) (L' := [Vr 166, Vi (f : Int), Vi (t : Int), Vi (r : Int)]) (S' := []) (h' := ((SHv st dr rd), (ovl a s b))) (fun _ => rfl) (fun b63 => ?_) (fun b63 => ?_)
    · refine Ev.fin (k := 1) (r := none) (h' := ((SHv st dr rd), (ovl a s b))) (fun _ => rfl) ?_
      obtain rfl : r = 30 := by omega
      exact ⟨rfl, b, rfl, hF, hC, hD, hO⟩
    · refine Ev.steps (k := 5) (pc' := 74) (L' := [Vr 166, Vi (f : Int), Vi (t : Int), Vi (r : Int)]) (S' := [Vi (w32 (30 * (t : Int))), Vr 201]) (h' := ((SHv st dr rd), (ovl a s b))) (fun _ => rfl) ?_
      rw [show (w32 (30 * (t : Int))) = (30 * (t : Int)) from w32_id (by unfold R32; omega)]
      refine Ev.steps (k := 2) (pc' := 76) (L' := [Vr 166, Vi (f : Int), Vi (t : Int), Vi (r : Int)]) (S' := [Vi (w32 ((30 * (t : Int)) + (r : Int))), Vr 201]) (h' := ((SHv st dr rd), (ovl a s b))) (fun _ => rfl) ?_
      rw [show (w32 ((30 * (t : Int)) + (r : Int))) = ((30 * (t : Int)) + (r : Int)) from w32_id (by unfold R32; omega)]
      refine Ev.steps (k := 5) (pc' := 84) (L' := [Vr 166, Vi (f : Int), Vi (t : Int), Vi (r : Int)]) (S' := [Vi (w32 (30 * (f : Int))), Vr 201, Vi ((30 * (t : Int)) + (r : Int)), Vr 201]) (h' := ((SHv st dr rd), (ovl a s b))) (fun _ => rfl) ?_
      rw [show (w32 (30 * (f : Int))) = (30 * (f : Int)) from w32_id (by unfold R32; omega)]
      refine Ev.steps (k := 2) (pc' := 86) (L' := [Vr 166, Vi (f : Int), Vi (t : Int), Vi (r : Int)]) (S' := [Vi (w32 ((30 * (f : Int)) + (r : Int))), Vr 201, Vi ((30 * (t : Int)) + (r : Int)), Vr 201]) (h' := ((SHv st dr rd), (ovl a s b))) (fun _ => rfl) ?_
      rw [show (w32 ((30 * (f : Int)) + (r : Int))) = ((30 * (f : Int)) + (r : Int)) from w32_id (by unfold R32; omega)]
      refine Ev.zald (v := (b 201 ((30 * f + r)))) rfl (by decide) rfl (by omega) (by omega) (rfl) ?_
      refine Ev.zast (c' := (ovl a s (updC b 201 ((30 * t + r)) (b 201 ((30 * f + r)))))) rfl (by decide) rfl (by omega) (by omega) (by have := hO (30 * f + r) (by omega); omega) (ovl_wm (by decide)) ?_
      refine Ev.steps (k := 1) (pc' := 91) (L' := [Vr 166, Vi (f : Int), Vi (t : Int), Vi (w32 ((r : Int) + 1))]) (S' := []) (h' := ((SHv st dr rd), (ovl a s (updC b 201 ((30 * t + r)) (b 201 ((30 * f + r))))))) (fun _ => rfl) ?_
      rw [show (w32 ((r : Int) + 1)) = ((r : Int) + 1) from w32_id (by unfold R32; omega)]
      refine Ev.steps (k := 1) (pc' := 60) (L' := [Vr 166, Vi (f : Int), Vi (t : Int), Vi ((r : Int) + 1)]) (S' := []) (h' := ((SHv st dr rd), (ovl a s (updC b 201 ((30 * t + r)) (b 201 ((30 * f + r))))))) (fun _ => rfl) ?_
      refine ih _ (by omega) (b := (updC b 201 ((30 * t + r)) (b 201 ((30 * f + r))))) (r + 1) (by omega) (fun i hi => ?_) (hF.up (by unfold InS; omega)) hC (fun q hq => ?_) rfl
      · rw [updC_if]
        split
        · exact hO _ (by omega)
        · exact hO i hi
      · rw [updC_if]
        by_cases h : q = r
        · rw [if_pos (by omega), h, hF 201 _ (by unfold InS; omega)]
        · rw [if_neg (by omega)]
          exact hD q (by omega)
theorem m_copies_k {X : List Int} {d : Nat} {st dr rd : Int} {a s b : C3} (f t : Nat) (hf : f < 3) (ht : t < 3) (hft : f ≠ t) {b0 : C3} (r : Nat) (hr : r ≤ 8) (hO : ∀ i, i < 90 → b 201 i = 0 ∨ b 201 i = 1) (hF : FrS t b0 b) (hC : ∀ q, q < r → b 199 (8 * t + q) = b0 199 (8 * f + q) ∧ b 200 (8 * t + q) = b0 200 (8 * f + q)) : Ev X d 204 2 [Vr 166, Vi (f : Int), Vi (t : Int), Vi (r : Int)] [] (SHv st dr rd, ovl a s b) (fun rr hh => rr = none ∧ ∃ b2 : C3, hh = (SHv st dr rd, ovl a s b2) ∧ FrS t b0 b2 ∧ (∀ q, q < 8 → b2 199 (8 * t + q) = b0 199 (8 * f + q) ∧ b2 200 (8 * t + q) = b0 200 (8 * f + q)) ∧ (∀ q, q < 30 → b2 201 (30 * t + q) = b0 201 (30 * f + q)) ∧ (∀ i, i < 90 → b2 201 i = 0 ∨ b2 201 i = 1)) := by
  induction hk : (8 - r) using Nat.strongRecOn generalizing r b with
  | ind k ih =>
    refine Ev.ite (P := 8 ≤ (r : Int)) (k := 3) (a := 58) (b := 8) (L' := [Vr 166, Vi (f : Int), Vi (t : Int), Vi (r : Int)]) (S' := []) (h' := ((SHv st dr rd), (ovl a s b))) (fun _ => rfl) (fun b5 => ?_) (fun b5 => ?_)
    · refine Ev.steps (k := 2) (pc' := 60) (L' := [Vr 166, Vi (f : Int), Vi (t : Int), Vi 0]) (S' := []) (h' := ((SHv st dr rd), (ovl a s b))) (fun _ => rfl) ?_
      obtain rfl : r = 8 := by omega
      exact m_copies_r f t hf ht hft (b0 := b0) 0 (by omega) hO hF hC (fun q hq => absurd hq (by omega))
    · refine Ev.steps (k := 5) (pc' := 16) (L' := [Vr 166, Vi (f : Int), Vi (t : Int), Vi (r : Int)]) (S' := [Vi (w32 (8 * (t : Int))), Vr 199]) (h' := ((SHv st dr rd), (ovl a s b))) (fun _ => rfl) ?_
      rw [show (w32 (8 * (t : Int))) = (8 * (t : Int)) from w32_id (by unfold R32; omega)]
      refine Ev.steps (k := 2) (pc' := 18) (L' := [Vr 166, Vi (f : Int), Vi (t : Int), Vi (r : Int)]) (S' := [Vi (w32 ((8 * (t : Int)) + (r : Int))), Vr 199]) (h' := ((SHv st dr rd), (ovl a s b))) (fun _ => rfl) ?_
      rw [show (w32 ((8 * (t : Int)) + (r : Int))) = ((8 * (t : Int)) + (r : Int)) from w32_id (by unfold R32; omega)]
      refine Ev.steps (k := 5) (pc' := 26) (L' := [Vr 166, Vi (f : Int), Vi (t : Int), Vi (r : Int)]) (S' := [Vi (w32 (8 * (f : Int))), Vr 199, Vi ((8 * (t : Int)) + (r : Int)), Vr 199]) (h' := ((SHv st dr rd), (ovl a s b))) (fun _ => rfl) ?_
      rw [show (w32 (8 * (f : Int))) = (8 * (f : Int)) from w32_id (by unfold R32; omega)]
      refine Ev.steps (k := 2) (pc' := 28) (L' := [Vr 166, Vi (f : Int), Vi (t : Int), Vi (r : Int)]) (S' := [Vi (w32 ((8 * (f : Int)) + (r : Int))), Vr 199, Vi ((8 * (t : Int)) + (r : Int)), Vr 199]) (h' := ((SHv st dr rd), (ovl a s b))) (fun _ => rfl) ?_
      rw [show (w32 ((8 * (f : Int)) + (r : Int))) = ((8 * (f : Int)) + (r : Int)) from w32_id (by unfold R32; omega)]
      refine Ev.iald (v := (b 199 ((8 * f + r)))) rfl (by decide) rfl (by omega) (by omega) (rfl) ?_
      refine Ev.iast (c' := (ovl a s (updC b 199 ((8 * t + r)) (b 199 ((8 * f + r)))))) rfl (by decide) rfl (by omega) (by omega) (ovl_wm (by decide)) ?_
      refine Ev.steps (k := 5) (pc' := 38) (L' := [Vr 166, Vi (f : Int), Vi (t : Int), Vi (r : Int)]) (S' := [Vi (w32 (8 * (t : Int))), Vr 200]) (h' := ((SHv st dr rd), (ovl a s (updC b 199 ((8 * t + r)) (b 199 ((8 * f + r))))))) (fun _ => rfl) ?_
      rw [show (w32 (8 * (t : Int))) = (8 * (t : Int)) from w32_id (by unfold R32; omega)]
      refine Ev.steps (k := 2) (pc' := 40) (L' := [Vr 166, Vi (f : Int), Vi (t : Int), Vi (r : Int)]) (S' := [Vi (w32 ((8 * (t : Int)) + (r : Int))), Vr 200]) (h' := ((SHv st dr rd), (ovl a s (updC b 199 ((8 * t + r)) (b 199 ((8 * f + r))))))) (fun _ => rfl) ?_
      rw [show (w32 ((8 * (t : Int)) + (r : Int))) = ((8 * (t : Int)) + (r : Int)) from w32_id (by unfold R32; omega)]
      refine Ev.steps (k := 5) (pc' := 48) (L' := [Vr 166, Vi (f : Int), Vi (t : Int), Vi (r : Int)]) (S' := [Vi (w32 (8 * (f : Int))), Vr 200, Vi ((8 * (t : Int)) + (r : Int)), Vr 200]) (h' := ((SHv st dr rd), (ovl a s (updC b 199 ((8 * t + r)) (b 199 ((8 * f + r))))))) (fun _ => rfl) ?_
      rw [show (w32 (8 * (f : Int))) = (8 * (f : Int)) from w32_id (by unfold R32; omega)]
      refine Ev.steps (k := 2) (pc' := 50) (L' := [Vr 166, Vi (f : Int), Vi (t : Int), Vi (r : Int)]) (S' := [Vi (w32 ((8 * (f : Int)) + (r : Int))), Vr 200, Vi ((8 * (t : Int)) + (r : Int)), Vr 200]) (h' := ((SHv st dr rd), (ovl a s (updC b 199 ((8 * t + r)) (b 199 ((8 * f + r))))))) (fun _ => rfl) ?_
      rw [show (w32 ((8 * (f : Int)) + (r : Int))) = ((8 * (f : Int)) + (r : Int)) from w32_id (by unfold R32; omega)]
      refine Ev.iald (v := (b 200 ((8 * f + r)))) rfl (by decide) rfl (by omega) (by omega) (rfl) ?_
      refine Ev.iast (c' := (ovl a s (updC (updC b 199 ((8 * t + r)) (b 199 ((8 * f + r)))) 200 ((8 * t + r)) (b 200 ((8 * f + r)))))) rfl (by decide) rfl (by omega) (by omega) (ovl_wm (by decide)) ?_
      refine Ev.steps (k := 1) (pc' := 55) (L' := [Vr 166, Vi (f : Int), Vi (t : Int), Vi (w32 ((r : Int) + 1))]) (S' := []) (h' := ((SHv st dr rd), (ovl a s (updC (updC b 199 ((8 * t + r)) (b 199 ((8 * f + r)))) 200 ((8 * t + r)) (b 200 ((8 * f + r))))))) (fun _ => rfl) ?_
      rw [show (w32 ((r : Int) + 1)) = ((r : Int) + 1) from w32_id (by unfold R32; omega)]
      refine Ev.steps (k := 1) (pc' := 2) (L' := [Vr 166, Vi (f : Int), Vi (t : Int), Vi ((r : Int) + 1)]) (S' := []) (h' := ((SHv st dr rd), (ovl a s (updC (updC b 199 ((8 * t + r)) (b 199 ((8 * f + r)))) 200 ((8 * t + r)) (b 200 ((8 * f + r))))))) (fun _ => rfl) ?_
      refine ih _ (by omega) (b := (updC (updC b 199 ((8 * t + r)) (b 199 ((8 * f + r)))) 200 ((8 * t + r)) (b 200 ((8 * f + r))))) (r + 1) (by omega) hO ((hF.up (by unfold InS; omega)).up (by unfold InS; omega)) (fun q hq => ?_) rfl
      by_cases h : q = r
      · subst h
        refine ⟨?_, ?_⟩
        · show updC b 199 _ _ 199 _ = _
          rw [updC_if, if_pos (by omega), hF 199 _ (by unfold InS; omega)]
        · show updC b 200 _ _ 200 _ = _
          rw [updC_if, if_pos (by omega), hF 200 _ (by unfold InS; omega)]
      · refine ⟨?_, ?_⟩
        · show updC b 199 _ _ 199 _ = _
          rw [updC_if, if_neg (by omega)]
          exact (hC q (by omega)).1
        · show updC b 200 _ _ 200 _ = _
          rw [updC_if, if_neg (by omega)]
          exact (hC q (by omega)).2
theorem m_copies {X : List Int} {d : Nat} {st dr rd : Int} {a s b : C3} (f t : Nat) (hf : f < 3) (ht : t < 3) (hft : f ≠ t) (hO : ∀ i, i < 90 → b 201 i = 0 ∨ b 201 i = 1) {S : STY} {B : SC} (hW : WfY S) (hB : RepB S B b f) : Ev X d 204 0 [Vr 166, Vi (f : Int), Vi (t : Int), Vx] [] (SHv st dr rd, ovl a s b) (fun rr hh => rr = none ∧ ∃ b2 : C3, hh = (SHv st dr rd, ovl a s b2) ∧ FrS t b b2 ∧ RepB S B b2 t ∧ (∀ i, i < 90 → b2 201 i = 0 ∨ b2 201 i = 1)) := by
  refine Ev.steps (k := 2) (pc' := 2) (L' := [Vr 166, Vi (f : Int), Vi (t : Int), Vi 0]) (S' := []) (h' := ((SHv st dr rd), (ovl a s b))) (fun _ => rfl) ?_
  refine Ev.mono (m_copies_k f t hf ht hft (b0 := b) 0 (by omega) hO FrS.rf (fun q hq => absurd hq (by omega))) (fun rr hh h => ?_)
  obtain ⟨g1, b2, g2, g3, g4, g5, g6⟩ := h
  have w8 := hW.2.2.1.1
  have t8 := hW.2.2.2.1.1
  have l8 := hW.2.2.2.2.1.1
  exact ⟨g1, b2, g2, g3, ⟨fun p hp => by rw [(g4 p (by omega)).1]; exact hB.1 p hp, fun p hp => by rw [(g4 p (by omega)).2]; exact hB.2.1 p hp, fun p hp => by rw [g5 p (by omega)]; exact hB.2.2 p hp⟩, g6⟩
theorem m_clears_r {X : List Int} {d : Nat} {st dr rd : Int} {a s b : C3} {S : STY} {bk : Nat} (hWY : WfY S) {b0 : C3} (p : Nat) (hp : p ≤ 30) (hY_b : RepY S b bk) (hO : ∀ i, i < 90 → b 201 i = 0 ∨ b 201 i = 1) (hF : FrS 1 b0 b) (h1 : ∀ q, q < nW S → b 199 (8 * 1 + q) = S.1 5 q) (h2 : ∀ q, q < nT S → b 200 (8 * 1 + q) = S.1 6 q) (h3 : ∀ q, q < p → b 201 (30 * 1 + q) = 0) : Ev X d 191 90 [Vr 166, Vi (p : Int)] [] (SHv st dr rd, ovl a s b) (fun rr hh => rr = none ∧ ∃ b2 : C3, hh = (SHv st dr rd, ovl a s b2) ∧ FrS 1 b0 b2 ∧ RepB S (tldB S) b2 1 ∧ (∀ i, i < 90 → b2 201 i = 0 ∨ b2 201 i = 1)) := by
  induction hk : (30 - p) using Nat.strongRecOn generalizing p b with
  | ind k ih =>
    obtain ⟨wR, wD, ⟨w8, wWc⟩, ⟨t8, wTc⟩, ⟨l30, wLc⟩, wC, -⟩ := id hWY
    obtain ⟨hb2_b, h12_b, h168_b, h169_b, h170_b, h171_b, h173_b, h172_b, h174_b, h176_b, h178_b, h175_b, h177_b, h179_b, h180_b, h184_b⟩ := id hY_b
    refine Ev.ite (P := 30 ≤ (p : Int)) (k := 3) (a := 112) (b := 96) (L' := [Vr 166, Vi (p : Int)]) (S' := []) (h' := ((SHv st dr rd), (ovl a s b))) (fun _ => rfl) (fun b93 => ?_) (fun b93 => ?_)
    · refine Ev.fin (k := 1) (r := none) (h' := ((SHv st dr rd), (ovl a s b))) (fun _ => rfl) ?_
      obtain rfl : p = 30 := by omega
      exact ⟨rfl, b, rfl, hF, ⟨h1, h2, fun q hq => h3 q (by omega)⟩, hO⟩
    · refine Ev.steps (k := 5) (pc' := 104) (L' := [Vr 166, Vi (p : Int)]) (S' := [Vi (w32 (30 + (p : Int))), Vr 201]) (h' := ((SHv st dr rd), (ovl a s b))) (fun _ => rfl) ?_
      rw [show (w32 (30 + (p : Int))) = (30 + (p : Int)) from w32_id (by unfold R32; omega)]
      refine Ev.steps (k := 1) (pc' := 105) (L' := [Vr 166, Vi (p : Int)]) (S' := [Vi 0, Vi (30 + (p : Int)), Vr 201]) (h' := ((SHv st dr rd), (ovl a s b))) (fun _ => rfl) ?_
      refine Ev.zast (c' := (ovl a s (updC b 201 ((30 + p)) 0))) rfl (by decide) rfl (by omega) (by omega) (by omega) (ovl_wm (by decide)) ?_
      refine Ev.steps (k := 1) (pc' := 109) (L' := [Vr 166, Vi (w32 ((p : Int) + 1))]) (S' := []) (h' := ((SHv st dr rd), (ovl a s (updC b 201 ((30 + p)) 0)))) (fun _ => rfl) ?_
      rw [show (w32 ((p : Int) + 1)) = ((p : Int) + 1) from w32_id (by unfold R32; omega)]
      refine Ev.steps (k := 1) (pc' := 90) (L' := [Vr 166, Vi ((p : Int) + 1)]) (S' := []) (h' := ((SHv st dr rd), (ovl a s (updC b 201 ((30 + p)) 0)))) (fun _ => rfl) ?_
      refine ih _ (by omega) (b := (updC b 201 ((30 + p)) 0)) (p + 1) (by omega) (hY_b.fs (FrS.rf.up (k := 1) (by unfold InS; omega))) (fun i hi => ?_) (hF.up (by unfold InS; omega)) h1 h2 (fun q hq => ?_) rfl
      · rw [updC_if]
        split
        · exact Or.inl rfl
        · exact hO i hi
      · rw [updC_if]
        split
        · rfl
        · exact h3 q (by omega)
theorem m_clears_t {X : List Int} {d : Nat} {st dr rd : Int} {a s b : C3} {S : STY} {bk : Nat} (hWY : WfY S) {b0 : C3} (p : Nat) (hp : p ≤ nT S) (hY_b : RepY S b bk) (hO : ∀ i, i < 90 → b 201 i = 0 ∨ b 201 i = 1) (hF : FrS 1 b0 b) (h1 : ∀ q, q < nW S → b 199 (8 * 1 + q) = S.1 5 q) (h2 : ∀ q, q < p → b 200 (8 * 1 + q) = S.1 6 q) : Ev X d 191 46 [Vr 166, Vi (p : Int)] [] (SHv st dr rd, ovl a s b) (fun rr hh => rr = none ∧ ∃ b2 : C3, hh = (SHv st dr rd, ovl a s b2) ∧ FrS 1 b0 b2 ∧ RepB S (tldB S) b2 1 ∧ (∀ i, i < 90 → b2 201 i = 0 ∨ b2 201 i = 1)) := by
  induction hk : (nT S - p) using Nat.strongRecOn generalizing p b with
  | ind k ih =>
    obtain ⟨wR, wD, ⟨w8, wWc⟩, ⟨t8, wTc⟩, ⟨l30, wLc⟩, wC, -⟩ := id hWY
    obtain ⟨hb2_b, h12_b, h168_b, h169_b, h170_b, h171_b, h173_b, h172_b, h174_b, h176_b, h178_b, h175_b, h177_b, h179_b, h180_b, h184_b⟩ := id hY_b
    refine Ev.steps (k := 5) (pc' := 55) (L' := [Vr 166, Vi (p : Int)]) (S' := [Vi (b 166 12), Vr 171, Vi (p : Int)]) (h' := ((SHv st dr rd), (ovl a s b))) (fun _ => rfl) ?_
    rw [h12_b]
    refine Ev.iald (v := ((nT S : Nat) : Int)) rfl (by decide) rfl (by omega) (by omega) (h171_b) ?_
    refine Ev.ite (P := ((nT S : Nat) : Int) ≤ (p : Int)) (k := 1) (a := 88) (b := 59) (L' := [Vr 166, Vi (p : Int)]) (S' := []) (h' := ((SHv st dr rd), (ovl a s b))) (fun _ => rfl) (fun b56 => ?_) (fun b56 => ?_)
    · refine Ev.steps (k := 2) (pc' := 90) (L' := [Vr 166, Vi 0]) (S' := []) (h' := ((SHv st dr rd), (ovl a s b))) (fun _ => rfl) ?_
      obtain rfl : p = nT S := by omega
      exact m_clears_r hWY (b0 := b0) 0 (by omega) hY_b hO hF h1 h2 (fun q hq => absurd hq (by omega))
    · refine Ev.steps (k := 5) (pc' := 67) (L' := [Vr 166, Vi (p : Int)]) (S' := [Vi (w32 (8 + (p : Int))), Vr 200]) (h' := ((SHv st dr rd), (ovl a s b))) (fun _ => rfl) ?_
      rw [show (w32 (8 + (p : Int))) = (8 + (p : Int)) from w32_id (by unfold R32; omega)]
      refine Ev.steps (k := 5) (pc' := 77) (L' := [Vr 166, Vi (p : Int)]) (S' := [Vi (b 166 12), Vi 8, Vr 179, Vi (8 + (p : Int)), Vr 200]) (h' := ((SHv st dr rd), (ovl a s b))) (fun _ => rfl) ?_
      rw [h12_b]
      refine Ev.steps (k := 1) (pc' := 78) (L' := [Vr 166, Vi (p : Int)]) (S' := [Vi (w32 (8 * (bk : Int))), Vr 179, Vi (8 + (p : Int)), Vr 200]) (h' := ((SHv st dr rd), (ovl a s b))) (fun _ => rfl) ?_
      rw [show (w32 (8 * (bk : Int))) = (8 * (bk : Int)) from w32_id (by unfold R32; omega)]
      refine Ev.steps (k := 2) (pc' := 80) (L' := [Vr 166, Vi (p : Int)]) (S' := [Vi (w32 ((8 * (bk : Int)) + (p : Int))), Vr 179, Vi (8 + (p : Int)), Vr 200]) (h' := ((SHv st dr rd), (ovl a s b))) (fun _ => rfl) ?_
      rw [show (w32 ((8 * (bk : Int)) + (p : Int))) = ((8 * (bk : Int)) + (p : Int)) from w32_id (by unfold R32; omega)]
      refine Ev.iald (v := (S.1 6 p)) rfl (by decide) rfl (by omega) (by omega) (h179_b p (by omega)) ?_
      refine Ev.iast (c' := (ovl a s (updC b 200 ((8 + p)) (S.1 6 p)))) rfl (by decide) rfl (by omega) (by omega) (ovl_wm (by decide)) ?_
      refine Ev.steps (k := 1) (pc' := 85) (L' := [Vr 166, Vi (w32 ((p : Int) + 1))]) (S' := []) (h' := ((SHv st dr rd), (ovl a s (updC b 200 ((8 + p)) (S.1 6 p))))) (fun _ => rfl) ?_
      rw [show (w32 ((p : Int) + 1)) = ((p : Int) + 1) from w32_id (by unfold R32; omega)]
      refine Ev.steps (k := 1) (pc' := 46) (L' := [Vr 166, Vi ((p : Int) + 1)]) (S' := []) (h' := ((SHv st dr rd), (ovl a s (updC b 200 ((8 + p)) (S.1 6 p))))) (fun _ => rfl) ?_
      refine ih _ (by omega) (b := (updC b 200 ((8 + p)) (S.1 6 p))) (p + 1) (by omega) (hY_b.fs (FrS.rf.up (k := 1) (by unfold InS; omega))) hO (hF.up (by unfold InS; omega)) h1 (fun q hq => ?_) rfl
      rw [updC_if]
      by_cases h : q = p
      · rw [if_pos (by omega), h]
      · rw [if_neg (by omega)]
        exact h2 q (by omega)
theorem m_clears_w {X : List Int} {d : Nat} {st dr rd : Int} {a s b : C3} {S : STY} {bk : Nat} (hWY : WfY S) {b0 : C3} (p : Nat) (hp : p ≤ nW S) (hY_b : RepY S b bk) (hO : ∀ i, i < 90 → b 201 i = 0 ∨ b 201 i = 1) (hF : FrS 1 b0 b) (h1 : ∀ q, q < p → b 199 (8 * 1 + q) = S.1 5 q) : Ev X d 191 2 [Vr 166, Vi (p : Int)] [] (SHv st dr rd, ovl a s b) (fun rr hh => rr = none ∧ ∃ b2 : C3, hh = (SHv st dr rd, ovl a s b2) ∧ FrS 1 b0 b2 ∧ RepB S (tldB S) b2 1 ∧ (∀ i, i < 90 → b2 201 i = 0 ∨ b2 201 i = 1)) := by
  induction hk : (nW S - p) using Nat.strongRecOn generalizing p b with
  | ind k ih =>
    obtain ⟨wR, wD, ⟨w8, wWc⟩, ⟨t8, wTc⟩, ⟨l30, wLc⟩, wC, -⟩ := id hWY
    obtain ⟨hb2_b, h12_b, h168_b, h169_b, h170_b, h171_b, h173_b, h172_b, h174_b, h176_b, h178_b, h175_b, h177_b, h179_b, h180_b, h184_b⟩ := id hY_b
    refine Ev.steps (k := 5) (pc' := 11) (L' := [Vr 166, Vi (p : Int)]) (S' := [Vi (b 166 12), Vr 170, Vi (p : Int)]) (h' := ((SHv st dr rd), (ovl a s b))) (fun _ => rfl) ?_
    rw [h12_b]
    refine Ev.iald (v := ((nW S : Nat) : Int)) rfl (by decide) rfl (by omega) (by omega) (h170_b) ?_
    refine Ev.ite (P := ((nW S : Nat) : Int) ≤ (p : Int)) (k := 1) (a := 44) (b := 15) (L' := [Vr 166, Vi (p : Int)]) (S' := []) (h' := ((SHv st dr rd), (ovl a s b))) (fun _ => rfl) (fun b12 => ?_) (fun b12 => ?_)
    · refine Ev.steps (k := 2) (pc' := 46) (L' := [Vr 166, Vi 0]) (S' := []) (h' := ((SHv st dr rd), (ovl a s b))) (fun _ => rfl) ?_
      obtain rfl : p = nW S := by omega
      exact m_clears_t hWY (b0 := b0) 0 (by omega) hY_b hO hF h1 (fun q hq => absurd hq (by omega))
    · refine Ev.steps (k := 5) (pc' := 23) (L' := [Vr 166, Vi (p : Int)]) (S' := [Vi (w32 (8 + (p : Int))), Vr 199]) (h' := ((SHv st dr rd), (ovl a s b))) (fun _ => rfl) ?_
      rw [show (w32 (8 + (p : Int))) = (8 + (p : Int)) from w32_id (by unfold R32; omega)]
      refine Ev.steps (k := 5) (pc' := 33) (L' := [Vr 166, Vi (p : Int)]) (S' := [Vi (b 166 12), Vi 8, Vr 177, Vi (8 + (p : Int)), Vr 199]) (h' := ((SHv st dr rd), (ovl a s b))) (fun _ => rfl) ?_
      rw [h12_b]
      refine Ev.steps (k := 1) (pc' := 34) (L' := [Vr 166, Vi (p : Int)]) (S' := [Vi (w32 (8 * (bk : Int))), Vr 177, Vi (8 + (p : Int)), Vr 199]) (h' := ((SHv st dr rd), (ovl a s b))) (fun _ => rfl) ?_
      rw [show (w32 (8 * (bk : Int))) = (8 * (bk : Int)) from w32_id (by unfold R32; omega)]
      refine Ev.steps (k := 2) (pc' := 36) (L' := [Vr 166, Vi (p : Int)]) (S' := [Vi (w32 ((8 * (bk : Int)) + (p : Int))), Vr 177, Vi (8 + (p : Int)), Vr 199]) (h' := ((SHv st dr rd), (ovl a s b))) (fun _ => rfl) ?_
      rw [show (w32 ((8 * (bk : Int)) + (p : Int))) = ((8 * (bk : Int)) + (p : Int)) from w32_id (by unfold R32; omega)]
      refine Ev.iald (v := (S.1 5 p)) rfl (by decide) rfl (by omega) (by omega) (h177_b p (by omega)) ?_
      refine Ev.iast (c' := (ovl a s (updC b 199 ((8 + p)) (S.1 5 p)))) rfl (by decide) rfl (by omega) (by omega) (ovl_wm (by decide)) ?_
      refine Ev.steps (k := 1) (pc' := 41) (L' := [Vr 166, Vi (w32 ((p : Int) + 1))]) (S' := []) (h' := ((SHv st dr rd), (ovl a s (updC b 199 ((8 + p)) (S.1 5 p))))) (fun _ => rfl) ?_
      rw [show (w32 ((p : Int) + 1)) = ((p : Int) + 1) from w32_id (by unfold R32; omega)]
      refine Ev.steps (k := 1) (pc' := 2) (L' := [Vr 166, Vi ((p : Int) + 1)]) (S' := []) (h' := ((SHv st dr rd), (ovl a s (updC b 199 ((8 + p)) (S.1 5 p))))) (fun _ => rfl) ?_
      refine ih _ (by omega) (b := (updC b 199 ((8 + p)) (S.1 5 p))) (p + 1) (by omega) (hY_b.fs (FrS.rf.up (k := 1) (by unfold InS; omega))) hO (hF.up (by unfold InS; omega)) (fun q hq => ?_) rfl
      rw [updC_if]
      by_cases h : q = p
      · rw [if_pos (by omega), h]
      · rw [if_neg (by omega)]
        exact h1 q (by omega)
theorem m_clears {X : List Int} {d : Nat} {st dr rd : Int} {a s b : C3} {S : STY} {bk : Nat} (hWY : WfY S) (hY_b : RepY S b bk) (hO : ∀ i, i < 90 → b 201 i = 0 ∨ b 201 i = 1) : Ev X d 191 0 [Vr 166, Vx] [] (SHv st dr rd, ovl a s b) (fun rr hh => rr = none ∧ ∃ b2 : C3, hh = (SHv st dr rd, ovl a s b2) ∧ FrS 1 b b2 ∧ RepB S (tldB S) b2 1 ∧ (∀ i, i < 90 → b2 201 i = 0 ∨ b2 201 i = 1)) := by
  refine Ev.steps (k := 2) (pc' := 2) (L' := [Vr 166, Vi 0]) (S' := []) (h' := ((SHv st dr rd), (ovl a s b))) (fun _ => rfl) ?_
  exact m_clears_w hWY (b0 := b) 0 (by omega) hY_b hO FrS.rf (fun q hq => absurd hq (by omega))
theorem g_anew {X : List Int} {d : Nat} {st dr rd : Int} {a s b : C3} {G : GST} (hT : TopM G b) : Ev X (d + 1) 202 0 [Vr 166] [] (SHv st dr rd, ovl a s b) (fun rr hh => rr = none ∧ ∃ b' : C3, hh = (SHv st dr rd, ovl a s b') ∧ TopM (gsB G (tldB (gS G))) b') := by
  obtain ⟨bk, hY_b, hWY, hB1, hWB, hWE, hn180, hEQ, hTp, hfk, hfp, hO⟩ := id hT
  obtain ⟨hb2_b, h12_b, h168_b, h169_b, h170_b, h171_b, h173_b, h172_b, h174_b, h176_b, h178_b, h175_b, h177_b, h179_b, h180_b, h184_b⟩ := id hY_b
  obtain ⟨wR, wD, wW, wT, wL, wC, wdoor, wsym, wWI, wTI, wCl, wRu⟩ := id hWY
  obtain ⟨w8, wWc⟩ := wW
  obtain ⟨t8, wTc⟩ := wT
  obtain ⟨r8, wRc⟩ := wR
  obtain ⟨l30, wLc⟩ := wL
  obtain ⟨c12, wCc⟩ := wC
  obtain ⟨e202, e203, e204, e211, e210, eHis, e212⟩ := id hEQ
  refine Ev.call (k := 1) (pc1 := 1) (L1 := [Vr 166]) (S1 := [Vr 166]) (h1 := ((SHv st dr rd), (ovl a s b))) (m' := 191) (as := [Vr 166]) (S' := []) (L0 := [Vr 166, Vx]) (fun _ => rfl) rfl rfl rfl rfl rfl rfl (m_clears hWY hY_b hO) (fun r h' hq => ?_)
  obtain ⟨rfl, b2, rfl, g1, g2, g3⟩ := hq
  show Ev X _ _ 4 [Vr 166] [] ((SHv st dr rd), (ovl a s b2)) _
  refine Ev.fin (k := 1) (r := none) (h' := ((SHv st dr rd), (ovl a s b2))) (fun _ => rfl) ?_
  exact ⟨rfl, b2, rfl, hT.setB g1 g2 (tldB_wf hWY) g3⟩
theorem g_run {X : List Int} {d : Nat} {st dr rd : Int} {a s b : C3} (n : Int) {G : GST} (hT : TopM G b) : Ev X (d + 6) 203 0 [Vr 166, Vi n] [] (SHv st dr rd, ovl a s b) (fun rr hh => rr = some (Vi (aRun G n)) ∧ ∃ s' b' : C3, hh = (SHv st dr rd, ovl a s' b') ∧ TopM (nRun G n) b') := by
  obtain ⟨bk, hY_b, hWY, hB1, hWB, hWE, hn180, hEQ, hTp, hfk, hfp, hO⟩ := id hT
  obtain ⟨hb2_b, h12_b, h168_b, h169_b, h170_b, h171_b, h173_b, h172_b, h174_b, h176_b, h178_b, h175_b, h177_b, h179_b, h180_b, h184_b⟩ := id hY_b
  obtain ⟨wR, wD, wW, wT, wL, wC, wdoor, wsym, wWI, wTI, wCl, wRu⟩ := id hWY
  obtain ⟨w8, wWc⟩ := wW
  obtain ⟨t8, wTc⟩ := wT
  obtain ⟨r8, wRc⟩ := wR
  obtain ⟨l30, wLc⟩ := wL
  obtain ⟨c12, wCc⟩ := wC
  obtain ⟨e202, e203, e204, e211, e210, eHis, e212⟩ := id hEQ
  unfold aRun nRun
  refine Ev.call (k := 3) (pc1 := 5) (L1 := [Vr 166, Vi n]) (S1 := [Vi 180, Vi 1, Vi n]) (h1 := ((SHv st dr rd), (ovl a s b))) (m' := 189) (as := [Vi n, Vi 1, Vi 180]) (S' := []) (L0 := [Vi n, Vi 1, Vi 180]) (fun _ => rfl) rfl rfl rfl rfl rfl rfl (m_is n 1 180) (fun r h' hq => ?_)
  obtain ⟨rfl, rfl⟩ := hq
  by_cases c5 : 1 ≤ n ∧ n ≤ 180
  · rw [if_pos c5]
    show Ev X _ _ 8 [Vr 166, Vi n] [Vi 1] ((SHv st dr rd), (ovl a s b)) _
    refine Ev.call (k := 4) (pc1 := 16) (L1 := [Vr 166, Vi n]) (S1 := [Vi 0, Vi 1, Vr 166]) (h1 := ((SHv st dr rd), (ovl a s b))) (m' := 204) (as := [Vr 166, Vi 1, Vi 0]) (S' := []) (L0 := [Vr 166, Vi 1, Vi 0, Vx]) (fun _ => rfl) rfl rfl rfl rfl rfl rfl (m_copies 1 0 (by omega) (by omega) (by omega) hO hWY hB1) (fun r h' hq => ?_)
    obtain ⟨rfl, b2, rfl, g1, g2, g3⟩ := hq
    show Ev X _ _ 19 [Vr 166, Vi n] [] ((SHv st dr rd), (ovl a s b2)) _
    obtain ⟨N, rfl⟩ : ∃ N : Nat, n = N := ⟨n.toNat, by omega⟩
    rw [Int.toNat_natCast]
    refine Ev.call (k := 4) (pc1 := 23) (L1 := [Vr 166, Vi (N : Int)]) (S1 := [Vi (N : Int), Vi 0, Vi 0, Vr 166]) (h1 := ((SHv st dr rd), (ovl a s b2))) (m' := 205) (as := [Vr 166, Vi 0, Vi 0, Vi (N : Int)]) (S' := []) (L0 := [Vr 166, Vi 0, Vi 0, Vi (N : Int), Vx, Vx]) (fun _ => rfl) rfl rfl rfl rfl rfl rfl (m_goes 0 0 N hWY hWB (by omega) (by omega) (by omega) (hY_b.fs g1) g2) (fun r h' hq => ?_)
    obtain ⟨rfl, s3, b3, rfl, q1, q2⟩ := hq
    show Ev X _ _ 26 [Vr 166, Vi (N : Int)] [Vi (aftS (gS G) (gB G) N 9 0)] ((SHv st dr rd), (ovl a s3 b3)) _
    refine Ev.fin (k := 1) (r := (some (Vi (aftS (gS G) (gB G) N 9 0)))) (h' := ((SHv st dr rd), (ovl a s3 b3))) (fun _ => rfl) ?_
    rw [if_pos c5, if_pos c5]
    have hr : b3 201 = b2 201 := q2.row (by omega) (by omega)
    refine ⟨rfl, s3, b3, rfl, hT.setE (by omega) (by omega) (fun o i h1 h2 => by rw [q2 o i h1]; exact g1 o i h2) q1 (g2.fr q2) (fun i hi => by rw [hr]; exact g3 i hi)⟩
  · rw [if_neg c5]
    show Ev X _ _ 8 [Vr 166, Vi n] [Vi 0] ((SHv st dr rd), (ovl a s b)) _
    refine Ev.fin (k := 3) (r := (some (Vi (-1)))) (h' := ((SHv st dr rd), (ovl a s b))) (fun _ => rfl) ?_
    rw [if_neg c5, if_neg c5]
    exact ⟨rfl, s, b, rfl, hT⟩
