/-! THE REFERENCE: what spares -/
theorem TopM.ge {G : GST} {b b' : SC} (h : TopM G b) (hf : FrE 1 b b') : TopM G b' := by
  refine h.fx hf.fx (fun i hi => ?_)
  rw [hf.row (o := 201) (by omega) (by omega)]
  obtain ⟨bk, -, -, -, -, -, -, -, -, -, -, hO⟩ := h
  exact hO i hi
theorem chgN_le {S : STY} (h : WfY S) : chgN S ≤ 158 := by
  have h1 := h.1.1
  have h2 := h.2.2.1.1
  have h3 := h.2.2.2.1.1
  have h4 := h.2.2.2.2.1.1
  have h5 : nW S * nR S ≤ 8 * 8 := Nat.mul_le_mul h2 h1
  have h6 : nT S * nR S ≤ 8 * 8 := Nat.mul_le_mul h3 h1
  unfold chgN
  omega
theorem m_spare_l {X : List Int} {d : Nat} {st dr rd : Int} {a s b : C3} (w : Int) {G : GST} (hw : 0 ≤ w ∧ w ≤ 2) (hn0 : 0 < gn G) (hd0 : gA G (gn G) 9 0 ≠ 0) (j : Nat) (hj : j ≤ chgN (gS G)) (hi : ∀ i, i < j → aftS (gS G) (chgB (gS G) (gE G) i) (gn G) 9 0 ≠ 0) (hT : TopM G b) : Ev X (d + 6) 256 24 [Vr 166, Vi w, Vi 1, Vi (j : Int)] [] (SHv st dr rd, ovl a s b) (fun rr hh => rr = some (Vi (aSpare G w)) ∧ ∃ s' b' : C3, hh = (SHv st dr rd, ovl a s' b') ∧ TopM G b') := by
  induction hk : (chgN (gS G) + 1 - j) using Nat.strongRecOn generalizing j s b with
  | ind k ih =>
    obtain ⟨bk, hY_b, hWY, hB1, hWB, hWE, hn180, hEQ, hTp, hfk, hfp, hO⟩ := id hT
    obtain ⟨hb2_b, h12_b, h168_b, h169_b, h170_b, h171_b, h173_b, h172_b, h174_b, h176_b, h178_b, h175_b, h177_b, h179_b, h180_b, h184_b⟩ := id hY_b
    obtain ⟨wR, wD, wW, wT, wL, wC, wdoor, wsym, wWI, wTI, wCl, wRu⟩ := id hWY
    obtain ⟨w8, wWc⟩ := wW
    obtain ⟨t8, wTc⟩ := wT
    obtain ⟨r8, wRc⟩ := wR
    obtain ⟨l30, wLc⟩ := wL
    obtain ⟨c12, wCc⟩ := wC
    obtain ⟨e202, e203, e204, e211, e210, eHis, e212⟩ := id hEQ
    have hc158 := chgN_le hWY
    refine Ev.call (k := 4) (pc1 := 30) (L1 := [Vr 166, Vi w, Vi 1, Vi (j : Int)]) (S1 := [Vi (j : Int), Vr 166]) (h1 := ((SHv st dr rd), (ovl a s b))) (m' := 257) (as := [Vr 166, Vi (j : Int)]) (S' := []) (L0 := [Vr 166, Vi (j : Int), Vx, Vx]) (fun _ => rfl) rfl rfl rfl rfl rfl rfl (m_changes j hT hn0 (by omega)) (fun r0_ h' hq => ?_)
    obtain ⟨v, b2, hv, hR, hh2, hT2⟩ : ∃ (v : Int) (b2 : SC), ((v = 1 ∧ j < chgN (gS G) ∧ RepB (gS G) (chgB (gS G) (gE G) j) b2 2 ∧ b2 166 76 = chgW (gS G) j 0 ∧ b2 166 77 = chgW (gS G) j 1 ∧ b2 166 78 = chgW (gS G) j 2) ∨ (v = 0 ∧ chgN (gS G) ≤ j)) ∧ r0_ = some (Vi v) ∧ h' = (SHv st dr rd, ovl a s b2) ∧ TopM G b2 := by
      obtain ⟨b2, g1, g2, g3⟩ := hq
      rcases g3 with ⟨g3, g4, g5⟩ | ⟨g3, g4⟩
      · exact ⟨1, b2, Or.inl ⟨rfl, g3, g5⟩, g4, g1, g2⟩
      · exact ⟨0, b2, Or.inr ⟨rfl, g3⟩, g4, g1, g2⟩
    subst hR
    subst hh2
    obtain ⟨bk2, hY_b2, -, -, -, -, -, hE2, -⟩ := id hT2
    have e202_b2 := hE2.1
    show Ev X _ _ 33 [Vr 166, Vi w, Vi 1, Vi (j : Int)] [Vi v] ((SHv st dr rd), (ovl a s b2)) _
    refine Ev.ite (P := v = 0) (k := 3) (a := 81) (b := 38) (L' := [Vr 166, Vi w, Vi v, Vi (j : Int)]) (S' := []) (h' := ((SHv st dr rd), (ovl a s b2))) (fun _ => rfl) (fun b35 => ?_) (fun b35 => ?_)
    · refine Ev.steps (k := 1) (pc' := 84) (L' := [Vr 166, Vi w, Vi v, Vi (w32 ((j : Int) + 1))]) (S' := []) (h' := ((SHv st dr rd), (ovl a s b2))) (fun _ => rfl) ?_
      rw [show (w32 ((j : Int) + 1)) = ((j : Int) + 1) from w32_id (by unfold R32; omega)]
      refine Ev.steps (k := 1) (pc' := 24) (L' := [Vr 166, Vi w, Vi v, Vi ((j : Int) + 1)]) (S' := []) (h' := ((SHv st dr rd), (ovl a s b2))) (fun _ => rfl) ?_
      obtain ⟨rfl, hjc⟩ : v = 0 ∧ chgN (gS G) ≤ j := by
        rcases hv with hv | hv
        · omega
        · exact hv
      have hs : sprJ G = chgN (gS G) := lst_no (fun i hi2 => decide_eq_false (hi i (by omega)))
      refine Ev.fin (k := 4) (r := (some (Vi (-1)))) (h' := ((SHv st dr rd), (ovl a s b2))) (fun _ => rfl) ?_
      refine ⟨?_, s, b2, rfl, hT2⟩
      unfold aSpare
      rw [if_neg (fun h => by omega)]
    · obtain ⟨hv1, hjc, hB2, w76, w77, w78⟩ : v = 1 ∧ j < chgN (gS G) ∧ RepB (gS G) (chgB (gS G) (gE G) j) b2 2 ∧ b2 166 76 = chgW (gS G) j 0 ∧ b2 166 77 = chgW (gS G) j 1 ∧ b2 166 78 = chgW (gS G) j 2 := by
        rcases hv with hv | hv
        · exact hv
        · exact absurd hv.1 b35
      refine Ev.steps (k := 7) (pc' := 47) (L' := [Vr 166, Vi w, Vi v, Vi (j : Int)]) (S' := [Vi (b2 202 0), Vi 2, Vi 1, Vr 166]) (h' := ((SHv st dr rd), (ovl a s b2))) (fun _ => rfl) ?_
      rw [e202_b2]
      refine Ev.call (k := 0) (pc1 := 47) (L1 := [Vr 166, Vi w, Vi v, Vi (j : Int)]) (S1 := [Vi ((gn G : Nat) : Int), Vi 2, Vi 1, Vr 166]) (h1 := ((SHv st dr rd), (ovl a s b2))) (m' := 205) (as := [Vr 166, Vi 1, Vi 2, Vi ((gn G : Nat) : Int)]) (S' := []) (L0 := [Vr 166, Vi 1, Vi 2, Vi ((gn G : Nat) : Int), Vx, Vx]) (fun _ => rfl) rfl rfl rfl rfl rfl rfl (m_goes 1 2 (gn G) hWY (chgB_wf hWE hjc) (by omega) (by omega) hn180 hY_b2 hB2) (fun r0_ h' hq => ?_)
      obtain ⟨rfl, s3, b3, rfl, q1, q2⟩ := hq
      have hT3 := hT2.ge q2
      have f76 : b3 166 76 = chgW (gS G) j 0 := by rw [q2 166 76 (by unfold InE; omega)]; exact w76
      have f77 : b3 166 77 = chgW (gS G) j 1 := by rw [q2 166 77 (by unfold InE; omega)]; exact w77
      have f78 : b3 166 78 = chgW (gS G) j 2 := by rw [q2 166 78 (by unfold InE; omega)]; exact w78
      show Ev X _ _ 50 [Vr 166, Vi w, Vi v, Vi (j : Int)] [Vi (aftS (gS G) (chgB (gS G) (gE G) j) (gn G) 9 0)] ((SHv st dr rd), (ovl a s3 b3)) _
      refine Ev.ite (P := (aftS (gS G) (chgB (gS G) (gE G) j) (gn G) 9 0) ≠ 0) (k := 1) (a := 81) (b := 53) (L' := [Vr 166, Vi w, Vi v, Vi (j : Int)]) (S' := []) (h' := ((SHv st dr rd), (ovl a s3 b3))) (fun _ => rfl) (fun b50 => ?_) (fun b50 => ?_)
      · refine Ev.steps (k := 1) (pc' := 84) (L' := [Vr 166, Vi w, Vi v, Vi (w32 ((j : Int) + 1))]) (S' := []) (h' := ((SHv st dr rd), (ovl a s3 b3))) (fun _ => rfl) ?_
        rw [show (w32 ((j : Int) + 1)) = ((j : Int) + 1) from w32_id (by unfold R32; omega)]
        refine Ev.steps (k := 1) (pc' := 24) (L' := [Vr 166, Vi w, Vi v, Vi ((j : Int) + 1)]) (S' := []) (h' := ((SHv st dr rd), (ovl a s3 b3))) (fun _ => rfl) ?_
        rw [hv1]
        exact ih _ (by omega) (s := s3) (b := b3) (j + 1) (by omega) (fun i hi2 => by
          by_cases h : i = j
          · rw [h]
            exact b50
          · exact hi i (by omega)) hT3 rfl
      · refine Ev.ite (P := w ≠ 0) (k := 2) (a := 64) (b := 57) (L' := [Vr 166, Vi w, Vi v, Vi (j : Int)]) (S' := []) (h' := ((SHv st dr rd), (ovl a s3 b3))) (fun _ => rfl) (fun b54 => ?_) (fun b54 => ?_)
        · refine Ev.ite (P := w ≠ 1) (k := 3) (a := 76) (b := 69) (L' := [Vr 166, Vi w, Vi v, Vi (j : Int)]) (S' := []) (h' := ((SHv st dr rd), (ovl a s3 b3))) (fun _ => rfl) (fun b66 => ?_) (fun b66 => ?_)
          · refine Ev.steps (k := 2) (pc' := 80) (L' := [Vr 166, Vi w, Vi v, Vi (j : Int)]) (S' := [Vi (b3 166 78)]) (h' := ((SHv st dr rd), (ovl a s3 b3))) (fun _ => rfl) ?_
            rw [f78]
            refine Ev.fin (k := 1) (r := (some (Vi (chgW (gS G) j 2)))) (h' := ((SHv st dr rd), (ovl a s3 b3))) (fun _ => rfl) ?_
            have hs : sprJ G = j := lst_eq (decide_eq_true (by omega)) (fun i hi2 => decide_eq_false (hi i hi2)) hjc
            refine ⟨?_, s3, b3, rfl, hT3⟩
            unfold aSpare
            rw [if_pos ⟨hw, hd0, by rw [hs]; exact hjc⟩, hs]
            first
              | (rw [show w = 0 by omega]; done)
              | (rw [show w = 1 by omega]; done)
              | (rw [show w = 2 by omega]; done)
          · refine Ev.steps (k := 2) (pc' := 73) (L' := [Vr 166, Vi w, Vi v, Vi (j : Int)]) (S' := [Vi (b3 166 77)]) (h' := ((SHv st dr rd), (ovl a s3 b3))) (fun _ => rfl) ?_
            rw [f77]
            refine Ev.fin (k := 2) (r := (some (Vi (chgW (gS G) j 1)))) (h' := ((SHv st dr rd), (ovl a s3 b3))) (fun _ => rfl) ?_
            have hs : sprJ G = j := lst_eq (decide_eq_true (by omega)) (fun i hi2 => decide_eq_false (hi i hi2)) hjc
            refine ⟨?_, s3, b3, rfl, hT3⟩
            unfold aSpare
            rw [if_pos ⟨hw, hd0, by rw [hs]; exact hjc⟩, hs]
            first
              | (rw [show w = 0 by omega]; done)
              | (rw [show w = 1 by omega]; done)
              | (rw [show w = 2 by omega]; done)
        · refine Ev.steps (k := 2) (pc' := 61) (L' := [Vr 166, Vi w, Vi v, Vi (j : Int)]) (S' := [Vi (b3 166 76)]) (h' := ((SHv st dr rd), (ovl a s3 b3))) (fun _ => rfl) ?_
          rw [f76]
          refine Ev.fin (k := 2) (r := (some (Vi (chgW (gS G) j 0)))) (h' := ((SHv st dr rd), (ovl a s3 b3))) (fun _ => rfl) ?_
          have hs : sprJ G = j := lst_eq (decide_eq_true (by omega)) (fun i hi2 => decide_eq_false (hi i hi2)) hjc
          refine ⟨?_, s3, b3, rfl, hT3⟩
          unfold aSpare
          rw [if_pos ⟨hw, hd0, by rw [hs]; exact hjc⟩, hs]
          first
            | (rw [show w = 0 by omega]; done)
            | (rw [show w = 1 by omega]; done)
            | (rw [show w = 2 by omega]; done)
theorem g_spare {X : List Int} {d : Nat} {st dr rd : Int} {a s b : C3} (w : Int) {G : GST} (hT : TopM G b) : Ev X (d + 6) 256 0 [Vr 166, Vi w, Vx, Vx] [] (SHv st dr rd, ovl a s b) (fun rr hh => rr = some (Vi (aSpare G w)) ∧ ∃ s' b' : C3, hh = (SHv st dr rd, ovl a s' b') ∧ TopM G b') := by
  obtain ⟨bk, hY_b, hWY, hB1, hWB, hWE, hn180, hEQ, hTp, hfk, hfp, hO⟩ := id hT
  obtain ⟨hb2_b, h12_b, h168_b, h169_b, h170_b, h171_b, h173_b, h172_b, h174_b, h176_b, h178_b, h175_b, h177_b, h179_b, h180_b, h184_b⟩ := id hY_b
  obtain ⟨wR, wD, wW, wT, wL, wC, wdoor, wsym, wWI, wTI, wCl, wRu⟩ := id hWY
  obtain ⟨w8, wWc⟩ := wW
  obtain ⟨t8, wTc⟩ := wT
  obtain ⟨r8, wRc⟩ := wR
  obtain ⟨l30, wLc⟩ := wL
  obtain ⟨c12, wCc⟩ := wC
  obtain ⟨e202, e203, e204, e211, e210, eHis, e212⟩ := id hEQ
  refine Ev.call (k := 3) (pc1 := 3) (L1 := [Vr 166, Vi w, Vx, Vx]) (S1 := [Vi 2, Vi 0, Vi w]) (h1 := ((SHv st dr rd), (ovl a s b))) (m' := 189) (as := [Vi w, Vi 0, Vi 2]) (S' := []) (L0 := [Vi w, Vi 0, Vi 2]) (fun _ => rfl) rfl rfl rfl rfl rfl rfl (m_is w 0 2) (fun r0_ h' hq => ?_)
  obtain ⟨rfl, rfl⟩ := hq
  by_cases c3 : 0 ≤ w ∧ w ≤ 2
  · rw [if_pos c3]
    show Ev X _ _ 6 [Vr 166, Vi w, Vx, Vx] [Vi 1] ((SHv st dr rd), (ovl a s b)) _
    refine Ev.steps (k := 5) (pc' := 15) (L' := [Vr 166, Vi w, Vx, Vx]) (S' := [Vi (b 203 0)]) (h' := ((SHv st dr rd), (ovl a s b))) (fun _ => rfl) ?_
    rw [e203]
    refine Ev.ite (P := (gA G (gn G) 9 0) ≠ 0) (k := 1) (a := 20) (b := 18) (L' := [Vr 166, Vi w, Vx, Vx]) (S' := []) (h' := ((SHv st dr rd), (ovl a s b))) (fun _ => rfl) (fun b15 => ?_) (fun b15 => ?_)
    · refine Ev.steps (k := 4) (pc' := 24) (L' := [Vr 166, Vi w, Vi 1, Vi 0]) (S' := []) (h' := ((SHv st dr rd), (ovl a s b))) (fun _ => rfl) ?_
      have hn0 : 0 < gn G := by
        by_cases h : gn G = 0
        · exfalso
          have h2 : gA G (gn G) 9 0 = 0 := by rw [h]; rfl
          omega
        · omega
      exact m_spare_l w c3 hn0 (by omega) 0 (by omega) (fun i h => absurd h (by omega)) hT
    · refine Ev.fin (k := 2) (r := (some (Vi (-1)))) (h' := ((SHv st dr rd), (ovl a s b))) (fun _ => rfl) ?_
      refine ⟨?_, s, b, rfl, hT⟩
      unfold aSpare
      first | rw [if_neg (by exact fun h => c3 h.1)] | rw [if_neg (by exact fun h => h.2.1 (by omega))]
  · rw [if_neg c3]
    show Ev X _ _ 6 [Vr 166, Vi w, Vx, Vx] [Vi 0] ((SHv st dr rd), (ovl a s b)) _
    refine Ev.fin (k := 3) (r := (some (Vi (-1)))) (h' := ((SHv st dr rd), (ovl a s b))) (fun _ => rfl) ?_
    refine ⟨?_, s, b, rfl, hT⟩
    unfold aSpare
    first | rw [if_neg (by exact fun h => c3 h.1)] | rw [if_neg (by exact fun h => h.2.1 (by omega))]
