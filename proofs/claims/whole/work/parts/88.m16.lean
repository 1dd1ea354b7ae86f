/-! THE REFERENCE: a finder's questions, claims -/
theorem spB_fx {b : SC} {x y : Int} : FrX b (spB b x y) := (FrX.rf.up (by unfold InX InE; omega)).up (by unfold InX InE; omega)
theorem TopM.sp {G : GST} {b : SC} (h : TopM G b) (x y : Int) : TopM G (spB b x y) := h.fx spB_fx (by obtain ⟨bk, -, -, -, -, -, -, -, -, -, -, hO⟩ := h; exact hO)
theorem TopM.spx {G : GST} {b b' : SC} {x y : Int} (h : TopM G b) (hX : spB b' x y = spB b x y) : TopM G b' := by
  have hf : FrX b b' := fun o i hn => by
    have h1 := congrFun (congrFun hX o) i
    unfold spB at h1
    rwa [updC_nt (fun hc => hn (by unfold InX InE; omega)), updC_nt (fun hc => hn (by unfold InX InE; omega)), updC_nt (fun hc => hn (by unfold InX InE; omega)), updC_nt (fun hc => hn (by unfold InX InE; omega))] at h1
  have hr : b' 201 = b 201 := by
    funext i
    have h1 := congrFun (congrFun hX 201) i
    exact h1
  refine h.fx hf ?_
  rw [hr]
  obtain ⟨bk, -, -, -, -, -, -, -, -, -, -, hO⟩ := h
  exact hO
theorem TopM.row {G : GST} {b : SC} (h : TopM G b) : RowH (nW (gS G)) (gH G) b 0 (gn G) := by
  obtain ⟨bk, h1, h2, h3, h4, h5, h6, h7, -⟩ := h
  exact h7.2.2.2.2.2.1.row
theorem g_isDead {X : List Int} {d : Nat} {st dr rd : Int} {a s b : C3} (x : Int) {G : GST} (hT : TopM G b) (hx : okW G x) : Ev X (d + 1) 237 0 [Vr 166, Vi 0, Vi x] [] (SHv st dr rd, ovl a s b) (fun rr hh => rr = some (Vi (if 0 < gn G ∧ gA G (gn G) 1 x.toNat = 0 then 1 else 0)) ∧ hh = (SHv st dr rd, ovl a s b)) := by
  obtain ⟨bk, hY_b, hWY, hB1, hWB, hWE, hn180, hEQ, hTp, hfk, hfp, hO⟩ := id hT
  obtain ⟨hb2_b, h12_b, h168_b, h169_b, h170_b, h171_b, h173_b, h172_b, h174_b, h176_b, h178_b, h175_b, h177_b, h179_b, h180_b, h184_b⟩ := id hY_b
  obtain ⟨wR, wD, wW, wT, wL, wC, wdoor, wsym, wWI, wTI, wCl, wRu⟩ := id hWY
  obtain ⟨w8, wWc⟩ := wW
  obtain ⟨t8, wTc⟩ := wT
  obtain ⟨r8, wRc⟩ := wR
  obtain ⟨l30, wLc⟩ := wL
  obtain ⟨c12, wCc⟩ := wC
  obtain ⟨e202, e203, e204, e211, e210, eHis, e212⟩ := id hEQ
  have hrow := hT.row
  refine Ev.steps (k := 4) (pc' := 6) (L' := [Vr 166, Vi 0, Vi x]) (S' := [Vi (b 202 0)]) (h' := ((SHv st dr rd), (ovl a s b))) (fun _ => rfl) ?_
  rw [e202]
  refine Ev.ite (P := ((gn G : Nat) : Int) ≤ 0) (k := 1) (a := 36) (b := 9) (L' := [Vr 166, Vi 0, Vi x]) (S' := []) (h' := ((SHv st dr rd), (ovl a s b))) (fun _ => rfl) (fun b6 => ?_) (fun b6 => ?_)
  · refine Ev.fin (k := 2) (r := (some (Vi 0))) (h' := ((SHv st dr rd), (ovl a s b))) (fun _ => rfl) ?_
    refine ⟨?_, rfl⟩
    first
      | (rw [if_neg (by omega)]; done)
      | (have hx2 : b 206 (1440 * 0 + 8 * (((gn G : Nat) : Int) - 1) + x).toNat = gA G (gn G) 1 x.toNat := by
           have h1 := (hrow (gn G - 1) (by omega) x.toNat (by omega)).2
           rw [show (1440 * 0 + 8 * (((gn G : Nat) : Int) - 1) + x).toNat = 1440 * 0 + 8 * (gn G - 1) + x.toNat by omega, h1]
           show gA G (gn G - 1 + 1) 1 x.toNat = _
           rw [show gn G - 1 + 1 = gn G by omega]
         first
           | rw [if_pos (by omega)]
           | rw [if_neg (by omega)])
  · refine Ev.steps (k := 8) (pc' := 21) (L' := [Vr 166, Vi 0, Vi x]) (S' := [Vi (b 202 0), Vi 0, Vr 166, Vr 206]) (h' := ((SHv st dr rd), (ovl a s b))) (fun _ => rfl) ?_
    rw [e202]
    refine Ev.steps (k := 2) (pc' := 23) (L' := [Vr 166, Vi 0, Vi x]) (S' := [Vi (w32 (((gn G : Nat) : Int) - 1)), Vi 0, Vr 166, Vr 206]) (h' := ((SHv st dr rd), (ovl a s b))) (fun _ => rfl) ?_
    rw [show (w32 (((gn G : Nat) : Int) - 1)) = (((gn G : Nat) : Int) - 1) from w32_id (by unfold R32; omega)]
    refine Ev.call (k := 0) (pc1 := 23) (L1 := [Vr 166, Vi 0, Vi x]) (S1 := [Vi (((gn G : Nat) : Int) - 1), Vi 0, Vr 166, Vr 206]) (h1 := ((SHv st dr rd), (ovl a s b))) (m' := 206) (as := [Vr 166, Vi 0, Vi (((gn G : Nat) : Int) - 1)]) (S' := [Vr 206]) (L0 := [Vr 166, Vi 0, Vi (((gn G : Nat) : Int) - 1)]) (fun _ => rfl) rfl rfl rfl rfl rfl rfl (m_at 0 (((gn G : Nat) : Int) - 1) (by omega) (by omega)) (fun r h' hq => ?_)
    obtain ⟨rfl, rfl⟩ := hq
    show Ev X _ _ 26 [Vr 166, Vi 0, Vi x] [Vi ((1440 * 0) + (8 * (((gn G : Nat) : Int) - 1))), Vr 206] ((SHv st dr rd), (ovl a s b)) _
    refine Ev.steps (k := 2) (pc' := 28) (L' := [Vr 166, Vi 0, Vi x]) (S' := [Vi (w32 (((1440 * 0) + (8 * (((gn G : Nat) : Int) - 1))) + x)), Vr 206]) (h' := ((SHv st dr rd), (ovl a s b))) (fun _ => rfl) ?_
    rw [show (w32 (((1440 * 0) + (8 * (((gn G : Nat) : Int) - 1))) + x)) = (((1440 * 0) + (8 * (((gn G : Nat) : Int) - 1))) + x) from w32_id (by unfold R32; omega)]
    refine Ev.zald (v := (b 206 (((1440 * 0) + (8 * (((gn G : Nat) : Int) - 1))) + x).toNat)) rfl (by decide) rfl (by omega) (by omega) (rfl) ?_
    refine Ev.ite (P := (b 206 (((1440 * 0) + (8 * (((gn G : Nat) : Int) - 1))) + x).toNat) ≠ 0) (k := 1) (a := 36) (b := 32) (L' := [Vr 166, Vi 0, Vi x]) (S' := []) (h' := ((SHv st dr rd), (ovl a s b))) (fun _ => rfl) (fun b29 => ?_) (fun b29 => ?_)
    · refine Ev.fin (k := 2) (r := (some (Vi 0))) (h' := ((SHv st dr rd), (ovl a s b))) (fun _ => rfl) ?_
      refine ⟨?_, rfl⟩
      first
        | (rw [if_neg (by omega)]; done)
        | (have hx2 : b 206 (1440 * 0 + 8 * (((gn G : Nat) : Int) - 1) + x).toNat = gA G (gn G) 1 x.toNat := by
             have h1 := (hrow (gn G - 1) (by omega) x.toNat (by omega)).2
             rw [show (1440 * 0 + 8 * (((gn G : Nat) : Int) - 1) + x).toNat = 1440 * 0 + 8 * (gn G - 1) + x.toNat by omega, h1]
             show gA G (gn G - 1 + 1) 1 x.toNat = _
             rw [show gn G - 1 + 1 = gn G by omega]
           first
             | rw [if_pos (by omega)]
             | rw [if_neg (by omega)])
    · refine Ev.fin (k := 3) (r := (some (Vi 1))) (h' := ((SHv st dr rd), (ovl a s b))) (fun _ => rfl) ?_
      refine ⟨?_, rfl⟩
      first
        | (rw [if_neg (by omega)]; done)
        | (have hx2 : b 206 (1440 * 0 + 8 * (((gn G : Nat) : Int) - 1) + x).toNat = gA G (gn G) 1 x.toNat := by
             have h1 := (hrow (gn G - 1) (by omega) x.toNat (by omega)).2
             rw [show (1440 * 0 + 8 * (((gn G : Nat) : Int) - 1) + x).toNat = 1440 * 0 + 8 * (gn G - 1) + x.toNat by omega, h1]
             show gA G (gn G - 1 + 1) 1 x.toNat = _
             rw [show gn G - 1 + 1 = gn G by omega]
           first
             | rw [if_pos (by omega)]
             | rw [if_neg (by omega)])
theorem g_isVictim {X : List Int} {d : Nat} {st dr rd : Int} {a s b : C3} (x : Int) {G : GST} (hT : TopM G b) : Ev X (d + 2) 236 0 [Vr 166, Vi x] [] (SHv st dr rd, ovl a s b) (fun rr hh => rr = some (Vi (if isV G x then 1 else 0)) ∧ hh = (SHv st dr rd, ovl a s b)) := by
  obtain ⟨bk, hY_b, hWY, hB1, hWB, hWE, hn180, hEQ, hTp, hfk, hfp, hO⟩ := id hT
  obtain ⟨hb2_b, h12_b, h168_b, h169_b, h170_b, h171_b, h173_b, h172_b, h174_b, h176_b, h178_b, h175_b, h177_b, h179_b, h180_b, h184_b⟩ := id hY_b
  obtain ⟨wR, wD, wW, wT, wL, wC, wdoor, wsym, wWI, wTI, wCl, wRu⟩ := id hWY
  obtain ⟨w8, wWc⟩ := wW
  obtain ⟨t8, wTc⟩ := wT
  obtain ⟨r8, wRc⟩ := wR
  obtain ⟨l30, wLc⟩ := wL
  obtain ⟨c12, wCc⟩ := wC
  obtain ⟨e202, e203, e204, e211, e210, eHis, e212⟩ := id hEQ
  refine Ev.call (k := 2) (pc1 := 2) (L1 := [Vr 166, Vi x]) (S1 := [Vi x, Vr 166]) (h1 := ((SHv st dr rd), (ovl a s b))) (m' := 197) (as := [Vr 166, Vi x]) (S' := []) (L0 := [Vr 166, Vi x]) (fun _ => rfl) rfl rfl rfl rfl rfl rfl (m_gWho x hT) (fun r h' hq => ?_)
  obtain ⟨rfl, rfl⟩ := hq
  by_cases c2 : okW G x
  · rw [if_pos c2]
    show Ev X _ _ 5 [Vr 166, Vi x] [Vi 1] ((SHv st dr rd), (ovl a s b)) _
    refine Ev.call (k := 4) (pc1 := 11) (L1 := [Vr 166, Vi x]) (S1 := [Vi x, Vi 0, Vr 166]) (h1 := ((SHv st dr rd), (ovl a s b))) (m' := 237) (as := [Vr 166, Vi 0, Vi x]) (S' := []) (L0 := [Vr 166, Vi 0, Vi x]) (fun _ => rfl) rfl rfl rfl rfl rfl rfl (g_isDead x hT (by omega)) (fun r h' hq => ?_)
    obtain ⟨rfl, rfl⟩ := hq
    by_cases c11 : 0 < gn G ∧ gA G (gn G) 1 x.toNat = 0
    · rw [if_pos c11]
      show Ev X _ _ 14 [Vr 166, Vi x] [Vi 1] ((SHv st dr rd), (ovl a s b)) _
      refine Ev.fin (k := 4) (r := (some (Vi 1))) (h' := ((SHv st dr rd), (ovl a s b))) (fun _ => rfl) ?_
      refine ⟨?_, rfl⟩
      first | rw [if_pos ⟨by assumption, by assumption⟩] | rw [if_neg (by exact fun h => absurd h.2 (by assumption))] | rw [if_neg (by exact fun h => absurd h.1 (by assumption))]
    · rw [if_neg c11]
      show Ev X _ _ 14 [Vr 166, Vi x] [Vi 0] ((SHv st dr rd), (ovl a s b)) _
      refine Ev.fin (k := 3) (r := (some (Vi 0))) (h' := ((SHv st dr rd), (ovl a s b))) (fun _ => rfl) ?_
      refine ⟨?_, rfl⟩
      first | rw [if_pos ⟨by assumption, by assumption⟩] | rw [if_neg (by exact fun h => absurd h.2 (by assumption))] | rw [if_neg (by exact fun h => absurd h.1 (by assumption))]
  · rw [if_neg c2]
    show Ev X _ _ 5 [Vr 166, Vi x] [Vi 0] ((SHv st dr rd), (ovl a s b)) _
    refine Ev.fin (k := 3) (r := (some (Vi 0))) (h' := ((SHv st dr rd), (ovl a s b))) (fun _ => rfl) ?_
    refine ⟨?_, rfl⟩
    first | rw [if_pos ⟨by assumption, by assumption⟩] | rw [if_neg (by exact fun h => absurd h.2 (by assumption))] | rw [if_neg (by exact fun h => absurd h.1 (by assumption))]
theorem g_isSet {X : List Int} {d : Nat} {st dr rd : Int} {a s b : C3} (x : Int) {G : GST} (hT : TopM G b) : Ev X (d + 1) 238 0 [Vr 166, Vi x] [] (SHv st dr rd, ovl a s b) (fun rr hh => rr = some (Vi (if isX (nW (gS G)) x then 1 else 0)) ∧ hh = (SHv st dr rd, ovl a s b)) := by
  obtain ⟨bk, hY_b, hWY, hB1, hWB, hWE, hn180, hEQ, hTp, hfk, hfp, hO⟩ := id hT
  obtain ⟨hb2_b, h12_b, h168_b, h169_b, h170_b, h171_b, h173_b, h172_b, h174_b, h176_b, h178_b, h175_b, h177_b, h179_b, h180_b, h184_b⟩ := id hY_b
  obtain ⟨wR, wD, wW, wT, wL, wC, wdoor, wsym, wWI, wTI, wCl, wRu⟩ := id hWY
  obtain ⟨w8, wWc⟩ := wW
  obtain ⟨t8, wTc⟩ := wT
  obtain ⟨r8, wRc⟩ := wR
  obtain ⟨l30, wLc⟩ := wL
  obtain ⟨c12, wCc⟩ := wC
  obtain ⟨e202, e203, e204, e211, e210, eHis, e212⟩ := id hEQ
  have h1p := Nat.one_le_two_pow (n := nW (gS G))
  refine Ev.ite (P := x < 0) (k := 2) (a := 16) (b := 4) (L' := [Vr 166, Vi x]) (S' := []) (h' := ((SHv st dr rd), (ovl a s b))) (fun _ => rfl) (fun b1 => ?_) (fun b1 => ?_)
  · refine Ev.fin (k := 2) (r := (some (Vi 0))) (h' := ((SHv st dr rd), (ovl a s b))) (fun _ => rfl) ?_
    refine ⟨?_, rfl⟩
    first | rw [if_pos (show isX (nW (gS G)) x from ⟨by omega, by omega⟩)] | rw [if_neg (by exact fun h => by have := h.1; have := h.2; omega)]
  · refine Ev.call (k := 2) (pc1 := 6) (L1 := [Vr 166, Vi x]) (S1 := [Vr 166, Vi x]) (h1 := ((SHv st dr rd), (ovl a s b))) (m' := 239) (as := [Vr 166]) (S' := [Vi x]) (L0 := [Vr 166]) (fun _ => rfl) rfl rfl rfl rfl rfl rfl (m_everybody w8 h12_b h170_b hb2_b) (fun r h' hq => ?_)
    obtain ⟨rfl, rfl⟩ := hq
    show Ev X _ _ 9 [Vr 166, Vi x] [Vi ((2 ^ nW (gS G) - 1 : Nat) : Int), Vi x] ((SHv st dr rd), (ovl a s b)) _
    refine Ev.ite (P := ((2 ^ nW (gS G) - 1 : Nat) : Int) < x) (k := 1) (a := 16) (b := 12) (L' := [Vr 166, Vi x]) (S' := []) (h' := ((SHv st dr rd), (ovl a s b))) (fun _ => rfl) (fun b9 => ?_) (fun b9 => ?_)
    · refine Ev.fin (k := 2) (r := (some (Vi 0))) (h' := ((SHv st dr rd), (ovl a s b))) (fun _ => rfl) ?_
      refine ⟨?_, rfl⟩
      first | rw [if_pos (show isX (nW (gS G)) x from ⟨by omega, by omega⟩)] | rw [if_neg (by exact fun h => by have := h.1; have := h.2; omega)]
    · refine Ev.fin (k := 3) (r := (some (Vi 1))) (h' := ((SHv st dr rd), (ovl a s b))) (fun _ => rfl) ?_
      refine ⟨?_, rfl⟩
      first | rw [if_pos (show isX (nW (gS G)) x from ⟨by omega, by omega⟩)] | rw [if_neg (by exact fun h => by have := h.1; have := h.2; omega)]
theorem g_span {X : List Int} {d : Nat} {st dr rd : Int} {a s b : C3} (x y l : Int) {G : GST} (hT : TopM G b) : Ev X (d + 3) 235 0 [Vr 166, Vi x, Vi y, Vi l] [] (SHv st dr rd, ovl a s b) (fun rr hh => rr = some (Vi (aSpan G x y (decide (l ≠ 0)))) ∧ ∃ b' : C3, hh = (SHv st dr rd, ovl a s b') ∧ TopM G b') := by
  obtain ⟨bk, hY_b, hWY, hB1, hWB, hWE, hn180, hEQ, hTp, hfk, hfp, hO⟩ := id hT
  obtain ⟨hb2_b, h12_b, h168_b, h169_b, h170_b, h171_b, h173_b, h172_b, h174_b, h176_b, h178_b, h175_b, h177_b, h179_b, h180_b, h184_b⟩ := id hY_b
  obtain ⟨wR, wD, wW, wT, wL, wC, wdoor, wsym, wWI, wTI, wCl, wRu⟩ := id hWY
  obtain ⟨w8, wWc⟩ := wW
  obtain ⟨t8, wTc⟩ := wT
  obtain ⟨r8, wRc⟩ := wR
  obtain ⟨l30, wLc⟩ := wL
  obtain ⟨c12, wCc⟩ := wC
  obtain ⟨e202, e203, e204, e211, e210, eHis, e212⟩ := id hEQ
  refine Ev.call (k := 2) (pc1 := 2) (L1 := [Vr 166, Vi x, Vi y, Vi l]) (S1 := [Vi x, Vr 166]) (h1 := ((SHv st dr rd), (ovl a s b))) (m' := 236) (as := [Vr 166, Vi x]) (S' := []) (L0 := [Vr 166, Vi x]) (fun _ => rfl) rfl rfl rfl rfl rfl rfl (g_isVictim x hT) (fun r h' hq => ?_)
  obtain ⟨rfl, rfl⟩ := hq
  by_cases c2 : isV G x
  · rw [if_pos c2]
    show Ev X _ _ 5 [Vr 166, Vi x, Vi y, Vi l] [Vi 1] ((SHv st dr rd), (ovl a s b)) _
    refine Ev.call (k := 3) (pc1 := 10) (L1 := [Vr 166, Vi x, Vi y, Vi l]) (S1 := [Vi y, Vr 166]) (h1 := ((SHv st dr rd), (ovl a s b))) (m' := 238) (as := [Vr 166, Vi y]) (S' := []) (L0 := [Vr 166, Vi y]) (fun _ => rfl) rfl rfl rfl rfl rfl rfl (g_isSet y hT) (fun r h' hq => ?_)
    obtain ⟨rfl, rfl⟩ := hq
    by_cases c10 : isX (nW (gS G)) y
    · rw [if_pos c10]
      show Ev X _ _ 13 [Vr 166, Vi x, Vi y, Vi l] [Vi 1] ((SHv st dr rd), (ovl a s b)) _
      refine Ev.steps (k := 1) (pc' := 18) (L' := [Vr 166, Vi x, Vi y, Vi l]) (S' := []) (h' := ((SHv st dr rd), (ovl a s b))) (fun _ => rfl) ?_
      obtain ⟨N, hN⟩ : ∃ N, gn G = N + 1 := ⟨gn G - 1, by have := c2.2.1; omega⟩
      obtain ⟨v, hv⟩ : ∃ v : Nat, x = v := ⟨x.toNat, by have := c2.1; omega⟩
      have hvW : v < nW (gS G) := by have := c2.1; omega
      have hw8 := pw8 w8
      have hrow := hT.row
      have e202n : b 202 0 = ((N + 1 : Nat) : Int) := by rw [e202, hN]
      rw [hN] at hrow
      subst hv
      obtain ⟨z, hz⟩ : ∃ z : Nat, y = z := ⟨y.toNat, by have := c10.1; omega⟩
      subst hz
      have hz8 : z < 256 := by have := c10.2; omega
      have hhl := hrdF_lt (gH G) N z (nW (gS G))
      have hans : aSpan G (v : Int) (z : Int) (decide (l ≠ 0)) = if decide (l ≠ 0) = true then ((sptF (nW (gS G)) (gH G) N (hrdF (gH G) N z (nW (gS G))) v : Nat) : Int) else ((spfF (nW (gS G)) (gH G) (hrdF (gH G) N z (nW (gS G))) v (N + 1) : Nat) : Int) := by
        unfold aSpan
        rw [if_pos ⟨c2, c10⟩]
        unfold gY
        rw [Int.toNat_natCast, Int.toNat_natCast, hN, Nat.add_sub_cancel]
      rw [hans]
      refine Ev.call (k := 6) (pc1 := 24) (L1 := [Vr 166, Vi (v : Int), Vi (z : Int), Vi l]) (S1 := [Vi (z : Int), Vi 0, Vr 166, Vi (v : Int), Vi 0, Vr 166]) (h1 := ((SHv st dr rd), (ovl a s b))) (m' := 240) (as := [Vr 166, Vi 0, Vi (z : Int)]) (S' := [Vi (v : Int), Vi 0, Vr 166]) (L0 := [Vr 166, Vi 0, Vi (z : Int), Vx, Vx]) (fun _ => rfl) rfl rfl rfl rfl rfl rfl (m_heard z (e := 0) w8 hb2_b (by omega) (by omega) h12_b h170_b e202n hrow hz8) (fun r h' hq => ?_)
      obtain ⟨rfl, rfl⟩ := hq
      show Ev X _ _ 27 [Vr 166, Vi (v : Int), Vi (z : Int), Vi l] [Vi ((hrdF (gH G) N z (nW (gS G)) : Nat) : Int), Vi (v : Int), Vi 0, Vr 166] ((SHv st dr rd), (ovl a s b)) _
      refine Ev.call (k := 0) (pc1 := 27) (L1 := [Vr 166, Vi (v : Int), Vi (z : Int), Vi l]) (S1 := [Vi ((hrdF (gH G) N z (nW (gS G)) : Nat) : Int), Vi (v : Int), Vi 0, Vr 166]) (h1 := ((SHv st dr rd), (ovl a s b))) (m' := 241) (as := [Vr 166, Vi 0, Vi (v : Int), Vi ((hrdF (gH G) N z (nW (gS G)) : Nat) : Int)]) (S' := []) (L0 := [Vr 166, Vi 0, Vi (v : Int), Vi ((hrdF (gH G) N z (nW (gS G)) : Nat) : Int), Vx, Vx, Vx]) (fun _ => rfl) rfl rfl rfl rfl rfl rfl (m_spans (hrdF (gH G) N z (nW (gS G))) v (e := 0) w8 hb2_b (by omega) (by omega) h12_b h170_b e202n hrow (by omega) hvW) (fun r h' hq => ?_)
      obtain ⟨rfl, hh1⟩ := hq
      obtain ⟨b3, hb3⟩ : ∃ b3, b3 = spB b ((spfF (nW (gS G)) (gH G) (hrdF (gH G) N z (nW (gS G))) v (N + 1) : Nat) : Int) ((sptF (nW (gS G)) (gH G) N (hrdF (gH G) N z (nW (gS G))) v : Nat) : Int) := ⟨_, rfl⟩
      rw [← hb3] at hh1
      subst hh1
      show Ev X _ _ 30 [Vr 166, Vi (v : Int), Vi (z : Int), Vi l] [] ((SHv st dr rd), (ovl a s b3)) _
      refine Ev.ite (P := l = 0) (k := 2) (a := 41) (b := 34) (L' := [Vr 166, Vi (v : Int), Vi (z : Int), Vi l]) (S' := []) (h' := ((SHv st dr rd), (ovl a s b3))) (fun _ => rfl) (fun b31 => ?_) (fun b31 => ?_)
      · refine Ev.steps (k := 2) (pc' := 45) (L' := [Vr 166, Vi (v : Int), Vi (z : Int), Vi l]) (S' := [Vi (b3 166 72)]) (h' := ((SHv st dr rd), (ovl a s b3))) (fun _ => rfl) ?_
        rw [(show (b3 166 72) = _ by rw [hb3]; first | done | exact spB_r72)]
        refine Ev.fin (k := 1) (r := (some (Vi ((spfF (nW (gS G)) (gH G) (hrdF (gH G) N z (nW (gS G))) v (N + 1) : Nat) : Int)))) (h' := ((SHv st dr rd), (ovl a s b3))) (fun _ => rfl) ?_
        refine ⟨?_, b3, rfl, by rw [hb3]; exact hT.sp _ _⟩
        first | rw [if_pos (by exact decide_eq_true (by omega))] | rw [if_neg (by exact fun h => absurd (of_decide_eq_true h) (by omega))]
      · refine Ev.steps (k := 2) (pc' := 38) (L' := [Vr 166, Vi (v : Int), Vi (z : Int), Vi l]) (S' := [Vi (b3 166 73)]) (h' := ((SHv st dr rd), (ovl a s b3))) (fun _ => rfl) ?_
        rw [(show (b3 166 73) = _ by rw [hb3]; first | done | exact spB_r73)]
        refine Ev.fin (k := 2) (r := (some (Vi ((sptF (nW (gS G)) (gH G) N (hrdF (gH G) N z (nW (gS G))) v : Nat) : Int)))) (h' := ((SHv st dr rd), (ovl a s b3))) (fun _ => rfl) ?_
        refine ⟨?_, b3, rfl, by rw [hb3]; exact hT.sp _ _⟩
        first | rw [if_pos (by exact decide_eq_true (by omega))] | rw [if_neg (by exact fun h => absurd (of_decide_eq_true h) (by omega))]
    · rw [if_neg c10]
      show Ev X _ _ 13 [Vr 166, Vi x, Vi y, Vi l] [Vi 0] ((SHv st dr rd), (ovl a s b)) _
      refine Ev.fin (k := 3) (r := (some (Vi (-1)))) (h' := ((SHv st dr rd), (ovl a s b))) (fun _ => rfl) ?_
      refine ⟨?_, b, rfl, hT⟩
      unfold aSpan
      first | rw [if_neg (by exact fun h => absurd h.2 (by assumption))] | rw [if_neg (by exact fun h => absurd h.1 (by assumption))]
  · rw [if_neg c2]
    show Ev X _ _ 5 [Vr 166, Vi x, Vi y, Vi l] [Vi 0] ((SHv st dr rd), (ovl a s b)) _
    refine Ev.fin (k := 3) (r := (some (Vi (-1)))) (h' := ((SHv st dr rd), (ovl a s b))) (fun _ => rfl) ?_
    refine ⟨?_, b, rfl, hT⟩
    unfold aSpan
    first | rw [if_neg (by exact fun h => absurd h.2 (by assumption))] | rw [if_neg (by exact fun h => absurd h.1 (by assumption))]
theorem g_least {X : List Int} {d : Nat} {st dr rd : Int} {a s b : C3} (x l : Int) {G : GST} (hT : TopM G b) : Ev X (d + 5) 245 0 [Vr 166, Vi x, Vi l, Vx] [] (SHv st dr rd, ovl a s b) (fun rr hh => rr = some (Vi (aLeast G x (decide (l ≠ 0)))) ∧ ∃ b' : C3, hh = (SHv st dr rd, ovl a s b') ∧ TopM G b') := by
  obtain ⟨bk, hY_b, hWY, hB1, hWB, hWE, hn180, hEQ, hTp, hfk, hfp, hO⟩ := id hT
  obtain ⟨hb2_b, h12_b, h168_b, h169_b, h170_b, h171_b, h173_b, h172_b, h174_b, h176_b, h178_b, h175_b, h177_b, h179_b, h180_b, h184_b⟩ := id hY_b
  obtain ⟨wR, wD, wW, wT, wL, wC, wdoor, wsym, wWI, wTI, wCl, wRu⟩ := id hWY
  obtain ⟨w8, wWc⟩ := wW
  obtain ⟨t8, wTc⟩ := wT
  obtain ⟨r8, wRc⟩ := wR
  obtain ⟨l30, wLc⟩ := wL
  obtain ⟨c12, wCc⟩ := wC
  obtain ⟨e202, e203, e204, e211, e210, eHis, e212⟩ := id hEQ
  refine Ev.call (k := 2) (pc1 := 2) (L1 := [Vr 166, Vi x, Vi l, Vx]) (S1 := [Vi x, Vr 166]) (h1 := ((SHv st dr rd), (ovl a s b))) (m' := 236) (as := [Vr 166, Vi x]) (S' := []) (L0 := [Vr 166, Vi x]) (fun _ => rfl) rfl rfl rfl rfl rfl rfl (g_isVictim x hT) (fun r h' hq => ?_)
  obtain ⟨rfl, rfl⟩ := hq
  by_cases c2 : isV G x
  · rw [if_pos c2]
    show Ev X _ _ 5 [Vr 166, Vi x, Vi l, Vx] [Vi 1] ((SHv st dr rd), (ovl a s b)) _
    refine Ev.steps (k := 1) (pc' := 10) (L' := [Vr 166, Vi x, Vi l, Vx]) (S' := []) (h' := ((SHv st dr rd), (ovl a s b))) (fun _ => rfl) ?_
    obtain ⟨N, hN⟩ : ∃ N, gn G = N + 1 := ⟨gn G - 1, by have := c2.2.1; omega⟩
    obtain ⟨v, hv⟩ : ∃ v : Nat, x = v := ⟨x.toNat, by have := c2.1; omega⟩
    have hvW : v < nW (gS G) := by have := c2.1; omega
    have hw8 := pw8 w8
    have hrow := hT.row
    have e202n : b 202 0 = ((N + 1 : Nat) : Int) := by rw [e202, hN]
    rw [hN] at hrow
    subst hv
    have hans : aLeast G (v : Int) (decide (l ≠ 0)) = if lstF (nW (gS G)) (gH G) N v = -1 ∨ decide (l ≠ 0) = true then lstF (nW (gS G)) (gH G) N v else ((bcS (lstF (nW (gS G)) (gH G) N v).toNat : Nat) : Int) := by
      unfold aLeast
      rw [if_pos c2, Int.toNat_natCast, hN, Nat.add_sub_cancel]
    rw [hans]
    have hlb := lsF_b (W := nW (gS G)) (H := gH G) (N := N) (v := v) (2 ^ nW (gS G))
    have hlb2 : lstF (nW (gS G)) (gH G) N v = lsF (nW (gS G)) (gH G) N v (2 ^ nW (gS G)) := rfl
    refine Ev.call (k := 3) (pc1 := 13) (L1 := [Vr 166, Vi (v : Int), Vi l, Vx]) (S1 := [Vi (v : Int), Vi 0, Vr 166]) (h1 := ((SHv st dr rd), (ovl a s b))) (m' := 246) (as := [Vr 166, Vi 0, Vi (v : Int)]) (S' := []) (L0 := [Vr 166, Vi 0, Vi (v : Int), Vx, Vx]) (fun _ => rfl) rfl rfl rfl rfl rfl rfl (m_least v (e := 0) w8 hb2_b (by omega) (by omega) h12_b h170_b e202n hrow hvW) (fun r h' hq => ?_)
    obtain ⟨rfl, b3, rfl, X1, X2, hX⟩ := hq
    have hT3 : TopM G b3 := hT.spx hX
    
    show Ev X _ _ 16 [Vr 166, Vi (v : Int), Vi l, Vx] [Vi (lstF (nW (gS G)) (gH G) N v)] ((SHv st dr rd), (ovl a s b3)) _
    refine Ev.ite (P := (lstF (nW (gS G)) (gH G) N v) = (-1)) (k := 4) (a := 26) (b := 22) (L' := [Vr 166, Vi (v : Int), Vi l, Vi (lstF (nW (gS G)) (gH G) N v)]) (S' := []) (h' := ((SHv st dr rd), (ovl a s b3))) (fun _ => rfl) (fun b19 => ?_) (fun b19 => ?_)
    · refine Ev.fin (k := 3) (r := (some (Vi (lstF (nW (gS G)) (gH G) N v)))) (h' := ((SHv st dr rd), (ovl a s b3))) (fun _ => rfl) ?_
      refine ⟨?_, b3, rfl, hT3⟩
      first | rw [if_pos (by exact Or.inl (by omega))] | rw [if_pos (by exact Or.inr (decide_eq_true (by omega)))] | rw [if_neg (by exact fun h => h.elim (by omega) (fun h => absurd (of_decide_eq_true h) (by omega)))]
    · refine Ev.ite (P := l = 0) (k := 2) (a := 30) (b := 26) (L' := [Vr 166, Vi (v : Int), Vi l, Vi (lstF (nW (gS G)) (gH G) N v)]) (S' := []) (h' := ((SHv st dr rd), (ovl a s b3))) (fun _ => rfl) (fun b23 => ?_) (fun b23 => ?_)
      · refine Ev.call (k := 1) (pc1 := 31) (L1 := [Vr 166, Vi (v : Int), Vi l, Vi (lstF (nW (gS G)) (gH G) N v)]) (S1 := [Vi (lstF (nW (gS G)) (gH G) N v)]) (h1 := ((SHv st dr rd), (ovl a s b3))) (m' := 247) (as := [Vi (lstF (nW (gS G)) (gH G) N v)]) (S' := []) (L0 := [Vi (lstF (nW (gS G)) (gH G) N v), Vx, Vx]) (fun _ => rfl) rfl rfl rfl rfl rfl rfl (m_bitsI (lstF (nW (gS G)) (gH G) N v) (by omega)) (fun r h' hq => ?_)
        obtain ⟨rfl, rfl⟩ := hq
        show Ev X _ _ 34 [Vr 166, Vi (v : Int), Vi l, Vi (lstF (nW (gS G)) (gH G) N v)] [Vi ((bcS (lstF (nW (gS G)) (gH G) N v).toNat : Nat) : Int)] ((SHv st dr rd), (ovl a s b3)) _
        refine Ev.fin (k := 1) (r := (some (Vi ((bcS (lstF (nW (gS G)) (gH G) N v).toNat : Nat) : Int)))) (h' := ((SHv st dr rd), (ovl a s b3))) (fun _ => rfl) ?_
        refine ⟨?_, b3, rfl, hT3⟩
        first | rw [if_pos (by exact Or.inl (by omega))] | rw [if_pos (by exact Or.inr (decide_eq_true (by omega)))] | rw [if_neg (by exact fun h => h.elim (by omega) (fun h => absurd (of_decide_eq_true h) (by omega)))]
      · refine Ev.fin (k := 3) (r := (some (Vi (lstF (nW (gS G)) (gH G) N v)))) (h' := ((SHv st dr rd), (ovl a s b3))) (fun _ => rfl) ?_
        refine ⟨?_, b3, rfl, hT3⟩
        first | rw [if_pos (by exact Or.inl (by omega))] | rw [if_pos (by exact Or.inr (decide_eq_true (by omega)))] | rw [if_neg (by exact fun h => h.elim (by omega) (fun h => absurd (of_decide_eq_true h) (by omega)))]
  · rw [if_neg c2]
    show Ev X _ _ 5 [Vr 166, Vi x, Vi l, Vx] [Vi 0] ((SHv st dr rd), (ovl a s b)) _
    refine Ev.fin (k := 3) (r := (some (Vi (-1)))) (h' := ((SHv st dr rd), (ovl a s b))) (fun _ => rfl) ?_
    refine ⟨?_, b, rfl, hT⟩
    unfold aLeast
    rw [if_neg (by assumption)]
theorem g_fair {X : List Int} {d : Nat} {st dr rd : Int} {a s b : C3} (x : Int) {G : GST} (hT : TopM G b) : Ev X (d + 5) 248 0 [Vr 166, Vi x] [] (SHv st dr rd, ovl a s b) (fun rr hh => rr = some (Vi (aFair G x)) ∧ ∃ b' : C3, hh = (SHv st dr rd, ovl a s b') ∧ TopM G b') := by
  obtain ⟨bk, hY_b, hWY, hB1, hWB, hWE, hn180, hEQ, hTp, hfk, hfp, hO⟩ := id hT
  obtain ⟨hb2_b, h12_b, h168_b, h169_b, h170_b, h171_b, h173_b, h172_b, h174_b, h176_b, h178_b, h175_b, h177_b, h179_b, h180_b, h184_b⟩ := id hY_b
  obtain ⟨wR, wD, wW, wT, wL, wC, wdoor, wsym, wWI, wTI, wCl, wRu⟩ := id hWY
  obtain ⟨w8, wWc⟩ := wW
  obtain ⟨t8, wTc⟩ := wT
  obtain ⟨r8, wRc⟩ := wR
  obtain ⟨l30, wLc⟩ := wL
  obtain ⟨c12, wCc⟩ := wC
  obtain ⟨e202, e203, e204, e211, e210, eHis, e212⟩ := id hEQ
  refine Ev.call (k := 2) (pc1 := 2) (L1 := [Vr 166, Vi x]) (S1 := [Vi x, Vr 166]) (h1 := ((SHv st dr rd), (ovl a s b))) (m' := 236) (as := [Vr 166, Vi x]) (S' := []) (L0 := [Vr 166, Vi x]) (fun _ => rfl) rfl rfl rfl rfl rfl rfl (g_isVictim x hT) (fun r h' hq => ?_)
  obtain ⟨rfl, rfl⟩ := hq
  by_cases c2 : isV G x
  · rw [if_pos c2]
    show Ev X _ _ 5 [Vr 166, Vi x] [Vi 1] ((SHv st dr rd), (ovl a s b)) _
    refine Ev.steps (k := 1) (pc' := 12) (L' := [Vr 166, Vi x]) (S' := []) (h' := ((SHv st dr rd), (ovl a s b))) (fun _ => rfl) ?_
    obtain ⟨N, hN⟩ : ∃ N, gn G = N + 1 := ⟨gn G - 1, by have := c2.2.1; omega⟩
    obtain ⟨v, hv⟩ : ∃ v : Nat, x = v := ⟨x.toNat, by have := c2.1; omega⟩
    have hvW : v < nW (gS G) := by have := c2.1; omega
    have hw8 := pw8 w8
    have hrow := hT.row
    have e202n : b 202 0 = ((N + 1 : Nat) : Int) := by rw [e202, hN]
    rw [hN] at hrow
    subst hv
    have hans : aFair G (v : Int) = if FairF (nW (gS G)) (gH G) N v then 1 else 0 := by
      unfold aFair
      rw [if_pos c2, Int.toNat_natCast, hN, Nat.add_sub_cancel]
    rw [hans]
    refine Ev.call (k := 3) (pc1 := 15) (L1 := [Vr 166, Vi (v : Int)]) (S1 := [Vi (v : Int), Vi 0, Vr 166]) (h1 := ((SHv st dr rd), (ovl a s b))) (m' := 249) (as := [Vr 166, Vi 0, Vi (v : Int)]) (S' := []) (L0 := [Vr 166, Vi 0, Vi (v : Int)]) (fun _ => rfl) rfl rfl rfl rfl rfl rfl (m_isFair v (e := 0) w8 hb2_b (by omega) (by omega) h12_b h170_b e202n hrow hvW) (fun r h' hq => ?_)
    obtain ⟨rfl, X1, X2, rfl⟩ := hq
    by_cases c15 : FairF (nW (gS G)) (gH G) N v
    · rw [if_pos c15]
      show Ev X _ _ 18 [Vr 166, Vi (v : Int)] [Vi 1] ((SHv st dr rd), (ovl a s (spB b X1 X2))) _
      refine Ev.fin (k := 4) (r := (some (Vi 1))) (h' := ((SHv st dr rd), (ovl a s (spB b X1 X2)))) (fun _ => rfl) ?_
      exact ⟨rfl, _, rfl, hT.sp _ _⟩
    · rw [if_neg c15]
      show Ev X _ _ 18 [Vr 166, Vi (v : Int)] [Vi 0] ((SHv st dr rd), (ovl a s (spB b X1 X2))) _
      refine Ev.fin (k := 3) (r := (some (Vi 0))) (h' := ((SHv st dr rd), (ovl a s (spB b X1 X2)))) (fun _ => rfl) ?_
      exact ⟨rfl, _, rfl, hT.sp _ _⟩
  · rw [if_neg c2]
    show Ev X _ _ 5 [Vr 166, Vi x] [Vi 0] ((SHv st dr rd), (ovl a s b)) _
    refine Ev.fin (k := 4) (r := (some (Vi (-1)))) (h' := ((SHv st dr rd), (ovl a s b))) (fun _ => rfl) ?_
    refine ⟨?_, b, rfl, hT⟩
    unfold aFair
    rw [if_neg (by assumption)]
theorem g_could {X : List Int} {d : Nat} {st dr rd : Int} {a s b : C3} (x y r : Int) {G : GST} (hT : TopM G b) : Ev X (d + 4) 242 0 [Vr 166, Vi x, Vi y, Vi r] [] (SHv st dr rd, ovl a s b) (fun rr hh => rr = some (Vi (aCould G x y r)) ∧ ∃ b' : C3, hh = (SHv st dr rd, ovl a s b') ∧ TopM G b') := by
  obtain ⟨bk, hY_b, hWY, hB1, hWB, hWE, hn180, hEQ, hTp, hfk, hfp, hO⟩ := id hT
  obtain ⟨hb2_b, h12_b, h168_b, h169_b, h170_b, h171_b, h173_b, h172_b, h174_b, h176_b, h178_b, h175_b, h177_b, h179_b, h180_b, h184_b⟩ := id hY_b
  obtain ⟨wR, wD, wW, wT, wL, wC, wdoor, wsym, wWI, wTI, wCl, wRu⟩ := id hWY
  obtain ⟨w8, wWc⟩ := wW
  obtain ⟨t8, wTc⟩ := wT
  obtain ⟨r8, wRc⟩ := wR
  obtain ⟨l30, wLc⟩ := wL
  obtain ⟨c12, wCc⟩ := wC
  obtain ⟨e202, e203, e204, e211, e210, eHis, e212⟩ := id hEQ
  have hr8 := pw8 r8
  have hr1 := Nat.one_le_two_pow (n := nR (gS G))
  refine Ev.call (k := 2) (pc1 := 2) (L1 := [Vr 166, Vi x, Vi y, Vi r]) (S1 := [Vi x, Vr 166]) (h1 := ((SHv st dr rd), (ovl a s b))) (m' := 236) (as := [Vr 166, Vi x]) (S' := []) (L0 := [Vr 166, Vi x]) (fun _ => rfl) rfl rfl rfl rfl rfl rfl (g_isVictim x hT) (fun r h' hq => ?_)
  obtain ⟨rfl, rfl⟩ := hq
  by_cases c2 : isV G x
  · rw [if_pos c2]
    show Ev X _ _ 5 [Vr 166, Vi x, Vi y, Vi r] [Vi 1] ((SHv st dr rd), (ovl a s b)) _
    refine Ev.call (k := 3) (pc1 := 10) (L1 := [Vr 166, Vi x, Vi y, Vi r]) (S1 := [Vi y, Vr 166]) (h1 := ((SHv st dr rd), (ovl a s b))) (m' := 238) (as := [Vr 166, Vi y]) (S' := []) (L0 := [Vr 166, Vi y]) (fun _ => rfl) rfl rfl rfl rfl rfl rfl (g_isSet y hT) (fun r h' hq => ?_)
    obtain ⟨rfl, rfl⟩ := hq
    by_cases c10 : isX (nW (gS G)) y
    · rw [if_pos c10]
      show Ev X _ _ 13 [Vr 166, Vi x, Vi y, Vi r] [Vi 1] ((SHv st dr rd), (ovl a s b)) _
      refine Ev.ite (P := r < 0) (k := 3) (a := 35) (b := 20) (L' := [Vr 166, Vi x, Vi y, Vi r]) (S' := []) (h' := ((SHv st dr rd), (ovl a s b))) (fun _ => rfl) (fun b17 => ?_) (fun b17 => ?_)
      · refine Ev.fin (k := 2) (r := (some (Vi (-1)))) (h' := ((SHv st dr rd), (ovl a s b))) (fun _ => rfl) ?_
        refine ⟨?_, b, rfl, hT⟩
        unfold aCould
        first | rw [if_neg (by exact fun h => absurd h.1 (by assumption))] | rw [if_neg (by exact fun h => absurd h.2.1 (by assumption))] | rw [if_neg (by exact fun h => by have h1 := h.2.2.1.1; have h2 := h.2.2.1.2; omega)]
      · refine Ev.steps (k := 6) (pc' := 30) (L' := [Vr 166, Vi x, Vi y, Vi r]) (S' := [Vi (b 166 12), Vr 168, Vi 1, Vi r]) (h' := ((SHv st dr rd), (ovl a s b))) (fun _ => rfl) ?_
        rw [h12_b]
        refine Ev.iald (v := ((nR (gS G) : Nat) : Int)) rfl (by decide) rfl (by omega) (by omega) (h168_b) ?_
        refine Ev.steps (k := 1) (pc' := 32) (L' := [Vr 166, Vi x, Vi y, Vi r]) (S' := [Vi (i_shl 1 ((nR (gS G) : Nat) : Int)), Vi r]) (h' := ((SHv st dr rd), (ovl a s b))) (fun _ => rfl) ?_
        rw [show (i_shl 1 ((nR (gS G) : Nat) : Int)) = ((2 ^ nR (gS G) : Nat) : Int) from i_shl1 (by omega)]
        refine Ev.ite (P := r < ((2 ^ nR (gS G) : Nat) : Int)) (k := 1) (a := 37) (b := 35) (L' := [Vr 166, Vi x, Vi y, Vi r]) (S' := []) (h' := ((SHv st dr rd), (ovl a s b))) (fun _ => rfl) (fun b32 => ?_) (fun b32 => ?_)
        · obtain ⟨N, hN⟩ : ∃ N, gn G = N + 1 := ⟨gn G - 1, by have := c2.2.1; omega⟩
          obtain ⟨v, hv⟩ : ∃ v : Nat, x = v := ⟨x.toNat, by have := c2.1; omega⟩
          have hvW : v < nW (gS G) := by have := c2.1; omega
          have hw8 := pw8 w8
          have hrow := hT.row
          have e202n : b 202 0 = ((N + 1 : Nat) : Int) := by rw [e202, hN]
          rw [hN] at hrow
          subst hv
          obtain ⟨z, hz⟩ : ∃ z : Nat, y = z := ⟨y.toNat, by have := c10.1; omega⟩
          subst hz
          have hz8 : z < 256 := by have := c10.2; omega
          obtain ⟨q, hq_⟩ : ∃ q : Nat, r = q := ⟨r.toNat, by omega⟩
          subst hq_
          have hk0 : 0 ≤ gA G (gn G) 0 v ∧ gA G (gn G) 0 v < nR (gS G) := (aftS_wf hWY hWE (gn G) hn180).1.1 v hvW
          obtain ⟨rm, hrm⟩ : ∃ rm : Nat, gA G (gn G) 0 v = rm := ⟨(gA G (gn G) 0 v).toNat, by omega⟩
          have hrm2 : gA G (N + 1) 0 v = rm := by rw [← hN]; exact hrm
          have hrm8 : rm < 8 := by have h1 : gA G (gn G) 0 v < nR (gS G) := hk0.2; omega
          have hans : aCould G (v : Int) (z : Int) (q : Int) = if q.testBit rm = true then ((cldF (nW (gS G)) (gH G) N (hrdF (gH G) N z (nW (gS G))) v (nW (gS G)) : Nat) : Int) else -1 := by
            unfold aCould
            by_cases hb : q.testBit rm = true
            · rw [if_pos hb, if_pos ⟨c2, c10, ⟨by omega, by omega⟩, by rw [Int.toNat_natCast, Int.toNat_natCast, hrm, Int.toNat_natCast]; exact hb⟩]
              unfold gY
              rw [Int.toNat_natCast, Int.toNat_natCast, hN, Nat.add_sub_cancel]
            · rw [if_neg hb, if_neg (fun h => hb (by
                have h4 := h.2.2.2
                rw [Int.toNat_natCast, Int.toNat_natCast, hrm, Int.toNat_natCast] at h4
                exact h4))]
          rw [hans]
          refine Ev.steps (k := 9) (pc' := 50) (L' := [Vr 166, Vi (v : Int), Vi (z : Int), Vi (q : Int)]) (S' := [Vi (b 202 0), Vi 0, Vr 166, Vr 205, Vi (q : Int)]) (h' := ((SHv st dr rd), (ovl a s b))) (fun _ => rfl) ?_
          rw [e202n]
          refine Ev.steps (k := 2) (pc' := 52) (L' := [Vr 166, Vi (v : Int), Vi (z : Int), Vi (q : Int)]) (S' := [Vi (w32 (((N + 1 : Nat) : Int) - 1)), Vi 0, Vr 166, Vr 205, Vi (q : Int)]) (h' := ((SHv st dr rd), (ovl a s b))) (fun _ => rfl) ?_
          rw [show (w32 (((N + 1 : Nat) : Int) - 1)) = (N : Int) from by unfold w32; omega]
          refine Ev.call (k := 0) (pc1 := 52) (L1 := [Vr 166, Vi (v : Int), Vi (z : Int), Vi (q : Int)]) (S1 := [Vi (N : Int), Vi 0, Vr 166, Vr 205, Vi (q : Int)]) (h1 := ((SHv st dr rd), (ovl a s b))) (m' := 206) (as := [Vr 166, Vi 0, Vi (N : Int)]) (S' := [Vr 205, Vi (q : Int)]) (L0 := [Vr 166, Vi 0, Vi (N : Int)]) (fun _ => rfl) rfl rfl rfl rfl rfl rfl (m_at 0 (N : Int) (by omega) (by omega)) (fun r h' hq => ?_)
          obtain ⟨rfl, rfl⟩ := hq
          show Ev X _ _ 55 [Vr 166, Vi (v : Int), Vi (z : Int), Vi (q : Int)] [Vi ((1440 * 0) + (8 * (N : Int))), Vr 205, Vi (q : Int)] ((SHv st dr rd), (ovl a s b)) _
          refine Ev.steps (k := 2) (pc' := 57) (L' := [Vr 166, Vi (v : Int), Vi (z : Int), Vi (q : Int)]) (S' := [Vi (w32 (((1440 * 0) + (8 * (N : Int))) + (v : Int))), Vr 205, Vi (q : Int)]) (h' := ((SHv st dr rd), (ovl a s b))) (fun _ => rfl) ?_
          rw [show (w32 (((1440 * 0) + (8 * (N : Int))) + (v : Int))) = (((1440 * 0) + (8 * (N : Int))) + (v : Int)) from w32_id (by unfold R32; omega)]
          refine Ev.iald (v := (rm : Int)) rfl (by decide) rfl (by omega) (by omega) ((show (b 205 (((1440 * 0 + 8 * N) + v))) = _ by rw [(hrow N (by omega) v hvW).1]; exact hrm2)) ?_
          refine Ev.steps (k := 3) (pc' := 61) (L' := [Vr 166, Vi (v : Int), Vi (z : Int), Vi (q : Int)]) (S' := [Vi (i_and (i_shr (q : Int) (rm : Int)) 1)]) (h' := ((SHv st dr rd), (ovl a s b))) (fun _ => rfl) ?_
          rw [show (i_and (i_shr (q : Int) (rm : Int)) 1) = (if q.testBit rm = true then 1 else 0) from i_bit (by omega) (by omega)]
          refine Ev.ite (P := (if q.testBit rm = true then 1 else 0) ≠ 0) (k := 1) (a := 68) (b := 64) (L' := [Vr 166, Vi (v : Int), Vi (z : Int), Vi (q : Int)]) (S' := []) (h' := ((SHv st dr rd), (ovl a s b))) (fun _ => rfl) (fun b61 => ?_) (fun b61 => ?_)
          · refine Ev.call (k := 4) (pc1 := 72) (L1 := [Vr 166, Vi (v : Int), Vi (z : Int), Vi (q : Int)]) (S1 := [Vi (z : Int), Vi (v : Int), Vi 0, Vr 166]) (h1 := ((SHv st dr rd), (ovl a s b))) (m' := 243) (as := [Vr 166, Vi 0, Vi (v : Int), Vi (z : Int)]) (S' := []) (L0 := [Vr 166, Vi 0, Vi (v : Int), Vi (z : Int), Vx, Vx, Vx, Vx, Vx, Vx, Vx]) (fun _ => rfl) rfl rfl rfl rfl rfl rfl (m_coulds z v (e := 0) w8 hb2_b (by omega) (by omega) h12_b h170_b e202n hrow hz8 hvW) (fun r h' hq => ?_)
            obtain ⟨rfl, X1, X2, rfl⟩ := hq
            show Ev X _ _ 75 [Vr 166, Vi (v : Int), Vi (z : Int), Vi (q : Int)] [Vi ((cldF (nW (gS G)) (gH G) N (hrdF (gH G) N z (nW (gS G))) v (nW (gS G)) : Nat) : Int)] ((SHv st dr rd), (ovl a s (spB b X1 X2))) _
            refine Ev.fin (k := 1) (r := (some (Vi ((cldF (nW (gS G)) (gH G) N (hrdF (gH G) N z (nW (gS G))) v (nW (gS G)) : Nat) : Int)))) (h' := ((SHv st dr rd), (ovl a s (spB b X1 X2)))) (fun _ => rfl) ?_
            first
              | (refine ⟨?_, b, rfl, hT⟩
                 rw [if_neg (by intro h; rw [if_pos h] at b61; omega)]; done)
              | (refine ⟨?_, _, rfl, hT.sp _ _⟩
                 rw [if_pos (by
                   by_cases h : q.testBit rm = true
                   · exact h
                   · rw [if_neg h] at b61; omega)])
          · refine Ev.fin (k := 3) (r := (some (Vi (-1)))) (h' := ((SHv st dr rd), (ovl a s b))) (fun _ => rfl) ?_
            first
              | (refine ⟨?_, b, rfl, hT⟩
                 rw [if_neg (by intro h; rw [if_pos h] at b61; omega)]; done)
              | (refine ⟨?_, _, rfl, hT.sp _ _⟩
                 rw [if_pos (by
                   by_cases h : q.testBit rm = true
                   · exact h
                   · rw [if_neg h] at b61; omega)])
        · refine Ev.fin (k := 2) (r := (some (Vi (-1)))) (h' := ((SHv st dr rd), (ovl a s b))) (fun _ => rfl) ?_
          refine ⟨?_, b, rfl, hT⟩
          unfold aCould
          first | rw [if_neg (by exact fun h => absurd h.1 (by assumption))] | rw [if_neg (by exact fun h => absurd h.2.1 (by assumption))] | rw [if_neg (by exact fun h => by have h1 := h.2.2.1.1; have h2 := h.2.2.1.2; omega)]
    · rw [if_neg c10]
      show Ev X _ _ 13 [Vr 166, Vi x, Vi y, Vi r] [Vi 0] ((SHv st dr rd), (ovl a s b)) _
      refine Ev.fin (k := 3) (r := (some (Vi (-1)))) (h' := ((SHv st dr rd), (ovl a s b))) (fun _ => rfl) ?_
      refine ⟨?_, b, rfl, hT⟩
      unfold aCould
      first | rw [if_neg (by exact fun h => absurd h.1 (by assumption))] | rw [if_neg (by exact fun h => absurd h.2.1 (by assumption))] | rw [if_neg (by exact fun h => by have h1 := h.2.2.1.1; have h2 := h.2.2.1.2; omega)]
  · rw [if_neg c2]
    show Ev X _ _ 5 [Vr 166, Vi x, Vi y, Vi r] [Vi 0] ((SHv st dr rd), (ovl a s b)) _
    refine Ev.fin (k := 3) (r := (some (Vi (-1)))) (h' := ((SHv st dr rd), (ovl a s b))) (fun _ => rfl) ?_
    refine ⟨?_, b, rfl, hT⟩
    unfold aCould
    first | rw [if_neg (by exact fun h => absurd h.1 (by assumption))] | rw [if_neg (by exact fun h => absurd h.2.1 (by assumption))] | rw [if_neg (by exact fun h => by have h1 := h.2.2.1.1; have h2 := h.2.2.1.2; omega)]
