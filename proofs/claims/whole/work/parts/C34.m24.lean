/-! THE REFERENCE: the fairest -/
def farR (G : GST) (w : Int) (f : Int × Int) : Int := if f.1 = -1 then -1 else if w = 3 then f.2 else chgW (gS G) f.1.toNat w
theorem farR_k {G : GST} {w v : Int} {k : Nat} : farR G w ((k : Int), v) = if w = 3 then v else chgW (gS G) k w := by
  show (if (k : Int) = -1 then (-1 : Int) else if w = 3 then v else chgW (gS G) (k : Int).toNat w) = _
  rw [if_neg (by omega), Int.toNat_natCast]
theorem farJ_ge {G : GST} : ∀ j, -1 ≤ (farJ G j).2
  | 0 => Int.le_refl _
  | j + 1 => by
    have ih := farJ_ge (G := G) j
    rw [farJ_s]
    split
    · next h =>
      show -1 ≤ farV G (nL (gS G) + j)
      omega
    · exact ih
theorem EvM.row {S : STY} {B b : SC} {e n : Nat} (h : EvM S B b e n) : RowH (nW S) (hisS S B) b e n := fun m hm p hp => ⟨(h.2.2.2.2.2.2 m hm).1 p hp, (h.2.2.2.2.2.2 m hm).2.1 p hp⟩
theorem aFairest_r {G : GST} {w : Int} (hw : 0 ≤ w ∧ w ≤ 3) (hn : 0 < gn G) : aFairest G w = farR G w (farA G) := by
  unfold aFairest farR
  by_cases h : (farA G).1 = -1
  · rw [if_neg (fun g => g.2.2 h), if_pos h]
  · rw [if_pos ⟨hw, hn, h⟩, if_neg h]
theorem m_fairest_l {X : List Int} {d : Nat} {st dr rd : Int} {a s b : C3} (w : Int) {G : GST} (hw : 0 ≤ w ∧ w ≤ 3) (hn0 : 0 < gn G) (kx j : Nat) (best ans : Int) (z : pm_V) (hkj : kx = nL (gS G) + j) (hkx : kx ≤ chgN (gS G)) (hbest : best = (farJ G j).2) (hans : ans = farR G w (farJ G j)) (hT : TopM G b) : Ev X (d + 6) 258 50 [Vr 166, Vi w, Vi best, Vi ans, Vi 1, Vi (kx : Int), z] [] (SHv st dr rd, ovl a s b) (fun rr hh => rr = some (Vi (aFairest G w)) ∧ ∃ s' b' : C3, hh = (SHv st dr rd, ovl a s' b') ∧ TopM G b') := by
  induction hk : (chgN (gS G) + 1 - kx) using Nat.strongRecOn generalizing kx j best ans z s b with
  | ind k ih =>
    obtain ⟨bk, hY_b, hWY, hB1, hWB, hWE, hn180, hEQ, hTp, hfk, hfp, hO⟩ := id hT
    obtain ⟨hb2_b, h12_b, h168_b, h169_b, h170_b, h171_b, h173_b, h172_b, h174_b, h176_b, h178_b, h175_b, h177_b, h179_b, h180_b, h184_b⟩ := id hY_b
    obtain ⟨wR, wD, wW, wT, wL, wC, wdoor, wsym, wWI, wTI, wCl, wRu⟩ := id hWY
    obtain ⟨w8, wWc⟩ := wW
    obtain ⟨t8, wTc⟩ := wT
    obtain ⟨r8, wRc⟩ := wR
    obtain ⟨l30, wLc⟩ := wL
    obtain ⟨c12, wCc⟩ := wC
    obtain ⟨e202, e203, e204, e211, e210, eHis, e212⟩ := id hEQ
    have hc158 := chgN_le hWY
    have hge := farJ_ge (G := G) j
    refine Ev.call (k := 4) (pc1 := 58) (L1 := [Vr 166, Vi w, Vi best, Vi ans, Vi 1, Vi (kx : Int), z]) (S1 := [Vi (kx : Int), Vr 166]) (h1 := ((SHv st dr rd), (ovl a s b))) (m' := 257) (as := [Vr 166, Vi (kx : Int)]) (S' := []) (L0 := [Vr 166, Vi (kx : Int), Vx, Vx]) (fun _ => rfl) rfl rfl rfl rfl rfl rfl (m_changes kx hT hn0 (by omega)) (fun r0_ h' hq => ?_)
    obtain ⟨v, b2, hv, hR, hh2, hT2⟩ : ∃ (v : Int) (b2 : SC), ((v = 1 ∧ kx < chgN (gS G) ∧ RepB (gS G) (chgB (gS G) (gE G) kx) b2 2 ∧ b2 166 76 = chgW (gS G) kx 0 ∧ b2 166 77 = chgW (gS G) kx 1 ∧ b2 166 78 = chgW (gS G) kx 2) ∨ (v = 0 ∧ chgN (gS G) ≤ kx)) ∧ r0_ = some (Vi v) ∧ h' = (SHv st dr rd, ovl a s b2) ∧ TopM G b2 := by
      obtain ⟨b2, g1, g2, g3⟩ := hq
      rcases g3 with ⟨g3, g4, g5⟩ | ⟨g3, g4⟩
      · exact ⟨1, b2, Or.inl ⟨rfl, g3, g5⟩, g4, g1, g2⟩
      · exact ⟨0, b2, Or.inr ⟨rfl, g3⟩, g4, g1, g2⟩
    subst hR
    subst hh2
    obtain ⟨bk2, hY_b2, -, -, -, -, -, hE2, -⟩ := id hT2
    have e202_b2 := hE2.1
    obtain ⟨hb2_b2, h12_b2, h168_b2, h169_b2, h170_b2, h171_b2, h173_b2, h172_b2, h174_b2, h176_b2, h178_b2, h175_b2, h177_b2, h179_b2, h180_b2, h184_b2⟩ := id hY_b2
    
    show Ev X _ _ 61 [Vr 166, Vi w, Vi best, Vi ans, Vi 1, Vi (kx : Int), z] [Vi v] ((SHv st dr rd), (ovl a s b2)) _
    refine Ev.ite (P := v = 0) (k := 3) (a := 169) (b := 68) (L' := [Vr 166, Vi w, Vi best, Vi ans, Vi v, Vi (kx : Int), z]) (S' := []) (h' := ((SHv st dr rd), (ovl a s b2))) (fun _ => rfl) (fun b65 => ?_) (fun b65 => ?_)
    · refine Ev.steps (k := 1) (pc' := 172) (L' := [Vr 166, Vi w, Vi best, Vi ans, Vi v, Vi (w32 ((kx : Int) + 1)), z]) (S' := []) (h' := ((SHv st dr rd), (ovl a s b2))) (fun _ => rfl) ?_
      rw [show (w32 ((kx : Int) + 1)) = ((kx : Int) + 1) from w32_id (by unfold R32; omega)]
      refine Ev.steps (k := 1) (pc' := 50) (L' := [Vr 166, Vi w, Vi best, Vi ans, Vi v, Vi ((kx : Int) + 1), z]) (S' := []) (h' := ((SHv st dr rd), (ovl a s b2))) (fun _ => rfl) ?_
      obtain ⟨rfl, hjc⟩ : v = 0 ∧ chgN (gS G) ≤ kx := by
        rcases hv with hv | hv
        · omega
        · exact hv
      have hj : farA G = farJ G j := by
        unfold farA
        congr 1
        unfold chgN at hkx hjc
        omega
      refine Ev.fin (k := 4) (r := (some (Vi ans))) (h' := ((SHv st dr rd), (ovl a s b2))) (fun _ => rfl) ?_
      refine ⟨?_, s, b2, rfl, hT2⟩
      rw [aFairest_r hw hn0, hj, ← hans]
    · obtain ⟨hv1, hjc, hB2, w76, w77, w78⟩ : v = 1 ∧ kx < chgN (gS G) ∧ RepB (gS G) (chgB (gS G) (gE G) kx) b2 2 ∧ b2 166 76 = chgW (gS G) kx 0 ∧ b2 166 77 = chgW (gS G) kx 1 ∧ b2 166 78 = chgW (gS G) kx 2 := by
        rcases hv with hv | hv
        · exact hv
        · exact absurd hv.1 b65
      clear hv
      refine Ev.steps (k := 7) (pc' := 77) (L' := [Vr 166, Vi w, Vi best, Vi ans, Vi v, Vi (kx : Int), z]) (S' := [Vi (b2 202 0), Vi 2, Vi 1, Vr 166]) (h' := ((SHv st dr rd), (ovl a s b2))) (fun _ => rfl) ?_
      rw [e202_b2]
      refine Ev.call (k := 0) (pc1 := 77) (L1 := [Vr 166, Vi w, Vi best, Vi ans, Vi v, Vi (kx : Int), z]) (S1 := [Vi ((gn G : Nat) : Int), Vi 2, Vi 1, Vr 166]) (h1 := ((SHv st dr rd), (ovl a s b2))) (m' := 205) (as := [Vr 166, Vi 1, Vi 2, Vi ((gn G : Nat) : Int)]) (S' := []) (L0 := [Vr 166, Vi 1, Vi 2, Vi ((gn G : Nat) : Int), Vx, Vx]) (fun _ => rfl) rfl rfl rfl rfl rfl rfl (m_goes 1 2 (gn G) hWY (chgB_wf hWE hjc) (by omega) (by omega) hn180 hY_b2 hB2) (fun r0_ h' hq => ?_)
      obtain ⟨rfl, s3, b3, rfl, q1, q2⟩ := hq
      have hT3 := hT2.ge q2
      have f76 : b3 166 76 = chgW (gS G) kx 0 := by rw [q2 166 76 (by unfold InE; omega)]; exact w76
      have f77 : b3 166 77 = chgW (gS G) kx 1 := by rw [q2 166 77 (by unfold InE; omega)]; exact w77
      have f78 : b3 166 78 = chgW (gS G) kx 2 := by rw [q2 166 78 (by unfold InE; omega)]; exact w78
      show Ev X _ _ 80 [Vr 166, Vi w, Vi best, Vi ans, Vi v, Vi (kx : Int), z] [Vi (aftS (gS G) (chgB (gS G) (gE G) kx) (gn G) 9 0)] ((SHv st dr rd), (ovl a s3 b3)) _
      refine Ev.ite (P := (aftS (gS G) (chgB (gS G) (gE G) kx) (gn G) 9 0) ≠ 1) (k := 2) (a := 169) (b := 84) (L' := [Vr 166, Vi w, Vi best, Vi ans, Vi v, Vi (kx : Int), z]) (S' := []) (h' := ((SHv st dr rd), (ovl a s3 b3))) (fun _ => rfl) (fun b81 => ?_) (fun b81 => ?_)
      · refine Ev.steps (k := 1) (pc' := 172) (L' := [Vr 166, Vi w, Vi best, Vi ans, Vi v, Vi (w32 ((kx : Int) + 1)), z]) (S' := []) (h' := ((SHv st dr rd), (ovl a s3 b3))) (fun _ => rfl) ?_
        rw [show (w32 ((kx : Int) + 1)) = ((kx : Int) + 1) from w32_id (by unfold R32; omega)]
        refine Ev.steps (k := 1) (pc' := 50) (L' := [Vr 166, Vi w, Vi best, Vi ans, Vi v, Vi ((kx : Int) + 1), z]) (S' := []) (h' := ((SHv st dr rd), (ovl a s3 b3))) (fun _ => rfl) ?_
        have hfs : farJ G (j + 1) = farJ G j := by
          rw [farJ_s, if_neg]
          rw [← hkj, farV_g rfl]
          unfold goodS
          rw [if_neg (by exact fun h => b81 h.1)]
          omega
        rw [← hfs] at hbest hans
        rw [hv1]
        exact ih _ (by omega) (s := s3) (b := b3) (kx + 1) (j + 1) _ _ _ (by omega) (by omega) hbest hans hT3 rfl
      · obtain ⟨vv, hvv, hvW, hvd⟩ := (aftS_dk (B := chgB (gS G) (gE G) kx) hWY (gn G)).2 0 (by omega)
        have hvv : aftS (gS G) (chgB (gS G) (gE G) kx) (gn G) 8 1 = (vv : Int) := hvv
        have hdd : b3 210 97 = (vv : Int) := (q1.2.2.2.2.1 1 (by omega)).trans hvv
        have h12_3 : b3 166 12 = (bk2 : Int) := by rw [q2 166 12 (by unfold InE; omega)]; exact h12_b2
        have h170_3 : b3 170 bk2 = ((nW (gS G) : Nat) : Int) := by rw [q2 170 bk2 (by unfold InE; omega)]; exact h170_b2
        have hn1 : gn G - 1 + 1 = gn G := by omega
        have h202_3 : b3 202 1 = ((gn G - 1 + 1 : Nat) : Int) := by rw [hn1]; exact q1.1
        have hR3 : RowH (nW (gS G)) (hisS (gS G) (chgB (gS G) (gE G) kx)) b3 1 (gn G - 1 + 1) := by rw [hn1]; exact q1.row
        refine Ev.steps (k := 6) (pc' := 93) (L' := [Vr 166, Vi w, Vi best, Vi ans, Vi v, Vi (kx : Int), z]) (S' := [Vi (b3 210 97), Vi 1, Vr 166]) (h' := ((SHv st dr rd), (ovl a s3 b3))) (fun _ => rfl) ?_
        rw [hdd]
        refine Ev.call (k := 0) (pc1 := 93) (L1 := [Vr 166, Vi w, Vi best, Vi ans, Vi v, Vi (kx : Int), z]) (S1 := [Vi (vv : Int), Vi 1, Vr 166]) (h1 := ((SHv st dr rd), (ovl a s3 b3))) (m' := 249) (as := [Vr 166, Vi 1, Vi (vv : Int)]) (S' := []) (L0 := [Vr 166, Vi 1, Vi (vv : Int)]) (fun _ => rfl) rfl rfl rfl rfl rfl rfl (m_isFair vv (e := 1) w8 hb2_b2 (by omega) (by omega) h12_3 h170_3 h202_3 hR3 hvW) (fun r0_ h' hq => ?_)
        obtain ⟨rfl, X1, X2, hh1⟩ := hq
        obtain ⟨b4, hb4⟩ : ∃ b4, b4 = spB b3 X1 X2 := ⟨_, rfl⟩
        rw [← hb4] at hh1
        subst hh1
        have hT4 : TopM G b4 := by rw [hb4]; exact hT3.sp X1 X2
        by_cases c93 : FairF (nW (gS G)) (hisS (gS G) (chgB (gS G) (gE G) kx)) (gn G - 1) vv
        · rw [if_pos c93]
          show Ev X _ _ 96 [Vr 166, Vi w, Vi best, Vi ans, Vi v, Vi (kx : Int), z] [Vi 1] ((SHv st dr rd), (ovl a s3 b4)) _
          refine Ev.steps (k := 7) (pc' := 111) (L' := [Vr 166, Vi w, Vi best, Vi ans, Vi v, Vi (kx : Int), z]) (S' := [Vi (b4 210 97), Vi 1, Vr 166]) (h' := ((SHv st dr rd), (ovl a s3 b4))) (fun _ => rfl) ?_
          rw [(show (b4 210 97) = (vv : Int) by rw [hb4]; exact hdd)]
          refine Ev.call (k := 0) (pc1 := 111) (L1 := [Vr 166, Vi w, Vi best, Vi ans, Vi v, Vi (kx : Int), z]) (S1 := [Vi (vv : Int), Vi 1, Vr 166]) (h1 := ((SHv st dr rd), (ovl a s3 b4))) (m' := 246) (as := [Vr 166, Vi 1, Vi (vv : Int)]) (S' := []) (L0 := [Vr 166, Vi 1, Vi (vv : Int), Vx, Vx]) (fun _ => rfl) rfl rfl rfl rfl rfl rfl (m_least vv (e := 1) (N := gn G - 1) (W := nW (gS G)) (bk := bk2) (H := (hisS (gS G) (chgB (gS G) (gE G) kx))) w8 hb2_b2 (by omega) (by omega) (by rw [hb4]; exact h12_3) (by rw [hb4]; exact h170_3) (by rw [hb4]; exact h202_3) (by rw [hb4]; exact fun m hm p hp => hR3 m hm p hp) hvW) (fun r0_ h' hq => ?_)
          obtain ⟨rfl, b5, rfl, Y1, Y2, hX⟩ := hq
          have hT5 : TopM G b5 := hT4.spx hX
          have e76 : b5 166 76 = chgW (gS G) kx 0 := (show b5 166 76 = b4 166 76 from congrFun (congrFun hX 166) 76).trans (by rw [hb4]; exact f76)
          have e77 : b5 166 77 = chgW (gS G) kx 1 := (show b5 166 77 = b4 166 77 from congrFun (congrFun hX 166) 77).trans (by rw [hb4]; exact f77)
          have e78 : b5 166 78 = chgW (gS G) kx 2 := (show b5 166 78 = b4 166 78 from congrFun (congrFun hX 166) 78).trans (by rw [hb4]; exact f78)
          have hlr := lsF_r (W := nW (gS G)) (H := (hisS (gS G) (chgB (gS G) (gE G) kx))) (N := gn G - 1) (v := vv) (2 ^ nW (gS G))
          have hp8 : 2 ^ nW (gS G) ≤ 2 ^ 8 := Nat.pow_le_pow_right (by omega) w8
          have hls := ls_some c93
          have hfs : farJ G (j + 1) = if (farJ G j).2 < farV G (nL (gS G) + j) then (((nL (gS G) + j : Nat) : Int), farV G (nL (gS G) + j)) else farJ G j := farJ_s
          rw [← hkj, farV_g (j := kx) rfl] at hfs
          have hgv : goodS (gS G) (chgB (gS G) (gE G) kx) (gn G) = ((bcS (lstF (nW (gS G)) (hisS (gS G) (chgB (gS G) (gE G) kx)) (gn G - 1) vv).toNat : Nat) : Int) := by
            unfold goodS
            rw [if_pos (by exact ⟨by omega, by rw [hvv, Int.toNat_natCast]; exact c93⟩), hvv, Int.toNat_natCast]
          rw [hgv, ← hbest] at hfs
          obtain ⟨lv, hlv⟩ : ∃ lv, lv = lstF (nW (gS G)) (hisS (gS G) (chgB (gS G) (gE G) kx)) (gn G - 1) vv := ⟨_, rfl⟩
          rw [← hlv] at hfs hls ⊢
          rw [show lsF (nW (gS G)) (hisS (gS G) (chgB (gS G) (gE G) kx)) (gn G - 1) vv (2 ^ nW (gS G)) = lv from hlv.symm] at hlr
          obtain ⟨bv, hbv⟩ : ∃ bv : Int, bv = ((bcS lv.toNat : Nat) : Int) := ⟨_, rfl⟩
          rw [← hbv] at hfs
          show Ev X _ _ 114 [Vr 166, Vi w, Vi best, Vi ans, Vi v, Vi (kx : Int), z] [Vi lv] ((SHv st dr rd), (ovl a s3 b5)) _
          refine Ev.call (k := 0) (pc1 := 114) (L1 := [Vr 166, Vi w, Vi best, Vi ans, Vi v, Vi (kx : Int), z]) (S1 := [Vi lv]) (h1 := ((SHv st dr rd), (ovl a s3 b5))) (m' := 247) (as := [Vi lv]) (S' := []) (L0 := [Vi lv, Vx, Vx]) (fun _ => rfl) rfl rfl rfl rfl rfl rfl (m_bitsI lv (by omega)) (fun r0_ h' hq => ?_)
          obtain ⟨rfl, rfl⟩ := hq
          rw [← hbv]
          show Ev X _ _ 117 [Vr 166, Vi w, Vi best, Vi ans, Vi v, Vi (kx : Int), z] [Vi bv] ((SHv st dr rd), (ovl a s3 b5)) _
          refine Ev.ite (P := best < bv) (k := 4) (a := 128) (b := 125) (L' := [Vr 166, Vi w, Vi best, Vi ans, Vi v, Vi (kx : Int), Vi bv]) (S' := []) (h' := ((SHv st dr rd), (ovl a s3 b5))) (fun _ => rfl) (fun b122 => ?_) (fun b122 => ?_)
          · refine Ev.ite (P := w ≠ 0) (k := 4) (a := 142) (b := 135) (L' := [Vr 166, Vi w, Vi bv, Vi ans, Vi v, Vi (kx : Int), Vi bv]) (S' := []) (h' := ((SHv st dr rd), (ovl a s3 b5))) (fun _ => rfl) (fun b132 => ?_) (fun b132 => ?_)
            · refine Ev.ite (P := w ≠ 1) (k := 3) (a := 154) (b := 147) (L' := [Vr 166, Vi w, Vi bv, Vi ans, Vi v, Vi (kx : Int), Vi bv]) (S' := []) (h' := ((SHv st dr rd), (ovl a s3 b5))) (fun _ => rfl) (fun b144 => ?_) (fun b144 => ?_)
              · refine Ev.ite (P := w ≠ 2) (k := 3) (a := 166) (b := 159) (L' := [Vr 166, Vi w, Vi bv, Vi ans, Vi v, Vi (kx : Int), Vi bv]) (S' := []) (h' := ((SHv st dr rd), (ovl a s3 b5))) (fun _ => rfl) (fun b156 => ?_) (fun b156 => ?_)
                · refine Ev.steps (k := 3) (pc' := 172) (L' := [Vr 166, Vi w, Vi bv, Vi bv, Vi v, Vi (w32 ((kx : Int) + 1)), Vi bv]) (S' := []) (h' := ((SHv st dr rd), (ovl a s3 b5))) (fun _ => rfl) ?_
                  rw [show (w32 ((kx : Int) + 1)) = ((kx : Int) + 1) from w32_id (by unfold R32; omega)]
                  refine Ev.steps (k := 1) (pc' := 50) (L' := [Vr 166, Vi w, Vi bv, Vi bv, Vi v, Vi ((kx : Int) + 1), Vi bv]) (S' := []) (h' := ((SHv st dr rd), (ovl a s3 b5))) (fun _ => rfl) ?_
                  rw [hv1]
                  refine ih _ (by omega) (s := s3) (b := b5) (kx + 1) (j + 1) _ _ _ (by omega) (by omega) ?_ ?_ hT5 rfl
                  · first
                      | (rw [hfs.trans (if_pos (by omega))]; done)
                      | (rw [hfs.trans (if_neg (by omega))]; exact hbest)
                  · first
                      | (rw [hfs.trans (if_neg (by omega))]; exact hans)
                      | (rw [hfs.trans (if_pos (by omega)), farR_k, if_pos (by omega)]; done)
                      | (rw [hfs.trans (if_pos (by omega)), farR_k, if_neg (by omega), show w = 0 by omega]; done)
                      | (rw [hfs.trans (if_pos (by omega)), farR_k, if_neg (by omega), show w = 1 by omega]; done)
                      | (rw [hfs.trans (if_pos (by omega)), farR_k, if_neg (by omega), show w = 2 by omega]; done)
                · refine Ev.steps (k := 2) (pc' := 163) (L' := [Vr 166, Vi w, Vi bv, Vi ans, Vi v, Vi (kx : Int), Vi bv]) (S' := [Vi (b5 166 78)]) (h' := ((SHv st dr rd), (ovl a s3 b5))) (fun _ => rfl) ?_
                  rw [e78]
                  refine Ev.steps (k := 3) (pc' := 172) (L' := [Vr 166, Vi w, Vi bv, Vi (chgW (gS G) kx 2), Vi v, Vi (w32 ((kx : Int) + 1)), Vi bv]) (S' := []) (h' := ((SHv st dr rd), (ovl a s3 b5))) (fun _ => rfl) ?_
                  rw [show (w32 ((kx : Int) + 1)) = ((kx : Int) + 1) from w32_id (by unfold R32; omega)]
                  refine Ev.steps (k := 1) (pc' := 50) (L' := [Vr 166, Vi w, Vi bv, Vi (chgW (gS G) kx 2), Vi v, Vi ((kx : Int) + 1), Vi bv]) (S' := []) (h' := ((SHv st dr rd), (ovl a s3 b5))) (fun _ => rfl) ?_
                  rw [hv1]
                  refine ih _ (by omega) (s := s3) (b := b5) (kx + 1) (j + 1) _ _ _ (by omega) (by omega) ?_ ?_ hT5 rfl
                  · first
                      | (rw [hfs.trans (if_pos (by omega))]; done)
                      | (rw [hfs.trans (if_neg (by omega))]; exact hbest)
                  · first
                      | (rw [hfs.trans (if_neg (by omega))]; exact hans)
                      | (rw [hfs.trans (if_pos (by omega)), farR_k, if_pos (by omega)]; done)
                      | (rw [hfs.trans (if_pos (by omega)), farR_k, if_neg (by omega), show w = 0 by omega]; done)
                      | (rw [hfs.trans (if_pos (by omega)), farR_k, if_neg (by omega), show w = 1 by omega]; done)
                      | (rw [hfs.trans (if_pos (by omega)), farR_k, if_neg (by omega), show w = 2 by omega]; done)
              · refine Ev.steps (k := 2) (pc' := 151) (L' := [Vr 166, Vi w, Vi bv, Vi ans, Vi v, Vi (kx : Int), Vi bv]) (S' := [Vi (b5 166 77)]) (h' := ((SHv st dr rd), (ovl a s3 b5))) (fun _ => rfl) ?_
                rw [e77]
                refine Ev.steps (k := 3) (pc' := 172) (L' := [Vr 166, Vi w, Vi bv, Vi (chgW (gS G) kx 1), Vi v, Vi (w32 ((kx : Int) + 1)), Vi bv]) (S' := []) (h' := ((SHv st dr rd), (ovl a s3 b5))) (fun _ => rfl) ?_
                rw [show (w32 ((kx : Int) + 1)) = ((kx : Int) + 1) from w32_id (by unfold R32; omega)]
                refine Ev.steps (k := 1) (pc' := 50) (L' := [Vr 166, Vi w, Vi bv, Vi (chgW (gS G) kx 1), Vi v, Vi ((kx : Int) + 1), Vi bv]) (S' := []) (h' := ((SHv st dr rd), (ovl a s3 b5))) (fun _ => rfl) ?_
                rw [hv1]
                refine ih _ (by omega) (s := s3) (b := b5) (kx + 1) (j + 1) _ _ _ (by omega) (by omega) ?_ ?_ hT5 rfl
                · first
                    | (rw [hfs.trans (if_pos (by omega))]; done)
                    | (rw [hfs.trans (if_neg (by omega))]; exact hbest)
                · first
                    | (rw [hfs.trans (if_neg (by omega))]; exact hans)
                    | (rw [hfs.trans (if_pos (by omega)), farR_k, if_pos (by omega)]; done)
                    | (rw [hfs.trans (if_pos (by omega)), farR_k, if_neg (by omega), show w = 0 by omega]; done)
                    | (rw [hfs.trans (if_pos (by omega)), farR_k, if_neg (by omega), show w = 1 by omega]; done)
                    | (rw [hfs.trans (if_pos (by omega)), farR_k, if_neg (by omega), show w = 2 by omega]; done)
            · refine Ev.steps (k := 2) (pc' := 139) (L' := [Vr 166, Vi w, Vi bv, Vi ans, Vi v, Vi (kx : Int), Vi bv]) (S' := [Vi (b5 166 76)]) (h' := ((SHv st dr rd), (ovl a s3 b5))) (fun _ => rfl) ?_
              rw [e76]
              refine Ev.steps (k := 3) (pc' := 172) (L' := [Vr 166, Vi w, Vi bv, Vi (chgW (gS G) kx 0), Vi v, Vi (w32 ((kx : Int) + 1)), Vi bv]) (S' := []) (h' := ((SHv st dr rd), (ovl a s3 b5))) (fun _ => rfl) ?_
              rw [show (w32 ((kx : Int) + 1)) = ((kx : Int) + 1) from w32_id (by unfold R32; omega)]
              refine Ev.steps (k := 1) (pc' := 50) (L' := [Vr 166, Vi w, Vi bv, Vi (chgW (gS G) kx 0), Vi v, Vi ((kx : Int) + 1), Vi bv]) (S' := []) (h' := ((SHv st dr rd), (ovl a s3 b5))) (fun _ => rfl) ?_
              rw [hv1]
              refine ih _ (by omega) (s := s3) (b := b5) (kx + 1) (j + 1) _ _ _ (by omega) (by omega) ?_ ?_ hT5 rfl
              · first
                  | (rw [hfs.trans (if_pos (by omega))]; done)
                  | (rw [hfs.trans (if_neg (by omega))]; exact hbest)
              · first
                  | (rw [hfs.trans (if_neg (by omega))]; exact hans)
                  | (rw [hfs.trans (if_pos (by omega)), farR_k, if_pos (by omega)]; done)
                  | (rw [hfs.trans (if_pos (by omega)), farR_k, if_neg (by omega), show w = 0 by omega]; done)
                  | (rw [hfs.trans (if_pos (by omega)), farR_k, if_neg (by omega), show w = 1 by omega]; done)
                  | (rw [hfs.trans (if_pos (by omega)), farR_k, if_neg (by omega), show w = 2 by omega]; done)
          · refine Ev.steps (k := 2) (pc' := 172) (L' := [Vr 166, Vi w, Vi best, Vi ans, Vi v, Vi (w32 ((kx : Int) + 1)), Vi bv]) (S' := []) (h' := ((SHv st dr rd), (ovl a s3 b5))) (fun _ => rfl) ?_
            rw [show (w32 ((kx : Int) + 1)) = ((kx : Int) + 1) from w32_id (by unfold R32; omega)]
            refine Ev.steps (k := 1) (pc' := 50) (L' := [Vr 166, Vi w, Vi best, Vi ans, Vi v, Vi ((kx : Int) + 1), Vi bv]) (S' := []) (h' := ((SHv st dr rd), (ovl a s3 b5))) (fun _ => rfl) ?_
            rw [hv1]
            refine ih _ (by omega) (s := s3) (b := b5) (kx + 1) (j + 1) _ _ _ (by omega) (by omega) ?_ ?_ hT5 rfl
            · first
                | (rw [hfs.trans (if_pos (by omega))]; done)
                | (rw [hfs.trans (if_neg (by omega))]; exact hbest)
            · first
                | (rw [hfs.trans (if_neg (by omega))]; exact hans)
                | (rw [hfs.trans (if_pos (by omega)), farR_k, if_pos (by omega)]; done)
                | (rw [hfs.trans (if_pos (by omega)), farR_k, if_neg (by omega), show w = 0 by omega]; done)
                | (rw [hfs.trans (if_pos (by omega)), farR_k, if_neg (by omega), show w = 1 by omega]; done)
                | (rw [hfs.trans (if_pos (by omega)), farR_k, if_neg (by omega), show w = 2 by omega]; done)
        · rw [if_neg c93]
          show Ev X _ _ 96 [Vr 166, Vi w, Vi best, Vi ans, Vi v, Vi (kx : Int), z] [Vi 0] ((SHv st dr rd), (ovl a s3 b4)) _
          refine Ev.steps (k := 3) (pc' := 172) (L' := [Vr 166, Vi w, Vi best, Vi ans, Vi v, Vi (w32 ((kx : Int) + 1)), z]) (S' := []) (h' := ((SHv st dr rd), (ovl a s3 b4))) (fun _ => rfl) ?_
          rw [show (w32 ((kx : Int) + 1)) = ((kx : Int) + 1) from w32_id (by unfold R32; omega)]
          refine Ev.steps (k := 1) (pc' := 50) (L' := [Vr 166, Vi w, Vi best, Vi ans, Vi v, Vi ((kx : Int) + 1), z]) (S' := []) (h' := ((SHv st dr rd), (ovl a s3 b4))) (fun _ => rfl) ?_
          have hfs : farJ G (j + 1) = farJ G j := by
            rw [farJ_s, if_neg]
            rw [← hkj, farV_g rfl]
            unfold goodS
            rw [if_neg (by exact fun h => c93 (by have h2 := h.2; rw [hvv, Int.toNat_natCast] at h2; exact h2))]
            omega
          rw [← hfs] at hbest hans
          rw [hv1]
          exact ih _ (by omega) (s := s3) (b := b4) (kx + 1) (j + 1) _ _ _ (by omega) (by omega) hbest hans hT4 rfl
theorem g_fairest {X : List Int} {d : Nat} {st dr rd : Int} {a s b : C3} (w : Int) {G : GST} (hT : TopM G b) : Ev X (d + 6) 258 0 [Vr 166, Vi w, Vx, Vx, Vx, Vx, Vx] [] (SHv st dr rd, ovl a s b) (fun rr hh => rr = some (Vi (aFairest G w)) ∧ ∃ s' b' : C3, hh = (SHv st dr rd, ovl a s' b') ∧ TopM G b') := by
  obtain ⟨bk, hY_b, hWY, hB1, hWB, hWE, hn180, hEQ, hTp, hfk, hfp, hO⟩ := id hT
  obtain ⟨hb2_b, h12_b, h168_b, h169_b, h170_b, h171_b, h173_b, h172_b, h174_b, h176_b, h178_b, h175_b, h177_b, h179_b, h180_b, h184_b⟩ := id hY_b
  obtain ⟨wR, wD, wW, wT, wL, wC, wdoor, wsym, wWI, wTI, wCl, wRu⟩ := id hWY
  obtain ⟨w8, wWc⟩ := wW
  obtain ⟨t8, wTc⟩ := wT
  obtain ⟨r8, wRc⟩ := wR
  obtain ⟨l30, wLc⟩ := wL
  obtain ⟨c12, wCc⟩ := wC
  obtain ⟨e202, e203, e204, e211, e210, eHis, e212⟩ := id hEQ
  refine Ev.call (k := 3) (pc1 := 3) (L1 := [Vr 166, Vi w, Vx, Vx, Vx, Vx, Vx]) (S1 := [Vi 3, Vi 0, Vi w]) (h1 := ((SHv st dr rd), (ovl a s b))) (m' := 189) (as := [Vi w, Vi 0, Vi 3]) (S' := []) (L0 := [Vi w, Vi 0, Vi 3]) (fun _ => rfl) rfl rfl rfl rfl rfl rfl (m_is w 0 3) (fun r0_ h' hq => ?_)
  obtain ⟨rfl, rfl⟩ := hq
  by_cases c3 : 0 ≤ w ∧ w ≤ 3
  · rw [if_pos c3]
    show Ev X _ _ 6 [Vr 166, Vi w, Vx, Vx, Vx, Vx, Vx] [Vi 1] ((SHv st dr rd), (ovl a s b)) _
    refine Ev.steps (k := 5) (pc' := 15) (L' := [Vr 166, Vi w, Vx, Vx, Vx, Vx, Vx]) (S' := [Vi (b 202 0)]) (h' := ((SHv st dr rd), (ovl a s b))) (fun _ => rfl) ?_
    rw [e202]
    refine Ev.ite (P := ((gn G : Nat) : Int) = 0) (k := 1) (a := 30) (b := 18) (L' := [Vr 166, Vi w, Vx, Vx, Vx, Vx, Vx]) (S' := []) (h' := ((SHv st dr rd), (ovl a s b))) (fun _ => rfl) (fun b15 => ?_) (fun b15 => ?_)
    · refine Ev.fin (k := 2) (r := (some (Vi (-1)))) (h' := ((SHv st dr rd), (ovl a s b))) (fun _ => rfl) ?_
      refine ⟨?_, s, b, rfl, hT⟩
      unfold aFairest
      first
        | rw [if_neg (by exact fun h => c3 h.1)]
        | rw [if_neg (by exact fun h => absurd h.2.1 (by omega))]
        | rw [if_neg (by
            intro h
            have h0 : nR (gS G) = 0 := by omega
            apply h.2.2
            unfold farA
            rw [h0, Nat.mul_zero, Nat.mul_zero]
            rfl)]
    · refine Ev.steps (k := 4) (pc' := 26) (L' := [Vr 166, Vi w, Vx, Vx, Vx, Vx, Vx]) (S' := [Vi (b 166 12), Vr 168]) (h' := ((SHv st dr rd), (ovl a s b))) (fun _ => rfl) ?_
      rw [h12_b]
      refine Ev.iald (v := ((nR (gS G) : Nat) : Int)) rfl (by decide) rfl (by omega) (by omega) (h168_b) ?_
      refine Ev.ite (P := ((nR (gS G) : Nat) : Int) ≠ 0) (k := 1) (a := 32) (b := 30) (L' := [Vr 166, Vi w, Vx, Vx, Vx, Vx, Vx]) (S' := []) (h' := ((SHv st dr rd), (ovl a s b))) (fun _ => rfl) (fun b27 => ?_) (fun b27 => ?_)
      · refine Ev.steps (k := 10) (pc' := 47) (L' := [Vr 166, Vi w, Vi (-1), Vi (-1), Vi 1, Vx, Vx]) (S' := [Vi (b 166 12), Vr 173]) (h' := ((SHv st dr rd), (ovl a s b))) (fun _ => rfl) ?_
        rw [h12_b]
        refine Ev.iald (v := ((nL (gS G) : Nat) : Int)) rfl (by decide) rfl (by omega) (by omega) (h173_b) ?_
        refine Ev.steps (k := 1) (pc' := 50) (L' := [Vr 166, Vi w, Vi (-1), Vi (-1), Vi 1, Vi ((nL (gS G) : Nat) : Int), Vx]) (S' := []) (h' := ((SHv st dr rd), (ovl a s b))) (fun _ => rfl) ?_
        exact m_fairest_l w c3 (by omega) (nL (gS G)) 0 (-1) (-1) _ rfl (by unfold chgN; omega) rfl rfl hT
      · refine Ev.fin (k := 2) (r := (some (Vi (-1)))) (h' := ((SHv st dr rd), (ovl a s b))) (fun _ => rfl) ?_
        refine ⟨?_, s, b, rfl, hT⟩
        unfold aFairest
        first
          | rw [if_neg (by exact fun h => c3 h.1)]
          | rw [if_neg (by exact fun h => absurd h.2.1 (by omega))]
          | rw [if_neg (by
              intro h
              have h0 : nR (gS G) = 0 := by omega
              apply h.2.2
              unfold farA
              rw [h0, Nat.mul_zero, Nat.mul_zero]
              rfl)]
  · rw [if_neg c3]
    show Ev X _ _ 6 [Vr 166, Vi w, Vx, Vx, Vx, Vx, Vx] [Vi 0] ((SHv st dr rd), (ovl a s b)) _
    refine Ev.fin (k := 3) (r := (some (Vi (-1)))) (h' := ((SHv st dr rd), (ovl a s b))) (fun _ => rfl) ?_
    refine ⟨?_, s, b, rfl, hT⟩
    unfold aFairest
    first
      | rw [if_neg (by exact fun h => c3 h.1)]
      | rw [if_neg (by exact fun h => absurd h.2.1 (by omega))]
      | rw [if_neg (by
          intro h
          have h0 : nR (gS G) = 0 := by omega
          apply h.2.2
          unfold farA
          rw [h0, Nat.mul_zero, Nat.mul_zero]
          rfl)]
