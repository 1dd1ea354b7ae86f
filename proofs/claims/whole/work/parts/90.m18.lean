/-! THE REFERENCE: other breakfasts are tried -/
theorem outB_wf {S : STY} {B : SC} {r : Nat} (h : WfB S B) : WfB S (outB B r) := by
  refine ⟨h.1, h.2.1, fun q hq => ?_⟩
  show updC B 2 r 1 2 q = 0 ∨ updC B 2 r 1 2 q = 1
  rw [updC_if]
  split
  · exact Or.inr rfl
  · exact h.2.2 q hq
theorem outB_rep {S : STY} {B b : SC} {r k : Nat} (h : RepB S B b k) (hr : r < 30) : RepB S (outB B r) (updC b 201 (30 * k + r) 1) k := by
  refine ⟨h.1, h.2.1, fun q hq => ?_⟩
  show updC b 201 (30 * k + r) 1 201 (30 * k + q) = updC B 2 r 1 2 q
  rw [updC_if, updC_if, h.2.2 q hq]
  by_cases e : q = r
  · rw [if_pos e, if_pos (by omega)]
  · rw [if_neg e, if_neg (by omega)]
theorem m_needed_l {X : List Int} {d : Nat} {st dr rd : Int} {a s b : C3} (r k0 D : Nat) {G : GST} (hT : TopM G b) (hk0 : (k0 : Int) < gA G (gn G) 9 0) (hEv : EvM (gS G) (outB (gE G) r) b 1 (gn G)) (hD : aftS (gS G) (outB (gE G) r) (gn G) 9 0 = (D : Int)) (hD8 : D ≤ 8) (i : Nat) (hi : i ≤ D) (hn : ¬ (∃ i0, i0 < i ∧ aftS (gS G) (outB (gE G) r) (gn G) 8 (6 * i0) = gA G (gn G) 8 (6 * k0) ∧ aftS (gS G) (outB (gE G) r) (gn G) 8 (6 * i0 + 1) = gA G (gn G) 8 (6 * k0 + 1))) : Ev X (d + 6) 234 69 [Vr 166, Vi (r : Int), Vi (k0 : Int), Vi (D : Int), Vi (i : Int)] [] (SHv st dr rd, ovl a s b) (fun rr hh => rr = some (Vi (if (∃ i, i < D ∧ aftS (gS G) (outB (gE G) r) (gn G) 8 (6 * i) = gA G (gn G) 8 (6 * k0) ∧ aftS (gS G) (outB (gE G) r) (gn G) 8 (6 * i + 1) = gA G (gn G) 8 (6 * k0 + 1)) then 0 else 1)) ∧ hh = (SHv st dr rd, ovl a s b)) := by
  induction hk : (D - i) using Nat.strongRecOn generalizing i with
  | ind k ih =>
    obtain ⟨bk, hY_b, hWY, hB1, hWB, hWE, hn180, hEQ, hTp, hfk, hfp, hO⟩ := id hT
    obtain ⟨hb2_b, h12_b, h168_b, h169_b, h170_b, h171_b, h173_b, h172_b, h174_b, h176_b, h178_b, h175_b, h177_b, h179_b, h180_b, h184_b⟩ := id hY_b
    obtain ⟨wR, wD, wW, wT, wL, wC, wdoor, wsym, wWI, wTI, wCl, wRu⟩ := id hWY
    obtain ⟨w8, wWc⟩ := wW
    obtain ⟨t8, wTc⟩ := wT
    obtain ⟨r8, wRc⟩ := wR
    obtain ⟨l30, wLc⟩ := wL
    obtain ⟨c12, wCc⟩ := wC
    obtain ⟨e202, e203, e204, e211, e210, eHis, e212⟩ := id hEQ
    have a9 : 0 ≤ gA G (gn G) 9 0 ∧ gA G (gn G) 9 0 ≤ 8 := (aftS_wf hWY hWE (gn G) hn180).1.2.2.2.2.2.2.2
    refine Ev.ite (P := (D : Int) ≤ (i : Int)) (k := 3) (a := 137) (b := 75) (L' := [Vr 166, Vi (r : Int), Vi (k0 : Int), Vi (D : Int), Vi (i : Int)]) (S' := []) (h' := ((SHv st dr rd), (ovl a s b))) (fun _ => rfl) (fun b72 => ?_) (fun b72 => ?_)
    · refine Ev.fin (k := 2) (r := (some (Vi 1))) (h' := ((SHv st dr rd), (ovl a s b))) (fun _ => rfl) ?_
      obtain rfl : i = D := by omega
      refine ⟨?_, rfl⟩
      rw [if_neg hn]
    · refine Ev.steps (k := 6) (pc' := 86) (L' := [Vr 166, Vi (r : Int), Vi (k0 : Int), Vi (D : Int), Vi (i : Int)]) (S' := [Vi (w32 (6 * (i : Int))), Vi 96, Vr 210]) (h' := ((SHv st dr rd), (ovl a s b))) (fun _ => rfl) ?_
      rw [show (w32 (6 * (i : Int))) = (6 * (i : Int)) from w32_id (by unfold R32; omega)]
      refine Ev.steps (k := 1) (pc' := 87) (L' := [Vr 166, Vi (r : Int), Vi (k0 : Int), Vi (D : Int), Vi (i : Int)]) (S' := [Vi (w32 (96 + (6 * (i : Int)))), Vr 210]) (h' := ((SHv st dr rd), (ovl a s b))) (fun _ => rfl) ?_
      rw [show (w32 (96 + (6 * (i : Int)))) = (96 + (6 * (i : Int))) from w32_id (by unfold R32; omega)]
      refine Ev.iald (v := (aftS (gS G) (outB (gE G) r) (gn G) 8 (6 * i))) rfl (by decide) rfl (by omega) (by omega) ((show (b 210 ((96 + 6 * i))) = _ by rw [show 96 + 6 * i = 96 * 1 + 6 * i by omega]; exact hEv.2.2.2.2.1 _ (by omega))) ?_
      refine Ev.steps (k := 5) (pc' := 96) (L' := [Vr 166, Vi (r : Int), Vi (k0 : Int), Vi (D : Int), Vi (i : Int)]) (S' := [Vi (w32 (6 * (k0 : Int))), Vr 210, Vi (aftS (gS G) (outB (gE G) r) (gn G) 8 (6 * i))]) (h' := ((SHv st dr rd), (ovl a s b))) (fun _ => rfl) ?_
      rw [show (w32 (6 * (k0 : Int))) = (6 * (k0 : Int)) from w32_id (by unfold R32; omega)]
      refine Ev.iald (v := (gA G (gn G) 8 (6 * k0))) rfl (by decide) rfl (by omega) (by omega) (e210 _ (show 6 * k0 < 6 * (gA G (gn G) 9 0).toNat by omega)) ?_
      refine Ev.ite (P := (aftS (gS G) (outB (gE G) r) (gn G) 8 (6 * i)) ≠ (gA G (gn G) 8 (6 * k0))) (k := 1) (a := 131) (b := 100) (L' := [Vr 166, Vi (r : Int), Vi (k0 : Int), Vi (D : Int), Vi (i : Int)]) (S' := []) (h' := ((SHv st dr rd), (ovl a s b))) (fun _ => rfl) (fun b97 => ?_) (fun b97 => ?_)
      · refine Ev.steps (k := 1) (pc' := 134) (L' := [Vr 166, Vi (r : Int), Vi (k0 : Int), Vi (D : Int), Vi (w32 ((i : Int) + 1))]) (S' := []) (h' := ((SHv st dr rd), (ovl a s b))) (fun _ => rfl) ?_
        rw [show (w32 ((i : Int) + 1)) = ((i : Int) + 1) from w32_id (by unfold R32; omega)]
        refine Ev.steps (k := 1) (pc' := 69) (L' := [Vr 166, Vi (r : Int), Vi (k0 : Int), Vi (D : Int), Vi ((i : Int) + 1)]) (S' := []) (h' := ((SHv st dr rd), (ovl a s b))) (fun _ => rfl) ?_
        refine ih _ (by omega) (i + 1) (by omega) (fun h => ?_) rfl
        rcases ex_s.mp h with h | h
        · exact hn h
        · omega
      · refine Ev.steps (k := 6) (pc' := 111) (L' := [Vr 166, Vi (r : Int), Vi (k0 : Int), Vi (D : Int), Vi (i : Int)]) (S' := [Vi (w32 (6 * (i : Int))), Vi 96, Vr 210]) (h' := ((SHv st dr rd), (ovl a s b))) (fun _ => rfl) ?_
        rw [show (w32 (6 * (i : Int))) = (6 * (i : Int)) from w32_id (by unfold R32; omega)]
        refine Ev.steps (k := 1) (pc' := 112) (L' := [Vr 166, Vi (r : Int), Vi (k0 : Int), Vi (D : Int), Vi (i : Int)]) (S' := [Vi (w32 (96 + (6 * (i : Int)))), Vr 210]) (h' := ((SHv st dr rd), (ovl a s b))) (fun _ => rfl) ?_
        rw [show (w32 (96 + (6 * (i : Int)))) = (96 + (6 * (i : Int))) from w32_id (by unfold R32; omega)]
        refine Ev.steps (k := 2) (pc' := 114) (L' := [Vr 166, Vi (r : Int), Vi (k0 : Int), Vi (D : Int), Vi (i : Int)]) (S' := [Vi (w32 ((96 + (6 * (i : Int))) + 1)), Vr 210]) (h' := ((SHv st dr rd), (ovl a s b))) (fun _ => rfl) ?_
        rw [show (w32 ((96 + (6 * (i : Int))) + 1)) = ((96 + (6 * (i : Int))) + 1) from w32_id (by unfold R32; omega)]
        refine Ev.iald (v := (aftS (gS G) (outB (gE G) r) (gn G) 8 (6 * i + 1))) rfl (by decide) rfl (by omega) (by omega) ((show (b 210 (((96 + 6 * i) + 1))) = _ by rw [show 96 + 6 * i + 1 = 96 * 1 + (6 * i + 1) by omega]; exact hEv.2.2.2.2.1 _ (by omega))) ?_
        refine Ev.steps (k := 5) (pc' := 123) (L' := [Vr 166, Vi (r : Int), Vi (k0 : Int), Vi (D : Int), Vi (i : Int)]) (S' := [Vi (w32 (6 * (k0 : Int))), Vr 210, Vi (aftS (gS G) (outB (gE G) r) (gn G) 8 (6 * i + 1))]) (h' := ((SHv st dr rd), (ovl a s b))) (fun _ => rfl) ?_
        rw [show (w32 (6 * (k0 : Int))) = (6 * (k0 : Int)) from w32_id (by unfold R32; omega)]
        refine Ev.steps (k := 2) (pc' := 125) (L' := [Vr 166, Vi (r : Int), Vi (k0 : Int), Vi (D : Int), Vi (i : Int)]) (S' := [Vi (w32 ((6 * (k0 : Int)) + 1)), Vr 210, Vi (aftS (gS G) (outB (gE G) r) (gn G) 8 (6 * i + 1))]) (h' := ((SHv st dr rd), (ovl a s b))) (fun _ => rfl) ?_
        rw [show (w32 ((6 * (k0 : Int)) + 1)) = ((6 * (k0 : Int)) + 1) from w32_id (by unfold R32; omega)]
        refine Ev.iald (v := (gA G (gn G) 8 (6 * k0 + 1))) rfl (by decide) rfl (by omega) (by omega) (e210 _ (show 6 * k0 + 1 < 6 * (gA G (gn G) 9 0).toNat by omega)) ?_
        refine Ev.ite (P := (aftS (gS G) (outB (gE G) r) (gn G) 8 (6 * i + 1)) ≠ (gA G (gn G) 8 (6 * k0 + 1))) (k := 1) (a := 131) (b := 129) (L' := [Vr 166, Vi (r : Int), Vi (k0 : Int), Vi (D : Int), Vi (i : Int)]) (S' := []) (h' := ((SHv st dr rd), (ovl a s b))) (fun _ => rfl) (fun b126 => ?_) (fun b126 => ?_)
        · refine Ev.steps (k := 1) (pc' := 134) (L' := [Vr 166, Vi (r : Int), Vi (k0 : Int), Vi (D : Int), Vi (w32 ((i : Int) + 1))]) (S' := []) (h' := ((SHv st dr rd), (ovl a s b))) (fun _ => rfl) ?_
          rw [show (w32 ((i : Int) + 1)) = ((i : Int) + 1) from w32_id (by unfold R32; omega)]
          refine Ev.steps (k := 1) (pc' := 69) (L' := [Vr 166, Vi (r : Int), Vi (k0 : Int), Vi (D : Int), Vi ((i : Int) + 1)]) (S' := []) (h' := ((SHv st dr rd), (ovl a s b))) (fun _ => rfl) ?_
          refine ih _ (by omega) (i + 1) (by omega) (fun h => ?_) rfl
          rcases ex_s.mp h with h | h
          · exact hn h
          · omega
        · refine Ev.fin (k := 2) (r := (some (Vi 0))) (h' := ((SHv st dr rd), (ovl a s b))) (fun _ => rfl) ?_
          refine ⟨?_, rfl⟩
          rw [if_pos ⟨i, by omega, by omega, by omega⟩]
theorem g_needed {X : List Int} {d : Nat} {st dr rd : Int} {a s b : C3} (x y : Int) {G : GST} (hT : TopM G b) : Ev X (d + 6) 234 0 [Vr 166, Vi x, Vi y, Vx, Vx] [] (SHv st dr rd, ovl a s b) (fun rr hh => rr = some (Vi (aNeeded G x y)) ∧ ∃ s' b' : C3, hh = (SHv st dr rd, ovl a s' b') ∧ TopM G b') := by
  obtain ⟨bk, hY_b, hWY, hB1, hWB, hWE, hn180, hEQ, hTp, hfk, hfp, hO⟩ := id hT
  obtain ⟨hb2_b, h12_b, h168_b, h169_b, h170_b, h171_b, h173_b, h172_b, h174_b, h176_b, h178_b, h175_b, h177_b, h179_b, h180_b, h184_b⟩ := id hY_b
  obtain ⟨wR, wD, wW, wT, wL, wC, wdoor, wsym, wWI, wTI, wCl, wRu⟩ := id hWY
  obtain ⟨w8, wWc⟩ := wW
  obtain ⟨t8, wTc⟩ := wT
  obtain ⟨r8, wRc⟩ := wR
  obtain ⟨l30, wLc⟩ := wL
  obtain ⟨c12, wCc⟩ := wC
  obtain ⟨e202, e203, e204, e211, e210, eHis, e212⟩ := id hEQ
  have a9 : 0 ≤ gA G (gn G) 9 0 ∧ gA G (gn G) 9 0 ≤ 8 := (aftS_wf hWY hWE (gn G) hn180).1.2.2.2.2.2.2.2
  refine Ev.steps (k := 6) (pc' := 10) (L' := [Vr 166, Vi x, Vi y, Vx, Vx]) (S' := [Vi (b 166 12), Vr 173, Vi 0, Vi x]) (h' := ((SHv st dr rd), (ovl a s b))) (fun _ => rfl) ?_
  rw [h12_b]
  refine Ev.iald (v := ((nL (gS G) : Nat) : Int)) rfl (by decide) rfl (by omega) (by omega) (h173_b) ?_
  refine Ev.steps (k := 2) (pc' := 13) (L' := [Vr 166, Vi x, Vi y, Vx, Vx]) (S' := [Vi (w32 (((nL (gS G) : Nat) : Int) - 1)), Vi 0, Vi x]) (h' := ((SHv st dr rd), (ovl a s b))) (fun _ => rfl) ?_
  rw [show (w32 (((nL (gS G) : Nat) : Int) - 1)) = (((nL (gS G) : Nat) : Int) - 1) from w32_id (by unfold R32; omega)]
  refine Ev.call (k := 0) (pc1 := 13) (L1 := [Vr 166, Vi x, Vi y, Vx, Vx]) (S1 := [Vi (((nL (gS G) : Nat) : Int) - 1), Vi 0, Vi x]) (h1 := ((SHv st dr rd), (ovl a s b))) (m' := 189) (as := [Vi x, Vi 0, Vi (((nL (gS G) : Nat) : Int) - 1)]) (S' := []) (L0 := [Vi x, Vi 0, Vi (((nL (gS G) : Nat) : Int) - 1)]) (fun _ => rfl) rfl rfl rfl rfl rfl rfl (m_is x 0 ((((nL (gS G) : Nat) : Int) - 1))) (fun r h' hq => ?_)
  obtain ⟨rfl, rfl⟩ := hq
  rw [show (if 0 ≤ x ∧ x ≤ (((nL (gS G) : Nat) : Int) - 1) then (1 : Int) else 0) = if okRl G x then 1 else 0 from ite_cg (by omega)]
  by_cases c13 : okRl G x
  · rw [if_pos c13]
    show Ev X _ _ 16 [Vr 166, Vi x, Vi y, Vx, Vx] [Vi 1] ((SHv st dr rd), (ovl a s b)) _
    refine Ev.steps (k := 7) (pc' := 27) (L' := [Vr 166, Vi x, Vi y, Vx, Vx]) (S' := [Vi (b 203 0), Vi 0, Vi y]) (h' := ((SHv st dr rd), (ovl a s b))) (fun _ => rfl) ?_
    rw [e203]
    refine Ev.steps (k := 2) (pc' := 29) (L' := [Vr 166, Vi x, Vi y, Vx, Vx]) (S' := [Vi (w32 ((gA G (gn G) 9 0) - 1)), Vi 0, Vi y]) (h' := ((SHv st dr rd), (ovl a s b))) (fun _ => rfl) ?_
    rw [show (w32 ((gA G (gn G) 9 0) - 1)) = ((gA G (gn G) 9 0) - 1) from w32_id (by unfold R32; omega)]
    refine Ev.call (k := 0) (pc1 := 29) (L1 := [Vr 166, Vi x, Vi y, Vx, Vx]) (S1 := [Vi ((gA G (gn G) 9 0) - 1), Vi 0, Vi y]) (h1 := ((SHv st dr rd), (ovl a s b))) (m' := 189) (as := [Vi y, Vi 0, Vi ((gA G (gn G) 9 0) - 1)]) (S' := []) (L0 := [Vi y, Vi 0, Vi ((gA G (gn G) 9 0) - 1)]) (fun _ => rfl) rfl rfl rfl rfl rfl rfl (m_is y 0 (((gA G (gn G) 9 0) - 1))) (fun r h' hq => ?_)
    obtain ⟨rfl, rfl⟩ := hq
    rw [show (if 0 ≤ y ∧ y ≤ ((gA G (gn G) 9 0) - 1) then (1 : Int) else 0) = if 0 ≤ y ∧ y < gA G (gn G) 9 0 then 1 else 0 from ite_cg (by omega)]
    by_cases c29 : 0 ≤ y ∧ y < gA G (gn G) 9 0
    · rw [if_pos c29]
      show Ev X _ _ 32 [Vr 166, Vi x, Vi y, Vx, Vx] [Vi 1] ((SHv st dr rd), (ovl a s b)) _
      refine Ev.steps (k := 1) (pc' := 37) (L' := [Vr 166, Vi x, Vi y, Vx, Vx]) (S' := []) (h' := ((SHv st dr rd), (ovl a s b))) (fun _ => rfl) ?_
      have hn0 : 0 < gn G := by
        by_cases h : gn G = 0
        · exfalso
          have h2 : gA G (gn G) 9 0 = 0 := by rw [h]; rfl
          omega
        · omega
      obtain ⟨r, hr_⟩ : ∃ r : Nat, x = r := ⟨x.toNat, by omega⟩
      obtain ⟨k0, hk_⟩ : ∃ k0 : Nat, y = k0 := ⟨y.toNat, by omega⟩
      subst hr_
      subst hk_
      have hk0 : (k0 : Int) < gA G (gn G) 9 0 := c29.2
      have hr30 : r < 30 := by omega
      unfold aNeeded
      rw [if_pos ⟨c13, c29⟩, Int.toNat_natCast, Int.toNat_natCast]
      refine Ev.call (k := 3) (pc1 := 40) (L1 := [Vr 166, Vi (r : Int), Vi (k0 : Int), Vx, Vx]) (S1 := [Vi 2, Vi 0, Vr 166]) (h1 := ((SHv st dr rd), (ovl a s b))) (m' := 204) (as := [Vr 166, Vi 0, Vi 2]) (S' := []) (L0 := [Vr 166, Vi 0, Vi 2, Vx]) (fun _ => rfl) rfl rfl rfl rfl rfl rfl (m_copies 0 2 (by omega) (by omega) (by omega) hO hWY (e212 (by omega)).2) (fun r h' hq => ?_)
      obtain ⟨rfl, b2, rfl, g1, g2, g3⟩ := hq
      show Ev X _ _ 43 [Vr 166, Vi (r : Int), Vi (k0 : Int), Vx, Vx] [] ((SHv st dr rd), (ovl a s b2)) _
      refine Ev.steps (k := 5) (pc' := 51) (L' := [Vr 166, Vi (r : Int), Vi (k0 : Int), Vx, Vx]) (S' := [Vi (w32 (60 + (r : Int))), Vr 201]) (h' := ((SHv st dr rd), (ovl a s b2))) (fun _ => rfl) ?_
      rw [show (w32 (60 + (r : Int))) = ((30 * 2 + r : Nat) : Int) from by unfold w32; omega]
      refine Ev.steps (k := 1) (pc' := 52) (L' := [Vr 166, Vi (r : Int), Vi (k0 : Int), Vx, Vx]) (S' := [Vi 1, Vi ((30 * 2 + r : Nat) : Int), Vr 201]) (h' := ((SHv st dr rd), (ovl a s b2))) (fun _ => rfl) ?_
      refine Ev.zast (c' := (ovl a s (updC b2 201 ((30 * 2 + r)) 1))) rfl (by decide) rfl (by omega) (by omega) (by omega) (ovl_wm (by decide)) ?_
      have hF : FrS 2 b (updC b2 201 ((30 * 2 + r)) 1) := g1.up (by unfold InS; omega)
      refine Ev.steps (k := 7) (pc' := 62) (L' := [Vr 166, Vi (r : Int), Vi (k0 : Int), Vx, Vx]) (S' := [Vi (b2 202 0), Vi 2, Vi 1, Vr 166]) (h' := ((SHv st dr rd), (ovl a s (updC b2 201 ((30 * 2 + r)) 1)))) (fun _ => rfl) ?_
      rw [(show (b2 202 0) = ((gn G : Nat) : Int) by rw [g1.row (o := 202) (by omega)]; exact e202)]
      refine Ev.call (k := 0) (pc1 := 62) (L1 := [Vr 166, Vi (r : Int), Vi (k0 : Int), Vx, Vx]) (S1 := [Vi ((gn G : Nat) : Int), Vi 2, Vi 1, Vr 166]) (h1 := ((SHv st dr rd), (ovl a s (updC b2 201 ((30 * 2 + r)) 1)))) (m' := 205) (as := [Vr 166, Vi 1, Vi 2, Vi ((gn G : Nat) : Int)]) (S' := []) (L0 := [Vr 166, Vi 1, Vi 2, Vi ((gn G : Nat) : Int), Vx, Vx]) (fun _ => rfl) rfl rfl rfl rfl rfl rfl (m_goes 1 2 (gn G) hWY (outB_wf (r := r) hWE) (by omega) (by omega) hn180 (hY_b.fs hF) (outB_rep (k := 2) g2 (by omega))) (fun r h' hq => ?_)
      obtain ⟨rfl, s3, b3, rfl, q1, q2⟩ := hq
      show Ev X _ _ 65 [Vr 166, Vi (r : Int), Vi (k0 : Int), Vx, Vx] [Vi (aftS (gS G) (outB (gE G) r) (gn G) 9 0)] ((SHv st dr rd), (ovl a s3 b3)) _
      refine Ev.steps (k := 3) (pc' := 69) (L' := [Vr 166, Vi (r : Int), Vi (k0 : Int), Vi (aftS (gS G) (outB (gE G) r) (gn G) 9 0), Vi 0]) (S' := []) (h' := ((SHv st dr rd), (ovl a s3 b3))) (fun _ => rfl) ?_
      have hr : b3 201 = updC b2 201 (30 * 2 + r) 1 201 := q2.row (by omega) (by omega)
      have hT3 : TopM G b3 := hT.fx (hF.fx.tr q2.fx) (fun i hi => by
        rw [hr, updC_if]
        split
        · exact Or.inr rfl
        · exact g3 i hi)
      have a9 := (aftS_wf hWY (outB_wf (r := r) hWE) (gn G) hn180).1.2.2.2.2.2.2.2
      obtain ⟨D, hD⟩ : ∃ D : Nat, aftS (gS G) (outB (gE G) r) (gn G) 9 0 = D := ⟨(aftS (gS G) (outB (gE G) r) (gn G) 9 0).toNat, by omega⟩
      rw [hD, Int.toNat_natCast]
      exact Ev.mono (m_needed_l r k0 D hT3 hk0 q1 hD (by omega) 0 (by omega) (fun ⟨i, h, _⟩ => absurd h (by omega))) (fun rr hh h => ⟨h.1, s3, b3, h.2, hT3⟩)
    · rw [if_neg c29]
      show Ev X _ _ 32 [Vr 166, Vi x, Vi y, Vx, Vx] [Vi 0] ((SHv st dr rd), (ovl a s b)) _
      refine Ev.fin (k := 3) (r := (some (Vi (-1)))) (h' := ((SHv st dr rd), (ovl a s b))) (fun _ => rfl) ?_
      refine ⟨?_, s, b, rfl, hT⟩
      unfold aNeeded
      first | rw [if_neg (by exact fun h => c13 h.1)] | rw [if_neg (by exact fun h => c29 h.2)]
  · rw [if_neg c13]
    show Ev X _ _ 16 [Vr 166, Vi x, Vi y, Vx, Vx] [Vi 0] ((SHv st dr rd), (ovl a s b)) _
    refine Ev.fin (k := 3) (r := (some (Vi (-1)))) (h' := ((SHv st dr rd), (ovl a s b))) (fun _ => rfl) ?_
    refine ⟨?_, s, b, rfl, hT⟩
    unfold aNeeded
    first | rw [if_neg (by exact fun h => c13 h.1)] | rw [if_neg (by exact fun h => c29 h.2)]
theorem mul_c {x y : Nat} (hx : x ≤ 8) (hy : y ≤ 8) : w32 ((x : Int) * (y : Int)) = ((x * y : Nat) : Int) := by
  rw [← Int.natCast_mul]
  have : x * y ≤ 8 * 8 := Nat.mul_le_mul hx hy
  exact w32_id (by unfold R32; omega)
theorem i_div_c {x y : Nat} (hx : x ≤ 2147483647) (hy : 0 < y) : i_div (x : Int) (y : Int) = ((x / y : Nat) : Int) := by
  rw [i_div_nn (by omega) (by omega), Int.natCast_ediv]
theorem i_rem_c {x y : Nat} (hx : x ≤ 2147483647) (hy : 0 < y) : i_rem (x : Int) (y : Int) = ((x % y : Nat) : Int) := by
  rw [i_rem_nn (by omega) (by omega), Int.natCast_emod]
theorem dv_lt {x y n : Nat} (h : x < n * y) : x / y < n := Nat.div_lt_of_lt_mul (by rw [Nat.mul_comm]; exact h)
theorem md_lt {x y n : Nat} (h : x < n * y) : 0 < y ∧ x % y < y := by
  have hy : 0 < y := by
    by_cases h0 : y = 0
    · rw [h0, Nat.mul_zero] at h
      omega
    · omega
  exact ⟨hy, Nat.mod_lt _ hy⟩
theorem chgB_wf {S : STY} {B : SC} {j : Nat} (h : WfB S B) (hj : j < chgN S) : WfB S (chgB S B j) := by
  unfold chgB
  unfold chgN at hj
  split
  · exact outB_wf h
  · split
    · next h1 h2 =>
      have h3 : j - nL S < nW S * nR S := by omega
      have h4 := md_lt h3
      refine ⟨fun p hp => ?_, h.2.1, h.2.2⟩
      rw [updC_if]
      split
      · omega
      · exact h.1 p hp
    · next h1 h2 =>
      have h3 : j - nL S - nW S * nR S < nT S * nR S := by omega
      have h4 := md_lt h3
      refine ⟨h.1, fun p hp => ?_, h.2.2⟩
      rw [updC_if]
      split
      · omega
      · exact h.2.1 p hp
/-- what behind a change -/
def PCh (st dr rd : Int) (a s : SC) (G : GST) (j : Nat) : Option pm_V → pm_H → Prop := fun rr hh => ∃ b' : SC, hh = (SHv st dr rd, ovl a s b') ∧ TopM G b' ∧ ((j < chgN (gS G) ∧ rr = some (Vi 1) ∧ RepB (gS G) (chgB (gS G) (gE G) j) b' 2 ∧ b' 166 76 = chgW (gS G) j 0 ∧ b' 166 77 = chgW (gS G) j 1 ∧ b' 166 78 = chgW (gS G) j 2) ∨ (chgN (gS G) ≤ j ∧ rr = some (Vi 0)))
def ch3 (b : SC) (x y z : Int) : SC := updC (updC (updC b 166 76 x) 166 77 y) 166 78 z
theorem ch3_76 {b : SC} {x y z : Int} : ch3 b x y z 166 76 = x := by
  unfold ch3
  rw [updC_nt (by omega), updC_nt (by omega), updC_sm]
theorem ch3_77 {b : SC} {x y z : Int} : ch3 b x y z 166 77 = y := by
  unfold ch3
  rw [updC_nt (by omega), updC_sm]
theorem ch3_78 {b : SC} {x y z : Int} : ch3 b x y z 166 78 = z := updC_sm
theorem ch3_u76 {b : SC} {x y z v : Int} : updC (ch3 b x y z) 166 76 v = ch3 b v y z := by
  funext o i
  unfold ch3 updC
  by_cases h : o = 166
  · subst h
    by_cases h1 : i = 76
    · subst h1; rfl
    · have e1 : Nat.beq i 76 = false := by cases h2 : Nat.beq i 76 with
        | false => rfl
        | true => exact absurd (Nat.eq_of_beq_eq_true h2) h1
      simp [e1]
  · have e1 : Nat.beq o 166 = false := by cases h2 : Nat.beq o 166 with
      | false => rfl
      | true => exact absurd (Nat.eq_of_beq_eq_true h2) h
    simp [e1]
theorem ch3_u77 {b : SC} {x y z v : Int} : updC (ch3 b x y z) 166 77 v = ch3 b x v z := by
  funext o i
  unfold ch3 updC
  by_cases h : o = 166
  · subst h
    by_cases h1 : i = 77
    · subst h1; rfl
    · have e1 : Nat.beq i 77 = false := by cases h2 : Nat.beq i 77 with
        | false => rfl
        | true => exact absurd (Nat.eq_of_beq_eq_true h2) h1
      simp [e1]
  · have e1 : Nat.beq o 166 = false := by cases h2 : Nat.beq o 166 with
      | false => rfl
      | true => exact absurd (Nat.eq_of_beq_eq_true h2) h
    simp [e1]
theorem ch3_u78 {b : SC} {x y z v : Int} : updC (ch3 b x y z) 166 78 v = ch3 b x y v := updC_tw
theorem ch3_fx {b : SC} {x y z : Int} : FrX b (ch3 b x y z) := ((FrX.rf.up (by unfold InX InE; omega)).up (by unfold InX InE; omega)).up (by unfold InX InE; omega)
theorem m_changes {X : List Int} {d : Nat} {st dr rd : Int} {a s b : C3} (j : Nat) {G : GST} (hT : TopM G b) (hn0 : 0 < gn G) (hj : j ≤ 1000000) : Ev X (d + 1) 257 0 [Vr 166, Vi (j : Int), Vx, Vx] [] (SHv st dr rd, ovl a s b) (PCh st dr rd a s G j) := by
  obtain ⟨bk, hY_b, hWY, hB1, hWB, hWE, hn180, hEQ, hTp, hfk, hfp, hO⟩ := id hT
  obtain ⟨hb2_b, h12_b, h168_b, h169_b, h170_b, h171_b, h173_b, h172_b, h174_b, h176_b, h178_b, h175_b, h177_b, h179_b, h180_b, h184_b⟩ := id hY_b
  obtain ⟨wR, wD, wW, wT, wL, wC, wdoor, wsym, wWI, wTI, wCl, wRu⟩ := id hWY
  obtain ⟨w8, wWc⟩ := wW
  obtain ⟨t8, wTc⟩ := wT
  obtain ⟨r8, wRc⟩ := wR
  obtain ⟨l30, wLc⟩ := wL
  obtain ⟨c12, wCc⟩ := wC
  obtain ⟨e202, e203, e204, e211, e210, eHis, e212⟩ := id hEQ
  obtain ⟨M, hM⟩ : ∃ M, nW (gS G) * nR (gS G) = M := ⟨_, rfl⟩
  obtain ⟨M2, hM2⟩ : ∃ M2, nT (gS G) * nR (gS G) = M2 := ⟨_, rfl⟩
  have hM64 : M ≤ 8 * 8 := by rw [← hM]; exact Nat.mul_le_mul w8 r8
  have hM264 : M2 ≤ 8 * 8 := by rw [← hM2]; exact Nat.mul_le_mul t8 r8
  refine Ev.call (k := 3) (pc1 := 3) (L1 := [Vr 166, Vi (j : Int), Vx, Vx]) (S1 := [Vi 2, Vi 0, Vr 166]) (h1 := ((SHv st dr rd), (ovl a s b))) (m' := 204) (as := [Vr 166, Vi 0, Vi 2]) (S' := []) (L0 := [Vr 166, Vi 0, Vi 2, Vx]) (fun _ => rfl) rfl rfl rfl rfl rfl rfl (m_copies 0 2 (by omega) (by omega) (by omega) hO hWY (e212 hn0).2) (fun r h' hq => ?_)
  obtain ⟨rfl, b2, rfl, g1, g2, g3⟩ := hq
  have hY_b2 := hY_b.fs g1
  obtain ⟨hb2_b2, h12_b2, h168_b2, h169_b2, h170_b2, h171_b2, h173_b2, h172_b2, h174_b2, h176_b2, h178_b2, h175_b2, h177_b2, h179_b2, h180_b2, h184_b2⟩ := id hY_b2
  show Ev X _ _ 6 [Vr 166, Vi (j : Int), Vx, Vx] [] ((SHv st dr rd), (ovl a s b2)) _
  refine Ev.steps (k := 4) (pc' := 10) (L' := [Vr 166, Vi (j : Int), Vi (j : Int), Vx]) (S' := [Vi 0, Vr 166]) (h' := ((SHv st dr rd), (ovl a s b2))) (fun _ => rfl) ?_
  refine Ev.putf (c' := (ovl a s (updC b2 166 76 0))) rfl (by decide) rfl rfl rfl (ovl_wm (by decide)) ?_
  refine Ev.steps (k := 2) (pc' := 15) (L' := [Vr 166, Vi (j : Int), Vi (j : Int), Vx]) (S' := [Vi (j : Int), Vr 166]) (h' := ((SHv st dr rd), (ovl a s (updC b2 166 76 0)))) (fun _ => rfl) ?_
  refine Ev.putf (c' := (ovl a s (updC (updC b2 166 76 0) 166 77 (j : Int)))) rfl (by decide) rfl rfl rfl (ovl_wm (by decide)) ?_
  refine Ev.steps (k := 2) (pc' := 20) (L' := [Vr 166, Vi (j : Int), Vi (j : Int), Vx]) (S' := [Vi (-1), Vr 166]) (h' := ((SHv st dr rd), (ovl a s (updC (updC b2 166 76 0) 166 77 (j : Int))))) (fun _ => rfl) ?_
  refine Ev.putf (c' := (ovl a s (updC (updC (updC b2 166 76 0) 166 77 (j : Int)) 166 78 (-1)))) rfl (by decide) rfl rfl rfl (ovl_wm (by decide)) ?_
  obtain ⟨b3, hb3⟩ : ∃ b3 : SC, b3 = ch3 b2 0 (j : Int) (-1) := ⟨_, rfl⟩
  show Ev X _ _ 23 [Vr 166, Vi (j : Int), Vi (j : Int), Vx] [] (SHv st dr rd, ovl a s (ch3 b2 0 (j : Int) (-1))) _
  rw [← hb3]
  refine Ev.steps (k := 5) (pc' := 32) (L' := [Vr 166, Vi (j : Int), Vi (j : Int), Vx]) (S' := [Vi (b3 166 12), Vr 173, Vi (j : Int)]) (h' := ((SHv st dr rd), (ovl a s b3))) (fun _ => rfl) ?_
  rw [(show (b3 166 12) = (bk : Int) by rw [hb3]; exact h12_b2)]
  refine Ev.iald (v := ((nL (gS G) : Nat) : Int)) rfl (by decide) rfl (by omega) (by omega) ((show (b3 173 bk) = ((nL (gS G) : Nat) : Int) by rw [hb3]; exact h173_b2)) ?_
  refine Ev.ite (P := ((nL (gS G) : Nat) : Int) ≤ (j : Int)) (k := 1) (a := 48) (b := 36) (L' := [Vr 166, Vi (j : Int), Vi (j : Int), Vx]) (S' := []) (h' := ((SHv st dr rd), (ovl a s b3))) (fun _ => rfl) (fun b33 => ?_) (fun b33 => ?_)
  · obtain ⟨j1, rfl⟩ : ∃ j1, j = nL (gS G) + j1 := ⟨j - nL (gS G), by omega⟩
    refine Ev.steps (k := 5) (pc' := 57) (L' := [Vr 166, Vi ((nL (gS G) + j1 : Nat) : Int), Vi ((nL (gS G) + j1 : Nat) : Int), Vx]) (S' := [Vi (b3 166 12), Vr 173, Vi ((nL (gS G) + j1 : Nat) : Int)]) (h' := ((SHv st dr rd), (ovl a s b3))) (fun _ => rfl) ?_
    rw [(show (b3 166 12) = (bk : Int) by rw [hb3]; exact h12_b2)]
    refine Ev.iald (v := ((nL (gS G) : Nat) : Int)) rfl (by decide) rfl (by omega) (by omega) ((show (b3 173 bk) = ((nL (gS G) : Nat) : Int) by rw [hb3]; exact h173_b2)) ?_
    refine Ev.steps (k := 1) (pc' := 59) (L' := [Vr 166, Vi ((nL (gS G) + j1 : Nat) : Int), Vi ((nL (gS G) + j1 : Nat) : Int), Vx]) (S' := [Vi (w32 (((nL (gS G) + j1 : Nat) : Int) - ((nL (gS G) : Nat) : Int)))]) (h' := ((SHv st dr rd), (ovl a s b3))) (fun _ => rfl) ?_
    rw [show (w32 (((nL (gS G) + j1 : Nat) : Int) - ((nL (gS G) : Nat) : Int))) = (j1 : Int) from by unfold w32; omega]
    refine Ev.steps (k := 5) (pc' := 68) (L' := [Vr 166, Vi ((nL (gS G) + j1 : Nat) : Int), Vi (j1 : Int), Vx]) (S' := [Vi (b3 166 12), Vr 170]) (h' := ((SHv st dr rd), (ovl a s b3))) (fun _ => rfl) ?_
    rw [(show (b3 166 12) = (bk : Int) by rw [hb3]; exact h12_b2)]
    refine Ev.iald (v := ((nW (gS G) : Nat) : Int)) rfl (by decide) rfl (by omega) (by omega) ((show (b3 170 bk) = ((nW (gS G) : Nat) : Int) by rw [hb3]; exact h170_b2)) ?_
    refine Ev.steps (k := 4) (pc' := 77) (L' := [Vr 166, Vi ((nL (gS G) + j1 : Nat) : Int), Vi (j1 : Int), Vx]) (S' := [Vi (b3 166 12), Vr 168, Vi ((nW (gS G) : Nat) : Int)]) (h' := ((SHv st dr rd), (ovl a s b3))) (fun _ => rfl) ?_
    rw [(show (b3 166 12) = (bk : Int) by rw [hb3]; exact h12_b2)]
    refine Ev.iald (v := ((nR (gS G) : Nat) : Int)) rfl (by decide) rfl (by omega) (by omega) ((show (b3 168 bk) = ((nR (gS G) : Nat) : Int) by rw [hb3]; exact h168_b2)) ?_
    refine Ev.steps (k := 1) (pc' := 79) (L' := [Vr 166, Vi ((nL (gS G) + j1 : Nat) : Int), Vi (j1 : Int), Vx]) (S' := [Vi (w32 (((nW (gS G) : Nat) : Int) * ((nR (gS G) : Nat) : Int)))]) (h' := ((SHv st dr rd), (ovl a s b3))) (fun _ => rfl) ?_
    rw [show (w32 (((nW (gS G) : Nat) : Int) * ((nR (gS G) : Nat) : Int))) = (M : Int) from by rw [← hM]; exact mul_c w8 r8]
    refine Ev.ite (P := (M : Int) ≤ (j1 : Int)) (k := 5) (a := 90) (b := 86) (L' := [Vr 166, Vi ((nL (gS G) + j1 : Nat) : Int), Vi (j1 : Int), Vi (M : Int)]) (S' := [Vr 166]) (h' := ((SHv st dr rd), (ovl a s b3))) (fun _ => rfl) (fun b83 => ?_) (fun b83 => ?_)
    · refine Ev.steps (k := 1) (pc' := 91) (L' := [Vr 166, Vi ((nL (gS G) + j1 : Nat) : Int), Vi (j1 : Int), Vi (M : Int)]) (S' := [Vi 2, Vr 166]) (h' := ((SHv st dr rd), (ovl a s b3))) (fun _ => rfl) ?_
      refine Ev.putf (c' := (ovl a s (updC b3 166 76 2))) rfl (by decide) rfl rfl rfl (ovl_wm (by decide)) ?_
      obtain ⟨b4, hb4⟩ : ∃ b4 : SC, b4 = ch3 b2 2 ((nL (gS G) + j1 : Nat) : Int) (-1) := ⟨_, rfl⟩
      rw [show updC b3 166 76 2 = b4 by rw [hb3, hb4]; exact ch3_u76]
      refine Ev.ite (P := (M : Int) ≤ (j1 : Int)) (k := 3) (a := 103) (b := 99) (L' := [Vr 166, Vi ((nL (gS G) + j1 : Nat) : Int), Vi (j1 : Int), Vi (M : Int)]) (S' := []) (h' := ((SHv st dr rd), (ovl a s b4))) (fun _ => rfl) (fun b96 => ?_) (fun b96 => ?_)
      · obtain ⟨j2, hj2⟩ : ∃ j2, j1 = M + j2 := ⟨j1 - M, by omega⟩
        refine Ev.steps (k := 3) (pc' := 106) (L' := [Vr 166, Vi ((nL (gS G) + j1 : Nat) : Int), Vi (j1 : Int), Vi (M : Int)]) (S' := [Vi (w32 ((j1 : Int) - (M : Int)))]) (h' := ((SHv st dr rd), (ovl a s b4))) (fun _ => rfl) ?_
        rw [show (w32 ((j1 : Int) - (M : Int))) = (j2 : Int) from by unfold w32; omega]
        refine Ev.steps (k := 3) (pc' := 111) (L' := [Vr 166, Vi ((nL (gS G) + j1 : Nat) : Int), Vi (j2 : Int), Vi (M : Int)]) (S' := [Vi (b4 166 76)]) (h' := ((SHv st dr rd), (ovl a s b4))) (fun _ => rfl) ?_
        rw [(show (b4 166 76) = 2 by rw [hb4]; exact ch3_76)]
        refine Ev.steps (k := 7) (pc' := 124) (L' := [Vr 166, Vi ((nL (gS G) + j1 : Nat) : Int), Vi (j2 : Int), Vi (M : Int)]) (S' := [Vi (b4 166 12), Vr 171, Vi (j2 : Int)]) (h' := ((SHv st dr rd), (ovl a s b4))) (fun _ => rfl) ?_
        rw [(show (b4 166 12) = (bk : Int) by rw [hb4]; exact h12_b2)]
        refine Ev.iald (v := ((nT (gS G) : Nat) : Int)) rfl (by decide) rfl (by omega) (by omega) ((show (b4 171 bk) = ((nT (gS G) : Nat) : Int) by rw [hb4]; exact h171_b2)) ?_
        refine Ev.steps (k := 4) (pc' := 133) (L' := [Vr 166, Vi ((nL (gS G) + j1 : Nat) : Int), Vi (j2 : Int), Vi (M : Int)]) (S' := [Vi (b4 166 12), Vr 168, Vi ((nT (gS G) : Nat) : Int), Vi (j2 : Int)]) (h' := ((SHv st dr rd), (ovl a s b4))) (fun _ => rfl) ?_
        rw [(show (b4 166 12) = (bk : Int) by rw [hb4]; exact h12_b2)]
        refine Ev.iald (v := ((nR (gS G) : Nat) : Int)) rfl (by decide) rfl (by omega) (by omega) ((show (b4 168 bk) = ((nR (gS G) : Nat) : Int) by rw [hb4]; exact h168_b2)) ?_
        refine Ev.steps (k := 1) (pc' := 135) (L' := [Vr 166, Vi ((nL (gS G) + j1 : Nat) : Int), Vi (j2 : Int), Vi (M : Int)]) (S' := [Vi (w32 (((nT (gS G) : Nat) : Int) * ((nR (gS G) : Nat) : Int))), Vi (j2 : Int)]) (h' := ((SHv st dr rd), (ovl a s b4))) (fun _ => rfl) ?_
        rw [show (w32 (((nT (gS G) : Nat) : Int) * ((nR (gS G) : Nat) : Int))) = (M2 : Int) from by rw [← hM2]; exact mul_c t8 r8]
        refine Ev.ite (P := (j2 : Int) < (M2 : Int)) (k := 1) (a := 140) (b := 138) (L' := [Vr 166, Vi ((nL (gS G) + j1 : Nat) : Int), Vi (j2 : Int), Vi (M : Int)]) (S' := []) (h' := ((SHv st dr rd), (ovl a s b4))) (fun _ => rfl) (fun b135 => ?_) (fun b135 => ?_)
        · have hmd := md_lt (x := j2) (y := nR (gS G)) (n := nT (gS G)) (by omega)
          have hdv := dv_lt (x := j2) (y := nR (gS G)) (n := nT (gS G)) (by omega)
          obtain ⟨qd, hqd⟩ : ∃ q, j2 / nR (gS G) = q := ⟨_, rfl⟩
          obtain ⟨qr, hqr⟩ : ∃ q, j2 % nR (gS G) = q := ⟨_, rfl⟩
          rw [hqd] at hdv
          have hmd2 := hmd.2
          rw [hqr] at hmd2
          refine Ev.steps (k := 6) (pc' := 150) (L' := [Vr 166, Vi ((nL (gS G) + j1 : Nat) : Int), Vi (j2 : Int), Vi (M : Int)]) (S' := [Vi (b4 166 12), Vr 168, Vi (j2 : Int), Vr 166]) (h' := ((SHv st dr rd), (ovl a s b4))) (fun _ => rfl) ?_
          rw [(show (b4 166 12) = (bk : Int) by rw [hb4]; exact h12_b2)]
          refine Ev.iald (v := ((nR (gS G) : Nat) : Int)) rfl (by decide) rfl (by omega) (by omega) ((show (b4 168 bk) = ((nR (gS G) : Nat) : Int) by rw [hb4]; exact h168_b2)) ?_
          refine Ev.simple (pc' := 152) (L' := [Vr 166, Vi ((nL (gS G) + j1 : Nat) : Int), Vi (j2 : Int), Vi (M : Int)]) (S' := [Vi (i_div (j2 : Int) ((nR (gS G) : Nat) : Int)), Vr 166]) rfl (if_neg (by omega)) ?_
          rw [show (i_div (j2 : Int) ((nR (gS G) : Nat) : Int)) = (qd : Int) from by rw [← hqd]; exact i_div_c (by omega) hmd.1]
          refine Ev.putf (c' := (ovl a s (updC b4 166 77 (qd : Int)))) rfl (by decide) rfl rfl rfl (ovl_wm (by decide)) ?_
          refine Ev.steps (k := 6) (pc' := 165) (L' := [Vr 166, Vi ((nL (gS G) + j1 : Nat) : Int), Vi (j2 : Int), Vi (M : Int)]) (S' := [Vi (b4 166 12), Vr 168, Vi (j2 : Int), Vr 166]) (h' := ((SHv st dr rd), (ovl a s (updC b4 166 77 (qd : Int))))) (fun _ => rfl) ?_
          rw [(show (b4 166 12) = (bk : Int) by rw [hb4]; exact h12_b2)]
          refine Ev.iald (v := ((nR (gS G) : Nat) : Int)) rfl (by decide) rfl (by omega) (by omega) ((show (b4 168 bk) = ((nR (gS G) : Nat) : Int) by rw [hb4]; exact h168_b2)) ?_
          refine Ev.simple (pc' := 167) (L' := [Vr 166, Vi ((nL (gS G) + j1 : Nat) : Int), Vi (j2 : Int), Vi (M : Int)]) (S' := [Vi (i_rem (j2 : Int) ((nR (gS G) : Nat) : Int)), Vr 166]) rfl (if_neg (by omega)) ?_
          rw [show (i_rem (j2 : Int) ((nR (gS G) : Nat) : Int)) = (qr : Int) from by rw [← hqr]; exact i_rem_c (by omega) hmd.1]
          refine Ev.putf (c' := (ovl a s (updC (updC b4 166 77 (qd : Int)) 166 78 (qr : Int)))) rfl (by decide) rfl rfl rfl (ovl_wm (by decide)) ?_
          refine Ev.steps (k := 2) (pc' := 174) (L' := [Vr 166, Vi ((nL (gS G) + j1 : Nat) : Int), Vi (j2 : Int), Vi (M : Int)]) (S' := [Vi (b4 166 76)]) (h' := ((SHv st dr rd), (ovl a s (updC (updC b4 166 77 (qd : Int)) 166 78 (qr : Int))))) (fun _ => rfl) ?_
          rw [(show (b4 166 76) = 2 by rw [hb4]; exact ch3_76)]
          refine Ev.steps (k := 8) (pc' := 208) (L' := [Vr 166, Vi ((nL (gS G) + j1 : Nat) : Int), Vi (j2 : Int), Vi (M : Int)]) (S' := [Vi (w32 (16 + (qd : Int))), Vr 200]) (h' := ((SHv st dr rd), (ovl a s (updC (updC b4 166 77 (qd : Int)) 166 78 (qr : Int))))) (fun _ => rfl) ?_
          rw [show (w32 (16 + (qd : Int))) = (16 + (qd : Int)) from w32_id (by unfold R32; omega)]
          refine Ev.steps (k := 2) (pc' := 212) (L' := [Vr 166, Vi ((nL (gS G) + j1 : Nat) : Int), Vi (j2 : Int), Vi (M : Int)]) (S' := [Vi (qr : Int), Vi (16 + (qd : Int)), Vr 200]) (h' := ((SHv st dr rd), (ovl a s (updC (updC b4 166 77 (qd : Int)) 166 78 (qr : Int))))) (fun _ => rfl) ?_
          refine Ev.iast (c' := (ovl a s (updC (updC (updC b4 166 77 (qd : Int)) 166 78 (qr : Int)) 200 ((16 + qd)) (qr : Int)))) rfl (by decide) rfl (by omega) (by omega) (ovl_wm (by decide)) ?_
          refine Ev.fin (k := 2) (r := (some (Vi 1))) (h' := ((SHv st dr rd), (ovl a s (updC (updC (updC b4 166 77 (qd : Int)) 166 78 (qr : Int)) 200 ((16 + qd)) (qr : Int))))) (fun _ => rfl) ?_
          have hcb : chgB (gS G) (gE G) (nL (gS G) + j1) = updC (gE G) 1 (j2 / nR (gS G)) ((j2 % nR (gS G) : Nat) : Int) := by
            unfold chgB
            rw [if_neg (by omega), hM, if_neg (by omega), Nat.add_sub_cancel_left, show j1 - M = j2 by omega]
          have hcw : ∀ w : Int, chgW (gS G) (nL (gS G) + j1) w = if w = 0 then 2 else if w = 1 then ((j2 / nR (gS G) : Nat) : Int) else ((j2 % nR (gS G) : Nat) : Int) := by
            intro w
            unfold chgW
            rw [if_neg (by omega), hM, if_neg (by omega), Nat.add_sub_cancel_left, show j1 - M = j2 by omega]
          rw [hqd, hqr] at hcb hcw
          have hfx : FrX b (updC (updC (updC b4 166 77 (qd : Int)) 166 78 (qr : Int)) 200 ((16 + qd)) (qr : Int)) := by
            refine ((((g1.fx.tr ?_).up ?_).up ?_).up ?_)
            · rw [hb4]
              exact ch3_fx
            · unfold InX InE; omega
            · unfold InX InE; omega
            · unfold InX InE; omega
          have hr : (updC (updC (updC b4 166 77 (qd : Int)) 166 78 (qr : Int)) 200 ((16 + qd)) (qr : Int)) 201 = b2 201 := by rw [hb4]; rfl
          refine ⟨_, rfl, hT.fx hfx (fun i hi => by rw [hr]; exact g3 i hi), Or.inl ⟨by unfold chgN; rw [hM, hM2]; omega, rfl, ?_, ?_, ?_, ?_⟩⟩
          · rw [hcb, hb4, ch3_u77, ch3_u78]
            refine ⟨g2.1, fun p hp => ?_, g2.2.2⟩
            show updC (ch3 b2 _ _ _) 200 _ _ 200 _ = updC (gE G) 1 _ _ 1 p
            rw [updC_if, updC_if]
            by_cases h : p = qd
            · rw [if_pos h, if_pos (by omega)]
            · rw [if_neg h, if_neg (by omega)]
              exact g2.2.1 p hp
          · rw [hcw, if_pos rfl, hb4, ch3_u77, ch3_u78]
            exact ch3_76 (b := b2) (x := 2) (y := (qd : Int)) (z := (qr : Int))
          · rw [hcw, if_neg (by decide), if_pos rfl, hb4, ch3_u77, ch3_u78]
            exact ch3_77 (b := b2) (x := 2) (y := (qd : Int)) (z := (qr : Int))
          · rw [hcw, if_neg (by decide), if_neg (by decide), hb4, ch3_u77, ch3_u78]
            exact ch3_78 (b := b2) (x := 2) (y := (qd : Int)) (z := (qr : Int))
        · refine Ev.fin (k := 2) (r := (some (Vi 0))) (h' := ((SHv st dr rd), (ovl a s b4))) (fun _ => rfl) ?_
          refine ⟨b4, rfl, hT.fx (g1.fx.tr (by rw [hb4]; exact ch3_fx)) (fun i hi => by rw [hb4]; exact g3 i hi), Or.inr ⟨by unfold chgN; rw [hM, hM2]; omega, rfl⟩⟩
      · exfalso; omega
    · refine Ev.steps (k := 2) (pc' := 91) (L' := [Vr 166, Vi ((nL (gS G) + j1 : Nat) : Int), Vi (j1 : Int), Vi (M : Int)]) (S' := [Vi 1, Vr 166]) (h' := ((SHv st dr rd), (ovl a s b3))) (fun _ => rfl) ?_
      refine Ev.putf (c' := (ovl a s (updC b3 166 76 1))) rfl (by decide) rfl rfl rfl (ovl_wm (by decide)) ?_
      obtain ⟨b4, hb4⟩ : ∃ b4 : SC, b4 = ch3 b2 1 ((nL (gS G) + j1 : Nat) : Int) (-1) := ⟨_, rfl⟩
      rw [show updC b3 166 76 1 = b4 by rw [hb3, hb4]; exact ch3_u76]
      have hmd := md_lt (x := j1) (y := nR (gS G)) (n := nW (gS G)) (by omega)
      have hdv := dv_lt (x := j1) (y := nR (gS G)) (n := nW (gS G)) (by omega)
      obtain ⟨qd, hqd⟩ : ∃ q, j1 / nR (gS G) = q := ⟨_, rfl⟩
      obtain ⟨qr, hqr⟩ : ∃ q, j1 % nR (gS G) = q := ⟨_, rfl⟩
      rw [hqd] at hdv
      have hmd2 := hmd.2
      rw [hqr] at hmd2
      refine Ev.ite (P := (M : Int) ≤ (j1 : Int)) (k := 3) (a := 103) (b := 99) (L' := [Vr 166, Vi ((nL (gS G) + j1 : Nat) : Int), Vi (j1 : Int), Vi (M : Int)]) (S' := []) (h' := ((SHv st dr rd), (ovl a s b4))) (fun _ => rfl) (fun b96 => ?_) (fun b96 => ?_)
      · exfalso; omega
      · refine Ev.steps (k := 5) (pc' := 111) (L' := [Vr 166, Vi ((nL (gS G) + j1 : Nat) : Int), Vi (j1 : Int), Vi (M : Int)]) (S' := [Vi (b4 166 76)]) (h' := ((SHv st dr rd), (ovl a s b4))) (fun _ => rfl) ?_
        rw [(show (b4 166 76) = 1 by rw [hb4]; exact ch3_76)]
        refine Ev.steps (k := 8) (pc' := 150) (L' := [Vr 166, Vi ((nL (gS G) + j1 : Nat) : Int), Vi (j1 : Int), Vi (M : Int)]) (S' := [Vi (b4 166 12), Vr 168, Vi (j1 : Int), Vr 166]) (h' := ((SHv st dr rd), (ovl a s b4))) (fun _ => rfl) ?_
        rw [(show (b4 166 12) = (bk : Int) by rw [hb4]; exact h12_b2)]
        refine Ev.iald (v := ((nR (gS G) : Nat) : Int)) rfl (by decide) rfl (by omega) (by omega) ((show (b4 168 bk) = ((nR (gS G) : Nat) : Int) by rw [hb4]; exact h168_b2)) ?_
        refine Ev.simple (pc' := 152) (L' := [Vr 166, Vi ((nL (gS G) + j1 : Nat) : Int), Vi (j1 : Int), Vi (M : Int)]) (S' := [Vi (i_div (j1 : Int) ((nR (gS G) : Nat) : Int)), Vr 166]) rfl (if_neg (by omega)) ?_
        rw [show (i_div (j1 : Int) ((nR (gS G) : Nat) : Int)) = (qd : Int) from by rw [← hqd]; exact i_div_c (by omega) hmd.1]
        refine Ev.putf (c' := (ovl a s (updC b4 166 77 (qd : Int)))) rfl (by decide) rfl rfl rfl (ovl_wm (by decide)) ?_
        refine Ev.steps (k := 6) (pc' := 165) (L' := [Vr 166, Vi ((nL (gS G) + j1 : Nat) : Int), Vi (j1 : Int), Vi (M : Int)]) (S' := [Vi (b4 166 12), Vr 168, Vi (j1 : Int), Vr 166]) (h' := ((SHv st dr rd), (ovl a s (updC b4 166 77 (qd : Int))))) (fun _ => rfl) ?_
        rw [(show (b4 166 12) = (bk : Int) by rw [hb4]; exact h12_b2)]
        refine Ev.iald (v := ((nR (gS G) : Nat) : Int)) rfl (by decide) rfl (by omega) (by omega) ((show (b4 168 bk) = ((nR (gS G) : Nat) : Int) by rw [hb4]; exact h168_b2)) ?_
        refine Ev.simple (pc' := 167) (L' := [Vr 166, Vi ((nL (gS G) + j1 : Nat) : Int), Vi (j1 : Int), Vi (M : Int)]) (S' := [Vi (i_rem (j1 : Int) ((nR (gS G) : Nat) : Int)), Vr 166]) rfl (if_neg (by omega)) ?_
        rw [show (i_rem (j1 : Int) ((nR (gS G) : Nat) : Int)) = (qr : Int) from by rw [← hqr]; exact i_rem_c (by omega) hmd.1]
        refine Ev.putf (c' := (ovl a s (updC (updC b4 166 77 (qd : Int)) 166 78 (qr : Int)))) rfl (by decide) rfl rfl rfl (ovl_wm (by decide)) ?_
        refine Ev.steps (k := 2) (pc' := 174) (L' := [Vr 166, Vi ((nL (gS G) + j1 : Nat) : Int), Vi (j1 : Int), Vi (M : Int)]) (S' := [Vi (b4 166 76)]) (h' := ((SHv st dr rd), (ovl a s (updC (updC b4 166 77 (qd : Int)) 166 78 (qr : Int))))) (fun _ => rfl) ?_
        rw [(show (b4 166 76) = 1 by rw [hb4]; exact ch3_76)]
        refine Ev.steps (k := 8) (pc' := 189) (L' := [Vr 166, Vi ((nL (gS G) + j1 : Nat) : Int), Vi (j1 : Int), Vi (M : Int)]) (S' := [Vi (w32 (16 + (qd : Int))), Vr 199]) (h' := ((SHv st dr rd), (ovl a s (updC (updC b4 166 77 (qd : Int)) 166 78 (qr : Int))))) (fun _ => rfl) ?_
        rw [show (w32 (16 + (qd : Int))) = (16 + (qd : Int)) from w32_id (by unfold R32; omega)]
        refine Ev.steps (k := 2) (pc' := 193) (L' := [Vr 166, Vi ((nL (gS G) + j1 : Nat) : Int), Vi (j1 : Int), Vi (M : Int)]) (S' := [Vi (qr : Int), Vi (16 + (qd : Int)), Vr 199]) (h' := ((SHv st dr rd), (ovl a s (updC (updC b4 166 77 (qd : Int)) 166 78 (qr : Int))))) (fun _ => rfl) ?_
        refine Ev.iast (c' := (ovl a s (updC (updC (updC b4 166 77 (qd : Int)) 166 78 (qr : Int)) 199 ((16 + qd)) (qr : Int)))) rfl (by decide) rfl (by omega) (by omega) (ovl_wm (by decide)) ?_
        refine Ev.fin (k := 3) (r := (some (Vi 1))) (h' := ((SHv st dr rd), (ovl a s (updC (updC (updC b4 166 77 (qd : Int)) 166 78 (qr : Int)) 199 ((16 + qd)) (qr : Int))))) (fun _ => rfl) ?_
        have hcb : chgB (gS G) (gE G) (nL (gS G) + j1) = updC (gE G) 0 (j1 / nR (gS G)) ((j1 % nR (gS G) : Nat) : Int) := by
          unfold chgB
          rw [if_neg (by omega), hM, if_pos (by omega), Nat.add_sub_cancel_left]
        have hcw : ∀ w : Int, chgW (gS G) (nL (gS G) + j1) w = if w = 0 then 1 else if w = 1 then ((j1 / nR (gS G) : Nat) : Int) else ((j1 % nR (gS G) : Nat) : Int) := by
          intro w
          unfold chgW
          rw [if_neg (by omega), hM, if_pos (by omega), Nat.add_sub_cancel_left]
        rw [hqd, hqr] at hcb hcw
        have hfx : FrX b (updC (updC (updC b4 166 77 (qd : Int)) 166 78 (qr : Int)) 199 ((16 + qd)) (qr : Int)) := by
          refine ((((g1.fx.tr ?_).up ?_).up ?_).up ?_)
          · rw [hb4]
            exact ch3_fx
          · unfold InX InE; omega
          · unfold InX InE; omega
          · unfold InX InE; omega
        have hr : (updC (updC (updC b4 166 77 (qd : Int)) 166 78 (qr : Int)) 199 ((16 + qd)) (qr : Int)) 201 = b2 201 := by rw [hb4]; rfl
        refine ⟨_, rfl, hT.fx hfx (fun i hi => by rw [hr]; exact g3 i hi), Or.inl ⟨by unfold chgN; rw [hM, hM2]; omega, rfl, ?_, ?_, ?_, ?_⟩⟩
        · rw [hcb, hb4, ch3_u77, ch3_u78]
          refine ⟨fun p hp => ?_, g2.2.1, g2.2.2⟩
          show updC (ch3 b2 _ _ _) 199 _ _ 199 _ = updC (gE G) 0 _ _ 0 p
          rw [updC_if, updC_if]
          by_cases h : p = qd
          · rw [if_pos h, if_pos (by omega)]
          · rw [if_neg h, if_neg (by omega)]
            exact g2.1 p hp
        · rw [hcw, if_pos rfl, hb4, ch3_u77, ch3_u78]
          exact ch3_76 (b := b2) (x := 1) (y := (qd : Int)) (z := (qr : Int))
        · rw [hcw, if_neg (by decide), if_pos rfl, hb4, ch3_u77, ch3_u78]
          exact ch3_77 (b := b2) (x := 1) (y := (qd : Int)) (z := (qr : Int))
        · rw [hcw, if_neg (by decide), if_neg (by decide), hb4, ch3_u77, ch3_u78]
          exact ch3_78 (b := b2) (x := 1) (y := (qd : Int)) (z := (qr : Int))
  · refine Ev.steps (k := 5) (pc' := 44) (L' := [Vr 166, Vi (j : Int), Vi (j : Int), Vx]) (S' := [Vi (w32 (60 + (j : Int))), Vr 201]) (h' := ((SHv st dr rd), (ovl a s b3))) (fun _ => rfl) ?_
    rw [show (w32 (60 + (j : Int))) = (60 + (j : Int)) from w32_id (by unfold R32; omega)]
    refine Ev.steps (k := 1) (pc' := 45) (L' := [Vr 166, Vi (j : Int), Vi (j : Int), Vx]) (S' := [Vi 1, Vi (60 + (j : Int)), Vr 201]) (h' := ((SHv st dr rd), (ovl a s b3))) (fun _ => rfl) ?_
    refine Ev.zast (c' := (ovl a s (updC b3 201 ((60 + j)) 1))) rfl (by decide) rfl (by omega) (by omega) (by omega) (ovl_wm (by decide)) ?_
    refine Ev.fin (k := 2) (r := (some (Vi 1))) (h' := ((SHv st dr rd), (ovl a s (updC b3 201 ((60 + j)) 1)))) (fun _ => rfl) ?_
    have hcb : chgB (gS G) (gE G) j = outB (gE G) j := by
      unfold chgB
      rw [if_pos (by omega)]
    have hcw : ∀ w : Int, chgW (gS G) j w = if w = 0 then 0 else if w = 1 then (j : Int) else -1 := by
      intro w
      unfold chgW
      rw [if_pos (by omega)]
    have hfx : FrX b (updC b3 201 ((60 + j)) 1) := by
      refine (g1.fx.tr ?_).up ?_
      · rw [hb3]
        exact ch3_fx
      · unfold InX InE; omega
    have hr : (updC b3 201 ((60 + j)) 1) 201 = updC b2 201 (60 + j) 1 201 := by rw [hb3]; rfl
    refine ⟨_, rfl, hT.fx hfx (fun i hi => by
      rw [hr, updC_if]
      split
      · exact Or.inr rfl
      · exact g3 i hi), Or.inl ⟨by unfold chgN; omega, rfl, ?_, ?_, ?_, ?_⟩⟩
    · rw [hcb, hb3]
      exact outB_rep (k := 2) g2 (by omega)
    · rw [hcw, if_pos rfl, hb3]
      exact ch3_76 (b := b2) (x := 0) (y := (j : Int)) (z := -1)
    · rw [hcw, if_neg (by decide), if_pos rfl, hb3]
      exact ch3_77 (b := b2) (x := 0) (y := (j : Int)) (z := -1)
    · rw [hcw, if_neg (by decide), if_neg (by decide), hb3]
      exact ch3_78 (b := b2) (x := 0) (y := (j : Int)) (z := -1)
