/-! THE REFERENCE: other breakfasts are tried -/
theorem outB_wf {S : STY} {B : SC} {r : Nat} (h : WfB S B) : WfB S (outB B r) := by
  refine ⟨h.1, h.2.1, fun q hq => ?_⟩
  show updC B 2 r 1 2 q = 0 ∨ updC B 2 r 1 2 q = 1
  rw [updC_if]
  split
  · exact Or.inr rfl
  · exact h.2.2 q hq
theorem outB_rep {S : STY} {B b : SC} {r k : Nat} (h : RepB S B b k) (hr : r < 30) : RepB S (outB B r) (updC b 201 (30 * k + r) 1) k := by
  refine ⟨h.1, h.2.1, fun q hq => ?_⟩
  show updC b 201 (30 * k + r) 1 201 (30 * k + q) = updC B 2 r 1 2 q
  rw [updC_if, updC_if, h.2.2 q hq]
  by_cases e : q = r
  · rw [if_pos e, if_pos (by omega)]
  · rw [if_neg e, if_neg (by omega)]
theorem m_needed_l {X : List Int} {d : Nat} {st dr rd : Int} {a s b : C3} (r k0 D : Nat) {G : GST} (hT : TopM G b) (hk0 : (k0 : Int) < gA G (gn G) 9 0) (hEv : EvM (gS G) (outB (gE G) r) b 1 (gn G)) (hD : aftS (gS G) (outB (gE G) r) (gn G) 9 0 = (D : Int)) (hD8 : D ≤ 8) (i : Nat) (hi : i ≤ D) (hn : ¬ (∃ i0, i0 < i ∧ aftS (gS G) (outB (gE G) r) (gn G) 8 (6 * i0) = gA G (gn G) 8 (6 * k0) ∧ aftS (gS G) (outB (gE G) r) (gn G) 8 (6 * i0 + 1) = gA G (gn G) 8 (6 * k0 + 1))) : Ev X (d + 6) 234 69 [Vr 166, Vi (r : Int), Vi (k0 : Int), Vi (D : Int), Vi (i : Int)] [] (SHv st dr rd, ovl a s b) (fun rr hh => rr = some (Vi (if (∃ i, i < D ∧ aftS (gS G) (outB (gE G) r) (gn G) 8 (6 * i) = gA G (gn G) 8 (6 * k0) ∧ aftS (gS G) (outB (gE G) r) (gn G) 8 (6 * i + 1) = gA G (gn G) 8 (6 * k0 + 1)) then 0 else 1)) ∧ hh = (SHv st dr rd, ovl a s b)) := by
  induction hk : (D - i) using Nat.strongRecOn generalizing i with
  | ind k ih =>
    obtain ⟨bk, hY_b, hWY, hB1, hWB, hWE, hn180, hEQ, hTp, hfk, hfp, hO⟩ := id hT
    obtain ⟨hb2_b, h12_b, h168_b, h169_b, h170_b, h171_b, h173_b, h172_b, h174_b, h176_b, h178_b, h175_b, h177_b, h179_b, h180_b, h184_b⟩ := id hY_b
    obtain ⟨wR, wD, wW, wT, wL, wC, wdoor, wsym, wWI, wTI, wCl, wRu⟩ := id hWY
    obtain ⟨w8, wWc⟩ := wW
    obtain ⟨t8, wTc⟩ := wT
    obtain ⟨r8, wRc⟩ := wR
    obtain ⟨l30, wLc⟩ := wL
    obtain ⟨c12, wCc⟩ := wC
    obtain ⟨e202, e203, e204, e211, e210, eHis, e212⟩ := id hEQ
    have a9 : 0 ≤ gA G (gn G) 9 0 ∧ gA G (gn G) 9 0 ≤ 8 := (aftS_wf hWY hWE (gn G) hn180).1.2.2.2.2.2.2.2
    refine Ev.ite (P := (D : Int) ≤ (i : Int)) (k := 3) (a := 137) (b := 75) (L' := [Vr 166, Vi (r : Int), Vi (k0 : Int), Vi (D : Int), Vi (i : Int)]) (S' := []) (h' := ((SHv st dr rd), (ovl a s b))) (fun _ => rfl) (fun b72 => ?_) (fun b72 => ?_)
    · refine Ev.fin (k := 2) (r := (some (Vi 1))) (h' := ((SHv st dr rd), (ovl a s b))) (fun _ => rfl) ?_
      obtain rfl : i = D := by omega
      refine ⟨?_, rfl⟩
      rw [if_neg hn]
    · refine Ev.steps (k := 6) (pc' := 86) (L' := [Vr 166, Vi (r : Int), Vi (k0 : Int), Vi (D : Int), Vi (i : Int)]) (S' := [Vi (w32 (6 * (i : Int))), Vi 96, Vr 210]) (h' := ((SHv st dr rd), (ovl a s b))) (fun _ => rfl) ?_
      rw [show (w32 (6 * (i : Int))) = (6 * (i : Int)) from w32_id (by unfold R32; omega)]
      refine Ev.steps (k := 1) (pc' := 87) (L' := [Vr 166, Vi (r : Int), Vi (k0 : Int), Vi (D : Int), Vi (i : Int)]) (S' := [Vi (w32 (96 + (6 * (i : Int)))), Vr 210]) (h' := ((SHv st dr rd), (ovl a s b))) (fun _ => rfl) ?_
      rw [show (w32 (96 + (6 * (i : Int)))) = (96 + (6 * (i : Int))) from w32_id (by unfold R32; omega)]
      refine Ev.iald (v := (aftS (gS G) (outB (gE G) r) (gn G) 8 (6 * i))) rfl (by decide) rfl (by omega) (by omega) ((show (b 210 ((96 + 6 * i))) = _ by rw [show 96 + 6 * i = 96 * 1 + 6 * i by omega]; exact hEv.2.2.2.2.1 _ (by omega))) ?_
      refine Ev.steps (k := 5) (pc' := 96) (L' := [Vr 166, Vi (r : Int), Vi (k0 : Int), Vi (D : Int), Vi (i : Int)]) (S' := [Vi (w32 (6 * (k0 : Int))), Vr 210, Vi (aftS (gS G) (outB (gE G) r) (gn G) 8 (6 * i))]) (h' := ((SHv st dr rd), (ovl a s b))) (fun _ => rfl) ?_
      rw [show (w32 (6 * (k0 : Int))) = (6 * (k0 : Int)) from w32_id (by unfold R32; omega)]
      refine Ev.iald (v := (gA G (gn G) 8 (6 * k0))) rfl (by decide) rfl (by omega) (by omega) (e210 _ (show 6 * k0 < 6 * (gA G (gn G) 9 0).toNat by omega)) ?_
      refine Ev.ite (P := (aftS (gS G) (outB (gE G) r) (gn G) 8 (6 * i)) ≠ (gA G (gn G) 8 (6 * k0))) (k := 1) (a := 131) (b := 100) (L' := [Vr 166, Vi (r : Int), Vi (k0 : Int), Vi (D : Int), Vi (i : Int)]) (S' := []) (h' := ((SHv st dr rd), (ovl a s b))) (fun _ => rfl) (fun b97 => ?_) (fun b97 => ?_)
      · refine Ev.steps (k := 1) (pc' := 134) (L' := [Vr 166, Vi (r : Int), Vi (k0 : Int), Vi (D : Int), Vi (w32 ((i : Int) + 1))]) (S' := []) (h' := ((SHv st dr rd), (ovl a s b))) (fun _ => rfl) ?_
        rw [show (w32 ((i : Int) + 1)) = ((i : Int) + 1) from w32_id (by unfold R32; omega)]
        refine Ev.steps (k := 1) (pc' := 69) (L' := [Vr 166, Vi (r : Int), Vi (k0 : Int), Vi (D : Int), Vi ((i : Int) + 1)]) (S' := []) (h' := ((SHv st dr rd), (ovl a s b))) (fun _ => rfl) ?_
        refine ih _ (by omega) (i + 1) (by omega) (fun h => ?_) rfl
        rcases ex_s.mp h with h | h
        · exact hn h
        · omega
      · refine Ev.steps (k := 6) (pc' := 111) (L' := [Vr 166, Vi (r : Int), Vi (k0 : Int), Vi (D : Int), Vi (i : Int)]) (S' := [Vi (w32 (6 * (i : Int))), Vi 96, Vr 210]) (h' := ((SHv st dr rd), (ovl a s b))) (fun _ => rfl) ?_
        rw [show (w32 (6 * (i : Int))) = (6 * (i : Int)) from w32_id (by unfold R32; omega)]
        refine Ev.steps (k := 1) (pc' := 112) (L' := [Vr 166, Vi (r : Int), Vi (k0 : Int), Vi (D : Int), Vi (i : Int)]) (S' := [Vi (w32 (96 + (6 * (i : Int)))), Vr 210]) (h' := ((SHv st dr rd), (ovl a s b))) (fun _ => rfl) ?_
        rw [show (w32 (96 + (6 * (i : Int)))) = (96 + (6 * (i : Int))) from w32_id (by unfold R32; omega)]
        refine Ev.steps (k := 2) (pc' := 114) (L' := [Vr 166, Vi (r : Int), Vi (k0 : Int), Vi (D : Int), Vi (i : Int)]) (S' := [Vi (w32 ((96 + (6 * (i : Int))) + 1)), Vr 210]) (h' := ((SHv st dr rd), (ovl a s b))) (fun _ => rfl) ?_
        rw [show (w32 ((96 + (6 * (i : Int))) + 1)) = ((96 + (6 * (i : Int))) + 1) from w32_id (by unfold R32; omega)]
        refine Ev.iald (v := (aftS (gS G) (outB (gE G) r) (gn G) 8 (6 * i + 1))) rfl (by decide) rfl (by omega) (by omega) ((show (b 210 (((96 + 6 * i) + 1))) = _ by rw [show 96 + 6 * i + 1 = 96 * 1 + (6 * i + 1) by omega]; exact hEv.2.2.2.2.1 _ (by omega))) ?_
        refine Ev.steps (k := 5) (pc' := 123) (L' := [Vr 166, Vi (r : Int), Vi (k0 : Int), Vi (D : Int), Vi (i : Int)]) (S' := [Vi (w32 (6 * (k0 : Int))), Vr 210, Vi (aftS (gS G) (outB (gE G) r) (gn G) 8 (6 * i + 1))]) (h' := ((SHv st dr rd), (ovl a s b))) (fun _ => rfl) ?_
        rw [show (w32 (6 * (k0 : Int))) = (6 * (k0 : Int)) from w32_id (by unfold R32; omega)]
        refine Ev.steps (k := 2) (pc' := 125) (L' := [Vr 166, Vi (r : Int), Vi (k0 : Int), Vi (D : Int), Vi (i : Int)]) (S' := [Vi (w32 ((6 * (k0 : Int)) + 1)), Vr 210, Vi (aftS (gS G) (outB (gE G) r) (gn G) 8 (6 * i + 1))]) (h' := ((SHv st dr rd), (ovl a s b))) (fun _ => rfl) ?_
        rw [show (w32 ((6 * (k0 : Int)) + 1)) = ((6 * (k0 : Int)) + 1) from w32_id (by unfold R32; omega)]
        refine Ev.iald (v := (gA G (gn G) 8 (6 * k0 + 1))) rfl (by decide) rfl (by omega) (by omega) (e210 _ (show 6 * k0 + 1 < 6 * (gA G (gn G) 9 0).toNat by omega)) ?_
        refine Ev.ite (P := (aftS (gS G) (outB (gE G) r) (gn G) 8 (6 * i + 1)) ≠ (gA G (gn G) 8 (6 * k0 + 1))) (k := 1) (a := 131) (b := 129) (L' := [Vr 166, Vi (r : Int), Vi (k0 : Int), Vi (D : Int), Vi (i : Int)]) (S' := []) (h' := ((SHv st dr rd), (ovl a s b))) (fun _ => rfl) (fun b126 => ?_) (fun b126 => ?_)
        · refine Ev.steps (k := 1) (pc' := 134) (L' := [Vr 166, Vi (r : Int), Vi (k0 : Int), Vi (D : Int), Vi (w32 ((i : Int) + 1))]) (S' := []) (h' := ((SHv st dr rd), (ovl a s b))) (fun _ => rfl) ?_
          rw [show (w32 ((i : Int) + 1)) = ((i : Int) + 1) from w32_id (by unfold R32; omega)]
          refine Ev.steps (k := 1) (pc' := 69) (L' := [Vr 166, Vi (r : Int), Vi (k0 : Int), Vi (D : Int), Vi ((i : Int) + 1)]) (S' := []) (h' := ((SHv st dr rd), (ovl a s b))) (fun _ => rfl) ?_
          refine ih _ (by omega) (i + 1) (by omega) (fun h => ?_) rfl
          rcases ex_s.mp h with h | h
          · exact hn h
          · omega
        · refine Ev.fin (k := 2) (r := (some (Vi 0))) (h' := ((SHv st dr rd), (ovl a s b))) (fun _ => rfl) ?_
          refine ⟨?_, rfl⟩
          rw [if_pos ⟨i, by omega, by omega, by omega⟩]
theorem g_needed {X : List Int} {d : Nat} {st dr rd : Int} {a s b : C3} (x y : Int) {G : GST} (hT : TopM G b) : Ev X (d + 6) 234 0 [Vr 166, Vi x, Vi y, Vx, Vx] [] (SHv st dr rd, ovl a s b) (fun rr hh => rr = some (Vi (aNeeded G x y)) ∧ ∃ s' b' : C3, hh = (SHv st dr rd, ovl a s' b') ∧ TopM G b') := by
  obtain ⟨bk, hY_b, hWY, hB1, hWB, hWE, hn180, hEQ, hTp, hfk, hfp, hO⟩ := id hT
  obtain ⟨hb2_b, h12_b, h168_b, h169_b, h170_b, h171_b, h173_b, h172_b, h174_b, h176_b, h178_b, h175_b, h177_b, h179_b, h180_b, h184_b⟩ := id hY_b
  obtain ⟨wR, wD, wW, wT, wL, wC, wdoor, wsym, wWI, wTI, wCl, wRu⟩ := id hWY
  obtain ⟨w8, wWc⟩ := wW
  obtain ⟨t8, wTc⟩ := wT
  obtain ⟨r8, wRc⟩ := wR
  obtain ⟨l30, wLc⟩ := wL
  obtain ⟨c12, wCc⟩ := wC
  obtain ⟨e202, e203, e204, e211, e210, eHis, e212⟩ := id hEQ
  have a9 : 0 ≤ gA G (gn G) 9 0 ∧ gA G (gn G) 9 0 ≤ 8 := (aftS_wf hWY hWE (gn G) hn180).1.2.2.2.2.2.2.2
  refine Ev.steps (k := 6) (pc' := 10) (L' := [Vr 166, Vi x, Vi y, Vx, Vx]) (S' := [Vi (b 166 12), Vr 173, Vi 0, Vi x]) (h' := ((SHv st dr rd), (ovl a s b))) (fun _ => rfl) ?_
  rw [h12_b]
  refine Ev.iald (v := ((nL (gS G) : Nat) : Int)) rfl (by decide) rfl (by omega) (by omega) (h173_b) ?_
  refine Ev.steps (k := 2) (pc' := 13) (L' := [Vr 166, Vi x, Vi y, Vx, Vx]) (S' := [Vi (w32 (((nL (gS G) : Nat) : Int) - 1)), Vi 0, Vi x]) (h' := ((SHv st dr rd), (ovl a s b))) (fun _ => rfl) ?_
  rw [show (w32 (((nL (gS G) : Nat) : Int) - 1)) = (((nL (gS G) : Nat) : Int) - 1) from w32_id (by unfold R32; omega)]
  refine Ev.call (k := 0) (pc1 := 13) (L1 := [Vr 166, Vi x, Vi y, Vx, Vx]) (S1 := [Vi (((nL (gS G) : Nat) : Int) - 1), Vi 0, Vi x]) (h1 := ((SHv st dr rd), (ovl a s b))) (m' := 189) (as := [Vi x, Vi 0, Vi (((nL (gS G) : Nat) : Int) - 1)]) (S' := []) (L0 := [Vi x, Vi 0, Vi (((nL (gS G) : Nat) : Int) - 1)]) (fun _ => rfl) rfl rfl rfl rfl rfl rfl (m_is x 0 ((((nL (gS G) : Nat) : Int) - 1))) (fun r h' hq => ?_)
  obtain ⟨rfl, rfl⟩ := hq
  rw [show (if 0 ≤ x ∧ x ≤ (((nL (gS G) : Nat) : Int) - 1) then (1 : Int) else 0) = if okRl G x then 1 else 0 from ite_cg (by omega)]
  by_cases c13 : okRl G x
  · rw [if_pos c13]
    show Ev X _ _ 16 [Vr 166, Vi x, Vi y, Vx, Vx] [Vi 1] ((SHv st dr rd), (ovl a s b)) _
    refine Ev.steps (k := 7) (pc' := 27) (L' := [Vr 166, Vi x, Vi y, Vx, Vx]) (S' := [Vi (b 203 0), Vi 0, Vi y]) (h' := ((SHv st dr rd), (ovl a s b))) (fun _ => rfl) ?_
    rw [e203]
    refine Ev.steps (k := 2) (pc' := 29) (L' := [Vr 166, Vi x, Vi y, Vx, Vx]) (S' := [Vi (w32 ((gA G (gn G) 9 0) - 1)), Vi 0, Vi y]) (h' := ((SHv st dr rd), (ovl a s b))) (fun _ => rfl) ?_
    rw [show (w32 ((gA G (gn G) 9 0) - 1)) = ((gA G (gn G) 9 0) - 1) from w32_id (by unfold R32; omega)]
    refine Ev.call (k := 0) (pc1 := 29) (L1 := [Vr 166, Vi x, Vi y, Vx, Vx]) (S1 := [Vi ((gA G (gn G) 9 0) - 1), Vi 0, Vi y]) (h1 := ((SHv st dr rd), (ovl a s b))) (m' := 189) (as := [Vi y, Vi 0, Vi ((gA G (gn G) 9 0) - 1)]) (S' := []) (L0 := [Vi y, Vi 0, Vi ((gA G (gn G) 9 0) - 1)]) (fun _ => rfl) rfl rfl rfl rfl rfl rfl (m_is y 0 (((gA G (gn G) 9 0) - 1))) (fun r h' hq => ?_)
    obtain ⟨rfl, rfl⟩ := hq
    rw [show (if 0 ≤ y ∧ y ≤ ((gA G (gn G) 9 0) - 1) then (1 : Int) else 0) = if 0 ≤ y ∧ y < gA G (gn G) 9 0 then 1 else 0 from ite_cg (by omega)]
    by_cases c29 : 0 ≤ y ∧ y < gA G (gn G) 9 0
    · rw [if_pos c29]
      show Ev X _ _ 32 [Vr 166, Vi x, Vi y, Vx, Vx] [Vi 1] ((SHv st dr rd), (ovl a s b)) _
      refine Ev.steps (k := 1) (pc' := 37) (L' := [Vr 166, Vi x, Vi y, Vx, Vx]) (S' := []) (h' := ((SHv st dr rd), (ovl a s b))) (fun _ => rfl) ?_
      have hn0 : 0 < gn G := by
        by_cases h : gn G = 0
        · exfalso
          have h2 : gA G (gn G) 9 0 = 0 := by rw [h]; rfl
          omega
        · omega
      obtain ⟨r, hr_⟩ : ∃ r : Nat, x = r := ⟨x.toNat, by omega⟩
      obtain ⟨k0, hk_⟩ : ∃ k0 : Nat, y = k0 := ⟨y.toNat, by omega⟩
      subst hr_
      subst hk_
      have hk0 : (k0 : Int) < gA G (gn G) 9 0 := c29.2
      have hr30 : r < 30 := by omega
      unfold aNeeded
      rw [if_pos ⟨c13, c29⟩, Int.toNat_natCast, Int.toNat_natCast]
      refine Ev.call (k := 3) (pc1 := 40) (L1 := [Vr 166, Vi (r : Int), Vi (k0 : Int), Vx, Vx]) (S1 := [Vi 2, Vi 0, Vr 166]) (h1 := ((SHv st dr rd), (ovl a s b))) (m' := 204) (as := [Vr 166, Vi 0, Vi 2]) (S' := []) (L0 := [Vr 166, Vi 0, Vi 2, Vx]) (fun _ => rfl) rfl rfl rfl rfl rfl rfl (m_copies 0 2 (by omega) (by omega) (by omega) hO hWY (e212 (by omega)).2) (fun r h' hq => ?_)
      obtain ⟨rfl, b2, rfl, g1, g2, g3⟩ := hq
      show Ev X _ _ 43 [Vr 166, Vi (r : Int), Vi (k0 : Int), Vx, Vx] [] ((SHv st dr rd), (ovl a s b2)) _
      refine Ev.steps (k := 5) (pc' := 51) (L' := [Vr 166, Vi (r : Int), Vi (k0 : Int), Vx, Vx]) (S' := [Vi (w32 (60 + (r : Int))), Vr 201]) (h' := ((SHv st dr rd), (ovl a s b2))) (fun _ => rfl) ?_
      rw [show (w32 (60 + (r : Int))) = ((30 * 2 + r : Nat) : Int) from by unfold w32; omega]
      refine Ev.steps (k := 1) (pc' := 52) (L' := [Vr 166, Vi (r : Int), Vi (k0 : Int), Vx, Vx]) (S' := [Vi 1, Vi ((30 * 2 + r : Nat) : Int), Vr 201]) (h' := ((SHv st dr rd), (ovl a s b2))) (fun _ => rfl) ?_
      refine Ev.zast (c' := (ovl a s (updC b2 201 ((30 * 2 + r)) 1))) rfl (by decide) rfl (by omega) (by omega) (by omega) (ovl_wm (by decide)) ?_
      have hF : FrS 2 b (updC b2 201 ((30 * 2 + r)) 1) := g1.up (by unfold InS; omega)
      refine Ev.steps (k := 7) (pc' := 62) (L' := [Vr 166, Vi (r : Int), Vi (k0 : Int), Vx, Vx]) (S' := [Vi (b2 202 0), Vi 2, Vi 1, Vr 166]) (h' := ((SHv st dr rd), (ovl a s (updC b2 201 ((30 * 2 + r)) 1)))) (fun _ => rfl) ?_
      rw [(show (b2 202 0) = ((gn G : Nat) : Int) by rw [g1.row (o := 202) (by omega)]; exact e202)]
      refine Ev.call (k := 0) (pc1 := 62) (L1 := [Vr 166, Vi (r : Int), Vi (k0 : Int), Vx, Vx]) (S1 := [Vi ((gn G : Nat) : Int), Vi 2, Vi 1, Vr 166]) (h1 := ((SHv st dr rd), (ovl a s (updC b2 201 ((30 * 2 + r)) 1)))) (m' := 205) (as := [Vr 166, Vi 1, Vi 2, Vi ((gn G : Nat) : Int)]) (S' := []) (L0 := [Vr 166, Vi 1, Vi 2, Vi ((gn G : Nat) : Int), Vx, Vx]) (fun _ => rfl) rfl rfl rfl rfl rfl rfl (m_goes 1 2 (gn G) hWY (outB_wf (r := r) hWE) (by omega) (by omega) hn180 (hY_b.fs hF) (outB_rep (k := 2) g2 (by omega))) (fun r h' hq => ?_)
      obtain ⟨rfl, s3, b3, rfl, q1, q2⟩ := hq
      show Ev X _ _ 65 [Vr 166, Vi (r : Int), Vi (k0 : Int), Vx, Vx] [Vi (aftS (gS G) (outB (gE G) r) (gn G) 9 0)] ((SHv st dr rd), (ovl a s3 b3)) _
      refine Ev.steps (k := 3) (pc' := 69) (L' := [Vr 166, Vi (r : Int), Vi (k0 : Int), Vi (aftS (gS G) (outB (gE G) r) (gn G) 9 0), Vi 0]) (S' := []) (h' := ((SHv st dr rd), (ovl a s3 b3))) (fun _ => rfl) ?_
      have hr : b3 201 = updC b2 201 (30 * 2 + r) 1 201 := q2.row (by omega) (by omega)
      have hT3 : TopM G b3 := hT.fx (hF.fx.tr q2.fx) (fun i hi => by
        rw [hr, updC_if]
        split
        · exact Or.inr rfl
        · exact g3 i hi)
      have a9 := (aftS_wf hWY (outB_wf (r := r) hWE) (gn G) hn180).1.2.2.2.2.2.2.2
      obtain ⟨D, hD⟩ : ∃ D : Nat, aftS (gS G) (outB (gE G) r) (gn G) 9 0 = D := ⟨(aftS (gS G) (outB (gE G) r) (gn G) 9 0).toNat, by omega⟩
      rw [hD, Int.toNat_natCast]
      exact Ev.mono (m_needed_l r k0 D hT3 hk0 q1 hD (by omega) 0 (by omega) (fun ⟨i, h, _⟩ => absurd h (by omega))) (fun rr hh h => ⟨h.1, s3, b3, h.2, hT3⟩)
    · rw [if_neg c29]
      show Ev X _ _ 32 [Vr 166, Vi x, Vi y, Vx, Vx] [Vi 0] ((SHv st dr rd), (ovl a s b)) _
      refine Ev.fin (k := 3) (r := (some (Vi (-1)))) (h' := ((SHv st dr rd), (ovl a s b))) (fun _ => rfl) ?_
      refine ⟨?_, s, b, rfl, hT⟩
      unfold aNeeded
      first | rw [if_neg (by exact fun h => c13 h.1)] | rw [if_neg (by exact fun h => c29 h.2)]
  · rw [if_neg c13]
    show Ev X _ _ 16 [Vr 166, Vi x, Vi y, Vx, Vx] [Vi 0] ((SHv st dr rd), (ovl a s b)) _
    refine Ev.fin (k := 3) (r := (some (Vi (-1)))) (h' := ((SHv st dr rd), (ovl a s b))) (fun _ => rfl) ?_
    refine ⟨?_, s, b, rfl, hT⟩
    unfold aNeeded
    first | rw [if_neg (by exact fun h => c13 h.1)] | rw [if_neg (by exact fun h => c29 h.2)]
