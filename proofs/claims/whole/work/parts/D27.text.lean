/-! THE CLASS: a text is told -/
noncomputable def nText (G : GST) : GST := match txtT (gT G, gt G) with
  | .ok S => (S, tldB S, tldB S, 0, (gT G, 0), (0, -1))
  | .error e => (gS G, gB G, gE G, gn G, (gT G, 0), e)
noncomputable def aText (G : GST) : Int := match txtT (gT G, gt G) with
  | .ok S => cSum S
  | .error _ => -1
theorem nText_o {G : GST} {S : STY} (h : txtT (gT G, gt G) = .ok S) : nText G = (S, tldB S, tldB S, 0, (gT G, 0), (0, -1)) ∧ aText G = cSum S := by
  unfold nText aText
  rw [h]
  exact ⟨rfl, rfl⟩
theorem nText_e {G : GST} {e : PF} (h : txtT (gT G, gt G) = .error e) : nText G = (gS G, gB G, gE G, gn G, (gT G, 0), e) ∧ aText G = -1 := by
  unfold nText aText
  rw [h]
  exact ⟨rfl, rfl⟩
theorem c_statements {X : List Int} {d : Nat} {st dr rd : Int} {a s b : C3} {z : Nat} (hz : hyS z) {S : STY} (hc : ∀ i, i < 6 → a (z + 1) i = S.1 0 i) (hW : WfY S) : Ev X d 65 0 [Vr (z : Int), Vx, Vx] [] (SHv st dr rd, ovl a s b) (fun rr hh => rr = some (Vi (cSum S)) ∧ hh = (SHv st dr rd, ovl a s b)) := by
  have hz0 : z = 2 ∨ z = 58 := hz
  have k0 := hW.1
  have k1 := hW.2.1
  have k2 := hW.2.2.1
  have k3 := hW.2.2.2.1
  have k4 := hW.2.2.2.2.1
  have k5 := hW.2.2.2.2.2.1
  refine Ev.steps (k := 9) (pc' := 12) (L' := [Vr (z : Int), Vi 0, Vi 0]) (S' := [Vr (z : Int), Vi 0]) (h' := ((SHv st dr rd), (ovl a s b))) (fun _ => rfl) ?_
  refine Ev.getr (r := ((z : Int) + 1)) rfl rfl (by omega) (shY_0 hz) rfl rfl rfl ?_
  refine Ev.steps (k := 1) (pc' := 16) (L' := [Vr (z : Int), Vi 0, Vi 0]) (S' := [Vi 0, Vr ((z : Int) + 1), Vi 0]) (h' := ((SHv st dr rd), (ovl a s b))) (fun _ => rfl) ?_
  refine Ev.iald (v := (S.1 0 0)) rfl (by omega) (shY_1 hz) (by omega) (by omega) ((ovl_rc (by omega)).trans (hc 0 (by omega))) ?_
  refine Ev.steps (k := 1) (pc' := 18) (L' := [Vr (z : Int), Vi 0, Vi 0]) (S' := [Vi (w32 (0 + (S.1 0 0)))]) (h' := ((SHv st dr rd), (ovl a s b))) (fun _ => rfl) ?_
  rw [show (w32 (0 + (S.1 0 0))) = (S.1 0 0) by unfold w32; omega]
  refine Ev.steps (k := 8) (pc' := 12) (L' := [Vr (z : Int), Vi (S.1 0 0), Vi 1]) (S' := [Vr (z : Int), Vi (S.1 0 0)]) (h' := ((SHv st dr rd), (ovl a s b))) (fun _ => rfl) ?_
  refine Ev.getr (r := ((z : Int) + 1)) rfl rfl (by omega) (shY_0 hz) rfl rfl rfl ?_
  refine Ev.steps (k := 1) (pc' := 16) (L' := [Vr (z : Int), Vi (S.1 0 0), Vi 1]) (S' := [Vi 1, Vr ((z : Int) + 1), Vi (S.1 0 0)]) (h' := ((SHv st dr rd), (ovl a s b))) (fun _ => rfl) ?_
  refine Ev.iald (v := (S.1 0 1)) rfl (by omega) (shY_1 hz) (by omega) (by omega) ((ovl_rc (by omega)).trans (hc 1 (by omega))) ?_
  refine Ev.steps (k := 1) (pc' := 18) (L' := [Vr (z : Int), Vi (S.1 0 0), Vi 1]) (S' := [Vi (w32 ((S.1 0 0) + (S.1 0 1)))]) (h' := ((SHv st dr rd), (ovl a s b))) (fun _ => rfl) ?_
  rw [show (w32 ((S.1 0 0) + (S.1 0 1))) = ((S.1 0 0) + (S.1 0 1)) from w32_id (by unfold R32; omega)]
  refine Ev.steps (k := 8) (pc' := 12) (L' := [Vr (z : Int), Vi ((S.1 0 0) + (S.1 0 1)), Vi 2]) (S' := [Vr (z : Int), Vi ((S.1 0 0) + (S.1 0 1))]) (h' := ((SHv st dr rd), (ovl a s b))) (fun _ => rfl) ?_
  refine Ev.getr (r := ((z : Int) + 1)) rfl rfl (by omega) (shY_0 hz) rfl rfl rfl ?_
  refine Ev.steps (k := 1) (pc' := 16) (L' := [Vr (z : Int), Vi ((S.1 0 0) + (S.1 0 1)), Vi 2]) (S' := [Vi 2, Vr ((z : Int) + 1), Vi ((S.1 0 0) + (S.1 0 1))]) (h' := ((SHv st dr rd), (ovl a s b))) (fun _ => rfl) ?_
  refine Ev.iald (v := (S.1 0 2)) rfl (by omega) (shY_1 hz) (by omega) (by omega) ((ovl_rc (by omega)).trans (hc 2 (by omega))) ?_
  refine Ev.steps (k := 1) (pc' := 18) (L' := [Vr (z : Int), Vi ((S.1 0 0) + (S.1 0 1)), Vi 2]) (S' := [Vi (w32 (((S.1 0 0) + (S.1 0 1)) + (S.1 0 2)))]) (h' := ((SHv st dr rd), (ovl a s b))) (fun _ => rfl) ?_
  rw [show (w32 (((S.1 0 0) + (S.1 0 1)) + (S.1 0 2))) = (((S.1 0 0) + (S.1 0 1)) + (S.1 0 2)) from w32_id (by unfold R32; omega)]
  refine Ev.steps (k := 8) (pc' := 12) (L' := [Vr (z : Int), Vi (((S.1 0 0) + (S.1 0 1)) + (S.1 0 2)), Vi 3]) (S' := [Vr (z : Int), Vi (((S.1 0 0) + (S.1 0 1)) + (S.1 0 2))]) (h' := ((SHv st dr rd), (ovl a s b))) (fun _ => rfl) ?_
  refine Ev.getr (r := ((z : Int) + 1)) rfl rfl (by omega) (shY_0 hz) rfl rfl rfl ?_
  refine Ev.steps (k := 1) (pc' := 16) (L' := [Vr (z : Int), Vi (((S.1 0 0) + (S.1 0 1)) + (S.1 0 2)), Vi 3]) (S' := [Vi 3, Vr ((z : Int) + 1), Vi (((S.1 0 0) + (S.1 0 1)) + (S.1 0 2))]) (h' := ((SHv st dr rd), (ovl a s b))) (fun _ => rfl) ?_
  refine Ev.iald (v := (S.1 0 3)) rfl (by omega) (shY_1 hz) (by omega) (by omega) ((ovl_rc (by omega)).trans (hc 3 (by omega))) ?_
  refine Ev.steps (k := 1) (pc' := 18) (L' := [Vr (z : Int), Vi (((S.1 0 0) + (S.1 0 1)) + (S.1 0 2)), Vi 3]) (S' := [Vi (w32 ((((S.1 0 0) + (S.1 0 1)) + (S.1 0 2)) + (S.1 0 3)))]) (h' := ((SHv st dr rd), (ovl a s b))) (fun _ => rfl) ?_
  rw [show (w32 ((((S.1 0 0) + (S.1 0 1)) + (S.1 0 2)) + (S.1 0 3))) = ((((S.1 0 0) + (S.1 0 1)) + (S.1 0 2)) + (S.1 0 3)) from w32_id (by unfold R32; omega)]
  refine Ev.steps (k := 8) (pc' := 12) (L' := [Vr (z : Int), Vi ((((S.1 0 0) + (S.1 0 1)) + (S.1 0 2)) + (S.1 0 3)), Vi 4]) (S' := [Vr (z : Int), Vi ((((S.1 0 0) + (S.1 0 1)) + (S.1 0 2)) + (S.1 0 3))]) (h' := ((SHv st dr rd), (ovl a s b))) (fun _ => rfl) ?_
  refine Ev.getr (r := ((z : Int) + 1)) rfl rfl (by omega) (shY_0 hz) rfl rfl rfl ?_
  refine Ev.steps (k := 1) (pc' := 16) (L' := [Vr (z : Int), Vi ((((S.1 0 0) + (S.1 0 1)) + (S.1 0 2)) + (S.1 0 3)), Vi 4]) (S' := [Vi 4, Vr ((z : Int) + 1), Vi ((((S.1 0 0) + (S.1 0 1)) + (S.1 0 2)) + (S.1 0 3))]) (h' := ((SHv st dr rd), (ovl a s b))) (fun _ => rfl) ?_
  refine Ev.iald (v := (S.1 0 4)) rfl (by omega) (shY_1 hz) (by omega) (by omega) ((ovl_rc (by omega)).trans (hc 4 (by omega))) ?_
  refine Ev.steps (k := 1) (pc' := 18) (L' := [Vr (z : Int), Vi ((((S.1 0 0) + (S.1 0 1)) + (S.1 0 2)) + (S.1 0 3)), Vi 4]) (S' := [Vi (w32 (((((S.1 0 0) + (S.1 0 1)) + (S.1 0 2)) + (S.1 0 3)) + (S.1 0 4)))]) (h' := ((SHv st dr rd), (ovl a s b))) (fun _ => rfl) ?_
  rw [show (w32 (((((S.1 0 0) + (S.1 0 1)) + (S.1 0 2)) + (S.1 0 3)) + (S.1 0 4))) = (((((S.1 0 0) + (S.1 0 1)) + (S.1 0 2)) + (S.1 0 3)) + (S.1 0 4)) from w32_id (by unfold R32; omega)]
  refine Ev.steps (k := 8) (pc' := 12) (L' := [Vr (z : Int), Vi (((((S.1 0 0) + (S.1 0 1)) + (S.1 0 2)) + (S.1 0 3)) + (S.1 0 4)), Vi 5]) (S' := [Vr (z : Int), Vi (((((S.1 0 0) + (S.1 0 1)) + (S.1 0 2)) + (S.1 0 3)) + (S.1 0 4))]) (h' := ((SHv st dr rd), (ovl a s b))) (fun _ => rfl) ?_
  refine Ev.getr (r := ((z : Int) + 1)) rfl rfl (by omega) (shY_0 hz) rfl rfl rfl ?_
  refine Ev.steps (k := 1) (pc' := 16) (L' := [Vr (z : Int), Vi (((((S.1 0 0) + (S.1 0 1)) + (S.1 0 2)) + (S.1 0 3)) + (S.1 0 4)), Vi 5]) (S' := [Vi 5, Vr ((z : Int) + 1), Vi (((((S.1 0 0) + (S.1 0 1)) + (S.1 0 2)) + (S.1 0 3)) + (S.1 0 4))]) (h' := ((SHv st dr rd), (ovl a s b))) (fun _ => rfl) ?_
  refine Ev.iald (v := (S.1 0 5)) rfl (by omega) (shY_1 hz) (by omega) (by omega) ((ovl_rc (by omega)).trans (hc 5 (by omega))) ?_
  refine Ev.steps (k := 1) (pc' := 18) (L' := [Vr (z : Int), Vi (((((S.1 0 0) + (S.1 0 1)) + (S.1 0 2)) + (S.1 0 3)) + (S.1 0 4)), Vi 5]) (S' := [Vi (w32 ((((((S.1 0 0) + (S.1 0 1)) + (S.1 0 2)) + (S.1 0 3)) + (S.1 0 4)) + (S.1 0 5)))]) (h' := ((SHv st dr rd), (ovl a s b))) (fun _ => rfl) ?_
  rw [show (w32 ((((((S.1 0 0) + (S.1 0 1)) + (S.1 0 2)) + (S.1 0 3)) + (S.1 0 4)) + (S.1 0 5))) = ((((((S.1 0 0) + (S.1 0 1)) + (S.1 0 2)) + (S.1 0 3)) + (S.1 0 4)) + (S.1 0 5)) from w32_id (by unfold R32; omega)]
  refine Ev.fin (k := 8) (r := (some (Vi ((((((S.1 0 0) + (S.1 0 1)) + (S.1 0 2)) + (S.1 0 3)) + (S.1 0 4)) + (S.1 0 5))))) (h' := ((SHv st dr rd), (ovl a s b))) (fun _ => rfl) ?_
  exact ⟨rfl, rfl⟩
theorem h_text {X : List Int} {d : Nat} {rd : Int} {a s b : C3} {y z : Nat} {G : GST} (hT : TopC G a rd y z) : Ev X (d + 402) 21 0 [Vr 0, Vx, Vx] [] (SHv (y : Int) (z : Int) rd, ovl a s b) (fun rr hh => rr = some (Vi (aText G)) ∧ ∃ (a' : C3) (rd' : Int) (y' z' : Nat), hh = (SHv (y' : Int) (z' : Int) rd', ovl a' s b) ∧ TopC (nText G) a' rd' y' z') := by
  obtain ⟨hyz, hrd, hY, hWY, hBB, hWB, hWE, hn180, ⟨e7, e6, e5, e0, hEv⟩, hTp, hfk, hfp, hCh, h156, hOwn⟩ := id hT
  have hy : hyS y := by show y = 2 ∨ y = 58; omega
  have hy0 : y = 2 ∨ y = 58 := hy
  have hW8 := hWY.2.2.1.1
  have hR8 := hWY.1.1
  have hT8 := hWY.2.2.2.1.1
  have hL30 := hWY.2.2.2.2.1.1
  have hC12 := hWY.2.2.2.2.2.1.1
  have hz : hyS z := by show z = 2 ∨ z = 58; omega
  have hj6 : hkS (z + 6) := by show z + 6 = 8 ∨ z + 6 = 64 ∨ z + 6 = 116 ∨ z + 6 = 127 ∨ z + 6 = 150 ∨ z + 6 = 161; omega
  refine Ev.steps (k := 4) (pc' := 8) (L' := [Vr 0, Vx, Vx]) (S' := [Vi (a 0 1), Vr 114]) (h' := ((SHv (y : Int) (z : Int) rd), (ovl a s b))) (fun _ => rfl) ?_
  rw [hTp.2.1]
  refine Ev.call (k := 2) (pc1 := 12) (L1 := [Vr 0, Vx, Vx]) (S1 := [Vr (z : Int), Vi ((gt G : Nat) : Int), Vr 114]) (h1 := ((SHv (y : Int) (z : Int) rd), (ovl a s b))) (m' := 22) (as := [Vr 114, Vi ((gt G : Nat) : Int), Vr (z : Int)]) (S' := []) (L0 := [Vr 114, Vi ((gt G : Nat) : Int), Vr (z : Int), Vx, Vx, Vx]) (fun _ => rfl) rfl rfl rfl rfl rfl rfl (c_reads (W := (gT G, gt G)) hz ⟨hTp.1, fun i hi => (hTp.2.2 i hi).2⟩ (fun i hi => (hTp.2.2 i hi).1) hOwn) (fun r h' hq => ?_)
  obtain ⟨a1, rfl, hF, hq⟩ := hq
  rcases hq with ⟨S1, hx, rfl, hR, hW1, hD1, f9, f10⟩ | ⟨e1, hx, rfl, f9, f10⟩
  · skip
    show Ev X _ _ 15 [Vr 0, Vx, Vx] [Vi 1] ((SHv (y : Int) (z : Int) (z : Int)), (ovl a1 s b)) _
    refine Ev.steps (k := 3) (pc' := 18) (L' := [Vr 0, Vi 1, Vx]) (S' := [Vi 0, Vr 0]) (h' := ((SHv (y : Int) (z : Int) (z : Int)), (ovl a1 s b))) (fun _ => rfl) ?_
    refine Ev.putf (c' := (ovl (updC a1 0 1 0) s b)) rfl (by decide) rfl rfl rfl (ovl_wc (by decide)) ?_
    refine Ev.steps (k := 8) (pc' := 37) (L' := [Vr 0, Vi 1, Vr (y : Int)]) (S' := [Vr (z : Int), Vr 0]) (h' := ((SHv (y : Int) (z : Int) (z : Int)), (ovl (updC a1 0 1 0) s b))) (fun _ => rfl) ?_
    refine Ev.putr (sh' := (SHv (z : Int) (z : Int) (z : Int))) rfl (by decide) rfl rfl ⟨rfl, rfl⟩ (by omega) rfl ?_
    refine Ev.steps (k := 2) (pc' := 42) (L' := [Vr 0, Vi 1, Vr (y : Int)]) (S' := [Vr (y : Int), Vr 0]) (h' := ((SHv (z : Int) (z : Int) (z : Int)), (ovl (updC a1 0 1 0) s b))) (fun _ => rfl) ?_
    refine Ev.putr (sh' := (SHv (z : Int) (y : Int) (z : Int))) rfl (by decide) rfl rfl ⟨rfl, rfl⟩ (by omega) rfl ?_
    refine Ev.steps (k := 4) (pc' := 53) (L' := [Vr 0, Vi 1, Vr (y : Int)]) (S' := [Vr (z : Int), Vr 116]) (h' := ((SHv (z : Int) (y : Int) (z : Int)), (ovl (updC a1 0 1 0) s b))) (fun _ => rfl) ?_
    refine Ev.getr (r := ((z : Int) + 6)) rfl rfl (by omega) (shY_0 hz) rfl rfl rfl ?_
    refine Ev.call (k := 0) (pc1 := 56) (L1 := [Vr 0, Vi 1, Vr (y : Int)]) (S1 := [Vr ((z : Int) + 6), Vr 116]) (h1 := ((SHv (z : Int) (y : Int) (z : Int)), (ovl (updC a1 0 1 0) s b))) (m' := 61) (as := [Vr 116, Vr ((z : Int) + 6)]) (S' := []) (L0 := [Vr 116, Vr ((z : Int) + 6), Vx]) (fun _ => rfl) rfl rfl rfl rfl rfl rfl (c_copy (k := 116) (by show (116 : Nat) = 8 ∨ (116 : Nat) = 64 ∨ (116 : Nat) = 116 ∨ (116 : Nat) = 127 ∨ (116 : Nat) = 150 ∨ (116 : Nat) = 161; omega) (j := z + 6) hj6 (by omega)) (fun r h' hq => ?_)
    obtain ⟨rfl, a2, rfl, g1, g2, g3, g4⟩ := hq
    show Ev X _ _ 59 [Vr 0, Vi 1, Vr (y : Int)] [] ((SHv (z : Int) (y : Int) (z : Int)), (ovl a2 s b)) _
    refine Ev.call (k := 2) (pc1 := 63) (L1 := [Vr 0, Vi 1, Vr (y : Int)]) (S1 := [Vr 119]) (h1 := ((SHv (z : Int) (y : Int) (z : Int)), (ovl a2 s b))) (m' := 62) (as := [Vr 119]) (S' := []) (L0 := [Vr 119]) (fun _ => rfl) rfl rfl rfl rfl rfl rfl (c_forget (u := 119) (Or.inl rfl)) (fun r h' hq => ?_)
    obtain ⟨rfl, a3, rfl, f3, g33, h31, h32, h33, h34⟩ := hq
    show Ev X _ _ 66 [Vr 0, Vi 1, Vr (y : Int)] [] ((SHv (z : Int) (y : Int) (z : Int)), (ovl a3 s b)) _
    refine Ev.call (k := 2) (pc1 := 70) (L1 := [Vr 0, Vi 1, Vr (y : Int)]) (S1 := [Vr 141]) (h1 := ((SHv (z : Int) (y : Int) (z : Int)), (ovl a3 s b))) (m' := 64) (as := [Vr 141]) (S' := []) (L0 := [Vr 141]) (fun _ => rfl) rfl rfl rfl rfl rfl rfl (c_chForget) (fun r h' hq => ?_)
    obtain ⟨rfl, rfl⟩ := hq
    show Ev X _ _ 73 [Vr 0, Vi 1, Vr (y : Int)] [] ((SHv (z : Int) (y : Int) (z : Int)), (ovl (updC (updC a3 141 4 0) 141 5 0) s b)) _
    refine Ev.call (k := 2) (pc1 := 77) (L1 := [Vr 0, Vi 1, Vr (y : Int)]) (S1 := [Vr (z : Int)]) (h1 := ((SHv (z : Int) (y : Int) (z : Int)), (ovl (updC (updC a3 141 4 0) 141 5 0) s b))) (m' := 65) (as := [Vr (z : Int)]) (S' := []) (L0 := [Vr (z : Int), Vx, Vx]) (fun _ => rfl) rfl rfl rfl rfl (stpC_of rfl (pm_recv_of (by omega) (shY_0 hz))) rfl (c_statements hz (S := S1) (fun i hi => by rw [updC_row (by omega), updC_row (by omega), f3 (z + 1) (by omega), g1 (z + 1) (by omega), updC_row (by omega)]; exact hR.1 i hi) hW1) (fun r h' hq => ?_)
    obtain ⟨rfl, rfl⟩ := hq
    show Ev X _ _ 80 [Vr 0, Vi 1, Vr (y : Int)] [Vi (cSum S1)] ((SHv (z : Int) (y : Int) (z : Int)), (ovl (updC (updC a3 141 4 0) 141 5 0) s b)) _
    refine Ev.fin (k := 1) (r := (some (Vi (cSum S1)))) (h' := ((SHv (z : Int) (y : Int) (z : Int)), (ovl (updC (updC a3 141 4 0) 141 5 0) s b))) (fun _ => rfl) ?_
    obtain ⟨n1, n2⟩ := nText_o hx
    rw [n1, n2]
    obtain ⟨-, -, -, -, -, t1, t2, t3, -⟩ := id hR
    have hT8' := hW1.2.2.2.2.2.2.2.2
    have hl1 := hW1.2.2.2.2.1.1
    have hc1 := hW1.2.2.2.2.2.1.1
    have hrow : ∀ o, o ≠ 0 → o ≠ 141 → ¬ (116 ≤ o ∧ o ≤ 118) → ¬ (119 ≤ o ∧ o ≤ 134) → updC (updC a3 141 4 0) 141 5 0 o = a1 o := fun o o0 o1 o2 o3 => (updC_row (by omega)).trans ((updC_row (by omega)).trans ((f3 o (by omega)).trans ((g1 o (by omega)).trans (updC_row (by omega)))))
    have hrk : ∀ o, 116 ≤ o ∧ o ≤ 118 → updC (updC a3 141 4 0) 141 5 0 o = a2 o := fun o o1 => (updC_row (by omega)).trans ((updC_row (by omega)).trans (f3 o (by omega)))
    have hre : ∀ o, 119 ≤ o ∧ o ≤ 134 → updC (updC a3 141 4 0) 141 5 0 o = a3 o := fun o o1 => (updC_row (by omega)).trans (updC_row (by omega))
    refine ⟨rfl, _, (z : Int), z, y, rfl, by omega, by omega, hR.fr (fun o g1 g2 => hrow o (by omega) (by omega) (by omega) (by omega)) hl1 hc1, hW1, ⟨fun p hp => ?_, fun i hi => ?_, fun t ht => ?_, fun i hi => ?_, 0, by omega, ?_, fun r hr => ?_⟩, tldB_wf hW1, tldB_wf hW1, Nat.zero_le _, ⟨?_, ?_, ?_, ?_, fun h => absurd h (Nat.lt_irrefl 0)⟩, ⟨Nat.zero_le _, ?_, fun i hi => absurd hi (Nat.not_lt_zero i)⟩, ?_, ?_, ⟨Or.inl rfl, Or.inl rfl, fun h => absurd h (by show ¬ ((0 : Int) = 1); decide), fun h => absurd h (by show ¬ ((0 : Int) = 1); decide)⟩, ?_, ?_⟩
    · show updC (updC a3 141 4 0) 141 5 0 117 p = S1.1 5 p
      have hp : p < nW S1 := hp
      have hp8 : p < 8 := by have := hW1.2.2.1.1; omega
      rw [hrk 117 (by omega), g2 p hp8, updC_row (by omega), show z + 6 + 1 = z + 7 by omega, t1 p hp8, if_pos hp]
    · show 0 ≤ updC (updC a3 141 4 0) 141 5 0 117 i ∧ updC (updC a3 141 4 0) 141 5 0 117 i < 8
      rw [hrk 117 (by omega), g2 i hi, updC_row (by omega), show z + 6 + 1 = z + 7 by omega, t1 i hi]
      have hr8 := hW1.1.1
      split
      · next h => have := hT8'.1 i h; omega
      · omega
    · show updC (updC a3 141 4 0) 141 5 0 118 t = S1.1 6 t
      have ht : t < nT S1 := ht
      have hp8 : t < 8 := by have := hW1.2.2.2.1.1; omega
      rw [hrk 118 (by omega), g3 t hp8, updC_row (by omega), show z + 6 + 2 = z + 8 by omega, t2 t hp8, if_pos ht]
    · show 0 ≤ updC (updC a3 141 4 0) 141 5 0 118 i ∧ updC (updC a3 141 4 0) 141 5 0 118 i < 8
      rw [hrk 118 (by omega), g3 i hi, updC_row (by omega), show z + 6 + 2 = z + 8 by omega, t2 i hi]
      have hr8 := hW1.1.1
      split
      · next h => have := hT8'.2.1 i h; omega
      · omega
    · rw [hrk 116 (by omega), g4, updC_row (by omega), t3]
      rfl
    · rw [Nat.zero_testBit]
      exact ⟨fun h => absurd h (by decide), fun h => absurd rfl h⟩
    · rw [hre 119 (by omega), h31]
      rfl
    · rw [hre 119 (by omega), h32]
      rfl
    · rw [hre 133 (by omega), (h33 rfl).1]
      rfl
    · rw [hre 133 (by omega), (h33 rfl).2.1, g1 133 (by omega), updC_row (by omega), hF 133 (by omega) (by omega)]
      exact e0
    · rw [updC_row (by omega), updC_row (by omega), f3 0 (by omega), g1 0 (by omega), updC_sm]
      rfl
    · rw [hrow 114 (by omega) (by omega) (by omega) (by omega)]; exact f9
    · rw [hrow 114 (by omega) (by omega) (by omega) (by omega)]; exact f10
    · rw [hrow 156 (by omega) (by omega) (by omega) (by omega), hF 156 (by omega) (by omega)]; exact h156
    · intro w hw
      rw [hrow 115 (by omega) (by omega) (by omega) (by omega), hF 115 (by omega) (by omega)]
      exact hOwn w hw
  · skip
    show Ev X _ _ 15 [Vr 0, Vx, Vx] [Vi 0] ((SHv (y : Int) (z : Int) (z : Int)), (ovl a1 s b)) _
    refine Ev.steps (k := 3) (pc' := 18) (L' := [Vr 0, Vi 0, Vx]) (S' := [Vi 0, Vr 0]) (h' := ((SHv (y : Int) (z : Int) (z : Int)), (ovl a1 s b))) (fun _ => rfl) ?_
    refine Ev.putf (c' := (ovl (updC a1 0 1 0) s b)) rfl (by decide) rfl rfl rfl (ovl_wc (by decide)) ?_
    refine Ev.fin (k := 4) (r := (some (Vi (-1)))) (h' := ((SHv (y : Int) (z : Int) (z : Int)), (ovl (updC a1 0 1 0) s b))) (fun _ => rfl) ?_
    obtain ⟨n1, n2⟩ := nText_e hx
    rw [n1, n2]
    have hrow : ∀ o, o ≠ 0 → o ≠ 114 → (o < z ∨ z + 55 < o) → updC a1 0 1 0 o = a o := fun o o0 o1 o2 => (updC_row (by omega)).trans (hF o o1 o2)
    refine ⟨rfl, updC a1 0 1 0, (z : Int), y, z, rfl, hyz, by omega, hY.fr (fun o g1 g2 => hrow o (by omega) (by omega) (by omega)) hL30 hC12, hWY, hBB.fr (fun o g1 g2 => hrow o (by omega) (by omega) (by omega)), hWB, hWE, hn180, ?_, ⟨Nat.zero_le _, updC_sm, fun i hi => absurd hi (Nat.not_lt_zero i)⟩, ?_, ?_, ?_, ?_, ?_⟩
    · exact EvT.fr ⟨e7, e6, e5, e0, hEv⟩ (fun o g1 g2 => hrow o (by omega) (by omega) (by omega))
    · rw [updC_row (by omega)]; exact f9
    · rw [updC_row (by omega)]; exact f10
    · have hv : ∀ w, aFairest (gS G, gB G, gE G, gn G, (gT G, 0), e1) w = aFairest G w := fun _ => aFairest_cg
      have hs : ∀ w, aSpare (gS G, gB G, gE G, gn G, (gT G, 0), e1) w = aSpare G w := fun _ => rfl
      unfold ChC at hCh ⊢
      rw [hrow 141 (by omega) (by omega) (by omega), hrow 164 (by omega) (by omega) (by omega), hrow 165 (by omega) (by omega) (by omega)]
      exact ⟨hCh.1, hCh.2.1, fun g => ⟨(hCh.2.2.1 g).1, fun w hw => by rw [hs]; exact (hCh.2.2.1 g).2 w hw⟩, fun g => ⟨(hCh.2.2.2 g).1, fun w hw => by rw [hv]; exact (hCh.2.2.2 g).2 w hw⟩⟩
    · rw [hrow 156 (by omega) (by omega) (by omega)]; exact h156
    · intro w hw
      rw [hrow 115 (by omega) (by omega) (by omega)]; exact hOwn w hw
