/-! THE CLASS: letter -/
theorem c_nameLetter_no {X : List Int} {d : Nat} {st dr rd : Int} {a s b : C3} {z : Nat} (hz : hyS z) (q : Nat) (hq0 : q < 6) (wh m k : Int) (hc : a (z + 1) q = m) (hno : ¬ (0 ≤ wh ∧ wh < m)) : Ev X (d + 1) 69 0 [Vr (z : Int), Vi (q : Int), Vi wh, Vi k, Vx, Vx, Vx] [] (SHv st dr rd, ovl a s b) (fun rr hh => rr = some (Vi (-1)) ∧ hh = (SHv st dr rd, ovl a s b)) := by
  refine Ev.call (k := 3) (pc1 := 3) (L1 := [Vr (z : Int), Vi (q : Int), Vi wh, Vi k, Vx, Vx, Vx]) (S1 := [Vi wh, Vi (q : Int), Vr (z : Int)]) (h1 := ((SHv st dr rd), (ovl a s b))) (m' := 70) (as := [Vr (z : Int), Vi (q : Int), Vi wh]) (S' := []) (L0 := [Vr (z : Int), Vi (q : Int), Vi wh]) (fun _ => rfl) rfl rfl rfl rfl (stpC_of rfl (pm_recv_of (by omega) (shY_0 hz))) rfl (c_there hz q hq0 wh) (fun r h' hq => ?_)
  obtain ⟨rfl, rfl⟩ := hq
  rw [if_neg (by rw [hc]; exact hno)]
  show Ev X _ _ 6 [Vr (z : Int), Vi (q : Int), Vi wh, Vi k, Vx, Vx, Vx] [Vi 0] ((SHv st dr rd), (ovl a s b)) _
  refine Ev.fin (k := 3) (r := (some (Vi (-1)))) (h' := ((SHv st dr rd), (ovl a s b))) (fun _ => rfl) ?_
  exact ⟨rfl, rfl⟩
theorem q_nl_0 {X : List Int} {d : Nat} {rd : Int} {a s b : C3} {y z : Nat} {G : GST} (hT : TopC G a rd y z) (hNV : NmV (gS G)) (wh k : Int) : Ev X (d + 1) 69 0 [Vr (y : Int), Vi 0, Vi wh, Vi k, Vx, Vx, Vx] [] (SHv (y : Int) (z : Int) rd, ovl a s b) (fun rr hh => rr = some (Vi (if okR G wh then letS ((gS G).1 1 wh.toNat).toNat k else -1)) ∧ hh = (SHv (y : Int) (z : Int) rd, ovl a s b)) := by
  obtain ⟨hyz, hrd, hY, hWY, hBB, hWB, hWE, hn180, ⟨e7, e6, e5, e0, hEv⟩, hTp, hfk, hfp, hCh, h156, hOwn⟩ := id hT
  have hy : hyS y := by show y = 2 ∨ y = 58; omega
  have hy0 : y = 2 ∨ y = 58 := hy
  have hW8 := hWY.2.2.1.1
  have hR8 := hWY.1.1
  have hT8 := hWY.2.2.2.1.1
  have hL30 := hWY.2.2.2.2.1.1
  have hC12 := hWY.2.2.2.2.2.1.1
  have hcn : a (y + 1) 0 = ((nR (gS G) : Nat) : Int) := by rw [hY.1 0 (by omega)]; exact hWY.1.2
  by_cases h : okR G wh
  · rw [if_pos h]
    obtain ⟨j, rfl⟩ : ∃ j : Nat, wh = (j : Int) := ⟨wh.toNat, by have := h.1; omega⟩
    have hj : j < nR (gS G) := by have := h.2; omega
    have hv := hNV 0 (by decide) j hj
    refine c_nameLetter hy 0 j (nR (gS G)) ((gS G).1 1 j).toNat (by omega) (by omega) hj hcn hv.2 ?_ k
    have hn := hY.2.1 j hj
    rw [show 0 * 8 + j = j by omega, hn]
    rfl
  · rw [if_neg h]
    exact c_nameLetter_no hy 0 (by omega) wh _ k hcn h
theorem q_nl_2 {X : List Int} {d : Nat} {rd : Int} {a s b : C3} {y z : Nat} {G : GST} (hT : TopC G a rd y z) (hNV : NmV (gS G)) (wh k : Int) : Ev X (d + 1) 69 0 [Vr (y : Int), Vi 2, Vi wh, Vi k, Vx, Vx, Vx] [] (SHv (y : Int) (z : Int) rd, ovl a s b) (fun rr hh => rr = some (Vi (if okW G wh then letS ((gS G).1 2 wh.toNat).toNat k else -1)) ∧ hh = (SHv (y : Int) (z : Int) rd, ovl a s b)) := by
  obtain ⟨hyz, hrd, hY, hWY, hBB, hWB, hWE, hn180, ⟨e7, e6, e5, e0, hEv⟩, hTp, hfk, hfp, hCh, h156, hOwn⟩ := id hT
  have hy : hyS y := by show y = 2 ∨ y = 58; omega
  have hy0 : y = 2 ∨ y = 58 := hy
  have hW8 := hWY.2.2.1.1
  have hR8 := hWY.1.1
  have hT8 := hWY.2.2.2.1.1
  have hL30 := hWY.2.2.2.2.1.1
  have hC12 := hWY.2.2.2.2.2.1.1
  have hcn : a (y + 1) 2 = ((nW (gS G) : Nat) : Int) := by rw [hY.1 2 (by omega)]; exact hWY.2.2.1.2
  by_cases h : okW G wh
  · rw [if_pos h]
    obtain ⟨j, rfl⟩ : ∃ j : Nat, wh = (j : Int) := ⟨wh.toNat, by have := h.1; omega⟩
    have hj : j < nW (gS G) := by have := h.2; omega
    have hv := hNV 1 (by decide) j hj
    refine c_nameLetter hy 2 j (nW (gS G)) ((gS G).1 2 j).toNat (by omega) (by omega) hj hcn hv.2 ?_ k
    have hn := hY.2.2.1 j hj
    rw [show 2 * 8 + j = 16 + j by omega, hn]
    rfl
  · rw [if_neg h]
    exact c_nameLetter_no hy 2 (by omega) wh _ k hcn h
theorem q_nl_3 {X : List Int} {d : Nat} {rd : Int} {a s b : C3} {y z : Nat} {G : GST} (hT : TopC G a rd y z) (hNV : NmV (gS G)) (wh k : Int) : Ev X (d + 1) 69 0 [Vr (y : Int), Vi 3, Vi wh, Vi k, Vx, Vx, Vx] [] (SHv (y : Int) (z : Int) rd, ovl a s b) (fun rr hh => rr = some (Vi (if okT G wh then letS ((gS G).1 3 wh.toNat).toNat k else -1)) ∧ hh = (SHv (y : Int) (z : Int) rd, ovl a s b)) := by
  obtain ⟨hyz, hrd, hY, hWY, hBB, hWB, hWE, hn180, ⟨e7, e6, e5, e0, hEv⟩, hTp, hfk, hfp, hCh, h156, hOwn⟩ := id hT
  have hy : hyS y := by show y = 2 ∨ y = 58; omega
  have hy0 : y = 2 ∨ y = 58 := hy
  have hW8 := hWY.2.2.1.1
  have hR8 := hWY.1.1
  have hT8 := hWY.2.2.2.1.1
  have hL30 := hWY.2.2.2.2.1.1
  have hC12 := hWY.2.2.2.2.2.1.1
  have hcn : a (y + 1) 3 = ((nT (gS G) : Nat) : Int) := by rw [hY.1 3 (by omega)]; exact hWY.2.2.2.1.2
  by_cases h : okT G wh
  · rw [if_pos h]
    obtain ⟨j, rfl⟩ : ∃ j : Nat, wh = (j : Int) := ⟨wh.toNat, by have := h.1; omega⟩
    have hj : j < nT (gS G) := by have := h.2; omega
    have hv := hNV 2 (by decide) j hj
    refine c_nameLetter hy 3 j (nT (gS G)) ((gS G).1 3 j).toNat (by omega) (by omega) hj hcn hv.2 ?_ k
    have hn := hY.2.2.2.1 j hj
    rw [show 3 * 8 + j = 24 + j by omega, hn]
    rfl
  · rw [if_neg h]
    exact c_nameLetter_no hy 3 (by omega) wh _ k hcn h
theorem h_letter {X : List Int} {d : Nat} {rd : Int} {a s b : C3} {y z : Nat} {G : GST} (hT : TopC G a rd y z) (hNV : NmV (gS G)) (kd wh k : Int) : Ev X (d + 2) 68 0 [Vr 0, Vi kd, Vi wh, Vi k] [] (SHv (y : Int) (z : Int) rd, ovl a s b) (fun rr hh => rr = some (Vi (aLetter G kd wh k)) ∧ hh = (SHv (y : Int) (z : Int) rd, ovl a s b)) := by
  obtain ⟨hyz, hrd, hY, hWY, hBB, hWB, hWE, hn180, ⟨e7, e6, e5, e0, hEv⟩, hTp, hfk, hfp, hCh, h156, hOwn⟩ := id hT
  have hy : hyS y := by show y = 2 ∨ y = 58; omega
  have hy0 : y = 2 ∨ y = 58 := hy
  have hW8 := hWY.2.2.1.1
  have hR8 := hWY.1.1
  have hT8 := hWY.2.2.2.1.1
  have hL30 := hWY.2.2.2.2.1.1
  have hC12 := hWY.2.2.2.2.2.1.1
  refine Ev.steps (k := 1) (pc' := 1) (L' := [Vr 0, Vi kd, Vi wh, Vi k]) (S' := [Vi kd]) (h' := ((SHv (y : Int) (z : Int) rd), (ovl a s b))) (fun _ => rfl) ?_
  rcases (show kd = 0 ∨ kd = 1 ∨ kd = 2 ∨ (kd ≠ 0 ∧ kd ≠ 1 ∧ kd ≠ 2) by omega) with b1 | b1 | b1 | b1
  · rw [b1]
    refine Ev.call (k := 6) (pc1 := 35) (L1 := [Vr 0, Vi 0, Vi wh, Vi k]) (S1 := [Vi k, Vi wh, Vi 0, Vr (y : Int)]) (h1 := ((SHv (y : Int) (z : Int) rd), (ovl a s b))) (m' := 69) (as := [Vr (y : Int), Vi 0, Vi wh, Vi k]) (S' := []) (L0 := [Vr (y : Int), Vi 0, Vi wh, Vi k, Vx, Vx, Vx]) (fun _ => rfl) rfl rfl rfl rfl (stpC_of rfl (pm_recv_of (by omega) (shY_0 hy))) rfl (q_nl_0 hT hNV wh k) (fun r h' hq => ?_)
    obtain ⟨rfl, rfl⟩ := hq
    show Ev X _ _ 38 [Vr 0, Vi 0, Vi wh, Vi k] [Vi (if okR G wh then letS ((gS G).1 1 wh.toNat).toNat k else -1)] ((SHv (y : Int) (z : Int) rd), (ovl a s b)) _
    refine Ev.fin (k := 1) (r := (some (Vi (if okR G wh then letS ((gS G).1 1 wh.toNat).toNat k else -1)))) (h' := ((SHv (y : Int) (z : Int) rd), (ovl a s b))) (fun _ => rfl) ?_
    refine ⟨?_, rfl⟩
    unfold aLetter
    by_cases h : okR G wh
    · rw [if_pos h, if_pos (show (0 : Int) = 0 ∧ okR G wh from ⟨rfl, h⟩)]
    · rw [if_neg h, if_neg (show ¬ ((0 : Int) = 0 ∧ okR G wh) from fun g => h g.2), if_neg (show ¬ ((0 : Int) = 1 ∧ okW G wh) from fun g => absurd g.1 (by decide)), if_neg (show ¬ ((0 : Int) = 2 ∧ okT G wh) from fun g => absurd g.1 (by decide))]
  · rw [b1]
    refine Ev.call (k := 6) (pc1 := 46) (L1 := [Vr 0, Vi 1, Vi wh, Vi k]) (S1 := [Vi k, Vi wh, Vi 2, Vr (y : Int)]) (h1 := ((SHv (y : Int) (z : Int) rd), (ovl a s b))) (m' := 69) (as := [Vr (y : Int), Vi 2, Vi wh, Vi k]) (S' := []) (L0 := [Vr (y : Int), Vi 2, Vi wh, Vi k, Vx, Vx, Vx]) (fun _ => rfl) rfl rfl rfl rfl (stpC_of rfl (pm_recv_of (by omega) (shY_0 hy))) rfl (q_nl_2 hT hNV wh k) (fun r h' hq => ?_)
    obtain ⟨rfl, rfl⟩ := hq
    show Ev X _ _ 49 [Vr 0, Vi 1, Vi wh, Vi k] [Vi (if okW G wh then letS ((gS G).1 2 wh.toNat).toNat k else -1)] ((SHv (y : Int) (z : Int) rd), (ovl a s b)) _
    refine Ev.fin (k := 1) (r := (some (Vi (if okW G wh then letS ((gS G).1 2 wh.toNat).toNat k else -1)))) (h' := ((SHv (y : Int) (z : Int) rd), (ovl a s b))) (fun _ => rfl) ?_
    refine ⟨?_, rfl⟩
    unfold aLetter
    rw [if_neg (show ¬ ((1 : Int) = 0 ∧ okR G wh) from fun g => absurd g.1 (by decide))]
    by_cases h : okW G wh
    · rw [if_pos h, if_pos (show (1 : Int) = 1 ∧ okW G wh from ⟨rfl, h⟩)]
    · rw [if_neg h, if_neg (show ¬ ((1 : Int) = 1 ∧ okW G wh) from fun g => h g.2), if_neg (show ¬ ((1 : Int) = 2 ∧ okT G wh) from fun g => absurd g.1 (by decide))]
  · rw [b1]
    refine Ev.call (k := 6) (pc1 := 57) (L1 := [Vr 0, Vi 2, Vi wh, Vi k]) (S1 := [Vi k, Vi wh, Vi 3, Vr (y : Int)]) (h1 := ((SHv (y : Int) (z : Int) rd), (ovl a s b))) (m' := 69) (as := [Vr (y : Int), Vi 3, Vi wh, Vi k]) (S' := []) (L0 := [Vr (y : Int), Vi 3, Vi wh, Vi k, Vx, Vx, Vx]) (fun _ => rfl) rfl rfl rfl rfl (stpC_of rfl (pm_recv_of (by omega) (shY_0 hy))) rfl (q_nl_3 hT hNV wh k) (fun r h' hq => ?_)
    obtain ⟨rfl, rfl⟩ := hq
    show Ev X _ _ 60 [Vr 0, Vi 2, Vi wh, Vi k] [Vi (if okT G wh then letS ((gS G).1 3 wh.toNat).toNat k else -1)] ((SHv (y : Int) (z : Int) rd), (ovl a s b)) _
    refine Ev.fin (k := 1) (r := (some (Vi (if okT G wh then letS ((gS G).1 3 wh.toNat).toNat k else -1)))) (h' := ((SHv (y : Int) (z : Int) rd), (ovl a s b))) (fun _ => rfl) ?_
    refine ⟨?_, rfl⟩
    unfold aLetter
    rw [if_neg (show ¬ ((2 : Int) = 0 ∧ okR G wh) from fun g => absurd g.1 (by decide)), if_neg (show ¬ ((2 : Int) = 1 ∧ okW G wh) from fun g => absurd g.1 (by decide))]
    by_cases h : okT G wh
    · rw [if_pos h, if_pos (show (2 : Int) = 2 ∧ okT G wh from ⟨rfl, h⟩)]
    · rw [if_neg h, if_neg (show ¬ ((2 : Int) = 2 ∧ okT G wh) from fun g => h g.2)]
  · refine Ev.tswd (dflt := 60) rfl (by omega) (by decide) ?_
    show Ev X _ _ 61 [Vr 0, Vi kd, Vi wh, Vi k] [] ((SHv (y : Int) (z : Int) rd), (ovl a s b)) _
    refine Ev.fin (k := 2) (r := (some (Vi (-1)))) (h' := ((SHv (y : Int) (z : Int) rd), (ovl a s b))) (fun _ => rfl) ?_
    refine ⟨?_, rfl⟩
    unfold aLetter
    rw [if_neg (by omega), if_neg (by omega), if_neg (by omega)]
