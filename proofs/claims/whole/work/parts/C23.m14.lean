/-! THE CLASS: an evening is let go; who is dead; claims -/
theorem c_chForget {X : List Int} {d : Nat} {st dr rd : Int} {a s b : C3}  : Ev X d 64 0 [Vr 141] [] (SHv st dr rd, ovl a s b) (fun rr hh => rr = none ∧ hh = (SHv st dr rd, ovl (updC (updC a 141 4 0) 141 5 0) s b)) := by
  refine Ev.steps (k := 2) (pc' := 2) (L' := [Vr 141]) (S' := [Vi 0, Vr 141]) (h' := ((SHv st dr rd), (ovl a s b))) (fun _ => rfl) ?_
  refine Ev.putz (c' := (ovl (updC a 141 4 0) s b)) rfl (by decide) rfl rfl rfl (by decide) (ovl_wc (by decide)) ?_
  refine Ev.steps (k := 2) (pc' := 7) (L' := [Vr 141]) (S' := [Vi 0, Vr 141]) (h' := ((SHv st dr rd), (ovl (updC a 141 4 0) s b))) (fun _ => rfl) ?_
  refine Ev.putz (c' := (ovl (updC (updC a 141 4 0) 141 5 0) s b)) rfl (by decide) rfl rfl rfl (by decide) (ovl_wc (by decide)) ?_
  refine Ev.fin (k := 1) (r := none) (h' := ((SHv st dr rd), (ovl (updC (updC a 141 4 0) 141 5 0) s b))) (fun _ => rfl) ?_
  exact ⟨rfl, rfl⟩
theorem h_run {X : List Int} {d : Nat} {rd : Int} {a s b : C3} {y z : Nat} {G : GST} (hT : TopC G a rd y z) (n : Int) : Ev X (d + 6) 76 0 [Vr 0, Vi n] [] (SHv (y : Int) (z : Int) rd, ovl a s b) (fun rr hh => rr = some (Vi (aRun G n)) ∧ ∃ a' : C3, hh = (SHv (y : Int) (z : Int) rd, ovl a' s b) ∧ TopC (nRun G n) a' rd y z) := by
  obtain ⟨hyz, hrd, hY, hWY, hBB, hWB, hWE, hn180, ⟨e7, e6, e5, e0, hEv⟩, hTp, hfk, hfp, hCh, h156, hOwn⟩ := id hT
  have hy : hyS y := by show y = 2 ∨ y = 58; omega
  have hy0 : y = 2 ∨ y = 58 := hy
  have hW8 := hWY.2.2.1.1
  have hR8 := hWY.1.1
  have hT8 := hWY.2.2.2.1.1
  have hL30 := hWY.2.2.2.2.1.1
  have hC12 := hWY.2.2.2.2.2.1.1
  unfold aRun nRun
  refine Ev.ite (P := n < 1) (k := 3) (a := 12) (b := 5) (L' := [Vr 0, Vi n]) (S' := []) (h' := ((SHv (y : Int) (z : Int) rd), (ovl a s b))) (fun _ => rfl) (fun b2 => ?_) (fun b2 => ?_)
  · refine Ev.fin (k := 2) (r := (some (Vi (-1)))) (h' := ((SHv (y : Int) (z : Int) rd), (ovl a s b))) (fun _ => rfl) ?_
    rw [if_neg (by omega), if_neg (by omega)]
    exact ⟨rfl, a, rfl, hT⟩
  · refine Ev.ite (P := n ≤ 180) (k := 3) (a := 14) (b := 12) (L' := [Vr 0, Vi n]) (S' := []) (h' := ((SHv (y : Int) (z : Int) rd), (ovl a s b))) (fun _ => rfl) (fun b9 => ?_) (fun b9 => ?_)
    · obtain ⟨nn, hn⟩ : ∃ nn : Nat, n = (nn : Int) := ⟨n.toNat, by omega⟩
      refine Ev.call (k := 8) (pc1 := 29) (L1 := [Vr 0, Vi n]) (S1 := [Vi 8, Vi n, Vr 116, Vr (y : Int), Vr 119]) (h1 := ((SHv (y : Int) (z : Int) rd), (ovl a s b))) (m' := 77) (as := [Vr 119, Vr (y : Int), Vr 116, Vi n, Vi 8]) (S' := []) (L0 := [Vr 119, Vr (y : Int), Vr 116, Vi n, Vi 8, Vx, Vx, Vx]) (fun _ => rfl) rfl rfl rfl rfl rfl rfl ((by rw [hn]; exact c_pass (u := 119) (Or.inl rfl) hy 116 nn 8 hWY hWB (by omega) (Or.inl rfl) hY hBB (fun _ => e0) (fun h => absurd h (by omega)))) (fun r h' hq => ?_)
      obtain ⟨rfl, a1, rfl, g1, -, g2⟩ := hq
      have hE : EvF (gS G) (gB G) a1 119 nn := by
        rcases g2 with g2 | ⟨j, j1, j2, j3⟩
        · exact g2
        · exfalso
          have := (aftS_wf hWY hWB j (by omega)).1.2.2.2.2.2.2.2.2
          omega
      have hE2 := hE.2.2.2.1.1 rfl
      show Ev X _ _ 32 [Vr 0, Vi n] [] ((SHv (y : Int) (z : Int) rd), (ovl a1 s b)) _
      refine Ev.call (k := 2) (pc1 := 36) (L1 := [Vr 0, Vi n]) (S1 := [Vr 141]) (h1 := ((SHv (y : Int) (z : Int) rd), (ovl a1 s b))) (m' := 64) (as := [Vr 141]) (S' := []) (L0 := [Vr 141]) (fun _ => rfl) rfl rfl rfl rfl rfl rfl (c_chForget) (fun r h' hq => ?_)
      obtain ⟨rfl, rfl⟩ := hq
      show Ev X _ _ 39 [Vr 0, Vi n] [] ((SHv (y : Int) (z : Int) rd), (ovl (updC (updC a1 141 4 0) 141 5 0) s b)) _
      refine Ev.steps (k := 3) (pc' := 46) (L' := [Vr 0, Vi n]) (S' := [Vi ((updC (updC a1 141 4 0) 141 5 0) 119 6)]) (h' := ((SHv (y : Int) (z : Int) rd), (ovl (updC (updC a1 141 4 0) 141 5 0) s b))) (fun _ => rfl) ?_
      rw [(show (updC (updC a1 141 4 0) 141 5 0) 119 6 = aftS (gS G) (gB G) nn 9 0 from hE.2.2.1.1)]
      refine Ev.fin (k := 1) (r := (some (Vi (aftS (gS G) (gB G) nn 9 0)))) (h' := ((SHv (y : Int) (z : Int) rd), (ovl (updC (updC a1 141 4 0) 141 5 0) s b))) (fun _ => rfl) ?_
      rw [if_pos (by omega), if_pos (by omega), hn, Int.toNat_natCast]
      have F : ∀ o, ¬ (119 ≤ o ∧ o ≤ 137) → o ≠ 141 → (updC (updC a1 141 4 0) 141 5 0) o = a o := fun o h1 h2 => by rw [updC_row h2, updC_row h2, g1 o (by omega)]
      have F2 : ∀ o, 119 ≤ o → o ≤ 137 → (updC (updC a1 141 4 0) 141 5 0) o = a1 o := fun o h1 h2 => by rw [updC_row (by omega), updC_row (by omega)]
      refine ⟨rfl, _, rfl, hyz, hrd, hY.fr (fun o h1 h2 => F o (by omega) (by omega)) hL30 hC12, hWY, hBB.fr (fun o h1 h2 => F o (by omega) (by omega)), hWB, hWB, by show nn ≤ 180; omega, ⟨?_, ?_, ?_, ?_, fun _ => hE.fr (fun o h1 h2 => F2 o (by omega) (by omega))⟩, ?_, ?_, ?_, ⟨?_, ?_, ?_, ?_⟩, ?_, ?_⟩
      · rw [F2 119 (by omega) (by omega)]; exact hE.1
      · rw [F2 119 (by omega) (by omega)]; exact hE.2.2.1.1
      · rw [F2 133 (by omega) (by omega)]; exact hE2.1.1
      · rw [F2 133 (by omega) (by omega)]; exact hE2.2.1
      · rw [F 0 (by omega) (by omega), F 1 (by omega) (by omega)]; exact hTp
      · rw [F 114 (by omega) (by omega)]; exact hfk
      · rw [F 114 (by omega) (by omega)]; exact hfp
      · rw [updC_nt (by omega), updC_sm]; exact Or.inl rfl
      · rw [updC_sm]; exact Or.inl rfl
      · rw [updC_nt (by omega), updC_sm]; exact fun h => absurd h (by omega)
      · rw [updC_sm]; exact fun h => absurd h (by omega)
      · rw [F 156 (by omega) (by omega)]; exact h156
      · unfold OwnC
        rw [F 115 (by omega) (by omega)]
        exact hOwn
    · refine Ev.fin (k := 2) (r := (some (Vi (-1)))) (h' := ((SHv (y : Int) (z : Int) rd), (ovl a s b))) (fun _ => rfl) ?_
      rw [if_neg (by omega), if_neg (by omega)]
      exact ⟨rfl, a, rfl, hT⟩
theorem q_dead {X : List Int} {d : Nat} {rd : Int} {a s b : C3} {y z : Nat} {G : GST} (hT : TopC G a rd y z) (x : Int) : Ev X (d + 3) 129 0 [Vr 0, Vi x] [] (SHv (y : Int) (z : Int) rd, ovl a s b) (fun rr hh => rr = some (Vi (if isV G x then 1 else 0)) ∧ hh = (SHv (y : Int) (z : Int) rd, ovl a s b)) := by
  obtain ⟨hyz, hrd, hY, hWY, hBB, hWB, hWE, hn180, ⟨e7, e6, e5, e0, hEv⟩, hTp, hfk, hfp, hCh, h156, hOwn⟩ := id hT
  have hy : hyS y := by show y = 2 ∨ y = 58; omega
  have hy0 : y = 2 ∨ y = 58 := hy
  have hW8 := hWY.2.2.1.1
  have hR8 := hWY.1.1
  have hT8 := hWY.2.2.2.1.1
  have hL30 := hWY.2.2.2.2.1.1
  have hC12 := hWY.2.2.2.2.2.1.1
  refine Ev.call (k := 4) (pc1 := 6) (L1 := [Vr 0, Vi x]) (S1 := [Vi x, Vi 2, Vr (y : Int)]) (h1 := ((SHv (y : Int) (z : Int) rd), (ovl a s b))) (m' := 70) (as := [Vr (y : Int), Vi 2, Vi x]) (S' := []) (L0 := [Vr (y : Int), Vi 2, Vi x]) (fun _ => rfl) rfl rfl rfl rfl (stpC_of rfl (pm_recv_of (by omega) (shY_0 hy))) rfl (q_thW hT x) (fun r h' hq => ?_)
  obtain ⟨rfl, rfl⟩ := hq
  by_cases c6 : okW G x
  · rw [if_pos c6]
    show Ev X _ _ 9 [Vr 0, Vi x] [Vi 1] ((SHv (y : Int) (z : Int) rd), (ovl a s b)) _
    refine Ev.steps (k := 4) (pc' := 19) (L' := [Vr 0, Vi x]) (S' := [Vi (a 119 7)]) (h' := ((SHv (y : Int) (z : Int) rd), (ovl a s b))) (fun _ => rfl) ?_
    rw [e7]
    refine Ev.ite (P := ((gn G : Nat) : Int) ≤ 0) (k := 1) (a := 46) (b := 22) (L' := [Vr 0, Vi x]) (S' := []) (h' := ((SHv (y : Int) (z : Int) rd), (ovl a s b))) (fun _ => rfl) (fun b19 => ?_) (fun b19 => ?_)
    · refine Ev.fin (k := 2) (r := (some (Vi 0))) (h' := ((SHv (y : Int) (z : Int) rd), (ovl a s b))) (fun _ => rfl) ?_
      refine ⟨?_, rfl⟩
      first | rw [if_neg (by exact fun h => c6 h.1)] | rw [if_neg (by exact fun h => by have := h.2.1; omega)] | rw [if_neg (by exact fun h => c36 h.2.2)] | rw [if_pos ⟨c6, by omega, Classical.not_not.mp c36⟩]
    · refine Ev.steps (k := 6) (pc' := 34) (L' := [Vr 0, Vi x]) (S' := [Vi (a 119 7), Vi x, Vr 119]) (h' := ((SHv (y : Int) (z : Int) rd), (ovl a s b))) (fun _ => rfl) ?_
      rw [e7]
      refine Ev.steps (k := 2) (pc' := 36) (L' := [Vr 0, Vi x]) (S' := [Vi (w32 (((gn G : Nat) : Int) - 1)), Vi x, Vr 119]) (h' := ((SHv (y : Int) (z : Int) rd), (ovl a s b))) (fun _ => rfl) ?_
      rw [show (w32 (((gn G : Nat) : Int) - 1)) = ((gn G : Int) - 1) from (by unfold w32; omega)]
      refine Ev.call (k := 0) (pc1 := 36) (L1 := [Vr 0, Vi x]) (S1 := [Vi ((gn G : Int) - 1), Vi x, Vr 119]) (h1 := ((SHv (y : Int) (z : Int) rd), (ovl a s b))) (m' := 109) (as := [Vr 119, Vi x, Vi ((gn G : Int) - 1)]) (S' := []) (L0 := [Vr 119, Vi x, Vi ((gn G : Int) - 1)]) (fun _ => rfl) rfl rfl rfl rfl rfl rfl (q_livedThen hT x ((gn G : Int) - 1) c6 ⟨by omega, by omega⟩) (fun r h' hq => ?_)
      obtain ⟨rfl, rfl⟩ := hq
      rw [show ((gn G : Int) - 1).toNat + 1 = gn G by omega]
      by_cases c36 : gA G (gn G) 1 x.toNat ≠ 0
      · rw [if_pos c36]
        show Ev X _ _ 39 [Vr 0, Vi x] [Vi 1] ((SHv (y : Int) (z : Int) rd), (ovl a s b)) _
        refine Ev.fin (k := 3) (r := (some (Vi 0))) (h' := ((SHv (y : Int) (z : Int) rd), (ovl a s b))) (fun _ => rfl) ?_
        refine ⟨?_, rfl⟩
        first | rw [if_neg (by exact fun h => c6 h.1)] | rw [if_neg (by exact fun h => by have := h.2.1; omega)] | rw [if_neg (by exact fun h => c36 h.2.2)] | rw [if_pos ⟨c6, by omega, Classical.not_not.mp c36⟩]
      · rw [if_neg c36]
        show Ev X _ _ 39 [Vr 0, Vi x] [Vi 0] ((SHv (y : Int) (z : Int) rd), (ovl a s b)) _
        refine Ev.fin (k := 4) (r := (some (Vi 1))) (h' := ((SHv (y : Int) (z : Int) rd), (ovl a s b))) (fun _ => rfl) ?_
        refine ⟨?_, rfl⟩
        first | rw [if_neg (by exact fun h => c6 h.1)] | rw [if_neg (by exact fun h => by have := h.2.1; omega)] | rw [if_neg (by exact fun h => c36 h.2.2)] | rw [if_pos ⟨c6, by omega, Classical.not_not.mp c36⟩]
  · rw [if_neg c6]
    show Ev X _ _ 9 [Vr 0, Vi x] [Vi 0] ((SHv (y : Int) (z : Int) rd), (ovl a s b)) _
    refine Ev.fin (k := 3) (r := (some (Vi 0))) (h' := ((SHv (y : Int) (z : Int) rd), (ovl a s b))) (fun _ => rfl) ?_
    refine ⟨?_, rfl⟩
    first | rw [if_neg (by exact fun h => c6 h.1)] | rw [if_neg (by exact fun h => by have := h.2.1; omega)] | rw [if_neg (by exact fun h => c36 h.2.2)] | rw [if_pos ⟨c6, by omega, Classical.not_not.mp c36⟩]
theorem q_isSetW {X : List Int} {d : Nat} {rd : Int} {a s b : C3} {y z : Nat} {G : GST} (hT : TopC G a rd y z) (x : Int) : Ev X d 130 0 [Vr 0, Vi 2, Vi x] [] (SHv (y : Int) (z : Int) rd, ovl a s b) (fun rr hh => rr = some (Vi (if isX (nW (gS G)) x then 1 else 0)) ∧ hh = (SHv (y : Int) (z : Int) rd, ovl a s b)) := by
  obtain ⟨hyz, hrd, hY, hWY, hBB, hWB, hWE, hn180, ⟨e7, e6, e5, e0, hEv⟩, hTp, hfk, hfp, hCh, h156, hOwn⟩ := id hT
  have hy : hyS y := by show y = 2 ∨ y = 58; omega
  have hy0 : y = 2 ∨ y = 58 := hy
  have hW8 := hWY.2.2.1.1
  have hR8 := hWY.1.1
  have hT8 := hWY.2.2.2.1.1
  have hL30 := hWY.2.2.2.2.1.1
  have hC12 := hWY.2.2.2.2.2.1.1
  have hc : a (y + 1) 2 = ((nW (gS G) : Nat) : Int) := (hY.1 2 (by omega)).trans hWY.2.2.1.2
  have hp2 : 2 ^ nW (gS G) ≤ 2 ^ 8 := Nat.pow_le_pow_right (by omega) (by omega)
  refine Ev.ite (P := x < 0) (k := 2) (a := 23) (b := 4) (L' := [Vr 0, Vi 2, Vi x]) (S' := []) (h' := ((SHv (y : Int) (z : Int) rd), (ovl a s b))) (fun _ => rfl) (fun b1 => ?_) (fun b1 => ?_)
  · refine Ev.fin (k := 2) (r := (some (Vi 0))) (h' := ((SHv (y : Int) (z : Int) rd), (ovl a s b))) (fun _ => rfl) ?_
    refine ⟨?_, rfl⟩
    first | rw [if_neg (by exact fun h => by have := h.1; have := h.2; omega)] | rw [if_pos ⟨by omega, by omega⟩]
  · refine Ev.steps (k := 4) (pc' := 10) (L' := [Vr 0, Vi 2, Vi x]) (S' := [Vr (y : Int), Vi 1, Vi x]) (h' := ((SHv (y : Int) (z : Int) rd), (ovl a s b))) (fun _ => rfl) ?_
    refine Ev.getr (r := ((y : Int) + 1)) rfl rfl (by omega) (shY_0 hy) rfl rfl rfl ?_
    refine Ev.steps (k := 1) (pc' := 14) (L' := [Vr 0, Vi 2, Vi x]) (S' := [Vi 2, Vr ((y : Int) + 1), Vi 1, Vi x]) (h' := ((SHv (y : Int) (z : Int) rd), (ovl a s b))) (fun _ => rfl) ?_
    refine Ev.iald (v := ((nW (gS G) : Nat) : Int)) rfl (by omega) (shY_1 hy) (by omega) (by omega) ((ovl_rc (by omega)).trans (hc)) ?_
    refine Ev.steps (k := 1) (pc' := 16) (L' := [Vr 0, Vi 2, Vi x]) (S' := [Vi (i_shl 1 ((nW (gS G) : Nat) : Int)), Vi x]) (h' := ((SHv (y : Int) (z : Int) rd), (ovl a s b))) (fun _ => rfl) ?_
    rw [show (i_shl 1 ((nW (gS G) : Nat) : Int)) = ((2 ^ nW (gS G) : Nat) : Int) from (i_shl1 (by omega))]
    refine Ev.ite (P := ((2 ^ nW (gS G) : Nat) : Int) ≤ x) (k := 1) (a := 23) (b := 19) (L' := [Vr 0, Vi 2, Vi x]) (S' := []) (h' := ((SHv (y : Int) (z : Int) rd), (ovl a s b))) (fun _ => rfl) (fun b16 => ?_) (fun b16 => ?_)
    · refine Ev.fin (k := 2) (r := (some (Vi 0))) (h' := ((SHv (y : Int) (z : Int) rd), (ovl a s b))) (fun _ => rfl) ?_
      refine ⟨?_, rfl⟩
      first | rw [if_neg (by exact fun h => by have := h.1; have := h.2; omega)] | rw [if_pos ⟨by omega, by omega⟩]
    · refine Ev.fin (k := 3) (r := (some (Vi 1))) (h' := ((SHv (y : Int) (z : Int) rd), (ovl a s b))) (fun _ => rfl) ?_
      refine ⟨?_, rfl⟩
      first | rw [if_neg (by exact fun h => by have := h.1; have := h.2; omega)] | rw [if_pos ⟨by omega, by omega⟩]
theorem q_isSetR {X : List Int} {d : Nat} {rd : Int} {a s b : C3} {y z : Nat} {G : GST} (hT : TopC G a rd y z) (x : Int) : Ev X d 130 0 [Vr 0, Vi 0, Vi x] [] (SHv (y : Int) (z : Int) rd, ovl a s b) (fun rr hh => rr = some (Vi (if isX (nR (gS G)) x then 1 else 0)) ∧ hh = (SHv (y : Int) (z : Int) rd, ovl a s b)) := by
  obtain ⟨hyz, hrd, hY, hWY, hBB, hWB, hWE, hn180, ⟨e7, e6, e5, e0, hEv⟩, hTp, hfk, hfp, hCh, h156, hOwn⟩ := id hT
  have hy : hyS y := by show y = 2 ∨ y = 58; omega
  have hy0 : y = 2 ∨ y = 58 := hy
  have hW8 := hWY.2.2.1.1
  have hR8 := hWY.1.1
  have hT8 := hWY.2.2.2.1.1
  have hL30 := hWY.2.2.2.2.1.1
  have hC12 := hWY.2.2.2.2.2.1.1
  have hc : a (y + 1) 0 = ((nR (gS G) : Nat) : Int) := (hY.1 0 (by omega)).trans hWY.1.2
  have hp2 : 2 ^ nR (gS G) ≤ 2 ^ 8 := Nat.pow_le_pow_right (by omega) (by omega)
  refine Ev.ite (P := x < 0) (k := 2) (a := 23) (b := 4) (L' := [Vr 0, Vi 0, Vi x]) (S' := []) (h' := ((SHv (y : Int) (z : Int) rd), (ovl a s b))) (fun _ => rfl) (fun b1 => ?_) (fun b1 => ?_)
  · refine Ev.fin (k := 2) (r := (some (Vi 0))) (h' := ((SHv (y : Int) (z : Int) rd), (ovl a s b))) (fun _ => rfl) ?_
    refine ⟨?_, rfl⟩
    first | rw [if_neg (by exact fun h => by have := h.1; have := h.2; omega)] | rw [if_pos ⟨by omega, by omega⟩]
  · refine Ev.steps (k := 4) (pc' := 10) (L' := [Vr 0, Vi 0, Vi x]) (S' := [Vr (y : Int), Vi 1, Vi x]) (h' := ((SHv (y : Int) (z : Int) rd), (ovl a s b))) (fun _ => rfl) ?_
    refine Ev.getr (r := ((y : Int) + 1)) rfl rfl (by omega) (shY_0 hy) rfl rfl rfl ?_
    refine Ev.steps (k := 1) (pc' := 14) (L' := [Vr 0, Vi 0, Vi x]) (S' := [Vi 0, Vr ((y : Int) + 1), Vi 1, Vi x]) (h' := ((SHv (y : Int) (z : Int) rd), (ovl a s b))) (fun _ => rfl) ?_
    refine Ev.iald (v := ((nR (gS G) : Nat) : Int)) rfl (by omega) (shY_1 hy) (by omega) (by omega) ((ovl_rc (by omega)).trans (hc)) ?_
    refine Ev.steps (k := 1) (pc' := 16) (L' := [Vr 0, Vi 0, Vi x]) (S' := [Vi (i_shl 1 ((nR (gS G) : Nat) : Int)), Vi x]) (h' := ((SHv (y : Int) (z : Int) rd), (ovl a s b))) (fun _ => rfl) ?_
    rw [show (i_shl 1 ((nR (gS G) : Nat) : Int)) = ((2 ^ nR (gS G) : Nat) : Int) from (i_shl1 (by omega))]
    refine Ev.ite (P := ((2 ^ nR (gS G) : Nat) : Int) ≤ x) (k := 1) (a := 23) (b := 19) (L' := [Vr 0, Vi 0, Vi x]) (S' := []) (h' := ((SHv (y : Int) (z : Int) rd), (ovl a s b))) (fun _ => rfl) (fun b16 => ?_) (fun b16 => ?_)
    · refine Ev.fin (k := 2) (r := (some (Vi 0))) (h' := ((SHv (y : Int) (z : Int) rd), (ovl a s b))) (fun _ => rfl) ?_
      refine ⟨?_, rfl⟩
      first | rw [if_neg (by exact fun h => by have := h.1; have := h.2; omega)] | rw [if_pos ⟨by omega, by omega⟩]
    · refine Ev.fin (k := 3) (r := (some (Vi 1))) (h' := ((SHv (y : Int) (z : Int) rd), (ovl a s b))) (fun _ => rfl) ?_
      refine ⟨?_, rfl⟩
      first | rw [if_neg (by exact fun h => by have := h.1; have := h.2; omega)] | rw [if_pos ⟨by omega, by omega⟩]
theorem c_holds_l {X : List Int} {d : Nat} {rd : Int} {a s b : C3} {y z : Nat} {G : GST} (hT : TopC G a rd y z) (k : Nat) (hk : k < nC (gS G)) (fr0 : Nat) (hfr0 : (gS G).1 9 k = (fr0 : Int)) (j : Nat) (hfj : fr0 ≤ j) (hj : j ≤ 180) (hv : ∀ m, fr0 ≤ m → m < j → gA G (m + 1) 0 ((gS G).1 7 k).toNat = (gS G).1 8 k) : Ev X (d + 1) 143 5 [Vr ((y + 44 + k : Nat) : Int), Vr 119, Vi (j : Int)] [] (SHv (y : Int) (z : Int) rd, ovl a s b) (fun rr hh => rr = some (Vi (if cTrue G k then 1 else 0)) ∧ hh = (SHv (y : Int) (z : Int) rd, ovl a s b)) := by
  induction hkk : (180 - j) using Nat.strongRecOn generalizing j with
  | ind kk ih =>
    obtain ⟨hyz, hrd, hY, hWY, hBB, hWB, hWE, hn180, ⟨e7, e6, e5, e0, hEv⟩, hTp, hfk, hfp, hCh, h156, hOwn⟩ := id hT
    have hy : hyS y := by show y = 2 ∨ y = 58; omega
    have hy0 : y = 2 ∨ y = 58 := hy
    have hW8 := hWY.2.2.1.1
    have hR8 := hWY.1.1
    have hT8 := hWY.2.2.2.1.1
    have hL30 := hWY.2.2.2.2.1.1
    have hC12 := hWY.2.2.2.2.2.1.1
    have hkn : k < nC (gS G) := hk
    obtain ⟨c0, c1, c2, c3⟩ := hY.2.2.2.2.2.2.2.2.2.1 k hk
    have hwc := hWY.2.2.2.2.2.2.2.2.2.2.1 k hk
    obtain ⟨w, hw⟩ : ∃ w : Nat, (gS G).1 7 k = (w : Int) := ⟨((gS G).1 7 k).toNat, by omega⟩
    obtain ⟨ro, hro⟩ : ∃ ro : Nat, (gS G).1 8 k = (ro : Int) := ⟨((gS G).1 8 k).toNat, by omega⟩
    obtain ⟨fr, hfr⟩ : ∃ fr : Nat, (gS G).1 9 k = (fr : Int) := ⟨((gS G).1 9 k).toNat, by omega⟩
    obtain ⟨to, hto⟩ : ∃ to : Nat, (gS G).1 10 k = (to : Int) := ⟨((gS G).1 10 k).toNat, by omega⟩
    rw [hw] at c0
    rw [hro] at c1
    rw [hfr] at c2
    rw [hto] at c3
    have hwW : w < nW (gS G) := by omega
    have hto180 : to < 180 := by omega
    have hft : fr ≤ to := by omega
    clear hwc
    obtain rfl : fr = fr0 := by omega
    rw [hw, Int.toNat_natCast, hro] at hv
    refine Ev.steps (k := 2) (pc' := 7) (L' := [Vr ((y + 44 + k : Nat) : Int), Vr 119, Vi (j : Int)]) (S' := [Vr ((y + 44 + k : Nat) : Int), Vi (j : Int)]) (h' := ((SHv (y : Int) (z : Int) rd), (ovl a s b))) (fun _ => rfl) ?_
    refine Ev.getf (v := (to : Int)) rfl rfl (by omega) (shCl hy (by omega)) rfl rfl ((ovl_rc (by omega)).trans (c3)) ?_
    refine Ev.ite (P := (to : Int) < (j : Int)) (k := 1) (a := 45) (b := 13) (L' := [Vr ((y + 44 + k : Nat) : Int), Vr 119, Vi (j : Int)]) (S' := []) (h' := ((SHv (y : Int) (z : Int) rd), (ovl a s b))) (fun _ => rfl) (fun b10 => ?_) (fun b10 => ?_)
    · refine Ev.fin (k := 2) (r := (some (Vi 1))) (h' := ((SHv (y : Int) (z : Int) rd), (ovl a s b))) (fun _ => rfl) ?_
      refine ⟨?_, rfl⟩
      first
        | (rw [if_pos]
           intro m hm hcm
           obtain ⟨m1, m2, m3⟩ := hcm
           rw [hw, Int.toNat_natCast, hro]
           first
             | exact hv m (by omega) (by omega)
             | exact hv m (by omega) (by
                 have c15 := c15
                 by_cases h : m < j
                 · exact h
                 · exact absurd (show okM G (j : Int) from ⟨by omega, by omega⟩) c15))
        | (rw [if_neg]
           intro h
           have := h j (by have := c15.2; omega) ⟨by omega, by omega, by have := c15.2; omega⟩
           rw [hw, Int.toNat_natCast, hro] at this
           exact b34 this)
    · refine Ev.call (k := 2) (pc1 := 15) (L1 := [Vr ((y + 44 + k : Nat) : Int), Vr 119, Vi (j : Int)]) (S1 := [Vi (j : Int), Vr 119]) (h1 := ((SHv (y : Int) (z : Int) rd), (ovl a s b))) (m' := 106) (as := [Vr 119, Vi (j : Int)]) (S' := []) (L0 := [Vr 119, Vi (j : Int)]) (fun _ => rfl) rfl rfl rfl rfl rfl rfl (q_had hT (j : Int)) (fun r h' hq => ?_)
      obtain ⟨rfl, rfl⟩ := hq
      by_cases c15 : okM G (j : Int)
      · rw [if_pos c15]
        show Ev X _ _ 18 [Vr ((y + 44 + k : Nat) : Int), Vr 119, Vi (j : Int)] [Vi 1] ((SHv (y : Int) (z : Int) rd), (ovl a s b)) _
        refine Ev.steps (k := 3) (pc' := 23) (L' := [Vr ((y + 44 + k : Nat) : Int), Vr 119, Vi (j : Int)]) (S' := [Vr ((y + 44 + k : Nat) : Int), Vr 119]) (h' := ((SHv (y : Int) (z : Int) rd), (ovl a s b))) (fun _ => rfl) ?_
        refine Ev.getf (v := (w : Int)) rfl rfl (by omega) (shCl hy (by omega)) rfl rfl ((ovl_rc (by omega)).trans (c0)) ?_
        refine Ev.call (k := 1) (pc1 := 27) (L1 := [Vr ((y + 44 + k : Nat) : Int), Vr 119, Vi (j : Int)]) (S1 := [Vi (j : Int), Vi (w : Int), Vr 119]) (h1 := ((SHv (y : Int) (z : Int) rd), (ovl a s b))) (m' := 107) (as := [Vr 119, Vi (w : Int), Vi (j : Int)]) (S' := []) (L0 := [Vr 119, Vi (w : Int), Vi (j : Int)]) (fun _ => rfl) rfl rfl rfl rfl rfl rfl (q_roomThen hT (w : Int) (j : Int) ⟨by omega, by omega⟩ c15) (fun r h' hq => ?_)
        obtain ⟨rfl, rfl⟩ := hq
        rw [Int.toNat_natCast, Int.toNat_natCast]
        show Ev X _ _ 30 [Vr ((y + 44 + k : Nat) : Int), Vr 119, Vi (j : Int)] [Vi (gA G (j + 1) 0 w)] ((SHv (y : Int) (z : Int) rd), (ovl a s b)) _
        refine Ev.steps (k := 1) (pc' := 31) (L' := [Vr ((y + 44 + k : Nat) : Int), Vr 119, Vi (j : Int)]) (S' := [Vr ((y + 44 + k : Nat) : Int), Vi (gA G (j + 1) 0 w)]) (h' := ((SHv (y : Int) (z : Int) rd), (ovl a s b))) (fun _ => rfl) ?_
        refine Ev.getf (v := (ro : Int)) rfl rfl (by omega) (shCl hy (by omega)) rfl rfl ((ovl_rc (by omega)).trans (c1)) ?_
        refine Ev.ite (P := (gA G (j + 1) 0 w) = (ro : Int)) (k := 1) (a := 39) (b := 37) (L' := [Vr ((y + 44 + k : Nat) : Int), Vr 119, Vi (j : Int)]) (S' := []) (h' := ((SHv (y : Int) (z : Int) rd), (ovl a s b))) (fun _ => rfl) (fun b34 => ?_) (fun b34 => ?_)
        · refine Ev.steps (k := 1) (pc' := 42) (L' := [Vr ((y + 44 + k : Nat) : Int), Vr 119, Vi (w32 ((j : Int) + 1))]) (S' := []) (h' := ((SHv (y : Int) (z : Int) rd), (ovl a s b))) (fun _ => rfl) ?_
          rw [show (w32 ((j : Int) + 1)) = ((j : Int) + 1) from w32_id (by unfold R32; omega)]
          refine Ev.steps (k := 1) (pc' := 5) (L' := [Vr ((y + 44 + k : Nat) : Int), Vr 119, Vi ((j : Int) + 1)]) (S' := []) (h' := ((SHv (y : Int) (z : Int) rd), (ovl a s b))) (fun _ => rfl) ?_
          refine ih _ (by omega) (j + 1) (by omega) (by omega) (fun m h1 h2 => ?_) rfl
          rw [hw, Int.toNat_natCast, hro]
          by_cases g : m = j
          · rw [g]; omega
          · exact hv m h1 (by omega)
        · refine Ev.fin (k := 2) (r := (some (Vi 0))) (h' := ((SHv (y : Int) (z : Int) rd), (ovl a s b))) (fun _ => rfl) ?_
          refine ⟨?_, rfl⟩
          first
            | (rw [if_pos]
               intro m hm hcm
               obtain ⟨m1, m2, m3⟩ := hcm
               rw [hw, Int.toNat_natCast, hro]
               first
                 | exact hv m (by omega) (by omega)
                 | exact hv m (by omega) (by
                     have c15 := c15
                     by_cases h : m < j
                     · exact h
                     · exact absurd (show okM G (j : Int) from ⟨by omega, by omega⟩) c15))
            | (rw [if_neg]
               intro h
               have := h j (by have := c15.2; omega) ⟨by omega, by omega, by have := c15.2; omega⟩
               rw [hw, Int.toNat_natCast, hro] at this
               exact b34 this)
      · rw [if_neg c15]
        show Ev X _ _ 18 [Vr ((y + 44 + k : Nat) : Int), Vr 119, Vi (j : Int)] [Vi 0] ((SHv (y : Int) (z : Int) rd), (ovl a s b)) _
        refine Ev.fin (k := 3) (r := (some (Vi 1))) (h' := ((SHv (y : Int) (z : Int) rd), (ovl a s b))) (fun _ => rfl) ?_
        refine ⟨?_, rfl⟩
        first
          | (rw [if_pos]
             intro m hm hcm
             obtain ⟨m1, m2, m3⟩ := hcm
             rw [hw, Int.toNat_natCast, hro]
             first
               | exact hv m (by omega) (by omega)
               | exact hv m (by omega) (by
                   have c15 := c15
                   by_cases h : m < j
                   · exact h
                   · exact absurd (show okM G (j : Int) from ⟨by omega, by omega⟩) c15))
          | (rw [if_neg]
             intro h
             have := h j (by have := c15.2; omega) ⟨by omega, by omega, by have := c15.2; omega⟩
             rw [hw, Int.toNat_natCast, hro] at this
             exact b34 this)
theorem q_holds {X : List Int} {d : Nat} {rd : Int} {a s b : C3} {y z : Nat} {G : GST} (hT : TopC G a rd y z) (k : Nat) (hk : k < nC (gS G)) : Ev X (d + 1) 143 0 [Vr ((y + 44 + k : Nat) : Int), Vr 119, Vx] [] (SHv (y : Int) (z : Int) rd, ovl a s b) (fun rr hh => rr = some (Vi (if cTrue G k then 1 else 0)) ∧ hh = (SHv (y : Int) (z : Int) rd, ovl a s b)) := by
  obtain ⟨hyz, hrd, hY, hWY, hBB, hWB, hWE, hn180, ⟨e7, e6, e5, e0, hEv⟩, hTp, hfk, hfp, hCh, h156, hOwn⟩ := id hT
  have hy : hyS y := by show y = 2 ∨ y = 58; omega
  have hy0 : y = 2 ∨ y = 58 := hy
  have hW8 := hWY.2.2.1.1
  have hR8 := hWY.1.1
  have hT8 := hWY.2.2.2.1.1
  have hL30 := hWY.2.2.2.2.1.1
  have hC12 := hWY.2.2.2.2.2.1.1
  have hkn : k < nC (gS G) := hk
  obtain ⟨c0, c1, c2, c3⟩ := hY.2.2.2.2.2.2.2.2.2.1 k hk
  have hwc := hWY.2.2.2.2.2.2.2.2.2.2.1 k hk
  obtain ⟨w, hw⟩ : ∃ w : Nat, (gS G).1 7 k = (w : Int) := ⟨((gS G).1 7 k).toNat, by omega⟩
  obtain ⟨ro, hro⟩ : ∃ ro : Nat, (gS G).1 8 k = (ro : Int) := ⟨((gS G).1 8 k).toNat, by omega⟩
  obtain ⟨fr, hfr⟩ : ∃ fr : Nat, (gS G).1 9 k = (fr : Int) := ⟨((gS G).1 9 k).toNat, by omega⟩
  obtain ⟨to, hto⟩ : ∃ to : Nat, (gS G).1 10 k = (to : Int) := ⟨((gS G).1 10 k).toNat, by omega⟩
  rw [hw] at c0
  rw [hro] at c1
  rw [hfr] at c2
  rw [hto] at c3
  have hwW : w < nW (gS G) := by omega
  have hto180 : to < 180 := by omega
  have hft : fr ≤ to := by omega
  clear hwc
  refine Ev.steps (k := 1) (pc' := 1) (L' := [Vr ((y + 44 + k : Nat) : Int), Vr 119, Vx]) (S' := [Vr ((y + 44 + k : Nat) : Int)]) (h' := ((SHv (y : Int) (z : Int) rd), (ovl a s b))) (fun _ => rfl) ?_
  refine Ev.getf (v := (fr : Int)) rfl rfl (by omega) (shCl hy (by omega)) rfl rfl ((ovl_rc (by omega)).trans (c2)) ?_
  refine Ev.steps (k := 1) (pc' := 5) (L' := [Vr ((y + 44 + k : Nat) : Int), Vr 119, Vi (fr : Int)]) (S' := []) (h' := ((SHv (y : Int) (z : Int) rd), (ovl a s b))) (fun _ => rfl) ?_
  exact c_holds_l hT k hk fr hfr fr (Nat.le_refl _) (by omega) (fun m h1 h2 => absurd h2 (by omega))
/-- bit i = 8 m + q: q catches in minute m -/
abbrev cBit (G : GST) (k i : Nat) : Prop := i % 8 < nW (gS G) ∧ cCat G k (i / 8) (i % 8)
theorem cCat_b {G : GST} {k m q w : Nat} (hw : (gS G).1 7 k = ((w : Nat) : Int)) : cCat G k m q ↔ cMin G k m ∧ gA G (m + 1) 0 w ≠ (gS G).1 8 k ∧ gA G (gn G) 1 q ≠ 0 ∧ seeS (gA G (m + 1)) q w ≠ 0 := by
  unfold cCat
  rw [hw, Int.toNat_natCast]
theorem c_catch_q {X : List Int} {d : Nat} {rd : Int} {a s b : C3} {y z : Nat} {G : GST} (hT : TopC G a rd y z) (k : Nat) (hk : k < nC (gS G)) (j x : Nat) (hj : j < gn G) (hx : x < 256) (hxb : ∀ q, q < nW (gS G) → (x.testBit q = true ↔ cCat G k j q)) {Q : Option pm_V → pm_H → Prop} (hQ : ∀ rr hh, (rr = some (Vi (if cFst G k < 8 * gn G then ((cFst G k : Nat) : Int) else -1)) ∧ hh = (SHv (y : Int) (z : Int) rd, ovl a s b)) → Q rr hh) (K : (∀ i, i < 8 * (j + 1) → ¬ cBit G k i) → Ev X (d + 4) 144 99 [Vr ((y + 44 + k : Nat) : Int), Vr 119, Vi ((nW (gS G) : Nat) : Int), Vi ((alvB (nW (gS G)) (gA G (gn G)) : Nat) : Int), Vi (j : Int), Vi (x : Int), Vi ((nW (gS G) : Nat) : Int)] [] (SHv (y : Int) (z : Int) rd, ovl a s b) Q) (p : Nat) (hp : p ≤ nW (gS G)) (hv : ∀ i, i < 8 * j + p → ¬ cBit G k i) : Ev X (d + 4) 144 68 [Vr ((y + 44 + k : Nat) : Int), Vr 119, Vi ((nW (gS G) : Nat) : Int), Vi ((alvB (nW (gS G)) (gA G (gn G)) : Nat) : Int), Vi (j : Int), Vi (x : Int), Vi (p : Int)] [] (SHv (y : Int) (z : Int) rd, ovl a s b) (Q) := by
  induction hkk : (nW (gS G) - p) using Nat.strongRecOn generalizing p with
  | ind kk ih =>
    obtain ⟨hyz, hrd, hY, hWY, hBB, hWB, hWE, hn180, ⟨e7, e6, e5, e0, hEv⟩, hTp, hfk, hfp, hCh, h156, hOwn⟩ := id hT
    have hy : hyS y := by show y = 2 ∨ y = 58; omega
    have hy0 : y = 2 ∨ y = 58 := hy
    have hW8 := hWY.2.2.1.1
    have hR8 := hWY.1.1
    have hT8 := hWY.2.2.2.1.1
    have hL30 := hWY.2.2.2.2.1.1
    have hC12 := hWY.2.2.2.2.2.1.1
    have hp2 : p < nW (gS G) → 2 ^ p ≤ 2 ^ 7 := fun h => Nat.pow_le_pow_right (by omega) (by omega)
    refine Ev.ite (P := ((nW (gS G) : Nat) : Int) ≤ (p : Int)) (k := 3) (a := 99) (b := 74) (L' := [Vr ((y + 44 + k : Nat) : Int), Vr 119, Vi ((nW (gS G) : Nat) : Int), Vi ((alvB (nW (gS G)) (gA G (gn G)) : Nat) : Int), Vi (j : Int), Vi (x : Int), Vi (p : Int)]) (S' := []) (h' := ((SHv (y : Int) (z : Int) rd), (ovl a s b))) (fun _ => rfl) (fun b71 => ?_) (fun b71 => ?_)
    · obtain rfl : p = nW (gS G) := by omega
      refine K (fun i hi hb => ?_)
      by_cases g : i < 8 * j + nW (gS G)
      · exact hv i g hb
      · have := hb.1
        omega
    · refine Ev.ite (P := (i_and (x : Int) (i_shl 1 (p : Int))) = 0) (k := 6) (a := 93) (b := 84) (L' := [Vr ((y + 44 + k : Nat) : Int), Vr 119, Vi ((nW (gS G) : Nat) : Int), Vi ((alvB (nW (gS G)) (gA G (gn G)) : Nat) : Int), Vi (j : Int), Vi (x : Int), Vi (p : Int)]) (S' := []) (h' := ((SHv (y : Int) (z : Int) rd), (ovl a s b))) (fun _ => rfl) (fun b81 => ?_) (fun b81 => ?_)
      · rw [ib0 (by omega) (by omega)] at b81
        refine Ev.steps (k := 1) (pc' := 96) (L' := [Vr ((y + 44 + k : Nat) : Int), Vr 119, Vi ((nW (gS G) : Nat) : Int), Vi ((alvB (nW (gS G)) (gA G (gn G)) : Nat) : Int), Vi (j : Int), Vi (x : Int), Vi (w32 ((p : Int) + 1))]) (S' := []) (h' := ((SHv (y : Int) (z : Int) rd), (ovl a s b))) (fun _ => rfl) ?_
        rw [show (w32 ((p : Int) + 1)) = ((p : Int) + 1) from w32_id (by unfold R32; omega)]
        refine Ev.steps (k := 1) (pc' := 68) (L' := [Vr ((y + 44 + k : Nat) : Int), Vr 119, Vi ((nW (gS G) : Nat) : Int), Vi ((alvB (nW (gS G)) (gA G (gn G)) : Nat) : Int), Vi (j : Int), Vi (x : Int), Vi ((p : Int) + 1)]) (S' := []) (h' := ((SHv (y : Int) (z : Int) rd), (ovl a s b))) (fun _ => rfl) ?_
        refine ih _ (by omega) (p + 1) (by omega) (fun i hi hb => ?_) rfl
        by_cases g : i < 8 * j + p
        · exact hv i g hb
        · obtain rfl : i = 8 * j + p := by omega
          rw [cBit, show (8 * j + p) % 8 = p by omega, show (8 * j + p) / 8 = j by omega] at hb
          exact b81 ((hxb p (by omega)).mpr hb.2)
      · rw [ib0 (by omega) (by omega)] at b81
        refine Ev.steps (k := 3) (pc' := 89) (L' := [Vr ((y + 44 + k : Nat) : Int), Vr 119, Vi ((nW (gS G) : Nat) : Int), Vi ((alvB (nW (gS G)) (gA G (gn G)) : Nat) : Int), Vi (j : Int), Vi (x : Int), Vi (p : Int)]) (S' := [Vi (w32 ((j : Int) * 8))]) (h' := ((SHv (y : Int) (z : Int) rd), (ovl a s b))) (fun _ => rfl) ?_
        rw [show (w32 ((j : Int) * 8)) = (8 * (j : Int)) from (by unfold w32; omega)]
        refine Ev.steps (k := 2) (pc' := 92) (L' := [Vr ((y + 44 + k : Nat) : Int), Vr 119, Vi ((nW (gS G) : Nat) : Int), Vi ((alvB (nW (gS G)) (gA G (gn G)) : Nat) : Int), Vi (j : Int), Vi (x : Int), Vi (p : Int)]) (S' := [Vi (w32 ((8 * (j : Int)) + (p : Int)))]) (h' := ((SHv (y : Int) (z : Int) rd), (ovl a s b))) (fun _ => rfl) ?_
        rw [show (w32 ((8 * (j : Int)) + (p : Int))) = ((8 * j + p : Nat) : Int) from (by unfold w32; omega)]
        refine Ev.fin (k := 1) (r := (some (Vi ((8 * j + p : Nat) : Int)))) (h' := ((SHv (y : Int) (z : Int) rd), (ovl a s b))) (fun _ => rfl) ?_
        refine hQ _ _ ⟨?_, rfl⟩
        have hc := (hxb p (by omega)).mp (Classical.not_not.mp b81)
        have hf : cFst G k = 8 * j + p := by
          unfold cFst
          refine lst_eq (decide_eq_true ?_) (fun i hi => decide_eq_false (hv i hi)) (by omega)
          rw [show (8 * j + p) % 8 = p by omega, show (8 * j + p) / 8 = j by omega]
          exact ⟨by omega, hc⟩
        rw [hf, if_pos (by omega)]
theorem c_catch_m {X : List Int} {d : Nat} {rd : Int} {a s b : C3} {y z : Nat} {G : GST} (hT : TopC G a rd y z) (k : Nat) (hk : k < nC (gS G)) (j : Nat) (z5 z6 : pm_V) (hj : j ≤ 180) (hfj : (gS G).1 9 k ≤ (j : Int)) (hv : ∀ i, i < 8 * j → ¬ cBit G k i) : Ev X (d + 4) 144 12 [Vr ((y + 44 + k : Nat) : Int), Vr 119, Vi ((nW (gS G) : Nat) : Int), Vi ((alvB (nW (gS G)) (gA G (gn G)) : Nat) : Int), Vi (j : Int), z5, z6] [] (SHv (y : Int) (z : Int) rd, ovl a s b) (fun rr hh => rr = some (Vi (if cFst G k < 8 * gn G then ((cFst G k : Nat) : Int) else -1)) ∧ hh = (SHv (y : Int) (z : Int) rd, ovl a s b)) := by
  induction hkk : (180 - j) using Nat.strongRecOn generalizing j z5 z6 with
  | ind kk ih =>
    obtain ⟨hyz, hrd, hY, hWY, hBB, hWB, hWE, hn180, ⟨e7, e6, e5, e0, hEv⟩, hTp, hfk, hfp, hCh, h156, hOwn⟩ := id hT
    have hy : hyS y := by show y = 2 ∨ y = 58; omega
    have hy0 : y = 2 ∨ y = 58 := hy
    have hW8 := hWY.2.2.1.1
    have hR8 := hWY.1.1
    have hT8 := hWY.2.2.2.1.1
    have hL30 := hWY.2.2.2.2.1.1
    have hC12 := hWY.2.2.2.2.2.1.1
    have hkn : k < nC (gS G) := hk
    obtain ⟨c0, c1, c2, c3⟩ := hY.2.2.2.2.2.2.2.2.2.1 k hk
    have hwc := hWY.2.2.2.2.2.2.2.2.2.2.1 k hk
    obtain ⟨w, hw⟩ : ∃ w : Nat, (gS G).1 7 k = (w : Int) := ⟨((gS G).1 7 k).toNat, by omega⟩
    obtain ⟨ro, hro⟩ : ∃ ro : Nat, (gS G).1 8 k = (ro : Int) := ⟨((gS G).1 8 k).toNat, by omega⟩
    obtain ⟨fr, hfr⟩ : ∃ fr : Nat, (gS G).1 9 k = (fr : Int) := ⟨((gS G).1 9 k).toNat, by omega⟩
    obtain ⟨to, hto⟩ : ∃ to : Nat, (gS G).1 10 k = (to : Int) := ⟨((gS G).1 10 k).toNat, by omega⟩
    rw [hw] at c0
    rw [hro] at c1
    rw [hfr] at c2
    rw [hto] at c3
    have hwW : w < nW (gS G) := by omega
    have hto180 : to < 180 := by omega
    have hft : fr ≤ to := by omega
    clear hwc
    have hcb := fun m q => cCat_b (G := G) (k := k) (m := m) (q := q) hw
    rw [hro] at hcb
    have hal := alvB_lt (c := gA G (gn G)) hW8
    have hNo : ((to : Int) < (j : Int) ∨ ¬ okM G (j : Int)) → (if cFst G k < 8 * gn G then ((cFst G k : Nat) : Int) else -1) = -1 := fun h => by
      rw [if_neg]
      have : cFst G k = 8 * gn G := by
        unfold cFst
        refine lst_no (fun i hi => decide_eq_false (fun hb => ?_))
        by_cases g : i < 8 * j
        · exact hv i g hb
        · obtain ⟨m1, m2, m3⟩ := hb.2.1
          rw [hto] at m2
          rcases h with h | h
          · omega
          · exact h ⟨by omega, by omega⟩
      omega
    refine Ev.steps (k := 2) (pc' := 15) (L' := [Vr ((y + 44 + k : Nat) : Int), Vr 119, Vi ((nW (gS G) : Nat) : Int), Vi ((alvB (nW (gS G)) (gA G (gn G)) : Nat) : Int), Vi (j : Int), z5, z6]) (S' := [Vr ((y + 44 + k : Nat) : Int), Vi (j : Int)]) (h' := ((SHv (y : Int) (z : Int) rd), (ovl a s b))) (fun _ => rfl) ?_
    refine Ev.getf (v := (to : Int)) rfl rfl (by omega) (shCl hy (by omega)) rfl rfl ((ovl_rc (by omega)).trans (c3)) ?_
    refine Ev.ite (P := (to : Int) < (j : Int)) (k := 1) (a := 105) (b := 21) (L' := [Vr ((y + 44 + k : Nat) : Int), Vr 119, Vi ((nW (gS G) : Nat) : Int), Vi ((alvB (nW (gS G)) (gA G (gn G)) : Nat) : Int), Vi (j : Int), z5, z6]) (S' := []) (h' := ((SHv (y : Int) (z : Int) rd), (ovl a s b))) (fun _ => rfl) (fun b18 => ?_) (fun b18 => ?_)
    · refine Ev.fin (k := 2) (r := (some (Vi (-1)))) (h' := ((SHv (y : Int) (z : Int) rd), (ovl a s b))) (fun _ => rfl) ?_
      refine ⟨?_, rfl⟩
      first | rw [hNo (by exact Or.inl (by omega))] | rw [hNo (by exact Or.inr c24)]
    · refine Ev.call (k := 2) (pc1 := 24) (L1 := [Vr ((y + 44 + k : Nat) : Int), Vr 119, Vi ((nW (gS G) : Nat) : Int), Vi ((alvB (nW (gS G)) (gA G (gn G)) : Nat) : Int), Vi (j : Int), z5, z6]) (S1 := [Vi (j : Int), Vr 119]) (h1 := ((SHv (y : Int) (z : Int) rd), (ovl a s b))) (m' := 106) (as := [Vr 119, Vi (j : Int)]) (S' := []) (L0 := [Vr 119, Vi (j : Int)]) (fun _ => rfl) rfl rfl rfl rfl rfl rfl (q_had hT (j : Int)) (fun r h' hq => ?_)
      obtain ⟨rfl, rfl⟩ := hq
      by_cases c24 : okM G (j : Int)
      · rw [if_pos c24]
        show Ev X _ _ 27 [Vr ((y + 44 + k : Nat) : Int), Vr 119, Vi ((nW (gS G) : Nat) : Int), Vi ((alvB (nW (gS G)) (gA G (gn G)) : Nat) : Int), Vi (j : Int), z5, z6] [Vi 1] ((SHv (y : Int) (z : Int) rd), (ovl a s b)) _
        refine Ev.steps (k := 3) (pc' := 32) (L' := [Vr ((y + 44 + k : Nat) : Int), Vr 119, Vi ((nW (gS G) : Nat) : Int), Vi ((alvB (nW (gS G)) (gA G (gn G)) : Nat) : Int), Vi (j : Int), z5, z6]) (S' := [Vr ((y + 44 + k : Nat) : Int), Vr 119]) (h' := ((SHv (y : Int) (z : Int) rd), (ovl a s b))) (fun _ => rfl) ?_
        refine Ev.getf (v := (w : Int)) rfl rfl (by omega) (shCl hy (by omega)) rfl rfl ((ovl_rc (by omega)).trans (c0)) ?_
        refine Ev.call (k := 1) (pc1 := 37) (L1 := [Vr ((y + 44 + k : Nat) : Int), Vr 119, Vi ((nW (gS G) : Nat) : Int), Vi ((alvB (nW (gS G)) (gA G (gn G)) : Nat) : Int), Vi (j : Int), z5, z6]) (S1 := [Vi (j : Int), Vi (w : Int), Vr 119]) (h1 := ((SHv (y : Int) (z : Int) rd), (ovl a s b))) (m' := 107) (as := [Vr 119, Vi (w : Int), Vi (j : Int)]) (S' := []) (L0 := [Vr 119, Vi (w : Int), Vi (j : Int)]) (fun _ => rfl) rfl rfl rfl rfl rfl rfl (q_roomThen hT (w : Int) (j : Int) ⟨by omega, by omega⟩ c24) (fun r h' hq => ?_)
        obtain ⟨rfl, rfl⟩ := hq
        rw [Int.toNat_natCast, Int.toNat_natCast]
        show Ev X _ _ 40 [Vr ((y + 44 + k : Nat) : Int), Vr 119, Vi ((nW (gS G) : Nat) : Int), Vi ((alvB (nW (gS G)) (gA G (gn G)) : Nat) : Int), Vi (j : Int), z5, z6] [Vi (gA G (j + 1) 0 w)] ((SHv (y : Int) (z : Int) rd), (ovl a s b)) _
        refine Ev.steps (k := 1) (pc' := 41) (L' := [Vr ((y + 44 + k : Nat) : Int), Vr 119, Vi ((nW (gS G) : Nat) : Int), Vi ((alvB (nW (gS G)) (gA G (gn G)) : Nat) : Int), Vi (j : Int), z5, z6]) (S' := [Vr ((y + 44 + k : Nat) : Int), Vi (gA G (j + 1) 0 w)]) (h' := ((SHv (y : Int) (z : Int) rd), (ovl a s b))) (fun _ => rfl) ?_
        refine Ev.getf (v := (ro : Int)) rfl rfl (by omega) (shCl hy (by omega)) rfl rfl ((ovl_rc (by omega)).trans (c1)) ?_
        refine Ev.ite (P := (gA G (j + 1) 0 w) ≠ (ro : Int)) (k := 1) (a := 51) (b := 47) (L' := [Vr ((y + 44 + k : Nat) : Int), Vr 119, Vi ((nW (gS G) : Nat) : Int), Vi ((alvB (nW (gS G)) (gA G (gn G)) : Nat) : Int), Vi (j : Int), z5, z6]) (S' := []) (h' := ((SHv (y : Int) (z : Int) rd), (ovl a s b))) (fun _ => rfl) (fun b44 => ?_) (fun b44 => ?_)
        · refine Ev.steps (k := 2) (pc' := 53) (L' := [Vr ((y + 44 + k : Nat) : Int), Vr 119, Vi ((nW (gS G) : Nat) : Int), Vi ((alvB (nW (gS G)) (gA G (gn G)) : Nat) : Int), Vi (j : Int), z5, z6]) (S' := [Vr ((y + 44 + k : Nat) : Int), Vr 119]) (h' := ((SHv (y : Int) (z : Int) rd), (ovl a s b))) (fun _ => rfl) ?_
          refine Ev.getf (v := (w : Int)) rfl rfl (by omega) (shCl hy (by omega)) rfl rfl ((ovl_rc (by omega)).trans (c0)) ?_
          refine Ev.call (k := 1) (pc1 := 58) (L1 := [Vr ((y + 44 + k : Nat) : Int), Vr 119, Vi ((nW (gS G) : Nat) : Int), Vi ((alvB (nW (gS G)) (gA G (gn G)) : Nat) : Int), Vi (j : Int), z5, z6]) (S1 := [Vi (j : Int), Vi (w : Int), Vr 119]) (h1 := ((SHv (y : Int) (z : Int) rd), (ovl a s b))) (m' := 122) (as := [Vr 119, Vi (w : Int), Vi (j : Int)]) (S' := []) (L0 := [Vr 119, Vi (w : Int), Vi (j : Int)]) (fun _ => rfl) rfl rfl rfl rfl rfl rfl (q_witnesses hT (w : Int) (j : Int) ⟨by omega, by omega⟩ c24) (fun r h' hq => ?_)
          obtain ⟨rfl, rfl⟩ := hq
          rw [Int.toNat_natCast, Int.toNat_natCast]
          have hwl := witB_lt (W := nW (gS G)) (c := gA G (j + 1)) (r := w) hW8
          show Ev X _ _ 61 [Vr ((y + 44 + k : Nat) : Int), Vr 119, Vi ((nW (gS G) : Nat) : Int), Vi ((alvB (nW (gS G)) (gA G (gn G)) : Nat) : Int), Vi (j : Int), z5, z6] [Vi ((witB (nW (gS G)) (gA G (j + 1)) w : Nat) : Int)] ((SHv (y : Int) (z : Int) rd), (ovl a s b)) _
          refine Ev.steps (k := 2) (pc' := 63) (L' := [Vr ((y + 44 + k : Nat) : Int), Vr 119, Vi ((nW (gS G) : Nat) : Int), Vi ((alvB (nW (gS G)) (gA G (gn G)) : Nat) : Int), Vi (j : Int), z5, z6]) (S' := [Vi (i_and ((witB (nW (gS G)) (gA G (j + 1)) w : Nat) : Int) ((alvB (nW (gS G)) (gA G (gn G)) : Nat) : Int))]) (h' := ((SHv (y : Int) (z : Int) rd), (ovl a s b))) (fun _ => rfl) ?_
          rw [show (i_and ((witB (nW (gS G)) (gA G (j + 1)) w : Nat) : Int) ((alvB (nW (gS G)) (gA G (gn G)) : Nat) : Int)) = ((witB (nW (gS G)) (gA G (j + 1)) w &&& alvB (nW (gS G)) (gA G (gn G)) : Nat) : Int) from (i_and_nat (by omega) (by omega))]
          refine Ev.steps (k := 3) (pc' := 68) (L' := [Vr ((y + 44 + k : Nat) : Int), Vr 119, Vi ((nW (gS G) : Nat) : Int), Vi ((alvB (nW (gS G)) (gA G (gn G)) : Nat) : Int), Vi (j : Int), Vi ((witB (nW (gS G)) (gA G (j + 1)) w &&& alvB (nW (gS G)) (gA G (gn G)) : Nat) : Int), Vi 0]) (S' := []) (h' := ((SHv (y : Int) (z : Int) rd), (ovl a s b))) (fun _ => rfl) ?_
          refine c_catch_q hT k hk j (witB (nW (gS G)) (gA G (j + 1)) w &&& alvB (nW (gS G)) (gA G (gn G))) (by have := c24.2; omega) (Nat.lt_of_le_of_lt Nat.and_le_left hwl) (fun q hq => ?_) (fun rr hh h => h) (fun hv2 => ?_) 0 (by omega) hv
          · rw [Nat.testBit_and, Bool.and_eq_true, witB_see, alvB_tb, hcb]
            refine ⟨fun h => ⟨⟨by omega, by omega, by have := c24.2; omega⟩, b44, h.2.2, h.1.2⟩, fun h => ⟨⟨hq, h.2.2.2⟩, hq, h.2.2.1⟩⟩
          · refine Ev.steps (k := 1) (pc' := 102) (L' := [Vr ((y + 44 + k : Nat) : Int), Vr 119, Vi ((nW (gS G) : Nat) : Int), Vi ((alvB (nW (gS G)) (gA G (gn G)) : Nat) : Int), Vi (w32 ((j : Int) + 1)), Vi ((witB (nW (gS G)) (gA G (j + 1)) w &&& alvB (nW (gS G)) (gA G (gn G)) : Nat) : Int), Vi ((nW (gS G) : Nat) : Int)]) (S' := []) (h' := ((SHv (y : Int) (z : Int) rd), (ovl a s b))) (fun _ => rfl) ?_
            rw [show (w32 ((j : Int) + 1)) = ((j : Int) + 1) from w32_id (by unfold R32; omega)]
            refine Ev.steps (k := 1) (pc' := 12) (L' := [Vr ((y + 44 + k : Nat) : Int), Vr 119, Vi ((nW (gS G) : Nat) : Int), Vi ((alvB (nW (gS G)) (gA G (gn G)) : Nat) : Int), Vi ((j : Int) + 1), Vi ((witB (nW (gS G)) (gA G (j + 1)) w &&& alvB (nW (gS G)) (gA G (gn G)) : Nat) : Int), Vi ((nW (gS G) : Nat) : Int)]) (S' := []) (h' := ((SHv (y : Int) (z : Int) rd), (ovl a s b))) (fun _ => rfl) ?_
            exact ih _ (by have := c24.2; omega) (j + 1) _ _ (by have := c24.2; omega) (by omega) hv2 rfl
        · refine Ev.steps (k := 5) (pc' := 68) (L' := [Vr ((y + 44 + k : Nat) : Int), Vr 119, Vi ((nW (gS G) : Nat) : Int), Vi ((alvB (nW (gS G)) (gA G (gn G)) : Nat) : Int), Vi (j : Int), Vi 0, Vi 0]) (S' := []) (h' := ((SHv (y : Int) (z : Int) rd), (ovl a s b))) (fun _ => rfl) ?_
          refine c_catch_q hT k hk j 0 (by have := c24.2; omega) (by omega) (fun q hq => ?_) (fun rr hh h => h) (fun hv2 => ?_) 0 (by omega) hv
          · rw [Nat.zero_testBit, hcb]
            exact ⟨fun h => absurd h (by decide), fun h => absurd (by omega) h.2.1⟩
          · refine Ev.steps (k := 1) (pc' := 102) (L' := [Vr ((y + 44 + k : Nat) : Int), Vr 119, Vi ((nW (gS G) : Nat) : Int), Vi ((alvB (nW (gS G)) (gA G (gn G)) : Nat) : Int), Vi (w32 ((j : Int) + 1)), Vi 0, Vi ((nW (gS G) : Nat) : Int)]) (S' := []) (h' := ((SHv (y : Int) (z : Int) rd), (ovl a s b))) (fun _ => rfl) ?_
            rw [show (w32 ((j : Int) + 1)) = ((j : Int) + 1) from w32_id (by unfold R32; omega)]
            refine Ev.steps (k := 1) (pc' := 12) (L' := [Vr ((y + 44 + k : Nat) : Int), Vr 119, Vi ((nW (gS G) : Nat) : Int), Vi ((alvB (nW (gS G)) (gA G (gn G)) : Nat) : Int), Vi ((j : Int) + 1), Vi 0, Vi ((nW (gS G) : Nat) : Int)]) (S' := []) (h' := ((SHv (y : Int) (z : Int) rd), (ovl a s b))) (fun _ => rfl) ?_
            exact ih _ (by have := c24.2; omega) (j + 1) _ _ (by have := c24.2; omega) (by omega) hv2 rfl
      · rw [if_neg c24]
        show Ev X _ _ 27 [Vr ((y + 44 + k : Nat) : Int), Vr 119, Vi ((nW (gS G) : Nat) : Int), Vi ((alvB (nW (gS G)) (gA G (gn G)) : Nat) : Int), Vi (j : Int), z5, z6] [Vi 0] ((SHv (y : Int) (z : Int) rd), (ovl a s b)) _
        refine Ev.fin (k := 3) (r := (some (Vi (-1)))) (h' := ((SHv (y : Int) (z : Int) rd), (ovl a s b))) (fun _ => rfl) ?_
        refine ⟨?_, rfl⟩
        first | rw [hNo (by exact Or.inl (by omega))] | rw [hNo (by exact Or.inr c24)]
theorem q_catching {X : List Int} {d : Nat} {rd : Int} {a s b : C3} {y z : Nat} {G : GST} (hT : TopC G a rd y z) (k : Nat) (hk : k < nC (gS G)) (hn0 : 0 < gn G) : Ev X (d + 4) 144 0 [Vr ((y + 44 + k : Nat) : Int), Vr 119, Vi ((nW (gS G) : Nat) : Int), Vx, Vx, Vx, Vx] [] (SHv (y : Int) (z : Int) rd, ovl a s b) (fun rr hh => rr = some (Vi (if cFst G k < 8 * gn G then ((cFst G k : Nat) : Int) else -1)) ∧ hh = (SHv (y : Int) (z : Int) rd, ovl a s b)) := by
  obtain ⟨hyz, hrd, hY, hWY, hBB, hWB, hWE, hn180, ⟨e7, e6, e5, e0, hEv⟩, hTp, hfk, hfp, hCh, h156, hOwn⟩ := id hT
  have hy : hyS y := by show y = 2 ∨ y = 58; omega
  have hy0 : y = 2 ∨ y = 58 := hy
  have hW8 := hWY.2.2.1.1
  have hR8 := hWY.1.1
  have hT8 := hWY.2.2.2.1.1
  have hL30 := hWY.2.2.2.2.1.1
  have hC12 := hWY.2.2.2.2.2.1.1
  have hkn : k < nC (gS G) := hk
  obtain ⟨c0, c1, c2, c3⟩ := hY.2.2.2.2.2.2.2.2.2.1 k hk
  have hwc := hWY.2.2.2.2.2.2.2.2.2.2.1 k hk
  obtain ⟨w, hw⟩ : ∃ w : Nat, (gS G).1 7 k = (w : Int) := ⟨((gS G).1 7 k).toNat, by omega⟩
  obtain ⟨ro, hro⟩ : ∃ ro : Nat, (gS G).1 8 k = (ro : Int) := ⟨((gS G).1 8 k).toNat, by omega⟩
  obtain ⟨fr, hfr⟩ : ∃ fr : Nat, (gS G).1 9 k = (fr : Int) := ⟨((gS G).1 9 k).toNat, by omega⟩
  obtain ⟨to, hto⟩ : ∃ to : Nat, (gS G).1 10 k = (to : Int) := ⟨((gS G).1 10 k).toNat, by omega⟩
  rw [hw] at c0
  rw [hro] at c1
  rw [hfr] at c2
  rw [hto] at c3
  have hwW : w < nW (gS G) := by omega
  have hto180 : to < 180 := by omega
  have hft : fr ≤ to := by omega
  clear hwc
  have hE := hEv hn0
  refine Ev.call (k := 2) (pc1 := 2) (L1 := [Vr ((y + 44 + k : Nat) : Int), Vr 119, Vi ((nW (gS G) : Nat) : Int), Vx, Vx, Vx, Vx]) (S1 := [Vi ((nW (gS G) : Nat) : Int), Vr 119]) (h1 := ((SHv (y : Int) (z : Int) rd), (ovl a s b))) (m' := 132) (as := [Vr 119, Vi ((nW (gS G) : Nat) : Int)]) (S' := []) (L0 := [Vr 119, Vi ((nW (gS G) : Nat) : Int), Vx, Vx]) (fun _ => rfl) rfl rfl rfl rfl rfl rfl (c_livingLast (u := 119) (Or.inl rfl) hE.2.2.2.2.1 hn180 hn0 hW8 e7) (fun r h' hq => ?_)
  obtain ⟨rfl, rfl⟩ := hq
  rw [show aftS (gS G) (gE G) (gn G - 1 + 1) = gA G (gn G) by rw [Nat.sub_add_cancel hn0]]
  show Ev X _ _ 5 [Vr ((y + 44 + k : Nat) : Int), Vr 119, Vi ((nW (gS G) : Nat) : Int), Vx, Vx, Vx, Vx] [Vi ((alvB (nW (gS G)) (gA G (gn G)) : Nat) : Int)] ((SHv (y : Int) (z : Int) rd), (ovl a s b)) _
  refine Ev.steps (k := 2) (pc' := 7) (L' := [Vr ((y + 44 + k : Nat) : Int), Vr 119, Vi ((nW (gS G) : Nat) : Int), Vi ((alvB (nW (gS G)) (gA G (gn G)) : Nat) : Int), Vx, Vx, Vx]) (S' := [Vr ((y + 44 + k : Nat) : Int)]) (h' := ((SHv (y : Int) (z : Int) rd), (ovl a s b))) (fun _ => rfl) ?_
  refine Ev.getf (v := (fr : Int)) rfl rfl (by omega) (shCl hy (by omega)) rfl rfl ((ovl_rc (by omega)).trans (c2)) ?_
  refine Ev.steps (k := 1) (pc' := 12) (L' := [Vr ((y + 44 + k : Nat) : Int), Vr 119, Vi ((nW (gS G) : Nat) : Int), Vi ((alvB (nW (gS G)) (gA G (gn G)) : Nat) : Int), Vi (fr : Int), Vx, Vx]) (S' := []) (h' := ((SHv (y : Int) (z : Int) rd), (ovl a s b))) (fun _ => rfl) ?_
  refine c_catch_m hT k hk fr _ _ (by omega) (by omega) (fun i hi hb => ?_)
  have := hb.2.1.1
  omega
theorem h_claim {X : List Int} {d : Nat} {rd : Int} {a s b : C3} {y z : Nat} {G : GST} (hT : TopC G a rd y z) (k : Int) : Ev X (d + 5) 142 0 [Vr 0, Vi k, Vx] [] (SHv (y : Int) (z : Int) rd, ovl a s b) (fun rr hh => rr = some (Vi (aClaim G k)) ∧ hh = (SHv (y : Int) (z : Int) rd, ovl a s b)) := by
  obtain ⟨hyz, hrd, hY, hWY, hBB, hWB, hWE, hn180, ⟨e7, e6, e5, e0, hEv⟩, hTp, hfk, hfp, hCh, h156, hOwn⟩ := id hT
  have hy : hyS y := by show y = 2 ∨ y = 58; omega
  have hy0 : y = 2 ∨ y = 58 := hy
  have hW8 := hWY.2.2.1.1
  have hR8 := hWY.1.1
  have hT8 := hWY.2.2.2.1.1
  have hL30 := hWY.2.2.2.2.1.1
  have hC12 := hWY.2.2.2.2.2.1.1
  have hcW : a (y + 1) 2 = ((nW (gS G) : Nat) : Int) := (hY.1 2 (by omega)).trans hWY.2.2.1.2
  refine Ev.call (k := 4) (pc1 := 6) (L1 := [Vr 0, Vi k, Vx]) (S1 := [Vi k, Vi 5, Vr (y : Int)]) (h1 := ((SHv (y : Int) (z : Int) rd), (ovl a s b))) (m' := 70) (as := [Vr (y : Int), Vi 5, Vi k]) (S' := []) (L0 := [Vr (y : Int), Vi 5, Vi k]) (fun _ => rfl) rfl rfl rfl rfl (stpC_of rfl (pm_recv_of (by omega) (shY_0 hy))) rfl (q_thC hT k) (fun r h' hq => ?_)
  obtain ⟨rfl, rfl⟩ := hq
  by_cases c6 : okC G k
  · rw [if_pos c6]
    show Ev X _ _ 9 [Vr 0, Vi k, Vx] [Vi 1] ((SHv (y : Int) (z : Int) rd), (ovl a s b)) _
    refine Ev.steps (k := 4) (pc' := 19) (L' := [Vr 0, Vi k, Vx]) (S' := [Vi (a 119 7)]) (h' := ((SHv (y : Int) (z : Int) rd), (ovl a s b))) (fun _ => rfl) ?_
    rw [e7]
    refine Ev.ite (P := ((gn G : Nat) : Int) ≠ 0) (k := 1) (a := 24) (b := 22) (L' := [Vr 0, Vi k, Vx]) (S' := []) (h' := ((SHv (y : Int) (z : Int) rd), (ovl a s b))) (fun _ => rfl) (fun b19 => ?_) (fun b19 => ?_)
    · obtain ⟨kk, hkk⟩ : ∃ kk : Nat, k = (kk : Int) := ⟨k.toNat, by have := c6.1; omega⟩
      have hkn : kk < nC (gS G) := by have := c6.2; omega
      have hn0 : 0 < gn G := by omega
      refine Ev.steps (k := 2) (pc' := 28) (L' := [Vr 0, Vi k, Vx]) (S' := [Vr (y : Int)]) (h' := ((SHv (y : Int) (z : Int) rd), (ovl a s b))) (fun _ => rfl) ?_
      refine Ev.getr (r := ((y : Int) + 10)) rfl rfl (by omega) (shY_0 hy) rfl rfl rfl ?_
      refine Ev.steps (k := 1) (pc' := 32) (L' := [Vr 0, Vi k, Vx]) (S' := [Vi k, Vr ((y : Int) + 10)]) (h' := ((SHv (y : Int) (z : Int) rd), (ovl a s b))) (fun _ => rfl) ?_
      refine Ev.aald (r := ((y + 44 + kk : Nat) : Int)) rfl (by omega) (shY_10 hy) rfl (by have := c6.2; omega) (by have := c6.2; omega) ((by rw [hkk]; exact clL_at kk (by have := c6.2; omega))) ?_
      refine Ev.call (k := 4) (pc1 := 39) (L1 := [Vr 0, Vi k, Vr ((y + 44 + kk : Nat) : Int)]) (S1 := [Vr 119, Vr ((y + 44 + kk : Nat) : Int)]) (h1 := ((SHv (y : Int) (z : Int) rd), (ovl a s b))) (m' := 143) (as := [Vr ((y + 44 + kk : Nat) : Int), Vr 119]) (S' := []) (L0 := [Vr ((y + 44 + kk : Nat) : Int), Vr 119, Vx]) (fun _ => rfl) rfl rfl rfl rfl (stpC_of rfl (pm_recv_of (by omega) (shCl hy (by omega)))) rfl (q_holds hT kk hkn) (fun r h' hq => ?_)
      obtain ⟨rfl, rfl⟩ := hq
      by_cases c39 : cTrue G kk
      · rw [if_pos c39]
        show Ev X _ _ 42 [Vr 0, Vi k, Vr ((y + 44 + kk : Nat) : Int)] [Vi 1] ((SHv (y : Int) (z : Int) rd), (ovl a s b)) _
        refine Ev.fin (k := 3) (r := (some (Vi 0))) (h' := ((SHv (y : Int) (z : Int) rd), (ovl a s b))) (fun _ => rfl) ?_
        refine ⟨?_, rfl⟩
        unfold aClaim
        rw [if_pos ⟨c6, hn0⟩, hkk, Int.toNat_natCast]
        first
          | rw [if_pos c39]
          | (rw [if_neg c39, ← hcf]
             first | rw [if_pos (by omega)] | rw [if_neg (by omega)])
      · rw [if_neg c39]
        show Ev X _ _ 42 [Vr 0, Vi k, Vr ((y + 44 + kk : Nat) : Int)] [Vi 0] ((SHv (y : Int) (z : Int) rd), (ovl a s b)) _
        refine Ev.steps (k := 6) (pc' := 56) (L' := [Vr 0, Vi k, Vr ((y + 44 + kk : Nat) : Int)]) (S' := [Vr (y : Int), Vr 119, Vr ((y + 44 + kk : Nat) : Int)]) (h' := ((SHv (y : Int) (z : Int) rd), (ovl a s b))) (fun _ => rfl) ?_
        refine Ev.getr (r := ((y : Int) + 1)) rfl rfl (by omega) (shY_0 hy) rfl rfl rfl ?_
        refine Ev.steps (k := 1) (pc' := 60) (L' := [Vr 0, Vi k, Vr ((y + 44 + kk : Nat) : Int)]) (S' := [Vi 2, Vr ((y : Int) + 1), Vr 119, Vr ((y + 44 + kk : Nat) : Int)]) (h' := ((SHv (y : Int) (z : Int) rd), (ovl a s b))) (fun _ => rfl) ?_
        refine Ev.iald (v := ((nW (gS G) : Nat) : Int)) rfl (by omega) (shY_1 hy) (by omega) (by omega) ((ovl_rc (by omega)).trans (hcW)) ?_
        refine Ev.call (k := 0) (pc1 := 61) (L1 := [Vr 0, Vi k, Vr ((y + 44 + kk : Nat) : Int)]) (S1 := [Vi ((nW (gS G) : Nat) : Int), Vr 119, Vr ((y + 44 + kk : Nat) : Int)]) (h1 := ((SHv (y : Int) (z : Int) rd), (ovl a s b))) (m' := 144) (as := [Vr ((y + 44 + kk : Nat) : Int), Vr 119, Vi ((nW (gS G) : Nat) : Int)]) (S' := []) (L0 := [Vr ((y + 44 + kk : Nat) : Int), Vr 119, Vi ((nW (gS G) : Nat) : Int), Vx, Vx, Vx, Vx]) (fun _ => rfl) rfl rfl rfl rfl (stpC_of rfl (pm_recv_of (by omega) (shCl hy (by omega)))) rfl (q_catching hT kk hkn hn0) (fun r h' hq => ?_)
        obtain ⟨rfl, rfl⟩ := hq
        have hcF := lst_le (fun i => decide (i % 8 < nW (gS G) ∧ cCat G kk (i / 8) (i % 8))) (8 * gn G)
        obtain ⟨cf, hcf⟩ : ∃ cf, cf = cFst G kk := ⟨_, rfl⟩
        rw [← hcf]
        obtain ⟨cv, hcv⟩ : ∃ cv, cv = (if cf < 8 * gn G then ((cf : Nat) : Int) else -1) := ⟨_, rfl⟩
        rw [← hcv]
        have hcv2 : (cf < 8 * gn G ∧ cv = (cf : Int)) ∨ (¬ cf < 8 * gn G ∧ cv = -1) := by
          rw [hcv]
          split
          · exact Or.inl ⟨by assumption, rfl⟩
          · exact Or.inr ⟨by assumption, rfl⟩
        clear hcv hcF
        show Ev X _ _ 64 [Vr 0, Vi k, Vr ((y + 44 + kk : Nat) : Int)] [Vi cv] ((SHv (y : Int) (z : Int) rd), (ovl a s b)) _
        refine Ev.ite (P := cv ≠ (-1)) (k := 2) (a := 72) (b := 68) (L' := [Vr 0, Vi k, Vr ((y + 44 + kk : Nat) : Int)]) (S' := []) (h' := ((SHv (y : Int) (z : Int) rd), (ovl a s b))) (fun _ => rfl) (fun b65 => ?_) (fun b65 => ?_)
        · refine Ev.fin (k := 2) (r := (some (Vi 2))) (h' := ((SHv (y : Int) (z : Int) rd), (ovl a s b))) (fun _ => rfl) ?_
          refine ⟨?_, rfl⟩
          unfold aClaim
          rw [if_pos ⟨c6, hn0⟩, hkk, Int.toNat_natCast]
          first
            | rw [if_pos c39]
            | (rw [if_neg c39, ← hcf]
               first | rw [if_pos (by omega)] | rw [if_neg (by omega)])
        · refine Ev.fin (k := 3) (r := (some (Vi 1))) (h' := ((SHv (y : Int) (z : Int) rd), (ovl a s b))) (fun _ => rfl) ?_
          refine ⟨?_, rfl⟩
          unfold aClaim
          rw [if_pos ⟨c6, hn0⟩, hkk, Int.toNat_natCast]
          first
            | rw [if_pos c39]
            | (rw [if_neg c39, ← hcf]
               first | rw [if_pos (by omega)] | rw [if_neg (by omega)])
    · refine Ev.fin (k := 2) (r := (some (Vi (-1)))) (h' := ((SHv (y : Int) (z : Int) rd), (ovl a s b))) (fun _ => rfl) ?_
      refine ⟨?_, rfl⟩
      unfold aClaim
      first | rw [if_neg (by exact fun h => c6 h.1)] | rw [if_neg (by exact fun h => by have := h.2; omega)]
  · rw [if_neg c6]
    show Ev X _ _ 9 [Vr 0, Vi k, Vx] [Vi 0] ((SHv (y : Int) (z : Int) rd), (ovl a s b)) _
    refine Ev.fin (k := 3) (r := (some (Vi (-1)))) (h' := ((SHv (y : Int) (z : Int) rd), (ovl a s b))) (fun _ => rfl) ?_
    refine ⟨?_, rfl⟩
    unfold aClaim
    first | rw [if_neg (by exact fun h => c6 h.1)] | rw [if_neg (by exact fun h => by have := h.2; omega)]
theorem h_caught {X : List Int} {d : Nat} {rd : Int} {a s b : C3} {y z : Nat} {G : GST} (hT : TopC G a rd y z) (k l : Int) : Ev X (d + 5) 145 0 [Vr 0, Vi k, Vi l, Vx] [] (SHv (y : Int) (z : Int) rd, ovl a s b) (fun rr hh => rr = some (Vi (aCaught G k (decide (l ≠ 0)))) ∧ hh = (SHv (y : Int) (z : Int) rd, ovl a s b)) := by
  obtain ⟨hyz, hrd, hY, hWY, hBB, hWB, hWE, hn180, ⟨e7, e6, e5, e0, hEv⟩, hTp, hfk, hfp, hCh, h156, hOwn⟩ := id hT
  have hy : hyS y := by show y = 2 ∨ y = 58; omega
  have hy0 : y = 2 ∨ y = 58 := hy
  have hW8 := hWY.2.2.1.1
  have hR8 := hWY.1.1
  have hT8 := hWY.2.2.2.1.1
  have hL30 := hWY.2.2.2.2.1.1
  have hC12 := hWY.2.2.2.2.2.1.1
  have hcW : a (y + 1) 2 = ((nW (gS G) : Nat) : Int) := (hY.1 2 (by omega)).trans hWY.2.2.1.2
  refine Ev.call (k := 4) (pc1 := 6) (L1 := [Vr 0, Vi k, Vi l, Vx]) (S1 := [Vi k, Vi 5, Vr (y : Int)]) (h1 := ((SHv (y : Int) (z : Int) rd), (ovl a s b))) (m' := 70) (as := [Vr (y : Int), Vi 5, Vi k]) (S' := []) (L0 := [Vr (y : Int), Vi 5, Vi k]) (fun _ => rfl) rfl rfl rfl rfl (stpC_of rfl (pm_recv_of (by omega) (shY_0 hy))) rfl (q_thC hT k) (fun r h' hq => ?_)
  obtain ⟨rfl, rfl⟩ := hq
  by_cases c6 : okC G k
  · rw [if_pos c6]
    show Ev X _ _ 9 [Vr 0, Vi k, Vi l, Vx] [Vi 1] ((SHv (y : Int) (z : Int) rd), (ovl a s b)) _
    refine Ev.steps (k := 4) (pc' := 19) (L' := [Vr 0, Vi k, Vi l, Vx]) (S' := [Vi (a 119 7)]) (h' := ((SHv (y : Int) (z : Int) rd), (ovl a s b))) (fun _ => rfl) ?_
    rw [e7]
    refine Ev.ite (P := ((gn G : Nat) : Int) ≠ 0) (k := 1) (a := 24) (b := 22) (L' := [Vr 0, Vi k, Vi l, Vx]) (S' := []) (h' := ((SHv (y : Int) (z : Int) rd), (ovl a s b))) (fun _ => rfl) (fun b19 => ?_) (fun b19 => ?_)
    · obtain ⟨kk, hkk⟩ : ∃ kk : Nat, k = (kk : Int) := ⟨k.toNat, by have := c6.1; omega⟩
      have hkn : kk < nC (gS G) := by have := c6.2; omega
      have hn0 : 0 < gn G := by omega
      refine Ev.steps (k := 2) (pc' := 28) (L' := [Vr 0, Vi k, Vi l, Vx]) (S' := [Vr (y : Int)]) (h' := ((SHv (y : Int) (z : Int) rd), (ovl a s b))) (fun _ => rfl) ?_
      refine Ev.getr (r := ((y : Int) + 10)) rfl rfl (by omega) (shY_0 hy) rfl rfl rfl ?_
      refine Ev.steps (k := 1) (pc' := 32) (L' := [Vr 0, Vi k, Vi l, Vx]) (S' := [Vi k, Vr ((y : Int) + 10)]) (h' := ((SHv (y : Int) (z : Int) rd), (ovl a s b))) (fun _ => rfl) ?_
      refine Ev.aald (r := ((y + 44 + kk : Nat) : Int)) rfl (by omega) (shY_10 hy) rfl (by have := c6.2; omega) (by have := c6.2; omega) ((by rw [hkk]; exact clL_at kk (by have := c6.2; omega))) ?_
      refine Ev.steps (k := 4) (pc' := 41) (L' := [Vr 0, Vi k, Vi l, Vx]) (S' := [Vr (y : Int), Vr 119, Vr ((y + 44 + kk : Nat) : Int)]) (h' := ((SHv (y : Int) (z : Int) rd), (ovl a s b))) (fun _ => rfl) ?_
      refine Ev.getr (r := ((y : Int) + 1)) rfl rfl (by omega) (shY_0 hy) rfl rfl rfl ?_
      refine Ev.steps (k := 1) (pc' := 45) (L' := [Vr 0, Vi k, Vi l, Vx]) (S' := [Vi 2, Vr ((y : Int) + 1), Vr 119, Vr ((y + 44 + kk : Nat) : Int)]) (h' := ((SHv (y : Int) (z : Int) rd), (ovl a s b))) (fun _ => rfl) ?_
      refine Ev.iald (v := ((nW (gS G) : Nat) : Int)) rfl (by omega) (shY_1 hy) (by omega) (by omega) ((ovl_rc (by omega)).trans (hcW)) ?_
      refine Ev.call (k := 0) (pc1 := 46) (L1 := [Vr 0, Vi k, Vi l, Vx]) (S1 := [Vi ((nW (gS G) : Nat) : Int), Vr 119, Vr ((y + 44 + kk : Nat) : Int)]) (h1 := ((SHv (y : Int) (z : Int) rd), (ovl a s b))) (m' := 144) (as := [Vr ((y + 44 + kk : Nat) : Int), Vr 119, Vi ((nW (gS G) : Nat) : Int)]) (S' := []) (L0 := [Vr ((y + 44 + kk : Nat) : Int), Vr 119, Vi ((nW (gS G) : Nat) : Int), Vx, Vx, Vx, Vx]) (fun _ => rfl) rfl rfl rfl rfl (stpC_of rfl (pm_recv_of (by omega) (shCl hy (by omega)))) rfl (q_catching hT kk hkn hn0) (fun r h' hq => ?_)
      obtain ⟨rfl, rfl⟩ := hq
      have hcF := lst_le (fun i => decide (i % 8 < nW (gS G) ∧ cCat G kk (i / 8) (i % 8))) (8 * gn G)
      obtain ⟨cf, hcf⟩ : ∃ cf, cf = cFst G kk := ⟨_, rfl⟩
      rw [← hcf]
      obtain ⟨cv, hcv⟩ : ∃ cv, cv = (if cf < 8 * gn G then ((cf : Nat) : Int) else -1) := ⟨_, rfl⟩
      rw [← hcv]
      have hcv2 : (cf < 8 * gn G ∧ cv = (cf : Int)) ∨ (¬ cf < 8 * gn G ∧ cv = -1) := by
        rw [hcv]
        split
        · exact Or.inl ⟨by assumption, rfl⟩
        · exact Or.inr ⟨by assumption, rfl⟩
      clear hcv hcF
      show Ev X _ _ 49 [Vr 0, Vi k, Vi l, Vx] [Vi cv] ((SHv (y : Int) (z : Int) rd), (ovl a s b)) _
      refine Ev.ite (P := cv ≠ (-1)) (k := 4) (a := 57) (b := 55) (L' := [Vr 0, Vi k, Vi l, Vi cv]) (S' := []) (h' := ((SHv (y : Int) (z : Int) rd), (ovl a s b))) (fun _ => rfl) (fun b52 => ?_) (fun b52 => ?_)
      · refine Ev.ite (P := l = 0) (k := 2) (a := 68) (b := 61) (L' := [Vr 0, Vi k, Vi l, Vi cv]) (S' := []) (h' := ((SHv (y : Int) (z : Int) rd), (ovl a s b))) (fun _ => rfl) (fun b58 => ?_) (fun b58 => ?_)
        · refine Ev.steps (k := 3) (pc' := 72) (L' := [Vr 0, Vi k, Vi l, Vi cv]) (S' := [Vi (i_div cv 8)]) (h' := ((SHv (y : Int) (z : Int) rd), (ovl a s b))) (fun _ => rfl) ?_
          rw [show (i_div cv 8) = (cv / 8) from (i_div_nn (by omega) (by omega))]
          refine Ev.fin (k := 1) (r := (some (Vi (cv / 8)))) (h' := ((SHv (y : Int) (z : Int) rd), (ovl a s b))) (fun _ => rfl) ?_
          refine ⟨?_, rfl⟩
          unfold aCaught
          rw [if_pos ⟨c6, hn0, by rw [hkk, Int.toNat_natCast, ← hcf]; omega⟩, hkk, Int.toNat_natCast, ← hcf]
          first
            | (rw [if_neg (by simp [b58])]; congr 2; omega)
            | (rw [if_pos (by simp [b58])]; congr 2; omega)
        · refine Ev.steps (k := 3) (pc' := 65) (L' := [Vr 0, Vi k, Vi l, Vi cv]) (S' := [Vi (i_rem cv 8)]) (h' := ((SHv (y : Int) (z : Int) rd), (ovl a s b))) (fun _ => rfl) ?_
          rw [show (i_rem cv 8) = (cv % 8) from (i_rem_nn (by omega) (by omega))]
          refine Ev.fin (k := 2) (r := (some (Vi (cv % 8)))) (h' := ((SHv (y : Int) (z : Int) rd), (ovl a s b))) (fun _ => rfl) ?_
          refine ⟨?_, rfl⟩
          unfold aCaught
          rw [if_pos ⟨c6, hn0, by rw [hkk, Int.toNat_natCast, ← hcf]; omega⟩, hkk, Int.toNat_natCast, ← hcf]
          first
            | (rw [if_neg (by simp [b58])]; congr 2; omega)
            | (rw [if_pos (by simp [b58])]; congr 2; omega)
      · refine Ev.fin (k := 2) (r := (some (Vi (-1)))) (h' := ((SHv (y : Int) (z : Int) rd), (ovl a s b))) (fun _ => rfl) ?_
        refine ⟨?_, rfl⟩
        unfold aCaught
        rw [if_neg]
        rintro ⟨-, -, h⟩
        rw [hkk, Int.toNat_natCast, ← hcf] at h
        omega
    · refine Ev.fin (k := 2) (r := (some (Vi (-1)))) (h' := ((SHv (y : Int) (z : Int) rd), (ovl a s b))) (fun _ => rfl) ?_
      refine ⟨?_, rfl⟩
      unfold aCaught
      first | rw [if_neg (by exact fun h => c6 h.1)] | rw [if_neg (by exact fun h => by have := h.2.1; omega)]
  · rw [if_neg c6]
    show Ev X _ _ 9 [Vr 0, Vi k, Vi l, Vx] [Vi 0] ((SHv (y : Int) (z : Int) rd), (ovl a s b)) _
    refine Ev.fin (k := 3) (r := (some (Vi (-1)))) (h' := ((SHv (y : Int) (z : Int) rd), (ovl a s b))) (fun _ => rfl) ?_
    refine ⟨?_, rfl⟩
    unfold aCaught
    first | rw [if_neg (by exact fun h => c6 h.1)] | rw [if_neg (by exact fun h => by have := h.2.1; omega)]
