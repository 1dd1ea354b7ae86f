/-! THE CLASS: a breakfast is changed; what is needed -/
theorem hk161 : hkS 161 := by show (161 : Nat) = 8 ∨ (161 : Nat) = 64 ∨ (161 : Nat) = 116 ∨ (161 : Nat) = 127 ∨ (161 : Nat) = 150 ∨ (161 : Nat) = 161; omega
theorem hk127 : hkS 127 := by show (127 : Nat) = 8 ∨ (127 : Nat) = 64 ∨ (127 : Nat) = 116 ∨ (127 : Nat) = 127 ∨ (127 : Nat) = 150 ∨ (127 : Nat) = 161; omega
theorem c_change_0 {X : List Int} {d : Nat} {st dr rd : Int} {a s b : C3} {S : STY} {B : SC} (hW8 : nW S ≤ 8) (hT8 : nT S ≤ 8) (hL30 : nL S ≤ 30) (hB : RbC S B a 127) (i : Nat) (hi : i < nL S) (ro : Int) : Ev X (d + 1) 126 0 [Vr 161, Vr 127, Vi 0, Vi (i : Int), Vi ro, Vx] [] (SHv st dr rd, ovl a s b) (fun rr hh => rr = none ∧ ∃ a' : C3, hh = (SHv st dr rd, ovl a' s b) ∧ FrO 161 163 a a' ∧ RbC S (outB B i) a' 161) := by
  refine Ev.call (k := 2) (pc1 := 2) (L1 := [Vr 161, Vr 127, Vi 0, Vi (i : Int), Vi ro, Vx]) (S1 := [Vr 127, Vr 161]) (h1 := ((SHv st dr rd), (ovl a s b))) (m' := 61) (as := [Vr 161, Vr 127]) (S' := []) (L0 := [Vr 161, Vr 127, Vx]) (fun _ => rfl) rfl rfl rfl rfl rfl rfl (c_copy (k := 161) hk161 (j := 127) hk127 (by decide)) (fun r h' hq => ?_)
  obtain ⟨rfl, a1, rfl, g1, g2, g3, g4⟩ := hq
  have hB1 : RbC S B a1 161 := hB.cp hW8 hT8 g2 g3 g4
  obtain ⟨b0, b1, b2, b3, xo, hxo, hxa, hxb⟩ := id hB1
  show Ev X _ _ 5 [Vr 161, Vr 127, Vi 0, Vi (i : Int), Vi ro, Vx] [] ((SHv st dr rd), (ovl a1 s b)) _
  refine Ev.call (k := 5) (pc1 := 12) (L1 := [Vr 161, Vr 127, Vi 0, Vi (i : Int), Vi ro, Vx]) (S1 := [Vi 1, Vi (i : Int), Vr 161]) (h1 := ((SHv st dr rd), (ovl a1 s b))) (m' := 74) (as := [Vr 161, Vi (i : Int), Vi 1]) (S' := []) (L0 := [Vr 161, Vi (i : Int), Vi 1]) (fun _ => rfl) rfl rfl rfl rfl rfl rfl (c_leave (k := 161) hk161 i (by omega) xo hxo hxa 1) (fun r h' hq => ?_)
  obtain ⟨rfl, zz, z1, rfl, z2⟩ := hq
  show Ev X _ _ 15 [Vr 161, Vr 127, Vi 0, Vi (i : Int), Vi ro, Vx] [] ((SHv st dr rd), (ovl (updC a1 161 2 (zz : Int)) s b)) _
  refine Ev.fin (k := 2) (r := none) (h' := ((SHv st dr rd), (ovl (updC a1 161 2 (zz : Int)) s b))) (fun _ => rfl) ?_
  refine ⟨rfl, _, rfl, g1.up (by omega), fun q hq => ?_, fun i hi => ?_, fun t ht => ?_, fun i hi => ?_, zz, z1, ?_, fun r hr => ?_⟩
  · rw [updC_row (by omega)]; exact b0 q hq
  · rw [updC_row (by omega)]; exact b1 i hi
  · rw [updC_row (by omega)]; exact b2 t ht
  · rw [updC_row (by omega)]; exact b3 i hi
  · rw [updC_sm]
  · unfold outB
    rw [z2 r, updC_if]
    split
    · exact ⟨fun _ => by omega, fun _ => by omega⟩
    · exact hxb r hr
theorem c_change_1 {X : List Int} {d : Nat} {st dr rd : Int} {a s b : C3} {S : STY} {B : SC} (hW8 : nW S ≤ 8) (hT8 : nT S ≤ 8) (hL30 : nL S ≤ 30) (hB : RbC S B a 127) (i r : Nat) (hi : i < nW S) (hr : r < 8) : Ev X (d + 1) 126 0 [Vr 161, Vr 127, Vi 1, Vi (i : Int), Vi (r : Int), Vx] [] (SHv st dr rd, ovl a s b) (fun rr hh => rr = none ∧ ∃ a' : C3, hh = (SHv st dr rd, ovl a' s b) ∧ FrO 161 163 a a' ∧ RbC S (updC B 0 i (r : Int)) a' 161) := by
  refine Ev.call (k := 2) (pc1 := 2) (L1 := [Vr 161, Vr 127, Vi 1, Vi (i : Int), Vi (r : Int), Vx]) (S1 := [Vr 127, Vr 161]) (h1 := ((SHv st dr rd), (ovl a s b))) (m' := 61) (as := [Vr 161, Vr 127]) (S' := []) (L0 := [Vr 161, Vr 127, Vx]) (fun _ => rfl) rfl rfl rfl rfl rfl rfl (c_copy (k := 161) hk161 (j := 127) hk127 (by decide)) (fun r h' hq => ?_)
  obtain ⟨rfl, a1, rfl, g1, g2, g3, g4⟩ := hq
  have hB1 : RbC S B a1 161 := hB.cp hW8 hT8 g2 g3 g4
  obtain ⟨b0, b1, b2, b3, xo, hxo, hxa, hxb⟩ := id hB1
  show Ev X _ _ 5 [Vr 161, Vr 127, Vi 1, Vi (i : Int), Vi (r : Int), Vx] [] ((SHv st dr rd), (ovl a1 s b)) _
  refine Ev.ite (P := (i : Int) < 0) (k := 4) (a := 52) (b := 22) (L' := [Vr 161, Vr 127, Vi 1, Vi (i : Int), Vi (r : Int), Vx]) (S' := []) (h' := ((SHv st dr rd), (ovl a1 s b))) (fun _ => rfl) (fun b19 => ?_) (fun b19 => ?_)
  · exfalso; omega
  · refine Ev.ite (P := 8 ≤ (i : Int)) (k := 3) (a := 52) (b := 28) (L' := [Vr 161, Vr 127, Vi 1, Vi (i : Int), Vi (r : Int), Vx]) (S' := []) (h' := ((SHv st dr rd), (ovl a1 s b))) (fun _ => rfl) (fun b25 => ?_) (fun b25 => ?_)
    · exfalso; omega
    · refine Ev.steps (k := 10) (pc' := 51) (L' := [Vr 161, Vr 127, Vi 1, Vi (i : Int), Vi (r : Int), Vr 162]) (S' := [Vi (r : Int), Vi (i : Int), Vr 162]) (h' := ((SHv st dr rd), (ovl a1 s b))) (fun _ => rfl) ?_
      refine Ev.iast (c' := (ovl (updC a1 162 i (r : Int)) s b)) rfl (by decide) rfl (by omega) (by omega) (ovl_wc (by decide)) ?_
      refine Ev.fin (k := 1) (r := none) (h' := ((SHv st dr rd), (ovl (updC a1 162 i (r : Int)) s b))) (fun _ => rfl) ?_
      refine ⟨rfl, _, rfl, g1.up (by omega), fun q hq => ?_, fun i hi => ?_, fun t ht => ?_, fun i hi => ?_, ?_⟩
      · rw [updC_if, updC_if]
        split
        · rfl
        · exact b0 q hq
      · rw [updC_if]
        split
        · omega
        · exact b1 i hi
      · rw [updC_row (by omega)]; exact b2 t ht
      · rw [updC_row (by omega)]; exact b3 i hi
      · rw [updC_row (by omega)]; exact ⟨xo, hxo, hxa, hxb⟩
theorem c_change_2 {X : List Int} {d : Nat} {st dr rd : Int} {a s b : C3} {S : STY} {B : SC} (hW8 : nW S ≤ 8) (hT8 : nT S ≤ 8) (hL30 : nL S ≤ 30) (hB : RbC S B a 127) (i r : Nat) (hi : i < nT S) (hr : r < 8) : Ev X (d + 1) 126 0 [Vr 161, Vr 127, Vi 2, Vi (i : Int), Vi (r : Int), Vx] [] (SHv st dr rd, ovl a s b) (fun rr hh => rr = none ∧ ∃ a' : C3, hh = (SHv st dr rd, ovl a' s b) ∧ FrO 161 163 a a' ∧ RbC S (updC B 1 i (r : Int)) a' 161) := by
  refine Ev.call (k := 2) (pc1 := 2) (L1 := [Vr 161, Vr 127, Vi 2, Vi (i : Int), Vi (r : Int), Vx]) (S1 := [Vr 127, Vr 161]) (h1 := ((SHv st dr rd), (ovl a s b))) (m' := 61) (as := [Vr 161, Vr 127]) (S' := []) (L0 := [Vr 161, Vr 127, Vx]) (fun _ => rfl) rfl rfl rfl rfl rfl rfl (c_copy (k := 161) hk161 (j := 127) hk127 (by decide)) (fun r h' hq => ?_)
  obtain ⟨rfl, a1, rfl, g1, g2, g3, g4⟩ := hq
  have hB1 : RbC S B a1 161 := hB.cp hW8 hT8 g2 g3 g4
  obtain ⟨b0, b1, b2, b3, xo, hxo, hxa, hxb⟩ := id hB1
  show Ev X _ _ 5 [Vr 161, Vr 127, Vi 2, Vi (i : Int), Vi (r : Int), Vx] [] ((SHv st dr rd), (ovl a1 s b)) _
  refine Ev.ite (P := (i : Int) < 0) (k := 4) (a := 52) (b := 22) (L' := [Vr 161, Vr 127, Vi 2, Vi (i : Int), Vi (r : Int), Vx]) (S' := []) (h' := ((SHv st dr rd), (ovl a1 s b))) (fun _ => rfl) (fun b19 => ?_) (fun b19 => ?_)
  · exfalso; omega
  · refine Ev.ite (P := 8 ≤ (i : Int)) (k := 3) (a := 52) (b := 28) (L' := [Vr 161, Vr 127, Vi 2, Vi (i : Int), Vi (r : Int), Vx]) (S' := []) (h' := ((SHv st dr rd), (ovl a1 s b))) (fun _ => rfl) (fun b25 => ?_) (fun b25 => ?_)
    · exfalso; omega
    · refine Ev.steps (k := 9) (pc' := 51) (L' := [Vr 161, Vr 127, Vi 2, Vi (i : Int), Vi (r : Int), Vr 163]) (S' := [Vi (r : Int), Vi (i : Int), Vr 163]) (h' := ((SHv st dr rd), (ovl a1 s b))) (fun _ => rfl) ?_
      refine Ev.iast (c' := (ovl (updC a1 163 i (r : Int)) s b)) rfl (by decide) rfl (by omega) (by omega) (ovl_wc (by decide)) ?_
      refine Ev.fin (k := 1) (r := none) (h' := ((SHv st dr rd), (ovl (updC a1 163 i (r : Int)) s b))) (fun _ => rfl) ?_
      refine ⟨rfl, _, rfl, g1.up (by omega), fun q hq => ?_, fun i hi => ?_, fun t ht => ?_, fun i hi => ?_, ?_⟩
      · rw [updC_row (by omega)]; exact b0 q hq
      · rw [updC_row (by omega)]; exact b1 i hi
      · rw [updC_if, updC_if]
        split
        · rfl
        · exact b2 t ht
      · rw [updC_if]
        split
        · omega
        · exact b3 i hi
      · rw [updC_row (by omega)]; exact ⟨xo, hxo, hxa, hxb⟩
theorem c_hasDeed_l {X : List Int} {d : Nat} {st dr rd : Int} {a s b : C3} {u : Nat} (hu : huS u) {c : SC} (x y : Int) (hD : DdC c a u) (n9 : Nat) (h9 : c 9 0 = (n9 : Int)) (hn9 : n9 ≤ 8) (i : Nat) (hi : i ≤ n9) (hv : ∀ j, j < i → ¬ (c 8 (6 * j) = x ∧ c 8 (6 * j + 1) = y)) : Ev X (d + 1) 127 2 [Vr (u : Int), Vi x, Vi y, Vi (i : Int)] [] (SHv st dr rd, ovl a s b) (fun rr hh => rr = some (Vi (if ∃ j, j < n9 ∧ c 8 (6 * j) = x ∧ c 8 (6 * j + 1) = y then 1 else 0)) ∧ hh = (SHv st dr rd, ovl a s b)) := by
  induction hkk : (n9 - i) using Nat.strongRecOn generalizing i with
  | ind kk ih =>
    have hu0 : u = 119 ∨ u = 142 := hu
    have h6 := hD.1.trans h9
    have hd : i < n9 → a (u + 13) (6 * i) = c 8 (6 * i) ∧ a (u + 13) (6 * i + 1) = c 8 (6 * i + 1) := fun h => ⟨hD.2 _ (by rw [h9]; omega), hD.2 _ (by rw [h9]; omega)⟩
    refine Ev.steps (k := 2) (pc' := 4) (L' := [Vr (u : Int), Vi x, Vi y, Vi (i : Int)]) (S' := [Vr (u : Int), Vi (i : Int)]) (h' := ((SHv st dr rd), (ovl a s b))) (fun _ => rfl) ?_
    refine Ev.getf (v := (n9 : Int)) rfl rfl (by omega) (shU_0 hu) rfl rfl ((ovl_rc (by omega)).trans (h6)) ?_
    refine Ev.ite (P := (n9 : Int) ≤ (i : Int)) (k := 1) (a := 38) (b := 10) (L' := [Vr (u : Int), Vi x, Vi y, Vi (i : Int)]) (S' := []) (h' := ((SHv st dr rd), (ovl a s b))) (fun _ => rfl) (fun b7 => ?_) (fun b7 => ?_)
    · refine Ev.fin (k := 2) (r := (some (Vi 0))) (h' := ((SHv st dr rd), (ovl a s b))) (fun _ => rfl) ?_
      refine ⟨?_, rfl⟩
      rw [if_neg]
      rintro ⟨j, j1, j2⟩
      exact hv j (by omega) j2
    · obtain ⟨hd0, hd1⟩ := hd (by omega)
      refine Ev.call (k := 3) (pc1 := 13) (L1 := [Vr (u : Int), Vi x, Vi y, Vi (i : Int)]) (S1 := [Vi 0, Vi (i : Int), Vr (u : Int)]) (h1 := ((SHv st dr rd), (ovl a s b))) (m' := 118) (as := [Vr (u : Int), Vi (i : Int), Vi 0]) (S' := []) (L0 := [Vr (u : Int), Vi (i : Int), Vi 0, Vx]) (fun _ => rfl) rfl rfl rfl rfl (stpC_of rfl (pm_recv_of (by omega) (shU_0 hu))) rfl (c_deedPart hu i 0 (by omega) (by omega)) (fun r h' hq => ?_)
      obtain ⟨rfl, rfl⟩ := hq
      rw [show a (u + 13) (6 * i + 0) = c 8 (6 * i) from hd0]
      show Ev X _ _ 16 [Vr (u : Int), Vi x, Vi y, Vi (i : Int)] [Vi (c 8 (6 * i))] ((SHv st dr rd), (ovl a s b)) _
      refine Ev.ite (P := (c 8 (6 * i)) ≠ x) (k := 2) (a := 32) (b := 20) (L' := [Vr (u : Int), Vi x, Vi y, Vi (i : Int)]) (S' := []) (h' := ((SHv st dr rd), (ovl a s b))) (fun _ => rfl) (fun b17 => ?_) (fun b17 => ?_)
      · refine Ev.steps (k := 1) (pc' := 35) (L' := [Vr (u : Int), Vi x, Vi y, Vi (w32 ((i : Int) + 1))]) (S' := []) (h' := ((SHv st dr rd), (ovl a s b))) (fun _ => rfl) ?_
        rw [show (w32 ((i : Int) + 1)) = ((i : Int) + 1) from w32_id (by unfold R32; omega)]
        refine Ev.steps (k := 1) (pc' := 2) (L' := [Vr (u : Int), Vi x, Vi y, Vi ((i : Int) + 1)]) (S' := []) (h' := ((SHv st dr rd), (ovl a s b))) (fun _ => rfl) ?_
        refine ih _ (by omega) (i + 1) (by omega) (fun j hj hc => ?_) rfl
        by_cases g : j = i
        · subst g
          have h1 := hc.1
          have h2 := hc.2
          omega
        · exact hv j (by omega) hc
      · refine Ev.call (k := 3) (pc1 := 23) (L1 := [Vr (u : Int), Vi x, Vi y, Vi (i : Int)]) (S1 := [Vi 1, Vi (i : Int), Vr (u : Int)]) (h1 := ((SHv st dr rd), (ovl a s b))) (m' := 118) (as := [Vr (u : Int), Vi (i : Int), Vi 1]) (S' := []) (L0 := [Vr (u : Int), Vi (i : Int), Vi 1, Vx]) (fun _ => rfl) rfl rfl rfl rfl (stpC_of rfl (pm_recv_of (by omega) (shU_0 hu))) rfl (c_deedPart hu i 1 (by omega) (by omega)) (fun r h' hq => ?_)
        obtain ⟨rfl, rfl⟩ := hq
        rw [hd1]
        show Ev X _ _ 26 [Vr (u : Int), Vi x, Vi y, Vi (i : Int)] [Vi (c 8 (6 * i + 1))] ((SHv st dr rd), (ovl a s b)) _
        refine Ev.ite (P := (c 8 (6 * i + 1)) ≠ y) (k := 2) (a := 32) (b := 30) (L' := [Vr (u : Int), Vi x, Vi y, Vi (i : Int)]) (S' := []) (h' := ((SHv st dr rd), (ovl a s b))) (fun _ => rfl) (fun b27 => ?_) (fun b27 => ?_)
        · refine Ev.steps (k := 1) (pc' := 35) (L' := [Vr (u : Int), Vi x, Vi y, Vi (w32 ((i : Int) + 1))]) (S' := []) (h' := ((SHv st dr rd), (ovl a s b))) (fun _ => rfl) ?_
          rw [show (w32 ((i : Int) + 1)) = ((i : Int) + 1) from w32_id (by unfold R32; omega)]
          refine Ev.steps (k := 1) (pc' := 2) (L' := [Vr (u : Int), Vi x, Vi y, Vi ((i : Int) + 1)]) (S' := []) (h' := ((SHv st dr rd), (ovl a s b))) (fun _ => rfl) ?_
          refine ih _ (by omega) (i + 1) (by omega) (fun j hj hc => ?_) rfl
          by_cases g : j = i
          · subst g
            have h1 := hc.1
            have h2 := hc.2
            omega
          · exact hv j (by omega) hc
        · refine Ev.fin (k := 2) (r := (some (Vi 1))) (h' := ((SHv st dr rd), (ovl a s b))) (fun _ => rfl) ?_
          refine ⟨?_, rfl⟩
          rw [if_pos ⟨i, by omega, by omega, by omega⟩]
theorem c_hasDeed {X : List Int} {d : Nat} {st dr rd : Int} {a s b : C3} {u : Nat} (hu : huS u) {c : SC} (x y : Int) (hD : DdC c a u) (n9 : Nat) (h9 : c 9 0 = (n9 : Int)) (hn9 : n9 ≤ 8) : Ev X (d + 1) 127 0 [Vr (u : Int), Vi x, Vi y, Vx] [] (SHv st dr rd, ovl a s b) (fun rr hh => rr = some (Vi (if ∃ j, j < n9 ∧ c 8 (6 * j) = x ∧ c 8 (6 * j + 1) = y then 1 else 0)) ∧ hh = (SHv st dr rd, ovl a s b)) := by
  refine Ev.steps (k := 2) (pc' := 2) (L' := [Vr (u : Int), Vi x, Vi y, Vi 0]) (S' := []) (h' := ((SHv st dr rd), (ovl a s b))) (fun _ => rfl) ?_
  exact c_hasDeed_l hu x y hD n9 h9 hn9 0 (by omega) (fun j h => absurd h (by omega))
theorem outB_wf2 {S : STY} {B : SC} {r : Nat} (h : WfB S B) : WfB S (outB B r) := ⟨h.1, h.2.1, fun q hq => by
  unfold outB
  rw [updC_if]
  split
  · exact Or.inr rfl
  · exact h.2.2 q hq⟩
theorem TopC.ch {G : GST} {a a' : SC} {rd : Int} {y z : Nat} (h : TopC G a rd y z) (hf : ∀ o, o < 142 ∨ 163 < o → a' o = a o) (h156 : a' 156 0 = 0) : TopC G a' rd y z := by
  obtain ⟨hyz, hrd, hY, hWY, hBB, hWB, hWE, hn180, hE, hTp, hfk, hfp, hCh, -, hOwn⟩ := h
  have hL30 := hWY.2.2.2.2.1.1
  have hC12 := hWY.2.2.2.2.2.1.1
  refine ⟨hyz, hrd, hY.fr (fun o g1 g2 => hf o (by omega)) hL30 hC12, hWY, hBB.fr (fun o g1 g2 => hf o (by omega)), hWB, hWE, hn180, hE.fr (fun o g1 g2 => hf o (by omega)), ?_, ?_, ?_, ?_, h156, ?_⟩
  · rw [hf 0 (by omega), hf 1 (by omega)]; exact hTp
  · rw [hf 114 (by omega)]; exact hfk
  · rw [hf 114 (by omega)]; exact hfp
  · unfold ChC at hCh ⊢
    rw [hf 141 (by omega), hf 164 (by omega), hf 165 (by omega)]; exact hCh
  · unfold OwnC
    rw [hf 115 (by omega)]; exact hOwn
theorem q_killsWithout {X : List Int} {d : Nat} {rd : Int} {a s b : C3} {y z : Nat} {G : GST} (hT : TopC G a rd y z) (r k : Nat) (hr : r < nL (gS G)) (hn0 : 0 < gn G) (hk8 : k < 8) (hk : (k : Int) < gA G (gn G) 9 0) : Ev X (d + 6) 125 0 [Vr 141, Vr (y : Int), Vr 119, Vi (r : Int), Vi (k : Int)] [] (SHv (y : Int) (z : Int) rd, ovl a s b) (fun rr hh => rr = some (Vi (if ∃ i, i < (aftS (gS G) (outB (gE G) r) (gn G) 9 0).toNat ∧ aftS (gS G) (outB (gE G) r) (gn G) 8 (6 * i) = gA G (gn G) 8 (6 * k) ∧ aftS (gS G) (outB (gE G) r) (gn G) 8 (6 * i + 1) = gA G (gn G) 8 (6 * k + 1) then 1 else 0)) ∧ ∃ a' : C3, hh = (SHv (y : Int) (z : Int) rd, ovl a' s b) ∧ TopC G a' rd y z) := by
  obtain ⟨hyz, hrd, hY, hWY, hBB, hWB, hWE, hn180, ⟨e7, e6, e5, e0, hEv⟩, hTp, hfk, hfp, hCh, h156, hOwn⟩ := id hT
  have hy : hyS y := by show y = 2 ∨ y = 58; omega
  have hy0 : y = 2 ∨ y = 58 := hy
  have hW8 := hWY.2.2.1.1
  have hR8 := hWY.1.1
  have hT8 := hWY.2.2.2.1.1
  have hL30 := hWY.2.2.2.2.1.1
  have hC12 := hWY.2.2.2.2.2.1.1
  have hE := hEv hn0
  have hB127 : RbC (gS G) (gE G) a 127 := hE.2.2.2.2.2
  have hdd0 := hE.2.2.1.2 (6 * k) (by show 6 * k < 6 * (gA G (gn G) 9 0).toNat; omega)
  have hdd1 := hE.2.2.1.2 (6 * k + 1) (by show 6 * k + 1 < 6 * (gA G (gn G) 9 0).toNat; omega)
  clear hk
  refine Ev.call (k := 7) (pc1 := 11) (L1 := [Vr 141, Vr (y : Int), Vr 119, Vi (r : Int), Vi (k : Int)]) (S1 := [Vi (-1), Vi (r : Int), Vi 0, Vr 127, Vr 161]) (h1 := ((SHv (y : Int) (z : Int) rd), (ovl a s b))) (m' := 126) (as := [Vr 161, Vr 127, Vi 0, Vi (r : Int), Vi (-1)]) (S' := []) (L0 := [Vr 161, Vr 127, Vi 0, Vi (r : Int), Vi (-1), Vx]) (fun _ => rfl) rfl rfl rfl rfl rfl rfl (c_change_0 hW8 hT8 hL30 hB127 r hr (-1)) (fun r h' hq => ?_)
  obtain ⟨rfl, a1, rfl, f1, f2⟩ := hq
  show Ev X _ _ 14 [Vr 141, Vr (y : Int), Vr 119, Vi (r : Int), Vi (k : Int)] [] ((SHv (y : Int) (z : Int) rd), (ovl a1 s b)) _
  refine Ev.steps (k := 7) (pc' := 27) (L' := [Vr 141, Vr (y : Int), Vr 119, Vi (r : Int), Vi (k : Int)]) (S' := [Vi (a1 119 7), Vr 161, Vr (y : Int), Vr 142]) (h' := ((SHv (y : Int) (z : Int) rd), (ovl a1 s b))) (fun _ => rfl) ?_
  rw [(show a1 119 7 = ((gn G : Nat) : Int) by rw [f1 119 (by omega)]; exact e7)]
  refine Ev.call (k := 1) (pc1 := 29) (L1 := [Vr 141, Vr (y : Int), Vr 119, Vi (r : Int), Vi (k : Int)]) (S1 := [Vi 8, Vi ((gn G : Nat) : Int), Vr 161, Vr (y : Int), Vr 142]) (h1 := ((SHv (y : Int) (z : Int) rd), (ovl a1 s b))) (m' := 77) (as := [Vr 142, Vr (y : Int), Vr 161, Vi ((gn G : Nat) : Int), Vi 8]) (S' := []) (L0 := [Vr 142, Vr (y : Int), Vr 161, Vi ((gn G : Nat) : Int), Vi 8, Vx, Vx, Vx]) (fun _ => rfl) rfl rfl rfl rfl rfl rfl (c_pass (u := 142) (Or.inr rfl) hy 161 (gn G) 8 hWY (outB_wf2 hWE) hn180 (Or.inr rfl) (hY.fr (fun o g1 g2 => f1 o (by omega)) hL30 hC12) f2 (fun h => absurd h (by omega)) (fun _ => by rw [f1 156 (by omega)]; exact h156)) (fun r h' hq => ?_)
  obtain ⟨rfl, a2, rfl, p1, -, p2⟩ := hq
  have hwfn := fun j (hj : j ≤ 180) => (aftS_wf hWY (outB_wf2 (r := r) hWE) j hj).1.2.2.2.2.2.2.2
  have hT2 : EvF (gS G) (outB (gE G) r) a2 142 (gn G) := by
    rcases p2 with p2 | ⟨j, j1, j2, j3⟩
    · exact p2
    · exfalso
      have := (hwfn j (by omega)).2
      omega
  obtain ⟨n9, hn9⟩ : ∃ n9 : Nat, aftS (gS G) (outB (gE G) r) (gn G) 9 0 = (n9 : Int) := ⟨(aftS (gS G) (outB (gE G) r) (gn G) 9 0).toNat, (Int.toNat_of_nonneg (hwfn (gn G) hn180).1).symm⟩
  have hn98 : n9 ≤ 8 := by
    have := (hwfn (gn G) hn180).2
    rw [hn9] at this
    omega
  clear p2 hwfn
  have d0 : a2 132 (6 * k) = gA G (gn G) 8 (6 * k) := by rw [p1 132 (by omega), f1 132 (by omega)]; exact hdd0
  have d1 : a2 132 (6 * k + 1) = gA G (gn G) 8 (6 * k + 1) := by rw [p1 132 (by omega), f1 132 (by omega)]; exact hdd1
  show Ev X _ _ 32 [Vr 141, Vr (y : Int), Vr 119, Vi (r : Int), Vi (k : Int)] [] ((SHv (y : Int) (z : Int) rd), (ovl a2 s b)) _
  refine Ev.call (k := 5) (pc1 := 40) (L1 := [Vr 141, Vr (y : Int), Vr 119, Vi (r : Int), Vi (k : Int)]) (S1 := [Vi 0, Vi (k : Int), Vr 119, Vr 142]) (h1 := ((SHv (y : Int) (z : Int) rd), (ovl a2 s b))) (m' := 118) (as := [Vr 119, Vi (k : Int), Vi 0]) (S' := [Vr 142]) (L0 := [Vr 119, Vi (k : Int), Vi 0, Vx]) (fun _ => rfl) rfl rfl rfl rfl rfl rfl (c_deedPart (u := 119) (Or.inl rfl) k 0 hk8 (by omega)) (fun r h' hq => ?_)
  obtain ⟨rfl, rfl⟩ := hq
  rw [show a2 (119 + 13) (6 * k + 0) = gA G (gn G) 8 (6 * k) from d0]
  show Ev X _ _ 43 [Vr 141, Vr (y : Int), Vr 119, Vi (r : Int), Vi (k : Int)] [Vi (gA G (gn G) 8 (6 * k)), Vr 142] ((SHv (y : Int) (z : Int) rd), (ovl a2 s b)) _
  refine Ev.call (k := 3) (pc1 := 47) (L1 := [Vr 141, Vr (y : Int), Vr 119, Vi (r : Int), Vi (k : Int)]) (S1 := [Vi 1, Vi (k : Int), Vr 119, Vi (gA G (gn G) 8 (6 * k)), Vr 142]) (h1 := ((SHv (y : Int) (z : Int) rd), (ovl a2 s b))) (m' := 118) (as := [Vr 119, Vi (k : Int), Vi 1]) (S' := [Vi (gA G (gn G) 8 (6 * k)), Vr 142]) (L0 := [Vr 119, Vi (k : Int), Vi 1, Vx]) (fun _ => rfl) rfl rfl rfl rfl rfl rfl (c_deedPart (u := 119) (Or.inl rfl) k 1 hk8 (by omega)) (fun r h' hq => ?_)
  obtain ⟨rfl, rfl⟩ := hq
  rw [show a2 (119 + 13) (6 * k + 1) = gA G (gn G) 8 (6 * k + 1) from d1]
  show Ev X _ _ 50 [Vr 141, Vr (y : Int), Vr 119, Vi (r : Int), Vi (k : Int)] [Vi (gA G (gn G) 8 (6 * k + 1)), Vi (gA G (gn G) 8 (6 * k)), Vr 142] ((SHv (y : Int) (z : Int) rd), (ovl a2 s b)) _
  refine Ev.call (k := 0) (pc1 := 50) (L1 := [Vr 141, Vr (y : Int), Vr 119, Vi (r : Int), Vi (k : Int)]) (S1 := [Vi (gA G (gn G) 8 (6 * k + 1)), Vi (gA G (gn G) 8 (6 * k)), Vr 142]) (h1 := ((SHv (y : Int) (z : Int) rd), (ovl a2 s b))) (m' := 127) (as := [Vr 142, Vi (gA G (gn G) 8 (6 * k)), Vi (gA G (gn G) 8 (6 * k + 1))]) (S' := []) (L0 := [Vr 142, Vi (gA G (gn G) 8 (6 * k)), Vi (gA G (gn G) 8 (6 * k + 1)), Vx]) (fun _ => rfl) rfl rfl rfl rfl rfl rfl (c_hasDeed (u := 142) (Or.inr rfl) (gA G (gn G) 8 (6 * k)) (gA G (gn G) 8 (6 * k + 1)) hT2.2.2.1 n9 hn9 hn98) (fun r h' hq => ?_)
  obtain ⟨rfl, rfl⟩ := hq
  rw [show n9 = (aftS (gS G) (outB (gE G) r) (gn G) 9 0).toNat by rw [hn9, Int.toNat_natCast]]
  obtain ⟨hv, hhv⟩ : ∃ hv : Int, hv = (if ∃ i, i < (aftS (gS G) (outB (gE G) r) (gn G) 9 0).toNat ∧ aftS (gS G) (outB (gE G) r) (gn G) 8 (6 * i) = gA G (gn G) 8 (6 * k) ∧ aftS (gS G) (outB (gE G) r) (gn G) 8 (6 * i + 1) = gA G (gn G) 8 (6 * k + 1) then 1 else 0) := ⟨_, rfl⟩
  rw [← hhv]
  have hv01 : hv = 0 ∨ hv = 1 := by
    rw [hhv]
    split
    · exact Or.inr rfl
    · exact Or.inl rfl
  show Ev X _ _ 53 [Vr 141, Vr (y : Int), Vr 119, Vi (r : Int), Vi (k : Int)] [Vi hv] ((SHv (y : Int) (z : Int) rd), (ovl a2 s b)) _
  refine Ev.fin (k := 1) (r := (some (Vi hv))) (h' := ((SHv (y : Int) (z : Int) rd), (ovl a2 s b))) (fun _ => Ev_retz rfl (by omega)) ?_
  refine ⟨rfl, a2, rfl, hT.ch (fun o ho => by rw [p1 o (by omega), f1 o (by omega)]) (hT2.2.2.2.1.2 rfl)⟩
theorem h_needed {X : List Int} {d : Nat} {rd : Int} {a s b : C3} {y z : Nat} {G : GST} (hT : TopC G a rd y z) (x q : Int) : Ev X (d + 7) 124 0 [Vr 0, Vi x, Vi q] [] (SHv (y : Int) (z : Int) rd, ovl a s b) (fun rr hh => rr = some (Vi (aNeeded G x q)) ∧ ∃ a' : C3, hh = (SHv (y : Int) (z : Int) rd, ovl a' s b) ∧ TopC G a' rd y z) := by
  obtain ⟨hyz, hrd, hY, hWY, hBB, hWB, hWE, hn180, ⟨e7, e6, e5, e0, hEv⟩, hTp, hfk, hfp, hCh, h156, hOwn⟩ := id hT
  have hy : hyS y := by show y = 2 ∨ y = 58; omega
  have hy0 : y = 2 ∨ y = 58 := hy
  have hW8 := hWY.2.2.1.1
  have hR8 := hWY.1.1
  have hT8 := hWY.2.2.2.1.1
  have hL30 := hWY.2.2.2.2.1.1
  have hC12 := hWY.2.2.2.2.2.1.1
  have hk9 : gA G (gn G) 9 0 ≤ 8 := (aftS_wf hWY hWE (gn G) hn180).1.2.2.2.2.2.2.2.2
  have hz : gn G = 0 → gA G (gn G) 9 0 = 0 := fun h => by rw [h]; rfl
  refine Ev.call (k := 4) (pc1 := 6) (L1 := [Vr 0, Vi x, Vi q]) (S1 := [Vi x, Vi 4, Vr (y : Int)]) (h1 := ((SHv (y : Int) (z : Int) rd), (ovl a s b))) (m' := 70) (as := [Vr (y : Int), Vi 4, Vi x]) (S' := []) (L0 := [Vr (y : Int), Vi 4, Vi x]) (fun _ => rfl) rfl rfl rfl rfl (stpC_of rfl (pm_recv_of (by omega) (shY_0 hy))) rfl (q_thL hT x) (fun r h' hq => ?_)
  obtain ⟨rfl, rfl⟩ := hq
  by_cases c6 : okRl G x
  · rw [if_pos c6]
    show Ev X _ _ 9 [Vr 0, Vi x, Vi q] [Vi 1] ((SHv (y : Int) (z : Int) rd), (ovl a s b)) _
    refine Ev.ite (P := q < 0) (k := 3) (a := 27) (b := 16) (L' := [Vr 0, Vi x, Vi q]) (S' := []) (h' := ((SHv (y : Int) (z : Int) rd), (ovl a s b))) (fun _ => rfl) (fun b13 => ?_) (fun b13 => ?_)
    · refine Ev.fin (k := 2) (r := (some (Vi (-1)))) (h' := ((SHv (y : Int) (z : Int) rd), (ovl a s b))) (fun _ => rfl) ?_
      unfold aNeeded
      refine ⟨?_, a, rfl, hT⟩
      first | rw [if_neg (by exact fun h => c6 h.1)] | rw [if_neg (by exact fun h => by have := h.2; omega)]
    · refine Ev.steps (k := 4) (pc' := 24) (L' := [Vr 0, Vi x, Vi q]) (S' := [Vi (a 119 6), Vi q]) (h' := ((SHv (y : Int) (z : Int) rd), (ovl a s b))) (fun _ => rfl) ?_
      rw [e6]
      refine Ev.ite (P := q < (gA G (gn G) 9 0)) (k := 1) (a := 29) (b := 27) (L' := [Vr 0, Vi x, Vi q]) (S' := []) (h' := ((SHv (y : Int) (z : Int) rd), (ovl a s b))) (fun _ => rfl) (fun b24 => ?_) (fun b24 => ?_)
      · obtain ⟨r, hr0⟩ : ∃ r : Nat, x = (r : Int) := ⟨x.toNat, by have := c6.1; omega⟩
        have hr : r < nL (gS G) := by have := c6.2; omega
        obtain ⟨k, hk0⟩ : ∃ k : Nat, q = (k : Int) := ⟨q.toNat, by omega⟩
        have hn0 : 0 < gn G := by
          by_cases h : gn G = 0
          · have := hz h
            omega
          · omega
        have hk : (k : Int) < gA G (gn G) 9 0 := by omega
        refine Ev.call (k := 8) (pc1 := 43) (L1 := [Vr 0, Vi x, Vi q]) (S1 := [Vi q, Vi x, Vr 119, Vr (y : Int), Vr 141]) (h1 := ((SHv (y : Int) (z : Int) rd), (ovl a s b))) (m' := 125) (as := [Vr 141, Vr (y : Int), Vr 119, Vi x, Vi q]) (S' := []) (L0 := [Vr 141, Vr (y : Int), Vr 119, Vi x, Vi q]) (fun _ => rfl) rfl rfl rfl rfl rfl rfl ((by rw [hr0, hk0]; exact q_killsWithout hT r k hr hn0 (by omega) hk)) (fun r h' hq => ?_)
        obtain ⟨rfl, a1, rfl, hT1⟩ := hq
        by_cases c43 : ∃ i, i < (aftS (gS G) (outB (gE G) r) (gn G) 9 0).toNat ∧ aftS (gS G) (outB (gE G) r) (gn G) 8 (6 * i) = gA G (gn G) 8 (6 * k) ∧ aftS (gS G) (outB (gE G) r) (gn G) 8 (6 * i + 1) = gA G (gn G) 8 (6 * k + 1)
        · rw [if_pos c43]
          show Ev X _ _ 46 [Vr 0, Vi x, Vi q] [Vi 1] ((SHv (y : Int) (z : Int) rd), (ovl a1 s b)) _
          refine Ev.fin (k := 4) (r := (some (Vi 0))) (h' := ((SHv (y : Int) (z : Int) rd), (ovl a1 s b))) (fun _ => rfl) ?_
          unfold aNeeded
          refine ⟨?_, a1, rfl, hT1⟩
          rw [if_pos ⟨c6, by omega⟩, hr0, hk0, Int.toNat_natCast, Int.toNat_natCast]
          first | rw [if_pos c43] | rw [if_neg c43]
        · rw [if_neg c43]
          show Ev X _ _ 46 [Vr 0, Vi x, Vi q] [Vi 0] ((SHv (y : Int) (z : Int) rd), (ovl a1 s b)) _
          refine Ev.fin (k := 3) (r := (some (Vi 1))) (h' := ((SHv (y : Int) (z : Int) rd), (ovl a1 s b))) (fun _ => rfl) ?_
          unfold aNeeded
          refine ⟨?_, a1, rfl, hT1⟩
          rw [if_pos ⟨c6, by omega⟩, hr0, hk0, Int.toNat_natCast, Int.toNat_natCast]
          first | rw [if_pos c43] | rw [if_neg c43]
      · refine Ev.fin (k := 2) (r := (some (Vi (-1)))) (h' := ((SHv (y : Int) (z : Int) rd), (ovl a s b))) (fun _ => rfl) ?_
        unfold aNeeded
        refine ⟨?_, a, rfl, hT⟩
        first | rw [if_neg (by exact fun h => c6 h.1)] | rw [if_neg (by exact fun h => by have := h.2; omega)]
  · rw [if_neg c6]
    show Ev X _ _ 9 [Vr 0, Vi x, Vi q] [Vi 0] ((SHv (y : Int) (z : Int) rd), (ovl a s b)) _
    refine Ev.fin (k := 3) (r := (some (Vi (-1)))) (h' := ((SHv (y : Int) (z : Int) rd), (ovl a s b))) (fun _ => rfl) ?_
    unfold aNeeded
    refine ⟨?_, a, rfl, hT⟩
    first | rw [if_neg (by exact fun h => c6 h.1)] | rw [if_neg (by exact fun h => by have := h.2; omega)]
