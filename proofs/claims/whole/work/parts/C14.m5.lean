/-! THE CLASS: an evening is opened; who learns at a minute's end -/
theorem bts_s {f : Nat → Bool} {n : Nat} : bts f (n + 1) = bts f n + if f n = true then 2 ^ n else 0 := rfl
theorem alvB_ini {W : Nat} {B : SC} : ∀ n, bts (fun p => decide (iniS B 1 p ≠ 0)) n = 2 ^ n - 1
  | 0 => rfl
  | n + 1 => by
    rw [bts_s, alvB_ini (W := W) n, if_pos (decide_eq_true (show iniS B 1 n ≠ 0 by show (1 : Int) ≠ 0; omega)), pw2]
    have := Nat.one_le_two_pow (n := n)
    omega
theorem unwB_ini {B : SC} : unwB (iniS B) = 0 := by
  apply nat_bits
  intro k
  rw [unwB_tb, Nat.zero_testBit]
  exact ⟨fun h => by obtain ⟨-, i, h1, -⟩ := h; exact absurd h1 (by show ¬ i < (0 : Int).toNat; omega), fun h => absurd h (by decide)⟩
theorem c_open_1 {X : List Int} {d : Nat} {st dr rd : Int} {a s b : C3} {u : Nat} (hu : huS u) {k : Nat} (hk : hkS k) (W : Nat) {a0 : C3} {Q : Option pm_V → pm_H → Prop} (K : ∀ a2 : C3, FrO (u + 2) (u + 3) a0 a2 → (∀ i, i < 8 → a2 (u + 2) i = a0 (k + 1) i ∧ a2 (u + 3) i = a0 (k + 2) i) → Ev X (d + 1) 78 81 [Vr ((u : Int) + 1), Vr (k : Int), Vi (W : Int), Vi 8] [] (SHv st dr rd, ovl a2 s b) Q) (i : Nat) (hi : i ≤ 8) (hf : FrO (u + 2) (u + 3) a0 a) (hv : ∀ j, j < i → a (u + 2) j = a0 (k + 1) j ∧ a (u + 3) j = a0 (k + 2) j) : Ev X (d + 1) 78 45 [Vr ((u : Int) + 1), Vr (k : Int), Vi (W : Int), Vi (i : Int)] [] (SHv st dr rd, ovl a s b) (Q) := by
  induction hw : (8 - i) using Nat.strongRecOn generalizing i a with
  | ind w ih =>
    have hu0 : u = 119 ∨ u = 142 := hu
    have hk0 : k = 8 ∨ k = 64 ∨ k = 116 ∨ k = 127 ∨ k = 150 ∨ k = 161 := hk
    refine Ev.ite (P := 8 ≤ (i : Int)) (k := 3) (a := 81) (b := 51) (L' := [Vr ((u : Int) + 1), Vr (k : Int), Vi (W : Int), Vi (i : Int)]) (S' := []) (h' := ((SHv st dr rd), (ovl a s b))) (fun _ => rfl) (fun b48 => ?_) (fun b48 => ?_)
    · obtain rfl : i = 8 := by omega
      exact K a hf hv
    · refine Ev.steps (k := 1) (pc' := 52) (L' := [Vr ((u : Int) + 1), Vr (k : Int), Vi (W : Int), Vi (i : Int)]) (S' := [Vr ((u : Int) + 1)]) (h' := ((SHv st dr rd), (ovl a s b))) (fun _ => rfl) ?_
      refine Ev.getr (r := ((u : Int) + 2)) rfl rfl (by omega) (shU_1 hu) rfl rfl rfl ?_
      refine Ev.steps (k := 2) (pc' := 57) (L' := [Vr ((u : Int) + 1), Vr (k : Int), Vi (W : Int), Vi (i : Int)]) (S' := [Vr (k : Int), Vi (i : Int), Vr ((u : Int) + 2)]) (h' := ((SHv st dr rd), (ovl a s b))) (fun _ => rfl) ?_
      refine Ev.getr (r := ((k : Int) + 1)) rfl rfl (by omega) (shK_0 hk) rfl rfl rfl ?_
      refine Ev.steps (k := 1) (pc' := 61) (L' := [Vr ((u : Int) + 1), Vr (k : Int), Vi (W : Int), Vi (i : Int)]) (S' := [Vi (i : Int), Vr ((k : Int) + 1), Vi (i : Int), Vr ((u : Int) + 2)]) (h' := ((SHv st dr rd), (ovl a s b))) (fun _ => rfl) ?_
      refine Ev.iald (v := (a (k + 1) i)) rfl (by omega) (shK_1 hk) (by omega) (by omega) (ovl_rc (by omega)) ?_
      refine Ev.iast (c' := (ovl (updC a (u + 2) i (a (k + 1) i)) s b)) rfl (by omega) (shU_2 hu) (by omega) (by omega) (ovl_wc (by omega)) ?_
      refine Ev.steps (k := 1) (pc' := 64) (L' := [Vr ((u : Int) + 1), Vr (k : Int), Vi (W : Int), Vi (i : Int)]) (S' := [Vr ((u : Int) + 1)]) (h' := ((SHv st dr rd), (ovl (updC a (u + 2) i (a (k + 1) i)) s b))) (fun _ => rfl) ?_
      refine Ev.getr (r := ((u : Int) + 3)) rfl rfl (by omega) (shU_1 hu) rfl rfl rfl ?_
      refine Ev.steps (k := 2) (pc' := 69) (L' := [Vr ((u : Int) + 1), Vr (k : Int), Vi (W : Int), Vi (i : Int)]) (S' := [Vr (k : Int), Vi (i : Int), Vr ((u : Int) + 3)]) (h' := ((SHv st dr rd), (ovl (updC a (u + 2) i (a (k + 1) i)) s b))) (fun _ => rfl) ?_
      refine Ev.getr (r := ((k : Int) + 2)) rfl rfl (by omega) (shK_0 hk) rfl rfl rfl ?_
      refine Ev.steps (k := 1) (pc' := 73) (L' := [Vr ((u : Int) + 1), Vr (k : Int), Vi (W : Int), Vi (i : Int)]) (S' := [Vi (i : Int), Vr ((k : Int) + 2), Vi (i : Int), Vr ((u : Int) + 3)]) (h' := ((SHv st dr rd), (ovl (updC a (u + 2) i (a (k + 1) i)) s b))) (fun _ => rfl) ?_
      refine Ev.iald (v := (a (k + 2) i)) rfl (by omega) (shK_2 hk) (by omega) (by omega) ((ovl_rc (by omega)).trans (by show (updC a (u + 2) i (a (k + 1) i)) (k + 2) i = _; rw [updC_nt (by omega)])) ?_
      refine Ev.iast (c' := (ovl (updC (updC a (u + 2) i (a (k + 1) i)) (u + 3) i (a (k + 2) i)) s b)) rfl (by omega) (shU_3 hu) (by omega) (by omega) (ovl_wc (by omega)) ?_
      refine Ev.steps (k := 1) (pc' := 78) (L' := [Vr ((u : Int) + 1), Vr (k : Int), Vi (W : Int), Vi (w32 ((i : Int) + 1))]) (S' := []) (h' := ((SHv st dr rd), (ovl (updC (updC a (u + 2) i (a (k + 1) i)) (u + 3) i (a (k + 2) i)) s b))) (fun _ => rfl) ?_
      rw [show (w32 ((i : Int) + 1)) = ((i : Int) + 1) from w32_id (by unfold R32; omega)]
      refine Ev.steps (k := 1) (pc' := 45) (L' := [Vr ((u : Int) + 1), Vr (k : Int), Vi (W : Int), Vi ((i : Int) + 1)]) (S' := []) (h' := ((SHv st dr rd), (ovl (updC (updC a (u + 2) i (a (k + 1) i)) (u + 3) i (a (k + 2) i)) s b))) (fun _ => rfl) ?_
      refine ih _ (by omega) (a := (updC (updC a (u + 2) i (a (k + 1) i)) (u + 3) i (a (k + 2) i))) (i + 1) (by omega) ((hf.up (by omega)).up (by omega)) (fun j hj => ?_) rfl
      have e1 := hf (k + 1) (by omega)
      have e2 := hf (k + 2) (by omega)
      by_cases g : j = i
      · rw [g, updC_nt (by omega), updC_sm, updC_sm, e1, e2]
        exact ⟨rfl, rfl⟩
      · rw [updC_nt (by omega), updC_nt (by omega), updC_nt (by omega), updC_nt (by omega)]
        exact hv j (by omega)
theorem c_open_2 {X : List Int} {d : Nat} {st dr rd : Int} {a s b : C3} {u : Nat} (hu : huS u) {k : Nat} (hk : hkS k) (W : Nat) (hW : W ≤ 8) {a0 : C3} {Q : Option pm_V → pm_H → Prop} (r8 : ∀ q, q < W → 0 ≤ a0 (u + 2) q ∧ a0 (u + 2) q < 8) (K : ∀ a2 : C3, FrO (u + 5) (u + 5) a0 a2 → (∀ r, r < 8 → a2 (u + 5) r = ((bts (fun q => decide (a0 (u + 2) q = (r : Int))) W : Nat) : Int)) → Q none (SHv st dr rd, ovl a2 s b)) (p : Nat) (hp : p ≤ W) (hf : FrO (u + 5) (u + 5) a0 a) (hv : ∀ r, r < 8 → a (u + 5) r = ((bts (fun q => decide (a0 (u + 2) q = (r : Int))) p : Nat) : Int)) : Ev X (d + 1) 78 83 [Vr ((u : Int) + 1), Vr (k : Int), Vi (W : Int), Vi (p : Int)] [] (SHv st dr rd, ovl a s b) (Q) := by
  induction hw : (W - p) using Nat.strongRecOn generalizing p a with
  | ind w ih =>
    have hu0 : u = 119 ∨ u = 142 := hu
    have hk0 : k = 8 ∨ k = 64 ∨ k = 116 ∨ k = 127 ∨ k = 150 ∨ k = 161 := hk
    have hb2 := fun r => bts_lt (fun q => decide (a0 (u + 2) q = ((r : Nat) : Int))) p
    have hp2 : 2 ^ p ≤ 2 ^ 8 := Nat.pow_le_pow_right (by omega) (by omega)
    have hrx : p < W → ∃ x : Nat, a0 (u + 2) p = (x : Int) ∧ x < 8 := fun h => ⟨(a0 (u + 2) p).toNat, by have := r8 p h; omega, by have := r8 p h; omega⟩
    refine Ev.ite (P := (W : Int) ≤ (p : Int)) (k := 3) (a := 111) (b := 88) (L' := [Vr ((u : Int) + 1), Vr (k : Int), Vi (W : Int), Vi (p : Int)]) (S' := []) (h' := ((SHv st dr rd), (ovl a s b))) (fun _ => rfl) (fun b85 => ?_) (fun b85 => ?_)
    · refine Ev.fin (k := 1) (r := none) (h' := ((SHv st dr rd), (ovl a s b))) (fun _ => rfl) ?_
      obtain rfl : p = W := by omega
      exact K a hf hv
    · obtain ⟨x, hx, hx8⟩ := hrx (by omega)
      have hx2 : a (u + 2) p = (x : Int) := by rw [hf (u + 2) (by omega)]; exact hx
      have hvx := hv x hx8
      have hbx := hb2 x
      refine Ev.steps (k := 1) (pc' := 89) (L' := [Vr ((u : Int) + 1), Vr (k : Int), Vi (W : Int), Vi (p : Int)]) (S' := [Vr ((u : Int) + 1)]) (h' := ((SHv st dr rd), (ovl a s b))) (fun _ => rfl) ?_
      refine Ev.getr (r := ((u : Int) + 5)) rfl rfl (by omega) (shU_1 hu) rfl rfl rfl ?_
      refine Ev.steps (k := 1) (pc' := 93) (L' := [Vr ((u : Int) + 1), Vr (k : Int), Vi (W : Int), Vi (p : Int)]) (S' := [Vr ((u : Int) + 1), Vr ((u : Int) + 5)]) (h' := ((SHv st dr rd), (ovl a s b))) (fun _ => rfl) ?_
      refine Ev.getr (r := ((u : Int) + 2)) rfl rfl (by omega) (shU_1 hu) rfl rfl rfl ?_
      refine Ev.steps (k := 1) (pc' := 97) (L' := [Vr ((u : Int) + 1), Vr (k : Int), Vi (W : Int), Vi (p : Int)]) (S' := [Vi (p : Int), Vr ((u : Int) + 2), Vr ((u : Int) + 5)]) (h' := ((SHv st dr rd), (ovl a s b))) (fun _ => rfl) ?_
      refine Ev.iald (v := (x : Int)) rfl (by omega) (shU_2 hu) (by omega) (by omega) ((ovl_rc (by omega)).trans (hx2)) ?_
      refine Ev.steps (k := 1) (pc' := 99) (L' := [Vr ((u : Int) + 1), Vr (k : Int), Vi (W : Int), Vi (p : Int)]) (S' := [Vi (x : Int), Vr ((u : Int) + 5), Vi (x : Int), Vr ((u : Int) + 5)]) (h' := ((SHv st dr rd), (ovl a s b))) (fun _ => rfl) ?_
      refine Ev.iald (v := ((bts (fun q => decide (a0 (u + 2) q = (x : Int))) p : Nat) : Int)) rfl (by omega) (shU_5 hu) (by omega) (by omega) ((ovl_rc (by omega)).trans (hvx)) ?_
      refine Ev.steps (k := 4) (pc' := 104) (L' := [Vr ((u : Int) + 1), Vr (k : Int), Vi (W : Int), Vi (p : Int)]) (S' := [Vi (i_or ((bts (fun q => decide (a0 (u + 2) q = (x : Int))) p : Nat) : Int) (i_shl 1 (p : Int))), Vi (x : Int), Vr ((u : Int) + 5)]) (h' := ((SHv st dr rd), (ovl a s b))) (fun _ => rfl) ?_
      refine Ev.iast (c' := (ovl (updC a (u + 5) x (i_or ((bts (fun q => decide (a0 (u + 2) q = (x : Int))) p : Nat) : Int) (i_shl 1 (p : Int)))) s b)) rfl (by omega) (shU_5 hu) (by omega) (by omega) (ovl_wc (by omega)) ?_
      refine Ev.steps (k := 1) (pc' := 108) (L' := [Vr ((u : Int) + 1), Vr (k : Int), Vi (W : Int), Vi (w32 ((p : Int) + 1))]) (S' := []) (h' := ((SHv st dr rd), (ovl (updC a (u + 5) x (i_or ((bts (fun q => decide (a0 (u + 2) q = (x : Int))) p : Nat) : Int) (i_shl 1 (p : Int)))) s b))) (fun _ => rfl) ?_
      rw [show (w32 ((p : Int) + 1)) = ((p : Int) + 1) from w32_id (by unfold R32; omega)]
      refine Ev.steps (k := 1) (pc' := 83) (L' := [Vr ((u : Int) + 1), Vr (k : Int), Vi (W : Int), Vi ((p : Int) + 1)]) (S' := []) (h' := ((SHv st dr rd), (ovl (updC a (u + 5) x (i_or ((bts (fun q => decide (a0 (u + 2) q = (x : Int))) p : Nat) : Int) (i_shl 1 (p : Int)))) s b))) (fun _ => rfl) ?_
      refine ih _ (by omega) (a := (updC a (u + 5) x (i_or ((bts (fun q => decide (a0 (u + 2) q = (x : Int))) p : Nat) : Int) (i_shl 1 (p : Int))))) (p + 1) (by omega) (hf.up (by omega)) (fun r hr => ?_) rfl
      rw [updC_if, bts_s]
      by_cases g : r = x
      · rw [if_pos g, if_pos (by exact decide_eq_true (by rw [hx, g])), g, i_shl1 (by omega), i_or_nat (by omega) (by omega), Nat.or_two_pow_eq_add_of_lt hbx]
      · rw [if_neg g, if_neg (by exact fun h => g (by have := of_decide_eq_true h; omega)), Nat.add_zero]
        exact hv r hr
theorem c_open {X : List Int} {d : Nat} {st dr rd : Int} {a s b : C3} {u : Nat} (hu : huS u) {k : Nat} (hk : hkS k) {S : STY} {B : SC} (hWY : WfY S) (hWB : WfB S B) (hB : RbC S B a k) : Ev X (d + 1) 78 0 [Vr ((u : Int) + 1), Vr (k : Int), Vi ((nW S : Nat) : Int), Vx] [] (SHv st dr rd, ovl a s b) (fun rr hh => rr = none ∧ ∃ a' : C3, hh = (SHv st dr rd, ovl a' s b) ∧ RsC S (iniS B) a' u ∧ FrO (u + 1) (u + 7) a a') := by
  have hu0 : u = 119 ∨ u = 142 := hu
  have hk0 : k = 8 ∨ k = 64 ∨ k = 116 ∨ k = 127 ∨ k = 150 ∨ k = 161 := hk
  have hW8 := hWY.2.2.1.1
  have hR8 := hWY.1.1
  have hT8 := hWY.2.2.2.1.1
  obtain ⟨B0, B1, B2, B3, B4⟩ := hB
  have hpw : 2 ^ nW S ≤ 2 ^ 8 := Nat.pow_le_pow_right (by omega) hW8
  have hpo := Nat.one_le_two_pow (n := nW S)
  refine Ev.steps (k := 2) (pc' := 2) (L' := [Vr ((u : Int) + 1), Vr (k : Int), Vi ((nW S : Nat) : Int), Vx]) (S' := [Vi 0, Vr ((u : Int) + 1)]) (h' := ((SHv st dr rd), (ovl a s b))) (fun _ => rfl) ?_
  refine Ev.putf (c' := (ovl (updC a (u + 1) 6 0) s b)) rfl (by omega) (shU_1 hu) rfl rfl (ovl_wc (by omega)) ?_
  refine Ev.steps (k := 6) (pc' := 11) (L' := [Vr ((u : Int) + 1), Vr (k : Int), Vi ((nW S : Nat) : Int), Vx]) (S' := [Vi (w32 ((i_shl 1 ((nW S : Nat) : Int)) - 1)), Vr ((u : Int) + 1)]) (h' := ((SHv st dr rd), (ovl (updC a (u + 1) 6 0) s b))) (fun _ => rfl) ?_
  rw [show (w32 ((i_shl 1 ((nW S : Nat) : Int)) - 1)) = ((2 ^ nW S - 1 : Nat) : Int) from (by rw [i_shl1 (by omega)]; unfold w32; omega)]
  refine Ev.putf (c' := (ovl (updC (updC a (u + 1) 6 0) (u + 1) 7 ((2 ^ nW S - 1 : Nat) : Int)) s b)) rfl (by omega) (shU_1 hu) rfl rfl (ovl_wc (by omega)) ?_
  refine Ev.steps (k := 2) (pc' := 16) (L' := [Vr ((u : Int) + 1), Vr (k : Int), Vi ((nW S : Nat) : Int), Vx]) (S' := [Vi 0, Vr ((u : Int) + 1)]) (h' := ((SHv st dr rd), (ovl (updC (updC a (u + 1) 6 0) (u + 1) 7 ((2 ^ nW S - 1 : Nat) : Int)) s b))) (fun _ => rfl) ?_
  refine Ev.putf (c' := (ovl (updC (updC (updC a (u + 1) 6 0) (u + 1) 7 ((2 ^ nW S - 1 : Nat) : Int)) (u + 1) 8 0) s b)) rfl (by omega) (shU_1 hu) rfl rfl (ovl_wc (by omega)) ?_
  refine Ev.steps (k := 1) (pc' := 20) (L' := [Vr ((u : Int) + 1), Vr (k : Int), Vi ((nW S : Nat) : Int), Vx]) (S' := [Vr ((u : Int) + 1)]) (h' := ((SHv st dr rd), (ovl (updC (updC (updC a (u + 1) 6 0) (u + 1) 7 ((2 ^ nW S - 1 : Nat) : Int)) (u + 1) 8 0) s b))) (fun _ => rfl) ?_
  refine Ev.getr (r := ((u : Int) + 5)) rfl rfl (by omega) (shU_1 hu) rfl rfl rfl ?_
  refine Ev.call (k := 1) (pc1 := 24) (L1 := [Vr ((u : Int) + 1), Vr (k : Int), Vi ((nW S : Nat) : Int), Vx]) (S1 := [Vi 0, Vr ((u : Int) + 5)]) (h1 := ((SHv st dr rd), (ovl (updC (updC (updC a (u + 1) 6 0) (u + 1) 7 ((2 ^ nW S - 1 : Nat) : Int)) (u + 1) 8 0) s b))) (m' := 25) (as := [Vr ((u : Int) + 5), Vi 0]) (S' := []) (L0 := [Vr ((u : Int) + 5), Vi 0, Vx, Vx]) (fun _ => rfl) rfl rfl rfl rfl rfl rfl (c_fill (u + 5) 8 (by omega) (shU_5 hu) (0) (by omega)) (fun r h' hq => ?_)
  obtain ⟨rfl, f1, rfl, g1, w1⟩ := hq
  show Ev X _ _ 27 [Vr ((u : Int) + 1), Vr (k : Int), Vi ((nW S : Nat) : Int), Vx] [] ((SHv st dr rd), (ovl f1 s b)) _
  refine Ev.steps (k := 1) (pc' := 28) (L' := [Vr ((u : Int) + 1), Vr (k : Int), Vi ((nW S : Nat) : Int), Vx]) (S' := [Vr ((u : Int) + 1)]) (h' := ((SHv st dr rd), (ovl f1 s b))) (fun _ => rfl) ?_
  refine Ev.getr (r := ((u : Int) + 4)) rfl rfl (by omega) (shU_1 hu) rfl rfl rfl ?_
  refine Ev.call (k := 1) (pc1 := 32) (L1 := [Vr ((u : Int) + 1), Vr (k : Int), Vi ((nW S : Nat) : Int), Vx]) (S1 := [Vi 0, Vr ((u : Int) + 4)]) (h1 := ((SHv st dr rd), (ovl f1 s b))) (m' := 25) (as := [Vr ((u : Int) + 4), Vi 0]) (S' := []) (L0 := [Vr ((u : Int) + 4), Vi 0, Vx, Vx]) (fun _ => rfl) rfl rfl rfl rfl rfl rfl (c_fill (u + 4) 8 (by omega) (shU_4 hu) (0) (by omega)) (fun r h' hq => ?_)
  obtain ⟨rfl, f2, rfl, g2, w2⟩ := hq
  show Ev X _ _ 35 [Vr ((u : Int) + 1), Vr (k : Int), Vi ((nW S : Nat) : Int), Vx] [] ((SHv st dr rd), (ovl f2 s b)) _
  refine Ev.steps (k := 1) (pc' := 36) (L' := [Vr ((u : Int) + 1), Vr (k : Int), Vi ((nW S : Nat) : Int), Vx]) (S' := [Vr ((u : Int) + 1)]) (h' := ((SHv st dr rd), (ovl f2 s b))) (fun _ => rfl) ?_
  refine Ev.getr (r := ((u : Int) + 6)) rfl rfl (by omega) (shU_1 hu) rfl rfl rfl ?_
  refine Ev.call (k := 1) (pc1 := 40) (L1 := [Vr ((u : Int) + 1), Vr (k : Int), Vi ((nW S : Nat) : Int), Vx]) (S1 := [Vi (-1), Vr ((u : Int) + 6)]) (h1 := ((SHv st dr rd), (ovl f2 s b))) (m' := 25) (as := [Vr ((u : Int) + 6), Vi (-1)]) (S' := []) (L0 := [Vr ((u : Int) + 6), Vi (-1), Vx, Vx]) (fun _ => rfl) rfl rfl rfl rfl rfl rfl (c_fill (u + 6) 64 (by omega) (shU_6 hu) (-1) (by omega)) (fun r h' hq => ?_)
  obtain ⟨rfl, f3, rfl, g3, w3⟩ := hq
  show Ev X _ _ 43 [Vr ((u : Int) + 1), Vr (k : Int), Vi ((nW S : Nat) : Int), Vx] [] ((SHv st dr rd), (ovl f3 s b)) _
  refine Ev.steps (k := 2) (pc' := 45) (L' := [Vr ((u : Int) + 1), Vr (k : Int), Vi ((nW S : Nat) : Int), Vi 0]) (S' := []) (h' := ((SHv st dr rd), (ovl f3 s b))) (fun _ => rfl) ?_
  have E : ∀ o, o < u + 1 ∨ u + 7 < o → f3 o = a o := fun o ho => by
    rw [g3 o (by omega), g2 o (by omega), g1 o (by omega), updC_row (by omega), updC_row (by omega), updC_row (by omega)]
  have e6 : f3 (u + 1) 6 = 0 := by
    rw [g3 (u + 1) (by omega), g2 (u + 1) (by omega), g1 (u + 1) (by omega), updC_nt (by omega), updC_nt (by omega), updC_sm]
  have e7 : f3 (u + 1) 7 = ((2 ^ nW S - 1 : Nat) : Int) := by
    rw [g3 (u + 1) (by omega), g2 (u + 1) (by omega), g1 (u + 1) (by omega), updC_nt (by omega), updC_sm]
  have e8 : f3 (u + 1) 8 = 0 := by
    rw [g3 (u + 1) (by omega), g2 (u + 1) (by omega), g1 (u + 1) (by omega), updC_sm]
  have e5 : ∀ j, j < 8 → f3 (u + 5) j = 0 := fun j hj => by
    rw [g3 (u + 5) (by omega), g2 (u + 5) (by omega)]
    exact w1 j hj
  have e4 : ∀ j, j < 8 → f3 (u + 4) j = 0 := fun j hj => by
    rw [g3 (u + 4) (by omega)]
    exact w2 j hj
  refine c_open_1 hu hk (nW S) (a0 := f3) (fun a2 k1 k2 => ?_) 0 (by omega) FrO.rf (fun j h => absurd h (by omega))
  have hk1 := E (k + 1) (by omega)
  have hk2 := E (k + 2) (by omega)
  have z2 : ∀ i, i < 8 → a2 (u + 2) i = a (k + 1) i := fun i hi => by rw [(k2 i hi).1, hk1]
  have z3 : ∀ i, i < 8 → a2 (u + 3) i = a (k + 2) i := fun i hi => by rw [(k2 i hi).2, hk2]
  refine Ev.steps (k := 2) (pc' := 83) (L' := [Vr ((u : Int) + 1), Vr (k : Int), Vi ((nW S : Nat) : Int), Vi 0]) (S' := []) (h' := ((SHv st dr rd), (ovl a2 s b))) (fun _ => rfl) ?_
  refine c_open_2 hu hk (nW S) hW8 (a0 := a2) (fun q hq => by rw [z2 q (by omega)]; exact B1 q (by omega)) (fun a3 k3 k4 => ?_) 0 (by omega) FrO.rf (fun r hr => by rw [k1 (u + 5) (by omega)]; exact e5 r hr)
  refine ⟨rfl, a3, rfl, ⟨fun p hp => ?_, fun i hi => ?_, fun t ht => ?_, fun i hi => ?_, fun t ht ht8 => ?_, fun p hp => ?_, fun r hr => ?_, fun p o hp ho => ?_, ?_, ?_, ?_⟩, fun o ho => ?_⟩
  · rw [k3 (u + 2) (by omega), z2 p (by omega)]
    exact B0 p hp
  · rw [k3 (u + 2) (by omega), z2 i hi]
    exact B1 i hi
  · rw [k3 (u + 3) (by omega), z3 t (by omega), B2 t ht]
    show B 1 t = plc (B 1 t)
    have := B3 t (by omega)
    rw [B2 t ht] at this
    unfold plc
    rw [if_pos (by omega)]
  · rw [k3 (u + 3) (by omega), z3 i hi]
    have := B3 i hi
    omega
  · rw [k3 (u + 3) (by omega), z3 t ht8]
    exact (B3 t ht8).2
  · rw [k3 (u + 4) (by omega), k1 (u + 4) (by omega)]
    exact e4 p (by omega)
  · rw [k4 r hr]
    congr 1
    unfold livB
    refine bts_cg _ (fun q hq => ?_)
    apply decide_eq_decide.mpr
    rw [z2 q (by omega), B0 q hq]
    exact ⟨fun h => ⟨by show (1 : Int) ≠ 0; omega, h⟩, fun h => h.2⟩
  · rw [k3 (u + 6) (by omega), k1 (u + 6) (by omega), w3 _ (by omega)]
    rfl
  · rw [k3 (u + 1) (by omega), k1 (u + 1) (by omega), e6]
    rfl
  · rw [k3 (u + 1) (by omega), k1 (u + 1) (by omega), e7]
    unfold alvB
    rw [alvB_ini (W := nW S)]
  · rw [k3 (u + 1) (by omega), k1 (u + 1) (by omega), e8, unwB_ini]
    rfl
  · rw [k3 o (by omega), k1 o (by omega), E o (by omega)]
theorem if_cg {P Q : Prop} [Decidable P] [Decidable Q] {x y : Int} (h : P ↔ Q) : (if P then x else y) = if Q then x else y := by
  by_cases hp : P
  · rw [if_pos hp, if_pos (h.mp hp)]
  · rw [if_neg hp, if_neg (fun g => hp (h.mpr g))]
theorem see2 {c : SC} {p o : Nat} (h1 : ∀ q, c 1 q = 0 ∨ c 1 q = 1) : seeS c p o = 2 ↔ c 1 o = 0 ∧ c 1 p ≠ 0 ∧ c 0 p = c 0 o := by
  unfold seeS
  split
  · next h =>
    refine ⟨fun g => absurd g (by omega), fun g => ?_⟩
    rcases h with h | h | h
    · subst h
      exact absurd g.1 g.2.1
    · exact absurd h g.2.1
    · exact absurd g.2.2 h
  · next h =>
    split
    · next g => exact ⟨fun g2 => absurd g2 (by omega), fun g2 => absurd g2.1 g⟩
    · next g =>
      refine ⟨fun _ => ⟨Classical.not_not.mp g, fun e => h (Or.inr (Or.inl e)), Classical.not_not.mp (fun e => h (Or.inr (Or.inr e)))⟩, fun _ => rfl⟩
/-- what is known, the pairs told of by (o', p) below done -/
def lrnV (n : Nat) (c : SC) (P : Nat → Nat → Prop) [∀ p o, Decidable (P p o)] (v : Nat → Int) : Prop := ∀ p o, p < n → o < n → v (8 * p + o) = if P p o ∧ seeS c p o = 2 ∧ c 4 (8 * p + o) = -1 then c 5 0 else c 4 (8 * p + o)
theorem c_learn_p {X : List Int} {d : Nat} {st dr rd : Int} {a s b : C3} {u : Nat} (hu : huS u) {W : Nat} (hW : W ≤ 8) {c : SC} (o x : Nat) (ho : o < W) (hx : x < 256) (hxb : ∀ p, p < W → (x.testBit p = true ↔ seeS c p o = 2)) {a0 : C3} {Q : Option pm_V → pm_H → Prop} (h5 : a0 (u + 1) 6 = c 5 0) (K : ∀ (a2 : C3) (z : pm_V), FrO (u + 6) (u + 6) a0 a2 → lrnV W c (fun p q => q < o + 1) (a2 (u + 6)) → Ev X (d + 1) 102 86 [Vr ((u : Int) + 1), Vi (W : Int), Vi (o : Int), Vi (x : Int), Vi (W : Int), z] [] (SHv st dr rd, ovl a2 s b) Q) (p : Nat) (z : pm_V) (hp : p ≤ W) (hf : FrO (u + 6) (u + 6) a0 a) (hv : lrnV W c (fun q r => r < o ∨ (r = o ∧ q < p)) (a (u + 6))) : Ev X (d + 1) 102 34 [Vr ((u : Int) + 1), Vi (W : Int), Vi (o : Int), Vi (x : Int), Vi (p : Int), z] [] (SHv st dr rd, ovl a s b) (Q) := by
  induction hw : (W - p) using Nat.strongRecOn generalizing p z a with
  | ind w ih =>
    have hu0 : u = 119 ∨ u = 142 := hu
    have hp2 : p < W → 2 ^ p ≤ 2 ^ 7 := fun h => Nat.pow_le_pow_right (by omega) (by omega)
    have h5a : a (u + 1) 6 = c 5 0 := by rw [hf (u + 1) (by omega)]; exact h5
    refine Ev.ite (P := (W : Int) ≤ (p : Int)) (k := 3) (a := 86) (b := 40) (L' := [Vr ((u : Int) + 1), Vi (W : Int), Vi (o : Int), Vi (x : Int), Vi (p : Int), z]) (S' := []) (h' := ((SHv st dr rd), (ovl a s b))) (fun _ => rfl) (fun b37 => ?_) (fun b37 => ?_)
    · obtain rfl : p = W := by omega
      exact K a z hf (fun q r hq hr => by
        rw [hv q r hq hr]
        refine if_cg ?_
        omega)
    · refine Ev.steps (k := 3) (pc' := 45) (L' := [Vr ((u : Int) + 1), Vi (W : Int), Vi (o : Int), Vi (x : Int), Vi (p : Int), z]) (S' := [Vi (w32 ((p : Int) * 8))]) (h' := ((SHv st dr rd), (ovl a s b))) (fun _ => rfl) ?_
      rw [show (w32 ((p : Int) * 8)) = (8 * (p : Int)) from (by unfold w32; omega)]
      refine Ev.steps (k := 2) (pc' := 47) (L' := [Vr ((u : Int) + 1), Vi (W : Int), Vi (o : Int), Vi (x : Int), Vi (p : Int), z]) (S' := [Vi (w32 ((8 * (p : Int)) + (o : Int)))]) (h' := ((SHv st dr rd), (ovl a s b))) (fun _ => rfl) ?_
      rw [show (w32 ((8 * (p : Int)) + (o : Int))) = ((8 * p + o : Nat) : Int) from (by unfold w32; omega)]
      refine Ev.ite (P := (i_and (x : Int) (i_shl 1 (p : Int))) = 0) (k := 7) (a := 80) (b := 58) (L' := [Vr ((u : Int) + 1), Vi (W : Int), Vi (o : Int), Vi (x : Int), Vi (p : Int), Vi ((8 * p + o : Nat) : Int)]) (S' := []) (h' := ((SHv st dr rd), (ovl a s b))) (fun _ => rfl) (fun b55 => ?_) (fun b55 => ?_)
      · rw [ib0 (by omega) (by omega)] at b55
        refine Ev.steps (k := 1) (pc' := 83) (L' := [Vr ((u : Int) + 1), Vi (W : Int), Vi (o : Int), Vi (x : Int), Vi (w32 ((p : Int) + 1)), Vi ((8 * p + o : Nat) : Int)]) (S' := []) (h' := ((SHv st dr rd), (ovl a s b))) (fun _ => rfl) ?_
        rw [show (w32 ((p : Int) + 1)) = ((p : Int) + 1) from w32_id (by unfold R32; omega)]
        refine Ev.steps (k := 1) (pc' := 34) (L' := [Vr ((u : Int) + 1), Vi (W : Int), Vi (o : Int), Vi (x : Int), Vi ((p : Int) + 1), Vi ((8 * p + o : Nat) : Int)]) (S' := []) (h' := ((SHv st dr rd), (ovl a s b))) (fun _ => rfl) ?_
        refine ih _ (by omega) (a := a) (p + 1) _ (by omega) (by first | exact hf | exact hf.up (by omega)) (fun q r hq hr => ?_) rfl
        have hvq := hv q r hq hr
        have hvp := hv p o (by omega) ho
        rw [if_neg (by omega)] at hvp
        have hxp := hxb p (by omega)
        first
          | (rw [updC_if]
             by_cases g : 8 * q + r = 8 * p + o
             · obtain rfl : q = p := by omega
               obtain rfl : r = o := by omega
               rw [if_pos rfl, if_pos ⟨Or.inr ⟨rfl, by omega⟩, hxp.mp (Classical.not_not.mp b55), by omega⟩]
             · rw [if_neg g, hvq]
               refine if_cg ?_
               omega)
          | (rw [hvq]
             refine if_cg ?_
             have hq2 : q = p → r = o → ¬ (seeS c q r = 2 ∧ c 4 (8 * q + r) = -1) := fun e1 e2 h => by
               subst e1
               subst e2
               first | exact b55 (hxp.mpr h.1) | omega
             constructor
             · rintro ⟨g1, g2, g3⟩
               exact ⟨by omega, g2, g3⟩
             · rintro ⟨g1, g2, g3⟩
               refine ⟨?_, g2, g3⟩
               by_cases e1 : q = p
               · by_cases e2 : r = o
                 · exact absurd ⟨g2, g3⟩ (hq2 e1 e2)
                 · omega
               · omega)
      · rw [ib0 (by omega) (by omega)] at b55
        refine Ev.steps (k := 1) (pc' := 59) (L' := [Vr ((u : Int) + 1), Vi (W : Int), Vi (o : Int), Vi (x : Int), Vi (p : Int), Vi ((8 * p + o : Nat) : Int)]) (S' := [Vr ((u : Int) + 1)]) (h' := ((SHv st dr rd), (ovl a s b))) (fun _ => rfl) ?_
        refine Ev.getr (r := ((u : Int) + 6)) rfl rfl (by omega) (shU_1 hu) rfl rfl rfl ?_
        refine Ev.steps (k := 1) (pc' := 64) (L' := [Vr ((u : Int) + 1), Vi (W : Int), Vi (o : Int), Vi (x : Int), Vi (p : Int), Vi ((8 * p + o : Nat) : Int)]) (S' := [Vi ((8 * p + o : Nat) : Int), Vr ((u : Int) + 6)]) (h' := ((SHv st dr rd), (ovl a s b))) (fun _ => rfl) ?_
        refine Ev.iald (v := (a (u + 6) ((8 * p + o)))) rfl (by omega) (shU_6 hu) (by omega) (by omega) (ovl_rc (by omega)) ?_
        refine Ev.ite (P := (a (u + 6) ((8 * p + o))) ≠ (-1)) (k := 2) (a := 80) (b := 69) (L' := [Vr ((u : Int) + 1), Vi (W : Int), Vi (o : Int), Vi (x : Int), Vi (p : Int), Vi ((8 * p + o : Nat) : Int)]) (S' := []) (h' := ((SHv st dr rd), (ovl a s b))) (fun _ => rfl) (fun b66 => ?_) (fun b66 => ?_)
        · refine Ev.steps (k := 1) (pc' := 83) (L' := [Vr ((u : Int) + 1), Vi (W : Int), Vi (o : Int), Vi (x : Int), Vi (w32 ((p : Int) + 1)), Vi ((8 * p + o : Nat) : Int)]) (S' := []) (h' := ((SHv st dr rd), (ovl a s b))) (fun _ => rfl) ?_
          rw [show (w32 ((p : Int) + 1)) = ((p : Int) + 1) from w32_id (by unfold R32; omega)]
          refine Ev.steps (k := 1) (pc' := 34) (L' := [Vr ((u : Int) + 1), Vi (W : Int), Vi (o : Int), Vi (x : Int), Vi ((p : Int) + 1), Vi ((8 * p + o : Nat) : Int)]) (S' := []) (h' := ((SHv st dr rd), (ovl a s b))) (fun _ => rfl) ?_
          refine ih _ (by omega) (a := a) (p + 1) _ (by omega) (by first | exact hf | exact hf.up (by omega)) (fun q r hq hr => ?_) rfl
          have hvq := hv q r hq hr
          have hvp := hv p o (by omega) ho
          rw [if_neg (by omega)] at hvp
          have hxp := hxb p (by omega)
          first
            | (rw [updC_if]
               by_cases g : 8 * q + r = 8 * p + o
               · obtain rfl : q = p := by omega
                 obtain rfl : r = o := by omega
                 rw [if_pos rfl, if_pos ⟨Or.inr ⟨rfl, by omega⟩, hxp.mp (Classical.not_not.mp b55), by omega⟩]
               · rw [if_neg g, hvq]
                 refine if_cg ?_
                 omega)
            | (rw [hvq]
               refine if_cg ?_
               have hq2 : q = p → r = o → ¬ (seeS c q r = 2 ∧ c 4 (8 * q + r) = -1) := fun e1 e2 h => by
                 subst e1
                 subst e2
                 first | exact b55 (hxp.mpr h.1) | omega
               constructor
               · rintro ⟨g1, g2, g3⟩
                 exact ⟨by omega, g2, g3⟩
               · rintro ⟨g1, g2, g3⟩
                 refine ⟨?_, g2, g3⟩
                 by_cases e1 : q = p
                 · by_cases e2 : r = o
                   · exact absurd ⟨g2, g3⟩ (hq2 e1 e2)
                   · omega
                 · omega)
        · refine Ev.steps (k := 1) (pc' := 70) (L' := [Vr ((u : Int) + 1), Vi (W : Int), Vi (o : Int), Vi (x : Int), Vi (p : Int), Vi ((8 * p + o : Nat) : Int)]) (S' := [Vr ((u : Int) + 1)]) (h' := ((SHv st dr rd), (ovl a s b))) (fun _ => rfl) ?_
          refine Ev.getr (r := ((u : Int) + 6)) rfl rfl (by omega) (shU_1 hu) rfl rfl rfl ?_
          refine Ev.steps (k := 2) (pc' := 76) (L' := [Vr ((u : Int) + 1), Vi (W : Int), Vi (o : Int), Vi (x : Int), Vi (p : Int), Vi ((8 * p + o : Nat) : Int)]) (S' := [Vr ((u : Int) + 1), Vi ((8 * p + o : Nat) : Int), Vr ((u : Int) + 6)]) (h' := ((SHv st dr rd), (ovl a s b))) (fun _ => rfl) ?_
          refine Ev.getf (v := (c 5 0)) rfl rfl (by omega) (shU_1 hu) rfl rfl ((ovl_rc (by omega)).trans (h5a)) ?_
          refine Ev.iast (c' := (ovl (updC a (u + 6) ((8 * p + o)) (c 5 0)) s b)) rfl (by omega) (shU_6 hu) (by omega) (by omega) (ovl_wc (by omega)) ?_
          refine Ev.steps (k := 1) (pc' := 83) (L' := [Vr ((u : Int) + 1), Vi (W : Int), Vi (o : Int), Vi (x : Int), Vi (w32 ((p : Int) + 1)), Vi ((8 * p + o : Nat) : Int)]) (S' := []) (h' := ((SHv st dr rd), (ovl (updC a (u + 6) ((8 * p + o)) (c 5 0)) s b))) (fun _ => rfl) ?_
          rw [show (w32 ((p : Int) + 1)) = ((p : Int) + 1) from w32_id (by unfold R32; omega)]
          refine Ev.steps (k := 1) (pc' := 34) (L' := [Vr ((u : Int) + 1), Vi (W : Int), Vi (o : Int), Vi (x : Int), Vi ((p : Int) + 1), Vi ((8 * p + o : Nat) : Int)]) (S' := []) (h' := ((SHv st dr rd), (ovl (updC a (u + 6) ((8 * p + o)) (c 5 0)) s b))) (fun _ => rfl) ?_
          refine ih _ (by omega) (a := (updC a (u + 6) ((8 * p + o)) (c 5 0))) (p + 1) _ (by omega) (by first | exact hf | exact hf.up (by omega)) (fun q r hq hr => ?_) rfl
          have hvq := hv q r hq hr
          have hvp := hv p o (by omega) ho
          rw [if_neg (by omega)] at hvp
          have hxp := hxb p (by omega)
          first
            | (rw [updC_if]
               by_cases g : 8 * q + r = 8 * p + o
               · obtain rfl : q = p := by omega
                 obtain rfl : r = o := by omega
                 rw [if_pos rfl, if_pos ⟨Or.inr ⟨rfl, by omega⟩, hxp.mp (Classical.not_not.mp b55), by omega⟩]
               · rw [if_neg g, hvq]
                 refine if_cg ?_
                 omega)
            | (rw [hvq]
               refine if_cg ?_
               have hq2 : q = p → r = o → ¬ (seeS c q r = 2 ∧ c 4 (8 * q + r) = -1) := fun e1 e2 h => by
                 subst e1
                 subst e2
                 first | exact b55 (hxp.mpr h.1) | omega
               constructor
               · rintro ⟨g1, g2, g3⟩
                 exact ⟨by omega, g2, g3⟩
               · rintro ⟨g1, g2, g3⟩
                 refine ⟨?_, g2, g3⟩
                 by_cases e1 : q = p
                 · by_cases e2 : r = o
                   · exact absurd ⟨g2, g3⟩ (hq2 e1 e2)
                   · omega
                 · omega)
theorem c_learn_o {X : List Int} {d : Nat} {st dr rd : Int} {a s b : C3} {u : Nat} (hu : huS u) {a0 : C3} {S : STY} {c : SC} (hC0 : RsC S c a0 u) (hW8 : nW S ≤ 8) (hR : ∀ p, p < nW S → 0 ≤ c 0 p ∧ c 0 p < 8) (hc1 : ∀ q, c 1 q = 0 ∨ c 1 q = 1) (o : Nat) (z3 z4 z5 : pm_V) (ho : o ≤ nW S) (hf : FrO (u + 6) (u + 6) a0 a) (hv : lrnV (nW S) c (fun _ r => r < o) (a (u + 6))) : Ev X (d + 1) 102 2 [Vr ((u : Int) + 1), Vi ((nW S : Nat) : Int), Vi (o : Int), z3, z4, z5] [] (SHv st dr rd, ovl a s b) (fun rr hh => rr = none ∧ ∃ a' : C3, hh = (SHv st dr rd, ovl a' s b) ∧ RsC S (lrnS (nW S) c) a' u ∧ FrO (u + 6) (u + 6) a0 a') := by
  induction hw : (nW S - o) using Nat.strongRecOn generalizing o z3 z4 z5 a with
  | ind w ih =>
    have hu0 : u = 119 ∨ u = 142 := hu
    obtain ⟨q0, q1, q2, q3, q4, q5, q6, q7, q8, q9, q10⟩ := id hC0
    have h9 : a (u + 1) 7 = ((alvB (nW S) c : Nat) : Int) := by rw [hf (u + 1) (by omega)]; exact q9
    have hal := alvB_lt (c := c) hW8
    refine Ev.ite (P := ((nW S : Nat) : Int) ≤ (o : Int)) (k := 3) (a := 92) (b := 7) (L' := [Vr ((u : Int) + 1), Vi ((nW S : Nat) : Int), Vi (o : Int), z3, z4, z5]) (S' := []) (h' := ((SHv st dr rd), (ovl a s b))) (fun _ => rfl) (fun b4 => ?_) (fun b4 => ?_)
    · refine Ev.fin (k := 1) (r := none) (h' := ((SHv st dr rd), (ovl a s b))) (fun _ => rfl) ?_
      obtain rfl : o = nW S := by omega
      refine ⟨rfl, a, rfl, ?_, hf⟩
      have hL : ∀ t, t ≠ 4 → lrnS (nW S) c t = c t := fun t ht => by
        funext i
        exact lrnS_n ht
      unfold RsC
      have e1 : ∀ r, livB (nW S) (lrnS (nW S) c) r = livB (nW S) c r := fun r => by unfold livB; rw [hL 0 (by omega), hL 1 (by omega)]
      have e2 : alvB (nW S) (lrnS (nW S) c) = alvB (nW S) c := by unfold alvB; rw [hL 1 (by omega)]
      have e3 : unwB (lrnS (nW S) c) = unwB c := by unfold unwB; rw [hL 6 (by omega), hL 7 (by omega)]
      rw [hf (u + 1) (by omega), hf (u + 2) (by omega), hf (u + 3) (by omega), hf (u + 4) (by omega), hf (u + 5) (by omega), e2, e3, hL 0 (by omega), hL 2 (by omega), hL 3 (by omega), hL 5 (by omega)]
      refine ⟨q0, q1, q2, q3, q4, q5, fun r hr => by rw [e1]; exact q6 r hr, fun p o hp ho => ?_, q8, q9, q10⟩
      rw [hv p o hp ho]
      unfold lrnS
      have e4 : (8 * p + o) / 8 = p := by omega
      have e5 : (8 * p + o) % 8 = o := by omega
      rw [e4, e5]
      refine if_cg ?_
      exact ⟨fun h => ⟨rfl, hp, ho, h.2.1, h.2.2⟩, fun h => ⟨ho, h.2.2.2.1, h.2.2.2.2⟩⟩
    · refine Ev.call (k := 2) (pc1 := 9) (L1 := [Vr ((u : Int) + 1), Vi ((nW S : Nat) : Int), Vi (o : Int), z3, z4, z5]) (S1 := [Vi (o : Int), Vr ((u : Int) + 1)]) (h1 := ((SHv st dr rd), (ovl a s b))) (m' := 79) (as := [Vr ((u : Int) + 1), Vi (o : Int)]) (S' := []) (L0 := [Vr ((u : Int) + 1), Vi (o : Int)]) (fun _ => rfl) rfl rfl rfl rfl (stpC_of rfl (pm_recv_of (by omega) (shU_1 hu))) rfl (c_lives hu o (by omega) (alvB (nW S) c) (by omega) h9) (fun r h' hq => ?_)
      obtain ⟨rfl, rfl⟩ := hq
      by_cases c9 : (alvB (nW S) c).testBit o = true
      · rw [if_pos c9]
        show Ev X _ _ 12 [Vr ((u : Int) + 1), Vi ((nW S : Nat) : Int), Vi (o : Int), z3, z4, z5] [Vi 1] ((SHv st dr rd), (ovl a s b)) _
        refine Ev.steps (k := 6) (pc' := 34) (L' := [Vr ((u : Int) + 1), Vi ((nW S : Nat) : Int), Vi (o : Int), Vi 0, Vi 0, z5]) (S' := []) (h' := ((SHv st dr rd), (ovl a s b))) (fun _ => rfl) ?_
        have hlo := (alvB_tb.mp c9).2
        refine c_learn_p hu hW8 o 0 (by omega) (by omega) (fun p hp => ?_) (a0 := a) (by rw [hf (u + 1) (by omega)]; exact q8) (fun a2 z g1 g2 => ?_) 0 z5 (by omega) FrO.rf (fun q r hq hr => by rw [hv q r hq hr]; refine if_cg ?_; omega)
        · rw [see2 hc1, Nat.zero_testBit]
          exact ⟨fun h => absurd h (by decide), fun h => absurd h.1 hlo⟩
        · refine Ev.steps (k := 1) (pc' := 89) (L' := [Vr ((u : Int) + 1), Vi ((nW S : Nat) : Int), Vi (w32 ((o : Int) + 1)), Vi 0, Vi ((nW S : Nat) : Int), z]) (S' := []) (h' := ((SHv st dr rd), (ovl a2 s b))) (fun _ => rfl) ?_
          rw [show (w32 ((o : Int) + 1)) = ((o : Int) + 1) from w32_id (by unfold R32; omega)]
          refine Ev.steps (k := 1) (pc' := 2) (L' := [Vr ((u : Int) + 1), Vi ((nW S : Nat) : Int), Vi ((o : Int) + 1), Vi 0, Vi ((nW S : Nat) : Int), z]) (S' := []) (h' := ((SHv st dr rd), (ovl a2 s b))) (fun _ => rfl) ?_
          exact ih _ (by omega) (a := a2) (o + 1) _ _ _ (by omega) (hf.tr g1) g2 rfl
      · rw [if_neg c9]
        show Ev X _ _ 12 [Vr ((u : Int) + 1), Vi ((nW S : Nat) : Int), Vi (o : Int), z3, z4, z5] [Vi 0] ((SHv st dr rd), (ovl a s b)) _
        refine Ev.steps (k := 1) (pc' := 19) (L' := [Vr ((u : Int) + 1), Vi ((nW S : Nat) : Int), Vi (o : Int), z3, z4, z5]) (S' := []) (h' := ((SHv st dr rd), (ovl a s b))) (fun _ => rfl) ?_
        obtain ⟨ro, hro⟩ : ∃ ro : Nat, c 0 o = (ro : Int) := ⟨(c 0 o).toNat, by have := hR o (by omega); omega⟩
        have hr8 := hR o (by omega)
        have h0 : a (u + 2) o = (ro : Int) := by rw [hf (u + 2) (by omega), q0 o (by omega)]; exact hro
        have h6 : a (u + 5) ro = ((livB (nW S) c ro : Nat) : Int) := by rw [hf (u + 5) (by omega)]; exact q6 ro (by omega)
        refine Ev.steps (k := 1) (pc' := 20) (L' := [Vr ((u : Int) + 1), Vi ((nW S : Nat) : Int), Vi (o : Int), z3, z4, z5]) (S' := [Vr ((u : Int) + 1)]) (h' := ((SHv st dr rd), (ovl a s b))) (fun _ => rfl) ?_
        refine Ev.getr (r := ((u : Int) + 5)) rfl rfl (by omega) (shU_1 hu) rfl rfl rfl ?_
        refine Ev.steps (k := 1) (pc' := 24) (L' := [Vr ((u : Int) + 1), Vi ((nW S : Nat) : Int), Vi (o : Int), z3, z4, z5]) (S' := [Vr ((u : Int) + 1), Vr ((u : Int) + 5)]) (h' := ((SHv st dr rd), (ovl a s b))) (fun _ => rfl) ?_
        refine Ev.getr (r := ((u : Int) + 2)) rfl rfl (by omega) (shU_1 hu) rfl rfl rfl ?_
        refine Ev.steps (k := 1) (pc' := 28) (L' := [Vr ((u : Int) + 1), Vi ((nW S : Nat) : Int), Vi (o : Int), z3, z4, z5]) (S' := [Vi (o : Int), Vr ((u : Int) + 2), Vr ((u : Int) + 5)]) (h' := ((SHv st dr rd), (ovl a s b))) (fun _ => rfl) ?_
        refine Ev.iald (v := (ro : Int)) rfl (by omega) (shU_2 hu) (by omega) (by omega) ((ovl_rc (by omega)).trans (h0)) ?_
        refine Ev.iald (v := ((livB (nW S) c ro : Nat) : Int)) rfl (by omega) (shU_5 hu) (by omega) (by omega) ((ovl_rc (by omega)).trans (h6)) ?_
        refine Ev.steps (k := 3) (pc' := 34) (L' := [Vr ((u : Int) + 1), Vi ((nW S : Nat) : Int), Vi (o : Int), Vi ((livB (nW S) c ro : Nat) : Int), Vi 0, z5]) (S' := []) (h' := ((SHv st dr rd), (ovl a s b))) (fun _ => rfl) ?_
        have hlo : c 1 o = 0 := by
          rcases hc1 o with h | h
          · exact h
          · exact absurd (alvB_tb.mpr ⟨by omega, by omega⟩) c9
        refine c_learn_p hu hW8 o (livB (nW S) c ro) (by omega) (livB_lt hW8) (fun p hp => ?_) (a0 := a) (by rw [hf (u + 1) (by omega)]; exact q8) (fun a2 z g1 g2 => ?_) 0 z5 (by omega) FrO.rf (fun q r hq hr => by rw [hv q r hq hr]; refine if_cg ?_; omega)
        · rw [see2 hc1, livB_tb, hro]
          exact ⟨fun h => ⟨hlo, h.2.1, h.2.2⟩, fun h => ⟨hp, h.2.1, h.2.2⟩⟩
        · refine Ev.steps (k := 1) (pc' := 89) (L' := [Vr ((u : Int) + 1), Vi ((nW S : Nat) : Int), Vi (w32 ((o : Int) + 1)), Vi ((livB (nW S) c ro : Nat) : Int), Vi ((nW S : Nat) : Int), z]) (S' := []) (h' := ((SHv st dr rd), (ovl a2 s b))) (fun _ => rfl) ?_
          rw [show (w32 ((o : Int) + 1)) = ((o : Int) + 1) from w32_id (by unfold R32; omega)]
          refine Ev.steps (k := 1) (pc' := 2) (L' := [Vr ((u : Int) + 1), Vi ((nW S : Nat) : Int), Vi ((o : Int) + 1), Vi ((livB (nW S) c ro : Nat) : Int), Vi ((nW S : Nat) : Int), z]) (S' := []) (h' := ((SHv st dr rd), (ovl a2 s b))) (fun _ => rfl) ?_
          exact ih _ (by omega) (a := a2) (o + 1) _ _ _ (by omega) (hf.tr g1) g2 rfl
theorem c_learn {X : List Int} {d : Nat} {st dr rd : Int} {a s b : C3} {u : Nat} (hu : huS u) {S : STY} {c : SC} (hC : RsC S c a u) (hW8 : nW S ≤ 8) (hR : ∀ p, p < nW S → 0 ≤ c 0 p ∧ c 0 p < 8) (hc1 : ∀ q, c 1 q = 0 ∨ c 1 q = 1) : Ev X (d + 1) 102 0 [Vr ((u : Int) + 1), Vi ((nW S : Nat) : Int), Vx, Vx, Vx, Vx] [] (SHv st dr rd, ovl a s b) (fun rr hh => rr = none ∧ ∃ a' : C3, hh = (SHv st dr rd, ovl a' s b) ∧ RsC S (lrnS (nW S) c) a' u ∧ FrO (u + 6) (u + 6) a a') := by
  refine Ev.steps (k := 2) (pc' := 2) (L' := [Vr ((u : Int) + 1), Vi ((nW S : Nat) : Int), Vi 0, Vx, Vx, Vx]) (S' := []) (h' := ((SHv st dr rd), (ovl a s b))) (fun _ => rfl) ?_
  exact c_learn_o hu hC hW8 hR hc1 0 _ _ _ (by omega) FrO.rf (fun p o hp ho => by rw [if_neg (by omega)]; exact hC.2.2.2.2.2.2.2.1 p o hp ho)
