/-! THE REFERENCE: a finder -/
theorem m_isDead {X : List Int} {d : Nat} {st dr rd : Int} {a s b : C3} (p : Nat) {e N W : Nat} {H : Nat → SC} {bk : Nat} (hW8 : W ≤ 8) (hbk : bk < 2) (he : e < 2) (hN : N < 180) (h12 : b 166 12 = (bk : Int)) (h170 : b 170 bk = (W : Int)) (h202 : b 202 e = ((N + 1 : Nat) : Int)) (hR : RowH W H b e (N + 1)) (hp : p < W) : Ev X (d + 1) 237 0 [Vr 166, Vi (e : Int), Vi (p : Int)] [] (SHv st dr rd, ovl a s b) (fun rr hh => rr = some (Vi (if H N 1 p = 0 then 1 else 0)) ∧ hh = (SHv st dr rd, ovl a s b)) := by
  refine Ev.steps (k := 3) (pc' := 5) (L' := [Vr 166, Vi (e : Int), Vi (p : Int)]) (S' := [Vi (e : Int), Vr 202]) (h' := ((SHv st dr rd), (ovl a s b))) (fun _ => rfl) ?_
  refine Ev.iald (v := ((N + 1 : Nat) : Int)) rfl (by decide) rfl (by omega) (by omega) (h202) ?_
  refine Ev.ite (P := ((N + 1 : Nat) : Int) ≤ 0) (k := 1) (a := 36) (b := 9) (L' := [Vr 166, Vi (e : Int), Vi (p : Int)]) (S' := []) (h' := ((SHv st dr rd), (ovl a s b))) (fun _ => rfl) (fun b6 => ?_) (fun b6 => ?_)
  · refine Ev.fin (k := 2) (r := (some (Vi 0))) (h' := ((SHv st dr rd), (ovl a s b))) (fun _ => rfl) ?_
    refine ⟨?_, rfl⟩
    first | (exfalso; omega) | rw [if_pos (by omega)] | rw [if_neg (by omega)]
  · refine Ev.steps (k := 7) (pc' := 20) (L' := [Vr 166, Vi (e : Int), Vi (p : Int)]) (S' := [Vi (e : Int), Vr 202, Vi (e : Int), Vr 166, Vr 206]) (h' := ((SHv st dr rd), (ovl a s b))) (fun _ => rfl) ?_
    refine Ev.iald (v := ((N + 1 : Nat) : Int)) rfl (by decide) rfl (by omega) (by omega) (h202) ?_
    refine Ev.steps (k := 2) (pc' := 23) (L' := [Vr 166, Vi (e : Int), Vi (p : Int)]) (S' := [Vi (w32 (((N + 1 : Nat) : Int) - 1)), Vi (e : Int), Vr 166, Vr 206]) (h' := ((SHv st dr rd), (ovl a s b))) (fun _ => rfl) ?_
    rw [show (w32 (((N + 1 : Nat) : Int) - 1)) = (N : Int) from by unfold w32; omega]
    refine Ev.call (k := 0) (pc1 := 23) (L1 := [Vr 166, Vi (e : Int), Vi (p : Int)]) (S1 := [Vi (N : Int), Vi (e : Int), Vr 166, Vr 206]) (h1 := ((SHv st dr rd), (ovl a s b))) (m' := 206) (as := [Vr 166, Vi (e : Int), Vi (N : Int)]) (S' := [Vr 206]) (L0 := [Vr 166, Vi (e : Int), Vi (N : Int)]) (fun _ => rfl) rfl rfl rfl rfl rfl rfl (m_at (e : Int) (N : Int) (by omega) (by omega)) (fun r h' hq => ?_)
    obtain ⟨rfl, rfl⟩ := hq
    show Ev X _ _ 26 [Vr 166, Vi (e : Int), Vi (p : Int)] [Vi ((1440 * (e : Int)) + (8 * (N : Int))), Vr 206] ((SHv st dr rd), (ovl a s b)) _
    refine Ev.steps (k := 2) (pc' := 28) (L' := [Vr 166, Vi (e : Int), Vi (p : Int)]) (S' := [Vi (w32 (((1440 * (e : Int)) + (8 * (N : Int))) + (p : Int))), Vr 206]) (h' := ((SHv st dr rd), (ovl a s b))) (fun _ => rfl) ?_
    rw [show (w32 (((1440 * (e : Int)) + (8 * (N : Int))) + (p : Int))) = (((1440 * (e : Int)) + (8 * (N : Int))) + (p : Int)) from w32_id (by unfold R32; omega)]
    refine Ev.zald (v := (H N 1 p)) rfl (by decide) rfl (by omega) (by omega) ((hR N (by omega) p (by omega)).2) ?_
    refine Ev.ite (P := (H N 1 p) ≠ 0) (k := 1) (a := 36) (b := 32) (L' := [Vr 166, Vi (e : Int), Vi (p : Int)]) (S' := []) (h' := ((SHv st dr rd), (ovl a s b))) (fun _ => rfl) (fun b29 => ?_) (fun b29 => ?_)
    · refine Ev.fin (k := 2) (r := (some (Vi 0))) (h' := ((SHv st dr rd), (ovl a s b))) (fun _ => rfl) ?_
      refine ⟨?_, rfl⟩
      first | (exfalso; omega) | rw [if_pos (by omega)] | rw [if_neg (by omega)]
    · refine Ev.fin (k := 3) (r := (some (Vi 1))) (h' := ((SHv st dr rd), (ovl a s b))) (fun _ => rfl) ?_
      refine ⟨?_, rfl⟩
      first | (exfalso; omega) | rw [if_pos (by omega)] | rw [if_neg (by omega)]
theorem i_orp {x k : Nat} (hk : k < 31) (hx : x < 2 ^ k) : i_or (x : Int) ((2 ^ k : Nat) : Int) = ((x + 2 ^ k : Nat) : Int) := by
  rw [← i_shl1 hk]
  exact i_setb hk hx
theorem m_heard_l {X : List Int} {d : Nat} {st dr rd : Int} {a s b : C3} (x : Nat) {e N W : Nat} {H : Nat → SC} {bk : Nat} (hW8 : W ≤ 8) (hbk : bk < 2) (he : e < 2) (hN : N < 180) (h12 : b 166 12 = (bk : Int)) (h170 : b 170 bk = (W : Int)) (h202 : b 202 e = ((N + 1 : Nat) : Int)) (hR : RowH W H b e (N + 1)) (hx : x < 256) (p : Nat) (hp : p ≤ W) : Ev X (d + 2) 240 5 [Vr 166, Vi (e : Int), Vi (x : Int), Vi ((hrdF H N x p : Nat) : Int), Vi (p : Int)] [] (SHv st dr rd, ovl a s b) (fun rr hh => rr = some (Vi ((hrdF H N x W : Nat) : Int)) ∧ hh = (SHv st dr rd, ovl a s b)) := by
  induction hk : (W - p) using Nat.strongRecOn generalizing p with
  | ind k ih =>
    have hb := hrdF_lt H N x p
    have hs := hrdF_s (H := H) (N := N) (x := x) (p := p)
    refine Ev.steps (k := 5) (pc' := 15) (L' := [Vr 166, Vi (e : Int), Vi (x : Int), Vi ((hrdF H N x p : Nat) : Int), Vi (p : Int)]) (S' := [Vi (b 166 12), Vr 170, Vi (p : Int)]) (h' := ((SHv st dr rd), (ovl a s b))) (fun _ => rfl) ?_
    rw [h12]
    refine Ev.iald (v := (W : Int)) rfl (by decide) rfl (by omega) (by omega) (h170) ?_
    refine Ev.ite (P := (W : Int) ≤ (p : Int)) (k := 1) (a := 56) (b := 19) (L' := [Vr 166, Vi (e : Int), Vi (x : Int), Vi ((hrdF H N x p : Nat) : Int), Vi (p : Int)]) (S' := []) (h' := ((SHv st dr rd), (ovl a s b))) (fun _ => rfl) (fun b16 => ?_) (fun b16 => ?_)
    · refine Ev.fin (k := 2) (r := (some (Vi ((hrdF H N x p : Nat) : Int)))) (h' := ((SHv st dr rd), (ovl a s b))) (fun _ => rfl) ?_
      obtain rfl : p = W := by omega
      exact ⟨rfl, rfl⟩
    · have hpw : p < W := by omega
      have h2p := pw8 (k := p) (by omega)
      refine Ev.steps (k := 6) (pc' := 26) (L' := [Vr 166, Vi (e : Int), Vi (x : Int), Vi ((hrdF H N x p : Nat) : Int), Vi (p : Int)]) (S' := [Vi (i_and (i_shr (x : Int) (p : Int)) 1), Vi ((hrdF H N x p : Nat) : Int)]) (h' := ((SHv st dr rd), (ovl a s b))) (fun _ => rfl) ?_
      rw [show (i_and (i_shr (x : Int) (p : Int)) 1) = (if x.testBit p = true then 1 else 0) from i_bit (by omega) (by omega)]
      refine Ev.ite (P := (if x.testBit p = true then 1 else 0) ≠ 1) (k := 2) (a := 47) (b := 30) (L' := [Vr 166, Vi (e : Int), Vi (x : Int), Vi ((hrdF H N x p : Nat) : Int), Vi (p : Int)]) (S' := [Vi ((hrdF H N x p : Nat) : Int)]) (h' := ((SHv st dr rd), (ovl a s b))) (fun _ => rfl) (fun b27 => ?_) (fun b27 => ?_)
      · have ht : ¬ x.testBit p = true := by
          intro h
          rw [if_pos h] at b27
          omega
        refine Ev.steps (k := 4) (pc' := 53) (L' := [Vr 166, Vi (e : Int), Vi (x : Int), Vi (i_or ((hrdF H N x p : Nat) : Int) 0), Vi (w32 ((p : Int) + 1))]) (S' := []) (h' := ((SHv st dr rd), (ovl a s b))) (fun _ => rfl) ?_
        rw [show (w32 ((p : Int) + 1)) = ((p : Int) + 1) from w32_id (by unfold R32; omega)]
        refine Ev.steps (k := 1) (pc' := 5) (L' := [Vr 166, Vi (e : Int), Vi (x : Int), Vi (i_or ((hrdF H N x p : Nat) : Int) 0), Vi ((p : Int) + 1)]) (S' := []) (h' := ((SHv st dr rd), (ovl a s b))) (fun _ => rfl) ?_
        first
          | rw [if_neg (by exact fun h => ht h.1)] at hs
          | rw [if_neg (by exact fun h => h.2 c34)] at hs
        rw [i_or0 (by omega), ← hs]
        exact ih _ (by omega) (p + 1) (by omega) rfl
      · have ht : x.testBit p = true := by
          by_cases h : x.testBit p = true
          · exact h
          · rw [if_neg h] at b27
            omega
        refine Ev.call (k := 3) (pc1 := 34) (L1 := [Vr 166, Vi (e : Int), Vi (x : Int), Vi ((hrdF H N x p : Nat) : Int), Vi (p : Int)]) (S1 := [Vi (p : Int), Vi (e : Int), Vr 166, Vi ((hrdF H N x p : Nat) : Int)]) (h1 := ((SHv st dr rd), (ovl a s b))) (m' := 237) (as := [Vr 166, Vi (e : Int), Vi (p : Int)]) (S' := [Vi ((hrdF H N x p : Nat) : Int)]) (L0 := [Vr 166, Vi (e : Int), Vi (p : Int)]) (fun _ => rfl) rfl rfl rfl rfl rfl rfl (m_isDead p hW8 hbk he hN h12 h170 h202 hR hpw) (fun r h' hq => ?_)
        obtain ⟨rfl, rfl⟩ := hq
        by_cases c34 : H N 1 p = 0
        · rw [if_pos c34]
          show Ev X _ _ 37 [Vr 166, Vi (e : Int), Vi (x : Int), Vi ((hrdF H N x p : Nat) : Int), Vi (p : Int)] [Vi 1, Vi ((hrdF H N x p : Nat) : Int)] ((SHv st dr rd), (ovl a s b)) _
          refine Ev.steps (k := 5) (pc' := 53) (L' := [Vr 166, Vi (e : Int), Vi (x : Int), Vi (i_or ((hrdF H N x p : Nat) : Int) 0), Vi (w32 ((p : Int) + 1))]) (S' := []) (h' := ((SHv st dr rd), (ovl a s b))) (fun _ => rfl) ?_
          rw [show (w32 ((p : Int) + 1)) = ((p : Int) + 1) from w32_id (by unfold R32; omega)]
          refine Ev.steps (k := 1) (pc' := 5) (L' := [Vr 166, Vi (e : Int), Vi (x : Int), Vi (i_or ((hrdF H N x p : Nat) : Int) 0), Vi ((p : Int) + 1)]) (S' := []) (h' := ((SHv st dr rd), (ovl a s b))) (fun _ => rfl) ?_
          first
            | rw [if_neg (by exact fun h => ht h.1)] at hs
            | rw [if_neg (by exact fun h => h.2 c34)] at hs
          rw [i_or0 (by omega), ← hs]
          exact ih _ (by omega) (p + 1) (by omega) rfl
        · rw [if_neg c34]
          show Ev X _ _ 37 [Vr 166, Vi (e : Int), Vi (x : Int), Vi ((hrdF H N x p : Nat) : Int), Vi (p : Int)] [Vi 0, Vi ((hrdF H N x p : Nat) : Int)] ((SHv st dr rd), (ovl a s b)) _
          refine Ev.steps (k := 4) (pc' := 44) (L' := [Vr 166, Vi (e : Int), Vi (x : Int), Vi ((hrdF H N x p : Nat) : Int), Vi (p : Int)]) (S' := [Vi (i_shl 1 (p : Int)), Vi ((hrdF H N x p : Nat) : Int)]) (h' := ((SHv st dr rd), (ovl a s b))) (fun _ => rfl) ?_
          rw [show (i_shl 1 (p : Int)) = ((2 ^ p : Nat) : Int) from i_shl1 (by omega)]
          refine Ev.steps (k := 4) (pc' := 53) (L' := [Vr 166, Vi (e : Int), Vi (x : Int), Vi (i_or ((hrdF H N x p : Nat) : Int) ((2 ^ p : Nat) : Int)), Vi (w32 ((p : Int) + 1))]) (S' := []) (h' := ((SHv st dr rd), (ovl a s b))) (fun _ => rfl) ?_
          rw [show (w32 ((p : Int) + 1)) = ((p : Int) + 1) from w32_id (by unfold R32; omega)]
          refine Ev.steps (k := 1) (pc' := 5) (L' := [Vr 166, Vi (e : Int), Vi (x : Int), Vi (i_or ((hrdF H N x p : Nat) : Int) ((2 ^ p : Nat) : Int)), Vi ((p : Int) + 1)]) (S' := []) (h' := ((SHv st dr rd), (ovl a s b))) (fun _ => rfl) ?_
          rw [if_pos ⟨ht, c34⟩] at hs
          rw [i_orp (by omega) hb, ← hs]
          exact ih _ (by omega) (p + 1) (by omega) rfl
theorem m_heard {X : List Int} {d : Nat} {st dr rd : Int} {a s b : C3} (x : Nat) {e N W : Nat} {H : Nat → SC} {bk : Nat} (hW8 : W ≤ 8) (hbk : bk < 2) (he : e < 2) (hN : N < 180) (h12 : b 166 12 = (bk : Int)) (h170 : b 170 bk = (W : Int)) (h202 : b 202 e = ((N + 1 : Nat) : Int)) (hR : RowH W H b e (N + 1)) (hx : x < 256) : Ev X (d + 2) 240 0 [Vr 166, Vi (e : Int), Vi (x : Int), Vx, Vx] [] (SHv st dr rd, ovl a s b) (fun rr hh => rr = some (Vi ((hrdF H N x W : Nat) : Int)) ∧ hh = (SHv st dr rd, ovl a s b)) := by
  refine Ev.steps (k := 4) (pc' := 5) (L' := [Vr 166, Vi (e : Int), Vi (x : Int), Vi 0, Vi 0]) (S' := []) (h' := ((SHv st dr rd), (ovl a s b))) (fun _ => rfl) ?_
  exact m_heard_l x hW8 hbk he hN h12 h170 h202 hR hx 0 (by omega)
/-- the first minute of those that was found, or -1 -/
def fdI (W : Nat) (H : Nat → SC) (y v m : Nat) : Int := if lst (fdF W H y v) m < m then ((lst (fdF W H y v) m : Nat) : Int) else -1
/-- persons below p only, in minute m -/
def spP (W : Nat) (H : Nat → SC) (y v m p : Nat) : Nat := if ∃ q, q < p ∧ y.testBit q = true ∧ seeS (H m) q v = 1 then m + 1 else spfF W H y v m
def fdP (W : Nat) (H : Nat → SC) (y v m p : Nat) : Int := if lst (fdF W H y v) m < m then ((lst (fdF W H y v) m : Nat) : Int) else if ∃ q, q < p ∧ y.testBit q = true ∧ seeS (H m) q v = 2 then (m : Int) else -1
theorem spP_0 {W : Nat} {H : Nat → SC} {y v m : Nat} : spP W H y v m 0 = spfF W H y v m := by
  unfold spP
  rw [if_neg (fun ⟨q, h, _⟩ => absurd h (by omega))]
theorem spP_W {W : Nat} {H : Nat → SC} {y v m : Nat} : spP W H y v m W = spfF W H y v (m + 1) := by
  rw [spfF_s]
  rfl
theorem fdP_0 {W : Nat} {H : Nat → SC} {y v m : Nat} : fdP W H y v m 0 = fdI W H y v m := by
  unfold fdP fdI
  rw [if_neg (c := ∃ q, q < 0 ∧ y.testBit q = true ∧ seeS (H m) q v = 2) (fun ⟨q, h, _⟩ => absurd h (by omega))]
theorem fdP_W {W : Nat} {H : Nat → SC} {y v m : Nat} : fdP W H y v m W = fdI W H y v (m + 1) := by
  unfold fdP fdI
  have hl := lst_le (fdF W H y v) m
  rw [lst_s]
  by_cases h : lst (fdF W H y v) m < m
  · rw [if_pos h, if_pos h, if_pos (by omega)]
  · rw [if_neg h, if_neg h]
    by_cases h2 : ∃ q, q < W ∧ y.testBit q = true ∧ seeS (H m) q v = 2
    · rw [if_pos h2, if_pos (show fdF W H y v m = true from decide_eq_true h2), if_pos (by omega)]
    · have h3 : ¬ fdF W H y v m = true := fun h => h2 (of_decide_eq_true h)
      rw [if_neg h2, if_neg h3, if_neg (by omega)]
theorem spP_s {W : Nat} {H : Nat → SC} {y v m p : Nat} : spP W H y v m (p + 1) = if y.testBit p = true ∧ seeS (H m) p v = 1 then m + 1 else spP W H y v m p := by
  unfold spP
  by_cases h : y.testBit p = true ∧ seeS (H m) p v = 1
  · rw [if_pos h, if_pos (ex_s.mpr (Or.inr h))]
  · rw [if_neg h]
    by_cases h2 : ∃ q, q < p ∧ y.testBit q = true ∧ seeS (H m) q v = 1
    · rw [if_pos h2, if_pos (ex_s.mpr (Or.inl h2))]
    · rw [if_neg h2, if_neg (fun h3 => (ex_s.mp h3).elim h2 h)]
theorem fdP_s {W : Nat} {H : Nat → SC} {y v m p : Nat} : fdP W H y v m (p + 1) = if y.testBit p = true ∧ seeS (H m) p v = 2 ∧ fdP W H y v m p = -1 then (m : Int) else fdP W H y v m p := by
  unfold fdP
  by_cases h0 : lst (fdF W H y v) m < m
  · rw [if_pos h0, if_pos h0, if_neg (fun h => by omega)]
  · rw [if_neg h0, if_neg h0]
    by_cases h2 : ∃ q, q < p ∧ y.testBit q = true ∧ seeS (H m) q v = 2
    · rw [if_pos h2, if_pos (ex_s.mpr (Or.inl h2)), if_neg (fun h => by omega)]
    · rw [if_neg h2]
      by_cases h : y.testBit p = true ∧ seeS (H m) p v = 2
      · rw [if_pos (ex_s.mpr (Or.inr h)), if_pos ⟨h.1, h.2, rfl⟩]
      · rw [if_neg (fun h3 => (ex_s.mp h3).elim h2 h), if_neg (fun h3 => h ⟨h3.1, h3.2.1⟩)]
theorem fdP_b {W : Nat} {H : Nat → SC} {y v m p : Nat} : fdP W H y v m p = -1 ∨ (0 ≤ fdP W H y v m p ∧ fdP W H y v m p ≤ m) := by
  unfold fdP
  split
  · omega
  · split
    · omega
    · omega
theorem spP_le {W : Nat} {H : Nat → SC} {y v m p : Nat} : spP W H y v m p ≤ m + 1 := by
  have := spfF_le (W := W) (H := H) (y := y) (v := v) m
  unfold spP
  split <;> omega
/-- the reference's span is written -/
def spB (b : SC) (x y : Int) : SC := updC (updC b 166 72 x) 166 73 y
theorem spB_72 {b : SC} {x y z : Int} : updC (spB b x y) 166 72 z = spB b z y := by
  funext o i
  unfold spB
  by_cases h1 : o = 166 ∧ i = 72
  · rw [h1.1, h1.2, updC_sm, updC_nt (by omega), updC_sm]
  · rw [updC_nt h1]
    by_cases h2 : o = 166 ∧ i = 73
    · rw [h2.1, h2.2, updC_sm, updC_sm]
    · rw [updC_nt h2, updC_nt h1, updC_nt h2, updC_nt h1]
theorem spB_73 {b : SC} {x y z : Int} : updC (spB b x y) 166 73 z = spB b x z := updC_tw
theorem spB_in {b : SC} {x y : Int} : updC (updC b 166 72 x) 166 73 y = spB b x y := rfl
theorem spB_r72 {b : SC} {x y : Int} : spB b x y 166 72 = x := by
  unfold spB
  rw [updC_nt (by omega), updC_sm]
theorem spB_r73 {b : SC} {x y : Int} : spB b x y 166 73 = y := updC_sm
theorem spB_sp {b : SC} {x y x' y' : Int} : spB (spB b x y) x' y' = spB b x' y' := by
  show updC (updC (spB b x y) 166 72 x') 166 73 y' = _
  rw [spB_72, spB_73]
theorem m_spans_p {X : List Int} {d : Nat} {st dr rd : Int} {a s b : C3} (y v m : Nat) {e N W : Nat} {H : Nat → SC} {bk : Nat} {b0 : C3} (hW8 : W ≤ 8) (hbk : bk < 2) (he : e < 2) (hN : N < 180) (h12 : b0 166 12 = (bk : Int)) (h170 : b0 170 bk = (W : Int)) (h202 : b0 202 e = ((N + 1 : Nat) : Int)) (hR : RowH W H b0 e (N + 1)) (hy : y < 256) (hv : v < W) (hm : m < N + 1) {Q : Option pm_V → pm_H → Prop} (K : ∀ z : pm_V, Ev X (d + 2) 241 105 [Vr 166, Vi (e : Int), Vi (v : Int), Vi (y : Int), Vi (m : Int), Vi (W : Int), z] [] (SHv st dr rd, ovl a s (spB b0 ((spP W H y v m W : Nat) : Int) (fdP W H y v m W))) Q) (p : Nat) (z : pm_V) (hp : p ≤ W) (hb : b = (spB b0 ((spP W H y v m p : Nat) : Int) (fdP W H y v m p))) : Ev X (d + 2) 241 27 [Vr 166, Vi (e : Int), Vi (v : Int), Vi (y : Int), Vi (m : Int), Vi (p : Int), z] [] (SHv st dr rd, ovl a s b) (Q) := by
  induction hk : (W - p) using Nat.strongRecOn generalizing p z b with
  | ind k ih =>
    have e12 : b 166 12 = (bk : Int) := by rw [hb]; exact h12
    have e170 : b 170 bk = (W : Int) := by rw [hb]; exact h170
    have eR : RowH W H b e (N + 1) := by rw [hb]; exact hR.fr rfl rfl
    have e73 : b 166 73 = fdP W H y v m p := by rw [hb]; exact spB_r73
    have hs1 := spP_s (W := W) (H := H) (y := y) (v := v) (m := m) (p := p)
    have hs2 := fdP_s (W := W) (H := H) (y := y) (v := v) (m := m) (p := p)
    refine Ev.steps (k := 5) (pc' := 37) (L' := [Vr 166, Vi (e : Int), Vi (v : Int), Vi (y : Int), Vi (m : Int), Vi (p : Int), z]) (S' := [Vi (b 166 12), Vr 170, Vi (p : Int)]) (h' := ((SHv st dr rd), (ovl a s b))) (fun _ => rfl) ?_
    rw [e12]
    refine Ev.iald (v := (W : Int)) rfl (by decide) rfl (by omega) (by omega) (e170) ?_
    refine Ev.ite (P := (W : Int) ≤ (p : Int)) (k := 1) (a := 105) (b := 41) (L' := [Vr 166, Vi (e : Int), Vi (v : Int), Vi (y : Int), Vi (m : Int), Vi (p : Int), z]) (S' := []) (h' := ((SHv st dr rd), (ovl a s b))) (fun _ => rfl) (fun b38 => ?_) (fun b38 => ?_)
    · obtain rfl : p = W := by omega
      subst hb
      exact K z
    · have hpw : p < W := by omega
      refine Ev.steps (k := 5) (pc' := 47) (L' := [Vr 166, Vi (e : Int), Vi (v : Int), Vi (y : Int), Vi (m : Int), Vi (p : Int), z]) (S' := [Vi (i_and (i_shr (y : Int) (p : Int)) 1)]) (h' := ((SHv st dr rd), (ovl a s b))) (fun _ => rfl) ?_
      rw [show (i_and (i_shr (y : Int) (p : Int)) 1) = (if y.testBit p = true then 1 else 0) from i_bit (by omega) (by omega)]
      refine Ev.ite (P := (if y.testBit p = true then 1 else 0) ≠ 0) (k := 1) (a := 53) (b := 50) (L' := [Vr 166, Vi (e : Int), Vi (v : Int), Vi (y : Int), Vi (m : Int), Vi (p : Int), z]) (S' := []) (h' := ((SHv st dr rd), (ovl a s b))) (fun _ => rfl) (fun b47 => ?_) (fun b47 => ?_)
      · have ht : y.testBit p = true := by
          by_cases h : y.testBit p = true
          · exact h
          · rw [if_neg h] at b47
            omega
        refine Ev.call (k := 5) (pc1 := 60) (L1 := [Vr 166, Vi (e : Int), Vi (v : Int), Vi (y : Int), Vi (m : Int), Vi (p : Int), z]) (S1 := [Vi (m : Int), Vi (v : Int), Vi (p : Int), Vi (e : Int), Vr 166]) (h1 := ((SHv st dr rd), (ovl a s b))) (m' := 223) (as := [Vr 166, Vi (e : Int), Vi (p : Int), Vi (v : Int), Vi (m : Int)]) (S' := []) (L0 := [Vr 166, Vi (e : Int), Vi (p : Int), Vi (v : Int), Vi (m : Int), Vx]) (fun _ => rfl) rfl rfl rfl rfl rfl rfl (m_seesN e m p v (H m) he (by omega) (by omega) (by omega) (eR m hm p hpw).1 (eR m hm v hv).1 (eR m hm p hpw).2 (eR m hm v hv).2) (fun r h' hq => ?_)
        obtain ⟨rfl, rfl⟩ := hq
        show Ev X _ _ 63 [Vr 166, Vi (e : Int), Vi (v : Int), Vi (y : Int), Vi (m : Int), Vi (p : Int), z] [Vi (seeS (H m) p v)] ((SHv st dr rd), (ovl a s b)) _
        refine Ev.ite (P := (seeS (H m) p v) ≠ 1) (k := 4) (a := 79) (b := 71) (L' := [Vr 166, Vi (e : Int), Vi (v : Int), Vi (y : Int), Vi (m : Int), Vi (p : Int), Vi (seeS (H m) p v)]) (S' := []) (h' := ((SHv st dr rd), (ovl a s b))) (fun _ => rfl) (fun b68 => ?_) (fun b68 => ?_)
        · refine Ev.ite (P := (seeS (H m) p v) ≠ 2) (k := 3) (a := 99) (b := 85) (L' := [Vr 166, Vi (e : Int), Vi (v : Int), Vi (y : Int), Vi (m : Int), Vi (p : Int), Vi (seeS (H m) p v)]) (S' := []) (h' := ((SHv st dr rd), (ovl a s b))) (fun _ => rfl) (fun b82 => ?_) (fun b82 => ?_)
          · refine Ev.steps (k := 1) (pc' := 102) (L' := [Vr 166, Vi (e : Int), Vi (v : Int), Vi (y : Int), Vi (m : Int), Vi (w32 ((p : Int) + 1)), Vi (seeS (H m) p v)]) (S' := []) (h' := ((SHv st dr rd), (ovl a s b))) (fun _ => rfl) ?_
            rw [show (w32 ((p : Int) + 1)) = ((p : Int) + 1) from w32_id (by unfold R32; omega)]
            refine Ev.steps (k := 1) (pc' := 27) (L' := [Vr 166, Vi (e : Int), Vi (v : Int), Vi (y : Int), Vi (m : Int), Vi ((p : Int) + 1), Vi (seeS (H m) p v)]) (S' := []) (h' := ((SHv st dr rd), (ovl a s b))) (fun _ => rfl) ?_
            first
              | (exfalso; omega)
              | (first
                   | rw [if_pos ⟨by assumption, by omega⟩] at hs1
                   | rw [if_neg (by exact fun h => ht h.1)] at hs1
                   | rw [if_neg (by exact fun h => by omega)] at hs1
                 first
                   | rw [if_pos ⟨by assumption, by omega, by omega⟩] at hs2
                   | rw [if_neg (by exact fun h => ht h.1)] at hs2
                   | rw [if_neg (by exact fun h => by omega)] at hs2
                 refine ih _ (by omega) (b := b) (p + 1) _ (by omega) ?_ rfl
                 first
                   | (rw [hs1, hs2, hb]; done)
                   | (rw [hs1, hs2, hb]; exact spB_72)
                   | (rw [hs1, hs2, hb]; exact spB_73))
          · refine Ev.steps (k := 2) (pc' := 89) (L' := [Vr 166, Vi (e : Int), Vi (v : Int), Vi (y : Int), Vi (m : Int), Vi (p : Int), Vi (seeS (H m) p v)]) (S' := [Vi (b 166 73)]) (h' := ((SHv st dr rd), (ovl a s b))) (fun _ => rfl) ?_
            rw [e73]
            refine Ev.ite (P := (fdP W H y v m p) ≠ (-1)) (k := 2) (a := 99) (b := 93) (L' := [Vr 166, Vi (e : Int), Vi (v : Int), Vi (y : Int), Vi (m : Int), Vi (p : Int), Vi (seeS (H m) p v)]) (S' := []) (h' := ((SHv st dr rd), (ovl a s b))) (fun _ => rfl) (fun b90 => ?_) (fun b90 => ?_)
            · refine Ev.steps (k := 1) (pc' := 102) (L' := [Vr 166, Vi (e : Int), Vi (v : Int), Vi (y : Int), Vi (m : Int), Vi (w32 ((p : Int) + 1)), Vi (seeS (H m) p v)]) (S' := []) (h' := ((SHv st dr rd), (ovl a s b))) (fun _ => rfl) ?_
              rw [show (w32 ((p : Int) + 1)) = ((p : Int) + 1) from w32_id (by unfold R32; omega)]
              refine Ev.steps (k := 1) (pc' := 27) (L' := [Vr 166, Vi (e : Int), Vi (v : Int), Vi (y : Int), Vi (m : Int), Vi ((p : Int) + 1), Vi (seeS (H m) p v)]) (S' := []) (h' := ((SHv st dr rd), (ovl a s b))) (fun _ => rfl) ?_
              first
                | (exfalso; omega)
                | (first
                     | rw [if_pos ⟨by assumption, by omega⟩] at hs1
                     | rw [if_neg (by exact fun h => ht h.1)] at hs1
                     | rw [if_neg (by exact fun h => by omega)] at hs1
                   first
                     | rw [if_pos ⟨by assumption, by omega, by omega⟩] at hs2
                     | rw [if_neg (by exact fun h => ht h.1)] at hs2
                     | rw [if_neg (by exact fun h => by omega)] at hs2
                   refine ih _ (by omega) (b := b) (p + 1) _ (by omega) ?_ rfl
                   first
                     | (rw [hs1, hs2, hb]; done)
                     | (rw [hs1, hs2, hb]; exact spB_72)
                     | (rw [hs1, hs2, hb]; exact spB_73))
            · refine Ev.steps (k := 2) (pc' := 96) (L' := [Vr 166, Vi (e : Int), Vi (v : Int), Vi (y : Int), Vi (m : Int), Vi (p : Int), Vi (seeS (H m) p v)]) (S' := [Vi (m : Int), Vr 166]) (h' := ((SHv st dr rd), (ovl a s b))) (fun _ => rfl) ?_
              refine Ev.putf (c' := (ovl a s (updC b 166 73 (m : Int)))) rfl (by decide) rfl rfl rfl (ovl_wm (by decide)) ?_
              refine Ev.steps (k := 1) (pc' := 102) (L' := [Vr 166, Vi (e : Int), Vi (v : Int), Vi (y : Int), Vi (m : Int), Vi (w32 ((p : Int) + 1)), Vi (seeS (H m) p v)]) (S' := []) (h' := ((SHv st dr rd), (ovl a s (updC b 166 73 (m : Int))))) (fun _ => rfl) ?_
              rw [show (w32 ((p : Int) + 1)) = ((p : Int) + 1) from w32_id (by unfold R32; omega)]
              refine Ev.steps (k := 1) (pc' := 27) (L' := [Vr 166, Vi (e : Int), Vi (v : Int), Vi (y : Int), Vi (m : Int), Vi ((p : Int) + 1), Vi (seeS (H m) p v)]) (S' := []) (h' := ((SHv st dr rd), (ovl a s (updC b 166 73 (m : Int))))) (fun _ => rfl) ?_
              first
                | (exfalso; omega)
                | (first
                     | rw [if_pos ⟨by assumption, by omega⟩] at hs1
                     | rw [if_neg (by exact fun h => ht h.1)] at hs1
                     | rw [if_neg (by exact fun h => by omega)] at hs1
                   first
                     | rw [if_pos ⟨by assumption, by omega, by omega⟩] at hs2
                     | rw [if_neg (by exact fun h => ht h.1)] at hs2
                     | rw [if_neg (by exact fun h => by omega)] at hs2
                   refine ih _ (by omega) (b := (updC b 166 73 (m : Int))) (p + 1) _ (by omega) ?_ rfl
                   first
                     | (rw [hs1, hs2, hb]; done)
                     | (rw [hs1, hs2, hb]; exact spB_72)
                     | (rw [hs1, hs2, hb]; exact spB_73))
        · refine Ev.steps (k := 4) (pc' := 76) (L' := [Vr 166, Vi (e : Int), Vi (v : Int), Vi (y : Int), Vi (m : Int), Vi (p : Int), Vi (seeS (H m) p v)]) (S' := [Vi (w32 ((m : Int) + 1)), Vr 166]) (h' := ((SHv st dr rd), (ovl a s b))) (fun _ => rfl) ?_
          rw [show (w32 ((m : Int) + 1)) = ((m : Int) + 1) from w32_id (by unfold R32; omega)]
          refine Ev.putf (c' := (ovl a s (updC b 166 72 ((m : Int) + 1)))) rfl (by decide) rfl rfl rfl (ovl_wm (by decide)) ?_
          refine Ev.ite (P := (seeS (H m) p v) ≠ 2) (k := 3) (a := 99) (b := 85) (L' := [Vr 166, Vi (e : Int), Vi (v : Int), Vi (y : Int), Vi (m : Int), Vi (p : Int), Vi (seeS (H m) p v)]) (S' := []) (h' := ((SHv st dr rd), (ovl a s (updC b 166 72 ((m : Int) + 1))))) (fun _ => rfl) (fun b82 => ?_) (fun b82 => ?_)
          · refine Ev.steps (k := 1) (pc' := 102) (L' := [Vr 166, Vi (e : Int), Vi (v : Int), Vi (y : Int), Vi (m : Int), Vi (w32 ((p : Int) + 1)), Vi (seeS (H m) p v)]) (S' := []) (h' := ((SHv st dr rd), (ovl a s (updC b 166 72 ((m : Int) + 1))))) (fun _ => rfl) ?_
            rw [show (w32 ((p : Int) + 1)) = ((p : Int) + 1) from w32_id (by unfold R32; omega)]
            refine Ev.steps (k := 1) (pc' := 27) (L' := [Vr 166, Vi (e : Int), Vi (v : Int), Vi (y : Int), Vi (m : Int), Vi ((p : Int) + 1), Vi (seeS (H m) p v)]) (S' := []) (h' := ((SHv st dr rd), (ovl a s (updC b 166 72 ((m : Int) + 1))))) (fun _ => rfl) ?_
            first
              | (exfalso; omega)
              | (first
                   | rw [if_pos ⟨by assumption, by omega⟩] at hs1
                   | rw [if_neg (by exact fun h => ht h.1)] at hs1
                   | rw [if_neg (by exact fun h => by omega)] at hs1
                 first
                   | rw [if_pos ⟨by assumption, by omega, by omega⟩] at hs2
                   | rw [if_neg (by exact fun h => ht h.1)] at hs2
                   | rw [if_neg (by exact fun h => by omega)] at hs2
                 refine ih _ (by omega) (b := (updC b 166 72 ((m : Int) + 1))) (p + 1) _ (by omega) ?_ rfl
                 first
                   | (rw [hs1, hs2, hb]; done)
                   | (rw [hs1, hs2, hb]; exact spB_72)
                   | (rw [hs1, hs2, hb]; exact spB_73))
          · refine Ev.steps (k := 2) (pc' := 89) (L' := [Vr 166, Vi (e : Int), Vi (v : Int), Vi (y : Int), Vi (m : Int), Vi (p : Int), Vi (seeS (H m) p v)]) (S' := [Vi (b 166 73)]) (h' := ((SHv st dr rd), (ovl a s (updC b 166 72 ((m : Int) + 1))))) (fun _ => rfl) ?_
            rw [e73]
            refine Ev.ite (P := (fdP W H y v m p) ≠ (-1)) (k := 2) (a := 99) (b := 93) (L' := [Vr 166, Vi (e : Int), Vi (v : Int), Vi (y : Int), Vi (m : Int), Vi (p : Int), Vi (seeS (H m) p v)]) (S' := []) (h' := ((SHv st dr rd), (ovl a s (updC b 166 72 ((m : Int) + 1))))) (fun _ => rfl) (fun b90 => ?_) (fun b90 => ?_)
            · refine Ev.steps (k := 1) (pc' := 102) (L' := [Vr 166, Vi (e : Int), Vi (v : Int), Vi (y : Int), Vi (m : Int), Vi (w32 ((p : Int) + 1)), Vi (seeS (H m) p v)]) (S' := []) (h' := ((SHv st dr rd), (ovl a s (updC b 166 72 ((m : Int) + 1))))) (fun _ => rfl) ?_
              rw [show (w32 ((p : Int) + 1)) = ((p : Int) + 1) from w32_id (by unfold R32; omega)]
              refine Ev.steps (k := 1) (pc' := 27) (L' := [Vr 166, Vi (e : Int), Vi (v : Int), Vi (y : Int), Vi (m : Int), Vi ((p : Int) + 1), Vi (seeS (H m) p v)]) (S' := []) (h' := ((SHv st dr rd), (ovl a s (updC b 166 72 ((m : Int) + 1))))) (fun _ => rfl) ?_
              first
                | (exfalso; omega)
                | (first
                     | rw [if_pos ⟨by assumption, by omega⟩] at hs1
                     | rw [if_neg (by exact fun h => ht h.1)] at hs1
                     | rw [if_neg (by exact fun h => by omega)] at hs1
                   first
                     | rw [if_pos ⟨by assumption, by omega, by omega⟩] at hs2
                     | rw [if_neg (by exact fun h => ht h.1)] at hs2
                     | rw [if_neg (by exact fun h => by omega)] at hs2
                   refine ih _ (by omega) (b := (updC b 166 72 ((m : Int) + 1))) (p + 1) _ (by omega) ?_ rfl
                   first
                     | (rw [hs1, hs2, hb]; done)
                     | (rw [hs1, hs2, hb]; exact spB_72)
                     | (rw [hs1, hs2, hb]; exact spB_73))
            · refine Ev.steps (k := 2) (pc' := 96) (L' := [Vr 166, Vi (e : Int), Vi (v : Int), Vi (y : Int), Vi (m : Int), Vi (p : Int), Vi (seeS (H m) p v)]) (S' := [Vi (m : Int), Vr 166]) (h' := ((SHv st dr rd), (ovl a s (updC b 166 72 ((m : Int) + 1))))) (fun _ => rfl) ?_
              refine Ev.putf (c' := (ovl a s (updC (updC b 166 72 ((m : Int) + 1)) 166 73 (m : Int)))) rfl (by decide) rfl rfl rfl (ovl_wm (by decide)) ?_
              refine Ev.steps (k := 1) (pc' := 102) (L' := [Vr 166, Vi (e : Int), Vi (v : Int), Vi (y : Int), Vi (m : Int), Vi (w32 ((p : Int) + 1)), Vi (seeS (H m) p v)]) (S' := []) (h' := ((SHv st dr rd), (ovl a s (updC (updC b 166 72 ((m : Int) + 1)) 166 73 (m : Int))))) (fun _ => rfl) ?_
              rw [show (w32 ((p : Int) + 1)) = ((p : Int) + 1) from w32_id (by unfold R32; omega)]
              refine Ev.steps (k := 1) (pc' := 27) (L' := [Vr 166, Vi (e : Int), Vi (v : Int), Vi (y : Int), Vi (m : Int), Vi ((p : Int) + 1), Vi (seeS (H m) p v)]) (S' := []) (h' := ((SHv st dr rd), (ovl a s (updC (updC b 166 72 ((m : Int) + 1)) 166 73 (m : Int))))) (fun _ => rfl) ?_
              first
                | (exfalso; omega)
                | (first
                     | rw [if_pos ⟨by assumption, by omega⟩] at hs1
                     | rw [if_neg (by exact fun h => ht h.1)] at hs1
                     | rw [if_neg (by exact fun h => by omega)] at hs1
                   first
                     | rw [if_pos ⟨by assumption, by omega, by omega⟩] at hs2
                     | rw [if_neg (by exact fun h => ht h.1)] at hs2
                     | rw [if_neg (by exact fun h => by omega)] at hs2
                   refine ih _ (by omega) (b := (updC (updC b 166 72 ((m : Int) + 1)) 166 73 (m : Int))) (p + 1) _ (by omega) ?_ rfl
                   first
                     | (rw [hs1, hs2, hb]; done)
                     | (rw [hs1, hs2, hb]; exact spB_72)
                     | (rw [hs1, hs2, hb]; exact spB_73))
      · have ht : ¬ y.testBit p = true := by
          intro h
          rw [if_pos h] at b47
          omega
        refine Ev.steps (k := 2) (pc' := 102) (L' := [Vr 166, Vi (e : Int), Vi (v : Int), Vi (y : Int), Vi (m : Int), Vi (w32 ((p : Int) + 1)), z]) (S' := []) (h' := ((SHv st dr rd), (ovl a s b))) (fun _ => rfl) ?_
        rw [show (w32 ((p : Int) + 1)) = ((p : Int) + 1) from w32_id (by unfold R32; omega)]
        refine Ev.steps (k := 1) (pc' := 27) (L' := [Vr 166, Vi (e : Int), Vi (v : Int), Vi (y : Int), Vi (m : Int), Vi ((p : Int) + 1), z]) (S' := []) (h' := ((SHv st dr rd), (ovl a s b))) (fun _ => rfl) ?_
        first
          | (exfalso; omega)
          | (first
               | rw [if_pos ⟨by assumption, by omega⟩] at hs1
               | rw [if_neg (by exact fun h => ht h.1)] at hs1
               | rw [if_neg (by exact fun h => by omega)] at hs1
             first
               | rw [if_pos ⟨by assumption, by omega, by omega⟩] at hs2
               | rw [if_neg (by exact fun h => ht h.1)] at hs2
               | rw [if_neg (by exact fun h => by omega)] at hs2
             refine ih _ (by omega) (b := b) (p + 1) _ (by omega) ?_ rfl
             first
               | (rw [hs1, hs2, hb]; done)
               | (rw [hs1, hs2, hb]; exact spB_72)
               | (rw [hs1, hs2, hb]; exact spB_73))
theorem m_spans_m {X : List Int} {d : Nat} {st dr rd : Int} {a s b : C3} (y v : Nat) {e N W : Nat} {H : Nat → SC} {bk : Nat} {b0 : C3} (hW8 : W ≤ 8) (hbk : bk < 2) (he : e < 2) (hN : N < 180) (h12 : b0 166 12 = (bk : Int)) (h170 : b0 170 bk = (W : Int)) (h202 : b0 202 e = ((N + 1 : Nat) : Int)) (hR : RowH W H b0 e (N + 1)) (hy : y < 256) (hv : v < W) {b1 : C3} (m : Nat) (z w : pm_V) (hm : m ≤ N + 1) (hb : b = spB b0 ((spfF W H y v m : Nat) : Int) (fdI W H y v m)) : Ev X (d + 2) 241 13 [Vr 166, Vi (e : Int), Vi (v : Int), Vi (y : Int), Vi (m : Int), z, w] [] (SHv st dr rd, ovl a s b) (fun rr hh => rr = none ∧ hh = (SHv st dr rd, ovl a s (spB b0 ((spfF W H y v (N + 1) : Nat) : Int) ((sptF W H N y v : Nat) : Int)))) := by
  induction hk : (N + 1 - m) using Nat.strongRecOn generalizing m z w b with
  | ind k ih =>
    have e202 : b 202 e = ((N + 1 : Nat) : Int) := by rw [hb]; exact h202
    have e73 : b 166 73 = fdI W H y v m := by rw [hb]; exact spB_r73
    refine Ev.steps (k := 4) (pc' := 20) (L' := [Vr 166, Vi (e : Int), Vi (v : Int), Vi (y : Int), Vi (m : Int), z, w]) (S' := [Vi (e : Int), Vr 202, Vi (m : Int)]) (h' := ((SHv st dr rd), (ovl a s b))) (fun _ => rfl) ?_
    refine Ev.iald (v := ((N + 1 : Nat) : Int)) rfl (by decide) rfl (by omega) (by omega) (e202) ?_
    refine Ev.ite (P := ((N + 1 : Nat) : Int) ≤ (m : Int)) (k := 1) (a := 111) (b := 24) (L' := [Vr 166, Vi (e : Int), Vi (v : Int), Vi (y : Int), Vi (m : Int), z, w]) (S' := []) (h' := ((SHv st dr rd), (ovl a s b))) (fun _ => rfl) (fun b21 => ?_) (fun b21 => ?_)
    · refine Ev.steps (k := 3) (pc' := 116) (L' := [Vr 166, Vi (e : Int), Vi (v : Int), Vi (y : Int), Vi (m : Int), z, w]) (S' := [Vi (b 166 73), Vr 166]) (h' := ((SHv st dr rd), (ovl a s b))) (fun _ => rfl) ?_
      rw [e73]
      refine Ev.ite (P := (fdI W H y v m) ≠ (-1)) (k := 2) (a := 131) (b := 120) (L' := [Vr 166, Vi (e : Int), Vi (v : Int), Vi (y : Int), Vi (m : Int), z, w]) (S' := [Vr 166]) (h' := ((SHv st dr rd), (ovl a s b))) (fun _ => rfl) (fun b117 => ?_) (fun b117 => ?_)
      · refine Ev.steps (k := 2) (pc' := 135) (L' := [Vr 166, Vi (e : Int), Vi (v : Int), Vi (y : Int), Vi (m : Int), z, w]) (S' := [Vi (b 166 73), Vr 166]) (h' := ((SHv st dr rd), (ovl a s b))) (fun _ => rfl) ?_
        rw [e73]
        refine Ev.putf (c' := (ovl a s (updC b 166 73 (fdI W H y v m)))) rfl (by decide) rfl rfl rfl (ovl_wm (by decide)) ?_
        refine Ev.fin (k := 1) (r := none) (h' := ((SHv st dr rd), (ovl a s (updC b 166 73 (fdI W H y v m))))) (fun _ => rfl) ?_
        obtain rfl : m = N + 1 := by omega
        refine ⟨rfl, ?_⟩
        have hf : fdI W H y v (N + 1) = if lst (fdF W H y v) (N + 1) < N + 1 then ((lst (fdF W H y v) (N + 1) : Nat) : Int) else -1 := rfl
        have hS : sptF W H N y v = if lst (fdF W H y v) (N + 1) < N + 1 then lst (fdF W H y v) (N + 1) else N := rfl
        rw [hb, spB_73]
        by_cases h : lst (fdF W H y v) (N + 1) < N + 1
        · rw [if_pos h] at hf hS
          rw [hS]
          all_goals first
            | (exfalso; omega)
            | rw [hf]
            | rfl
        · rw [if_neg h] at hf hS
          rw [hS]
          all_goals first
            | (exfalso; omega)
            | rfl
      · refine Ev.steps (k := 3) (pc' := 125) (L' := [Vr 166, Vi (e : Int), Vi (v : Int), Vi (y : Int), Vi (m : Int), z, w]) (S' := [Vi (e : Int), Vr 202, Vr 166]) (h' := ((SHv st dr rd), (ovl a s b))) (fun _ => rfl) ?_
        refine Ev.iald (v := ((N + 1 : Nat) : Int)) rfl (by decide) rfl (by omega) (by omega) (e202) ?_
        refine Ev.steps (k := 2) (pc' := 128) (L' := [Vr 166, Vi (e : Int), Vi (v : Int), Vi (y : Int), Vi (m : Int), z, w]) (S' := [Vi (w32 (((N + 1 : Nat) : Int) - 1)), Vr 166]) (h' := ((SHv st dr rd), (ovl a s b))) (fun _ => rfl) ?_
        rw [show (w32 (((N + 1 : Nat) : Int) - 1)) = (N : Int) from by unfold w32; omega]
        refine Ev.steps (k := 1) (pc' := 135) (L' := [Vr 166, Vi (e : Int), Vi (v : Int), Vi (y : Int), Vi (m : Int), z, w]) (S' := [Vi (N : Int), Vr 166]) (h' := ((SHv st dr rd), (ovl a s b))) (fun _ => rfl) ?_
        refine Ev.putf (c' := (ovl a s (updC b 166 73 (N : Int)))) rfl (by decide) rfl rfl rfl (ovl_wm (by decide)) ?_
        refine Ev.fin (k := 1) (r := none) (h' := ((SHv st dr rd), (ovl a s (updC b 166 73 (N : Int))))) (fun _ => rfl) ?_
        obtain rfl : m = N + 1 := by omega
        refine ⟨rfl, ?_⟩
        have hf : fdI W H y v (N + 1) = if lst (fdF W H y v) (N + 1) < N + 1 then ((lst (fdF W H y v) (N + 1) : Nat) : Int) else -1 := rfl
        have hS : sptF W H N y v = if lst (fdF W H y v) (N + 1) < N + 1 then lst (fdF W H y v) (N + 1) else N := rfl
        rw [hb, spB_73]
        by_cases h : lst (fdF W H y v) (N + 1) < N + 1
        · rw [if_pos h] at hf hS
          rw [hS]
          all_goals first
            | (exfalso; omega)
            | rw [hf]
            | rfl
        · rw [if_neg h] at hf hS
          rw [hS]
          all_goals first
            | (exfalso; omega)
            | rfl
    · refine Ev.steps (k := 2) (pc' := 27) (L' := [Vr 166, Vi (e : Int), Vi (v : Int), Vi (y : Int), Vi (m : Int), Vi 0, w]) (S' := []) (h' := ((SHv st dr rd), (ovl a s b))) (fun _ => rfl) ?_
      refine m_spans_p y v m hW8 hbk he hN h12 h170 h202 hR hy hv (by omega) (fun z2 => ?_) 0 _ (by omega) (by rw [spP_0, fdP_0]; exact hb)
      rw [spP_W, fdP_W]
      refine Ev.steps (k := 2) (pc' := 13) (L' := [Vr 166, Vi (e : Int), Vi (v : Int), Vi (y : Int), Vi ((m : Int) + 1), Vi (W : Int), z2]) (S' := []) (h' := (SHv st dr rd, ovl a s _)) (fun _ => ?_) (ih _ (by omega) (b := _) (m + 1) _ _ (by omega) rfl rfl)
      show some (13, [Vr 166, Vi (e : Int), Vi (v : Int), Vi (y : Int), Vi (w32 ((m : Int) + 1)), Vi (W : Int), z2], [], _) = _
      rw [show w32 ((m : Int) + 1) = (m : Int) + 1 from w32_id (by unfold R32; omega)]
theorem m_spans {X : List Int} {d : Nat} {st dr rd : Int} {a s b : C3} (y v : Nat) {e N W : Nat} {H : Nat → SC} {bk : Nat} (hW8 : W ≤ 8) (hbk : bk < 2) (he : e < 2) (hN : N < 180) (h12 : b 166 12 = (bk : Int)) (h170 : b 170 bk = (W : Int)) (h202 : b 202 e = ((N + 1 : Nat) : Int)) (hR : RowH W H b e (N + 1)) (hy : y < 256) (hv : v < W) : Ev X (d + 2) 241 0 [Vr 166, Vi (e : Int), Vi (v : Int), Vi (y : Int), Vx, Vx, Vx] [] (SHv st dr rd, ovl a s b) (fun rr hh => rr = none ∧ hh = (SHv st dr rd, ovl a s (spB b ((spfF W H y v (N + 1) : Nat) : Int) ((sptF W H N y v : Nat) : Int)))) := by
  refine Ev.steps (k := 2) (pc' := 2) (L' := [Vr 166, Vi (e : Int), Vi (v : Int), Vi (y : Int), Vx, Vx, Vx]) (S' := [Vi 0, Vr 166]) (h' := ((SHv st dr rd), (ovl a s b))) (fun _ => rfl) ?_
  refine Ev.putf (c' := (ovl a s (updC b 166 72 0))) rfl (by decide) rfl rfl rfl (ovl_wm (by decide)) ?_
  refine Ev.steps (k := 2) (pc' := 7) (L' := [Vr 166, Vi (e : Int), Vi (v : Int), Vi (y : Int), Vx, Vx, Vx]) (S' := [Vi (-1), Vr 166]) (h' := ((SHv st dr rd), (ovl a s (updC b 166 72 0)))) (fun _ => rfl) ?_
  refine Ev.putf (c' := (ovl a s (updC (updC b 166 72 0) 166 73 (-1)))) rfl (by decide) rfl rfl rfl (ovl_wm (by decide)) ?_
  refine Ev.steps (k := 2) (pc' := 13) (L' := [Vr 166, Vi (e : Int), Vi (v : Int), Vi (y : Int), Vi 0, Vx, Vx]) (S' := []) (h' := ((SHv st dr rd), (ovl a s (updC (updC b 166 72 0) 166 73 (-1))))) (fun _ => rfl) ?_
  exact m_spans_m y v hW8 hbk he hN h12 h170 h202 hR hy hv (b1 := b) 0 _ _ (by omega) rfl
