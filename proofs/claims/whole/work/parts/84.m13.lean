/-! THE REFERENCE: who could, whom to ask -/
theorem bitS_h : ∀ (j x : Nat), bitS x (j + 1) = x % 2 + bitS (x / 2) j
  | 0, x => by
    show 0 + (if x.testBit 0 = true then 1 else 0) = x % 2 + 0
    rw [Nat.testBit_zero]
    have := Nat.mod_two_eq_zero_or_one x
    rcases this with h | h <;> simp [h]
  | j + 1, x => by
    show bitS x (j + 1) + (if x.testBit (j + 1) = true then 1 else 0) = x % 2 + (bitS (x / 2) j + (if (x / 2).testBit j = true then 1 else 0))
    rw [bitS_h j x, Nat.testBit_succ]
    omega
theorem bitS_0 : ∀ j : Nat, bitS 0 j = 0
  | 0 => rfl
  | j + 1 => by
    show bitS 0 j + (if (0 : Nat).testBit j = true then 1 else 0) = 0
    rw [bitS_0 j, Nat.zero_testBit]
    rfl
theorem bitS_le : ∀ (x j : Nat), bitS x j ≤ j
  | x, 0 => Nat.le_refl 0
  | x, j + 1 => by
    have := bitS_le x j
    show bitS x j + (if x.testBit j = true then 1 else 0) ≤ j + 1
    split <;> omega
theorem m_bits_l {X : List Int} {d : Nat} {st dr rd : Int} {a s b : C3} : ∀ (j x n : Nat), j ≤ 8 → n + j ≤ 8 → x < 2 ^ j → ∀ w : Int, Ev X d 247 4 [Vi w, Vi (n : Int), Vi (x : Int)] [] (SHv st dr rd, ovl a s b) (fun rr hh => rr = some (Vi ((n + bitS x j : Nat) : Int)) ∧ hh = (SHv st dr rd, ovl a s b)) := by
  intro j
  induction j with
  | zero =>
    intro x n hj hn hx w
    obtain rfl : x = 0 := by have : x < 1 := hx; omega
    refine Ev.fin (k := 4) (r := (some (Vi (n : Int)))) (h' := ((SHv st dr rd), (ovl a s b))) (fun _ => rfl) ?_
    exact ⟨rfl, rfl⟩
  | succ j ih =>
    intro x n hj hn hx w
    have hp2 := pw2 j
    have hp8 := pw8 (k := j) (by omega)
    have hbh := bitS_h j x
    have hsh := i_ushr_nat (x := x) (k := 1) (by omega) (by omega)
    have han := i_and_nat (x := x) (y := 1) (by omega) (by omega)
    rw [Nat.and_one_is_mod] at han
    refine Ev.ite (P := (x : Int) = 0) (k := 2) (a := 21) (b := 8) (L' := [Vi w, Vi (n : Int), Vi (x : Int)]) (S' := []) (h' := ((SHv st dr rd), (ovl a s b))) (fun _ => rfl) (fun b5 => ?_) (fun b5 => ?_)
    · refine Ev.fin (k := 2) (r := (some (Vi (n : Int)))) (h' := ((SHv st dr rd), (ovl a s b))) (fun _ => rfl) ?_
      obtain rfl : x = 0 := by omega
      refine ⟨?_, rfl⟩
      rw [bitS_0, Nat.add_zero]
    · refine Ev.steps (k := 4) (pc' := 12) (L' := [Vi w, Vi (n : Int), Vi (x : Int)]) (S' := [Vi (i_and (x : Int) 1), Vi (n : Int)]) (h' := ((SHv st dr rd), (ovl a s b))) (fun _ => rfl) ?_
      rw [show (i_and (x : Int) 1) = ((x % 2 : Nat) : Int) from han]
      refine Ev.steps (k := 1) (pc' := 13) (L' := [Vi w, Vi (n : Int), Vi (x : Int)]) (S' := [Vi (w32 ((n : Int) + ((x % 2 : Nat) : Int)))]) (h' := ((SHv st dr rd), (ovl a s b))) (fun _ => rfl) ?_
      rw [show (w32 ((n : Int) + ((x % 2 : Nat) : Int))) = ((n + x % 2 : Nat) : Int) from by unfold w32; omega]
      refine Ev.steps (k := 4) (pc' := 17) (L' := [Vi w, Vi ((n + x % 2 : Nat) : Int), Vi (x : Int)]) (S' := [Vi (i_ushr (x : Int) 1)]) (h' := ((SHv st dr rd), (ovl a s b))) (fun _ => rfl) ?_
      rw [show (i_ushr (x : Int) 1) = ((x / 2 : Nat) : Int) from by rw [show x / 2 = x / 2 ^ 1 by simp]; exact hsh]
      refine Ev.steps (k := 2) (pc' := 4) (L' := [Vi w, Vi ((n + x % 2 : Nat) : Int), Vi ((x / 2 : Nat) : Int)]) (S' := []) (h' := ((SHv st dr rd), (ovl a s b))) (fun _ => rfl) ?_
      refine Ev.mono (ih (x / 2) (n + x % 2) (by omega) (by omega) (by omega) w) (fun rr hh h => ⟨?_, h.2⟩)
      rw [h.1, hbh, Nat.add_assoc]
theorem m_bits {X : List Int} {d : Nat} {st dr rd : Int} {a s b : C3} (x : Nat) (hx : x < 256) : Ev X d 247 0 [Vi (x : Int), Vx, Vx] [] (SHv st dr rd, ovl a s b) (fun rr hh => rr = some (Vi ((bcS x : Nat) : Int)) ∧ hh = (SHv st dr rd, ovl a s b)) := by
  refine Ev.steps (k := 4) (pc' := 4) (L' := [Vi (x : Int), Vi 0, Vi (x : Int)]) (S' := []) (h' := ((SHv st dr rd), (ovl a s b))) (fun _ => rfl) ?_
  refine Ev.mono (m_bits_l 8 x 0 (by omega) (by omega) hx (x : Int)) (fun rr hh h => ⟨?_, h.2⟩)
  rw [h.1, Nat.zero_add]
theorem m_bitsI {X : List Int} {d : Nat} {st dr rd : Int} {a s b : C3} (l : Int) (hl : 0 ≤ l ∧ l < 256) : Ev X d 247 0 [Vi l, Vx, Vx] [] (SHv st dr rd, ovl a s b) (fun rr hh => rr = some (Vi ((bcS l.toNat : Nat) : Int)) ∧ hh = (SHv st dr rd, ovl a s b)) := by
  obtain ⟨x, rfl⟩ : ∃ x : Nat, l = x := ⟨l.toNat, by omega⟩
  rw [Int.toNat_natCast]
  exact m_bits x (by omega)
theorem m_everybody {X : List Int} {d : Nat} {st dr rd : Int} {a s b : C3} {W bk : Nat} (hW8 : W ≤ 8) (h12 : b 166 12 = (bk : Int)) (h170 : b 170 bk = (W : Int)) (hbk : bk < 2) : Ev X d 239 0 [Vr 166] [] (SHv st dr rd, ovl a s b) (fun rr hh => rr = some (Vi ((2 ^ W - 1 : Nat) : Int)) ∧ hh = (SHv st dr rd, ovl a s b)) := by
  refine Ev.steps (k := 5) (pc' := 9) (L' := [Vr 166]) (S' := [Vi (b 166 12), Vr 170, Vi 1]) (h' := ((SHv st dr rd), (ovl a s b))) (fun _ => rfl) ?_
  rw [h12]
  refine Ev.iald (v := (W : Int)) rfl (by decide) rfl (by omega) (by omega) (h170) ?_
  refine Ev.steps (k := 3) (pc' := 13) (L' := [Vr 166]) (S' := [Vi (w32 ((i_shl 1 (W : Int)) - 1))]) (h' := ((SHv st dr rd), (ovl a s b))) (fun _ => rfl) ?_
  rw [show (w32 ((i_shl 1 (W : Int)) - 1)) = ((2 ^ W - 1 : Nat) : Int) from by rw [i_shl1 (by omega)]; have := pw8 hW8; have := Nat.one_le_two_pow (n := W); unfold w32; omega]
  refine Ev.fin (k := 1) (r := (some (Vi ((2 ^ W - 1 : Nat) : Int)))) (h' := ((SHv st dr rd), (ovl a s b))) (fun _ => rfl) ?_
  exact ⟨rfl, rfl⟩
theorem m_clear_l {X : List Int} {d : Nat} {st dr rd : Int} {a s b : C3} (y v p m : Nat) {e N W : Nat} {H : Nat → SC} {bk : Nat} (hW8 : W ≤ 8) (hbk : bk < 2) (he : e < 2) (hN : N < 180) (h12 : b 166 12 = (bk : Int)) (h170 : b 170 bk = (W : Int)) (h202 : b 202 e = ((N + 1 : Nat) : Int)) (hR : RowH W H b e (N + 1)) (hy : y < 256) (hv : v < W) (hp : p < W) (hm : m < N + 1) (q : Nat) (z : pm_V) (hq : q ≤ W) (hn : ¬ ∃ r, r < q ∧ (r ≠ p ∧ y.testBit r = true ∧ (seeS (H m) r p = 2 ∨ seeS (H m) r p = 1 ∧ H m 0 p ≠ H N 0 v))) : Ev X (d + 2) 244 3 [Vr 166, Vi (e : Int), Vi (p : Int), Vi (H N 0 v), Vi (y : Int), Vi (m : Int), Vi (q : Int), z] [] (SHv st dr rd, ovl a s b) (fun rr hh => rr = some (Vi (if ClrF W H N y v p m then 1 else 0)) ∧ hh = (SHv st dr rd, ovl a s b)) := by
  induction hk : (W - q) using Nat.strongRecOn generalizing q z with
  | ind k ih =>
    refine Ev.steps (k := 5) (pc' := 13) (L' := [Vr 166, Vi (e : Int), Vi (p : Int), Vi (H N 0 v), Vi (y : Int), Vi (m : Int), Vi (q : Int), z]) (S' := [Vi (b 166 12), Vr 170, Vi (q : Int)]) (h' := ((SHv st dr rd), (ovl a s b))) (fun _ => rfl) ?_
    rw [h12]
    refine Ev.iald (v := (W : Int)) rfl (by decide) rfl (by omega) (by omega) (h170) ?_
    refine Ev.ite (P := (W : Int) ≤ (q : Int)) (k := 1) (a := 86) (b := 17) (L' := [Vr 166, Vi (e : Int), Vi (p : Int), Vi (H N 0 v), Vi (y : Int), Vi (m : Int), Vi (q : Int), z]) (S' := []) (h' := ((SHv st dr rd), (ovl a s b))) (fun _ => rfl) (fun b14 => ?_) (fun b14 => ?_)
    · refine Ev.fin (k := 2) (r := (some (Vi 0))) (h' := ((SHv st dr rd), (ovl a s b))) (fun _ => rfl) ?_
      obtain rfl : q = W := by omega
      refine ⟨?_, rfl⟩
      rw [if_neg hn]
    · have hqw : q < W := by omega
      refine Ev.ite (P := (q : Int) = (p : Int)) (k := 3) (a := 80) (b := 23) (L' := [Vr 166, Vi (e : Int), Vi (p : Int), Vi (H N 0 v), Vi (y : Int), Vi (m : Int), Vi (q : Int), z]) (S' := []) (h' := ((SHv st dr rd), (ovl a s b))) (fun _ => rfl) (fun b20 => ?_) (fun b20 => ?_)
      · refine Ev.steps (k := 1) (pc' := 83) (L' := [Vr 166, Vi (e : Int), Vi (p : Int), Vi (H N 0 v), Vi (y : Int), Vi (m : Int), Vi (w32 ((q : Int) + 1)), z]) (S' := []) (h' := ((SHv st dr rd), (ovl a s b))) (fun _ => rfl) ?_
        rw [show (w32 ((q : Int) + 1)) = ((q : Int) + 1) from w32_id (by unfold R32; omega)]
        refine Ev.steps (k := 1) (pc' := 3) (L' := [Vr 166, Vi (e : Int), Vi (p : Int), Vi (H N 0 v), Vi (y : Int), Vi (m : Int), Vi ((q : Int) + 1), z]) (S' := []) (h' := ((SHv st dr rd), (ovl a s b))) (fun _ => rfl) ?_
        refine ih _ (by omega) (q + 1) _ (by omega) (fun h => ?_) rfl
        rcases ex_s.mp h with h | ⟨h1, h2, h3⟩
        · exact hn h
        · first
            | exact ht h2
            | omega
      · refine Ev.steps (k := 5) (pc' := 30) (L' := [Vr 166, Vi (e : Int), Vi (p : Int), Vi (H N 0 v), Vi (y : Int), Vi (m : Int), Vi (q : Int), z]) (S' := [Vi (i_and (i_shr (y : Int) (q : Int)) 1)]) (h' := ((SHv st dr rd), (ovl a s b))) (fun _ => rfl) ?_
        rw [show (i_and (i_shr (y : Int) (q : Int)) 1) = (if y.testBit q = true then 1 else 0) from i_bit (by omega) (by omega)]
        refine Ev.ite (P := (if y.testBit q = true then 1 else 0) ≠ 0) (k := 1) (a := 36) (b := 33) (L' := [Vr 166, Vi (e : Int), Vi (p : Int), Vi (H N 0 v), Vi (y : Int), Vi (m : Int), Vi (q : Int), z]) (S' := []) (h' := ((SHv st dr rd), (ovl a s b))) (fun _ => rfl) (fun b30 => ?_) (fun b30 => ?_)
        · have ht : y.testBit q = true := by
            by_cases h : y.testBit q = true
            · exact h
            · rw [if_neg h] at b30
              omega
          refine Ev.call (k := 5) (pc1 := 43) (L1 := [Vr 166, Vi (e : Int), Vi (p : Int), Vi (H N 0 v), Vi (y : Int), Vi (m : Int), Vi (q : Int), z]) (S1 := [Vi (m : Int), Vi (p : Int), Vi (q : Int), Vi (e : Int), Vr 166]) (h1 := ((SHv st dr rd), (ovl a s b))) (m' := 223) (as := [Vr 166, Vi (e : Int), Vi (q : Int), Vi (p : Int), Vi (m : Int)]) (S' := []) (L0 := [Vr 166, Vi (e : Int), Vi (q : Int), Vi (p : Int), Vi (m : Int), Vx]) (fun _ => rfl) rfl rfl rfl rfl rfl rfl (m_seesN e m q p (H m) he (by omega) (by omega) (by omega) (hR m (by omega) q (by omega)).1 (hR m (by omega) p (by omega)).1 (hR m (by omega) q (by omega)).2 (hR m (by omega) p (by omega)).2) (fun r h' hq => ?_)
          obtain ⟨rfl, rfl⟩ := hq
          show Ev X _ _ 46 [Vr 166, Vi (e : Int), Vi (p : Int), Vi (H N 0 v), Vi (y : Int), Vi (m : Int), Vi (q : Int), z] [Vi (seeS (H m) q p)] ((SHv st dr rd), (ovl a s b)) _
          refine Ev.ite (P := (seeS (H m) q p) = 2) (k := 4) (a := 78) (b := 54) (L' := [Vr 166, Vi (e : Int), Vi (p : Int), Vi (H N 0 v), Vi (y : Int), Vi (m : Int), Vi (q : Int), Vi (seeS (H m) q p)]) (S' := []) (h' := ((SHv st dr rd), (ovl a s b))) (fun _ => rfl) (fun b51 => ?_) (fun b51 => ?_)
          · refine Ev.fin (k := 2) (r := (some (Vi 1))) (h' := ((SHv st dr rd), (ovl a s b))) (fun _ => rfl) ?_
            refine ⟨?_, rfl⟩
            rw [if_pos ⟨q, by omega, by omega, by assumption, by omega⟩]
          · refine Ev.ite (P := (seeS (H m) q p) ≠ 1) (k := 3) (a := 80) (b := 60) (L' := [Vr 166, Vi (e : Int), Vi (p : Int), Vi (H N 0 v), Vi (y : Int), Vi (m : Int), Vi (q : Int), Vi (seeS (H m) q p)]) (S' := []) (h' := ((SHv st dr rd), (ovl a s b))) (fun _ => rfl) (fun b57 => ?_) (fun b57 => ?_)
            · refine Ev.steps (k := 1) (pc' := 83) (L' := [Vr 166, Vi (e : Int), Vi (p : Int), Vi (H N 0 v), Vi (y : Int), Vi (m : Int), Vi (w32 ((q : Int) + 1)), Vi (seeS (H m) q p)]) (S' := []) (h' := ((SHv st dr rd), (ovl a s b))) (fun _ => rfl) ?_
              rw [show (w32 ((q : Int) + 1)) = ((q : Int) + 1) from w32_id (by unfold R32; omega)]
              refine Ev.steps (k := 1) (pc' := 3) (L' := [Vr 166, Vi (e : Int), Vi (p : Int), Vi (H N 0 v), Vi (y : Int), Vi (m : Int), Vi ((q : Int) + 1), Vi (seeS (H m) q p)]) (S' := []) (h' := ((SHv st dr rd), (ovl a s b))) (fun _ => rfl) ?_
              refine ih _ (by omega) (q + 1) _ (by omega) (fun h => ?_) rfl
              rcases ex_s.mp h with h | ⟨h1, h2, h3⟩
              · exact hn h
              · first
                  | exact ht h2
                  | omega
            · refine Ev.call (k := 5) (pc1 := 68) (L1 := [Vr 166, Vi (e : Int), Vi (p : Int), Vi (H N 0 v), Vi (y : Int), Vi (m : Int), Vi (q : Int), Vi (seeS (H m) q p)]) (S1 := [Vi (m : Int), Vi (e : Int), Vr 166, Vr 205]) (h1 := ((SHv st dr rd), (ovl a s b))) (m' := 206) (as := [Vr 166, Vi (e : Int), Vi (m : Int)]) (S' := [Vr 205]) (L0 := [Vr 166, Vi (e : Int), Vi (m : Int)]) (fun _ => rfl) rfl rfl rfl rfl rfl rfl (m_at (e : Int) (m : Int) (by omega) (by omega)) (fun r h' hq => ?_)
              obtain ⟨rfl, rfl⟩ := hq
              show Ev X _ _ 71 [Vr 166, Vi (e : Int), Vi (p : Int), Vi (H N 0 v), Vi (y : Int), Vi (m : Int), Vi (q : Int), Vi (seeS (H m) q p)] [Vi ((1440 * (e : Int)) + (8 * (m : Int))), Vr 205] ((SHv st dr rd), (ovl a s b)) _
              refine Ev.steps (k := 2) (pc' := 73) (L' := [Vr 166, Vi (e : Int), Vi (p : Int), Vi (H N 0 v), Vi (y : Int), Vi (m : Int), Vi (q : Int), Vi (seeS (H m) q p)]) (S' := [Vi (w32 (((1440 * (e : Int)) + (8 * (m : Int))) + (p : Int))), Vr 205]) (h' := ((SHv st dr rd), (ovl a s b))) (fun _ => rfl) ?_
              rw [show (w32 (((1440 * (e : Int)) + (8 * (m : Int))) + (p : Int))) = (((1440 * (e : Int)) + (8 * (m : Int))) + (p : Int)) from w32_id (by unfold R32; omega)]
              refine Ev.iald (v := (H m 0 p)) rfl (by decide) rfl (by omega) (by omega) ((hR m (by omega) p (by omega)).1) ?_
              refine Ev.ite (P := (H m 0 p) = (H N 0 v)) (k := 2) (a := 80) (b := 78) (L' := [Vr 166, Vi (e : Int), Vi (p : Int), Vi (H N 0 v), Vi (y : Int), Vi (m : Int), Vi (q : Int), Vi (seeS (H m) q p)]) (S' := []) (h' := ((SHv st dr rd), (ovl a s b))) (fun _ => rfl) (fun b75 => ?_) (fun b75 => ?_)
              · refine Ev.steps (k := 1) (pc' := 83) (L' := [Vr 166, Vi (e : Int), Vi (p : Int), Vi (H N 0 v), Vi (y : Int), Vi (m : Int), Vi (w32 ((q : Int) + 1)), Vi (seeS (H m) q p)]) (S' := []) (h' := ((SHv st dr rd), (ovl a s b))) (fun _ => rfl) ?_
                rw [show (w32 ((q : Int) + 1)) = ((q : Int) + 1) from w32_id (by unfold R32; omega)]
                refine Ev.steps (k := 1) (pc' := 3) (L' := [Vr 166, Vi (e : Int), Vi (p : Int), Vi (H N 0 v), Vi (y : Int), Vi (m : Int), Vi ((q : Int) + 1), Vi (seeS (H m) q p)]) (S' := []) (h' := ((SHv st dr rd), (ovl a s b))) (fun _ => rfl) ?_
                refine ih _ (by omega) (q + 1) _ (by omega) (fun h => ?_) rfl
                rcases ex_s.mp h with h | ⟨h1, h2, h3⟩
                · exact hn h
                · first
                    | exact ht h2
                    | omega
              · refine Ev.fin (k := 2) (r := (some (Vi 1))) (h' := ((SHv st dr rd), (ovl a s b))) (fun _ => rfl) ?_
                refine ⟨?_, rfl⟩
                rw [if_pos ⟨q, by omega, by omega, by assumption, by omega⟩]
        · have ht : ¬ y.testBit q = true := by
            intro h
            rw [if_pos h] at b30
            omega
          refine Ev.steps (k := 2) (pc' := 83) (L' := [Vr 166, Vi (e : Int), Vi (p : Int), Vi (H N 0 v), Vi (y : Int), Vi (m : Int), Vi (w32 ((q : Int) + 1)), z]) (S' := []) (h' := ((SHv st dr rd), (ovl a s b))) (fun _ => rfl) ?_
          rw [show (w32 ((q : Int) + 1)) = ((q : Int) + 1) from w32_id (by unfold R32; omega)]
          refine Ev.steps (k := 1) (pc' := 3) (L' := [Vr 166, Vi (e : Int), Vi (p : Int), Vi (H N 0 v), Vi (y : Int), Vi (m : Int), Vi ((q : Int) + 1), z]) (S' := []) (h' := ((SHv st dr rd), (ovl a s b))) (fun _ => rfl) ?_
          refine ih _ (by omega) (q + 1) _ (by omega) (fun h => ?_) rfl
          rcases ex_s.mp h with h | ⟨h1, h2, h3⟩
          · exact hn h
          · first
              | exact ht h2
              | omega
theorem m_clear {X : List Int} {d : Nat} {st dr rd : Int} {a s b : C3} (y v p m : Nat) {e N W : Nat} {H : Nat → SC} {bk : Nat} (hW8 : W ≤ 8) (hbk : bk < 2) (he : e < 2) (hN : N < 180) (h12 : b 166 12 = (bk : Int)) (h170 : b 170 bk = (W : Int)) (h202 : b 202 e = ((N + 1 : Nat) : Int)) (hR : RowH W H b e (N + 1)) (hy : y < 256) (hv : v < W) (hp : p < W) (hm : m < N + 1) : Ev X (d + 2) 244 0 [Vr 166, Vi (e : Int), Vi (p : Int), Vi (H N 0 v), Vi (y : Int), Vi (m : Int), Vx, Vx] [] (SHv st dr rd, ovl a s b) (fun rr hh => rr = some (Vi (if ClrF W H N y v p m then 1 else 0)) ∧ hh = (SHv st dr rd, ovl a s b)) := by
  refine Ev.steps (k := 2) (pc' := 3) (L' := [Vr 166, Vi (e : Int), Vi (p : Int), Vi (H N 0 v), Vi (y : Int), Vi (m : Int), Vi 0, Vx]) (S' := []) (h' := ((SHv st dr rd), (ovl a s b))) (fun _ => rfl) ?_
  exact m_clear_l y v p m hW8 hbk he hN h12 h170 h202 hR hy hv hp hm 0 _ (by omega) (fun ⟨r, h, _⟩ => absurd h (by omega))
theorem m_could_m {X : List Int} {d : Nat} {st dr rd : Int} {a s b : C3} (x y v p w : Nat) (cl : Int) {e N W : Nat} {H : Nat → SC} {bk : Nat} (hW8 : W ≤ 8) (hbk : bk < 2) (he : e < 2) (hN : N < 180) (h12 : b 166 12 = (bk : Int)) (h170 : b 170 bk = (W : Int)) (h202 : b 202 e = ((N + 1 : Nat) : Int)) (hR : RowH W H b e (N + 1)) (hy : y < 256) (hv : v < W) (hp : p < W) (f72 : b 166 72 = ((spfF W H y v (N + 1) : Nat) : Int)) (f73 : b 166 73 = ((sptF W H N y v : Nat) : Int)) (hcl : cl = 0 ∨ cl = 1) {Q : Option pm_V → pm_H → Prop} (K : ∀ (al : Int) (m : Nat), (al = 0 ∨ al = 1) → (cl = 0 → (al = 1 ↔ ∀ m, m < sptF W H N y v + 1 → spfF W H y v (N + 1) ≤ m → ClrF W H N y v p m)) → Ev X (d + 3) 243 120 [Vr 166, Vi (e : Int), Vi (v : Int), Vi (x : Int), Vi (y : Int), Vi (H N 0 v), Vi (w : Int), Vi (p : Int), Vi cl, Vi al, Vi (m : Int)] [] (SHv st dr rd, ovl a s b) Q) (m : Nat) (al : Int) (hm : m ≤ N + 1) (hlo : spfF W H y v (N + 1) ≤ m) (hal : al = 0 ∨ al = 1) (hi : al = 1 ↔ ∀ r, r < m → spfF W H y v (N + 1) ≤ r → ClrF W H N y v p r) (hi2 : al = 0 → m ≤ sptF W H N y v + 1) : Ev X (d + 3) 243 80 [Vr 166, Vi (e : Int), Vi (v : Int), Vi (x : Int), Vi (y : Int), Vi (H N 0 v), Vi (w : Int), Vi (p : Int), Vi cl, Vi al, Vi (m : Int)] [] (SHv st dr rd, ovl a s b) (Q) := by
  induction hk : (N + 1 - m) using Nat.strongRecOn generalizing m al with
  | ind k ih =>
    have hsl := sptF_le (W := W) (H := H) (N := N) (y := y) (v := v)
    refine Ev.steps (k := 3) (pc' := 86) (L' := [Vr 166, Vi (e : Int), Vi (v : Int), Vi (x : Int), Vi (y : Int), Vi (H N 0 v), Vi (w : Int), Vi (p : Int), Vi cl, Vi al, Vi (m : Int)]) (S' := [Vi (b 166 73), Vi (m : Int)]) (h' := ((SHv st dr rd), (ovl a s b))) (fun _ => rfl) ?_
    rw [f73]
    refine Ev.ite (P := ((sptF W H N y v : Nat) : Int) < (m : Int)) (k := 1) (a := 120) (b := 89) (L' := [Vr 166, Vi (e : Int), Vi (v : Int), Vi (x : Int), Vi (y : Int), Vi (H N 0 v), Vi (w : Int), Vi (p : Int), Vi cl, Vi al, Vi (m : Int)]) (S' := []) (h' := ((SHv st dr rd), (ovl a s b))) (fun _ => rfl) (fun b86 => ?_) (fun b86 => ?_)
    · refine K al m hal (fun h0 => ?_)
      rcases hal with hal | hal
      · refine ⟨fun h => by omega, fun h => hi.mpr (fun r hr => h r (by have := hi2 hal; omega))⟩
      · first
          | exact ⟨fun _ r h1 h2 => hi.mp hal r (by omega) h2, fun _ => hal⟩
          | omega
    · refine Ev.ite (P := cl ≠ 0) (k := 2) (a := 120) (b := 94) (L' := [Vr 166, Vi (e : Int), Vi (v : Int), Vi (x : Int), Vi (y : Int), Vi (H N 0 v), Vi (w : Int), Vi (p : Int), Vi cl, Vi al, Vi (m : Int)]) (S' := []) (h' := ((SHv st dr rd), (ovl a s b))) (fun _ => rfl) (fun b91 => ?_) (fun b91 => ?_)
      · refine K al m hal (fun h0 => ?_)
        rcases hal with hal | hal
        · refine ⟨fun h => by omega, fun h => hi.mpr (fun r hr => h r (by have := hi2 hal; omega))⟩
        · first
            | exact ⟨fun _ r h1 h2 => hi.mp hal r (by omega) h2, fun _ => hal⟩
            | omega
      · refine Ev.ite (P := al = 0) (k := 2) (a := 120) (b := 99) (L' := [Vr 166, Vi (e : Int), Vi (v : Int), Vi (x : Int), Vi (y : Int), Vi (H N 0 v), Vi (w : Int), Vi (p : Int), Vi cl, Vi al, Vi (m : Int)]) (S' := []) (h' := ((SHv st dr rd), (ovl a s b))) (fun _ => rfl) (fun b96 => ?_) (fun b96 => ?_)
        · refine K al m hal (fun h0 => ?_)
          rcases hal with hal | hal
          · refine ⟨fun h => by omega, fun h => hi.mpr (fun r hr => h r (by have := hi2 hal; omega))⟩
          · first
              | exact ⟨fun _ r h1 h2 => hi.mp hal r (by omega) h2, fun _ => hal⟩
              | omega
        · refine Ev.call (k := 6) (pc1 := 109) (L1 := [Vr 166, Vi (e : Int), Vi (v : Int), Vi (x : Int), Vi (y : Int), Vi (H N 0 v), Vi (w : Int), Vi (p : Int), Vi cl, Vi al, Vi (m : Int)]) (S1 := [Vi (m : Int), Vi (y : Int), Vi (H N 0 v), Vi (p : Int), Vi (e : Int), Vr 166]) (h1 := ((SHv st dr rd), (ovl a s b))) (m' := 244) (as := [Vr 166, Vi (e : Int), Vi (p : Int), Vi (H N 0 v), Vi (y : Int), Vi (m : Int)]) (S' := []) (L0 := [Vr 166, Vi (e : Int), Vi (p : Int), Vi (H N 0 v), Vi (y : Int), Vi (m : Int), Vx, Vx]) (fun _ => rfl) rfl rfl rfl rfl rfl rfl (m_clear y v p m hW8 hbk he hN h12 h170 h202 hR hy hv hp (by omega)) (fun r h' hq => ?_)
          obtain ⟨rfl, rfl⟩ := hq
          show Ev X _ _ 112 [Vr 166, Vi (e : Int), Vi (v : Int), Vi (x : Int), Vi (y : Int), Vi (H N 0 v), Vi (w : Int), Vi (p : Int), Vi cl, Vi al, Vi (m : Int)] [Vi (if ClrF W H N y v p m then 1 else 0)] ((SHv st dr rd), (ovl a s b)) _
          refine Ev.steps (k := 2) (pc' := 117) (L' := [Vr 166, Vi (e : Int), Vi (v : Int), Vi (x : Int), Vi (y : Int), Vi (H N 0 v), Vi (w : Int), Vi (p : Int), Vi cl, Vi (if ClrF W H N y v p m then 1 else 0), Vi (w32 ((m : Int) + 1))]) (S' := []) (h' := ((SHv st dr rd), (ovl a s b))) (fun _ => rfl) ?_
          rw [show (w32 ((m : Int) + 1)) = ((m : Int) + 1) from w32_id (by unfold R32; omega)]
          refine Ev.steps (k := 1) (pc' := 80) (L' := [Vr 166, Vi (e : Int), Vi (v : Int), Vi (x : Int), Vi (y : Int), Vi (H N 0 v), Vi (w : Int), Vi (p : Int), Vi cl, Vi (if ClrF W H N y v p m then 1 else 0), Vi ((m : Int) + 1)]) (S' := []) (h' := ((SHv st dr rd), (ovl a s b))) (fun _ => rfl) ?_
          have hal1 : al = 1 := by omega
          refine ih _ (by omega) (m + 1) (if ClrF W H N y v p m then 1 else 0) (by omega) (by omega) ite01 ?_ (fun _ => by omega) rfl
          by_cases hc : ClrF W H N y v p m
          · rw [if_pos hc]
            refine ⟨fun _ r hr h2 => ?_, fun _ => rfl⟩
            by_cases hrm : r = m
            · rw [hrm]
              exact hc
            · exact hi.mp hal1 r (by omega) h2
          · rw [if_neg hc]
            refine ⟨fun h => absurd h (by omega), fun h => absurd (h m (by omega) hlo) hc⟩
theorem m_could_p {X : List Int} {d : Nat} {st dr rd : Int} {a s b : C3} (x y v : Nat) {e N W : Nat} {H : Nat → SC} {bk : Nat} (hW8 : W ≤ 8) (hbk : bk < 2) (he : e < 2) (hN : N < 180) (h12 : b 166 12 = (bk : Int)) (h170 : b 170 bk = (W : Int)) (h202 : b 202 e = ((N + 1 : Nat) : Int)) (hR : RowH W H b e (N + 1)) (hy : y < 256) (hv : v < W) (f72 : b 166 72 = ((spfF W H y v (N + 1) : Nat) : Int)) (f73 : b 166 73 = ((sptF W H N y v : Nat) : Int)) (p : Nat) (z8 z9 z10 : pm_V) (hp : p ≤ W) : Ev X (d + 3) 243 44 [Vr 166, Vi (e : Int), Vi (v : Int), Vi (x : Int), Vi (y : Int), Vi (H N 0 v), Vi ((cldF W H N y v p : Nat) : Int), Vi (p : Int), z8, z9, z10] [] (SHv st dr rd, ovl a s b) (fun rr hh => rr = some (Vi ((cldF W H N y v W : Nat) : Int)) ∧ hh = (SHv st dr rd, ovl a s b)) := by
  induction hk : (W - p) using Nat.strongRecOn generalizing p z8 z9 z10 with
  | ind k ih =>
    have hcb := cldF_lt W H N y v p
    have hcs := cldF_s (W := W) (H := H) (N := N) (y := y) (v := v) (p := p)
    have hsf := spfF_le (W := W) (H := H) (y := y) (v := v) (N + 1)
    refine Ev.steps (k := 5) (pc' := 54) (L' := [Vr 166, Vi (e : Int), Vi (v : Int), Vi (x : Int), Vi (y : Int), Vi (H N 0 v), Vi ((cldF W H N y v p : Nat) : Int), Vi (p : Int), z8, z9, z10]) (S' := [Vi (b 166 12), Vr 170, Vi (p : Int)]) (h' := ((SHv st dr rd), (ovl a s b))) (fun _ => rfl) ?_
    rw [h12]
    refine Ev.iald (v := (W : Int)) rfl (by decide) rfl (by omega) (by omega) (h170) ?_
    refine Ev.ite (P := (W : Int) ≤ (p : Int)) (k := 1) (a := 149) (b := 58) (L' := [Vr 166, Vi (e : Int), Vi (v : Int), Vi (x : Int), Vi (y : Int), Vi (H N 0 v), Vi ((cldF W H N y v p : Nat) : Int), Vi (p : Int), z8, z9, z10]) (S' := []) (h' := ((SHv st dr rd), (ovl a s b))) (fun _ => rfl) (fun b55 => ?_) (fun b55 => ?_)
    · refine Ev.fin (k := 2) (r := (some (Vi ((cldF W H N y v p : Nat) : Int)))) (h' := ((SHv st dr rd), (ovl a s b))) (fun _ => rfl) ?_
      obtain rfl : p = W := by omega
      exact ⟨rfl, rfl⟩
    · have hpw : p < W := by omega
      have h2p := pw8 (k := p) (by omega)
      refine Ev.ite (P := (p : Int) ≠ (v : Int)) (k := 3) (a := 68) (b := 64) (L' := [Vr 166, Vi (e : Int), Vi (v : Int), Vi (x : Int), Vi (y : Int), Vi (H N 0 v), Vi ((cldF W H N y v p : Nat) : Int), Vi (p : Int), z8, z9, z10]) (S' := []) (h' := ((SHv st dr rd), (ovl a s b))) (fun _ => rfl) (fun b61 => ?_) (fun b61 => ?_)
      · refine Ev.steps (k := 6) (pc' := 78) (L' := [Vr 166, Vi (e : Int), Vi (v : Int), Vi (x : Int), Vi (y : Int), Vi (H N 0 v), Vi ((cldF W H N y v p : Nat) : Int), Vi (p : Int), Vi 0, Vi 1, z10]) (S' := [Vi (b 166 72)]) (h' := ((SHv st dr rd), (ovl a s b))) (fun _ => rfl) ?_
        rw [f72]
        refine Ev.steps (k := 1) (pc' := 80) (L' := [Vr 166, Vi (e : Int), Vi (v : Int), Vi (x : Int), Vi (y : Int), Vi (H N 0 v), Vi ((cldF W H N y v p : Nat) : Int), Vi (p : Int), Vi 0, Vi 1, Vi ((spfF W H y v (N + 1) : Nat) : Int)]) (S' := []) (h' := ((SHv st dr rd), (ovl a s b))) (fun _ => rfl) ?_
        refine m_could_m x y v p (cldF W H N y v p) 0 hW8 hbk he hN h12 h170 h202 hR hy hv hpw f72 f73 (by omega) (fun al m hal hK => ?_) (spfF W H y v (N + 1)) 1 hsf (Nat.le_refl _) (Or.inr rfl) ⟨fun _ r h1 h2 => absurd h1 (by omega), fun _ => rfl⟩ (fun h => absurd h (by omega))
        refine Ev.ite (P := al = 0) (k := 5) (a := 136) (b := 132) (L' := [Vr 166, Vi (e : Int), Vi (v : Int), Vi (x : Int), Vi (y : Int), Vi (H N 0 v), Vi ((cldF W H N y v p : Nat) : Int), Vi (p : Int), Vi 0, Vi al, Vi (m : Int)]) (S' := [Vi ((cldF W H N y v p : Nat) : Int)]) (h' := ((SHv st dr rd), (ovl a s b))) (fun _ => rfl) (fun b129 => ?_) (fun b129 => ?_)
        · refine Ev.steps (k := 3) (pc' := 140) (L' := [Vr 166, Vi (e : Int), Vi (v : Int), Vi (x : Int), Vi (y : Int), Vi (H N 0 v), Vi ((cldF W H N y v p : Nat) : Int), Vi (p : Int), Vi 0, Vi al, Vi (m : Int)]) (S' := [Vi (i_shl 1 (p : Int)), Vi ((cldF W H N y v p : Nat) : Int)]) (h' := ((SHv st dr rd), (ovl a s b))) (fun _ => rfl) ?_
          rw [show (i_shl 1 (p : Int)) = ((2 ^ p : Nat) : Int) from i_shl1 (by omega)]
          refine Ev.steps (k := 3) (pc' := 146) (L' := [Vr 166, Vi (e : Int), Vi (v : Int), Vi (x : Int), Vi (y : Int), Vi (H N 0 v), Vi (i_or ((cldF W H N y v p : Nat) : Int) ((2 ^ p : Nat) : Int)), Vi (w32 ((p : Int) + 1)), Vi 0, Vi al, Vi (m : Int)]) (S' := []) (h' := ((SHv st dr rd), (ovl a s b))) (fun _ => rfl) ?_
          rw [show (w32 ((p : Int) + 1)) = ((p : Int) + 1) from w32_id (by unfold R32; omega)]
          refine Ev.steps (k := 1) (pc' := 44) (L' := [Vr 166, Vi (e : Int), Vi (v : Int), Vi (x : Int), Vi (y : Int), Vi (H N 0 v), Vi (i_or ((cldF W H N y v p : Nat) : Int) ((2 ^ p : Nat) : Int)), Vi ((p : Int) + 1), Vi 0, Vi al, Vi (m : Int)]) (S' := []) (h' := ((SHv st dr rd), (ovl a s b))) (fun _ => rfl) ?_
          first
            | (exfalso; omega)
            | (have hcan : CanF W H N y v p := ⟨by omega, fun h => by have := (hK (by omega)).mpr h; omega⟩
               rw [if_pos hcan] at hcs
               rw [i_orp (by omega) hcb, ← hcs]
               exact ih _ (by omega) (p + 1) _ _ _ (by omega) rfl)
        · refine Ev.steps (k := 5) (pc' := 146) (L' := [Vr 166, Vi (e : Int), Vi (v : Int), Vi (x : Int), Vi (y : Int), Vi (H N 0 v), Vi (i_or ((cldF W H N y v p : Nat) : Int) 0), Vi (w32 ((p : Int) + 1)), Vi 0, Vi al, Vi (m : Int)]) (S' := []) (h' := ((SHv st dr rd), (ovl a s b))) (fun _ => rfl) ?_
          rw [show (w32 ((p : Int) + 1)) = ((p : Int) + 1) from w32_id (by unfold R32; omega)]
          refine Ev.steps (k := 1) (pc' := 44) (L' := [Vr 166, Vi (e : Int), Vi (v : Int), Vi (x : Int), Vi (y : Int), Vi (H N 0 v), Vi (i_or ((cldF W H N y v p : Nat) : Int) 0), Vi ((p : Int) + 1), Vi 0, Vi al, Vi (m : Int)]) (S' := []) (h' := ((SHv st dr rd), (ovl a s b))) (fun _ => rfl) ?_
          first
            | (exfalso; omega)
            | (have hcan : ¬ CanF W H N y v p := fun h => by
                 first
                   | exact h.1 (by omega)
                   | exact h.2 ((hK (by omega)).mp (by omega))
               rw [if_neg hcan] at hcs
               rw [i_or0 (by omega), ← hcs]
               exact ih _ (by omega) (p + 1) _ _ _ (by omega) rfl)
      · refine Ev.steps (k := 7) (pc' := 78) (L' := [Vr 166, Vi (e : Int), Vi (v : Int), Vi (x : Int), Vi (y : Int), Vi (H N 0 v), Vi ((cldF W H N y v p : Nat) : Int), Vi (p : Int), Vi 1, Vi 1, z10]) (S' := [Vi (b 166 72)]) (h' := ((SHv st dr rd), (ovl a s b))) (fun _ => rfl) ?_
        rw [f72]
        refine Ev.steps (k := 1) (pc' := 80) (L' := [Vr 166, Vi (e : Int), Vi (v : Int), Vi (x : Int), Vi (y : Int), Vi (H N 0 v), Vi ((cldF W H N y v p : Nat) : Int), Vi (p : Int), Vi 1, Vi 1, Vi ((spfF W H y v (N + 1) : Nat) : Int)]) (S' := []) (h' := ((SHv st dr rd), (ovl a s b))) (fun _ => rfl) ?_
        refine m_could_m x y v p (cldF W H N y v p) 1 hW8 hbk he hN h12 h170 h202 hR hy hv hpw f72 f73 (by omega) (fun al m hal hK => ?_) (spfF W H y v (N + 1)) 1 hsf (Nat.le_refl _) (Or.inr rfl) ⟨fun _ r h1 h2 => absurd h1 (by omega), fun _ => rfl⟩ (fun h => absurd h (by omega))
        refine Ev.steps (k := 8) (pc' := 146) (L' := [Vr 166, Vi (e : Int), Vi (v : Int), Vi (x : Int), Vi (y : Int), Vi (H N 0 v), Vi (i_or ((cldF W H N y v p : Nat) : Int) 0), Vi (w32 ((p : Int) + 1)), Vi 1, Vi al, Vi (m : Int)]) (S' := []) (h' := ((SHv st dr rd), (ovl a s b))) (fun _ => rfl) ?_
        rw [show (w32 ((p : Int) + 1)) = ((p : Int) + 1) from w32_id (by unfold R32; omega)]
        refine Ev.steps (k := 1) (pc' := 44) (L' := [Vr 166, Vi (e : Int), Vi (v : Int), Vi (x : Int), Vi (y : Int), Vi (H N 0 v), Vi (i_or ((cldF W H N y v p : Nat) : Int) 0), Vi ((p : Int) + 1), Vi 1, Vi al, Vi (m : Int)]) (S' := []) (h' := ((SHv st dr rd), (ovl a s b))) (fun _ => rfl) ?_
        first
          | (exfalso; omega)
          | (have hcan : ¬ CanF W H N y v p := fun h => by
               first
                 | exact h.1 (by omega)
                 | exact h.2 ((hK (by omega)).mp (by omega))
             rw [if_neg hcan] at hcs
             rw [i_or0 (by omega), ← hcs]
             exact ih _ (by omega) (p + 1) _ _ _ (by omega) rfl)
theorem m_coulds {X : List Int} {d : Nat} {st dr rd : Int} {a s b : C3} (x v : Nat) {e N W : Nat} {H : Nat → SC} {bk : Nat} (hW8 : W ≤ 8) (hbk : bk < 2) (he : e < 2) (hN : N < 180) (h12 : b 166 12 = (bk : Int)) (h170 : b 170 bk = (W : Int)) (h202 : b 202 e = ((N + 1 : Nat) : Int)) (hR : RowH W H b e (N + 1)) (hx : x < 256) (hv : v < W) : Ev X (d + 3) 243 0 [Vr 166, Vi (e : Int), Vi (v : Int), Vi (x : Int), Vx, Vx, Vx, Vx, Vx, Vx, Vx] [] (SHv st dr rd, ovl a s b) (fun rr hh => rr = some (Vi ((cldF W H N (hrdF H N x W) v W : Nat) : Int)) ∧ ∃ X1 X2 : Int, hh = (SHv st dr rd, ovl a s (spB b X1 X2))) := by
  have hy : hrdF H N x W < 256 := by have h1 := hrdF_lt H N x W; have h2 := pw8 hW8; omega
  obtain ⟨y, hyd⟩ : ∃ y, hrdF H N x W = y := ⟨_, rfl⟩
  rw [hyd] at hy
  rw [hyd]
  refine Ev.call (k := 3) (pc1 := 3) (L1 := [Vr 166, Vi (e : Int), Vi (v : Int), Vi (x : Int), Vx, Vx, Vx, Vx, Vx, Vx, Vx]) (S1 := [Vi (x : Int), Vi (e : Int), Vr 166]) (h1 := ((SHv st dr rd), (ovl a s b))) (m' := 240) (as := [Vr 166, Vi (e : Int), Vi (x : Int)]) (S' := []) (L0 := [Vr 166, Vi (e : Int), Vi (x : Int), Vx, Vx]) (fun _ => rfl) rfl rfl rfl rfl rfl rfl (m_heard x hW8 hbk he hN h12 h170 h202 hR hx) (fun r h' hq => ?_)
  obtain ⟨rfl, rfl⟩ := hq
  rw [hyd]
  show Ev X _ _ 6 [Vr 166, Vi (e : Int), Vi (v : Int), Vi (x : Int), Vx, Vx, Vx, Vx, Vx, Vx, Vx] [Vi (y : Int)] ((SHv st dr rd), (ovl a s b)) _
  refine Ev.call (k := 5) (pc1 := 13) (L1 := [Vr 166, Vi (e : Int), Vi (v : Int), Vi (x : Int), Vi (y : Int), Vx, Vx, Vx, Vx, Vx, Vx]) (S1 := [Vi (y : Int), Vi (v : Int), Vi (e : Int), Vr 166]) (h1 := ((SHv st dr rd), (ovl a s b))) (m' := 241) (as := [Vr 166, Vi (e : Int), Vi (v : Int), Vi (y : Int)]) (S' := []) (L0 := [Vr 166, Vi (e : Int), Vi (v : Int), Vi (y : Int), Vx, Vx, Vx]) (fun _ => rfl) rfl rfl rfl rfl rfl rfl (m_spans y v hW8 hbk he hN h12 h170 h202 hR hy hv) (fun r h' hq => ?_)
  obtain ⟨rfl, hh1⟩ := hq
  obtain ⟨b1, hb1⟩ : ∃ b1, b1 = spB b ((spfF W H y v (N + 1) : Nat) : Int) ((sptF W H N y v : Nat) : Int) := ⟨_, rfl⟩
  rw [← hb1] at hh1
  subst hh1
  have g12 : b1 166 12 = (bk : Int) := by rw [hb1]; exact h12
  have g170 : b1 170 bk = (W : Int) := by rw [hb1]; exact h170
  have g202 : b1 202 e = ((N + 1 : Nat) : Int) := by rw [hb1]; exact h202
  have gR : RowH W H b1 e (N + 1) := by rw [hb1]; exact hR.fr rfl rfl
  have f72 : b1 166 72 = ((spfF W H y v (N + 1) : Nat) : Int) := by rw [hb1]; exact spB_r72
  have f73 : b1 166 73 = ((sptF W H N y v : Nat) : Int) := by rw [hb1]; exact spB_r73
  show Ev X _ _ 16 [Vr 166, Vi (e : Int), Vi (v : Int), Vi (x : Int), Vi (y : Int), Vx, Vx, Vx, Vx, Vx, Vx] [] ((SHv st dr rd), (ovl a s b1)) _
  refine Ev.steps (k := 7) (pc' := 27) (L' := [Vr 166, Vi (e : Int), Vi (v : Int), Vi (x : Int), Vi (y : Int), Vx, Vx, Vx, Vx, Vx, Vx]) (S' := [Vi (e : Int), Vr 202, Vi (e : Int), Vr 166, Vr 205]) (h' := ((SHv st dr rd), (ovl a s b1))) (fun _ => rfl) ?_
  refine Ev.iald (v := ((N + 1 : Nat) : Int)) rfl (by decide) rfl (by omega) (by omega) (g202) ?_
  refine Ev.steps (k := 2) (pc' := 30) (L' := [Vr 166, Vi (e : Int), Vi (v : Int), Vi (x : Int), Vi (y : Int), Vx, Vx, Vx, Vx, Vx, Vx]) (S' := [Vi (w32 (((N + 1 : Nat) : Int) - 1)), Vi (e : Int), Vr 166, Vr 205]) (h' := ((SHv st dr rd), (ovl a s b1))) (fun _ => rfl) ?_
  rw [show (w32 (((N + 1 : Nat) : Int) - 1)) = (N : Int) from by unfold w32; omega]
  refine Ev.call (k := 0) (pc1 := 30) (L1 := [Vr 166, Vi (e : Int), Vi (v : Int), Vi (x : Int), Vi (y : Int), Vx, Vx, Vx, Vx, Vx, Vx]) (S1 := [Vi (N : Int), Vi (e : Int), Vr 166, Vr 205]) (h1 := ((SHv st dr rd), (ovl a s b1))) (m' := 206) (as := [Vr 166, Vi (e : Int), Vi (N : Int)]) (S' := [Vr 205]) (L0 := [Vr 166, Vi (e : Int), Vi (N : Int)]) (fun _ => rfl) rfl rfl rfl rfl rfl rfl (m_at (e : Int) (N : Int) (by omega) (by omega)) (fun r h' hq => ?_)
  obtain ⟨rfl, rfl⟩ := hq
  show Ev X _ _ 33 [Vr 166, Vi (e : Int), Vi (v : Int), Vi (x : Int), Vi (y : Int), Vx, Vx, Vx, Vx, Vx, Vx] [Vi ((1440 * (e : Int)) + (8 * (N : Int))), Vr 205] ((SHv st dr rd), (ovl a s b1)) _
  refine Ev.steps (k := 2) (pc' := 35) (L' := [Vr 166, Vi (e : Int), Vi (v : Int), Vi (x : Int), Vi (y : Int), Vx, Vx, Vx, Vx, Vx, Vx]) (S' := [Vi (w32 (((1440 * (e : Int)) + (8 * (N : Int))) + (v : Int))), Vr 205]) (h' := ((SHv st dr rd), (ovl a s b1))) (fun _ => rfl) ?_
  rw [show (w32 (((1440 * (e : Int)) + (8 * (N : Int))) + (v : Int))) = (((1440 * (e : Int)) + (8 * (N : Int))) + (v : Int)) from w32_id (by unfold R32; omega)]
  refine Ev.iald (v := (H N 0 v)) rfl (by decide) rfl (by omega) (by omega) ((gR N (by omega) v hv).1) ?_
  refine Ev.steps (k := 5) (pc' := 44) (L' := [Vr 166, Vi (e : Int), Vi (v : Int), Vi (x : Int), Vi (y : Int), Vi (H N 0 v), Vi 0, Vi 0, Vx, Vx, Vx]) (S' := []) (h' := ((SHv st dr rd), (ovl a s b1))) (fun _ => rfl) ?_
  exact Ev.mono (m_could_p x y v hW8 hbk he hN g12 g170 g202 gR hy hv f72 f73 0 _ _ _ (by omega)) (fun rr hh h => ⟨h.1, ((spfF W H y v (N + 1) : Nat) : Int), ((sptF W H N y v : Nat) : Int), by rw [h.2, hb1]⟩)
theorem lsF_s {W : Nat} {H : Nat → SC} {N v x : Nat} : lsF W H N v (x + 1) = if hrdF H N x W = x ∧ (lsF W H N v x = -1 ∨ bcS x < bcS (lsF W H N v x).toNat) ∧ bcS (cldF W H N x v W) = 1 then (x : Int) else lsF W H N v x := rfl
theorem lsF_b {W : Nat} {H : Nat → SC} {N v : Nat} : ∀ x, lsF W H N v x = -1 ∨ (0 ≤ lsF W H N v x ∧ lsF W H N v x < x)
  | 0 => Or.inl rfl
  | x + 1 => by
    have := lsF_b (W := W) (H := H) (N := N) (v := v) x
    rw [lsF_s]
    split <;> omega
theorem m_least_l {X : List Int} {d : Nat} {st dr rd : Int} {a s b : C3} (v : Nat) {e N W : Nat} {H : Nat → SC} {bk : Nat} (hW8 : W ≤ 8) (hbk : bk < 2) (he : e < 2) (hN : N < 180) (hv : v < W) {b0 : C3} (x : Nat) (l : Int) (hx : x ≤ 2 ^ W) (hl : l = lsF W H N v x) (h12 : b 166 12 = (bk : Int)) (h170 : b 170 bk = (W : Int)) (h202 : b 202 e = ((N + 1 : Nat) : Int)) (hR : RowH W H b e (N + 1)) (hF : ∃ X1 X2 : Int, spB b X1 X2 = spB b0 X1 X2) : Ev X (d + 4) 246 5 [Vr 166, Vi (e : Int), Vi (v : Int), Vi l, Vi (x : Int)] [] (SHv st dr rd, ovl a s b) (fun rr hh => rr = some (Vi (lstF W H N v)) ∧ ∃ b' : C3, hh = (SHv st dr rd, ovl a s b') ∧ ∃ X1 X2 : Int, spB b' X1 X2 = spB b0 X1 X2) := by
  induction hk : (2 ^ W - x) using Nat.strongRecOn generalizing x l b with
  | ind k ih =>
    have hp8 := pw8 hW8
    have h1p := Nat.one_le_two_pow (n := W)
    have hlb := lsF_b (W := W) (H := H) (N := N) (v := v) x
    rw [← hl] at hlb
    have hls := lsF_s (W := W) (H := H) (N := N) (v := v) (x := x)
    rw [← hl] at hls
    refine Ev.call (k := 2) (pc1 := 8) (L1 := [Vr 166, Vi (e : Int), Vi (v : Int), Vi l, Vi (x : Int)]) (S1 := [Vr 166, Vi (x : Int)]) (h1 := ((SHv st dr rd), (ovl a s b))) (m' := 239) (as := [Vr 166]) (S' := [Vi (x : Int)]) (L0 := [Vr 166]) (fun _ => rfl) rfl rfl rfl rfl rfl rfl (m_everybody hW8 h12 h170 hbk) (fun r h' hq => ?_)
    obtain ⟨rfl, rfl⟩ := hq
    show Ev X _ _ 11 [Vr 166, Vi (e : Int), Vi (v : Int), Vi l, Vi (x : Int)] [Vi ((2 ^ W - 1 : Nat) : Int), Vi (x : Int)] ((SHv st dr rd), (ovl a s b)) _
    refine Ev.ite (P := ((2 ^ W - 1 : Nat) : Int) < (x : Int)) (k := 1) (a := 70) (b := 14) (L' := [Vr 166, Vi (e : Int), Vi (v : Int), Vi l, Vi (x : Int)]) (S' := []) (h' := ((SHv st dr rd), (ovl a s b))) (fun _ => rfl) (fun b11 => ?_) (fun b11 => ?_)
    · refine Ev.fin (k := 2) (r := (some (Vi l))) (h' := ((SHv st dr rd), (ovl a s b))) (fun _ => rfl) ?_
      obtain rfl : x = 2 ^ W := by have := Nat.one_le_two_pow (n := W); omega
      exact ⟨by rw [hl]; rfl, b, rfl, hF⟩
    · have hxp : x < 2 ^ W := by omega
      refine Ev.call (k := 3) (pc1 := 18) (L1 := [Vr 166, Vi (e : Int), Vi (v : Int), Vi l, Vi (x : Int)]) (S1 := [Vi (x : Int), Vi (e : Int), Vr 166]) (h1 := ((SHv st dr rd), (ovl a s b))) (m' := 240) (as := [Vr 166, Vi (e : Int), Vi (x : Int)]) (S' := []) (L0 := [Vr 166, Vi (e : Int), Vi (x : Int), Vx, Vx]) (fun _ => rfl) rfl rfl rfl rfl rfl rfl (m_heard x hW8 hbk he hN h12 h170 h202 hR (by omega)) (fun r h' hq => ?_)
      obtain ⟨rfl, rfl⟩ := hq
      show Ev X _ _ 21 [Vr 166, Vi (e : Int), Vi (v : Int), Vi l, Vi (x : Int)] [Vi ((hrdF H N x W : Nat) : Int)] ((SHv st dr rd), (ovl a s b)) _
      refine Ev.ite (P := ((hrdF H N x W : Nat) : Int) ≠ (x : Int)) (k := 2) (a := 64) (b := 26) (L' := [Vr 166, Vi (e : Int), Vi (v : Int), Vi l, Vi (x : Int)]) (S' := []) (h' := ((SHv st dr rd), (ovl a s b))) (fun _ => rfl) (fun b23 => ?_) (fun b23 => ?_)
      · refine Ev.steps (k := 1) (pc' := 67) (L' := [Vr 166, Vi (e : Int), Vi (v : Int), Vi l, Vi (w32 ((x : Int) + 1))]) (S' := []) (h' := ((SHv st dr rd), (ovl a s b))) (fun _ => rfl) ?_
        rw [show (w32 ((x : Int) + 1)) = ((x : Int) + 1) from w32_id (by unfold R32; omega)]
        refine Ev.steps (k := 1) (pc' := 5) (L' := [Vr 166, Vi (e : Int), Vi (v : Int), Vi l, Vi ((x : Int) + 1)]) (S' := []) (h' := ((SHv st dr rd), (ovl a s b))) (fun _ => rfl) ?_
        rw [if_neg (by exact fun h => by omega)] at hls
        exact ih _ (by omega) (b := b) (x + 1) _ (by omega) hls.symm h12 h170 h202 hR hF rfl
      · refine Ev.ite (P := l = (-1)) (k := 3) (a := 46) (b := 31) (L' := [Vr 166, Vi (e : Int), Vi (v : Int), Vi l, Vi (x : Int)]) (S' := []) (h' := ((SHv st dr rd), (ovl a s b))) (fun _ => rfl) (fun b28 => ?_) (fun b28 => ?_)
        · refine Ev.call (k := 4) (pc1 := 51) (L1 := [Vr 166, Vi (e : Int), Vi (v : Int), Vi l, Vi (x : Int)]) (S1 := [Vi (x : Int), Vi (v : Int), Vi (e : Int), Vr 166]) (h1 := ((SHv st dr rd), (ovl a s b))) (m' := 243) (as := [Vr 166, Vi (e : Int), Vi (v : Int), Vi (x : Int)]) (S' := []) (L0 := [Vr 166, Vi (e : Int), Vi (v : Int), Vi (x : Int), Vx, Vx, Vx, Vx, Vx, Vx, Vx]) (fun _ => rfl) rfl rfl rfl rfl rfl rfl (m_coulds x v hW8 hbk he hN h12 h170 h202 hR (by omega) hv) (fun r h' hq => ?_)
          have hxx : hrdF H N x W = x := by omega
          rw [hxx] at hq
          obtain ⟨rfl, X1, X2, hh1⟩ := hq
          obtain ⟨b1, hb1⟩ : ∃ b1, b1 = spB b X1 X2 := ⟨_, rfl⟩
          rw [← hb1] at hh1
          subst hh1
          have g12 : b1 166 12 = (bk : Int) := by rw [hb1]; exact h12
          have g170 : b1 170 bk = (W : Int) := by rw [hb1]; exact h170
          have g202 : b1 202 e = ((N + 1 : Nat) : Int) := by rw [hb1]; exact h202
          have gR : RowH W H b1 e (N + 1) := by rw [hb1]; exact hR.fr rfl rfl
          have gF : ∃ X1 X2 : Int, spB b1 X1 X2 = spB b0 X1 X2 := by
            obtain ⟨Y1, Y2, hY⟩ := hF
            refine ⟨Y1, Y2, ?_⟩
            rw [hb1, spB_sp]
            exact hY
          have hcl := cldF_lt W H N x v W
          show Ev X _ _ 54 [Vr 166, Vi (e : Int), Vi (v : Int), Vi l, Vi (x : Int)] [Vi ((cldF W H N x v W : Nat) : Int)] ((SHv st dr rd), (ovl a s b1)) _
          refine Ev.call (k := 0) (pc1 := 54) (L1 := [Vr 166, Vi (e : Int), Vi (v : Int), Vi l, Vi (x : Int)]) (S1 := [Vi ((cldF W H N x v W : Nat) : Int)]) (h1 := ((SHv st dr rd), (ovl a s b1))) (m' := 247) (as := [Vi ((cldF W H N x v W : Nat) : Int)]) (S' := []) (L0 := [Vi ((cldF W H N x v W : Nat) : Int), Vx, Vx]) (fun _ => rfl) rfl rfl rfl rfl rfl rfl (m_bits (cldF W H N x v W) (by omega)) (fun r h' hq => ?_)
          obtain ⟨rfl, rfl⟩ := hq
          show Ev X _ _ 57 [Vr 166, Vi (e : Int), Vi (v : Int), Vi l, Vi (x : Int)] [Vi ((bcS (cldF W H N x v W) : Nat) : Int)] ((SHv st dr rd), (ovl a s b1)) _
          refine Ev.ite (P := ((bcS (cldF W H N x v W) : Nat) : Int) ≠ 1) (k := 2) (a := 64) (b := 61) (L' := [Vr 166, Vi (e : Int), Vi (v : Int), Vi l, Vi (x : Int)]) (S' := []) (h' := ((SHv st dr rd), (ovl a s b1))) (fun _ => rfl) (fun b58 => ?_) (fun b58 => ?_)
          · refine Ev.steps (k := 1) (pc' := 67) (L' := [Vr 166, Vi (e : Int), Vi (v : Int), Vi l, Vi (w32 ((x : Int) + 1))]) (S' := []) (h' := ((SHv st dr rd), (ovl a s b1))) (fun _ => rfl) ?_
            rw [show (w32 ((x : Int) + 1)) = ((x : Int) + 1) from w32_id (by unfold R32; omega)]
            refine Ev.steps (k := 1) (pc' := 5) (L' := [Vr 166, Vi (e : Int), Vi (v : Int), Vi l, Vi ((x : Int) + 1)]) (S' := []) (h' := ((SHv st dr rd), (ovl a s b1))) (fun _ => rfl) ?_
            first
              | (rw [if_pos ⟨by omega, by omega, by omega⟩] at hls
                 exact ih _ (by omega) (b := b1) (x + 1) _ (by omega) hls.symm g12 g170 g202 gR gF rfl)
              | (rw [if_neg (by exact fun h => by omega)] at hls
                 exact ih _ (by omega) (b := b1) (x + 1) _ (by omega) hls.symm g12 g170 g202 gR gF rfl)
          · refine Ev.steps (k := 3) (pc' := 67) (L' := [Vr 166, Vi (e : Int), Vi (v : Int), Vi (x : Int), Vi (w32 ((x : Int) + 1))]) (S' := []) (h' := ((SHv st dr rd), (ovl a s b1))) (fun _ => rfl) ?_
            rw [show (w32 ((x : Int) + 1)) = ((x : Int) + 1) from w32_id (by unfold R32; omega)]
            refine Ev.steps (k := 1) (pc' := 5) (L' := [Vr 166, Vi (e : Int), Vi (v : Int), Vi (x : Int), Vi ((x : Int) + 1)]) (S' := []) (h' := ((SHv st dr rd), (ovl a s b1))) (fun _ => rfl) ?_
            first
              | (rw [if_pos ⟨by omega, by omega, by omega⟩] at hls
                 exact ih _ (by omega) (b := b1) (x + 1) _ (by omega) hls.symm g12 g170 g202 gR gF rfl)
              | (rw [if_neg (by exact fun h => by omega)] at hls
                 exact ih _ (by omega) (b := b1) (x + 1) _ (by omega) hls.symm g12 g170 g202 gR gF rfl)
        · refine Ev.call (k := 1) (pc1 := 33) (L1 := [Vr 166, Vi (e : Int), Vi (v : Int), Vi l, Vi (x : Int)]) (S1 := [Vi (x : Int)]) (h1 := ((SHv st dr rd), (ovl a s b))) (m' := 247) (as := [Vi (x : Int)]) (S' := []) (L0 := [Vi (x : Int), Vx, Vx]) (fun _ => rfl) rfl rfl rfl rfl rfl rfl (m_bits x (by omega)) (fun r h' hq => ?_)
          obtain ⟨rfl, rfl⟩ := hq
          show Ev X _ _ 36 [Vr 166, Vi (e : Int), Vi (v : Int), Vi l, Vi (x : Int)] [Vi ((bcS x : Nat) : Int)] ((SHv st dr rd), (ovl a s b)) _
          refine Ev.call (k := 1) (pc1 := 37) (L1 := [Vr 166, Vi (e : Int), Vi (v : Int), Vi l, Vi (x : Int)]) (S1 := [Vi l, Vi ((bcS x : Nat) : Int)]) (h1 := ((SHv st dr rd), (ovl a s b))) (m' := 247) (as := [Vi l]) (S' := [Vi ((bcS x : Nat) : Int)]) (L0 := [Vi l, Vx, Vx]) (fun _ => rfl) rfl rfl rfl rfl rfl rfl (m_bitsI l (by omega)) (fun r h' hq => ?_)
          obtain ⟨rfl, rfl⟩ := hq
          show Ev X _ _ 40 [Vr 166, Vi (e : Int), Vi (v : Int), Vi l, Vi (x : Int)] [Vi ((bcS l.toNat : Nat) : Int), Vi ((bcS x : Nat) : Int)] ((SHv st dr rd), (ovl a s b)) _
          refine Ev.ite (P := ((bcS x : Nat) : Int) < ((bcS l.toNat : Nat) : Int)) (k := 1) (a := 46) (b := 43) (L' := [Vr 166, Vi (e : Int), Vi (v : Int), Vi l, Vi (x : Int)]) (S' := []) (h' := ((SHv st dr rd), (ovl a s b))) (fun _ => rfl) (fun b40 => ?_) (fun b40 => ?_)
          · refine Ev.call (k := 4) (pc1 := 51) (L1 := [Vr 166, Vi (e : Int), Vi (v : Int), Vi l, Vi (x : Int)]) (S1 := [Vi (x : Int), Vi (v : Int), Vi (e : Int), Vr 166]) (h1 := ((SHv st dr rd), (ovl a s b))) (m' := 243) (as := [Vr 166, Vi (e : Int), Vi (v : Int), Vi (x : Int)]) (S' := []) (L0 := [Vr 166, Vi (e : Int), Vi (v : Int), Vi (x : Int), Vx, Vx, Vx, Vx, Vx, Vx, Vx]) (fun _ => rfl) rfl rfl rfl rfl rfl rfl (m_coulds x v hW8 hbk he hN h12 h170 h202 hR (by omega) hv) (fun r h' hq => ?_)
            have hxx : hrdF H N x W = x := by omega
            rw [hxx] at hq
            obtain ⟨rfl, X1, X2, hh1⟩ := hq
            obtain ⟨b1, hb1⟩ : ∃ b1, b1 = spB b X1 X2 := ⟨_, rfl⟩
            rw [← hb1] at hh1
            subst hh1
            have g12 : b1 166 12 = (bk : Int) := by rw [hb1]; exact h12
            have g170 : b1 170 bk = (W : Int) := by rw [hb1]; exact h170
            have g202 : b1 202 e = ((N + 1 : Nat) : Int) := by rw [hb1]; exact h202
            have gR : RowH W H b1 e (N + 1) := by rw [hb1]; exact hR.fr rfl rfl
            have gF : ∃ X1 X2 : Int, spB b1 X1 X2 = spB b0 X1 X2 := by
              obtain ⟨Y1, Y2, hY⟩ := hF
              refine ⟨Y1, Y2, ?_⟩
              rw [hb1, spB_sp]
              exact hY
            have hcl := cldF_lt W H N x v W
            show Ev X _ _ 54 [Vr 166, Vi (e : Int), Vi (v : Int), Vi l, Vi (x : Int)] [Vi ((cldF W H N x v W : Nat) : Int)] ((SHv st dr rd), (ovl a s b1)) _
            refine Ev.call (k := 0) (pc1 := 54) (L1 := [Vr 166, Vi (e : Int), Vi (v : Int), Vi l, Vi (x : Int)]) (S1 := [Vi ((cldF W H N x v W : Nat) : Int)]) (h1 := ((SHv st dr rd), (ovl a s b1))) (m' := 247) (as := [Vi ((cldF W H N x v W : Nat) : Int)]) (S' := []) (L0 := [Vi ((cldF W H N x v W : Nat) : Int), Vx, Vx]) (fun _ => rfl) rfl rfl rfl rfl rfl rfl (m_bits (cldF W H N x v W) (by omega)) (fun r h' hq => ?_)
            obtain ⟨rfl, rfl⟩ := hq
            show Ev X _ _ 57 [Vr 166, Vi (e : Int), Vi (v : Int), Vi l, Vi (x : Int)] [Vi ((bcS (cldF W H N x v W) : Nat) : Int)] ((SHv st dr rd), (ovl a s b1)) _
            refine Ev.ite (P := ((bcS (cldF W H N x v W) : Nat) : Int) ≠ 1) (k := 2) (a := 64) (b := 61) (L' := [Vr 166, Vi (e : Int), Vi (v : Int), Vi l, Vi (x : Int)]) (S' := []) (h' := ((SHv st dr rd), (ovl a s b1))) (fun _ => rfl) (fun b58 => ?_) (fun b58 => ?_)
            · refine Ev.steps (k := 1) (pc' := 67) (L' := [Vr 166, Vi (e : Int), Vi (v : Int), Vi l, Vi (w32 ((x : Int) + 1))]) (S' := []) (h' := ((SHv st dr rd), (ovl a s b1))) (fun _ => rfl) ?_
              rw [show (w32 ((x : Int) + 1)) = ((x : Int) + 1) from w32_id (by unfold R32; omega)]
              refine Ev.steps (k := 1) (pc' := 5) (L' := [Vr 166, Vi (e : Int), Vi (v : Int), Vi l, Vi ((x : Int) + 1)]) (S' := []) (h' := ((SHv st dr rd), (ovl a s b1))) (fun _ => rfl) ?_
              first
                | (rw [if_pos ⟨by omega, by omega, by omega⟩] at hls
                   exact ih _ (by omega) (b := b1) (x + 1) _ (by omega) hls.symm g12 g170 g202 gR gF rfl)
                | (rw [if_neg (by exact fun h => by omega)] at hls
                   exact ih _ (by omega) (b := b1) (x + 1) _ (by omega) hls.symm g12 g170 g202 gR gF rfl)
            · refine Ev.steps (k := 3) (pc' := 67) (L' := [Vr 166, Vi (e : Int), Vi (v : Int), Vi (x : Int), Vi (w32 ((x : Int) + 1))]) (S' := []) (h' := ((SHv st dr rd), (ovl a s b1))) (fun _ => rfl) ?_
              rw [show (w32 ((x : Int) + 1)) = ((x : Int) + 1) from w32_id (by unfold R32; omega)]
              refine Ev.steps (k := 1) (pc' := 5) (L' := [Vr 166, Vi (e : Int), Vi (v : Int), Vi (x : Int), Vi ((x : Int) + 1)]) (S' := []) (h' := ((SHv st dr rd), (ovl a s b1))) (fun _ => rfl) ?_
              first
                | (rw [if_pos ⟨by omega, by omega, by omega⟩] at hls
                   exact ih _ (by omega) (b := b1) (x + 1) _ (by omega) hls.symm g12 g170 g202 gR gF rfl)
                | (rw [if_neg (by exact fun h => by omega)] at hls
                   exact ih _ (by omega) (b := b1) (x + 1) _ (by omega) hls.symm g12 g170 g202 gR gF rfl)
          · refine Ev.steps (k := 2) (pc' := 67) (L' := [Vr 166, Vi (e : Int), Vi (v : Int), Vi l, Vi (w32 ((x : Int) + 1))]) (S' := []) (h' := ((SHv st dr rd), (ovl a s b))) (fun _ => rfl) ?_
            rw [show (w32 ((x : Int) + 1)) = ((x : Int) + 1) from w32_id (by unfold R32; omega)]
            refine Ev.steps (k := 1) (pc' := 5) (L' := [Vr 166, Vi (e : Int), Vi (v : Int), Vi l, Vi ((x : Int) + 1)]) (S' := []) (h' := ((SHv st dr rd), (ovl a s b))) (fun _ => rfl) ?_
            rw [if_neg (by exact fun h => by omega)] at hls
            exact ih _ (by omega) (b := b) (x + 1) _ (by omega) hls.symm h12 h170 h202 hR hF rfl
theorem m_least {X : List Int} {d : Nat} {st dr rd : Int} {a s b : C3} (v : Nat) {e N W : Nat} {H : Nat → SC} {bk : Nat} (hW8 : W ≤ 8) (hbk : bk < 2) (he : e < 2) (hN : N < 180) (h12 : b 166 12 = (bk : Int)) (h170 : b 170 bk = (W : Int)) (h202 : b 202 e = ((N + 1 : Nat) : Int)) (hR : RowH W H b e (N + 1)) (hv : v < W) : Ev X (d + 4) 246 0 [Vr 166, Vi (e : Int), Vi (v : Int), Vx, Vx] [] (SHv st dr rd, ovl a s b) (fun rr hh => rr = some (Vi (lstF W H N v)) ∧ ∃ b' : C3, hh = (SHv st dr rd, ovl a s b') ∧ ∃ X1 X2 : Int, spB b' X1 X2 = spB b X1 X2) := by
  refine Ev.steps (k := 4) (pc' := 5) (L' := [Vr 166, Vi (e : Int), Vi (v : Int), Vi (-1), Vi 0]) (S' := []) (h' := ((SHv st dr rd), (ovl a s b))) (fun _ => rfl) ?_
  exact m_least_l v hW8 hbk he hN hv (b0 := b) 0 (-1) (Nat.zero_le _) rfl h12 h170 h202 hR ⟨0, 0, rfl⟩
theorem m_isFair {X : List Int} {d : Nat} {st dr rd : Int} {a s b : C3} (v : Nat) {e N W : Nat} {H : Nat → SC} {bk : Nat} (hW8 : W ≤ 8) (hbk : bk < 2) (he : e < 2) (hN : N < 180) (h12 : b 166 12 = (bk : Int)) (h170 : b 170 bk = (W : Int)) (h202 : b 202 e = ((N + 1 : Nat) : Int)) (hR : RowH W H b e (N + 1)) (hv : v < W) : Ev X (d + 4) 249 0 [Vr 166, Vi (e : Int), Vi (v : Int)] [] (SHv st dr rd, ovl a s b) (fun rr hh => rr = some (Vi (if FairF W H N v then 1 else 0)) ∧ ∃ X1 X2 : Int, hh = (SHv st dr rd, ovl a s (spB b X1 X2))) := by
  have hp8 := pw8 hW8
  refine Ev.call (k := 4) (pc1 := 4) (L1 := [Vr 166, Vi (e : Int), Vi (v : Int)]) (S1 := [Vr 166, Vi (v : Int), Vi (e : Int), Vr 166]) (h1 := ((SHv st dr rd), (ovl a s b))) (m' := 239) (as := [Vr 166]) (S' := [Vi (v : Int), Vi (e : Int), Vr 166]) (L0 := [Vr 166]) (fun _ => rfl) rfl rfl rfl rfl rfl rfl (m_everybody hW8 h12 h170 hbk) (fun r h' hq => ?_)
  obtain ⟨rfl, rfl⟩ := hq
  show Ev X _ _ 7 [Vr 166, Vi (e : Int), Vi (v : Int)] [Vi ((2 ^ W - 1 : Nat) : Int), Vi (v : Int), Vi (e : Int), Vr 166] ((SHv st dr rd), (ovl a s b)) _
  refine Ev.call (k := 0) (pc1 := 7) (L1 := [Vr 166, Vi (e : Int), Vi (v : Int)]) (S1 := [Vi ((2 ^ W - 1 : Nat) : Int), Vi (v : Int), Vi (e : Int), Vr 166]) (h1 := ((SHv st dr rd), (ovl a s b))) (m' := 243) (as := [Vr 166, Vi (e : Int), Vi (v : Int), Vi ((2 ^ W - 1 : Nat) : Int)]) (S' := []) (L0 := [Vr 166, Vi (e : Int), Vi (v : Int), Vi ((2 ^ W - 1 : Nat) : Int), Vx, Vx, Vx, Vx, Vx, Vx, Vx]) (fun _ => rfl) rfl rfl rfl rfl rfl rfl (m_coulds (2 ^ W - 1) v hW8 hbk he hN h12 h170 h202 hR (by omega) hv) (fun r h' hq => ?_)
  obtain ⟨rfl, X1, X2, hh1⟩ := hq
  obtain ⟨b1, hb1⟩ : ∃ b1, b1 = spB b X1 X2 := ⟨_, rfl⟩
  rw [← hb1] at hh1
  subst hh1
  have hcl := cldF_lt W H N (hrdF H N (2 ^ W - 1) W) v W
  show Ev X _ _ 10 [Vr 166, Vi (e : Int), Vi (v : Int)] [Vi ((cldF W H N (hrdF H N (2 ^ W - 1) W) v W : Nat) : Int)] ((SHv st dr rd), (ovl a s b1)) _
  refine Ev.call (k := 0) (pc1 := 10) (L1 := [Vr 166, Vi (e : Int), Vi (v : Int)]) (S1 := [Vi ((cldF W H N (hrdF H N (2 ^ W - 1) W) v W : Nat) : Int)]) (h1 := ((SHv st dr rd), (ovl a s b1))) (m' := 247) (as := [Vi ((cldF W H N (hrdF H N (2 ^ W - 1) W) v W : Nat) : Int)]) (S' := []) (L0 := [Vi ((cldF W H N (hrdF H N (2 ^ W - 1) W) v W : Nat) : Int), Vx, Vx]) (fun _ => rfl) rfl rfl rfl rfl rfl rfl (m_bits (cldF W H N (hrdF H N (2 ^ W - 1) W) v W) (by omega)) (fun r h' hq => ?_)
  obtain ⟨rfl, rfl⟩ := hq
  show Ev X _ _ 13 [Vr 166, Vi (e : Int), Vi (v : Int)] [Vi ((bcS (cldF W H N (hrdF H N (2 ^ W - 1) W) v W) : Nat) : Int)] ((SHv st dr rd), (ovl a s b1)) _
  refine Ev.ite (P := ((bcS (cldF W H N (hrdF H N (2 ^ W - 1) W) v W) : Nat) : Int) ≠ 1) (k := 2) (a := 21) (b := 17) (L' := [Vr 166, Vi (e : Int), Vi (v : Int)]) (S' := []) (h' := ((SHv st dr rd), (ovl a s b1))) (fun _ => rfl) (fun b14 => ?_) (fun b14 => ?_)
  · refine Ev.fin (k := 2) (r := (some (Vi 0))) (h' := ((SHv st dr rd), (ovl a s b1))) (fun _ => rfl) ?_
    refine ⟨?_, X1, X2, by rw [hb1]⟩
    first | rw [if_pos (by omega)] | rw [if_neg (by omega)]
  · refine Ev.fin (k := 3) (r := (some (Vi 1))) (h' := ((SHv st dr rd), (ovl a s b1))) (fun _ => rfl) ?_
    refine ⟨?_, X1, X2, by rw [hb1]⟩
    first | rw [if_pos (by omega)] | rw [if_neg (by omega)]
