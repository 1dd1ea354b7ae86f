/-! THE CLASS: who is cleared, who could; how many bits -/
theorem clr_ne {W : Nat} {H : Nat → SC} {N y v p m : Nat} : (clB W (H m) (H N 0 v) p &&& y ≠ 0) ↔ ClrF W H N y v p m := by
  have hcl : ∀ q, (clB W (H m) (H N 0 v) p).testBit q = true ↔ (H m 0 p ≠ H N 0 v ∨ H m 1 p = 0) ∧ q < W ∧ seeS (H m) q p ≠ 0 := fun q => by
    unfold clB
    split
    · next h => rw [witB_see]; exact ⟨fun g => ⟨h, g⟩, fun g => g.2⟩
    · next h => rw [Nat.zero_testBit]; exact ⟨fun g => absurd g (by decide), fun g => absurd g.1 h⟩
  have hne : ∀ q, q < W → seeS (H m) q p ≠ 0 → q ≠ p := fun q _ h e => by
    subst e
    apply h
    unfold seeS
    rw [if_pos (Or.inl rfl)]
  constructor
  · intro h
    apply Classical.byContradiction
    intro hn
    apply h
    apply nat_bits
    intro q
    rw [Nat.testBit_and, Bool.and_eq_true, hcl, Nat.zero_testBit]
    refine ⟨fun g => absurd ?_ hn, fun g => absurd g (by decide)⟩
    obtain ⟨⟨g1, g2, g3⟩, g4⟩ := g
    refine ⟨q, g2, hne q g2 g3, g4, ?_⟩
    by_cases ha : H m 1 p = 0
    · exact Or.inl ((see_d ha).mp g3)
    · exact Or.inr ⟨(see_a ha).mp g3, g1.resolve_right ha⟩
  · rintro ⟨q, q1, q2, q3, q4⟩ h
    have : (clB W (H m) (H N 0 v) p &&& y).testBit q = true := by
      rw [Nat.testBit_and, Bool.and_eq_true, hcl]
      rcases q4 with q4 | ⟨q4, q5⟩
      · exact ⟨⟨Or.inr (see_d2 q4), q1, by rw [q4]; omega⟩, q3⟩
      · exact ⟨⟨Or.inl q5, q1, by rw [q4]; omega⟩, q3⟩
    rw [h, Nat.zero_testBit] at this
    cases this
theorem byl_at {x : Nat → Nat} {p W y : Nat} (hW : W ≤ 8) (hp : p < W) (hy : y < 256) (h : ∀ i, i < W → x i < 256) : l_and (l_ushr (b64 (pkD 8 x W)) ((8 * p : Nat) : Int)) (y : Int) = ((x p &&& y : Nat) : Int) := by
  have h1 := pkD_lt (w := 8) (x := x) W h
  have h0 : 2 ^ (8 * W) ≤ 2 ^ 64 := Nat.pow_le_pow_right (by omega) (by omega)
  rw [b64_ushr (by omega) (by omega), ← b64_s (x := y) (by omega), b64_and]
  have h2 := pkD_at (w := 8) (x := x) W hp h
  have h3 : pkD 8 x W / 2 ^ (8 * p) &&& y = x p &&& y := by
    rw [← h2]
    apply nat_bits
    intro k
    have e8 : (2 : Nat) ^ 8 = 256 := by decide
    rw [Nat.testBit_and, Nat.testBit_and, Bool.and_eq_true, Bool.and_eq_true, Nat.testBit_mod_two_pow, Bool.and_eq_true, decide_eq_true_iff]
    refine ⟨fun g => ⟨⟨?_, g.1⟩, g.2⟩, fun g => ⟨g.1.2, g.2⟩⟩
    apply Classical.byContradiction
    intro hk
    have : y < 2 ^ k := Nat.lt_of_lt_of_le hy (by rw [← e8]; exact Nat.pow_le_pow_right (by omega) (by omega))
    have := Nat.testBit_lt_two_pow this
    rw [g.2] at this
    cases this
  rw [h3]
  have : x p &&& y ≤ x p := Nat.and_le_left
  have := h p hp
  exact b64_s (by omega)
theorem c_cleared_l {X : List Int} {d : Nat} {st dr rd : Int} {a s b : C3} {W n v : Nat} {H : Nat → SC} (hn : n ≤ 180) (hn0 : 0 < n) (hW : W ≤ 8) (y p : Nat) (hy : y < 256) (hp : p < W) (hL : LkC W H n v a) (hS : SpC W H n y v a) (m : Nat) (hm1 : spfF W H y v n ≤ m) (hm : m ≤ sptF W H (n - 1) y v + 1) (hv : ∀ j, spfF W H y v n ≤ j → j < m → ClrF W H (n - 1) y v p j) : Ev X d 136 5 [Vr 138, Vi (p : Int), Vi (y : Int), Vi (m : Int)] [] (SHv st dr rd, ovl a s b) (fun rr hh => rr = some (Vi (if ∀ m, m < sptF W H (n - 1) y v + 1 → spfF W H y v (n - 1 + 1) ≤ m → ClrF W H (n - 1) y v p m then 1 else 0)) ∧ hh = (SHv st dr rd, ovl a s b)) := by
  induction hkk : (sptF W H (n - 1) y v + 1 - m) using Nat.strongRecOn generalizing m with
  | ind kk ih =>
    have hn1 : n - 1 + 1 = n := by omega
    have h8 := hS.2
    have hle := sptF_le (W := W) (H := H) (N := n - 1) (y := y) (v := v)
    have hsp := spfF_le (W := W) (H := H) (y := y) (v := v) n
    have hcl : ∀ i, clB W (H m) (H (n - 1) 0 v) i < 256 := fun i => clB_lt hW
    have hca := fun (_ : Unit) => clr_ne (W := W) (H := H) (N := n - 1) (y := y) (v := v) (p := p) (m := m)
    have h9 : Unit → m < n → a 139 m = b64 (pkD 8 (clB W (H m) (H (n - 1) 0 v)) W) := fun _ h => (hL.2.2.2.2.2 m h).2
    refine Ev.steps (k := 3) (pc' := 10) (L' := [Vr 138, Vi (p : Int), Vi (y : Int), Vi (m : Int)]) (S' := [Vi (a 138 8), Vi (m : Int)]) (h' := ((SHv st dr rd), (ovl a s b))) (fun _ => rfl) ?_
    rw [h8]
    refine Ev.ite (P := ((sptF W H (n - 1) y v : Nat) : Int) < (m : Int)) (k := 1) (a := 40) (b := 13) (L' := [Vr 138, Vi (p : Int), Vi (y : Int), Vi (m : Int)]) (S' := []) (h' := ((SHv st dr rd), (ovl a s b))) (fun _ => rfl) (fun b10 => ?_) (fun b10 => ?_)
    · refine Ev.fin (k := 2) (r := (some (Vi 1))) (h' := ((SHv st dr rd), (ovl a s b))) (fun _ => rfl) ?_
      refine ⟨?_, rfl⟩
      rw [hn1]
      rw [if_pos (fun j h1 h2 => hv j h2 (by omega))]
    · refine Ev.steps (k := 3) (pc' := 18) (L' := [Vr 138, Vi (p : Int), Vi (y : Int), Vi (m : Int)]) (S' := [Vi (m : Int), Vr 139]) (h' := ((SHv st dr rd), (ovl a s b))) (fun _ => rfl) ?_
      refine Ev.lald (v := (b64 (pkD 8 (clB W (H m) (H (n - 1) 0 v)) W))) rfl (by decide) rfl (by omega) (by omega) ((h9 () (by omega))) ?_
      refine Ev.steps (k := 3) (pc' := 23) (L' := [Vr 138, Vi (p : Int), Vi (y : Int), Vi (m : Int)]) (S' := [Vi (w32 ((p : Int) * 8)), Vl (b64 (pkD 8 (clB W (H m) (H (n - 1) 0 v)) W))]) (h' := ((SHv st dr rd), (ovl a s b))) (fun _ => rfl) ?_
      rw [show (w32 ((p : Int) * 8)) = ((8 * p : Nat) : Int) from (by unfold w32; omega)]
      refine Ev.steps (k := 4) (pc' := 27) (L' := [Vr 138, Vi (p : Int), Vi (y : Int), Vi (m : Int)]) (S' := [Vl (l_and (l_ushr (b64 (pkD 8 (clB W (H m) (H (n - 1) 0 v)) W)) ((8 * p : Nat) : Int)) (y : Int))]) (h' := ((SHv st dr rd), (ovl a s b))) (fun _ => rfl) ?_
      rw [show (l_and (l_ushr (b64 (pkD 8 (clB W (H m) (H (n - 1) 0 v)) W)) ((8 * p : Nat) : Int)) (y : Int)) = ((clB W (H m) (H (n - 1) 0 v) p &&& y : Nat) : Int) from (byl_at hW hp hy (fun i _ => hcl i))]
      refine Ev.ite (P := (l_cmp ((clB W (H m) (H (n - 1) 0 v) p &&& y : Nat) : Int) 0) ≠ 0) (k := 3) (a := 34) (b := 32) (L' := [Vr 138, Vi (p : Int), Vi (y : Int), Vi (m : Int)]) (S' := []) (h' := ((SHv st dr rd), (ovl a s b))) (fun _ => rfl) (fun b29 => ?_) (fun b29 => ?_)
      · rw [lc_ne] at b29
        refine Ev.steps (k := 1) (pc' := 37) (L' := [Vr 138, Vi (p : Int), Vi (y : Int), Vi (w32 ((m : Int) + 1))]) (S' := []) (h' := ((SHv st dr rd), (ovl a s b))) (fun _ => rfl) ?_
        rw [show (w32 ((m : Int) + 1)) = ((m : Int) + 1) from w32_id (by unfold R32; omega)]
        refine Ev.steps (k := 1) (pc' := 5) (L' := [Vr 138, Vi (p : Int), Vi (y : Int), Vi ((m : Int) + 1)]) (S' := []) (h' := ((SHv st dr rd), (ovl a s b))) (fun _ => rfl) ?_
        refine ih _ (by omega) (m + 1) (by omega) (by omega) (fun j h1 h2 => ?_) rfl
        by_cases g : j = m
        · rw [g]
          exact (hca ()).mp (by omega)
        · exact hv j h1 (by omega)
      · rw [lc_ne] at b29
        refine Ev.fin (k := 2) (r := (some (Vi 0))) (h' := ((SHv st dr rd), (ovl a s b))) (fun _ => rfl) ?_
        refine ⟨?_, rfl⟩
        rw [hn1]
        rw [if_neg (fun h => (hca ()).mpr (h m (by omega) hm1) (by omega))]
theorem c_cleared {X : List Int} {d : Nat} {st dr rd : Int} {a s b : C3} {W n v : Nat} {H : Nat → SC} (hn : n ≤ 180) (hn0 : 0 < n) (hW : W ≤ 8) (y p : Nat) (hy : y < 256) (hp : p < W) (hL : LkC W H n v a) (hS : SpC W H n y v a) (hle : spfF W H y v n ≤ sptF W H (n - 1) y v + 1) : Ev X d 136 0 [Vr 138, Vi (p : Int), Vi (y : Int), Vx] [] (SHv st dr rd, ovl a s b) (fun rr hh => rr = some (Vi (if ∀ m, m < sptF W H (n - 1) y v + 1 → spfF W H y v (n - 1 + 1) ≤ m → ClrF W H (n - 1) y v p m then 1 else 0)) ∧ hh = (SHv st dr rd, ovl a s b)) := by
  have h7 := hS.1
  refine Ev.steps (k := 2) (pc' := 4) (L' := [Vr 138, Vi (p : Int), Vi (y : Int), Vx]) (S' := [Vi (a 138 7)]) (h' := ((SHv st dr rd), (ovl a s b))) (fun _ => rfl) ?_
  rw [h7]
  refine Ev.steps (k := 1) (pc' := 5) (L' := [Vr 138, Vi (p : Int), Vi (y : Int), Vi ((spfF W H y v n : Nat) : Int)]) (S' := []) (h' := ((SHv st dr rd), (ovl a s b))) (fun _ => rfl) ?_
  exact c_cleared_l hn hn0 hW y p hy hp hL hS _ (Nat.le_refl _) hle (fun j h1 h2 => absurd h2 (by omega))
theorem spf_spt {W : Nat} {H : Nat → SC} {y v n : Nat} (hD : DmH H v n) (hdv : H (n - 1) 1 v = 0) (hn0 : 0 < n) : spfF W H y v n ≤ ddN H v n ∧ ddN H v n ≤ sptF W H (n - 1) y v := by
  have hdd : ddN H v n < n := by
    by_cases g : ddN H v n < n
    · exact g
    · exact absurd hdv (ddN_a (n := n) (by omega))
  refine ⟨?_, ?_⟩
  · rw [spf_dd hD n (by omega) (Nat.le_refl n)]
    exact spfF_le _
  · unfold sptF
    rw [show n - 1 + 1 = n by omega]
    split
    · next h =>
      have h2 : ∃ p, p < W ∧ y.testBit p = true ∧ seeS (H (lst (fdF W H y v) n)) p v = 2 := of_decide_eq_true (lst_sat (fdF W H y v) n h)
      obtain ⟨p, -, -, h3⟩ := h2
      have h4 := see_d2 h3
      apply Classical.byContradiction
      intro hlt
      exact ddN_a (n := n) (m := lst (fdF W H y v) n) (by omega) h4
    · omega
theorem c_susp_l {X : List Int} {d : Nat} {st dr rd : Int} {a s b : C3} {W n v : Nat} {H : Nat → SC} (hn : n ≤ 180) (hn0 : 0 < n) (hW : W ≤ 8) (hD : DmH H v n) (hdv : H (n - 1) 1 v = 0) (x : Nat) (hx : x < 256) (hL : LkC W H n v a) (hS : SpC W H n (hrdF H (n - 1) x W) v a) (p : Nat) (hp : p ≤ W) : Ev X (d + 1) 135 9 [Vr 138, Vi (x : Int), Vi ((cldF W H (n - 1) (hrdF H (n - 1) x W) v p : Nat) : Int), Vi (p : Int)] [] (SHv st dr rd, ovl a s b) (fun rr hh => rr = some (Vi ((cldF W H (n - 1) (hrdF H (n - 1) x W) v W : Nat) : Int)) ∧ hh = (SHv st dr rd, ovl a s b)) := by
  induction hkk : (W - p) using Nat.strongRecOn generalizing p with
  | ind kk ih =>
    obtain ⟨l2, l3, l4, l5, l6, lR⟩ := id hL
    have hal := alvB_lt (c := H (n - 1)) hW
    have hy := hrdF_256 (W := W) (H := H) (N := n - 1) (x := x) hW
    have hlt := cldF_lt W H (n - 1) (hrdF H (n - 1) x W) v p
    have hp2 : 2 ^ p ≤ 2 ^ 8 := Nat.pow_le_pow_right (by omega) (by omega)
    have hle := spf_spt (W := W) (y := (hrdF H (n - 1) x W)) hD hdv hn0
    have hcs := fun (_ : Unit) => cldF_s (W := W) (H := H) (N := n - 1) (y := (hrdF H (n - 1) x W)) (v := v) (p := p)
    refine Ev.steps (k := 3) (pc' := 14) (L' := [Vr 138, Vi (x : Int), Vi ((cldF W H (n - 1) (hrdF H (n - 1) x W) v p : Nat) : Int), Vi (p : Int)]) (S' := [Vi (a 138 3), Vi (p : Int)]) (h' := ((SHv st dr rd), (ovl a s b))) (fun _ => rfl) ?_
    rw [l3]
    refine Ev.ite (P := (W : Int) ≤ (p : Int)) (k := 1) (a := 51) (b := 17) (L' := [Vr 138, Vi (x : Int), Vi ((cldF W H (n - 1) (hrdF H (n - 1) x W) v p : Nat) : Int), Vi (p : Int)]) (S' := []) (h' := ((SHv st dr rd), (ovl a s b))) (fun _ => rfl) (fun b14 => ?_) (fun b14 => ?_)
    · refine Ev.fin (k := 2) (r := (some (Vi ((cldF W H (n - 1) (hrdF H (n - 1) x W) v p : Nat) : Int)))) (h' := ((SHv st dr rd), (ovl a s b))) (fun _ => rfl) ?_
      obtain rfl : p = W := by omega
      exact ⟨rfl, rfl⟩
    · refine Ev.steps (k := 3) (pc' := 22) (L' := [Vr 138, Vi (x : Int), Vi ((cldF W H (n - 1) (hrdF H (n - 1) x W) v p : Nat) : Int), Vi (p : Int)]) (S' := [Vi (a 138 4), Vi (p : Int)]) (h' := ((SHv st dr rd), (ovl a s b))) (fun _ => rfl) ?_
      rw [l4]
      refine Ev.ite (P := (p : Int) = (v : Int)) (k := 1) (a := 45) (b := 25) (L' := [Vr 138, Vi (x : Int), Vi ((cldF W H (n - 1) (hrdF H (n - 1) x W) v p : Nat) : Int), Vi (p : Int)]) (S' := []) (h' := ((SHv st dr rd), (ovl a s b))) (fun _ => rfl) (fun b22 => ?_) (fun b22 => ?_)
      · refine Ev.steps (k := 1) (pc' := 48) (L' := [Vr 138, Vi (x : Int), Vi ((cldF W H (n - 1) (hrdF H (n - 1) x W) v p : Nat) : Int), Vi (w32 ((p : Int) + 1))]) (S' := []) (h' := ((SHv st dr rd), (ovl a s b))) (fun _ => rfl) ?_
        rw [show (w32 ((p : Int) + 1)) = ((p : Int) + 1) from w32_id (by unfold R32; omega)]
        refine Ev.steps (k := 1) (pc' := 9) (L' := [Vr 138, Vi (x : Int), Vi ((cldF W H (n - 1) (hrdF H (n - 1) x W) v p : Nat) : Int), Vi ((p : Int) + 1)]) (S' := []) (h' := ((SHv st dr rd), (ovl a s b))) (fun _ => rfl) ?_
        have he : ((cldF W H (n - 1) (hrdF H (n - 1) x W) v p : Nat) : Int) = ((cldF W H (n - 1) (hrdF H (n - 1) x W) v (p + 1) : Nat) : Int) := by
          rw [hcs ()]
          first
            | (rw [if_pos (show CanF W H (n - 1) (hrdF H (n - 1) x W) v p from ⟨by omega, c33⟩), i_shl1 (by omega), i_or_nat (by omega) (by omega), Nat.or_two_pow_eq_add_of_lt hlt]; done)
            | (rw [if_neg (show ¬ CanF W H (n - 1) (hrdF H (n - 1) x W) v p from fun h => h.2 c33)]; done)
            | (rw [if_neg (show ¬ CanF W H (n - 1) (hrdF H (n - 1) x W) v p from fun h => h.1 (by omega))]; done)
        rw [he]
        exact ih _ (by omega) (p + 1) (by omega) rfl
      · refine Ev.steps (k := 5) (pc' := 32) (L' := [Vr 138, Vi (x : Int), Vi ((cldF W H (n - 1) (hrdF H (n - 1) x W) v p : Nat) : Int), Vi (p : Int)]) (S' := [Vi (a 138 6), Vi (x : Int), Vi (p : Int), Vr 138]) (h' := ((SHv st dr rd), (ovl a s b))) (fun _ => rfl) ?_
        rw [l6]
        refine Ev.steps (k := 1) (pc' := 33) (L' := [Vr 138, Vi (x : Int), Vi ((cldF W H (n - 1) (hrdF H (n - 1) x W) v p : Nat) : Int), Vi (p : Int)]) (S' := [Vi (i_and (x : Int) ((alvB W (H (n - 1)) : Nat) : Int)), Vi (p : Int), Vr 138]) (h' := ((SHv st dr rd), (ovl a s b))) (fun _ => rfl) ?_
        rw [show (i_and (x : Int) ((alvB W (H (n - 1)) : Nat) : Int)) = ((hrdF H (n - 1) x W : Nat) : Int) from (by rw [i_and_nat (by omega) (by omega), hrd_and])]
        refine Ev.call (k := 0) (pc1 := 33) (L1 := [Vr 138, Vi (x : Int), Vi ((cldF W H (n - 1) (hrdF H (n - 1) x W) v p : Nat) : Int), Vi (p : Int)]) (S1 := [Vi ((hrdF H (n - 1) x W : Nat) : Int), Vi (p : Int), Vr 138]) (h1 := ((SHv st dr rd), (ovl a s b))) (m' := 136) (as := [Vr 138, Vi (p : Int), Vi ((hrdF H (n - 1) x W : Nat) : Int)]) (S' := []) (L0 := [Vr 138, Vi (p : Int), Vi ((hrdF H (n - 1) x W : Nat) : Int), Vx]) (fun _ => rfl) rfl rfl rfl rfl rfl rfl (c_cleared hn hn0 hW (hrdF H (n - 1) x W) p hy (by omega) hL hS (by omega)) (fun r h' hq => ?_)
        obtain ⟨rfl, rfl⟩ := hq
        by_cases c33 : ∀ m, m < sptF W H (n - 1) (hrdF H (n - 1) x W) v + 1 → spfF W H (hrdF H (n - 1) x W) v (n - 1 + 1) ≤ m → ClrF W H (n - 1) (hrdF H (n - 1) x W) v p m
        · rw [if_pos c33]
          show Ev X _ _ 36 [Vr 138, Vi (x : Int), Vi ((cldF W H (n - 1) (hrdF H (n - 1) x W) v p : Nat) : Int), Vi (p : Int)] [Vi 1] ((SHv st dr rd), (ovl a s b)) _
          refine Ev.steps (k := 2) (pc' := 48) (L' := [Vr 138, Vi (x : Int), Vi ((cldF W H (n - 1) (hrdF H (n - 1) x W) v p : Nat) : Int), Vi (w32 ((p : Int) + 1))]) (S' := []) (h' := ((SHv st dr rd), (ovl a s b))) (fun _ => rfl) ?_
          rw [show (w32 ((p : Int) + 1)) = ((p : Int) + 1) from w32_id (by unfold R32; omega)]
          refine Ev.steps (k := 1) (pc' := 9) (L' := [Vr 138, Vi (x : Int), Vi ((cldF W H (n - 1) (hrdF H (n - 1) x W) v p : Nat) : Int), Vi ((p : Int) + 1)]) (S' := []) (h' := ((SHv st dr rd), (ovl a s b))) (fun _ => rfl) ?_
          have he : ((cldF W H (n - 1) (hrdF H (n - 1) x W) v p : Nat) : Int) = ((cldF W H (n - 1) (hrdF H (n - 1) x W) v (p + 1) : Nat) : Int) := by
            rw [hcs ()]
            first
              | (rw [if_pos (show CanF W H (n - 1) (hrdF H (n - 1) x W) v p from ⟨by omega, c33⟩), i_shl1 (by omega), i_or_nat (by omega) (by omega), Nat.or_two_pow_eq_add_of_lt hlt]; done)
              | (rw [if_neg (show ¬ CanF W H (n - 1) (hrdF H (n - 1) x W) v p from fun h => h.2 c33)]; done)
              | (rw [if_neg (show ¬ CanF W H (n - 1) (hrdF H (n - 1) x W) v p from fun h => h.1 (by omega))]; done)
          rw [he]
          exact ih _ (by omega) (p + 1) (by omega) rfl
        · rw [if_neg c33]
          show Ev X _ _ 36 [Vr 138, Vi (x : Int), Vi ((cldF W H (n - 1) (hrdF H (n - 1) x W) v p : Nat) : Int), Vi (p : Int)] [Vi 0] ((SHv st dr rd), (ovl a s b)) _
          refine Ev.steps (k := 8) (pc' := 48) (L' := [Vr 138, Vi (x : Int), Vi (i_or ((cldF W H (n - 1) (hrdF H (n - 1) x W) v p : Nat) : Int) (i_shl 1 (p : Int))), Vi (w32 ((p : Int) + 1))]) (S' := []) (h' := ((SHv st dr rd), (ovl a s b))) (fun _ => rfl) ?_
          rw [show (w32 ((p : Int) + 1)) = ((p : Int) + 1) from w32_id (by unfold R32; omega)]
          refine Ev.steps (k := 1) (pc' := 9) (L' := [Vr 138, Vi (x : Int), Vi (i_or ((cldF W H (n - 1) (hrdF H (n - 1) x W) v p : Nat) : Int) (i_shl 1 (p : Int))), Vi ((p : Int) + 1)]) (S' := []) (h' := ((SHv st dr rd), (ovl a s b))) (fun _ => rfl) ?_
          have he : (i_or ((cldF W H (n - 1) (hrdF H (n - 1) x W) v p : Nat) : Int) (i_shl 1 (p : Int))) = ((cldF W H (n - 1) (hrdF H (n - 1) x W) v (p + 1) : Nat) : Int) := by
            rw [hcs ()]
            first
              | (rw [if_pos (show CanF W H (n - 1) (hrdF H (n - 1) x W) v p from ⟨by omega, c33⟩), i_shl1 (by omega), i_or_nat (by omega) (by omega), Nat.or_two_pow_eq_add_of_lt hlt]; done)
              | (rw [if_neg (show ¬ CanF W H (n - 1) (hrdF H (n - 1) x W) v p from fun h => h.2 c33)]; done)
              | (rw [if_neg (show ¬ CanF W H (n - 1) (hrdF H (n - 1) x W) v p from fun h => h.1 (by omega))]; done)
          rw [he]
          exact ih _ (by omega) (p + 1) (by omega) rfl
theorem c_suspects {X : List Int} {d : Nat} {st dr rd : Int} {a s b : C3} {W n v : Nat} {H : Nat → SC} (hn : n ≤ 180) (hn0 : 0 < n) (hW : W ≤ 8) (hD : DmH H v n) (hdv : H (n - 1) 1 v = 0) (x : Nat) (hx : x < 256) (hL : LkC W H n v a) : Ev X (d + 1) 135 0 [Vr 138, Vi (x : Int), Vx, Vx] [] (SHv st dr rd, ovl a s b) (fun rr hh => rr = some (Vi ((cldF W H (n - 1) (hrdF H (n - 1) x W) v W : Nat) : Int)) ∧ ∃ a' : C3, hh = (SHv st dr rd, ovl a' s b) ∧ (∀ o, o ≠ 138 → a' o = a o) ∧ LkC W H n v a') := by
  refine Ev.call (k := 2) (pc1 := 2) (L1 := [Vr 138, Vi (x : Int), Vx, Vx]) (S1 := [Vi (x : Int), Vr 138]) (h1 := ((SHv st dr rd), (ovl a s b))) (m' := 133) (as := [Vr 138, Vi (x : Int)]) (S' := []) (L0 := [Vr 138, Vi (x : Int), Vx, Vx]) (fun _ => rfl) rfl rfl rfl rfl rfl rfl (c_setSpan hn hn0 hW hD hdv x hx hL) (fun r h' hq => ?_)
  obtain ⟨rfl, a2, rfl, g1, g2, g3⟩ := hq
  show Ev X _ _ 5 [Vr 138, Vi (x : Int), Vx, Vx] [] ((SHv st dr rd), (ovl a2 s b)) _
  refine Ev.steps (k := 4) (pc' := 9) (L' := [Vr 138, Vi (x : Int), Vi 0, Vi 0]) (S' := []) (h' := ((SHv st dr rd), (ovl a2 s b))) (fun _ => rfl) ?_
  refine Ev.mono (c_susp_l hn hn0 hW hD hdv x hx g2 g3 0 (by omega)) (fun r h2 hq => ?_)
  obtain ⟨q1, q2⟩ := hq
  exact ⟨q1, a2, q2, g1, g2⟩
theorem bc_ok : ∀ x : Fin 256, (i_and (w32 ((w32 ((i_and (w32 ((w32 ((i_and (w32 (((x.val : Nat) : Int) - (i_and (i_ushr ((x.val : Nat) : Int) 1) 1431655765))) 858993459) + (i_and (i_ushr (w32 (((x.val : Nat) : Int) - (i_and (i_ushr ((x.val : Nat) : Int) 1) 1431655765))) 2) 858993459))) + (i_ushr (w32 ((i_and (w32 (((x.val : Nat) : Int) - (i_and (i_ushr ((x.val : Nat) : Int) 1) 1431655765))) 858993459) + (i_and (i_ushr (w32 (((x.val : Nat) : Int) - (i_and (i_ushr ((x.val : Nat) : Int) 1) 1431655765))) 2) 858993459))) 4))) 252645135) + (i_ushr (i_and (w32 ((w32 ((i_and (w32 (((x.val : Nat) : Int) - (i_and (i_ushr ((x.val : Nat) : Int) 1) 1431655765))) 858993459) + (i_and (i_ushr (w32 (((x.val : Nat) : Int) - (i_and (i_ushr ((x.val : Nat) : Int) 1) 1431655765))) 2) 858993459))) + (i_ushr (w32 ((i_and (w32 (((x.val : Nat) : Int) - (i_and (i_ushr ((x.val : Nat) : Int) 1) 1431655765))) 858993459) + (i_and (i_ushr (w32 (((x.val : Nat) : Int) - (i_and (i_ushr ((x.val : Nat) : Int) 1) 1431655765))) 2) 858993459))) 4))) 252645135) 8))) + (i_ushr (w32 ((i_and (w32 ((w32 ((i_and (w32 (((x.val : Nat) : Int) - (i_and (i_ushr ((x.val : Nat) : Int) 1) 1431655765))) 858993459) + (i_and (i_ushr (w32 (((x.val : Nat) : Int) - (i_and (i_ushr ((x.val : Nat) : Int) 1) 1431655765))) 2) 858993459))) + (i_ushr (w32 ((i_and (w32 (((x.val : Nat) : Int) - (i_and (i_ushr ((x.val : Nat) : Int) 1) 1431655765))) 858993459) + (i_and (i_ushr (w32 (((x.val : Nat) : Int) - (i_and (i_ushr ((x.val : Nat) : Int) 1) 1431655765))) 2) 858993459))) 4))) 252645135) + (i_ushr (i_and (w32 ((w32 ((i_and (w32 (((x.val : Nat) : Int) - (i_and (i_ushr ((x.val : Nat) : Int) 1) 1431655765))) 858993459) + (i_and (i_ushr (w32 (((x.val : Nat) : Int) - (i_and (i_ushr ((x.val : Nat) : Int) 1) 1431655765))) 2) 858993459))) + (i_ushr (w32 ((i_and (w32 (((x.val : Nat) : Int) - (i_and (i_ushr ((x.val : Nat) : Int) 1) 1431655765))) 858993459) + (i_and (i_ushr (w32 (((x.val : Nat) : Int) - (i_and (i_ushr ((x.val : Nat) : Int) 1) 1431655765))) 2) 858993459))) 4))) 252645135) 8))) 16))) 63) = ((bcS x.val : Nat) : Int) := by decide +kernel
theorem c_bitCount {X : List Int} {d : Nat} {st dr rd : Int} {a s b : C3} (x : Nat) (hx : x < 256) : Ev X d 140 0 [Vi (x : Int)] [] (SHv st dr rd, ovl a s b) (fun rr hh => rr = some (Vi ((bcS x : Nat) : Int)) ∧ hh = (SHv st dr rd, ovl a s b)) := by
  refine Ev.fin (k := 42) (r := (some (Vi (i_and (w32 ((w32 ((i_and (w32 ((w32 ((i_and (w32 ((x : Int) - (i_and (i_ushr (x : Int) 1) 1431655765))) 858993459) + (i_and (i_ushr (w32 ((x : Int) - (i_and (i_ushr (x : Int) 1) 1431655765))) 2) 858993459))) + (i_ushr (w32 ((i_and (w32 ((x : Int) - (i_and (i_ushr (x : Int) 1) 1431655765))) 858993459) + (i_and (i_ushr (w32 ((x : Int) - (i_and (i_ushr (x : Int) 1) 1431655765))) 2) 858993459))) 4))) 252645135) + (i_ushr (i_and (w32 ((w32 ((i_and (w32 ((x : Int) - (i_and (i_ushr (x : Int) 1) 1431655765))) 858993459) + (i_and (i_ushr (w32 ((x : Int) - (i_and (i_ushr (x : Int) 1) 1431655765))) 2) 858993459))) + (i_ushr (w32 ((i_and (w32 ((x : Int) - (i_and (i_ushr (x : Int) 1) 1431655765))) 858993459) + (i_and (i_ushr (w32 ((x : Int) - (i_and (i_ushr (x : Int) 1) 1431655765))) 2) 858993459))) 4))) 252645135) 8))) + (i_ushr (w32 ((i_and (w32 ((w32 ((i_and (w32 ((x : Int) - (i_and (i_ushr (x : Int) 1) 1431655765))) 858993459) + (i_and (i_ushr (w32 ((x : Int) - (i_and (i_ushr (x : Int) 1) 1431655765))) 2) 858993459))) + (i_ushr (w32 ((i_and (w32 ((x : Int) - (i_and (i_ushr (x : Int) 1) 1431655765))) 858993459) + (i_and (i_ushr (w32 ((x : Int) - (i_and (i_ushr (x : Int) 1) 1431655765))) 2) 858993459))) 4))) 252645135) + (i_ushr (i_and (w32 ((w32 ((i_and (w32 ((x : Int) - (i_and (i_ushr (x : Int) 1) 1431655765))) 858993459) + (i_and (i_ushr (w32 ((x : Int) - (i_and (i_ushr (x : Int) 1) 1431655765))) 2) 858993459))) + (i_ushr (w32 ((i_and (w32 ((x : Int) - (i_and (i_ushr (x : Int) 1) 1431655765))) 858993459) + (i_and (i_ushr (w32 ((x : Int) - (i_and (i_ushr (x : Int) 1) 1431655765))) 2) 858993459))) 4))) 252645135) 8))) 16))) 63)))) (h' := ((SHv st dr rd), (ovl a s b))) (fun _ => rfl) ?_
  refine ⟨?_, rfl⟩
  exact congrArg (fun z => some (Vi z)) (bc_ok ⟨x, hx⟩)
theorem c_known {X : List Int} {d : Nat} {st dr rd : Int} {a s b : C3} {W n v : Nat} {H : Nat → SC} (hn : n ≤ 180) (hn0 : 0 < n) (hW : W ≤ 8) (hD : DmH H v n) (hdv : H (n - 1) 1 v = 0) (x : Nat) (hx : x < 256) (hL : LkC W H n v a) : Ev X (d + 2) 139 0 [Vr 138, Vi (x : Int)] [] (SHv st dr rd, ovl a s b) (fun rr hh => rr = some (Vi (if bcS (cldF W H (n - 1) (hrdF H (n - 1) x W) v W) = 1 then 1 else 0)) ∧ ∃ a' : C3, hh = (SHv st dr rd, ovl a' s b) ∧ (∀ o, o ≠ 138 → a' o = a o) ∧ LkC W H n v a') := by
  have hcl := cldF_lt W H (n - 1) (hrdF H (n - 1) x W) v W
  have hp8 := pw8 hW
  refine Ev.call (k := 2) (pc1 := 2) (L1 := [Vr 138, Vi (x : Int)]) (S1 := [Vi (x : Int), Vr 138]) (h1 := ((SHv st dr rd), (ovl a s b))) (m' := 135) (as := [Vr 138, Vi (x : Int)]) (S' := []) (L0 := [Vr 138, Vi (x : Int), Vx, Vx]) (fun _ => rfl) rfl rfl rfl rfl rfl rfl (c_suspects hn hn0 hW hD hdv x hx hL) (fun r h' hq => ?_)
  obtain ⟨rfl, a2, rfl, g1, g2⟩ := hq
  show Ev X _ _ 5 [Vr 138, Vi (x : Int)] [Vi ((cldF W H (n - 1) (hrdF H (n - 1) x W) v W : Nat) : Int)] ((SHv st dr rd), (ovl a2 s b)) _
  refine Ev.call (k := 0) (pc1 := 5) (L1 := [Vr 138, Vi (x : Int)]) (S1 := [Vi ((cldF W H (n - 1) (hrdF H (n - 1) x W) v W : Nat) : Int)]) (h1 := ((SHv st dr rd), (ovl a2 s b))) (m' := 140) (as := [Vi ((cldF W H (n - 1) (hrdF H (n - 1) x W) v W : Nat) : Int)]) (S' := []) (L0 := [Vi ((cldF W H (n - 1) (hrdF H (n - 1) x W) v W : Nat) : Int)]) (fun _ => rfl) rfl rfl rfl rfl rfl rfl (c_bitCount _ (by omega)) (fun r h' hq => ?_)
  obtain ⟨rfl, rfl⟩ := hq
  show Ev X _ _ 8 [Vr 138, Vi (x : Int)] [Vi ((bcS (cldF W H (n - 1) (hrdF H (n - 1) x W) v W) : Nat) : Int)] ((SHv st dr rd), (ovl a2 s b)) _
  refine Ev.ite (P := ((bcS (cldF W H (n - 1) (hrdF H (n - 1) x W) v W) : Nat) : Int) ≠ 1) (k := 2) (a := 16) (b := 12) (L' := [Vr 138, Vi (x : Int)]) (S' := []) (h' := ((SHv st dr rd), (ovl a2 s b))) (fun _ => rfl) (fun b9 => ?_) (fun b9 => ?_)
  · refine Ev.fin (k := 2) (r := (some (Vi 0))) (h' := ((SHv st dr rd), (ovl a2 s b))) (fun _ => rfl) ?_
    refine ⟨?_, a2, rfl, g1, g2⟩
    first | rw [if_pos (by omega)] | rw [if_neg (by omega)]
  · refine Ev.fin (k := 3) (r := (some (Vi 1))) (h' := ((SHv st dr rd), (ovl a2 s b))) (fun _ => rfl) ?_
    refine ⟨?_, a2, rfl, g1, g2⟩
    first | rw [if_pos (by omega)] | rw [if_neg (by omega)]
