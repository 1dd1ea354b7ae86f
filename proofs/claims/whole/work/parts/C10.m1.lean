/-! THE CLASS: leaves -/
theorem ib0 {x p : Nat} (hp : p < 31) (hx : x < 2147483648) : (i_and (x : Int) (i_shl 1 (p : Int)) = 0) = ¬ (x.testBit p = true) := by
  rw [i_bit2 hp hx]
  have := pow_pos2 p
  split
  · next h => exact propext ⟨fun h2 => absurd h2 this, fun h2 => absurd h h2⟩
  · next h => exact propext ⟨fun _ => h, fun _ => rfl⟩
theorem ib1 {x p : Nat} (hp : p < 31) (hx : x < 2147483648) : (i_and (x : Int) (i_shl 1 (p : Int)) ≠ 0) = (x.testBit p = true) := by
  rw [ne_eq, ib0 hp hx, Classical.not_not]
theorem c_there {X : List Int} {d : Nat} {st dr rd : Int} {a s b : C3} {y : Nat} (hy : hyS y) (q : Nat) (hq : q < 6) (n : Int) : Ev X d 70 0 [Vr (y : Int), Vi (q : Int), Vi n] [] (SHv st dr rd, ovl a s b) (fun rr hh => rr = some (Vi (if 0 ≤ n ∧ n < a (y + 1) q then 1 else 0)) ∧ hh = (SHv st dr rd, ovl a s b)) := by
  have hy0 : y = 2 ∨ y = 58 := hy
  refine Ev.ite (P := n < 0) (k := 2) (a := 18) (b := 4) (L' := [Vr (y : Int), Vi (q : Int), Vi n]) (S' := []) (h' := ((SHv st dr rd), (ovl a s b))) (fun _ => rfl) (fun b1 => ?_) (fun b1 => ?_)
  · refine Ev.fin (k := 2) (r := (some (Vi 0))) (h' := ((SHv st dr rd), (ovl a s b))) (fun _ => rfl) ?_
    refine ⟨?_, rfl⟩
    first | rfl | rw [if_pos (by omega)] | rw [if_neg (by omega)]
  · refine Ev.steps (k := 2) (pc' := 6) (L' := [Vr (y : Int), Vi (q : Int), Vi n]) (S' := [Vr (y : Int), Vi n]) (h' := ((SHv st dr rd), (ovl a s b))) (fun _ => rfl) ?_
    refine Ev.getr (r := ((y : Int) + 1)) rfl rfl (by omega) (shY_0 hy) rfl rfl rfl ?_
    refine Ev.steps (k := 1) (pc' := 10) (L' := [Vr (y : Int), Vi (q : Int), Vi n]) (S' := [Vi (q : Int), Vr ((y : Int) + 1), Vi n]) (h' := ((SHv st dr rd), (ovl a s b))) (fun _ => rfl) ?_
    refine Ev.iald (v := (a (y + 1) q)) rfl (by omega) (shY_1 hy) (by omega) (by omega) (ovl_rc (by omega)) ?_
    refine Ev.ite (P := (a (y + 1) q) ≤ n) (k := 1) (a := 18) (b := 14) (L' := [Vr (y : Int), Vi (q : Int), Vi n]) (S' := []) (h' := ((SHv st dr rd), (ovl a s b))) (fun _ => rfl) (fun b11 => ?_) (fun b11 => ?_)
    · refine Ev.fin (k := 2) (r := (some (Vi 0))) (h' := ((SHv st dr rd), (ovl a s b))) (fun _ => rfl) ?_
      refine ⟨?_, rfl⟩
      first | rfl | rw [if_pos (by omega)] | rw [if_neg (by omega)]
    · refine Ev.fin (k := 3) (r := (some (Vi 1))) (h' := ((SHv st dr rd), (ovl a s b))) (fun _ => rfl) ?_
      refine ⟨?_, rfl⟩
      first | rfl | rw [if_pos (by omega)] | rw [if_neg (by omega)]
theorem c_had {X : List Int} {d : Nat} {st dr rd : Int} {a s b : C3} {u : Nat} (hu : huS u) (m : Int) : Ev X d 106 0 [Vr (u : Int), Vi m] [] (SHv st dr rd, ovl a s b) (fun rr hh => rr = some (Vi (if 0 ≤ m ∧ m < a u 7 then 1 else 0)) ∧ hh = (SHv st dr rd, ovl a s b)) := by
  have hu0 : u = 119 ∨ u = 142 := hu
  refine Ev.ite (P := m < 0) (k := 2) (a := 16) (b := 4) (L' := [Vr (u : Int), Vi m]) (S' := []) (h' := ((SHv st dr rd), (ovl a s b))) (fun _ => rfl) (fun b1 => ?_) (fun b1 => ?_)
  · refine Ev.fin (k := 2) (r := (some (Vi 0))) (h' := ((SHv st dr rd), (ovl a s b))) (fun _ => rfl) ?_
    refine ⟨?_, rfl⟩
    first | rfl | rw [if_pos (by omega)] | rw [if_neg (by omega)]
  · refine Ev.steps (k := 2) (pc' := 6) (L' := [Vr (u : Int), Vi m]) (S' := [Vr (u : Int), Vi m]) (h' := ((SHv st dr rd), (ovl a s b))) (fun _ => rfl) ?_
    refine Ev.getf (v := (a u 7)) rfl rfl (by omega) (shU_0 hu) rfl rfl (ovl_rc (by omega)) ?_
    refine Ev.ite (P := (a u 7) ≤ m) (k := 1) (a := 16) (b := 12) (L' := [Vr (u : Int), Vi m]) (S' := []) (h' := ((SHv st dr rd), (ovl a s b))) (fun _ => rfl) (fun b9 => ?_) (fun b9 => ?_)
    · refine Ev.fin (k := 2) (r := (some (Vi 0))) (h' := ((SHv st dr rd), (ovl a s b))) (fun _ => rfl) ?_
      refine ⟨?_, rfl⟩
      first | rfl | rw [if_pos (by omega)] | rw [if_neg (by omega)]
    · refine Ev.fin (k := 3) (r := (some (Vi 1))) (h' := ((SHv st dr rd), (ovl a s b))) (fun _ => rfl) ?_
      refine ⟨?_, rfl⟩
      first | rfl | rw [if_pos (by omega)] | rw [if_neg (by omega)]
theorem c_lives {X : List Int} {d : Nat} {st dr rd : Int} {a s b : C3} {u : Nat} (hu : huS u) (p : Nat) (hp : p < 30) (x : Nat) (hx : x < 1073741824) (ha : a (u + 1) 7 = (x : Int)) : Ev X d 79 0 [Vr ((u : Int) + 1), Vi (p : Int)] [] (SHv st dr rd, ovl a s b) (fun rr hh => rr = some (Vi (if x.testBit p = true then 1 else 0)) ∧ hh = (SHv st dr rd, ovl a s b)) := by
  have hu0 : u = 119 ∨ u = 142 := hu
  refine Ev.steps (k := 1) (pc' := 1) (L' := [Vr ((u : Int) + 1), Vi (p : Int)]) (S' := [Vr ((u : Int) + 1)]) (h' := ((SHv st dr rd), (ovl a s b))) (fun _ => rfl) ?_
  refine Ev.getf (v := (x : Int)) rfl rfl (by omega) (shU_1 hu) rfl rfl ((ovl_rc (by omega)).trans (ha)) ?_
  refine Ev.ite (P := (i_and (x : Int) (i_shl 1 (p : Int))) = 0) (k := 5) (a := 15) (b := 11) (L' := [Vr ((u : Int) + 1), Vi (p : Int)]) (S' := []) (h' := ((SHv st dr rd), (ovl a s b))) (fun _ => rfl) (fun b8 => ?_) (fun b8 => ?_)
  · rw [ib0 (by omega) (by omega)] at b8
    refine Ev.fin (k := 2) (r := (some (Vi 0))) (h' := ((SHv st dr rd), (ovl a s b))) (fun _ => rfl) ?_
    refine ⟨?_, rfl⟩
    first | rw [if_pos (by exact Classical.not_not.mp b8)] | rw [if_neg b8]
  · rw [ib0 (by omega) (by omega)] at b8
    refine Ev.fin (k := 3) (r := (some (Vi 1))) (h' := ((SHv st dr rd), (ovl a s b))) (fun _ => rfl) ?_
    refine ⟨?_, rfl⟩
    first | rw [if_pos (by exact Classical.not_not.mp b8)] | rw [if_neg b8]
theorem c_leavesOut {X : List Int} {d : Nat} {st dr rd : Int} {a s b : C3} {k : Nat} (hk : hkS k) (p : Nat) (hp : p < 30) (x : Nat) (hx : x < 1073741824) (ha : a k 2 = (x : Int)) : Ev X d 81 0 [Vr (k : Int), Vi (p : Int)] [] (SHv st dr rd, ovl a s b) (fun rr hh => rr = some (Vi (if x.testBit p = true then 1 else 0)) ∧ hh = (SHv st dr rd, ovl a s b)) := by
  have hk0 : k = 8 ∨ k = 64 ∨ k = 116 ∨ k = 127 ∨ k = 150 ∨ k = 161 := hk
  refine Ev.steps (k := 1) (pc' := 1) (L' := [Vr (k : Int), Vi (p : Int)]) (S' := [Vr (k : Int)]) (h' := ((SHv st dr rd), (ovl a s b))) (fun _ => rfl) ?_
  refine Ev.getf (v := (x : Int)) rfl rfl (by omega) (shK_0 hk) rfl rfl ((ovl_rc (by omega)).trans (ha)) ?_
  refine Ev.ite (P := (i_and (x : Int) (i_shl 1 (p : Int))) = 0) (k := 5) (a := 15) (b := 11) (L' := [Vr (k : Int), Vi (p : Int)]) (S' := []) (h' := ((SHv st dr rd), (ovl a s b))) (fun _ => rfl) (fun b8 => ?_) (fun b8 => ?_)
  · rw [ib0 (by omega) (by omega)] at b8
    refine Ev.fin (k := 2) (r := (some (Vi 0))) (h' := ((SHv st dr rd), (ovl a s b))) (fun _ => rfl) ?_
    refine ⟨?_, rfl⟩
    first | rw [if_pos (by exact Classical.not_not.mp b8)] | rw [if_neg b8]
  · rw [ib0 (by omega) (by omega)] at b8
    refine Ev.fin (k := 3) (r := (some (Vi 1))) (h' := ((SHv st dr rd), (ovl a s b))) (fun _ => rfl) ?_
    refine ⟨?_, rfl⟩
    first | rw [if_pos (by exact Classical.not_not.mp b8)] | rw [if_neg b8]
theorem c_leave {X : List Int} {d : Nat} {st dr rd : Int} {a s b : C3} {k : Nat} (hk : hkS k) (p : Nat) (hp : p < 30) (x : Nat) (hx : x < 1073741824) (ha : a k 2 = (x : Int)) (o : Int) : Ev X d 74 0 [Vr (k : Int), Vi (p : Int), Vi o] [] (SHv st dr rd, ovl a s b) (fun rr hh => rr = none ∧ ∃ z : Nat, z < 1073741824 ∧ hh = (SHv st dr rd, ovl (updC a k 2 (z : Int)) s b) ∧ ∀ i, (z.testBit i = true ↔ if i = p then o ≠ 0 else x.testBit i = true)) := by
  have hk0 : k = 8 ∨ k = 64 ∨ k = 116 ∨ k = 127 ∨ k = 150 ∨ k = 161 := hk
  have hp2 : 2 ^ p ≤ 2 ^ 29 := Nat.pow_le_pow_right (by omega) (by omega)
  refine Ev.ite (P := o = 0) (k := 3) (a := 16) (b := 5) (L' := [Vr (k : Int), Vi (p : Int), Vi o]) (S' := [Vr (k : Int)]) (h' := ((SHv st dr rd), (ovl a s b))) (fun _ => rfl) (fun b2 => ?_) (fun b2 => ?_)
  · refine Ev.steps (k := 1) (pc' := 17) (L' := [Vr (k : Int), Vi (p : Int), Vi o]) (S' := [Vr (k : Int), Vr (k : Int)]) (h' := ((SHv st dr rd), (ovl a s b))) (fun _ => rfl) ?_
    refine Ev.getf (v := (x : Int)) rfl rfl (by omega) (shK_0 hk) rfl rfl ((ovl_rc (by omega)).trans (ha)) ?_
    refine Ev.steps (k := 6) (pc' := 26) (L' := [Vr (k : Int), Vi (p : Int), Vi o]) (S' := [Vi (i_and (x : Int) (i_xor (i_shl 1 (p : Int)) (-1))), Vr (k : Int)]) (h' := ((SHv st dr rd), (ovl a s b))) (fun _ => rfl) ?_
    refine Ev.putf (c' := (ovl (updC a k 2 (i_and (x : Int) (i_xor (i_shl 1 (p : Int)) (-1)))) s b)) rfl (by omega) (shK_0 hk) rfl rfl (ovl_wc (by omega)) ?_
    refine Ev.fin (k := 1) (r := none) (h' := ((SHv st dr rd), (ovl (updC a k 2 (i_and (x : Int) (i_xor (i_shl 1 (p : Int)) (-1)))) s b))) (fun _ => rfl) ?_
    refine ⟨rfl, ?_⟩
    first
      | (refine ⟨x ||| 2 ^ p, Nat.or_lt_two_pow (n := 30) hx (by omega), ?_, fun i => ?_⟩
         · rw [i_shl1 (by omega), i_or_nat (by omega) (by omega)]
         · rw [Nat.testBit_or, Bool.or_eq_true, Nat.testBit_two_pow, decide_eq_true_iff]
           split
           · next h => exact ⟨fun _ => by omega, fun _ => Or.inr h.symm⟩
           · next h => exact ⟨fun g => g.resolve_right (fun g2 => h g2.symm), Or.inl⟩)
      | (refine ⟨x &&& (x ^^^ 2 ^ p), Nat.lt_of_le_of_lt Nat.and_le_left hx, ?_, fun i => ?_⟩
         · rw [i_shl1 (by omega), i_andn_nat (by omega) (by omega)]
         · rw [Nat.testBit_and, Nat.testBit_xor, Nat.testBit_two_pow]
           split
           · next h =>
             rw [h, decide_eq_true rfl]
             exact ⟨fun g => by cases hx2 : x.testBit p <;> rw [hx2] at g <;> exact absurd g (by decide), fun g => absurd (by omega) g⟩
           · next h =>
             rw [decide_eq_false (fun h2 => h h2.symm), Bool.xor_false, Bool.and_self])
  · refine Ev.steps (k := 1) (pc' := 6) (L' := [Vr (k : Int), Vi (p : Int), Vi o]) (S' := [Vr (k : Int), Vr (k : Int)]) (h' := ((SHv st dr rd), (ovl a s b))) (fun _ => rfl) ?_
    refine Ev.getf (v := (x : Int)) rfl rfl (by omega) (shK_0 hk) rfl rfl ((ovl_rc (by omega)).trans (ha)) ?_
    refine Ev.steps (k := 5) (pc' := 26) (L' := [Vr (k : Int), Vi (p : Int), Vi o]) (S' := [Vi (i_or (x : Int) (i_shl 1 (p : Int))), Vr (k : Int)]) (h' := ((SHv st dr rd), (ovl a s b))) (fun _ => rfl) ?_
    refine Ev.putf (c' := (ovl (updC a k 2 (i_or (x : Int) (i_shl 1 (p : Int)))) s b)) rfl (by omega) (shK_0 hk) rfl rfl (ovl_wc (by omega)) ?_
    refine Ev.fin (k := 1) (r := none) (h' := ((SHv st dr rd), (ovl (updC a k 2 (i_or (x : Int) (i_shl 1 (p : Int)))) s b))) (fun _ => rfl) ?_
    refine ⟨rfl, ?_⟩
    first
      | (refine ⟨x ||| 2 ^ p, Nat.or_lt_two_pow (n := 30) hx (by omega), ?_, fun i => ?_⟩
         · rw [i_shl1 (by omega), i_or_nat (by omega) (by omega)]
         · rw [Nat.testBit_or, Bool.or_eq_true, Nat.testBit_two_pow, decide_eq_true_iff]
           split
           · next h => exact ⟨fun _ => by omega, fun _ => Or.inr h.symm⟩
           · next h => exact ⟨fun g => g.resolve_right (fun g2 => h g2.symm), Or.inl⟩)
      | (refine ⟨x &&& (x ^^^ 2 ^ p), Nat.lt_of_le_of_lt Nat.and_le_left hx, ?_, fun i => ?_⟩
         · rw [i_shl1 (by omega), i_andn_nat (by omega) (by omega)]
         · rw [Nat.testBit_and, Nat.testBit_xor, Nat.testBit_two_pow]
           split
           · next h =>
             rw [h, decide_eq_true rfl]
             exact ⟨fun g => by cases hx2 : x.testBit p <;> rw [hx2] at g <;> exact absurd g (by decide), fun g => absurd (by omega) g⟩
           · next h =>
             rw [decide_eq_false (fun h2 => h h2.symm), Bool.xor_false, Bool.and_self])
/-- what an evening at u has of its minutes, for those who ask later: H tells the scenes -/
def HsH (W : Nat) (H : Nat → SC) (a : SC) (u n : Nat) : Prop := ∀ m, m < n → ∃ x : Nat → Nat, (∀ i, i < 8 → x i < 8) ∧ (∀ p, p < W → (x p : Int) = H m 0 p) ∧ a (u + 11) m = b32 (pkD 4 x 8) ∧ a (u + 12) m = b64 (pkD 8 (fun r => livB W (H m) r) 8)
theorem HsH.fr {W : Nat} {H : Nat → SC} {a a' : SC} {u n : Nat} (h : HsH W H a u n) (h1 : a' (u + 11) = a (u + 11)) (h2 : a' (u + 12) = a (u + 12)) : HsH W H a' u n := fun m hm => by
  rw [h1, h2]
  exact h m hm
theorem HsH.rm {W : Nat} {H : Nat → SC} {a : SC} {u n m p : Nat} (h : HsH W H a u n) (hm : m < n) (hp : p < W) (hW : W ≤ 8) : 0 ≤ H m 0 p ∧ H m 0 p < 8 := by
  obtain ⟨x, h1, h2, -⟩ := h m hm
  have := h1 p (by omega)
  have := h2 p hp
  omega
theorem livB_lt {W : Nat} {c : SC} {r : Nat} (hW : W ≤ 8) : livB W c r < 256 := by
  have h1 := bts_lt (fun p => decide (c 1 p ≠ 0 ∧ c 0 p = (r : Int))) W
  have h2 := pw8 hW
  unfold livB
  omega
theorem livB_tb {W : Nat} {c : SC} {r p : Nat} : (livB W c r).testBit p = true ↔ p < W ∧ c 1 p ≠ 0 ∧ c 0 p = (r : Int) := by
  unfold livB
  rw [bts_bit, decide_eq_true_iff]
/-- who sees o there -/
def witB (W : Nat) (c : SC) (o : Nat) : Nat := bts (fun p => decide (p ≠ o ∧ c 1 p ≠ 0 ∧ c 0 p = c 0 o)) W
theorem witB_tb {W : Nat} {c : SC} {o p : Nat} : (witB W c o).testBit p = true ↔ p < W ∧ p ≠ o ∧ c 1 p ≠ 0 ∧ c 0 p = c 0 o := by
  unfold witB
  rw [bts_bit, decide_eq_true_iff]
theorem witB_see {W : Nat} {c : SC} {o p : Nat} : (witB W c o).testBit p = true ↔ p < W ∧ seeS c p o ≠ 0 := by
  rw [witB_tb]
  unfold seeS
  split
  · next h => exact ⟨fun g => absurd h (by omega), fun g => absurd rfl g.2⟩
  · next h =>
    refine ⟨fun g => ⟨g.1, by split <;> omega⟩, fun g => ⟨g.1, ?_⟩⟩
    exact ⟨fun e => h (Or.inl e), fun e => h (Or.inr (Or.inl e)), Classical.not_not.mp (fun e => h (Or.inr (Or.inr e)))⟩
theorem witB_lt {W : Nat} {c : SC} {r : Nat} (hW : W ≤ 8) : witB W c r < 256 := by
  have h1 := bts_lt (fun p => decide (p ≠ r ∧ c 1 p ≠ 0 ∧ c 0 p = c 0 r)) W
  have h2 := pw8 hW
  unfold witB
  omega
theorem alvB_tb {W : Nat} {c : SC} {p : Nat} : (alvB W c).testBit p = true ↔ p < W ∧ c 1 p ≠ 0 := by
  unfold alvB
  rw [bts_bit, decide_eq_true_iff]
theorem alvB_lt {W : Nat} {c : SC} (hW : W ≤ 8) : alvB W c < 256 := by
  have h1 := bts_lt (fun p => decide (c 1 p ≠ 0)) W
  have h2 := pw8 hW
  unfold alvB
  omega
theorem c_roomThen {X : List Int} {d : Nat} {st dr rd : Int} {a s b : C3} {u : Nat} (hu : huS u) {W n : Nat} {H : Nat → SC} (hH : HsH W H a u n) (hn : n ≤ 180) (hW : W ≤ 8) (p m : Nat) (hm : m < n) (hp : p < W) : Ev X d 107 0 [Vr (u : Int), Vi (p : Int), Vi (m : Int)] [] (SHv st dr rd, ovl a s b) (fun rr hh => rr = some (Vi (H m 0 p)) ∧ hh = (SHv st dr rd, ovl a s b)) := by
  have hu0 : u = 119 ∨ u = 142 := hu
  obtain ⟨x, x1, x2, x3, x4⟩ := hH m hm
  have x8 : ∀ i, i < 8 → x i < 16 := fun i hi => by have := x1 i hi; omega
  have h0 := x2 p hp
  have h00 := x1 p (by omega)
  refine Ev.ite (P := (m : Int) < 0) (k := 2) (a := 11) (b := 4) (L' := [Vr (u : Int), Vi (p : Int), Vi (m : Int)]) (S' := []) (h' := ((SHv st dr rd), (ovl a s b))) (fun _ => rfl) (fun b1 => ?_) (fun b1 => ?_)
  · exfalso; omega
  · refine Ev.ite (P := (m : Int) < 180) (k := 3) (a := 15) (b := 11) (L' := [Vr (u : Int), Vi (p : Int), Vi (m : Int)]) (S' := []) (h' := ((SHv st dr rd), (ovl a s b))) (fun _ => rfl) (fun b8 => ?_) (fun b8 => ?_)
    · refine Ev.steps (k := 1) (pc' := 16) (L' := [Vr (u : Int), Vi (p : Int), Vi (m : Int)]) (S' := [Vr (u : Int)]) (h' := ((SHv st dr rd), (ovl a s b))) (fun _ => rfl) ?_
      refine Ev.getr (r := ((u : Int) + 11)) rfl rfl (by omega) (shU_0 hu) rfl rfl rfl ?_
      refine Ev.steps (k := 1) (pc' := 20) (L' := [Vr (u : Int), Vi (p : Int), Vi (m : Int)]) (S' := [Vi (m : Int), Vr ((u : Int) + 11)]) (h' := ((SHv st dr rd), (ovl a s b))) (fun _ => rfl) ?_
      refine Ev.iald (v := (b32 (pkD 4 x 8))) rfl (by omega) (shU_11 hu) (by omega) (by omega) ((ovl_rc (by omega)).trans (x3)) ?_
      refine Ev.steps (k := 3) (pc' := 24) (L' := [Vr (u : Int), Vi (p : Int), Vi (m : Int)]) (S' := [Vi (w32 ((p : Int) * 4)), Vi (b32 (pkD 4 x 8))]) (h' := ((SHv st dr rd), (ovl a s b))) (fun _ => rfl) ?_
      rw [show (w32 ((p : Int) * 4)) = (4 * (p : Int)) from (by unfold w32; omega)]
      refine Ev.fin (k := 4) (r := (some (Vi (i_and (i_ushr (b32 (pkD 4 x 8)) (4 * (p : Int))) 15)))) (h' := ((SHv st dr rd), (ovl a s b))) (fun _ => rfl) ?_
      refine ⟨?_, rfl⟩
      rw [nib_at (by omega) x8, h0]
    · exfalso; omega
theorem c_companyThen {X : List Int} {d : Nat} {st dr rd : Int} {a s b : C3} {u : Nat} (hu : huS u) {W n : Nat} {H : Nat → SC} (hH : HsH W H a u n) (hn : n ≤ 180) (hW : W ≤ 8) (p m : Nat) (hm : m < n) (hp : p < W) : Ev X (d + 1) 110 0 [Vr (u : Int), Vi (p : Int), Vi (m : Int)] [] (SHv st dr rd, ovl a s b) (fun rr hh => rr = some (Vi ((livB W (H m) (H m 0 p).toNat : Nat) : Int)) ∧ hh = (SHv st dr rd, ovl a s b)) := by
  have hu0 : u = 119 ∨ u = 142 := hu
  obtain ⟨x, x1, x2, x3, x4⟩ := hH m hm
  have x8 : ∀ i, i < 8 → x i < 16 := fun i hi => by have := x1 i hi; omega
  have h0 := x2 p hp
  have h00 := x1 p (by omega)
  refine Ev.ite (P := (m : Int) < 0) (k := 2) (a := 11) (b := 4) (L' := [Vr (u : Int), Vi (p : Int), Vi (m : Int)]) (S' := []) (h' := ((SHv st dr rd), (ovl a s b))) (fun _ => rfl) (fun b1 => ?_) (fun b1 => ?_)
  · exfalso; omega
  · refine Ev.ite (P := (m : Int) < 180) (k := 3) (a := 15) (b := 11) (L' := [Vr (u : Int), Vi (p : Int), Vi (m : Int)]) (S' := []) (h' := ((SHv st dr rd), (ovl a s b))) (fun _ => rfl) (fun b8 => ?_) (fun b8 => ?_)
    · refine Ev.steps (k := 1) (pc' := 16) (L' := [Vr (u : Int), Vi (p : Int), Vi (m : Int)]) (S' := [Vr (u : Int)]) (h' := ((SHv st dr rd), (ovl a s b))) (fun _ => rfl) ?_
      refine Ev.getr (r := ((u : Int) + 12)) rfl rfl (by omega) (shU_0 hu) rfl rfl rfl ?_
      refine Ev.steps (k := 1) (pc' := 20) (L' := [Vr (u : Int), Vi (p : Int), Vi (m : Int)]) (S' := [Vi (m : Int), Vr ((u : Int) + 12)]) (h' := ((SHv st dr rd), (ovl a s b))) (fun _ => rfl) ?_
      refine Ev.lald (v := (b64 (pkD 8 (fun r => livB W (H m) r) 8))) rfl (by omega) (shU_12 hu) (by omega) (by omega) ((ovl_rc (by omega)).trans (x4)) ?_
      refine Ev.call (k := 3) (pc1 := 24) (L1 := [Vr (u : Int), Vi (p : Int), Vi (m : Int)]) (S1 := [Vi (m : Int), Vi (p : Int), Vr (u : Int), Vl (b64 (pkD 8 (fun r => livB W (H m) r) 8))]) (h1 := ((SHv st dr rd), (ovl a s b))) (m' := 107) (as := [Vr (u : Int), Vi (p : Int), Vi (m : Int)]) (S' := [Vl (b64 (pkD 8 (fun r => livB W (H m) r) 8))]) (L0 := [Vr (u : Int), Vi (p : Int), Vi (m : Int)]) (fun _ => rfl) rfl rfl rfl rfl (stpC_of rfl (pm_recv_of (by omega) (shU_0 hu))) rfl (c_roomThen hu hH hn hW p m hm hp) (fun r h' hq => ?_)
      obtain ⟨rfl, rfl⟩ := hq
      rw [← h0]
      show Ev X _ _ 27 [Vr (u : Int), Vi (p : Int), Vi (m : Int)] [Vi (x p : Int), Vl (b64 (pkD 8 (fun r => livB W (H m) r) 8))] ((SHv st dr rd), (ovl a s b)) _
      refine Ev.steps (k := 2) (pc' := 30) (L' := [Vr (u : Int), Vi (p : Int), Vi (m : Int)]) (S' := [Vi (w32 ((x p : Int) * 8)), Vl (b64 (pkD 8 (fun r => livB W (H m) r) 8))]) (h' := ((SHv st dr rd), (ovl a s b))) (fun _ => rfl) ?_
      rw [show (w32 ((x p : Int) * 8)) = (8 * (x p : Int)) from (by unfold w32; omega)]
      refine Ev.fin (k := 5) (r := (some (Vi (i_and (w32 (l_ushr (b64 (pkD 8 (fun r => livB W (H m) r) 8)) (8 * (x p : Int)))) 255)))) (h' := ((SHv st dr rd), (ovl a s b))) (fun _ => rfl) ?_
      refine ⟨?_, rfl⟩
      rw [byt_at (by omega) (fun i hi => livB_lt hW), Int.toNat_natCast]
    · exfalso; omega
theorem c_livedThen {X : List Int} {d : Nat} {st dr rd : Int} {a s b : C3} {u : Nat} (hu : huS u) {W n : Nat} {H : Nat → SC} (hH : HsH W H a u n) (hn : n ≤ 180) (hW : W ≤ 8) (p m : Nat) (hm : m < n) (hp : p < W) : Ev X (d + 2) 109 0 [Vr (u : Int), Vi (p : Int), Vi (m : Int)] [] (SHv st dr rd, ovl a s b) (fun rr hh => rr = some (Vi (if H m 1 p ≠ 0 then 1 else 0)) ∧ hh = (SHv st dr rd, ovl a s b)) := by
  have hu0 : u = 119 ∨ u = 142 := hu
  have hr := hH.rm hm hp hW
  have hl := livB_lt (c := H m) (r := (H m 0 p).toNat) hW
  have ht := livB_tb (W := W) (c := H m) (r := (H m 0 p).toNat) (p := p)
  refine Ev.call (k := 3) (pc1 := 3) (L1 := [Vr (u : Int), Vi (p : Int), Vi (m : Int)]) (S1 := [Vi (m : Int), Vi (p : Int), Vr (u : Int)]) (h1 := ((SHv st dr rd), (ovl a s b))) (m' := 110) (as := [Vr (u : Int), Vi (p : Int), Vi (m : Int)]) (S' := []) (L0 := [Vr (u : Int), Vi (p : Int), Vi (m : Int)]) (fun _ => rfl) rfl rfl rfl rfl (stpC_of rfl (pm_recv_of (by omega) (shU_0 hu))) rfl (c_companyThen hu hH hn hW p m hm hp) (fun r h' hq => ?_)
  obtain ⟨rfl, rfl⟩ := hq
  show Ev X _ _ 6 [Vr (u : Int), Vi (p : Int), Vi (m : Int)] [Vi ((livB W (H m) (H m 0 p).toNat : Nat) : Int)] ((SHv st dr rd), (ovl a s b)) _
  refine Ev.ite (P := (i_and ((livB W (H m) (H m 0 p).toNat : Nat) : Int) (i_shl 1 (p : Int))) = 0) (k := 5) (a := 17) (b := 13) (L' := [Vr (u : Int), Vi (p : Int), Vi (m : Int)]) (S' := []) (h' := ((SHv st dr rd), (ovl a s b))) (fun _ => rfl) (fun b10 => ?_) (fun b10 => ?_)
  · rw [ib0 (by omega) (by omega)] at b10
    refine Ev.fin (k := 2) (r := (some (Vi 0))) (h' := ((SHv st dr rd), (ovl a s b))) (fun _ => rfl) ?_
    refine ⟨?_, rfl⟩
    first | rw [if_neg (by exact fun h => b10 (ht.mpr ⟨hp, h, by omega⟩))] | rw [if_pos (by exact (ht.mp (Classical.not_not.mp b10)).2.1)]
  · rw [ib0 (by omega) (by omega)] at b10
    refine Ev.fin (k := 3) (r := (some (Vi 1))) (h' := ((SHv st dr rd), (ovl a s b))) (fun _ => rfl) ?_
    refine ⟨?_, rfl⟩
    first | rw [if_neg (by exact fun h => b10 (ht.mpr ⟨hp, h, by omega⟩))] | rw [if_pos (by exact (ht.mp (Classical.not_not.mp b10)).2.1)]
theorem c_witnesses {X : List Int} {d : Nat} {st dr rd : Int} {a s b : C3} {u : Nat} (hu : huS u) {W n : Nat} {H : Nat → SC} (hH : HsH W H a u n) (hn : n ≤ 180) (hW : W ≤ 8) (p m : Nat) (hm : m < n) (hp : p < W) : Ev X (d + 2) 122 0 [Vr (u : Int), Vi (p : Int), Vi (m : Int)] [] (SHv st dr rd, ovl a s b) (fun rr hh => rr = some (Vi ((witB W (H m) p : Nat) : Int)) ∧ hh = (SHv st dr rd, ovl a s b)) := by
  have hu0 : u = 119 ∨ u = 142 := hu
  have hr := hH.rm hm hp hW
  have hl := livB_lt (c := H m) (r := (H m 0 p).toNat) hW
  have hp2 : 2 ^ p ≤ 2 ^ 7 := Nat.pow_le_pow_right (by omega) (by omega)
  refine Ev.call (k := 3) (pc1 := 3) (L1 := [Vr (u : Int), Vi (p : Int), Vi (m : Int)]) (S1 := [Vi (m : Int), Vi (p : Int), Vr (u : Int)]) (h1 := ((SHv st dr rd), (ovl a s b))) (m' := 110) (as := [Vr (u : Int), Vi (p : Int), Vi (m : Int)]) (S' := []) (L0 := [Vr (u : Int), Vi (p : Int), Vi (m : Int)]) (fun _ => rfl) rfl rfl rfl rfl (stpC_of rfl (pm_recv_of (by omega) (shU_0 hu))) rfl (c_companyThen hu hH hn hW p m hm hp) (fun r h' hq => ?_)
  obtain ⟨rfl, rfl⟩ := hq
  show Ev X _ _ 6 [Vr (u : Int), Vi (p : Int), Vi (m : Int)] [Vi ((livB W (H m) (H m 0 p).toNat : Nat) : Int)] ((SHv st dr rd), (ovl a s b)) _
  refine Ev.fin (k := 7) (r := (some (Vi (i_and ((livB W (H m) (H m 0 p).toNat : Nat) : Int) (i_xor (i_shl 1 (p : Int)) (-1)))))) (h' := ((SHv st dr rd), (ovl a s b))) (fun _ => rfl) ?_
  refine ⟨?_, rfl⟩
  rw [i_shl1 (by omega), i_andn_nat (by omega) (by omega)]
  congr 2
  unfold livB witB
  rw [bts_andn (g := fun q => decide (q ≠ p ∧ H m 1 q ≠ 0 ∧ H m 0 q = H m 0 p)) (fun q hq => ?_)]
  rw [decide_eq_true_iff, decide_eq_true_iff, Int.toNat_of_nonneg hr.1]
  exact ⟨fun g => ⟨⟨g.2.1, g.2.2⟩, g.1⟩, fun g => ⟨g.2, g.1.1, g.1.2⟩⟩
theorem c_livingLast_l {X : List Int} {d : Nat} {st dr rd : Int} {a s b : C3} {u : Nat} (hu : huS u) {W n : Nat} {H : Nat → SC} (hH : HsH W H a u n) (hn : n ≤ 180) (hn0 : 0 < n) (hW : W ≤ 8) (h7 : a u 7 = (n : Int)) (p : Nat) (hp : p ≤ W) : Ev X (d + 3) 132 4 [Vr (u : Int), Vi (W : Int), Vi ((bts (fun q => decide (H (n - 1) 1 q ≠ 0)) p : Nat) : Int), Vi (p : Int)] [] (SHv st dr rd, ovl a s b) (fun rr hh => rr = some (Vi ((alvB W (H (n - 1)) : Nat) : Int)) ∧ hh = (SHv st dr rd, ovl a s b)) := by
  induction hk : (W - p) using Nat.strongRecOn generalizing p with
  | ind k ih =>
    have hu0 : u = 119 ∨ u = 142 := hu
    have hb := bts_lt (fun q => decide (H (n - 1) 1 q ≠ 0)) p
    have hp2 : 2 ^ p ≤ 2 ^ 8 := Nat.pow_le_pow_right (by omega) (by omega)
    refine Ev.ite (P := (W : Int) ≤ (p : Int)) (k := 3) (a := 39) (b := 9) (L' := [Vr (u : Int), Vi (W : Int), Vi ((bts (fun q => decide (H (n - 1) 1 q ≠ 0)) p : Nat) : Int), Vi (p : Int)]) (S' := []) (h' := ((SHv st dr rd), (ovl a s b))) (fun _ => rfl) (fun b6 => ?_) (fun b6 => ?_)
    · refine Ev.fin (k := 2) (r := (some (Vi ((bts (fun q => decide (H (n - 1) 1 q ≠ 0)) p : Nat) : Int)))) (h' := ((SHv st dr rd), (ovl a s b))) (fun _ => rfl) ?_
      obtain rfl : p = W := by omega
      exact ⟨rfl, rfl⟩
    · refine Ev.steps (k := 4) (pc' := 13) (L' := [Vr (u : Int), Vi (W : Int), Vi ((bts (fun q => decide (H (n - 1) 1 q ≠ 0)) p : Nat) : Int), Vi (p : Int)]) (S' := [Vr (u : Int), Vi (p : Int), Vr (u : Int), Vi ((bts (fun q => decide (H (n - 1) 1 q ≠ 0)) p : Nat) : Int)]) (h' := ((SHv st dr rd), (ovl a s b))) (fun _ => rfl) ?_
      refine Ev.getf (v := (n : Int)) rfl rfl (by omega) (shU_0 hu) rfl rfl ((ovl_rc (by omega)).trans (h7)) ?_
      refine Ev.steps (k := 2) (pc' := 18) (L' := [Vr (u : Int), Vi (W : Int), Vi ((bts (fun q => decide (H (n - 1) 1 q ≠ 0)) p : Nat) : Int), Vi (p : Int)]) (S' := [Vi (w32 ((n : Int) - 1)), Vi (p : Int), Vr (u : Int), Vi ((bts (fun q => decide (H (n - 1) 1 q ≠ 0)) p : Nat) : Int)]) (h' := ((SHv st dr rd), (ovl a s b))) (fun _ => rfl) ?_
      rw [show (w32 ((n : Int) - 1)) = ((n - 1 : Nat) : Int) from (by unfold w32; omega)]
      refine Ev.call (k := 0) (pc1 := 18) (L1 := [Vr (u : Int), Vi (W : Int), Vi ((bts (fun q => decide (H (n - 1) 1 q ≠ 0)) p : Nat) : Int), Vi (p : Int)]) (S1 := [Vi ((n - 1 : Nat) : Int), Vi (p : Int), Vr (u : Int), Vi ((bts (fun q => decide (H (n - 1) 1 q ≠ 0)) p : Nat) : Int)]) (h1 := ((SHv st dr rd), (ovl a s b))) (m' := 109) (as := [Vr (u : Int), Vi (p : Int), Vi ((n - 1 : Nat) : Int)]) (S' := [Vi ((bts (fun q => decide (H (n - 1) 1 q ≠ 0)) p : Nat) : Int)]) (L0 := [Vr (u : Int), Vi (p : Int), Vi ((n - 1 : Nat) : Int)]) (fun _ => rfl) rfl rfl rfl rfl (stpC_of rfl (pm_recv_of (by omega) (shU_0 hu))) rfl (c_livedThen hu hH hn hW p (n - 1) (by omega) (by omega)) (fun r h' hq => ?_)
      obtain ⟨rfl, rfl⟩ := hq
      by_cases c18 : H (n - 1) 1 p ≠ 0
      · rw [if_pos c18]
        show Ev X _ _ 21 [Vr (u : Int), Vi (W : Int), Vi ((bts (fun q => decide (H (n - 1) 1 q ≠ 0)) p : Nat) : Int), Vi (p : Int)] [Vi 1, Vi ((bts (fun q => decide (H (n - 1) 1 q ≠ 0)) p : Nat) : Int)] ((SHv st dr rd), (ovl a s b)) _
        refine Ev.steps (k := 8) (pc' := 36) (L' := [Vr (u : Int), Vi (W : Int), Vi (i_or ((bts (fun q => decide (H (n - 1) 1 q ≠ 0)) p : Nat) : Int) (i_shl 1 (p : Int))), Vi (w32 ((p : Int) + 1))]) (S' := []) (h' := ((SHv st dr rd), (ovl a s b))) (fun _ => rfl) ?_
        rw [show (w32 ((p : Int) + 1)) = ((p : Int) + 1) from w32_id (by unfold R32; omega)]
        refine Ev.steps (k := 1) (pc' := 4) (L' := [Vr (u : Int), Vi (W : Int), Vi (i_or ((bts (fun q => decide (H (n - 1) 1 q ≠ 0)) p : Nat) : Int) (i_shl 1 (p : Int))), Vi ((p : Int) + 1)]) (S' := []) (h' := ((SHv st dr rd), (ovl a s b))) (fun _ => rfl) ?_
        have he : (i_or ((bts (fun q => decide (H (n - 1) 1 q ≠ 0)) p : Nat) : Int) (i_shl 1 (p : Int))) = ((bts (fun q => decide (H (n - 1) 1 q ≠ 0)) (p + 1) : Nat) : Int) := by
          show _ = ((bts (fun q => decide (H (n - 1) 1 q ≠ 0)) p + (if decide (H (n - 1) 1 p ≠ 0) = true then 2 ^ p else 0) : Nat) : Int)
          first
            | rw [if_pos (by exact decide_eq_true c18), i_shl1 (by omega), i_or_nat (by omega) (by omega), Nat.or_two_pow_eq_add_of_lt hb]
            | rw [if_neg (by exact fun h => c18 (of_decide_eq_true h)), Nat.add_zero, i_or0 (by omega)]
        rw [he]
        exact ih _ (by omega) (p + 1) (by omega) rfl
      · rw [if_neg c18]
        show Ev X _ _ 21 [Vr (u : Int), Vi (W : Int), Vi ((bts (fun q => decide (H (n - 1) 1 q ≠ 0)) p : Nat) : Int), Vi (p : Int)] [Vi 0, Vi ((bts (fun q => decide (H (n - 1) 1 q ≠ 0)) p : Nat) : Int)] ((SHv st dr rd), (ovl a s b)) _
        refine Ev.steps (k := 5) (pc' := 36) (L' := [Vr (u : Int), Vi (W : Int), Vi (i_or ((bts (fun q => decide (H (n - 1) 1 q ≠ 0)) p : Nat) : Int) 0), Vi (w32 ((p : Int) + 1))]) (S' := []) (h' := ((SHv st dr rd), (ovl a s b))) (fun _ => rfl) ?_
        rw [show (w32 ((p : Int) + 1)) = ((p : Int) + 1) from w32_id (by unfold R32; omega)]
        refine Ev.steps (k := 1) (pc' := 4) (L' := [Vr (u : Int), Vi (W : Int), Vi (i_or ((bts (fun q => decide (H (n - 1) 1 q ≠ 0)) p : Nat) : Int) 0), Vi ((p : Int) + 1)]) (S' := []) (h' := ((SHv st dr rd), (ovl a s b))) (fun _ => rfl) ?_
        have he : (i_or ((bts (fun q => decide (H (n - 1) 1 q ≠ 0)) p : Nat) : Int) 0) = ((bts (fun q => decide (H (n - 1) 1 q ≠ 0)) (p + 1) : Nat) : Int) := by
          show _ = ((bts (fun q => decide (H (n - 1) 1 q ≠ 0)) p + (if decide (H (n - 1) 1 p ≠ 0) = true then 2 ^ p else 0) : Nat) : Int)
          first
            | rw [if_pos (by exact decide_eq_true c18), i_shl1 (by omega), i_or_nat (by omega) (by omega), Nat.or_two_pow_eq_add_of_lt hb]
            | rw [if_neg (by exact fun h => c18 (of_decide_eq_true h)), Nat.add_zero, i_or0 (by omega)]
        rw [he]
        exact ih _ (by omega) (p + 1) (by omega) rfl
theorem c_livingLast {X : List Int} {d : Nat} {st dr rd : Int} {a s b : C3} {u : Nat} (hu : huS u) {W n : Nat} {H : Nat → SC} (hH : HsH W H a u n) (hn : n ≤ 180) (hn0 : 0 < n) (hW : W ≤ 8) (h7 : a u 7 = (n : Int)) : Ev X (d + 3) 132 0 [Vr (u : Int), Vi (W : Int), Vx, Vx] [] (SHv st dr rd, ovl a s b) (fun rr hh => rr = some (Vi ((alvB W (H (n - 1)) : Nat) : Int)) ∧ hh = (SHv st dr rd, ovl a s b)) := by
  refine Ev.steps (k := 4) (pc' := 4) (L' := [Vr (u : Int), Vi (W : Int), Vi 0, Vi 0]) (S' := []) (h' := ((SHv st dr rd), (ovl a s b))) (fun _ => rfl) ?_
  exact c_livingLast_l hu hH hn hn0 hW h7 0 (by omega)
theorem c_fill_l {X : List Int} {d : Nat} {st dr rd : Int} {a s b : C3} (o n : Nat) (ho : o < 166) (hso : pm_nth (SHv st dr rd) (o : Int).toNat = some (20, n, [])) (v : Int) (hn : n ≤ 100000) {a0 : C3} (i : Nat) (hi : i ≤ n) (hf : FrO o o a0 a) (hv : ∀ j, j < i → a o j = v) : Ev X d 25 5 [Vr (o : Int), Vi v, Vi (i : Int), Vi (n : Int)] [] (SHv st dr rd, ovl a s b) (fun rr hh => rr = none ∧ ∃ a' : C3, hh = (SHv st dr rd, ovl a' s b) ∧ FrO o o a0 a' ∧ ∀ j, j < n → a' o j = v) := by
  induction hk : (n - i) using Nat.strongRecOn generalizing i a with
  | ind k ih =>
    refine Ev.ite (P := (n : Int) ≤ (i : Int)) (k := 3) (a := 20) (b := 10) (L' := [Vr (o : Int), Vi v, Vi (i : Int), Vi (n : Int)]) (S' := []) (h' := ((SHv st dr rd), (ovl a s b))) (fun _ => rfl) (fun b7 => ?_) (fun b7 => ?_)
    · refine Ev.fin (k := 1) (r := none) (h' := ((SHv st dr rd), (ovl a s b))) (fun _ => rfl) ?_
      obtain rfl : i = n := by omega
      exact ⟨rfl, a, rfl, hf, hv⟩
    · refine Ev.steps (k := 3) (pc' := 13) (L' := [Vr (o : Int), Vi v, Vi (i : Int), Vi (n : Int)]) (S' := [Vi v, Vi (i : Int), Vr (o : Int)]) (h' := ((SHv st dr rd), (ovl a s b))) (fun _ => rfl) ?_
      refine Ev.iast (c' := (ovl (updC a o i v) s b)) rfl (by omega) hso (by omega) (by omega) (ovl_wc (by omega)) ?_
      refine Ev.steps (k := 1) (pc' := 17) (L' := [Vr (o : Int), Vi v, Vi (w32 ((i : Int) + 1)), Vi (n : Int)]) (S' := []) (h' := ((SHv st dr rd), (ovl (updC a o i v) s b))) (fun _ => rfl) ?_
      rw [show (w32 ((i : Int) + 1)) = ((i : Int) + 1) from w32_id (by unfold R32; omega)]
      refine Ev.steps (k := 1) (pc' := 5) (L' := [Vr (o : Int), Vi v, Vi ((i : Int) + 1), Vi (n : Int)]) (S' := []) (h' := ((SHv st dr rd), (ovl (updC a o i v) s b))) (fun _ => rfl) ?_
      refine ih _ (by omega) (a := (updC a o i v)) (i + 1) (by omega) (hf.up (by omega)) (fun j hj => ?_) rfl
      rw [updC_if]
      split
      · rfl
      · exact hv j (by omega)
theorem c_fill {X : List Int} {d : Nat} {st dr rd : Int} {a s b : C3} (o n : Nat) (ho : o < 166) (hso : pm_nth (SHv st dr rd) (o : Int).toNat = some (20, n, [])) (v : Int) (hn : n ≤ 100000) : Ev X d 25 0 [Vr (o : Int), Vi v, Vx, Vx] [] (SHv st dr rd, ovl a s b) (fun rr hh => rr = none ∧ ∃ a' : C3, hh = (SHv st dr rd, ovl a' s b) ∧ FrO o o a a' ∧ ∀ j, j < n → a' o j = v) := by
  refine Ev.steps (k := 3) (pc' := 3) (L' := [Vr (o : Int), Vi v, Vi 0, Vx]) (S' := [Vr (o : Int)]) (h' := ((SHv st dr rd), (ovl a s b))) (fun _ => rfl) ?_
  refine Ev.alen (v := (n : Int)) rfl (by omega) hso rfl rfl ?_
  refine Ev.steps (k := 1) (pc' := 5) (L' := [Vr (o : Int), Vi v, Vi 0, Vi (n : Int)]) (S' := []) (h' := ((SHv st dr rd), (ovl a s b))) (fun _ => rfl) ?_
  exact c_fill_l o n ho hso v hn 0 (by omega) FrO.rf (fun j h => absurd h (by omega))
theorem c_copy_l {X : List Int} {d : Nat} {st dr rd : Int} {a s b : C3} {k : Nat} (hk : hkS k) {j : Nat} (hj : hkS j) (hkj : k ≠ j) {a0 : C3} (i : Nat) (hi : i ≤ 8) (hf : FrO k (k + 2) a0 a) (h1 : ∀ x, x < i → a (k + 1) x = a0 (j + 1) x) (h2 : ∀ x, x < i → a (k + 2) x = a0 (j + 2) x) : Ev X d 61 2 [Vr (k : Int), Vr (j : Int), Vi (i : Int)] [] (SHv st dr rd, ovl a s b) (fun rr hh => rr = none ∧ ∃ a' : C3, hh = (SHv st dr rd, ovl a' s b) ∧ FrO k (k + 2) a0 a' ∧ (∀ i, i < 8 → a' (k + 1) i = a0 (j + 1) i) ∧ (∀ i, i < 8 → a' (k + 2) i = a0 (j + 2) i) ∧ a' k 2 = a0 j 2) := by
  induction hw : (8 - i) using Nat.strongRecOn generalizing i a with
  | ind w ih =>
    have hk0 : k = 8 ∨ k = 64 ∨ k = 116 ∨ k = 127 ∨ k = 150 ∨ k = 161 := hk
    have hj0 : j = 8 ∨ j = 64 ∨ j = 116 ∨ j = 127 ∨ j = 150 ∨ j = 161 := hj
    refine Ev.ite (P := 8 ≤ (i : Int)) (k := 3) (a := 38) (b := 8) (L' := [Vr (k : Int), Vr (j : Int), Vi (i : Int)]) (S' := []) (h' := ((SHv st dr rd), (ovl a s b))) (fun _ => rfl) (fun b5 => ?_) (fun b5 => ?_)
    · refine Ev.steps (k := 2) (pc' := 40) (L' := [Vr (k : Int), Vr (j : Int), Vi (i : Int)]) (S' := [Vr (j : Int), Vr (k : Int)]) (h' := ((SHv st dr rd), (ovl a s b))) (fun _ => rfl) ?_
      refine Ev.getf (v := (a j 2)) rfl rfl (by omega) (shK_0 hj) rfl rfl (ovl_rc (by omega)) ?_
      refine Ev.putf (c' := (ovl (updC a k 2 (a j 2)) s b)) rfl (by omega) (shK_0 hk) rfl rfl (ovl_wc (by omega)) ?_
      refine Ev.fin (k := 1) (r := none) (h' := ((SHv st dr rd), (ovl (updC a k 2 (a j 2)) s b))) (fun _ => rfl) ?_
      obtain rfl : i = 8 := by omega
      refine ⟨rfl, _, rfl, hf.up (by omega), fun i hi => ?_, fun i hi => ?_, ?_⟩
      · rw [updC_nt (by omega)]; exact h1 i hi
      · rw [updC_nt (by omega)]; exact h2 i hi
      · rw [updC_sm, hf j (by omega)]
    · refine Ev.steps (k := 1) (pc' := 9) (L' := [Vr (k : Int), Vr (j : Int), Vi (i : Int)]) (S' := [Vr (k : Int)]) (h' := ((SHv st dr rd), (ovl a s b))) (fun _ => rfl) ?_
      refine Ev.getr (r := ((k : Int) + 1)) rfl rfl (by omega) (shK_0 hk) rfl rfl rfl ?_
      refine Ev.steps (k := 2) (pc' := 14) (L' := [Vr (k : Int), Vr (j : Int), Vi (i : Int)]) (S' := [Vr (j : Int), Vi (i : Int), Vr ((k : Int) + 1)]) (h' := ((SHv st dr rd), (ovl a s b))) (fun _ => rfl) ?_
      refine Ev.getr (r := ((j : Int) + 1)) rfl rfl (by omega) (shK_0 hj) rfl rfl rfl ?_
      refine Ev.steps (k := 1) (pc' := 18) (L' := [Vr (k : Int), Vr (j : Int), Vi (i : Int)]) (S' := [Vi (i : Int), Vr ((j : Int) + 1), Vi (i : Int), Vr ((k : Int) + 1)]) (h' := ((SHv st dr rd), (ovl a s b))) (fun _ => rfl) ?_
      refine Ev.iald (v := (a (j + 1) i)) rfl (by omega) (shK_1 hj) (by omega) (by omega) (ovl_rc (by omega)) ?_
      refine Ev.iast (c' := (ovl (updC a (k + 1) i (a (j + 1) i)) s b)) rfl (by omega) (shK_1 hk) (by omega) (by omega) (ovl_wc (by omega)) ?_
      refine Ev.steps (k := 1) (pc' := 21) (L' := [Vr (k : Int), Vr (j : Int), Vi (i : Int)]) (S' := [Vr (k : Int)]) (h' := ((SHv st dr rd), (ovl (updC a (k + 1) i (a (j + 1) i)) s b))) (fun _ => rfl) ?_
      refine Ev.getr (r := ((k : Int) + 2)) rfl rfl (by omega) (shK_0 hk) rfl rfl rfl ?_
      refine Ev.steps (k := 2) (pc' := 26) (L' := [Vr (k : Int), Vr (j : Int), Vi (i : Int)]) (S' := [Vr (j : Int), Vi (i : Int), Vr ((k : Int) + 2)]) (h' := ((SHv st dr rd), (ovl (updC a (k + 1) i (a (j + 1) i)) s b))) (fun _ => rfl) ?_
      refine Ev.getr (r := ((j : Int) + 2)) rfl rfl (by omega) (shK_0 hj) rfl rfl rfl ?_
      refine Ev.steps (k := 1) (pc' := 30) (L' := [Vr (k : Int), Vr (j : Int), Vi (i : Int)]) (S' := [Vi (i : Int), Vr ((j : Int) + 2), Vi (i : Int), Vr ((k : Int) + 2)]) (h' := ((SHv st dr rd), (ovl (updC a (k + 1) i (a (j + 1) i)) s b))) (fun _ => rfl) ?_
      refine Ev.iald (v := (a (j + 2) i)) rfl (by omega) (shK_2 hj) (by omega) (by omega) ((ovl_rc (by omega)).trans (by show (updC a (k + 1) i (a (j + 1) i)) (j + 2) i = _; rw [updC_nt (by omega)])) ?_
      refine Ev.iast (c' := (ovl (updC (updC a (k + 1) i (a (j + 1) i)) (k + 2) i (a (j + 2) i)) s b)) rfl (by omega) (shK_2 hk) (by omega) (by omega) (ovl_wc (by omega)) ?_
      refine Ev.steps (k := 1) (pc' := 35) (L' := [Vr (k : Int), Vr (j : Int), Vi (w32 ((i : Int) + 1))]) (S' := []) (h' := ((SHv st dr rd), (ovl (updC (updC a (k + 1) i (a (j + 1) i)) (k + 2) i (a (j + 2) i)) s b))) (fun _ => rfl) ?_
      rw [show (w32 ((i : Int) + 1)) = ((i : Int) + 1) from w32_id (by unfold R32; omega)]
      refine Ev.steps (k := 1) (pc' := 2) (L' := [Vr (k : Int), Vr (j : Int), Vi ((i : Int) + 1)]) (S' := []) (h' := ((SHv st dr rd), (ovl (updC (updC a (k + 1) i (a (j + 1) i)) (k + 2) i (a (j + 2) i)) s b))) (fun _ => rfl) ?_
      refine ih _ (by omega) (a := (updC (updC a (k + 1) i (a (j + 1) i)) (k + 2) i (a (j + 2) i))) (i + 1) (by omega) ((hf.up (by omega)).up (by omega)) (fun x hx => ?_) (fun x hx => ?_) rfl
      · rw [updC_nt (by omega), updC_if]
        split
        · next h => rw [h, hf (j + 1) (by omega)]
        · exact h1 x (by omega)
      · rw [updC_if]
        split
        · next h => rw [h, hf (j + 2) (by omega)]
        · rw [updC_nt (by omega)]; exact h2 x (by omega)
theorem c_copy {X : List Int} {d : Nat} {st dr rd : Int} {a s b : C3} {k : Nat} (hk : hkS k) {j : Nat} (hj : hkS j) (hkj : k ≠ j) : Ev X d 61 0 [Vr (k : Int), Vr (j : Int), Vx] [] (SHv st dr rd, ovl a s b) (fun rr hh => rr = none ∧ ∃ a' : C3, hh = (SHv st dr rd, ovl a' s b) ∧ FrO k (k + 2) a a' ∧ (∀ i, i < 8 → a' (k + 1) i = a (j + 1) i) ∧ (∀ i, i < 8 → a' (k + 2) i = a (j + 2) i) ∧ a' k 2 = a j 2) := by
  refine Ev.steps (k := 2) (pc' := 2) (L' := [Vr (k : Int), Vr (j : Int), Vi 0]) (S' := []) (h' := ((SHv st dr rd), (ovl a s b))) (fun _ => rfl) ?_
  exact c_copy_l hk hj hkj 0 (by omega) FrO.rf (fun x h => absurd h (by omega)) (fun x h => absurd h (by omega))
theorem c_wayOn {X : List Int} {d : Nat} {st dr rd : Int} {a s b : C3} {y : Nat} (hy : hyS y) (r o : Nat) (hr : r < 8) (ho : o < 8) : Ev X d 93 0 [Vr (y : Int), Vi (r : Int), Vi (o : Int)] [] (SHv st dr rd, ovl a s b) (fun rr hh => rr = some (Vi (a (y + 5) (8 * r + o))) ∧ hh = (SHv st dr rd, ovl a s b)) := by
  have hy0 : y = 2 ∨ y = 58 := hy
  refine Ev.ite (P := (r : Int) < 0) (k := 2) (a := 20) (b := 4) (L' := [Vr (y : Int), Vi (r : Int), Vi (o : Int)]) (S' := []) (h' := ((SHv st dr rd), (ovl a s b))) (fun _ => rfl) (fun b1 => ?_) (fun b1 => ?_)
  · exfalso; omega
  · refine Ev.ite (P := 8 ≤ (r : Int)) (k := 3) (a := 20) (b := 10) (L' := [Vr (y : Int), Vi (r : Int), Vi (o : Int)]) (S' := []) (h' := ((SHv st dr rd), (ovl a s b))) (fun _ => rfl) (fun b7 => ?_) (fun b7 => ?_)
    · exfalso; omega
    · refine Ev.ite (P := (o : Int) < 0) (k := 2) (a := 20) (b := 14) (L' := [Vr (y : Int), Vi (r : Int), Vi (o : Int)]) (S' := []) (h' := ((SHv st dr rd), (ovl a s b))) (fun _ => rfl) (fun b11 => ?_) (fun b11 => ?_)
      · exfalso; omega
      · refine Ev.ite (P := (o : Int) < 8) (k := 3) (a := 24) (b := 20) (L' := [Vr (y : Int), Vi (r : Int), Vi (o : Int)]) (S' := []) (h' := ((SHv st dr rd), (ovl a s b))) (fun _ => rfl) (fun b17 => ?_) (fun b17 => ?_)
        · refine Ev.steps (k := 1) (pc' := 25) (L' := [Vr (y : Int), Vi (r : Int), Vi (o : Int)]) (S' := [Vr (y : Int)]) (h' := ((SHv st dr rd), (ovl a s b))) (fun _ => rfl) ?_
          refine Ev.getr (r := ((y : Int) + 5)) rfl rfl (by omega) (shY_0 hy) rfl rfl rfl ?_
          refine Ev.steps (k := 3) (pc' := 32) (L' := [Vr (y : Int), Vi (r : Int), Vi (o : Int)]) (S' := [Vi (w32 ((r : Int) * 8)), Vr ((y : Int) + 5)]) (h' := ((SHv st dr rd), (ovl a s b))) (fun _ => rfl) ?_
          rw [show (w32 ((r : Int) * 8)) = (8 * (r : Int)) from (by unfold w32; omega)]
          refine Ev.steps (k := 2) (pc' := 34) (L' := [Vr (y : Int), Vi (r : Int), Vi (o : Int)]) (S' := [Vi (w32 ((8 * (r : Int)) + (o : Int))), Vr ((y : Int) + 5)]) (h' := ((SHv st dr rd), (ovl a s b))) (fun _ => rfl) ?_
          rw [show (w32 ((8 * (r : Int)) + (o : Int))) = ((8 * r + o : Nat) : Int) from (by unfold w32; omega)]
          refine Ev.iald (v := (a (y + 5) ((8 * r + o)))) rfl (by omega) (shY_5 hy) (by omega) (by omega) (ovl_rc (by omega)) ?_
          refine Ev.fin (k := 1) (r := (some (Vi (a (y + 5) ((8 * r + o)))))) (h' := ((SHv st dr rd), (ovl a s b))) (fun _ => rfl) ?_
          exact ⟨rfl, rfl⟩
        · exfalso; omega
