/-! WHAT THE CLASS KEEPS: bits and packs -/
def bts (f : Nat → Bool) : Nat → Nat
  | 0 => 0
  | n + 1 => bts f n + if f n = true then 2 ^ n else 0
theorem bts_lt (f : Nat → Bool) : ∀ n, bts f n < 2 ^ n
  | 0 => by show 0 < 1; omega
  | n + 1 => by
    have h1 := bts_lt f n
    have h2 := pw2 n
    show bts f n + (if f n = true then 2 ^ n else 0) < 2 ^ (n + 1)
    split <;> omega
theorem bts_tb (f : Nat → Bool) (k : Nat) : ∀ n, (bts f n).testBit k = (decide (k < n) && f k)
  | 0 => by
    show (0 : Nat).testBit k = _
    rw [Nat.zero_testBit]
    rfl
  | n + 1 => by
    have h1 := bts_lt f n
    have h2 := bts_tb f k n
    show (bts f n + if f n = true then 2 ^ n else 0).testBit k = _
    by_cases hf : f n = true
    · rw [if_pos hf, ← Nat.or_two_pow_eq_add_of_lt h1, Nat.testBit_or, h2, Nat.testBit_two_pow]
      by_cases hk : n = k
      · subst hk
        simp [hf]
      · rw [decide_eq_false hk, Bool.or_false, decide_eq_decide.mpr (show k < n ↔ k < n + 1 by omega)]
    · rw [if_neg hf, Nat.add_zero, h2]
      by_cases hk : n = k
      · subst hk
        simp [hf]
      · rw [decide_eq_decide.mpr (show k < n ↔ k < n + 1 by omega)]
theorem bts_bit {f : Nat → Bool} {k n : Nat} : (bts f n).testBit k = true ↔ k < n ∧ f k = true := by
  rw [bts_tb, Bool.and_eq_true, decide_eq_true_iff]
theorem nat_bits {x y : Nat} (h : ∀ k, x.testBit k = true ↔ y.testBit k = true) : x = y := by
  apply Nat.eq_of_testBit_eq
  intro i
  have := h i
  cases hx : x.testBit i <;> cases hy : y.testBit i <;> simp_all
theorem bts_or {f g : Nat → Bool} {n p : Nat} (hp : p < n) (hg : ∀ k, k < n → (g k = true ↔ (f k = true ∨ k = p))) : bts f n ||| 2 ^ p = bts g n := by
  apply nat_bits
  intro k
  rw [Nat.testBit_or, Bool.or_eq_true, bts_bit, bts_bit, Nat.testBit_two_pow, decide_eq_true_iff]
  constructor
  · rintro (⟨h1, h2⟩ | h)
    · exact ⟨h1, (hg k h1).mpr (Or.inl h2)⟩
    · exact ⟨by omega, (hg k (by omega)).mpr (Or.inr h.symm)⟩
  · rintro ⟨h1, h2⟩
    rcases (hg k h1).mp h2 with h | h
    · exact Or.inl ⟨h1, h⟩
    · exact Or.inr h.symm
theorem bts_andn {f g : Nat → Bool} {n p : Nat} (hg : ∀ k, k < n → (g k = true ↔ (f k = true ∧ k ≠ p))) : bts f n &&& (bts f n ^^^ 2 ^ p) = bts g n := by
  apply nat_bits
  intro k
  rw [Nat.testBit_and, Nat.testBit_xor, Bool.and_eq_true, bts_bit, bts_bit, Nat.testBit_two_pow]
  constructor
  · rintro ⟨⟨h1, h2⟩, h3⟩
    refine ⟨h1, (hg k h1).mpr ⟨h2, ?_⟩⟩
    intro h
    subst h
    have : (bts f n).testBit k = true := bts_bit.mpr ⟨h1, h2⟩
    rw [this] at h3
    simp at h3
  · rintro ⟨h1, h2⟩
    have h4 := (hg k h1).mp h2
    have : (bts f n).testBit k = true := bts_bit.mpr ⟨h1, h4.1⟩
    rw [this, decide_eq_false (fun h => h4.2 h.symm)]
    exact ⟨⟨h1, h4.1⟩, rfl⟩
theorem bts_cg {f g : Nat → Bool} : ∀ n, (∀ k, k < n → f k = g k) → bts f n = bts g n
  | 0, _ => rfl
  | n + 1, h => by
    show bts f n + (if f n = true then 2 ^ n else 0) = bts g n + (if g n = true then 2 ^ n else 0)
    rw [bts_cg n (fun k hk => h k (by omega)), h n (by omega)]
theorem bts_ge {f : Nat → Bool} {n : Nat} : ∀ m, n ≤ m → (∀ k, n ≤ k → k < m → f k = false) → bts f m = bts f n
  | 0, h, _ => by rw [show n = 0 by omega]
  | m + 1, h, hf => by
    by_cases hn : n = m + 1
    · rw [hn]
    · show bts f m + (if f m = true then 2 ^ m else 0) = _
      rw [hf m (by omega) (by omega), bts_ge m (by omega) (fun k h1 h2 => hf k h1 (by omega))]
      rfl
/-! words of 32 and 64 bits -/
def b32 (x : Nat) : Int := (BitVec.ofNat 32 x).toInt
def b64 (x : Nat) : Int := (BitVec.ofNat 64 x).toInt
theorem b32_s {x : Nat} (h : x < 2147483648) : b32 x = (x : Int) := bv32_t h
theorem b64_s {x : Nat} (h : x < 9223372036854775808) : b64 x = (x : Int) := by
  unfold b64
  rw [BitVec.toInt_eq_toNat_of_lt (by rw [BitVec.toNat_ofNat]; omega), BitVec.toNat_ofNat]
  omega
theorem b32_w {x : Nat} : b32 x = w32 (x : Int) := by
  unfold b32 w32
  rw [BitVec.toInt_eq_toNat_bmod, BitVec.toNat_ofNat, Int.bmod_def]
  split <;> omega
theorem b64_w {x : Nat} : b64 x = w64 (x : Int) := by
  unfold b64 w64
  rw [BitVec.toInt_eq_toNat_bmod, BitVec.toNat_ofNat, Int.bmod_def]
  split <;> omega
theorem b32_v {x : Nat} : (Int32.ofInt (b32 x)).toBitVec = BitVec.ofNat 32 x := by
  rw [Int32.toBitVec_ofInt, b32, BitVec.ofInt_toInt]
theorem b64_v {x : Nat} : (Int64.ofInt (b64 x)).toBitVec = BitVec.ofNat 64 x := by
  rw [Int64.toBitVec_ofInt, b64, BitVec.ofInt_toInt]
theorem b32_or {x y : Nat} : i_or (b32 x) (b32 y) = b32 (x ||| y) := by
  unfold i_or
  rw [← Int32.toInt_toBitVec, Int32.toBitVec_or, b32_v, b32_v]
  unfold b32
  congr 1
  apply BitVec.eq_of_getLsbD_eq
  intro i hi
  simp [BitVec.getLsbD_or, BitVec.getLsbD_ofNat, hi]
theorem b32_and {x y : Nat} : i_and (b32 x) (b32 y) = b32 (x &&& y) := by
  unfold i_and
  rw [← Int32.toInt_toBitVec, Int32.toBitVec_and, b32_v, b32_v]
  unfold b32
  congr 1
  apply BitVec.eq_of_getLsbD_eq
  intro i hi
  simp [BitVec.getLsbD_and, BitVec.getLsbD_ofNat, hi]
theorem b64_or {x y : Nat} : l_or (b64 x) (b64 y) = b64 (x ||| y) := by
  unfold l_or
  rw [← Int64.toInt_toBitVec, Int64.toBitVec_or, b64_v, b64_v]
  unfold b64
  congr 1
  apply BitVec.eq_of_getLsbD_eq
  intro i hi
  simp [BitVec.getLsbD_or, BitVec.getLsbD_ofNat, hi]
theorem b64_and {x y : Nat} : l_and (b64 x) (b64 y) = b64 (x &&& y) := by
  unfold l_and
  rw [← Int64.toInt_toBitVec, Int64.toBitVec_and, b64_v, b64_v]
  unfold b64
  congr 1
  apply BitVec.eq_of_getLsbD_eq
  intro i hi
  simp [BitVec.getLsbD_and, BitVec.getLsbD_ofNat, hi]
theorem b32_shl {x k : Nat} (hk : k < 32) : i_shl (b32 x) (k : Int) = b32 (x * 2 ^ k) := by
  unfold i_shl
  rw [← Int32.toInt_toBitVec, Int32.toBitVec_shiftLeft, b32_v, sh_cnt ⟨k, hk⟩]
  unfold b32
  congr 1
  apply BitVec.eq_of_toNat_eq
  rw [BitVec.shiftLeft_eq', BitVec.toNat_shiftLeft, BitVec.toNat_ofNat, BitVec.toNat_ofNat, BitVec.toNat_ofNat, Nat.mod_eq_of_lt (a := k) (by omega), Nat.shiftLeft_eq, Nat.mod_mul_mod]
theorem b32_ushr {x k : Nat} (hk : k < 32) : i_ushr (b32 x) (k : Int) = b32 (x % 2 ^ 32 / 2 ^ k) := by
  unfold i_ushr
  rw [← Int32.toInt_toBitVec]
  have e1 : ∀ u : UInt32, u.toInt32.toBitVec = u.toBitVec := fun _ => rfl
  rw [e1, UInt32.toBitVec_shiftRight, Int32.toBitVec_toUInt32, b32_v, uh_cnt ⟨k, hk⟩]
  unfold b32
  congr 1
  rw [BitVec.ushiftRight_eq']
  apply BitVec.eq_of_toNat_eq
  rw [BitVec.toNat_ushiftRight, BitVec.toNat_ofNat, BitVec.toNat_ofNat, BitVec.toNat_ofNat, Nat.mod_eq_of_lt (a := k) (by omega), Nat.shiftRight_eq_div_pow, Nat.mod_eq_of_lt (a := x % 2 ^ 32 / 2 ^ k)]
  have := Nat.div_le_self (x % 2 ^ 32) (2 ^ k)
  have : x % 2 ^ 32 < 2 ^ 32 := Nat.mod_lt _ (by omega)
  omega
theorem lsh_cnt : ∀ k : Fin 64, (((Int32.ofInt (k.val : Int)).toInt64 &&& 63).toBitVec.smod 64) = BitVec.ofNat 64 k.val := by decide +kernel
theorem b64_shl {x k : Nat} (hk : k < 64) : l_shl (b64 x) (k : Int) = b64 (x * 2 ^ k) := by
  unfold l_shl
  rw [← Int64.toInt_toBitVec, Int64.toBitVec_shiftLeft, b64_v, lsh_cnt ⟨k, hk⟩]
  unfold b64
  congr 1
  apply BitVec.eq_of_toNat_eq
  rw [BitVec.shiftLeft_eq', BitVec.toNat_shiftLeft, BitVec.toNat_ofNat, BitVec.toNat_ofNat, BitVec.toNat_ofNat, Nat.mod_eq_of_lt (a := k) (by omega), Nat.shiftLeft_eq, Nat.mod_mul_mod]
theorem luh_cnt : ∀ k : Fin 64, (((Int32.ofInt (k.val : Int)).toInt64.toUInt64 &&& Int64.toUInt64 63).toBitVec % 64) = BitVec.ofNat 64 k.val := by decide +kernel
theorem b64_ushr {x k : Nat} (hk : k < 64) (hx : x < 18446744073709551616) : l_ushr (b64 x) (k : Int) = b64 (x / 2 ^ k) := by
  unfold l_ushr
  rw [← Int64.toInt_toBitVec]
  have e1 : ∀ u : UInt64, u.toInt64.toBitVec = u.toBitVec := fun _ => rfl
  rw [e1, UInt64.toBitVec_shiftRight, Int64.toBitVec_toUInt64, b64_v, luh_cnt ⟨k, hk⟩]
  unfold b64
  congr 1
  rw [BitVec.ushiftRight_eq']
  apply BitVec.eq_of_toNat_eq
  rw [BitVec.toNat_ushiftRight, BitVec.toNat_ofNat, BitVec.toNat_ofNat, BitVec.toNat_ofNat, Nat.mod_eq_of_lt (a := k) (by omega), Nat.shiftRight_eq_div_pow, Nat.mod_eq_of_lt (a := x) (by omega), Nat.mod_eq_of_lt (a := x / 2 ^ k)]
  have := Nat.div_le_self x (2 ^ k)
  omega
theorem b64_i {x : Nat} : w32 (b64 x) = b32 x := by
  rw [b32_w, b64_w]
  unfold w32 w64
  omega
/-! packs of digits -/
def pkD (w : Nat) (x : Nat → Nat) : Nat → Nat
  | 0 => 0
  | n + 1 => pkD w x n + x n * 2 ^ (w * n)
theorem pkD_lt {w : Nat} {x : Nat → Nat} : ∀ n, (∀ i, i < n → x i < 2 ^ w) → pkD w x n < 2 ^ (w * n)
  | 0, _ => by show 0 < 2 ^ (w * 0); rw [Nat.mul_zero]; omega
  | n + 1, h => by
    have h1 := pkD_lt n (fun i hi => h i (by omega))
    have h2 := h n (by omega)
    show pkD w x n + x n * 2 ^ (w * n) < 2 ^ (w * (n + 1))
    have h3 : 2 ^ (w * (n + 1)) = 2 ^ w * 2 ^ (w * n) := by rw [← Nat.pow_add]; congr 1; rw [Nat.mul_succ]; omega
    have h4 : (x n + 1) * 2 ^ (w * n) ≤ 2 ^ w * 2 ^ (w * n) := Nat.mul_le_mul_right _ h2
    rw [Nat.add_mul] at h4
    omega
theorem pkD_or {w : Nat} {x : Nat → Nat} {n : Nat} (h : ∀ i, i < n → x i < 2 ^ w) : pkD w x n ||| x n * 2 ^ (w * n) = pkD w x (n + 1) := by
  have h1 := pkD_lt n h
  have h2 := Nat.two_pow_add_eq_or_of_lt h1 (x n)
  rw [Nat.mul_comm] at h2
  rw [Nat.or_comm, ← h2]
  show _ = pkD w x n + x n * 2 ^ (w * n)
  omega
theorem pkD_at {w : Nat} {x : Nat → Nat} {p : Nat} : ∀ n, p < n → (∀ i, i < n → x i < 2 ^ w) → pkD w x n / 2 ^ (w * p) % 2 ^ w = x p
  | 0, hp, _ => absurd hp (by omega)
  | n + 1, hp, h => by
    have h0 := pkD_lt n (fun i hi => h i (by omega))
    show (pkD w x n + x n * 2 ^ (w * n)) / 2 ^ (w * p) % 2 ^ w = x p
    by_cases hpn : p = n
    · subst hpn
      rw [Nat.add_mul_div_right _ _ (Nat.two_pow_pos _), Nat.div_eq_of_lt h0, Nat.zero_add, Nat.mod_eq_of_lt (h p (by omega))]
    · have h1 := pkD_at (p := p) n (by omega) (fun i hi => h i (by omega))
      have h2 : x n * 2 ^ (w * n) = (x n * 2 ^ (w * (n - p - 1))) * 2 ^ w * 2 ^ (w * p) := by
        rw [Nat.mul_assoc, Nat.mul_assoc, ← Nat.pow_add, ← Nat.pow_add]
        congr 2
        have : w * n = w * ((n - p - 1) + 1 + p) := by congr 1; omega
        rw [this, Nat.mul_add, Nat.mul_add]
        omega
      rw [h2, Nat.add_mul_div_right _ _ (Nat.two_pow_pos _), Nat.add_mul_mod_self_right, h1]
theorem pkD_cg {w : Nat} {x x' : Nat → Nat} : ∀ n, (∀ i, i < n → x i = x' i) → pkD w x n = pkD w x' n
  | 0, _ => rfl
  | n + 1, h => by
    show pkD w x n + x n * 2 ^ (w * n) = pkD w x' n + x' n * 2 ^ (w * n)
    rw [pkD_cg n (fun i hi => h i (by omega)), h n (by omega)]
theorem nib_at {x : Nat → Nat} {p : Nat} (hp : p < 8) (h : ∀ i, i < 8 → x i < 16) : i_and (i_ushr (b32 (pkD 4 x 8)) (4 * (p : Int))) 15 = (x p : Int) := by
  have h1 := pkD_lt (w := 4) (x := x) 8 h
  rw [show (4 * (p : Int)) = ((4 * p : Nat) : Int) by omega, b32_ushr (by omega), Nat.mod_eq_of_lt (by omega)]
  have e : (15 : Int) = b32 15 := rfl
  rw [e, b32_and]
  have h2 := pkD_at (w := 4) (x := x) 8 hp h
  have h3 : pkD 4 x 8 / 2 ^ (4 * p) &&& 15 = pkD 4 x 8 / 2 ^ (4 * p) % 2 ^ 4 := Nat.and_two_pow_sub_one_eq_mod _ 4
  rw [h3, h2]
  have := h p hp
  exact b32_s (by omega)
theorem byt_at {x : Nat → Nat} {p : Nat} (hp : p < 8) (h : ∀ i, i < 8 → x i < 256) : i_and (w32 (l_ushr (b64 (pkD 8 x 8)) (8 * (p : Int)))) 255 = (x p : Int) := by
  have h1 := pkD_lt (w := 8) (x := x) 8 h
  rw [show (8 * (p : Int)) = ((8 * p : Nat) : Int) by omega, b64_ushr (by omega) (by omega), b64_i]
  have e : (255 : Int) = b32 255 := rfl
  rw [e, b32_and]
  have h2 := pkD_at (w := 8) (x := x) 8 hp h
  have h3 : pkD 8 x 8 / 2 ^ (8 * p) &&& 255 = pkD 8 x 8 / 2 ^ (8 * p) % 2 ^ 8 := Nat.and_two_pow_sub_one_eq_mod _ 8
  rw [h3, h2]
  have := h p hp
  exact b32_s (by omega)
/-- frames: objects that stay as they are -/
def FrO (lo hi : Nat) (a a' : SC) : Prop := ∀ o, o < lo ∨ hi < o → a' o = a o
theorem FrO.rf {lo hi : Nat} {a : SC} : FrO lo hi a a := fun _ _ => rfl
theorem FrO.tr {lo hi : Nat} {a b c : SC} (h : FrO lo hi a b) (h' : FrO lo hi b c) : FrO lo hi a c := fun o ho => (h' o ho).trans (h o ho)
theorem FrO.wd {lo hi lo' hi' : Nat} {a b : SC} (h : FrO lo hi a b) (h1 : lo' ≤ lo) (h2 : hi ≤ hi') : FrO lo' hi' a b := fun o ho => h o (by omega)
theorem updC_row {c : SC} {o i o' : Nat} {v : Int} (h : o' ≠ o) : updC c o i v o' = c o' := by
  funext j
  exact updC_nt (fun hc => h hc.1)
theorem FrO.up {lo hi : Nat} {a b : SC} {o i : Nat} {v : Int} (h : FrO lo hi a b) (ho : lo ≤ o ∧ o ≤ hi) : FrO lo hi a (updC b o i v) := fun o' ho' => by
  rw [updC_row (by omega)]
  exact h o' ho'
