/-! numbers: the machine's ints and longs against whole numbers -/
def R32 (x : Int) : Prop := -2147483648 ≤ x ∧ x ≤ 2147483647
def R64 (x : Int) : Prop := -9223372036854775808 ≤ x ∧ x ≤ 9223372036854775807
theorem pn_bmod32 (z : Int) : z.bmod (2 ^ 32) = w32 z := by
  unfold Int.bmod w32
  simp only [show ((2 ^ 32 : Nat) : Int) = 4294967296 from rfl]
  split <;> omega
theorem pn_bmod64 (z : Int) : z.bmod (2 ^ 64) = w64 z := by
  unfold Int.bmod w64
  simp only [show ((2 ^ 64 : Nat) : Int) = 18446744073709551616 from rfl]
  split <;> omega
theorem pn_bmod8 (z : Int) : z.bmod (2 ^ 8) = w8 z := by
  unfold Int.bmod w8
  simp only [show ((2 ^ 8 : Nat) : Int) = 256 from rfl]
  split <;> omega
theorem R32_w32 (z : Int) : R32 (w32 z) := by unfold R32 w32; omega
theorem R64_w64 (z : Int) : R64 (w64 z) := by unfold R64 w64; omega
theorem w32_id {z : Int} (h : R32 z) : w32 z = z := by unfold R32 at h; unfold w32; omega
theorem w64_id {z : Int} (h : R64 z) : w64 z = z := by unfold R64 at h; unfold w64; omega
theorem pn_t {x : Int} (h : R32 x) : (Int32.ofInt x).toInt = x := Int32.toInt_ofInt_of_le (by have := h.1; omega) (by have := h.2; omega)
theorem pn_T {x : Int} (h : R64 x) : (Int64.ofInt x).toInt = x := Int64.toInt_ofInt_of_le (by have := h.1; omega) (by have := h.2; omega)
theorem R32_toInt (x : Int32) : R32 x.toInt := by
  have h1 := x.le_toInt
  have h2 := x.toInt_lt
  unfold R32
  omega
theorem R64_toInt (x : Int64) : R64 x.toInt := by
  have h1 := x.le_toInt
  have h2 := x.toInt_lt
  unfold R64
  omega
theorem pn_ofw (z : Int) : Int32.ofInt (w32 z) = Int32.ofInt z := by
  apply Int32.toInt.inj
  rw [pn_t (R32_w32 z), Int32.toInt_ofInt]
  exact (pn_bmod32 z).symm
theorem pn_ofW (z : Int) : Int64.ofInt (w64 z) = Int64.ofInt z := by
  apply Int64.toInt.inj
  rw [pn_T (R64_w64 z), Int64.toInt_ofInt]
  exact (pn_bmod64 z).symm
theorem pn_add {x y : Int} (hx : R32 x) (hy : R32 y) : Int32.ofInt x + Int32.ofInt y = Int32.ofInt (w32 (x + y)) := by
  apply Int32.toInt.inj
  rw [Int32.toInt_add, pn_t hx, pn_t hy, pn_t (R32_w32 _), pn_bmod32]
theorem pn_sub {x y : Int} (hx : R32 x) (hy : R32 y) : Int32.ofInt x - Int32.ofInt y = Int32.ofInt (w32 (x - y)) := by
  apply Int32.toInt.inj
  rw [Int32.toInt_sub, pn_t hx, pn_t hy, pn_t (R32_w32 _), pn_bmod32]
theorem pn_mul {x y : Int} (hx : R32 x) (hy : R32 y) : Int32.ofInt x * Int32.ofInt y = Int32.ofInt (w32 (x * y)) := by
  apply Int32.toInt.inj
  rw [Int32.toInt_mul, pn_t hx, pn_t hy, pn_t (R32_w32 _), pn_bmod32]
theorem pn_div {x y : Int} (hx : R32 x) (hy : R32 y) : Int32.ofInt x / Int32.ofInt y = Int32.ofInt (i_div x y) := by
  apply Int32.toInt.inj
  unfold i_div
  rw [Int32.toInt_div, pn_t hx, pn_t hy, pn_t (R32_w32 _), pn_bmod32]
theorem pn_rem {x y : Int} (hx : R32 x) (hy : R32 y) : Int32.ofInt x - Int32.ofInt x / Int32.ofInt y * Int32.ofInt y = Int32.ofInt (i_rem x y) := by
  rw [pn_div hx hy, pn_mul (show R32 (i_div x y) from R32_w32 _) hy, pn_sub hx (R32_w32 _)]
  unfold i_rem
  apply Int32.toInt.inj
  rw [pn_t (R32_w32 _), pn_t (R32_w32 _)]
  unfold w32
  omega
theorem pn_Add {x y : Int} (hx : R64 x) (hy : R64 y) : Int64.ofInt x + Int64.ofInt y = Int64.ofInt (w64 (x + y)) := by
  apply Int64.toInt.inj
  rw [Int64.toInt_add, pn_T hx, pn_T hy, pn_T (R64_w64 _), pn_bmod64]
theorem pn_Sub {x y : Int} (hx : R64 x) (hy : R64 y) : Int64.ofInt x - Int64.ofInt y = Int64.ofInt (w64 (x - y)) := by
  apply Int64.toInt.inj
  rw [Int64.toInt_sub, pn_T hx, pn_T hy, pn_T (R64_w64 _), pn_bmod64]
theorem pn_Mul {x y : Int} (hx : R64 x) (hy : R64 y) : Int64.ofInt x * Int64.ofInt y = Int64.ofInt (w64 (x * y)) := by
  apply Int64.toInt.inj
  rw [Int64.toInt_mul, pn_T hx, pn_T hy, pn_T (R64_w64 _), pn_bmod64]
theorem pn_Div {x y : Int} (hx : R64 x) (hy : R64 y) : Int64.ofInt x / Int64.ofInt y = Int64.ofInt (l_div x y) := by
  apply Int64.toInt.inj
  unfold l_div
  rw [Int64.toInt_div, pn_T hx, pn_T hy, pn_T (R64_w64 _), pn_bmod64]
theorem pn_Rem {x y : Int} (hx : R64 x) (hy : R64 y) : Int64.ofInt x - Int64.ofInt x / Int64.ofInt y * Int64.ofInt y = Int64.ofInt (l_rem x y) := by
  rw [pn_Div hx hy, pn_Mul (show R64 (l_div x y) from R64_w64 _) hy, pn_Sub hx (R64_w64 _)]
  unfold l_rem
  apply Int64.toInt.inj
  rw [pn_T (R64_w64 _), pn_T (R64_w64 _)]
  unfold w64
  omega
theorem pn_lt {x y : Int} (hx : R32 x) (hy : R32 y) : Int32.ofInt x < Int32.ofInt y ↔ x < y := by rw [Int32.lt_iff_toInt_lt, pn_t hx, pn_t hy]
theorem pn_le {x y : Int} (hx : R32 x) (hy : R32 y) : Int32.ofInt x ≤ Int32.ofInt y ↔ x ≤ y := by rw [Int32.le_iff_toInt_le, pn_t hx, pn_t hy]
theorem pn_eq {x y : Int} (hx : R32 x) (hy : R32 y) : Int32.ofInt x = Int32.ofInt y ↔ x = y := by rw [← Int32.toInt_inj, pn_t hx, pn_t hy]
theorem pn_Lt {x y : Int} (hx : R64 x) (hy : R64 y) : Int64.ofInt x < Int64.ofInt y ↔ x < y := by rw [Int64.lt_iff_toInt_lt, pn_T hx, pn_T hy]
theorem pn_Eq {x y : Int} (hx : R64 x) (hy : R64 y) : Int64.ofInt x = Int64.ofInt y ↔ x = y := by rw [← Int64.toInt_inj, pn_T hx, pn_T hy]
theorem R32_0 : R32 0 := ⟨by decide, by decide⟩
theorem pn_z : Int32.ofInt 0 = 0 := rfl
theorem pn_Z : Int64.ofInt 0 = 0 := rfl
theorem R64_0 : R64 0 := ⟨by decide, by decide⟩
theorem pn_clamp {i : Int} (h : R32 i) : (Int32.ofInt i).toNatClampNeg = i.toNat := by rw [← Int32.toNat_toInt, pn_t h]
theorem pn_neg {i : Int} (h : R32 i) (h0 : 0 ≤ i) : ¬ Int32.ofInt i < 0 := by
  rw [← pn_z, pn_lt h R32_0]
  omega
theorem pn_in {i : Int} {n : Nat} (h : R32 i) (h0 : 0 ≤ i) (hn : i.toNat < n) : vp_in (Int32.ofInt i) n := by
  unfold vp_in
  rw [pn_clamp h]
  rintro (h1 | h1)
  · exact pn_neg h h0 h1
  · omega
theorem pn_i2b {x : Int} (h : R32 x) : (Int32.ofInt x).toInt8.toInt32 = Int32.ofInt (w8 x) := by
  apply Int32.toInt.inj
  rw [Int8.toInt_toInt32, Int32.toInt_toInt8, pn_t h, pn_bmod8, pn_t (by unfold R32 w8; omega)]
theorem R32_w8 (x : Int) : R32 (w8 x) := by unfold R32 w8; omega
theorem pn_i2l {x : Int} (h : R32 x) : (Int32.ofInt x).toInt64 = Int64.ofInt x := by
  apply Int64.toInt.inj
  rw [Int32.toInt_toInt64, pn_t h, pn_T (by unfold R32 at h; unfold R64; omega)]
theorem pn_l2i {x : Int} (h : R64 x) : (Int64.ofInt x).toInt32 = Int32.ofInt (w32 x) := by
  apply Int32.toInt.inj
  rw [Int64.toInt_toInt32, pn_T h, pn_t (R32_w32 _), pn_bmod32]
theorem pn_i2c {x : Int} (h : R32 x) : ((Int32.ofInt x).toUInt32 % 65536).toInt32 = Int32.ofInt (x % 65536) := by
  apply Int32.toInt.inj
  have e : (Int32.ofInt x).toUInt32.toNat = (x % 4294967296).toNat := by
    show ((Int32.ofInt x).toBitVec).toNat = _
    rw [Int32.toBitVec_ofInt, BitVec.toNat_ofInt]
    rfl
  rw [pn_t (by unfold R32; omega)]
  have e2 : ((Int32.ofInt x).toUInt32 % 65536).toNat = (x % 65536).toNat := by
    rw [UInt32.toNat_mod, e]
    show (x % 4294967296).toNat % 65536 = _
    omega
  have e3 : ((Int32.ofInt x).toUInt32 % 65536).toInt32.toInt = (((Int32.ofInt x).toUInt32 % 65536).toNat : Int).bmod (2 ^ 32) := by
    show (((Int32.ofInt x).toUInt32 % 65536).toBitVec).toInt = _
    rw [BitVec.toInt_eq_toNat_bmod]
    rfl
  rw [e3, e2, pn_bmod32]
  unfold w32
  omega
theorem pn_bip {k : Int} (h1 : -128 ≤ k) (h2 : k ≤ 127) : (Int8.ofInt k).toInt32 = Int32.ofInt k := by
  apply Int32.toInt.inj
  rw [Int8.toInt_toInt32, Int8.toInt_ofInt_of_le (by omega) (by omega), pn_t (by unfold R32; omega)]
theorem pn_sip {k : Int} (h1 : -32768 ≤ k) (h2 : k ≤ 32767) : (Int16.ofInt k).toInt32 = Int32.ofInt k := by
  apply Int32.toInt.inj
  rw [Int16.toInt_toInt32, Int16.toInt_ofInt_of_le (by omega) (by omega), pn_t (by unfold R32; omega)]
theorem pn_lcmp {x y : Int} (hx : R64 x) (hy : R64 y) : lg_cmp (Int64.ofInt x) (Int64.ofInt y) = Int32.ofInt (l_cmp x y) := by
  unfold lg_cmp l_cmp
  simp only [pn_Lt hy hx, pn_Eq hx hy]
  split
  · rfl
  · split
    · rfl
    · rfl
theorem R32_lcmp (x y : Int) : R32 (l_cmp x y) := by unfold R32 l_cmp; split <;> (try split) <;> omega
theorem pm_r32_spec {n : Int} (h : pm_r32 n = true) : R32 n := by
  unfold pm_r32 at h
  simp only [Bool.and_eq_true, decide_eq_true_eq] at h
  exact h
theorem pm_r64_spec {n : Int} (h : pm_r64 n = true) : R64 n := by
  unfold pm_r64 at h
  simp only [Bool.and_eq_true, decide_eq_true_eq] at h
  exact h
theorem pm_set_eq {α : Type} : ∀ (l : List α) (i : Nat) (v : α), pm_set l i v = l.set i v
  | [], _, _ => by simp [pm_set]
  | a :: t, 0, v => by simp [pm_set]
  | a :: t, i + 1, v => by simp [pm_set, pm_set_eq t i v]
