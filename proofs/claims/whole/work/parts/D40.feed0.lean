/-! THE CLASS: the tape -/
theorem bv_of {v : Int} : (Int32.ofInt v).toBitVec = BitVec.ofInt 32 v := Int32.toBitVec_ofInt v
theorem and255 {v : Int} : i_and v 255 = v % 256 := by
  unfold i_and
  rw [← Int32.toInt_toBitVec, Int32.toBitVec_and, bv_of]
  have e : (Int32.ofInt 255).toBitVec = 255#32 := by decide
  rw [e]
  have h : (BitVec.ofInt 32 v &&& 255#32).toNat = (BitVec.ofInt 32 v).toNat % 256 := by
    rw [BitVec.toNat_and]
    exact Nat.and_two_pow_sub_one_eq_mod _ 8
  rw [BitVec.toInt_eq_toNat_of_lt (by rw [h]; omega), h, BitVec.toNat_ofInt]
  omega
theorem shr_div {v : Int} {k : Nat} (hk : k < 32) : i_shr v (k : Int) = (BitVec.ofInt 32 v).toInt / ((2 ^ k : Nat) : Int) := by
  unfold i_shr
  rw [← Int32.toInt_toBitVec, Int32.toBitVec_shiftRight, bv_of, sh_cnt ⟨k, hk⟩]
  show ((BitVec.ofInt 32 v).sshiftRight (BitVec.ofNat 32 k).toNat).toInt = _
  rw [BitVec.toInt_sshiftRight, Int.shiftRight_eq_div_pow, BitVec.toNat_ofNat, Nat.mod_eq_of_lt (by omega)]
theorem ushr_b {v : Int} {k : Nat} (hk : k < 32) : i_ushr v (k : Int) = b32 ((BitVec.ofInt 32 v).toNat / 2 ^ k) := by
  have hb := b32_ushr (x := (BitVec.ofInt 32 v).toNat) (k := k) hk
  have e : Int32.ofInt v = Int32.ofInt (b32 (BitVec.ofInt 32 v).toNat) := by
    apply Int32.toBitVec_inj.mp
    rw [b32_v, bv_of, BitVec.ofNat_toNat, BitVec.setWidth_eq]
  rw [Nat.mod_eq_of_lt (BitVec.ofInt 32 v).isLt] at hb
  rw [← hb]
  unfold i_ushr
  rw [← e]
theorem byt_sb {v : Int} : ∀ k, k < 4 → w8 (i_ushr v ((24 - 8 * k : Nat) : Int)) = sbS (bytS v k) := by
  intro k hk
  obtain ⟨x, hx⟩ : ∃ x, x = (BitVec.ofInt 32 v).toNat := ⟨_, rfl⟩
  have hl : x < 4294967296 := by rw [hx]; exact (BitVec.ofInt 32 v).isLt
  have ht : (BitVec.ofInt 32 v).toInt = if x < 2147483648 then (x : Int) else (x : Int) - 4294967296 := by
    rw [BitVec.toInt_eq_toNat_bmod, ← hx, Int.bmod_def]
    split <;> split <;> omega
  unfold bytS
  rw [and255, shr_div (by omega), ushr_b (by omega), ← hx, ht, b32_w]
  unfold w8 w32 sbS
  rcases (show k = 0 ∨ k = 1 ∨ k = 2 ∨ k = 3 by omega) with rfl | rfl | rfl | rfl
  · show ((((x / 16777216 : Nat) : Int) + 2147483648) % 4294967296 - 2147483648 + 128) % 256 - 128 = if (if x < 2147483648 then (x : Int) else (x : Int) - 4294967296) / 16777216 % 256 < 128 then _ else _
    split <;> split <;> omega
  · show ((((x / 65536 : Nat) : Int) + 2147483648) % 4294967296 - 2147483648 + 128) % 256 - 128 = if (if x < 2147483648 then (x : Int) else (x : Int) - 4294967296) / 65536 % 256 < 128 then _ else _
    split <;> split <;> omega
  · show ((((x / 256 : Nat) : Int) + 2147483648) % 4294967296 - 2147483648 + 128) % 256 - 128 = if (if x < 2147483648 then (x : Int) else (x : Int) - 4294967296) / 256 % 256 < 128 then _ else _
    split <;> split <;> omega
  · show ((((x / 1 : Nat) : Int) + 2147483648) % 4294967296 - 2147483648 + 128) % 256 - 128 = if (if x < 2147483648 then (x : Int) else (x : Int) - 4294967296) / 1 % 256 < 128 then _ else _
    split <;> split <;> omega
