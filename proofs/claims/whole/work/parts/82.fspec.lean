/-! WHAT A FINDER KNOWS: H tells the scene at each minute's end; W persons, N the last minute -/
def hrdF (H : Nat → SC) (N x : Nat) : Nat → Nat
  | 0 => 0
  | p + 1 => if x.testBit p = true ∧ H N 1 p ≠ 0 then hrdF H N x p + 2 ^ p else hrdF H N x p
def spfF (W : Nat) (H : Nat → SC) (y v : Nat) : Nat → Nat
  | 0 => 0
  | m + 1 => if ∃ p, p < W ∧ y.testBit p = true ∧ seeS (H m) p v = 1 then m + 1 else spfF W H y v m
def fdF (W : Nat) (H : Nat → SC) (y v : Nat) (m : Nat) : Bool := decide (∃ p, p < W ∧ y.testBit p = true ∧ seeS (H m) p v = 2)
def sptF (W : Nat) (H : Nat → SC) (N y v : Nat) : Nat := if lst (fdF W H y v) (N + 1) < N + 1 then lst (fdF W H y v) (N + 1) else N
abbrev ClrF (W : Nat) (H : Nat → SC) (N y v p m : Nat) : Prop := ∃ q, q < W ∧ q ≠ p ∧ y.testBit q = true ∧ (seeS (H m) q p = 2 ∨ seeS (H m) q p = 1 ∧ H m 0 p ≠ H N 0 v)
abbrev CanF (W : Nat) (H : Nat → SC) (N y v p : Nat) : Prop := p ≠ v ∧ ¬ ∀ m, m < sptF W H N y v + 1 → spfF W H y v (N + 1) ≤ m → ClrF W H N y v p m
def cldF (W : Nat) (H : Nat → SC) (N y v : Nat) : Nat → Nat
  | 0 => 0
  | p + 1 => if CanF W H N y v p then cldF W H N y v p + 2 ^ p else cldF W H N y v p
def lsF (W : Nat) (H : Nat → SC) (N v : Nat) : Nat → Int
  | 0 => -1
  | x + 1 => if hrdF H N x W = x ∧ (lsF W H N v x = -1 ∨ bcS x < bcS (lsF W H N v x).toNat) ∧ bcS (cldF W H N x v W) = 1 then (x : Int) else lsF W H N v x
/-- the least set to ask, or -1 -/
def lstF (W : Nat) (H : Nat → SC) (N v : Nat) : Int := lsF W H N v (2 ^ W)
abbrev FairF (W : Nat) (H : Nat → SC) (N v : Nat) : Prop := bcS (cldF W H N (hrdF H N (2 ^ W - 1) W) v W) = 1
theorem pw2 (k : Nat) : 2 ^ (k + 1) = 2 ^ k + 2 ^ k := by rw [Nat.pow_succ]; omega
theorem pw8 {k : Nat} (h : k ≤ 8) : 2 ^ k ≤ 256 := Nat.pow_le_pow_right (n := 2) (by omega) h
theorem hrdF_lt (H : Nat → SC) (N x : Nat) : ∀ p, hrdF H N x p < 2 ^ p
  | 0 => by show 0 < 1; omega
  | p + 1 => by
    have h1 := hrdF_lt H N x p
    have h2 := pw2 p
    show (if x.testBit p = true ∧ H N 1 p ≠ 0 then hrdF H N x p + 2 ^ p else hrdF H N x p) < 2 ^ (p + 1)
    split <;> omega
theorem cldF_lt (W : Nat) (H : Nat → SC) (N y v : Nat) : ∀ p, cldF W H N y v p < 2 ^ p
  | 0 => by show 0 < 1; omega
  | p + 1 => by
    have h1 := cldF_lt W H N y v p
    have h2 := pw2 p
    show (if CanF W H N y v p then cldF W H N y v p + 2 ^ p else cldF W H N y v p) < 2 ^ (p + 1)
    split <;> omega
theorem cldF_s {W : Nat} {H : Nat → SC} {N y v p : Nat} : cldF W H N y v (p + 1) = if CanF W H N y v p then cldF W H N y v p + 2 ^ p else cldF W H N y v p := rfl
theorem hrdF_s {H : Nat → SC} {N x p : Nat} : hrdF H N x (p + 1) = if x.testBit p = true ∧ H N 1 p ≠ 0 then hrdF H N x p + 2 ^ p else hrdF H N x p := rfl
theorem spfF_s {W : Nat} {H : Nat → SC} {y v m : Nat} : spfF W H y v (m + 1) = if ∃ p, p < W ∧ y.testBit p = true ∧ seeS (H m) p v = 1 then m + 1 else spfF W H y v m := rfl
theorem spfF_le {W : Nat} {H : Nat → SC} {y v : Nat} : ∀ m, spfF W H y v m ≤ m
  | 0 => Nat.le_refl 0
  | m + 1 => by
    have := spfF_le (W := W) (H := H) (y := y) (v := v) m
    rw [spfF_s]
    split <;> omega
theorem sptF_le {W : Nat} {H : Nat → SC} {N y v : Nat} : sptF W H N y v ≤ N := by
  unfold sptF
  split <;> omega
/-- a person more who is asked -/
theorem ex_s {W : Nat} {P : Nat → Prop} : (∃ p, p < W + 1 ∧ P p) ↔ (∃ p, p < W ∧ P p) ∨ P W := by
  constructor
  · rintro ⟨p, h1, h2⟩
    by_cases h : p = W
    · exact Or.inr (h ▸ h2)
    · exact Or.inl ⟨p, by omega, h2⟩
  · rintro (⟨p, h1, h2⟩ | h)
    · exact ⟨p, by omega, h2⟩
    · exact ⟨W, by omega, h⟩
theorem lst_s {f : Nat → Bool} {n : Nat} : lst f (n + 1) = if lst f n < n then lst f n else if f n = true then n else n + 1 := rfl
/-- what the reference has of an evening, for a finder -/
def RowH (W : Nat) (H : Nat → SC) (b : SC) (e n : Nat) : Prop := ∀ m, m < n → ∀ p, p < W → b 205 (1440 * e + 8 * m + p) = H m 0 p ∧ b 206 (1440 * e + 8 * m + p) = H m 1 p
theorem HisM.row {S : STY} {B b : SC} {e n : Nat} (h : HisM S B b e n) : RowH (nW S) (fun m => aftS S B (m + 1)) b e n := fun m hm p hp => ⟨(h m hm).1 p hp, (h m hm).2.1 p hp⟩
theorem RowH.fr {W : Nat} {H : Nat → SC} {b b' : SC} {e n : Nat} (h : RowH W H b e n) (h5 : b' 205 = b 205) (h6 : b' 206 = b 206) : RowH W H b' e n := fun m hm p hp => by rw [h5, h6]; exact h m hm p hp
