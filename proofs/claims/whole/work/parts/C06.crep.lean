/-! WHAT THE CLASS KEEPS, against what is said -/
def encT (op : Nat) : Nat := match op with
  | 0 => 301
  | 1 => 279
  | 2 => 280
  | 3 => 272
  | 4 => 273
  | 5 => 274
  | 6 => 275
  | 7 => 276
  | 8 => 277
  | 9 => 278
  | 15 => 43
  | 16 => 45
  | 17 => 42
  | 18 => 47
  | 19 => 37
  | 20 => 281
  | 21 => 282
  | 22 => 60
  | 23 => 62
  | 24 => 61
  | 25 => 270
  | 26 => 269
  | _ => 271
def encV (op v : Nat) : Nat := if 3 ≤ op then v / 8 + 8 * (v % 8) else v
/-- a stretch of the class's code, k to k', tells the steps l; D bounds how many numbers it piles up -/
def CoC (A : Nat → Int) (D k : Nat) (l : List (Nat × Nat)) (k' : Nat) : Prop := ∀ P : Nat → Nat → List (Nat × Nat) → Nat → Prop,
  (∀ D k (q : Nat × Nat), q.1 ≤ 9 → 1 ≤ D → A k = ((encT q.1 + 512 * encV q.1 q.2 : Nat) : Int) → P D k [q] (k + 1)) →
  (∀ D k l k', P D k l k' → A k' = 271 → P D k (l ++ [(27, 0)]) (k' + 1)) →
  (∀ D D' k l k1 l' k2 op, 15 ≤ op → op ≤ 24 → P D k l k1 → P D' k1 l' k2 → D' + 1 ≤ D → A k2 = ((encT op : Nat) : Int) → P D k (l ++ (l' ++ [(op, 0)])) (k2 + 1)) →
  (∀ D k l k1 l' k2 op, op = 25 ∨ op = 26 → P D k l k1 → A k1 = ((encT op + 512 * k2 : Nat) : Int) → P D (k1 + 1) l' k2 → P D k (l ++ (l' ++ [(op, 0)])) k2) →
  (∀ D k l k', P D k l k' → P D k (l ++ [(27, 0)] ++ [(27, 0)]) k') → P D k l k'
theorem CoC.leaf {A : Nat → Int} {D k : Nat} {q : Nat × Nat} (h : q.1 ≤ 9) (hD : 1 ≤ D) (hA : A k = ((encT q.1 + 512 * encV q.1 q.2 : Nat) : Int)) : CoC A D k [q] (k + 1) := fun _ h1 _ _ _ _ => h1 D k q h hD hA
theorem CoC.not {A : Nat → Int} {D k k' : Nat} {l : List (Nat × Nat)} (h : CoC A D k l k') (hA : A k' = 271) : CoC A D k (l ++ [(27, 0)]) (k' + 1) := fun P h1 h2 h3 h4 h5 => h2 D k l k' (h P h1 h2 h3 h4 h5) hA
theorem CoC.bin {A : Nat → Int} {D D' k k1 k2 op : Nat} {l l' : List (Nat × Nat)} (ho : 15 ≤ op) (ho2 : op ≤ 24) (h : CoC A D k l k1) (h' : CoC A D' k1 l' k2) (hD : D' + 1 ≤ D) (hA : A k2 = ((encT op : Nat) : Int)) : CoC A D k (l ++ (l' ++ [(op, 0)])) (k2 + 1) := fun P h1 h2 h3 h4 h5 => h3 D D' k l k1 l' k2 op ho ho2 (h P h1 h2 h3 h4 h5) (h' P h1 h2 h3 h4 h5) hD hA
theorem CoC.log {A : Nat → Int} {D k k1 k2 op : Nat} {l l' : List (Nat × Nat)} (ho : op = 25 ∨ op = 26) (h : CoC A D k l k1) (hA : A k1 = ((encT op + 512 * k2 : Nat) : Int)) (h' : CoC A D (k1 + 1) l' k2) : CoC A D k (l ++ (l' ++ [(op, 0)])) k2 := fun P h1 h2 h3 h4 h5 => h4 D k l k1 l' k2 op ho (h P h1 h2 h3 h4 h5) hA (h' P h1 h2 h3 h4 h5)
theorem CoC.dbl {A : Nat → Int} {D k k' : Nat} {l : List (Nat × Nat)} (h : CoC A D k l k') : CoC A D k (l ++ [(27, 0)] ++ [(27, 0)]) k' := fun P h1 h2 h3 h4 h5 => h5 D k l k' (h P h1 h2 h3 h4 h5)
theorem CoC.lt {A : Nat → Int} {D k k' : Nat} {l : List (Nat × Nat)} (h : CoC A D k l k') : k < k' :=
  h (fun _ k _ k' => k < k') (fun _ _ _ _ _ _ => by omega) (fun _ _ _ _ _ _ => by omega) (fun _ _ _ _ _ _ _ _ _ _ _ _ _ _ => by omega) (fun _ _ _ _ _ _ _ _ _ _ _ => by omega) (fun _ _ _ _ h => h)
theorem CoC.cg {A A' : Nat → Int} {D k k' : Nat} {l : List (Nat × Nat)} (h : CoC A D k l k') (hA : ∀ i, k ≤ i → i < k' → A' i = A i) : CoC A' D k l k' := by
  refine (h (fun D k l k' => k < k' ∧ ((∀ i, k ≤ i → i < k' → A' i = A i) → CoC A' D k l k')) ?_ ?_ ?_ ?_ ?_).2 hA
  · intro D k q h1 h2 h3
    exact ⟨by omega, fun hA => CoC.leaf h1 h2 ((hA k (by omega) (by omega)).trans h3)⟩
  · intro D k l k' h1 h2
    have := h1.1
    exact ⟨by omega, fun hA => (h1.2 (fun i g1 g2 => hA i g1 (by omega))).not ((hA k' (by omega) (by omega)).trans h2)⟩
  · intro D D' k l k1 l' k2 op g1 g2 h1 h2 h3 h4
    have := h1.1
    have := h2.1
    exact ⟨by omega, fun hA => CoC.bin g1 g2 (h1.2 (fun i g1 g2 => hA i g1 (by omega))) (h2.2 (fun i g1 g2 => hA i (by omega) (by omega))) h3 ((hA k2 (by omega) (by omega)).trans h4)⟩
  · intro D k l k1 l' k2 op g1 h1 h2 h3
    have := h1.1
    have := h3.1
    exact ⟨by omega, fun hA => CoC.log g1 (h1.2 (fun i g1 g2 => hA i g1 (by omega))) ((hA k1 (by omega) (by omega)).trans h2) (h3.2 (fun i g1 g2 => hA i (by omega) (by omega)))⟩
  · intro D k l k' h1
    exact ⟨h1.1, fun hA => (h1.2 hA).dbl⟩
theorem CoC.mo {A : Nat → Int} {D E k k' : Nat} {l : List (Nat × Nat)} (h : CoC A D k l k') (hE : D ≤ E) : CoC A E k l k' := by
  refine (h (fun D k l k' => ∀ E, D ≤ E → CoC A E k l k') ?_ ?_ ?_ ?_ ?_) E hE
  · intro D k q h1 h2 h3 E hE
    exact CoC.leaf h1 (by omega) h3
  · intro D k l k' h1 h2 E hE
    exact (h1 E hE).not h2
  · intro D D' k l k1 l' k2 op g1 g2 h1 h2 h3 h4 E hE
    exact CoC.bin (D' := D') g1 g2 (h1 E hE) (h2 D' (Nat.le_refl _)) (by omega) h4
  · intro D k l k1 l' k2 op g1 h1 h2 h3 E hE
    exact CoC.log g1 (h1 E hE) h2 (h3 E hE)
  · intro D k l k' h1 E hE
    exact (h1 E hE).dbl
/-- a name's letters, five bits each -/
def cvF (n : Nat) : Nat → Nat
  | 0 => 0
  | k + 1 => cvF (n / 256) k * 32 + n % 32
def cvN (v : Int) : Int := ((cvF v.toNat 6 : Nat) : Int)
/-- rule r is one of p's, a feel or not -/
abbrev isT (S : STY) (p : Nat) (f : Bool) (r : Nat) : Bool := decide (S.1 12 r = (p : Int)) && (decide (S.1 11 r = 4) == f)
def cntT (S : STY) (p : Nat) (f : Bool) : Nat → Nat
  | 0 => 0
  | r + 1 => cntT S p f r + if isT S p f r = true then 1 else 0
def SgT (S : STY) (a : SC) (y p : Nat) (f : Bool) (x z : Nat) : Prop := z = x + cntT S p f (nL S) ∧ z ≤ 30 ∧ ∀ r, r < nL S → isT S p f r = true → a (y + 12) (x + cntT S p f r) = (r : Int)
def RuC (S : STY) (a : SC) (y r : Nat) : Prop := a (y + 14 + r) 0 = S.1 11 r + 262 ∧ a (y + 14 + r) 1 = S.1 12 r ∧ (S.1 11 r ≠ 5 → a (y + 14 + r) 2 = S.1 13 r) ∧ (S.1 11 r = 5 → a (y + 14 + r) 3 = S.1 13 r ∧ a (y + 14 + r) 2 = S.1 14 r) ∧ ∃ k0 k1 k2 : Nat, a (y + 14 + r) 4 = (k0 : Int) ∧ a (y + 14 + r) 5 = (k1 : Int) ∧ a (y + 14 + r) 6 = (k2 : Int) ∧ k2 ≤ 1200 ∧ CoC (a (y + 11)) 48 k1 (S.2 (2 * r + 1)) k2 ∧ (S.1 11 r = 4 → CoC (a (y + 11)) 48 k0 (S.2 (2 * r)) k1)
/-- the told story lies at y -/
def RpC (S : STY) (a : SC) (y : Nat) : Prop :=
  (∀ i, i < 6 → a (y + 1) i = S.1 0 i) ∧
  (∀ k, k < nR S → a (y + 2) k = cvN (S.1 1 k)) ∧ (∀ k, k < nW S → a (y + 2) (16 + k) = cvN (S.1 2 k)) ∧ (∀ k, k < nT S → a (y + 2) (24 + k) = cvN (S.1 3 k)) ∧
  (∀ r o, r < nR S → o < nR S → a (y + 5) (8 * r + o) = stpW S r o) ∧
  (∀ i, i < 8 → a (y + 7) i = if i < nW S then S.1 5 i else 0) ∧ (∀ i, i < 8 → a (y + 8) i = if i < nT S then S.1 6 i else 0) ∧ a (y + 6) 2 = 0 ∧
  (∀ r, r < nL S → RuC S a y r) ∧
  (∀ k, k < nC S → a (y + 44 + k) 0 = S.1 7 k ∧ a (y + 44 + k) 1 = S.1 8 k ∧ a (y + 44 + k) 2 = S.1 9 k ∧ a (y + 44 + k) 3 = S.1 10 k) ∧
  (∀ p, p < nW S → ∃ f0 f1 f2 : Nat, a (y + 13) (2 * p) = (f0 : Int) ∧ a (y + 13) (2 * p + 1) = (f1 : Int) ∧ a (y + 13) (2 * p + 2) = (f2 : Int) ∧ SgT S a y p true f0 f1 ∧ SgT S a y p false f1 f2)
theorem RpC.fr {S : STY} {a a' : SC} {y : Nat} (h : RpC S a y) (hf : ∀ o, y ≤ o → o < y + 56 → a' o = a o) (hl : nL S ≤ 30) (hc : nC S ≤ 12) : RpC S a' y := by
  unfold RpC SgT at h ⊢
  obtain ⟨h1, h2, h3, h4, h5, h6, h7, h8, h9, h10, h11⟩ := h
  rw [hf (y + 1) (by omega) (by omega), hf (y + 2) (by omega) (by omega), hf (y + 5) (by omega) (by omega), hf (y + 7) (by omega) (by omega), hf (y + 8) (by omega) (by omega), hf (y + 6) (by omega) (by omega), hf (y + 12) (by omega) (by omega), hf (y + 13) (by omega) (by omega)]
  refine ⟨h1, h2, h3, h4, h5, h6, h7, h8, fun r hr => ?_, fun k hk => ?_, h11⟩
  · have := h9 r hr
    unfold RuC at this ⊢
    rw [hf (y + 14 + r) (by omega) (by omega), hf (y + 11) (by omega) (by omega)]
    exact this
  · rw [hf (y + 44 + k) (by omega) (by omega)]
    exact h10 k hk
/-- a breakfast lies at k -/
def RbC (S : STY) (B a : SC) (k : Nat) : Prop :=
  (∀ p, p < nW S → a (k + 1) p = B 0 p) ∧ (∀ i, i < 8 → 0 ≤ a (k + 1) i ∧ a (k + 1) i < 8) ∧
  (∀ t, t < nT S → a (k + 2) t = B 1 t) ∧ (∀ i, i < 8 → 0 ≤ a (k + 2) i ∧ a (k + 2) i < 8) ∧
  ∃ x : Nat, x < 1073741824 ∧ a k 2 = (x : Int) ∧ ∀ r, r < nL S → (x.testBit r = true ↔ B 2 r ≠ 0)
theorem RbC.fr {S : STY} {B a a' : SC} {k : Nat} (h : RbC S B a k) (hf : ∀ o, k ≤ o → o ≤ k + 2 → a' o = a o) : RbC S B a' k := by
  unfold RbC at h ⊢
  rw [hf (k + 1) (by omega) (by omega), hf (k + 2) (by omega) (by omega), hf k (by omega) (by omega)]
  exact h
/-- where a thing is, as the class has it -/
def plc (v : Int) : Int := if v < 100 then v else v - 92
def livB (n : Nat) (c : SC) (r : Nat) : Nat := bts (fun p => decide (c 1 p ≠ 0 ∧ c 0 p = (r : Int))) n
def alvB (n : Nat) (c : SC) : Nat := bts (fun p => decide (c 1 p ≠ 0)) n
def unwB (c : SC) : Nat := bts (fun r => decide (∃ i, i < (c 7 0).toNat ∧ c 6 (6 * i + 4) = (r : Int) ∧ c 6 (6 * i + 5) = -1)) 8
/-- the scene at u + 1 -/
def RsC (S : STY) (c a : SC) (u : Nat) : Prop :=
  (∀ p, p < nW S → a (u + 2) p = c 0 p) ∧ (∀ i, i < 8 → 0 ≤ a (u + 2) i ∧ a (u + 2) i < 8) ∧
  (∀ t, t < nT S → a (u + 3) t = plc (c 2 t)) ∧ (∀ i, i < 8 → 0 ≤ a (u + 3) i ∧ a (u + 3) i < 16) ∧
  (∀ t, nT S ≤ t → t < 8 → a (u + 3) t < 8) ∧
  (∀ p, p < nW S → a (u + 4) p = c 3 p) ∧ (∀ r, r < 8 → a (u + 5) r = ((livB (nW S) c r : Nat) : Int)) ∧
  (∀ p o, p < nW S → o < nW S → a (u + 6) (8 * p + o) = c 4 (8 * p + o)) ∧
  a (u + 1) 6 = c 5 0 ∧ a (u + 1) 7 = ((alvB (nW S) c : Nat) : Int) ∧ a (u + 1) 8 = ((unwB c : Nat) : Int)
theorem RsC.fr {S : STY} {c a a' : SC} {u : Nat} (h : RsC S c a u) (hf : ∀ o, u + 1 ≤ o → o ≤ u + 6 → a' o = a o) : RsC S c a' u := by
  unfold RsC at h ⊢
  rw [hf (u + 1) (by omega) (by omega), hf (u + 2) (by omega) (by omega), hf (u + 3) (by omega) (by omega), hf (u + 4) (by omega) (by omega), hf (u + 5) (by omega) (by omega), hf (u + 6) (by omega) (by omega)]
  exact h
