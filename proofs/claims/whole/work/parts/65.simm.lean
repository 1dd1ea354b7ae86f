/-! THE REFERENCE'S STATE, against what is said -/
def codM (A B : Nat → Int) : Nat → List (Nat × Nat) → Prop
  | _, [] => True
  | k, q :: l => A k = (q.1 : Int) ∧ B k = (q.2 : Int) ∧ codM A B (k + 1) l
abbrev SegM (b : SC) (bk : Nat) (f t : Int) (l : List (Nat × Nat)) : Prop := ∃ k : Nat, f = (k : Int) ∧ t = ((k + l.length : Nat) : Int) ∧ k + l.length ≤ 1200 ∧ codM (b 191) (b 192) (1200 * bk + k) l
/-- the told story lies in bank bk -/
def RepY (S : STY) (b : SC) (bk : Nat) : Prop :=
  bk < 2 ∧ b 166 12 = (bk : Int) ∧ b 168 bk = ((nR S : Nat) : Int) ∧ b 169 bk = S.1 0 1 ∧ b 170 bk = ((nW S : Nat) : Int) ∧ b 171 bk = ((nT S : Nat) : Int) ∧ b 173 bk = ((nL S : Nat) : Int) ∧ b 172 bk = ((nC S : Nat) : Int) ∧
  (∀ k, k < nR S → b 174 (8 * bk + k) = S.1 1 k) ∧ (∀ k, k < nW S → b 176 (8 * bk + k) = S.1 2 k) ∧ (∀ k, k < nT S → b 178 (8 * bk + k) = S.1 3 k) ∧
  (∀ r o, r < nR S → o < nR S → b 175 (64 * bk + 8 * r + o) = S.1 4 (8 * r + o)) ∧
  (∀ p, p < nW S → b 177 (8 * bk + p) = S.1 5 p) ∧ (∀ t, t < nT S → b 179 (8 * bk + t) = S.1 6 t) ∧
  (∀ k, k < nC S → b 180 (12 * bk + k) = S.1 7 k ∧ b 181 (12 * bk + k) = S.1 8 k ∧ b 182 (12 * bk + k) = S.1 9 k ∧ b 183 (12 * bk + k) = S.1 10 k) ∧
  (∀ r, r < nL S → b 184 (30 * bk + r) = S.1 11 r ∧ b 185 (30 * bk + r) = S.1 12 r ∧ b 186 (30 * bk + r) = S.1 13 r ∧ b 187 (30 * bk + r) = S.1 14 r ∧ SegM b bk (b 189 (30 * bk + r)) (b 190 (30 * bk + r)) (S.2 (2 * r + 1)) ∧ (S.1 11 r = 4 → SegM b bk (b 188 (30 * bk + r)) (b 189 (30 * bk + r)) (S.2 (2 * r))))
/-- what a told story keeps to -/
def WfY (S : STY) : Prop :=
  (nR S ≤ 8 ∧ S.1 0 0 = ((nR S : Nat) : Int)) ∧ (0 ≤ S.1 0 1 ∧ S.1 0 1 ≤ 16) ∧ (nW S ≤ 8 ∧ S.1 0 2 = ((nW S : Nat) : Int)) ∧ (nT S ≤ 8 ∧ S.1 0 3 = ((nT S : Nat) : Int)) ∧ (nL S ≤ 30 ∧ S.1 0 4 = ((nL S : Nat) : Int)) ∧ (nC S ≤ 12 ∧ S.1 0 5 = ((nC S : Nat) : Int)) ∧
  (∀ i, S.1 4 i = 0 ∨ S.1 4 i = 1) ∧ (∀ r o, r < 8 → o < 8 → S.1 4 (8 * r + o) = S.1 4 (8 * o + r)) ∧
  (∀ p, p < nW S → 0 ≤ S.1 5 p ∧ S.1 5 p < nR S) ∧ (∀ t, t < nT S → 0 ≤ S.1 6 t ∧ S.1 6 t < nR S) ∧
  (∀ k, k < nC S → (0 ≤ S.1 7 k ∧ S.1 7 k < nW S) ∧ (0 ≤ S.1 8 k ∧ S.1 8 k < nR S) ∧ (0 ≤ S.1 9 k ∧ S.1 9 k ≤ S.1 10 k ∧ S.1 10 k < 180)) ∧
  (∀ r, r < nL S → (0 ≤ S.1 11 r ∧ S.1 11 r ≤ 5) ∧ (0 ≤ S.1 12 r ∧ S.1 12 r < nW S) ∧ (S.1 11 r = 0 → 0 ≤ S.1 13 r ∧ S.1 13 r < nR S) ∧ (S.1 11 r = 1 ∨ S.1 11 r = 2 → 0 ≤ S.1 13 r ∧ S.1 13 r < nT S) ∧
    (S.1 11 r = 5 → 0 ≤ S.1 13 r ∧ S.1 13 r < nW S ∧ S.1 13 r ≠ S.1 12 r ∧ 0 ≤ S.1 14 r ∧ S.1 14 r < nT S) ∧
    (∀ q, q ∈ S.2 (2 * r + 1) → OkQ S q) ∧ tyL (S.2 (2 * r + 1)) [] = some [true] ∧ (S.1 11 r = 4 → (∀ q, q ∈ S.2 (2 * r) → OkQ S q) ∧ tyL (S.2 (2 * r)) [] = some [false]))
/-- what the reference writes of evening e -/
abbrev InE (e o i : Nat) : Prop := o = 213 ∨ o = 214 ∨ o = 215 ∨ o = 216 ∨ (o = 166 ∧ (i = 64 ∨ i = 65)) ∨ ((o = 202 ∨ o = 203 ∨ o = 204) ∧ i = e) ∨ ((o = 205 ∨ o = 206 ∨ o = 207 ∨ o = 208 ∨ o = 209) ∧ 1440 * e ≤ i ∧ i < 1440 * e + 1440) ∨ (o = 210 ∧ 96 * e ≤ i ∧ i < 96 * e + 96) ∨ (o = 211 ∧ 8640 * e ≤ i ∧ i < 8640 * e + 8640) ∨ (o = 212 ∧ 64 * e ≤ i ∧ i < 64 * e + 64)
def FrE (e : Nat) (b b' : SC) : Prop := ∀ o i, ¬ InE e o i → b' o i = b o i
theorem FrE.rf {e : Nat} {b : SC} : FrE e b b := fun _ _ _ => rfl
theorem FrE.tr {e : Nat} {b b' b'' : SC} (h : FrE e b b') (h' : FrE e b' b'') : FrE e b b'' := fun o i hn => (h' o i hn).trans (h o i hn)
theorem updC_sm {c : SC} {o i : Nat} {v : Int} : updC c o i v o i = v := by
  unfold updC
  simp
theorem updC_nt {c : SC} {o i o' i' : Nat} {v : Int} (h : ¬ (o' = o ∧ i' = i)) : updC c o i v o' i' = c o' i' := by
  have e : (Nat.beq o' o && Nat.beq i' i) = false := by
    cases h1 : Nat.beq o' o with
    | false => rfl
    | true =>
      cases h2 : Nat.beq i' i with
      | false => rfl
      | true => exact absurd ⟨Nat.eq_of_beq_eq_true h1, Nat.eq_of_beq_eq_true h2⟩ h
  unfold updC
  rw [e]
  rfl
theorem FrE.up {e : Nat} {b b' : SC} {o i : Nat} {v : Int} (h : FrE e b b') (hi : InE e o i) : FrE e b (updC b' o i v) := fun o' i' hn => by
  rw [updC_nt (fun hc => hn (by rw [hc.1, hc.2]; exact hi))]
  exact h o' i' hn
theorem FrE.row {e : Nat} {b b' : SC} (h : FrE e b b') {o : Nat} (h1 : 167 ≤ o) (h2 : o < 202) : b' o = b o := by
  funext i
  exact h o i (by unfold InE; omega)
theorem RepY.fr {S : STY} {b b' : SC} {bk e : Nat} (h : RepY S b bk) (hf : FrE e b b') : RepY S b' bk := by
  unfold RepY at h ⊢
  rw [hf.row (o := 168) (by omega) (by omega), hf.row (o := 169) (by omega) (by omega), hf.row (o := 170) (by omega) (by omega), hf.row (o := 171) (by omega) (by omega), hf.row (o := 172) (by omega) (by omega), hf.row (o := 173) (by omega) (by omega), hf.row (o := 174) (by omega) (by omega), hf.row (o := 175) (by omega) (by omega), hf.row (o := 176) (by omega) (by omega), hf.row (o := 177) (by omega) (by omega), hf.row (o := 178) (by omega) (by omega), hf.row (o := 179) (by omega) (by omega), hf.row (o := 180) (by omega) (by omega), hf.row (o := 181) (by omega) (by omega), hf.row (o := 182) (by omega) (by omega), hf.row (o := 183) (by omega) (by omega), hf.row (o := 184) (by omega) (by omega), hf.row (o := 185) (by omega) (by omega), hf.row (o := 186) (by omega) (by omega), hf.row (o := 187) (by omega) (by omega), hf.row (o := 188) (by omega) (by omega), hf.row (o := 189) (by omega) (by omega), hf.row (o := 190) (by omega) (by omega)]
  unfold SegM at h ⊢
  rw [hf.row (o := 191) (by omega) (by omega), hf.row (o := 192) (by omega) (by omega), hf 166 12 (by unfold InE; omega)]
  exact h
/-- the reference's scene of evening e -/
def SimM (S : STY) (c : SC) (b : SC) (e : Nat) : Prop :=
  (∀ p, p < nW S → b 213 p = c 0 p) ∧ (∀ p, p < 8 → b 214 p = c 1 p) ∧ (∀ t, t < nT S → b 215 t = c 2 t) ∧ (∀ p, p < 8 → b 216 p = c 3 p) ∧ (∀ i, i < 64 → b 212 (64 * e + i) = c 4 i) ∧
  b 166 65 = c 5 0 ∧ b 204 e = c 7 0 ∧ b 203 e = c 9 0 ∧ (∀ i, i < 6 * (c 7 0).toNat → b 211 (8640 * e + i) = c 6 i) ∧ (∀ i, i < 6 * (c 9 0).toNat → b 210 (96 * e + i) = c 8 i) ∧ b 166 64 = (e : Int) ∧ e < 2
theorem updC_if {c : SC} {o i j : Nat} {v : Int} : updC c o i v o j = if j = i then v else c o j := by
  by_cases h : j = i
  · rw [h, updC_sm, if_pos rfl]
  · rw [updC_nt (fun hc => h hc.2), if_neg h]
theorem SimM.place {S : STY} {c b : SC} {e p : Nat} {v : Int} (h : SimM S c b e) : SimM S (updC c 0 p v) (updC b 213 p v) e := by
  obtain ⟨h0, h1, h2, h3, h4, h5, h7, h9, h6, h8, he⟩ := h
  exact ⟨fun q hq => by rw [updC_if, updC_if, h0 q hq], h1, h2, h3, h4, h5, h7, h9, h6, h8, he⟩
theorem SimM.lives {S : STY} {c b : SC} {e p : Nat} {v : Int} (h : SimM S c b e) : SimM S (updC c 1 p v) (updC b 214 p v) e := by
  obtain ⟨h0, h1, h2, h3, h4, h5, h7, h9, h6, h8, he⟩ := h
  exact ⟨h0, fun q hq => by rw [updC_if, updC_if, h1 q hq], h2, h3, h4, h5, h7, h9, h6, h8, he⟩
theorem SimM.thing {S : STY} {c b : SC} {e p : Nat} {v : Int} (h : SimM S c b e) : SimM S (updC c 2 p v) (updC b 215 p v) e := by
  obtain ⟨h0, h1, h2, h3, h4, h5, h7, h9, h6, h8, he⟩ := h
  exact ⟨h0, h1, fun q hq => by rw [updC_if, updC_if, h2 q hq], h3, h4, h5, h7, h9, h6, h8, he⟩
theorem SimM.mood {S : STY} {c b : SC} {e p : Nat} {v : Int} (h : SimM S c b e) : SimM S (updC c 3 p v) (updC b 216 p v) e := by
  obtain ⟨h0, h1, h2, h3, h4, h5, h7, h9, h6, h8, he⟩ := h
  exact ⟨h0, h1, h2, fun q hq => by rw [updC_if, updC_if, h3 q hq], h4, h5, h7, h9, h6, h8, he⟩
theorem SimM.minute {S : STY} {c b : SC} {e : Nat} {v : Int} (h : SimM S c b e) : SimM S (updC c 5 0 v) (updC b 166 65 v) e := by
  obtain ⟨h0, h1, h2, h3, h4, h5, h7, h9, h6, h8, he⟩ := h
  exact ⟨h0, h1, h2, h3, h4, by rw [updC_sm, updC_sm], h7, h9, h6, h8, he⟩
/-- what is asked of a scene -/
def WfC (S : STY) (c : SC) : Prop :=
  (∀ p, p < nW S → 0 ≤ c 0 p ∧ c 0 p < nR S) ∧ (∀ p, c 1 p = 0 ∨ c 1 p = 1) ∧ (∀ t, t < nT S → (0 ≤ c 2 t ∧ c 2 t < nR S) ∨ (100 ≤ c 2 t ∧ c 2 t < 100 + nW S)) ∧ (∀ p, -1000000 ≤ c 3 p ∧ c 3 p ≤ 1000000) ∧ (∀ i, -1 ≤ c 4 i ∧ c 4 i < 180) ∧ (0 ≤ c 5 0 ∧ c 5 0 < 180) ∧
  (0 ≤ c 7 0 ∧ c 7 0 ≤ 8 * c 5 0 + 8) ∧ (0 ≤ c 9 0 ∧ c 9 0 ≤ 8)
theorem WfC.wfe {S : STY} {c : SC} (h : WfC S c) : WfE S c := ⟨fun p _ => h.2.2.2.1 p, h.2.2.2.2.2.1⟩
