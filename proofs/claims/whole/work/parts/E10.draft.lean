/-! THE REFERENCE READS: the story in the making, in bank j -/
abbrev fjM (j o i : Nat) : Prop := (168 ≤ o ∧ o ≤ 173 ∧ i = j) ∨ ((o = 174 ∨ (176 ≤ o ∧ o ≤ 179)) ∧ 8 * j ≤ i ∧ i < 8 * j + 8) ∨ (o = 175 ∧ 64 * j ≤ i ∧ i < 64 * j + 64) ∨ (180 ≤ o ∧ o ≤ 183 ∧ 12 * j ≤ i ∧ i < 12 * j + 12) ∨ (184 ≤ o ∧ o ≤ 190 ∧ 30 * j ≤ i ∧ i < 30 * j + 30) ∨ ((o = 191 ∨ o = 192) ∧ 1200 * j ≤ i ∧ i < 1200 * j + 1200) ∨ (193 ≤ o ∧ o ≤ 198)
/-- what changes but for the reader's own fields lies in P -/
def FrP (P : Nat → Nat → Prop) (b b' : SC) : Prop := ∀ o i, ¬ (o = 166 ∧ fxM i) → ¬ P o i → b' o i = b o i
theorem FrP.rf {P : Nat → Nat → Prop} {b : SC} : FrP P b b := fun _ _ _ _ => rfl
theorem FrP.tr {P : Nat → Nat → Prop} {b b' b'' : SC} (h : FrP P b b') (h' : FrP P b' b'') : FrP P b b'' := fun o i h1 h2 => (h' o i h1 h2).trans (h o i h1 h2)
theorem FrP.mo {P P' : Nat → Nat → Prop} {b b' : SC} (h : FrP P b b') (g : ∀ o i, P o i → P' o i) : FrP P' b b' := fun o i h1 h2 => h o i h1 (fun q => h2 (g o i q))
theorem FrP.up {P : Nat → Nat → Prop} {o i : Nat} {b b' : SC} {v : Int} (h : FrP P b b') (g : P o i ∨ (o = 166 ∧ fxM i)) : FrP P b (updC b' o i v) := fun o' i' h1 h2 => by
  rw [updC_nt (fun q => ?_)]
  · exact h o' i' h1 h2
  · obtain ⟨rfl, rfl⟩ := q
    rcases g with g | g
    · exact h2 g
    · exact h1 g
theorem FrP.fn {P : Nat → Nat → Prop} {b b' b'' : SC} (h : FrP P b b') (g : FrN b' b'') : FrP P b b'' := fun o i h1 h2 => (g o i (fun q => h1 ⟨q.1, Or.inl q.2⟩)).trans (h o i h1 h2)
theorem FrP.fR {P : Nat → Nat → Prop} {j c : Nat} {b b' b'' : SC} (h : FrP P b b') (g : FrR j c b' b'') (hp : ∀ o i, ((o = 191 ∨ o = 192) ∧ 1200 * j + c ≤ i ∧ i < 1200 * j + 1200) ∨ (193 ≤ o ∧ o ≤ 198) → P o i) : FrP P b b'' := fun o i h1 h2 => (g o i h1 (fun q => h2 (hp o i (Or.inl q))) (fun q => h2 (hp o i (Or.inr q)))).trans (h o i h1 h2)
abbrev FrJ (j : Nat) : SC → SC → Prop := FrP (fjM j)
/-- broken while a statement is read -/
abbrev BjM (W : TXT) (j : Nat) (b : SC) (e : PF) (b' : SC) : Prop := FrJ j b b' ∧ BaM W b' ∧ BrM e b'
theorem BaM.up {W : TXT} {o i : Nat} {b : SC} {v : Int} (h : BaM W b) (g : ¬ (o = 166 ∧ i = 2) ∧ o ≠ 167) : BaM W (updC b o i v) := h.fo (by funext x; exact updC_nt (by omega)) (updC_nt (by omega))
theorem BrM.up {e : PF} {o i : Nat} {b : SC} {v : Int} (h : BrM e b) (g : ¬ (o = 166 ∧ (i = 8 ∨ i = 9))) : BrM e (updC b o i v) := ⟨h.1, (updC_nt (by omega)).trans h.2.1, (updC_nt (by omega)).trans h.2.2⟩
theorem BjM.up {W : TXT} {j o i : Nat} {b b' : SC} {e : PF} {v : Int} (h : BjM W j b e b') (g : fjM j o i ∧ 168 ≤ o) : BjM W j b e (updC b' o i v) := ⟨h.1.up (Or.inl g.1), h.2.1.up (by omega), h.2.2.up (by omega)⟩
theorem NmM.up {N b : SC} {j o i : Nat} {v : Int} (h : NmM N b j) (g : ¬ (o = 166 ∧ i = 39)) (gc : ¬ ((o = 168 ∨ o = 170 ∨ o = 171) ∧ i = j)) (g0 : ¬ (o = 174 ∧ i < 8 * j + cntN N 0)) (g1 : ¬ (o = 176 ∧ i < 8 * j + cntN N 1)) (g2 : ¬ (o = 178 ∧ i < 8 * j + cntN N 2)) : NmM N (updC b o i v) j := by
  obtain ⟨h1, h2, h3⟩ := h
  refine ⟨h1, (updC_nt (by omega)).trans h2, fun kd hk => ?_⟩
  obtain ⟨q1, q2, q3⟩ := h3 kd hk
  rcases (show kd = 0 ∨ kd = 1 ∨ kd = 2 by omega) with rfl | rfl | rfl
  · exact ⟨q1, (updC_nt (by show ¬ (168 = o ∧ _); omega)).trans q2, fun k hk => (updC_nt (by show ¬ (174 = o ∧ _); omega)).trans (q3 k hk)⟩
  · exact ⟨q1, (updC_nt (by show ¬ (170 = o ∧ _); omega)).trans q2, fun k hk => (updC_nt (by show ¬ (176 = o ∧ _); omega)).trans (q3 k hk)⟩
  · exact ⟨q1, (updC_nt (by show ¬ (171 = o ∧ _); omega)).trans q2, fun k hk => (updC_nt (by show ¬ (178 = o ∧ _); omega)).trans (q3 k hk)⟩
/-- a stretch of code below c -/
abbrev SegQ (b : SC) (j c : Nat) (f t : Int) (l : List (Nat × Nat)) : Prop := ∃ k : Nat, f = (k : Int) ∧ t = ((k + l.length : Nat) : Int) ∧ k + l.length ≤ c ∧ codM (b 191) (b 192) (1200 * j + k) l
theorem SegQ.mv {b b' : SC} {j c c' : Nat} {f t : Int} {l : List (Nat × Nat)} (h : SegQ b j c f t l) (hf : ∀ o i, (o = 191 ∨ o = 192) → 1200 * j ≤ i → i < 1200 * j + c → b' o i = b o i) (hc : c ≤ c') : SegQ b' j c' f t l := by
  obtain ⟨k, h1, h2, h3, h4⟩ := h
  exact ⟨k, h1, h2, by omega, codM_cg l _ (fun i h5 h6 => ⟨hf 191 i (by omega) (by omega) (by omega), hf 192 i (by omega) (by omega) (by omega)⟩) h4⟩
def RqM (S : STY) (b : SC) (j c : Nat) : Prop :=
  (j < 2 ∧ b 166 39 = (j : Int) ∧ b 166 38 = (c : Int)) ∧ (b 168 j = ((nR S : Nat) : Int) ∧ b 169 j = S.1 0 1 ∧ b 170 j = ((nW S : Nat) : Int) ∧ b 171 j = ((nT S : Nat) : Int) ∧ b 173 j = ((nL S : Nat) : Int) ∧ b 172 j = ((nC S : Nat) : Int)) ∧
  (∀ k, k < nR S → b 174 (8 * j + k) = S.1 1 k) ∧ (∀ k, k < nW S → b 176 (8 * j + k) = S.1 2 k) ∧ (∀ k, k < nT S → b 178 (8 * j + k) = S.1 3 k) ∧
  (∀ r o, r < nR S → o < nR S → b 175 (64 * j + 8 * r + o) = S.1 4 (8 * r + o)) ∧
  (∀ p, p < nW S → b 177 (8 * j + p) = S.1 5 p) ∧ (∀ t, t < nT S → b 179 (8 * j + t) = S.1 6 t) ∧
  (∀ k, k < nC S → b 180 (12 * j + k) = S.1 7 k ∧ b 181 (12 * j + k) = S.1 8 k ∧ b 182 (12 * j + k) = S.1 9 k ∧ b 183 (12 * j + k) = S.1 10 k) ∧
  (∀ r, r < nL S → b 184 (30 * j + r) = S.1 11 r ∧ b 185 (30 * j + r) = S.1 12 r ∧ b 186 (30 * j + r) = S.1 13 r ∧ b 187 (30 * j + r) = S.1 14 r ∧ SegQ b j c (b 189 (30 * j + r)) (b 190 (30 * j + r)) (S.2 (2 * r + 1)) ∧ (S.1 11 r = 4 → SegQ b j c (b 188 (30 * j + r)) (b 189 (30 * j + r)) (S.2 (2 * r))))
theorem RqM.nm {S : STY} {b : SC} {j c : Nat} (h : RqM S b j c) (hW : WfY S) : NmM S.1 b j := by
  obtain ⟨⟨h1, h2, h3⟩, ⟨k0, k1, k2, k3, k4, k5⟩, n0, n1, n2, -⟩ := h
  refine ⟨h1, h2, fun kd hk => ?_⟩
  rcases (show kd = 0 ∨ kd = 1 ∨ kd = 2 by omega) with rfl | rfl | rfl
  · exact ⟨hW.1.1, k0, n0⟩
  · exact ⟨hW.2.2.1.1, k2, n1⟩
  · exact ⟨hW.2.2.2.1.1, k3, n2⟩
theorem SegQ.sg {b : SC} {j c : Nat} {f t : Int} {l : List (Nat × Nat)} (h : SegQ b j c f t l) (hc : c ≤ 1200) : SegM b j f t l := by
  obtain ⟨k, h1, h2, h3, h4⟩ := h
  exact ⟨k, h1, h2, by omega, h4⟩
theorem RqM.ry {S : STY} {b b' : SC} {j c : Nat} (h : RqM S b j c) (hc : c ≤ 1200) (e12 : b' 166 12 = (j : Int)) (hf : ∀ o, 168 ≤ o → o ≤ 192 → b' o = b o) : RepY S b' j := by
  obtain ⟨⟨h1, h2, h3⟩, ⟨k0, k1, k2, k3, k4, k5⟩, n0, n1, n2, n3, n4, n5, n6, n7⟩ := h
  unfold RepY SegM
  rw [hf 168 (by omega) (by omega), hf 169 (by omega) (by omega), hf 170 (by omega) (by omega), hf 171 (by omega) (by omega), hf 172 (by omega) (by omega), hf 173 (by omega) (by omega), hf 174 (by omega) (by omega), hf 175 (by omega) (by omega), hf 176 (by omega) (by omega), hf 177 (by omega) (by omega), hf 178 (by omega) (by omega), hf 179 (by omega) (by omega), hf 180 (by omega) (by omega), hf 181 (by omega) (by omega), hf 182 (by omega) (by omega), hf 183 (by omega) (by omega), hf 184 (by omega) (by omega), hf 185 (by omega) (by omega), hf 186 (by omega) (by omega), hf 187 (by omega) (by omega), hf 188 (by omega) (by omega), hf 189 (by omega) (by omega), hf 190 (by omega) (by omega), hf 191 (by omega) (by omega), hf 192 (by omega) (by omega)]
  exact ⟨h1, e12, k0, k1, k2, k3, k4, k5, n0, n1, n2, n3, n4, n5, n6, fun r hr => ⟨(n7 r hr).1, (n7 r hr).2.1, (n7 r hr).2.2.1, (n7 r hr).2.2.2.1, (n7 r hr).2.2.2.2.1.sg hc, fun h => ((n7 r hr).2.2.2.2.2 h).sg hc⟩⟩
abbrev chR (j n o i : Nat) : Prop := (o = 168 ∧ i = j) ∨ (o = 174 ∧ i = 8 * j + n) ∨ (o = 175 ∧ 64 * j ≤ i ∧ i < 64 * j + 64 ∧ ((i - 64 * j) / 8 = n ∨ (i - 64 * j) % 8 = n))
theorem RqM.room {S : STY} {b b' : SC} {j c n : Nat} (h : RqM S b j c) {w : Nat} (hn : S.1 0 0 = (n : Int)) (h8 : n < 8) (hD : WfD S) (v0 : b' 168 j = (n : Int) + 1) (v1 : b' 174 (8 * j + n) = (w : Int)) (v2 : ∀ k, k < 8 → b' 175 (64 * j + 8 * n + k) = 0 ∧ b' 175 (64 * j + 8 * k + n) = 0) (hb : FrP (chR j n) b b') (e38 : b' 166 38 = (c : Int)) : RqM (incN (updC S.1 1 n w) 0, S.2) b' j c := by
  obtain ⟨⟨h1, h2, h3⟩, ⟨k0, k1, k2, k3, k4, k5⟩, n0, n1, n2, n3, n4, n5, n6, n7⟩ := h
  have hnR : nR S = n := by show (S.1 0 0).toNat = n; rw [hn]; exact Int.toNat_natCast n
  have hn' : nR (incN (updC S.1 1 n (w : Int)) 0, S.2) = n + 1 := by
    show (incN (updC S.1 1 n (w : Int)) 0 0 0).toNat = n + 1
    rw [show incN (updC S.1 1 n (w : Int)) 0 0 0 = (n : Int) + 1 from updC_sm.trans (by rw [updC_nt (by omega), hn])]
    omega
  refine ⟨⟨h1, (hb 166 39 (by omega) (by omega)).trans h2, e38⟩, ⟨(by rw [v0, hn']; omega), (hb 169 j (by omega) (by omega)).trans k1, (hb 170 j (by omega) (by omega)).trans k2, (hb 171 j (by omega) (by omega)).trans k3, (hb 173 j (by omega) (by omega)).trans k4, (hb 172 j (by omega) (by omega)).trans k5⟩, ?_, (fun k hk => (hb 176 (8 * j + k) (by omega) (by omega)).trans (n1 k hk)), (fun k hk => (hb 178 (8 * j + k) (by omega) (by omega)).trans (n2 k hk)), ?_, (fun k hk => (hb 177 (8 * j + k) (by omega) (by omega)).trans (n4 k hk)), (fun k hk => (hb 179 (8 * j + k) (by omega) (by omega)).trans (n5 k hk)), (fun k hk => ⟨(hb 180 (12 * j + k) (by omega) (by omega)).trans (n6 k hk).1, (hb 181 (12 * j + k) (by omega) (by omega)).trans (n6 k hk).2.1, (hb 182 (12 * j + k) (by omega) (by omega)).trans (n6 k hk).2.2.1, (hb 183 (12 * j + k) (by omega) (by omega)).trans (n6 k hk).2.2.2⟩), (fun r hr => by
    have hr : r < nL S := hr
    obtain ⟨r1, r2, r3, r4, r5, r6⟩ := n7 r hr
    have hcd : ∀ o i, (o = 191 ∨ o = 192) → 1200 * j ≤ i → i < 1200 * j + c → b' o i = b o i := fun o i h1 h2 h3 => hb o i (by omega) (by omega)
    refine ⟨(hb 184 (30 * j + r) (by omega) (by omega)).trans r1, (hb 185 (30 * j + r) (by omega) (by omega)).trans r2, (hb 186 (30 * j + r) (by omega) (by omega)).trans r3, (hb 187 (30 * j + r) (by omega) (by omega)).trans r4, ?_, fun h => ?_⟩
    · rw [hb 189 (30 * j + r) (by omega) (by omega), hb 190 (30 * j + r) (by omega) (by omega)]
      exact r5.mv hcd (Nat.le_refl _)
    · rw [hb 188 (30 * j + r) (by omega) (by omega), hb 189 (30 * j + r) (by omega) (by omega)]
      exact (r6 h).mv hcd (Nat.le_refl _))⟩
  · intro k hk
    have hk : k < n + 1 := by have e := hn'; omega
    by_cases hkn : k = n
    · rw [hkn, v1]
      exact (by unfold incN; dsimp only; rw [updC_nt (by omega), updC_sm])
    · rw [hb 174 (8 * j + k) (by omega) (by omega), n0 k (by omega)]
      exact (by unfold incN; dsimp only; rw [updC_nt (by omega), updC_nt (by omega)])
  · intro r o hr ho
    have hr : r < n + 1 := by have e := hn'; omega
    have ho : o < n + 1 := by have e := hn'; omega
    have e4 : (incN (updC S.1 1 n (w : Int)) 0, S.2).1 4 (8 * r + o) = S.1 4 (8 * r + o) := by unfold incN; dsimp only; rw [updC_nt (by omega), updC_nt (by omega)]
    rw [e4]
    by_cases hrn : r = n
    · have hz : S.1 4 (8 * r + o) = 0 := Classical.byContradiction (fun g => by have := (hD r o (by omega) (by omega) g).1; omega)
      rw [hz, hrn]
      exact (v2 o (by omega)).1
    · by_cases hon : o = n
      · have hz : S.1 4 (8 * r + o) = 0 := Classical.byContradiction (fun g => by have := (hD r o (by omega) (by omega) g).2.1; omega)
        rw [hz, hon]
        exact (v2 r (by omega)).2
      · rw [hb 175 (64 * j + 8 * r + o) (by omega) (by omega)]
        exact n3 r o (by omega) (by omega)
abbrev chWho (j n o i : Nat) : Prop := (o = 170 ∧ i = j) ∨ ((o = 176 ∨ o = 177) ∧ i = 8 * j + n)
theorem RqM.who {S : STY} {b b' : SC} {j c n : Nat} (h : RqM S b j c) {w v : Nat} (hn : S.1 0 2 = (n : Int)) (v0 : b' 170 j = (n : Int) + 1) (v1 : b' 176 (8 * j + n) = (w : Int)) (v2 : b' 177 (8 * j + n) = (v : Int)) (hb : FrP (chWho j n) b b') (e38 : b' 166 38 = (c : Int)) : RqM (incN (updC (updC S.1 2 n w) 5 n v) 2, S.2) b' j c := by
  obtain ⟨⟨h1, h2, h3⟩, ⟨k0, k1, k2, k3, k4, k5⟩, n0, n1, n2, n3, n4, n5, n6, n7⟩ := h
  have hnR : nW S = n := by show (S.1 0 2).toNat = n; rw [hn]; exact Int.toNat_natCast n
  have hn' : nW (incN (updC (updC S.1 2 n (w : Int)) 5 n (v : Int)) 2, S.2) = n + 1 := by
    show (incN (updC (updC S.1 2 n (w : Int)) 5 n (v : Int)) 2 0 2).toNat = n + 1
    rw [show incN (updC (updC S.1 2 n (w : Int)) 5 n (v : Int)) 2 0 2 = (n : Int) + 1 from updC_sm.trans (by rw [updC_nt (by omega), updC_nt (by omega), hn])]
    omega
  refine ⟨⟨h1, (hb 166 39 (by omega) (by omega)).trans h2, e38⟩, ⟨(hb 168 j (by omega) (by omega)).trans k0, (hb 169 j (by omega) (by omega)).trans k1, (by rw [v0, hn']; omega), (hb 171 j (by omega) (by omega)).trans k3, (hb 173 j (by omega) (by omega)).trans k4, (hb 172 j (by omega) (by omega)).trans k5⟩, (fun k hk => (hb 174 (8 * j + k) (by omega) (by omega)).trans (n0 k hk)), ?_, (fun k hk => (hb 178 (8 * j + k) (by omega) (by omega)).trans (n2 k hk)), (fun r o hr ho => (hb 175 (64 * j + 8 * r + o) (by omega) (by omega)).trans (n3 r o hr ho)), ?_, (fun k hk => (hb 179 (8 * j + k) (by omega) (by omega)).trans (n5 k hk)), (fun k hk => ⟨(hb 180 (12 * j + k) (by omega) (by omega)).trans (n6 k hk).1, (hb 181 (12 * j + k) (by omega) (by omega)).trans (n6 k hk).2.1, (hb 182 (12 * j + k) (by omega) (by omega)).trans (n6 k hk).2.2.1, (hb 183 (12 * j + k) (by omega) (by omega)).trans (n6 k hk).2.2.2⟩), (fun r hr => by
    have hr : r < nL S := hr
    obtain ⟨r1, r2, r3, r4, r5, r6⟩ := n7 r hr
    have hcd : ∀ o i, (o = 191 ∨ o = 192) → 1200 * j ≤ i → i < 1200 * j + c → b' o i = b o i := fun o i h1 h2 h3 => hb o i (by omega) (by omega)
    refine ⟨(hb 184 (30 * j + r) (by omega) (by omega)).trans r1, (hb 185 (30 * j + r) (by omega) (by omega)).trans r2, (hb 186 (30 * j + r) (by omega) (by omega)).trans r3, (hb 187 (30 * j + r) (by omega) (by omega)).trans r4, ?_, fun h => ?_⟩
    · rw [hb 189 (30 * j + r) (by omega) (by omega), hb 190 (30 * j + r) (by omega) (by omega)]
      exact r5.mv hcd (Nat.le_refl _)
    · rw [hb 188 (30 * j + r) (by omega) (by omega), hb 189 (30 * j + r) (by omega) (by omega)]
      exact (r6 h).mv hcd (Nat.le_refl _))⟩
  · intro k hk
    have hk : k < n + 1 := by have e := hn'; omega
    by_cases hkn : k = n
    · rw [hkn, v1]
      exact (by unfold incN; dsimp only; rw [updC_nt (by omega), updC_nt (by omega), updC_sm])
    · rw [hb 176 (8 * j + k) (by omega) (by omega), n1 k (by omega)]
      exact (by unfold incN; dsimp only; rw [updC_nt (by omega), updC_nt (by omega), updC_nt (by omega)])
  · intro k hk
    have hk : k < n + 1 := by have e := hn'; omega
    by_cases hkn : k = n
    · rw [hkn, v2]
      exact (by unfold incN; dsimp only; rw [updC_nt (by omega), updC_sm])
    · rw [hb 177 (8 * j + k) (by omega) (by omega), n4 k (by omega)]
      exact (by unfold incN; dsimp only; rw [updC_nt (by omega), updC_nt (by omega), updC_nt (by omega)])
abbrev chThing (j n o i : Nat) : Prop := (o = 171 ∧ i = j) ∨ ((o = 178 ∨ o = 179) ∧ i = 8 * j + n)
theorem RqM.thing {S : STY} {b b' : SC} {j c n : Nat} (h : RqM S b j c) {w v : Nat} (hn : S.1 0 3 = (n : Int)) (v0 : b' 171 j = (n : Int) + 1) (v1 : b' 178 (8 * j + n) = (w : Int)) (v2 : b' 179 (8 * j + n) = (v : Int)) (hb : FrP (chThing j n) b b') (e38 : b' 166 38 = (c : Int)) : RqM (incN (updC (updC S.1 3 n w) 6 n v) 3, S.2) b' j c := by
  obtain ⟨⟨h1, h2, h3⟩, ⟨k0, k1, k2, k3, k4, k5⟩, n0, n1, n2, n3, n4, n5, n6, n7⟩ := h
  have hnR : nT S = n := by show (S.1 0 3).toNat = n; rw [hn]; exact Int.toNat_natCast n
  have hn' : nT (incN (updC (updC S.1 3 n (w : Int)) 6 n (v : Int)) 3, S.2) = n + 1 := by
    show (incN (updC (updC S.1 3 n (w : Int)) 6 n (v : Int)) 3 0 3).toNat = n + 1
    rw [show incN (updC (updC S.1 3 n (w : Int)) 6 n (v : Int)) 3 0 3 = (n : Int) + 1 from updC_sm.trans (by rw [updC_nt (by omega), updC_nt (by omega), hn])]
    omega
  refine ⟨⟨h1, (hb 166 39 (by omega) (by omega)).trans h2, e38⟩, ⟨(hb 168 j (by omega) (by omega)).trans k0, (hb 169 j (by omega) (by omega)).trans k1, (hb 170 j (by omega) (by omega)).trans k2, (by rw [v0, hn']; omega), (hb 173 j (by omega) (by omega)).trans k4, (hb 172 j (by omega) (by omega)).trans k5⟩, (fun k hk => (hb 174 (8 * j + k) (by omega) (by omega)).trans (n0 k hk)), (fun k hk => (hb 176 (8 * j + k) (by omega) (by omega)).trans (n1 k hk)), ?_, (fun r o hr ho => (hb 175 (64 * j + 8 * r + o) (by omega) (by omega)).trans (n3 r o hr ho)), (fun k hk => (hb 177 (8 * j + k) (by omega) (by omega)).trans (n4 k hk)), ?_, (fun k hk => ⟨(hb 180 (12 * j + k) (by omega) (by omega)).trans (n6 k hk).1, (hb 181 (12 * j + k) (by omega) (by omega)).trans (n6 k hk).2.1, (hb 182 (12 * j + k) (by omega) (by omega)).trans (n6 k hk).2.2.1, (hb 183 (12 * j + k) (by omega) (by omega)).trans (n6 k hk).2.2.2⟩), (fun r hr => by
    have hr : r < nL S := hr
    obtain ⟨r1, r2, r3, r4, r5, r6⟩ := n7 r hr
    have hcd : ∀ o i, (o = 191 ∨ o = 192) → 1200 * j ≤ i → i < 1200 * j + c → b' o i = b o i := fun o i h1 h2 h3 => hb o i (by omega) (by omega)
    refine ⟨(hb 184 (30 * j + r) (by omega) (by omega)).trans r1, (hb 185 (30 * j + r) (by omega) (by omega)).trans r2, (hb 186 (30 * j + r) (by omega) (by omega)).trans r3, (hb 187 (30 * j + r) (by omega) (by omega)).trans r4, ?_, fun h => ?_⟩
    · rw [hb 189 (30 * j + r) (by omega) (by omega), hb 190 (30 * j + r) (by omega) (by omega)]
      exact r5.mv hcd (Nat.le_refl _)
    · rw [hb 188 (30 * j + r) (by omega) (by omega), hb 189 (30 * j + r) (by omega) (by omega)]
      exact (r6 h).mv hcd (Nat.le_refl _))⟩
  · intro k hk
    have hk : k < n + 1 := by have e := hn'; omega
    by_cases hkn : k = n
    · rw [hkn, v1]
      exact (by unfold incN; dsimp only; rw [updC_nt (by omega), updC_nt (by omega), updC_sm])
    · rw [hb 178 (8 * j + k) (by omega) (by omega), n2 k (by omega)]
      exact (by unfold incN; dsimp only; rw [updC_nt (by omega), updC_nt (by omega), updC_nt (by omega)])
  · intro k hk
    have hk : k < n + 1 := by have e := hn'; omega
    by_cases hkn : k = n
    · rw [hkn, v2]
      exact (by unfold incN; dsimp only; rw [updC_nt (by omega), updC_sm])
    · rw [hb 179 (8 * j + k) (by omega) (by omega), n5 k (by omega)]
      exact (by unfold incN; dsimp only; rw [updC_nt (by omega), updC_nt (by omega), updC_nt (by omega)])
abbrev chD (j n o i : Nat) : Prop := (o = 169 ∧ i = j) ∨ (o = 175 ∧ 64 * j ≤ i ∧ i < 64 * j + 64 ∧ n = n)
theorem RqM.door {S : STY} {b b' : SC} {j c n : Nat} (h : RqM S b j c) {x y : Nat} (hn : S.1 0 1 = (n : Int)) (hx : x < nR S) (hy : y < nR S) (h8 : nR S ≤ 8) (v0 : b' 169 j = (n : Int) + 1) (v1 : ∀ i, i < 64 → b' 175 (64 * j + i) = if i = 8 * y + x then 1 else if i = 8 * x + y then 1 else b 175 (64 * j + i)) (hb : FrP (chD j n) b b') (e38 : b' 166 38 = (c : Int)) : RqM (incN (updC (updC S.1 4 (8 * x + y) 1) 4 (8 * y + x) 1) 1, S.2) b' j c := by
  obtain ⟨⟨h1, h2, h3⟩, ⟨k0, k1, k2, k3, k4, k5⟩, n0, n1, n2, n3, n4, n5, n6, n7⟩ := h
  refine ⟨⟨h1, (hb 166 39 (by omega) (by omega)).trans h2, e38⟩, ⟨(hb 168 j (by omega) (by omega)).trans k0, (by rw [v0]; unfold incN; dsimp only; rw [updC_sm, updC_nt (by omega), updC_nt (by omega), hn]), (hb 170 j (by omega) (by omega)).trans k2, (hb 171 j (by omega) (by omega)).trans k3, (hb 173 j (by omega) (by omega)).trans k4, (hb 172 j (by omega) (by omega)).trans k5⟩, (fun k hk => (hb 174 (8 * j + k) (by omega) (by omega)).trans (n0 k hk)), (fun k hk => (hb 176 (8 * j + k) (by omega) (by omega)).trans (n1 k hk)), (fun k hk => (hb 178 (8 * j + k) (by omega) (by omega)).trans (n2 k hk)), ?_, (fun k hk => (hb 177 (8 * j + k) (by omega) (by omega)).trans (n4 k hk)), (fun k hk => (hb 179 (8 * j + k) (by omega) (by omega)).trans (n5 k hk)), (fun k hk => ⟨(hb 180 (12 * j + k) (by omega) (by omega)).trans (n6 k hk).1, (hb 181 (12 * j + k) (by omega) (by omega)).trans (n6 k hk).2.1, (hb 182 (12 * j + k) (by omega) (by omega)).trans (n6 k hk).2.2.1, (hb 183 (12 * j + k) (by omega) (by omega)).trans (n6 k hk).2.2.2⟩), (fun r hr => by
    have hr : r < nL S := hr
    obtain ⟨r1, r2, r3, r4, r5, r6⟩ := n7 r hr
    have hcd : ∀ o i, (o = 191 ∨ o = 192) → 1200 * j ≤ i → i < 1200 * j + c → b' o i = b o i := fun o i h1 h2 h3 => hb o i (by omega) (by omega)
    refine ⟨(hb 184 (30 * j + r) (by omega) (by omega)).trans r1, (hb 185 (30 * j + r) (by omega) (by omega)).trans r2, (hb 186 (30 * j + r) (by omega) (by omega)).trans r3, (hb 187 (30 * j + r) (by omega) (by omega)).trans r4, ?_, fun h => ?_⟩
    · rw [hb 189 (30 * j + r) (by omega) (by omega), hb 190 (30 * j + r) (by omega) (by omega)]
      exact r5.mv hcd (Nat.le_refl _)
    · rw [hb 188 (30 * j + r) (by omega) (by omega), hb 189 (30 * j + r) (by omega) (by omega)]
      exact (r6 h).mv hcd (Nat.le_refl _))⟩
  · intro r o hr ho
    have hr : r < nR S := hr
    have ho : o < nR S := ho
    rw [show 64 * j + 8 * r + o = 64 * j + (8 * r + o) by omega, v1 (8 * r + o) (by omega), ← show 64 * j + 8 * r + o = 64 * j + (8 * r + o) by omega, n3 r o hr ho]
    unfold incN
    dsimp only
    rw [updC_nt (by omega), updC_if, updC_if]
abbrev chS (j n o i : Nat) : Prop := (o = 172 ∧ i = j) ∨ ((o = 180 ∨ o = 181 ∨ o = 182 ∨ o = 183) ∧ i = 12 * j + n)
theorem RqM.say {S : STY} {b b' : SC} {j c n : Nat} (h : RqM S b j c) {w x y v : Nat} (hn : S.1 0 5 = (n : Int)) (v0 : b' 172 j = (n : Int) + 1) (v1 : b' 180 (12 * j + n) = (w : Int)) (v2 : b' 181 (12 * j + n) = (x : Int)) (v3 : b' 182 (12 * j + n) = (y : Int)) (v4 : b' 183 (12 * j + n) = (v : Int)) (hb : FrP (chS j n) b b') (e38 : b' 166 38 = (c : Int)) : RqM (incN (updC (updC (updC (updC S.1 7 n w) 8 n x) 9 n y) 10 n v) 5, S.2) b' j c := by
  obtain ⟨⟨h1, h2, h3⟩, ⟨k0, k1, k2, k3, k4, k5⟩, n0, n1, n2, n3, n4, n5, n6, n7⟩ := h
  have hnR : nC S = n := by show (S.1 0 5).toNat = n; rw [hn]; exact Int.toNat_natCast n
  have hn' : nC (incN (updC (updC (updC (updC S.1 7 n (w : Int)) 8 n (x : Int)) 9 n (y : Int)) 10 n (v : Int)) 5, S.2) = n + 1 := by
    show ((incN (updC (updC (updC (updC S.1 7 n (w : Int)) 8 n (x : Int)) 9 n (y : Int)) 10 n (v : Int)) 5) 0 5).toNat = n + 1
    rw [show (incN (updC (updC (updC (updC S.1 7 n (w : Int)) 8 n (x : Int)) 9 n (y : Int)) 10 n (v : Int)) 5) 0 5 = (n : Int) + 1 from updC_sm.trans (by rw [updC_nt (by omega), updC_nt (by omega), updC_nt (by omega), updC_nt (by omega), hn])]
    omega
  refine ⟨⟨h1, (hb 166 39 (by omega) (by omega)).trans h2, e38⟩, ⟨(hb 168 j (by omega) (by omega)).trans k0, (hb 169 j (by omega) (by omega)).trans k1, (hb 170 j (by omega) (by omega)).trans k2, (hb 171 j (by omega) (by omega)).trans k3, (hb 173 j (by omega) (by omega)).trans k4, (by rw [v0, hn']; omega)⟩, (fun k hk => (hb 174 (8 * j + k) (by omega) (by omega)).trans (n0 k hk)), (fun k hk => (hb 176 (8 * j + k) (by omega) (by omega)).trans (n1 k hk)), (fun k hk => (hb 178 (8 * j + k) (by omega) (by omega)).trans (n2 k hk)), (fun r o hr ho => (hb 175 (64 * j + 8 * r + o) (by omega) (by omega)).trans (n3 r o hr ho)), (fun k hk => (hb 177 (8 * j + k) (by omega) (by omega)).trans (n4 k hk)), (fun k hk => (hb 179 (8 * j + k) (by omega) (by omega)).trans (n5 k hk)), ?_, (fun r hr => by
    have hr : r < nL S := hr
    obtain ⟨r1, r2, r3, r4, r5, r6⟩ := n7 r hr
    have hcd : ∀ o i, (o = 191 ∨ o = 192) → 1200 * j ≤ i → i < 1200 * j + c → b' o i = b o i := fun o i h1 h2 h3 => hb o i (by omega) (by omega)
    refine ⟨(hb 184 (30 * j + r) (by omega) (by omega)).trans r1, (hb 185 (30 * j + r) (by omega) (by omega)).trans r2, (hb 186 (30 * j + r) (by omega) (by omega)).trans r3, (hb 187 (30 * j + r) (by omega) (by omega)).trans r4, ?_, fun h => ?_⟩
    · rw [hb 189 (30 * j + r) (by omega) (by omega), hb 190 (30 * j + r) (by omega) (by omega)]
      exact r5.mv hcd (Nat.le_refl _)
    · rw [hb 188 (30 * j + r) (by omega) (by omega), hb 189 (30 * j + r) (by omega) (by omega)]
      exact (r6 h).mv hcd (Nat.le_refl _))⟩
  · intro k hk
    have hk : k < n + 1 := by have e := hn'; omega
    by_cases hkn : k = n
    · rw [hkn, v1, v2, v3, v4]
      exact ⟨by unfold incN; dsimp only; rw [updC_nt (by omega), updC_nt (by omega), updC_nt (by omega), updC_nt (by omega), updC_sm], by unfold incN; dsimp only; rw [updC_nt (by omega), updC_nt (by omega), updC_nt (by omega), updC_sm], by unfold incN; dsimp only; rw [updC_nt (by omega), updC_nt (by omega), updC_sm], by unfold incN; dsimp only; rw [updC_nt (by omega), updC_sm]⟩
    · obtain ⟨r1, r2, r3, r4⟩ := n6 k (by omega)
      rw [hb 180 (12 * j + k) (by omega) (by omega), hb 181 (12 * j + k) (by omega) (by omega), hb 182 (12 * j + k) (by omega) (by omega), hb 183 (12 * j + k) (by omega) (by omega), r1, r2, r3, r4]
      have e : ∀ t, 0 < t → (incN (updC (updC (updC (updC S.1 7 n (w : Int)) 8 n (x : Int)) 9 n (y : Int)) 10 n (v : Int)) 5) t k = S.1 t k := fun t ht => (updC_nt (by omega)).trans ((updC_nt (by omega)).trans ((updC_nt (by omega)).trans ((updC_nt (by omega)).trans (updC_nt (by omega)))))
      exact ⟨(e 7 (by omega)).symm, (e 8 (by omega)).symm, (e 9 (by omega)).symm, (e 10 (by omega)).symm⟩
abbrev chL (j n o i : Nat) : Prop := (o = 173 ∧ i = j) ∨ (184 ≤ o ∧ o ≤ 190 ∧ i = 30 * j + n)
/-- .. and code from c on -/
abbrev chLc (j n c o i : Nat) : Prop := chL j n o i ∨ ((o = 191 ∨ o = 192) ∧ 1200 * j + c ≤ i ∧ i < 1200 * j + 1200) ∨ (193 ≤ o ∧ o ≤ 198)
theorem RqM.rule {S : STY} {b b' : SC} {j c c' n kd i : Nat} {x t : Int} {l1 l2 : List (Nat × Nat)} (h : RqM S b j c) (hn : nL S = n ∧ S.1 0 4 = (n : Int)) (hb : FrP (chLc j n c) b b') (e38 : b' 166 38 = (c' : Int)) (hcc : c ≤ c') (v0 : b' 173 j = (n : Int) + 1) (v1 : b' 184 (30 * j + n) = (kd : Int)) (v2 : b' 185 (30 * j + n) = (i : Int)) (v3 : b' 186 (30 * j + n) = x) (v4 : b' 187 (30 * j + n) = t) (v5 : SegQ b' j c' (b' 189 (30 * j + n)) (b' 190 (30 * j + n)) l2) (v6 : kd = 4 → SegQ b' j c' (b' 188 (30 * j + n)) (b' 189 (30 * j + n)) l1) : RqM (rulS S kd i x t l1 l2) b' j c' := by
  obtain ⟨⟨h1, h2, h3⟩, ⟨k0, k1, k2, k3, k4, k5⟩, n0, n1, n2, n3, n4, n5, n6, n7⟩ := h
  obtain ⟨hnL, hn⟩ := hn
  have e0 : ∀ q, q ≠ 4 → (rulS S kd i x t l1 l2).1 0 q = S.1 0 q := fun q hq => (updC_nt (by omega)).trans ((updC_nt (by omega)).trans ((updC_nt (by omega)).trans ((updC_nt (by omega)).trans (updC_nt (by omega)))))
  have et : ∀ q k, 0 < q → q ≤ 10 → (rulS S kd i x t l1 l2).1 q k = S.1 q k := fun q k _ _ => (updC_nt (by omega)).trans ((updC_nt (by omega)).trans ((updC_nt (by omega)).trans ((updC_nt (by omega)).trans (updC_nt (by omega)))))
  have hn' : nL (rulS S kd i x t l1 l2) = n + 1 := by
    show ((rulS S kd i x t l1 l2).1 0 4).toNat = n + 1
    rw [show (rulS S kd i x t l1 l2).1 0 4 = (n : Int) + 1 from by unfold rulS incN; dsimp only; rw [updC_sm, updC_nt (by omega), updC_nt (by omega), updC_nt (by omega), updC_nt (by omega), hn]]
    omega
  have hcd : ∀ o i, (o = 191 ∨ o = 192) → 1200 * j ≤ i → i < 1200 * j + c → b' o i = b o i := fun o i h1 h2 h3 => hb o i (by omega) (by omega)
  refine ⟨⟨h1, (hb 166 39 (by omega) (by omega)).trans h2, e38⟩, ⟨(hb 168 j (by omega) (by omega)).trans k0, (hb 169 j (by omega) (by omega)).trans k1, (hb 170 j (by omega) (by omega)).trans k2, (hb 171 j (by omega) (by omega)).trans k3, by rw [v0, hn']; omega, (hb 172 j (by omega) (by omega)).trans k5⟩, ?_, ?_, ?_, ?_, ?_, ?_, ?_, ?_⟩
  · intro k hk; rw [hb 174 (8 * j + k) (by omega) (by omega), et 1 k (by omega) (by omega)]; exact n0 k hk
  · intro k hk; rw [hb 176 (8 * j + k) (by omega) (by omega), et 2 k (by omega) (by omega)]; exact n1 k hk
  · intro k hk; rw [hb 178 (8 * j + k) (by omega) (by omega), et 3 k (by omega) (by omega)]; exact n2 k hk
  · intro r o hr ho; rw [hb 175 (64 * j + 8 * r + o) (by omega) (by omega), et 4 _ (by omega) (by omega)]; exact n3 r o hr ho
  · intro k hk; rw [hb 177 (8 * j + k) (by omega) (by omega), et 5 k (by omega) (by omega)]; exact n4 k hk
  · intro k hk; rw [hb 179 (8 * j + k) (by omega) (by omega), et 6 k (by omega) (by omega)]; exact n5 k hk
  · intro k hk
    rw [hb 180 (12 * j + k) (by omega) (by omega), hb 181 (12 * j + k) (by omega) (by omega), hb 182 (12 * j + k) (by omega) (by omega), hb 183 (12 * j + k) (by omega) (by omega), et 7 k (by omega) (by omega), et 8 k (by omega) (by omega), et 9 k (by omega) (by omega), et 10 k (by omega) (by omega)]
    exact n6 k hk
  · intro r hr
    have hr : r < n + 1 := by omega
    have s2 : ∀ q, (rulS S kd i x t l1 l2).2 q = if q = 2 * nL S then l1 else if q = 2 * nL S + 1 then l2 else S.2 q := fun q => rfl
    by_cases hrn : r = n
    · have a1 : (rulS S kd i x t l1 l2).1 11 n = (kd : Int) := by unfold rulS incN; dsimp only; rw [hnL, updC_nt (by omega), updC_nt (by omega), updC_nt (by omega), updC_nt (by omega), updC_sm]
      have a2 : (rulS S kd i x t l1 l2).1 12 n = (i : Int) := by unfold rulS incN; dsimp only; rw [hnL, updC_nt (by omega), updC_nt (by omega), updC_nt (by omega), updC_sm]
      have a3 : (rulS S kd i x t l1 l2).1 13 n = x := by unfold rulS incN; dsimp only; rw [hnL, updC_nt (by omega), updC_nt (by omega), updC_sm]
      have a4 : (rulS S kd i x t l1 l2).1 14 n = t := by unfold rulS incN; dsimp only; rw [hnL, updC_nt (by omega), updC_sm]
      rw [hrn, a1, a2, a3, a4, v1, v2, v3, v4, s2, s2, hnL, if_neg (by omega), if_pos rfl, if_pos rfl]
      exact ⟨rfl, rfl, rfl, rfl, v5, fun h => v6 (by omega)⟩
    · have er : ∀ q, 0 < q → (rulS S kd i x t l1 l2).1 q r = S.1 q r := fun q hq => by
        unfold rulS incN
        dsimp only
        rw [hnL, updC_nt (by omega), updC_nt (by omega), updC_nt (by omega), updC_nt (by omega), updC_nt (by omega)]
      obtain ⟨r1, r2, r3, r4, r5, r6⟩ := n7 r (by omega)
      rw [er 11 (by omega), er 12 (by omega), er 13 (by omega), er 14 (by omega), s2, s2, hnL, if_neg (by omega), if_neg (by omega), if_neg (by omega), if_neg (by omega), hb 184 (30 * j + r) (by omega) (by omega), hb 185 (30 * j + r) (by omega) (by omega), hb 186 (30 * j + r) (by omega) (by omega), hb 187 (30 * j + r) (by omega) (by omega), hb 188 (30 * j + r) (by omega) (by omega), hb 189 (30 * j + r) (by omega) (by omega), hb 190 (30 * j + r) (by omega) (by omega)]
      exact ⟨r1, r2, r3, r4, r5.mv hcd hcc, fun h => (r6 h).mv hcd hcc⟩
