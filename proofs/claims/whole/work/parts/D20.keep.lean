/-! WHAT A TEXT TELLS: statements keep what a story keeps to -/
def WfD (S : STY) : Prop := ∀ r o, r < 8 → o < 8 → S.1 4 (8 * r + o) ≠ 0 → r < nR S ∧ o < nR S ∧ r ≠ o
def cSum (S : STY) : Int := S.1 0 0 + S.1 0 1 + S.1 0 2 + S.1 0 3 + S.1 0 4 + S.1 0 5
theorem OkQ.mo {S S' : STY} {q : Nat × Nat} (h : OkQ S q) (hR : nR S ≤ nR S') (hW : nW S ≤ nW S') (hT : nT S ≤ nT S') : OkQ S' q := by
  obtain ⟨h1, h2, h3, h4, h5, h6, h7, h8, h9⟩ := h
  refine ⟨h1, fun g => ?_, fun g => ?_, fun g => ?_, fun g => ?_, fun g => ?_, h7, h8, h9⟩
  · have := h2 g; omega
  · have := h3 g; omega
  · have := h4 g; omega
  · have := h5 g; omega
  · have := h6 g; omega
abbrev RuV (S : STY) (r : Nat) : Prop := (0 ≤ S.1 11 r ∧ S.1 11 r ≤ 5) ∧ (0 ≤ S.1 12 r ∧ S.1 12 r < nW S) ∧ (S.1 11 r = 0 → 0 ≤ S.1 13 r ∧ S.1 13 r < nR S) ∧ (S.1 11 r = 1 ∨ S.1 11 r = 2 → 0 ≤ S.1 13 r ∧ S.1 13 r < nT S) ∧
    (S.1 11 r = 5 → 0 ≤ S.1 13 r ∧ S.1 13 r < nW S ∧ S.1 13 r ≠ S.1 12 r ∧ 0 ≤ S.1 14 r ∧ S.1 14 r < nT S) ∧
    (∀ q, q ∈ S.2 (2 * r + 1) → OkQ S q) ∧ tyL (S.2 (2 * r + 1)) [] = some [true] ∧ (S.1 11 r = 4 → (∀ q, q ∈ S.2 (2 * r) → OkQ S q) ∧ tyL (S.2 (2 * r)) [] = some [false])
theorem RuV.mo {S S' : STY} {r : Nat} (h : RuV S r) (hR : nR S ≤ nR S') (hW : nW S ≤ nW S') (hT : nT S ≤ nT S') (e1 : S'.1 11 r = S.1 11 r) (e2 : S'.1 12 r = S.1 12 r) (e3 : S'.1 13 r = S.1 13 r) (e4 : S'.1 14 r = S.1 14 r) (e5 : S'.2 (2 * r) = S.2 (2 * r)) (e6 : S'.2 (2 * r + 1) = S.2 (2 * r + 1)) : RuV S' r := by
  obtain ⟨h1, h2, h3, h4, h5, h6, h7, h8⟩ := h
  unfold RuV
  rw [e1, e2, e3, e4, e5, e6]
  refine ⟨h1, by omega, fun g => ?_, fun g => ?_, fun g => ?_, fun q hq => (h6 q hq).mo hR hW hT, h7, fun g => ⟨fun q hq => ((h8 g).1 q hq).mo hR hW hT, (h8 g).2⟩⟩
  · have := h3 g; omega
  · have := h4 g; omega
  · have := h5 g; omega
theorem WfY.ext {S S' : STY} (h : WfY S) (k0 : nR S' ≤ 8 ∧ S'.1 0 0 = ((nR S' : Nat) : Int)) (k1 : 0 ≤ S'.1 0 1 ∧ S'.1 0 1 ≤ 16) (k2 : nW S' ≤ 8 ∧ S'.1 0 2 = ((nW S' : Nat) : Int)) (k3 : nT S' ≤ 8 ∧ S'.1 0 3 = ((nT S' : Nat) : Int)) (k4 : nL S' ≤ 30 ∧ S'.1 0 4 = ((nL S' : Nat) : Int)) (k5 : nC S' ≤ 12 ∧ S'.1 0 5 = ((nC S' : Nat) : Int))
    (hR : nR S ≤ nR S') (hW : nW S ≤ nW S') (hT : nT S ≤ nT S') (h4 : ∀ i, S'.1 4 i = 0 ∨ S'.1 4 i = 1) (hs : ∀ r o, r < 8 → o < 8 → S'.1 4 (8 * r + o) = S'.1 4 (8 * o + r))
    (h5 : ∀ p, p < nW S' → (p < nW S ∧ S'.1 5 p = S.1 5 p) ∨ (0 ≤ S'.1 5 p ∧ S'.1 5 p < nR S')) (h6 : ∀ p, p < nT S' → (p < nT S ∧ S'.1 6 p = S.1 6 p) ∨ (0 ≤ S'.1 6 p ∧ S'.1 6 p < nR S'))
    (hc : ∀ k, k < nC S' → (k < nC S ∧ S'.1 7 k = S.1 7 k ∧ S'.1 8 k = S.1 8 k ∧ S'.1 9 k = S.1 9 k ∧ S'.1 10 k = S.1 10 k) ∨ ((0 ≤ S'.1 7 k ∧ S'.1 7 k < nW S') ∧ (0 ≤ S'.1 8 k ∧ S'.1 8 k < nR S') ∧ (0 ≤ S'.1 9 k ∧ S'.1 9 k ≤ S'.1 10 k ∧ S'.1 10 k < 180)))
    (hr : ∀ r, r < nL S' → (r < nL S ∧ S'.1 11 r = S.1 11 r ∧ S'.1 12 r = S.1 12 r ∧ S'.1 13 r = S.1 13 r ∧ S'.1 14 r = S.1 14 r ∧ S'.2 (2 * r) = S.2 (2 * r) ∧ S'.2 (2 * r + 1) = S.2 (2 * r + 1)) ∨ RuV S' r) : WfY S' := by
  obtain ⟨-, -, -, -, -, -, -, -, g5, g6, g7, g8⟩ := h
  refine ⟨k0, k1, k2, k3, k4, k5, h4, hs, fun p hp => ?_, fun p hp => ?_, fun k hk => ?_, fun r hr' => ?_⟩
  · rcases h5 p hp with ⟨a1, a2⟩ | a1
    · rw [a2]
      have := g5 p a1
      omega
    · exact a1
  · rcases h6 p hp with ⟨a1, a2⟩ | a1
    · rw [a2]
      have := g6 p a1
      omega
    · exact a1
  · rcases hc k hk with ⟨a1, a2, a3, a4, a5⟩ | a1
    · rw [a2, a3, a4, a5]
      have := g7 k a1
      omega
    · exact a1
  · rcases hr r hr' with ⟨a1, a2, a3, a4, a5, a6, a7⟩ | a1
    · exact RuV.mo (g8 r a1) hR hW hT a2 a3 a4 a5 a6 a7
    · exact a1
abbrev StK (W : TXT) (S : STY) (p : Nat) (S' : STY) (p1 : Nat) : Prop := WfY S' ∧ WfD S' ∧ p < p1 ∧ p1 ≤ W.2 ∧ tC W p1 ≠ 303 ∧ cSum S' = cSum S + 1
theorem ask_st {W : TXT} {N : SC} {kd p : Nat} {but : Int} {r : Nat × Nat} (hT : TxO W) (hp : p ≤ W.2) (h : askT W N kd but p = .ok r) : p < r.2 ∧ r.2 ≤ W.2 ∧ tC W r.2 ≠ 303 ∧ r.1 < cntN N kd ∧ ((r.1 : Nat) : Int) ≠ but := by
  obtain ⟨a1, a2, a3, a4, a5, a6⟩ := ask_ok h
  have := tok_rg hp hT
  have := tok_lt hp hT (by omega) (by omega)
  exact ⟨by omega, by omega, a6, a3, a4⟩
theorem giv_st {W : TXT} {N : SC} {p : Nat} {r : Nat × Nat} (hT : TxO W) (hp : p ≤ W.2) (h : givT W N p = .ok r) : p < r.2 ∧ r.2 ≤ W.2 ∧ tC W r.2 ≠ 303 := by
  obtain ⟨a1, a2, a3, a4, a5⟩ := giv_ok h
  have := tok_rg hp hT
  have := tok_lt hp hT (by omega) (by omega)
  exact ⟨by omega, by omega, a5⟩
theorem num_st {W : TXT} {lo p : Nat} {r : Nat × Nat} (hT : TxO W) (hp : p ≤ W.2) (h : numT W lo p = .ok r) : p < r.2 ∧ r.2 ≤ W.2 ∧ tC W r.2 ≠ 303 ∧ lo ≤ r.1 ∧ r.1 < 180 := by
  obtain ⟨a1, a2, a3, a4, a5, a6⟩ := num_ok h
  have := tok_rg hp hT
  have := tok_lt hp hT (by omega) (by omega)
  exact ⟨by omega, by omega, a6, a3, a4⟩
theorem got_st {W : TXT} {p p1 : Nat} (hT : TxO W) (hp : p ≤ W.2) (h2 : tC W p ≠ 302) (h3 : tC W p ≠ 303) (h : gotT W p = .ok p1) : p < p1 ∧ p1 ≤ W.2 ∧ tC W p1 ≠ 303 := by
  obtain ⟨a1, a2⟩ := got_ok h
  have := tok_rg hp hT
  have := tok_lt hp hT h2 h3
  exact ⟨by omega, by omega, a2⟩
theorem exp_st {W : TXT} {c p p1 : Nat} (hT : TxO W) (hp : p ≤ W.2) (h2 : c ≠ 302) (h3 : c ≠ 303) (h : expT W c p = .ok p1) : p < p1 ∧ p1 ≤ W.2 ∧ tC W p1 ≠ 303 := by
  obtain ⟨a0, a1, a2⟩ := exp_ok h
  have := tok_rg hp hT
  have := tok_lt hp hT (by omega) (by omega)
  exact ⟨by omega, by omega, a2⟩
section KEEP
variable {W : TXT} {S : STY} {p : Nat} {r : STY × Nat}
theorem roo_wf (hT : TxO W) (hW : WfY S) (hD : WfD S) (hp : p ≤ W.2) (h2 : tC W p ≠ 302) (h3 : tC W p ≠ 303) (hm : S.1 0 0 < 8) (h : rooT W S p = .ok r) : StK W S p r.1 r.2 := by
  obtain ⟨p1, g1, h⟩ := bnX_ok h
  obtain ⟨⟨w, p2⟩, g2, h⟩ := bnX_ok h
  cases h
  have s1 := got_st hT hp h2 h3 g1
  have s2 := giv_st hT (by omega) g2
  dsimp only at s2 ⊢
  have hR := hW.1
  have e0 : nR (incN (updC S.1 1 (nR S) w) 0, S.2) = nR S + 1 := by
    show (S.1 0 0 + 1).toNat = (S.1 0 0).toNat + 1
    omega
  refine ⟨hW.ext ⟨by rw [e0]; omega, ?_⟩ hW.2.1 hW.2.2.1 hW.2.2.2.1 hW.2.2.2.2.1 hW.2.2.2.2.2.1 (by rw [e0]; omega) (Nat.le_refl _) (Nat.le_refl _) hW.2.2.2.2.2.2.1 hW.2.2.2.2.2.2.2.1 (fun q hq => Or.inl ⟨hq, rfl⟩) (fun q hq => Or.inl ⟨hq, rfl⟩) (fun k hk => Or.inl ⟨hk, rfl, rfl, rfl, rfl⟩) (fun k hk => Or.inl ⟨hk, rfl, rfl, rfl, rfl, rfl, rfl⟩), fun a o ha ho hne => ?_, by omega, s2.2.1, s2.2.2, ?_⟩
  · rw [e0]
    show S.1 0 0 + 1 = _
    rw [hR.2]
    omega
  · have := hD a o ha ho hne
    rw [e0]
    omega
  · show S.1 0 0 + 1 + S.1 0 1 + S.1 0 2 + S.1 0 3 + S.1 0 4 + S.1 0 5 = cSum S + 1
    unfold cSum
    omega
theorem who_wf (hT : TxO W) (hW : WfY S) (hD : WfD S) (hp : p ≤ W.2) (h2 : tC W p ≠ 302) (h3 : tC W p ≠ 303) (hm : S.1 0 2 < 8) (h : whoT W S p = .ok r) : StK W S p r.1 r.2 := by
  obtain ⟨p1, g1, h⟩ := bnX_ok h
  obtain ⟨⟨w, p2⟩, g2, h⟩ := bnX_ok h
  obtain ⟨p3, g3, h⟩ := bnX_ok h
  obtain ⟨⟨i, p4⟩, g4, h⟩ := bnX_ok h
  cases h
  have s1 := got_st hT hp h2 h3 g1
  have s2 := giv_st hT (by omega) g2
  dsimp only at s2 g3
  have s3 := exp_st hT (by omega) (by omega) (by omega) g3
  have s4 := ask_st hT (by omega) g4
  dsimp only at s4 ⊢
  have hR := hW.2.2.1
  have hi : i < nR S := s4.2.2.2.1
  have e0 : nW (incN (updC (updC S.1 2 (nW S) w) 5 (nW S) i) 2, S.2) = nW S + 1 := by
    show (S.1 0 2 + 1).toNat = (S.1 0 2).toNat + 1
    omega
  have eR : nR (incN (updC (updC S.1 2 (nW S) w) 5 (nW S) i) 2, S.2) = nR S := rfl
  refine ⟨hW.ext hW.1 hW.2.1 ⟨by rw [e0]; omega, ?_⟩ hW.2.2.2.1 hW.2.2.2.2.1 hW.2.2.2.2.2.1 (Nat.le_refl _) (by rw [e0]; omega) (Nat.le_refl _) hW.2.2.2.2.2.2.1 hW.2.2.2.2.2.2.2.1 (fun q hq => ?_) (fun q hq => Or.inl ⟨hq, rfl⟩) (fun k hk => Or.inl ⟨hk, rfl, rfl, rfl, rfl⟩) (fun k hk => Or.inl ⟨hk, rfl, rfl, rfl, rfl, rfl, rfl⟩), hD, by omega, s4.2.1, s4.2.2.1, ?_⟩
  · rw [e0]
    show S.1 0 2 + 1 = _
    rw [hR.2]
    omega
  · rw [e0] at hq
    show (q < nW S ∧ incN (updC (updC S.1 2 (nW S) w) 5 (nW S) i) 2 5 q = S.1 5 q) ∨ (0 ≤ incN (updC (updC S.1 2 (nW S) w) 5 (nW S) i) 2 5 q ∧ incN (updC (updC S.1 2 (nW S) w) 5 (nW S) i) 2 5 q < (nR S : Int))
    rw [inc_t (by omega), updC_if]
    by_cases h : q = nW S
    · rw [if_pos h]
      exact Or.inr ⟨by omega, by omega⟩
    · rw [if_neg h]
      exact Or.inl ⟨by omega, updC_nt (by omega)⟩
  · show S.1 0 0 + S.1 0 1 + (S.1 0 2 + 1) + S.1 0 3 + S.1 0 4 + S.1 0 5 = cSum S + 1
    unfold cSum
    omega
theorem thi_wf (hT : TxO W) (hW : WfY S) (hD : WfD S) (hp : p ≤ W.2) (h2 : tC W p ≠ 302) (h3 : tC W p ≠ 303) (hm : S.1 0 3 < 8) (h : thiT W S p = .ok r) : StK W S p r.1 r.2 := by
  obtain ⟨p1, g1, h⟩ := bnX_ok h
  obtain ⟨⟨w, p2⟩, g2, h⟩ := bnX_ok h
  obtain ⟨p3, g3, h⟩ := bnX_ok h
  obtain ⟨⟨i, p4⟩, g4, h⟩ := bnX_ok h
  cases h
  have s1 := got_st hT hp h2 h3 g1
  have s2 := giv_st hT (by omega) g2
  dsimp only at s2 g3
  have s3 := exp_st hT (by omega) (by omega) (by omega) g3
  have s4 := ask_st hT (by omega) g4
  dsimp only at s4 ⊢
  have hR := hW.2.2.2.1
  have hi : i < nR S := s4.2.2.2.1
  have e0 : nT (incN (updC (updC S.1 3 (nT S) w) 6 (nT S) i) 3, S.2) = nT S + 1 := by
    show (S.1 0 3 + 1).toNat = (S.1 0 3).toNat + 1
    omega
  refine ⟨hW.ext hW.1 hW.2.1 hW.2.2.1 ⟨by rw [e0]; omega, ?_⟩ hW.2.2.2.2.1 hW.2.2.2.2.2.1 (Nat.le_refl _) (Nat.le_refl _) (by rw [e0]; omega) hW.2.2.2.2.2.2.1 hW.2.2.2.2.2.2.2.1 (fun q hq => Or.inl ⟨hq, rfl⟩) (fun q hq => ?_) (fun k hk => Or.inl ⟨hk, rfl, rfl, rfl, rfl⟩) (fun k hk => Or.inl ⟨hk, rfl, rfl, rfl, rfl, rfl, rfl⟩), hD, by omega, s4.2.1, s4.2.2.1, ?_⟩
  · rw [e0]
    show S.1 0 3 + 1 = _
    rw [hR.2]
    omega
  · rw [e0] at hq
    show (q < nT S ∧ incN (updC (updC S.1 3 (nT S) w) 6 (nT S) i) 3 6 q = S.1 6 q) ∨ (0 ≤ incN (updC (updC S.1 3 (nT S) w) 6 (nT S) i) 3 6 q ∧ incN (updC (updC S.1 3 (nT S) w) 6 (nT S) i) 3 6 q < (nR S : Int))
    rw [inc_t (by omega), updC_if]
    by_cases h : q = nT S
    · rw [if_pos h]
      exact Or.inr ⟨by omega, by omega⟩
    · rw [if_neg h]
      exact Or.inl ⟨by omega, updC_nt (by omega)⟩
  · show S.1 0 0 + S.1 0 1 + S.1 0 2 + (S.1 0 3 + 1) + S.1 0 4 + S.1 0 5 = cSum S + 1
    unfold cSum
    omega
theorem say_wf (hT : TxO W) (hW : WfY S) (hD : WfD S) (hp : p ≤ W.2) (h2 : tC W p ≠ 302) (h3 : tC W p ≠ 303) (hm : S.1 0 5 < 12) (h : sayT W S p = .ok r) : StK W S p r.1 r.2 := by
  obtain ⟨p1, g1, h⟩ := bnX_ok h
  obtain ⟨⟨i0, p2⟩, g2, h⟩ := bnX_ok h
  obtain ⟨⟨i1, p3⟩, g3, h⟩ := bnX_ok h
  obtain ⟨⟨i2, p4⟩, g4, h⟩ := bnX_ok h
  obtain ⟨⟨i3, p5⟩, g5, h⟩ := bnX_ok h
  cases h
  have s1 := got_st hT hp h2 h3 g1
  have s2 := ask_st hT (by omega) g2
  dsimp only at s2 g3
  have s3 := ask_st hT (by omega) g3
  dsimp only at s3 g4
  have s4 := num_st hT (by omega) g4
  dsimp only at s4 g5
  have s5 := num_st hT (by omega) g5
  dsimp only at s5 ⊢
  have hR := hW.2.2.2.2.2.1
  have b0 : i0 < nW S := s2.2.2.2.1
  have b1 : i1 < nR S := s3.2.2.2.1
  have e0 : nC (incN (updC (updC (updC (updC S.1 7 (nC S) i0) 8 (nC S) i1) 9 (nC S) i2) 10 (nC S) i3) 5, S.2) = nC S + 1 := by
    show (S.1 0 5 + 1).toNat = (S.1 0 5).toNat + 1
    omega
  refine ⟨hW.ext hW.1 hW.2.1 hW.2.2.1 hW.2.2.2.1 hW.2.2.2.2.1 ⟨by rw [e0]; omega, ?_⟩ (Nat.le_refl _) (Nat.le_refl _) (Nat.le_refl _) hW.2.2.2.2.2.2.1 hW.2.2.2.2.2.2.2.1 (fun q hq => Or.inl ⟨hq, rfl⟩) (fun q hq => Or.inl ⟨hq, rfl⟩) (fun k hk => ?_) (fun k hk => Or.inl ⟨hk, rfl, rfl, rfl, rfl, rfl, rfl⟩), hD, by omega, s5.2.1, s5.2.2.1, ?_⟩
  · rw [e0]
    show S.1 0 5 + 1 = _
    rw [hR.2]
    omega
  · rw [e0] at hk
    have q7 : incN (updC (updC (updC (updC S.1 7 (nC S) i0) 8 (nC S) i1) 9 (nC S) i2) 10 (nC S) i3) 5 7 k = if k = nC S then (i0 : Int) else S.1 7 k := (inc_t (by omega)).trans ((updC_nt (by omega)).trans ((updC_nt (by omega)).trans ((updC_nt (by omega)).trans updC_if)))
    have q8 : incN (updC (updC (updC (updC S.1 7 (nC S) i0) 8 (nC S) i1) 9 (nC S) i2) 10 (nC S) i3) 5 8 k = if k = nC S then (i1 : Int) else S.1 8 k := (inc_t (by omega)).trans ((updC_nt (by omega)).trans ((updC_nt (by omega)).trans (updC_if.trans (by rw [updC_nt (by omega)]))))
    have q9 : incN (updC (updC (updC (updC S.1 7 (nC S) i0) 8 (nC S) i1) 9 (nC S) i2) 10 (nC S) i3) 5 9 k = if k = nC S then (i2 : Int) else S.1 9 k := (inc_t (by omega)).trans ((updC_nt (by omega)).trans (updC_if.trans (by rw [updC_nt (by omega), updC_nt (by omega)])))
    have q10 : incN (updC (updC (updC (updC S.1 7 (nC S) i0) 8 (nC S) i1) 9 (nC S) i2) 10 (nC S) i3) 5 10 k = if k = nC S then (i3 : Int) else S.1 10 k := (inc_t (by omega)).trans (updC_if.trans (by rw [updC_nt (by omega), updC_nt (by omega), updC_nt (by omega)]))
    by_cases h : k = nC S
    · refine Or.inr ?_
      show (0 ≤ incN (updC (updC (updC (updC S.1 7 (nC S) i0) 8 (nC S) i1) 9 (nC S) i2) 10 (nC S) i3) 5 7 k ∧ incN (updC (updC (updC (updC S.1 7 (nC S) i0) 8 (nC S) i1) 9 (nC S) i2) 10 (nC S) i3) 5 7 k < (nW S : Int)) ∧ (0 ≤ incN (updC (updC (updC (updC S.1 7 (nC S) i0) 8 (nC S) i1) 9 (nC S) i2) 10 (nC S) i3) 5 8 k ∧ incN (updC (updC (updC (updC S.1 7 (nC S) i0) 8 (nC S) i1) 9 (nC S) i2) 10 (nC S) i3) 5 8 k < (nR S : Int)) ∧ (0 ≤ incN (updC (updC (updC (updC S.1 7 (nC S) i0) 8 (nC S) i1) 9 (nC S) i2) 10 (nC S) i3) 5 9 k ∧ incN (updC (updC (updC (updC S.1 7 (nC S) i0) 8 (nC S) i1) 9 (nC S) i2) 10 (nC S) i3) 5 9 k ≤ incN (updC (updC (updC (updC S.1 7 (nC S) i0) 8 (nC S) i1) 9 (nC S) i2) 10 (nC S) i3) 5 10 k ∧ incN (updC (updC (updC (updC S.1 7 (nC S) i0) 8 (nC S) i1) 9 (nC S) i2) 10 (nC S) i3) 5 10 k < 180)
      rw [q7, q8, q9, q10, if_pos h, if_pos h, if_pos h, if_pos h]
      omega
    · refine Or.inl ⟨by omega, ?_, ?_, ?_, ?_⟩
      · exact q7.trans (if_neg h)
      · exact q8.trans (if_neg h)
      · exact q9.trans (if_neg h)
      · exact q10.trans (if_neg h)
  · show S.1 0 0 + S.1 0 1 + S.1 0 2 + S.1 0 3 + S.1 0 4 + (S.1 0 5 + 1) = cSum S + 1
    unfold cSum
    omega
theorem doo_wf (hT : TxO W) (hW : WfY S) (hD : WfD S) (hp : p ≤ W.2) (h2 : tC W p ≠ 302) (h3 : tC W p ≠ 303) (hm : S.1 0 1 < 16) (h : dooT W S p = .ok r) : StK W S p r.1 r.2 := by
  obtain ⟨p1, g1, h⟩ := bnX_ok h
  obtain ⟨⟨i, p2⟩, g2, h⟩ := bnX_ok h
  have s1 := got_st hT hp h2 h3 g1
  have s2 := ask_st hT (by omega) g2
  dsimp only at s2 h
  split at h
  · cases h
  · next c3 =>
    split at h
    · cases h
    · next c4 =>
      split at h
      · cases h
      · obtain ⟨p3, g3, h⟩ := bnX_ok h
        cases h
        have s3 := got_st hT (by omega) (by omega) (by omega) g3
        obtain ⟨o, ho⟩ : ∃ o, nmd S.1 0 (tV W p2) = o := ⟨_, rfl⟩
        have hle := nmd_le (N := S.1) (kd := 0) (w := tV W p2)
        rw [ho] at c4 hle ⊢
        have bi : i < nR S := s2.2.2.2.1
        have bo : o < nR S := by
          have e : cntN S.1 0 = nR S := rfl
          rw [e] at hle c4
          omega
        have hio : o ≠ i := fun g => c4 (Or.inr g)
        have h8 := hW.1.1
        dsimp only
        have q4 : ∀ j, incN (updC (updC S.1 4 (8 * i + o) 1) 4 (8 * o + i) 1) 1 4 j = if j = 8 * o + i then 1 else if j = 8 * i + o then 1 else S.1 4 j := fun j => by
          rw [inc_t (by omega), updC_if, updC_if]
        have h4 := hW.2.2.2.2.2.2.1
        have hsym := hW.2.2.2.2.2.2.2.1
        refine ⟨hW.ext hW.1 ?_ hW.2.2.1 hW.2.2.2.1 hW.2.2.2.2.1 hW.2.2.2.2.2.1 (Nat.le_refl _) (Nat.le_refl _) (Nat.le_refl _) (fun j => ?_) (fun a c ha hc => ?_) (fun q hq => Or.inl ⟨hq, rfl⟩) (fun q hq => Or.inl ⟨hq, rfl⟩) (fun k hk => Or.inl ⟨hk, rfl, rfl, rfl, rfl⟩) (fun k hk => Or.inl ⟨hk, rfl, rfl, rfl, rfl, rfl, rfl⟩), fun a c ha hc hne => ?_, by omega, s3.2.1, s3.2.2, ?_⟩
        · show 0 ≤ S.1 0 1 + 1 ∧ S.1 0 1 + 1 ≤ 16
          have := hW.2.1
          omega
        · show incN (updC (updC S.1 4 (8 * i + o) 1) 4 (8 * o + i) 1) 1 4 j = 0 ∨ incN (updC (updC S.1 4 (8 * i + o) 1) 4 (8 * o + i) 1) 1 4 j = 1
          rw [q4]
          split
          · exact Or.inr rfl
          · split
            · exact Or.inr rfl
            · exact h4 j
        · show incN (updC (updC S.1 4 (8 * i + o) 1) 4 (8 * o + i) 1) 1 4 (8 * a + c) = incN (updC (updC S.1 4 (8 * i + o) 1) 4 (8 * o + i) 1) 1 4 (8 * c + a)
          rw [q4, q4]
          have hs := hsym a c ha hc
          by_cases e1 : 8 * a + c = 8 * o + i
          · rw [if_pos e1]
            have : 8 * c + a = 8 * i + o := by omega
            rw [if_neg (by omega), if_pos this]
          · rw [if_neg e1]
            by_cases e2 : 8 * a + c = 8 * i + o
            · rw [if_pos e2]
              have : 8 * c + a = 8 * o + i := by omega
              rw [if_pos this]
            · rw [if_neg e2, if_neg (by omega), if_neg (by omega)]
              exact hs
        · have hne : incN (updC (updC S.1 4 (8 * i + o) 1) 4 (8 * o + i) 1) 1 4 (8 * a + c) ≠ 0 := hne
          rw [q4] at hne
          show a < nR S ∧ c < nR S ∧ a ≠ c
          by_cases e1 : 8 * a + c = 8 * o + i
          · omega
          · rw [if_neg e1] at hne
            by_cases e2 : 8 * a + c = 8 * i + o
            · omega
            · rw [if_neg e2] at hne
              exact hD a c ha hc hne
        · show S.1 0 0 + (S.1 0 1 + 1) + S.1 0 2 + S.1 0 3 + S.1 0 4 + S.1 0 5 = cSum S + 1
          unfold cSum
          omega
theorem arg_wf {c i : Nat} {x : (Int × Int × List (Nat × Nat)) × Nat} (hT : TxO W) (hp : p ≤ W.2) (h3 : tC W p ≠ 303) (hc : 262 ≤ c) (hc2 : c ≤ 267) (h : argT W S.1 c i p = .ok x) : p ≤ x.2 ∧ x.2 ≤ W.2 ∧ tC W x.2 ≠ 303 ∧ (c = 262 → 0 ≤ x.1.1 ∧ x.1.1 < nR S) ∧ (c = 263 ∨ c = 264 → 0 ≤ x.1.1 ∧ x.1.1 < nT S) ∧ (c = 267 → 0 ≤ x.1.1 ∧ x.1.1 < nW S ∧ x.1.1 ≠ i ∧ 0 ≤ x.1.2.1 ∧ x.1.2.1 < nT S) ∧ (c = 266 → (∀ q, q ∈ x.1.2.2 → OkQ S q) ∧ tyL x.1.2.2 [] = some [false]) := by
  unfold argT at h
  split at h
  · next e =>
    obtain ⟨⟨j, p1⟩, g1, h⟩ := bnX_ok h
    cases h
    have s1 := ask_st hT hp g1
    dsimp only at s1 ⊢
    have b1 : j < nR S := s1.2.2.2.1
    exact ⟨by omega, s1.2.1, s1.2.2.1, fun _ => by omega, fun g => by omega, fun g => by omega, fun g => by omega⟩
  · split at h
    · next e0 e =>
      obtain ⟨⟨j, p1⟩, g1, h⟩ := bnX_ok h
      cases h
      have s1 := ask_st hT hp g1
      dsimp only at s1 ⊢
      have b1 : j < nT S := s1.2.2.2.1
      exact ⟨by omega, s1.2.1, s1.2.2.1, fun g => by omega, fun _ => by omega, fun g => by omega, fun g => by omega⟩
    · split at h
      · next e0 e1 e =>
        obtain ⟨⟨l, p1⟩, g1, h⟩ := bnX_ok h
        cases h
        have s1 := sumT_pr hT 8 p l p1 hp h3 g1
        dsimp only
        exact ⟨by omega, s1.2.2.1, s1.2.2.2.1, fun g => by omega, fun g => by omega, fun g => by omega, fun _ => ⟨s1.2.2.2.2.1, s1.2.2.2.2.2 []⟩⟩
      · split at h
        · next e0 e1 e2 e =>
          obtain ⟨⟨j, p1⟩, g1, h⟩ := bnX_ok h
          obtain ⟨⟨k, p2⟩, g2, h⟩ := bnX_ok h
          cases h
          have s1 := ask_st hT hp g1
          dsimp only at s1 g2
          have s2 := ask_st hT (by omega) g2
          dsimp only at s2 ⊢
          have b1 : j < nW S := s1.2.2.2.1
          have b2 : k < nT S := s2.2.2.2.1
          exact ⟨by omega, s2.2.1, s2.2.2.1, fun g => by omega, fun g => by omega, fun _ => by omega, fun g => by omega⟩
        · next e0 e1 e2 e3 =>
          cases h
          dsimp only
          exact ⟨Nat.le_refl _, hp, h3, fun g => absurd g e0, fun g => absurd g e1, fun g => absurd g e3, fun g => absurd g e2⟩
theorem rul_wf (hT : TxO W) (hW : WfY S) (hD : WfD S) (hp : p ≤ W.2) (h3 : tC W p ≠ 303) (hc : 262 ≤ tC W p) (hc2 : tC W p ≤ 267) (hm : S.1 0 4 < 30) (h : rulT W S p = .ok r) : StK W S p r.1 r.2 := by
  obtain ⟨p1, g1, h⟩ := bnX_ok h
  obtain ⟨⟨i, p2⟩, g2, h⟩ := bnX_ok h
  obtain ⟨⟨⟨o, t, l1⟩, p3⟩, g3, h⟩ := bnX_ok h
  obtain ⟨p4, g4, h⟩ := bnX_ok h
  obtain ⟨⟨l2, p5⟩, g5, h⟩ := bnX_ok h
  cases h
  have s1 := got_st hT hp (by omega) h3 g1
  have s2 := ask_st hT (by omega) g2
  dsimp only at s2 g3
  have s3 := arg_wf hT s2.2.1 s2.2.2.1 hc hc2 g3
  dsimp only at s3 g4
  have s4 := exp_st hT s3.2.1 (by omega) (by omega) g4
  have hN : WfN S := ⟨hW.1.1, hW.2.2.1.1, hW.2.2.2.1.1⟩
  have s5 := tstT_pr hT hN 8 p4 l2 p5 s4.2.1 s4.2.2 g5
  have bi : i < nW S := s2.2.2.2.1
  have hR := hW.2.2.2.2.1
  dsimp only
  have e0 : nL (rulS S (tC W p - 262) i o t l1 l2) = nL S + 1 := by
    show (S.1 0 4 + 1).toNat = (S.1 0 4).toNat + 1
    omega
  have q11 : ∀ k, (rulS S (tC W p - 262) i o t l1 l2).1 11 k = if k = nL S then ((tC W p - 262 : Nat) : Int) else S.1 11 k := fun k => by
    show incN (updC (updC (updC (updC S.1 11 (nL S) ((tC W p - 262 : Nat) : Int)) 12 (nL S) i) 13 (nL S) o) 14 (nL S) t) 4 11 k = _
    exact (inc_t (by omega)).trans ((updC_nt (by omega)).trans ((updC_nt (by omega)).trans ((updC_nt (by omega)).trans updC_if)))
  have q12 : ∀ k, (rulS S (tC W p - 262) i o t l1 l2).1 12 k = if k = nL S then (i : Int) else S.1 12 k := fun k => by
    show incN (updC (updC (updC (updC S.1 11 (nL S) ((tC W p - 262 : Nat) : Int)) 12 (nL S) i) 13 (nL S) o) 14 (nL S) t) 4 12 k = _
    exact (inc_t (by omega)).trans ((updC_nt (by omega)).trans ((updC_nt (by omega)).trans (updC_if.trans (by rw [updC_nt (by omega)]))))
  have q13 : ∀ k, (rulS S (tC W p - 262) i o t l1 l2).1 13 k = if k = nL S then o else S.1 13 k := fun k => by
    show incN (updC (updC (updC (updC S.1 11 (nL S) ((tC W p - 262 : Nat) : Int)) 12 (nL S) i) 13 (nL S) o) 14 (nL S) t) 4 13 k = _
    exact (inc_t (by omega)).trans ((updC_nt (by omega)).trans (updC_if.trans (by rw [updC_nt (by omega), updC_nt (by omega)])))
  have q14 : ∀ k, (rulS S (tC W p - 262) i o t l1 l2).1 14 k = if k = nL S then t else S.1 14 k := fun k => by
    show incN (updC (updC (updC (updC S.1 11 (nL S) ((tC W p - 262 : Nat) : Int)) 12 (nL S) i) 13 (nL S) o) 14 (nL S) t) 4 14 k = _
    exact (inc_t (by omega)).trans (updC_if.trans (by rw [updC_nt (by omega), updC_nt (by omega), updC_nt (by omega)]))
  have e2 : ∀ j, (rulS S (tC W p - 262) i o t l1 l2).2 j = if j = 2 * nL S then l1 else if j = 2 * nL S + 1 then l2 else S.2 j := fun _ => rfl
  refine ⟨hW.ext hW.1 hW.2.1 hW.2.2.1 hW.2.2.2.1 ⟨by rw [e0]; omega, ?_⟩ hW.2.2.2.2.2.1 (Nat.le_refl _) (Nat.le_refl _) (Nat.le_refl _) hW.2.2.2.2.2.2.1 hW.2.2.2.2.2.2.2.1 (fun q hq => Or.inl ⟨hq, rfl⟩) (fun q hq => Or.inl ⟨hq, rfl⟩) (fun k hk => Or.inl ⟨hk, rfl, rfl, rfl, rfl⟩) (fun k hk => ?_), hD, by have := s5.1; have := s5.2.1; omega, s5.2.2.1, s5.2.2.2.1, ?_⟩
  · rw [e0]
    show S.1 0 4 + 1 = _
    rw [hR.2]
    omega
  · rw [e0] at hk
    by_cases h : k = nL S
    · refine Or.inr ?_
      have c1 : (rulS S (tC W p - 262) i o t l1 l2).2 (2 * k) = l1 := by rw [e2, if_pos (by omega)]
      have c2 : (rulS S (tC W p - 262) i o t l1 l2).2 (2 * k + 1) = l2 := by rw [e2, if_neg (by omega), if_pos (by omega)]
      unfold RuV
      rw [q11, q12, q13, q14, if_pos h, if_pos h, if_pos h, if_pos h, c1, c2]
      refine ⟨by omega, by show 0 ≤ (i : Int) ∧ (i : Int) < (nW S : Int); omega, fun g => s3.2.2.2.1 (by omega), fun g => s3.2.2.2.2.1 (by omega), fun g => ?_, fun q hq => (s5.2.2.2.2.1 q hq).mo (Nat.le_refl _) (Nat.le_refl _) (Nat.le_refl _), s5.2.2.2.2.2 [], fun g => ?_⟩
      · have := s3.2.2.2.2.2.1 (by omega)
        exact ⟨this.1, this.2.1, this.2.2.1, this.2.2.2.1, this.2.2.2.2⟩
      · have := s3.2.2.2.2.2.2 (by omega)
        exact ⟨fun q hq => (this.1 q hq).mo (Nat.le_refl _) (Nat.le_refl _) (Nat.le_refl _), this.2⟩
    · refine Or.inl ⟨by omega, ?_, ?_, ?_, ?_, ?_, ?_⟩
      · rw [q11, if_neg h]
      · rw [q12, if_neg h]
      · rw [q13, if_neg h]
      · rw [q14, if_neg h]
      · rw [e2, if_neg (by omega), if_neg (by omega)]
      · rw [e2, if_neg (by omega), if_neg (by omega)]
  · show S.1 0 0 + S.1 0 1 + S.1 0 2 + S.1 0 3 + (S.1 0 4 + 1) + S.1 0 5 = cSum S + 1
    unfold cSum
    omega
end KEEP
theorem srt_c {c : Nat} : (srtT c = 0 ↔ c = 256) ∧ (srtT c = 1 ↔ c = 257) ∧ (srtT c = 2 ↔ c = 258) ∧ (srtT c = 3 ↔ c = 260) ∧ (srtT c = 5 ↔ c = 261) ∧ (srtT c = 4 ↔ 262 ≤ c ∧ c ≤ 267) ∧ srtT c ≤ 6 := by
  unfold srtT
  by_cases h0 : c = 256
  · rw [if_pos h0]; omega
  rw [if_neg h0]
  by_cases h1 : c = 257
  · rw [if_pos h1]; omega
  rw [if_neg h1]
  by_cases h2 : c = 258
  · rw [if_pos h2]; omega
  rw [if_neg h2]
  by_cases h3 : c = 260
  · rw [if_pos h3]; omega
  rw [if_neg h3]
  by_cases h4 : c = 261
  · rw [if_pos h4]; omega
  rw [if_neg h4]
  by_cases h5 : 262 ≤ c ∧ c ≤ 267
  · rw [if_pos h5]; omega
  · rw [if_neg h5]; omega
theorem stm_wf {W : TXT} {S : STY} {p : Nat} {r : STY × Nat} (hT : TxO W) (hW : WfY S) (hD : WfD S) (hp : p ≤ W.2) (h3 : tC W p ≠ 303) (h : stmT W S p = .ok r) : StK W S p r.1 r.2 := by
  unfold stmT at h
  split at h
  · cases h
  · next c1 =>
    split at h
    · cases h
    · next c2 =>
      obtain ⟨⟨S1, p1⟩, g1, h⟩ := bnX_ok h
      obtain ⟨p2, g2, h⟩ := bnX_ok h
      cases h
      have hs := srt_c (c := tC W p)
      have key : StK W S p S1 p1 := by
        unfold bodT at g1
        have hq : srtT (tC W p) = 0 ∨ srtT (tC W p) = 1 ∨ srtT (tC W p) = 2 ∨ srtT (tC W p) = 3 ∨ srtT (tC W p) = 4 ∨ srtT (tC W p) = 5 := by omega
        rcases hq with e | e | e | e | e | e
        · rw [e] at g1 c2
          have c2 : ¬ (8 : Int) ≤ S.1 0 0 := c2
          exact roo_wf hT hW hD hp (by omega) h3 (by omega) g1
        · rw [e] at g1 c2
          have c2 : ¬ (16 : Int) ≤ S.1 0 1 := c2
          exact doo_wf hT hW hD hp (by omega) h3 (by omega) g1
        · rw [e] at g1 c2
          have c2 : ¬ (8 : Int) ≤ S.1 0 2 := c2
          exact who_wf hT hW hD hp (by omega) h3 (by omega) g1
        · rw [e] at g1 c2
          have c2 : ¬ (8 : Int) ≤ S.1 0 3 := c2
          exact thi_wf hT hW hD hp (by omega) h3 (by omega) g1
        · rw [e] at g1 c2
          have c2 : ¬ (30 : Int) ≤ S.1 0 4 := c2
          exact rul_wf hT hW hD hp h3 (by omega) (by omega) (by omega) g1
        · rw [e] at g1 c2
          have c2 : ¬ (12 : Int) ≤ S.1 0 5 := c2
          exact say_wf hT hW hD hp (by omega) h3 (by omega) g1
      obtain ⟨k1, k2, k3, k4, k5, k6⟩ := key
      have s := exp_st hT k4 (by omega) (by omega) g2
      exact ⟨k1, k2, by show p < p2; omega, s.2.1, s.2.2, k6⟩
