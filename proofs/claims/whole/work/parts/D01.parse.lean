/-! WHAT A TEXT TELLS: what is known of what is read -/
theorem tok_rg {W : TXT} {p : Nat} (hp : p ≤ W.2) (hT : TxO W) : p ≤ tE W p ∧ tE W p ≤ W.2 := by
  have h := tok_pr hp hT
  exact ⟨Nat.le_trans h.1 h.2.1, h.2.2.1⟩
theorem tok_lt {W : TXT} {p : Nat} (hp : p ≤ W.2) (hT : TxO W) (h1 : tC W p ≠ 302) (h2 : tC W p ≠ 303) : p < tE W p := by
  have h := tok_pr hp hT
  exact Nat.lt_of_le_of_lt h.1 (h.2.2.2.1 h1 h2)
theorem bnX_ok {α β : Type} {x : Except PF α} {f : α → Except PF β} {y : β} (h : bnX x f = .ok y) : ∃ a, x = .ok a ∧ f a = .ok y := by
  cases x with
  | error e => exact absurd h (by intro g; cases g)
  | ok a => exact ⟨a, rfl, h⟩
theorem got_ok {W : TXT} {p p1 : Nat} (h : gotT W p = .ok p1) : p1 = tE W p ∧ tC W p1 ≠ 303 := by
  unfold gotT at h
  split at h
  · cases h
  · next g =>
    cases h
    exact ⟨rfl, g⟩
theorem exp_ok {W : TXT} {c p p1 : Nat} (h : expT W c p = .ok p1) : tC W p = c ∧ p1 = tE W p ∧ tC W p1 ≠ 303 := by
  unfold expT at h
  split at h
  · cases h
  · next g => exact ⟨Classical.not_not.mp g, got_ok h⟩
theorem opn_ok {W : TXT} {c k p p1 : Nat} (h : opnT W c k p = .ok p1) : tC W p = c ∧ k ≠ 0 ∧ p1 = tE W p ∧ tC W p1 ≠ 303 := by
  unfold opnT at h
  split at h
  · cases h
  · next g =>
    split at h
    · cases h
    · next g2 => exact ⟨Classical.not_not.mp g, g2, got_ok h⟩
theorem nmd_le {N : SC} {kd w : Nat} : nmd N kd w ≤ cntN N kd := lst_le _ _
theorem ask_ok {W : TXT} {N : SC} {kd p : Nat} {but : Int} {r : Nat × Nat} (h : askT W N kd but p = .ok r) : tC W p = 300 ∧ r.1 = nmd N kd (tV W p) ∧ r.1 < cntN N kd ∧ ((r.1 : Nat) : Int) ≠ but ∧ r.2 = tE W p ∧ tC W r.2 ≠ 303 := by
  unfold askT at h
  split at h
  · cases h
  · next g =>
    split at h
    · cases h
    · next g2 =>
      obtain ⟨p1, h1, h2⟩ := bnX_ok h
      cases h2
      have h3 := nmd_le (N := N) (kd := kd) (w := tV W p)
      have h4 := got_ok h1
      exact ⟨Classical.not_not.mp g, rfl, by show nmd N kd (tV W p) < _; omega, fun e => g2 (Or.inr e), h4.1, h4.2⟩
theorem num_ok {W : TXT} {lo p : Nat} {r : Nat × Nat} (h : numT W lo p = .ok r) : tC W p = 301 ∧ r.1 = tV W p ∧ lo ≤ r.1 ∧ r.1 < 180 ∧ r.2 = tE W p ∧ tC W r.2 ≠ 303 := by
  unfold numT at h
  split at h
  · cases h
  · next g =>
    split at h
    · cases h
    · next g2 =>
      obtain ⟨p1, h1, h2⟩ := bnX_ok h
      cases h2
      have h4 := got_ok h1
      exact ⟨Classical.not_not.mp g, rfl, by show lo ≤ tV W p; omega, by show tV W p < 180; omega, h4.1, h4.2⟩
theorem giv_ok {W : TXT} {N : SC} {p : Nat} {r : Nat × Nat} (h : givT W N p = .ok r) : tC W p = 300 ∧ r.1 = tV W p ∧ ¬ hasN N r.1 ∧ r.2 = tE W p ∧ tC W r.2 ≠ 303 := by
  unfold givT at h
  split at h
  · cases h
  · next g =>
    split at h
    · cases h
    · next g2 =>
      obtain ⟨p1, h1, h2⟩ := bnX_ok h
      cases h2
      have h4 := got_ok h1
      exact ⟨Classical.not_not.mp g, rfl, g2, h4.1, h4.2⟩
/-- what a piece that is read keeps to -/
abbrev PrE (W : TXT) (S : STY) (ty : Bool) (p p1 : Nat) (l : List (Nat × Nat)) : Prop := p + l.length ≤ p1 ∧ 1 ≤ l.length ∧ p1 ≤ W.2 ∧ tC W p1 ≠ 303 ∧ (∀ q, q ∈ l → OkQ S q) ∧ ∀ ts, tyL l ts = some (ty :: ts)
abbrev PrO (W : TXT) (S : STY) (ty : Bool) (P : PRS) : Prop := ∀ p l p1, p ≤ W.2 → tC W p ≠ 303 → P p = .ok (l, p1) → PrE W S ty p p1 l
theorem PrE.one {W : TXT} {S : STY} {ty : Bool} {p p1 : Nat} {q : Nat × Nat} (h1 : p < p1) (h2 : p1 ≤ W.2) (h3 : tC W p1 ≠ 303) (h4 : OkQ S q) (h5 : ∀ ts, tySt q ts = some (ty :: ts)) : PrE W S ty p p1 [q] := by
  refine ⟨by show p + 1 ≤ p1; omega, Nat.le_refl 1, h2, h3, fun q' hq => ?_, fun ts => ?_⟩
  · rw [List.mem_singleton] at hq
    rw [hq]
    exact h4
  · exact tyL_snoc (l := []) rfl (h5 ts)
theorem PrE.bin {W : TXT} {S : STY} {ty tz : Bool} {p p1 p2 p3 : Nat} {l l1 : List (Nat × Nat)} {op : Nat} (h : PrE W S ty p p1 l) (h12 : p1 < p2) (h' : PrE W S ty p2 p3 l1) (hq : OkQ S (op, 0)) (ht : ∀ ts, tySt (op, 0) (ty :: ty :: ts) = some (tz :: ts)) : PrE W S tz p p3 (l ++ (l1 ++ [(op, 0)])) := by
  obtain ⟨a1, a2, a3, a4, a5, a6⟩ := h
  obtain ⟨b1, b2, b3, b4, b5, b6⟩ := h'
  have e : (l ++ (l1 ++ [(op, 0)])).length = l.length + (l1.length + 1) := by
    rw [List.length_append, List.length_append]
    rfl
  refine ⟨by omega, by omega, b3, b4, fun q hq' => ?_, fun ts => ?_⟩
  · rw [List.mem_append, List.mem_append, List.mem_singleton] at hq'
    rcases hq' with h | h | h
    · exact a5 q h
    · exact b5 q h
    · rw [h]
      exact hq
  · rw [← List.append_assoc]
    refine tyL_snoc (t1 := ty :: ty :: ts) ?_ (ht ts)
    rw [tyL_app, a6]
    exact b6 _
theorem PrE.to {W : TXT} {S : STY} {ty : Bool} {p p1 p2 p3 : Nat} {l : List (Nat × Nat)} (h : PrE W S ty p1 p2 l) (h1 : p ≤ p1) (h2 : p2 ≤ p3) (h3 : p3 ≤ W.2) (h4 : tC W p3 ≠ 303) : PrE W S ty p p3 l := by
  obtain ⟨a1, a2, a3, a4, a5, a6⟩ := h
  exact ⟨by omega, a2, h3, h4, a5, a6⟩
abbrev OpO (S : STY) (ty : Bool) (f : Nat → Nat) : Prop := ∀ c, f c ≠ 0 → c ≠ 302 ∧ c ≠ 303 ∧ OkQ S (f c, 0) ∧ ∀ ts, tySt (f c, 0) (ty :: ty :: ts) = some (ty :: ts)
theorem chnL_pr {W : TXT} {S : STY} {ty : Bool} {f : Nat → Nat} {P : PRS} (hT : TxO W) (hP : PrO W S ty P) (hf : OpO S ty f) : ∀ (F : Nat) (l0 : List (Nat × Nat)) (p0 p : Nat) (l : List (Nat × Nat)) (p1 : Nat), PrE W S ty p0 p l0 → chnL W f P F l0 p = .ok (l, p1) → PrE W S ty p0 p1 l
  | 0, l0, p0, p, l, p1, h0, h => by
    cases h
    exact h0
  | F + 1, l0, p0, p, l, p1, h0, h => by
    have h : (if f (tC W p) = 0 then Except.ok (l0, p) else bnX (gotT W p) (fun p1 => bnX (P p1) (fun r => chnL W f P F (l0 ++ (r.1 ++ [(f (tC W p), 0)])) r.2))) = Except.ok (l, p1) := h
    split at h
    · cases h
      exact h0
    · next hne =>
      obtain ⟨p2, g1, h⟩ := bnX_ok h
      obtain ⟨⟨l1, p3⟩, g2, h⟩ := bnX_ok h
      have hp := h0.2.2.1
      have hk := tok_rg hp hT
      obtain ⟨e1, e2⟩ := got_ok g1
      obtain ⟨o1, o2, o3, o4⟩ := hf _ hne
      have hlt := tok_lt hp hT o1 o2
      have h1 := hP p2 l1 p3 (by omega) e2 g2
      exact chnL_pr hT hP hf F _ p0 p3 l p1 (h0.bin (by omega) h1 o3 o4) h
theorem chnT_pr {W : TXT} {S : STY} {ty : Bool} {f : Nat → Nat} {P : PRS} (hT : TxO W) (hP : PrO W S ty P) (hf : OpO S ty f) : PrO W S ty (chnT W f P) := by
  intro p l p1 hp h3 h
  obtain ⟨⟨l0, p0⟩, g1, h⟩ := bnX_ok h
  exact chnL_pr hT hP hf 1200 l0 p p0 l p1 (hP p l0 p0 hp h3 g1) h
abbrev WfN (S : STY) : Prop := nR S ≤ 8 ∧ nW S ≤ 8 ∧ nT S ≤ 8
theorem okq_op {S : STY} {op : Nat} (h1 : 15 ≤ op) (h2 : op ≤ 27) : OkQ S (op, 0) := by
  refine ⟨fun h => ?_, fun h => ?_, fun h => ?_, fun h => ?_, fun h => ?_, fun h => ?_, fun h => ?_, fun h => ?_, h2⟩ <;> (dsimp only at h; omega)
theorem opA_o {S : STY} : OpO S false opA := by
  intro c hc
  unfold opA at hc ⊢
  by_cases h : c = 43
  · rw [if_pos h]
    exact ⟨by omega, by omega, okq_op (by omega) (by omega), fun ts => ty_bin2 (by omega) (by omega) ts⟩
  · rw [if_neg h] at hc ⊢
    by_cases h : c = 45
    · rw [if_pos h]
      exact ⟨by omega, by omega, okq_op (by omega) (by omega), fun ts => ty_bin2 (by omega) (by omega) ts⟩
    · rw [if_neg h] at hc
      exact absurd rfl hc
theorem opM_o {S : STY} : OpO S false opM := by
  intro c hc
  unfold opM at hc ⊢
  by_cases h : c = 42
  · rw [if_pos h]
    exact ⟨by omega, by omega, okq_op (by omega) (by omega), fun ts => ty_bin2 (by omega) (by omega) ts⟩
  · rw [if_neg h] at hc ⊢
    by_cases h : c = 47
    · rw [if_pos h]
      exact ⟨by omega, by omega, okq_op (by omega) (by omega), fun ts => ty_bin2 (by omega) (by omega) ts⟩
    · rw [if_neg h] at hc ⊢
      by_cases h : c = 37
      · rw [if_pos h]
        exact ⟨by omega, by omega, okq_op (by omega) (by omega), fun ts => ty_bin2 (by omega) (by omega) ts⟩
      · rw [if_neg h] at hc
        exact absurd rfl hc
theorem opB_o {S : STY} : OpO S true opB := by
  intro c hc
  unfold opB at hc ⊢
  by_cases h : c = 270
  · rw [if_pos h]
    exact ⟨by omega, by omega, okq_op (by omega) (by omega), fun ts => ty_log2 (Or.inl rfl) ts⟩
  · rw [if_neg h] at hc
    exact absurd rfl hc
theorem opO_o {S : STY} : OpO S true opO := by
  intro c hc
  unfold opO at hc ⊢
  by_cases h : c = 269
  · rw [if_pos h]
    exact ⟨by omega, by omega, okq_op (by omega) (by omega), fun ts => ty_log2 (Or.inr rfl) ts⟩
  · rw [if_neg h] at hc
    exact absurd rfl hc
theorem opC_o {S : STY} {c : Nat} (hc : opC c ≠ 0) : c ≠ 302 ∧ c ≠ 303 ∧ 22 ≤ opC c ∧ opC c ≤ 24 := by
  unfold opC at hc ⊢
  by_cases h : c = 60
  · rw [if_pos h]; omega
  · rw [if_neg h] at hc ⊢
    by_cases h : c = 62
    · rw [if_pos h]; omega
    · rw [if_neg h] at hc ⊢
      by_cases h : c = 61
      · rw [if_pos h]; omega
      · rw [if_neg h] at hc
        exact absurd rfl hc
theorem parT_pr {W : TXT} {S : STY} {k : Nat} {I : PRS} (hT : TxO W) (hI : k ≠ 0 → PrO W S false I) : PrO W S false (parT W k I) := by
  intro p l p1 hp h3 h
  obtain ⟨p2, g1, h⟩ := bnX_ok h
  obtain ⟨⟨l0, p4⟩, g2, h⟩ := bnX_ok h
  obtain ⟨p5, g3, h⟩ := bnX_ok h
  cases h
  obtain ⟨-, k0, e2, e3⟩ := opn_ok g1
  obtain ⟨-, e5, e6⟩ := exp_ok g3
  have t1 := tok_rg hp hT
  have i1 := hI k0 p2 l0 p4 (by omega) e3 g2
  have t2 := tok_rg i1.2.2.1 hT
  exact i1.to (by omega) (by dsimp only at e5; omega) (by dsimp only at e5; omega) e6
theorem paiT_pr {W : TXT} {S : STY} {k : Nat} {I : PRS} (hT : TxO W) (hI : k ≠ 0 → PrO W S false I) : PrO W S false (paiT W k I) := by
  intro p l p1 hp h3 h
  obtain ⟨p2, g1, h⟩ := bnX_ok h
  obtain ⟨p3, g2, h⟩ := bnX_ok h
  obtain ⟨⟨l0, p4⟩, g3, h⟩ := bnX_ok h
  obtain ⟨p5, g4, h⟩ := bnX_ok h
  obtain ⟨⟨l1, p6⟩, g5, h⟩ := bnX_ok h
  obtain ⟨p7, g6, h⟩ := bnX_ok h
  cases h
  obtain ⟨d1, d2⟩ := got_ok g1
  obtain ⟨-, k0, e2, e3⟩ := opn_ok g2
  obtain ⟨c4, e5, e6⟩ := exp_ok g4
  obtain ⟨-, e7, e8⟩ := exp_ok g6
  dsimp only at c4 e5 e7
  have t1 := tok_rg hp hT
  have t2 := tok_rg (W := W) (p := p2) (by omega) hT
  have i1 := hI k0 p3 l0 p4 (by omega) e3 g3
  have t3 := tok_rg i1.2.2.1 hT
  have i2 := hI k0 p5 l1 p6 (by omega) e6 g5
  have t4 := tok_rg i2.2.2.1 hT
  have h4 := tok_lt i1.2.2.1 hT (by omega) (by omega)
  have hb := i1.bin (op := if tC W p = 281 then 20 else 21) (tz := false) (by omega) i2 (by split <;> exact okq_op (by omega) (by omega)) (fun ts => by split <;> exact ty_bin2 (by omega) (by omega) ts)
  exact hb.to (by omega) (by omega) (by omega) e8
theorem prtT_pr {W : TXT} {S : STY} {k : Nat} {I : PRS} (hT : TxO W) (hI : k ≠ 0 → PrO W S false I) : PrO W S false (prtT W S.1 k I) := by
  intro p l p1 hp h3 h
  have t1 := tok_rg hp hT
  unfold prtT at h
  split at h
  · next hc =>
    obtain ⟨p2, g1, h⟩ := bnX_ok h
    cases h
    obtain ⟨d1, d2⟩ := got_ok g1
    have := tok_lt hp hT (by omega) (by omega)
    have h9 := (tok_pr hp hT).2.2.2.2.2.2.1 hc
    exact PrE.one (by omega) (by omega) d2 ⟨fun _ => h9, fun h => absurd h (by omega), fun h => absurd h (by omega), fun h => absurd h (by omega), fun h => absurd h (by omega), fun h => absurd h (by omega), fun h => absurd h (by omega), fun h => absurd h (by omega), by omega⟩ (fun ts => rfl)
  · split at h
    · next hc =>
      obtain ⟨p2, g1, h⟩ := bnX_ok h
      cases h
      obtain ⟨d1, d2⟩ := got_ok g1
      have := tok_lt hp hT (by omega) (by omega)
      exact PrE.one (by omega) (by omega) d2 ⟨fun h => absurd h (by omega), fun h => absurd h (by omega), fun h => absurd h (by omega), fun h => absurd h (by omega), fun h => absurd h (by omega), fun h => absurd h (by omega), fun h => absurd h (by omega), fun _ => rfl, by omega⟩ (fun ts => rfl)
    · split at h
      · next hc =>
        obtain ⟨p2, g1, h⟩ := bnX_ok h
        obtain ⟨⟨i, p3⟩, g2, h⟩ := bnX_ok h
        cases h
        obtain ⟨d1, d2⟩ := got_ok g1
        obtain ⟨-, -, a3, -, a5, a6⟩ := ask_ok g2
        dsimp only at a5
        have := tok_lt hp hT (by omega) (by omega)
        have t2 := tok_rg (W := W) (p := p2) (by omega) hT
        exact PrE.one (by omega) (by omega) a6 ⟨fun h => absurd h (by omega), fun _ => a3, fun h => absurd h (by omega), fun h => absurd h (by omega), fun h => absurd h (by omega), fun h => absurd h (by omega), fun h => absurd h (by omega), fun h => absurd h (by omega), by omega⟩ (fun ts => rfl)
      · split at h
        · exact paiT_pr hT hI p l p1 hp h3 h
        · exact parT_pr hT hI p l p1 hp h3 h
theorem sumG_pr {W : TXT} {S : STY} {k : Nat} {I : PRS} (hT : TxO W) (hI : k ≠ 0 → PrO W S false I) : PrO W S false (sumG W S.1 k I) := chnT_pr hT (chnT_pr hT (prtT_pr hT hI) opM_o) opA_o
theorem sumT_pr {W : TXT} {S : STY} (hT : TxO W) : ∀ k, PrO W S false (sumT W S.1 k)
  | 0 => sumG_pr hT (fun h => absurd rfl h)
  | k + 1 => sumG_pr hT (fun _ => sumT_pr hT k)
theorem okq_f {S : STY} {op i o : Nat} (h1 : 4 ≤ op) (h2 : op ≤ 9) (hN : WfN S) (hi : i < nW S) (ho : o < 8) (h4 : op = 4 → o < nR S) (h5 : op = 5 → o < nT S) (h6 : op = 6 ∨ op = 9 → o < nW S ∧ i ≠ o) (h7 : op = 7 ∨ op = 8 → o = 0) : OkQ S (op, 8 * i + o) := by
  obtain ⟨n1, n2, n3⟩ := hN
  have e1 : (8 * i + o) / 8 = i := by omega
  have e2 : (8 * i + o) % 8 = o := by omega
  refine ⟨fun h => ?_, fun h => ?_, fun h => ?_, fun h => ?_, fun h => ?_, fun h => ?_, fun h => ?_, fun h => ?_, ?_⟩ <;> dsimp only at *
  · omega
  · omega
  · rw [e1]; omega
  · rw [e2]; exact h4 h
  · rw [e2]; exact h5 h
  · rw [e1, e2]; exact h6 h
  · rw [e2]; exact h7 (by omega)
  · omega
  · omega
theorem simT_pr {W : TXT} {S : STY} (hT : TxO W) (hN : WfN S) : ∀ p l p1, p ≤ W.2 → 272 ≤ tC W p → tC W p ≤ 278 → simT W S.1 p = .ok (l, p1) → PrE W S true p p1 l := by
  intro p l p1 hp hc1 hc2 h
  have t1 := tok_rg hp hT
  unfold simT at h
  obtain ⟨p2, g1, h⟩ := bnX_ok h
  obtain ⟨d1, d2⟩ := got_ok g1
  have := tok_lt hp hT (by omega) (by omega)
  split at h
  · next hc =>
    cases h
    exact PrE.one (by omega) (by omega) d2 ⟨fun h => absurd h (by omega), fun h => absurd h (by omega), fun h => absurd h (by omega), fun h => absurd h (by omega), fun h => absurd h (by omega), fun h => absurd h (by omega), fun _ => rfl, fun _ => rfl, by omega⟩ (fun ts => rfl)
  · next hc =>
    obtain ⟨⟨i, p3⟩, g2, h⟩ := bnX_ok h
    obtain ⟨-, -, a3, -, a5, a6⟩ := ask_ok g2
    dsimp only at a3 a5 a6 h
    have a3 : i < nW S := a3
    have t2 := tok_rg (W := W) (p := p2) (by omega) hT
    split at h
    · next hc7 =>
      cases h
      refine PrE.one (by omega) (by omega) a6 ?_ (fun ts => ?_)
      · have := okq_f (S := S) (op := tC W p - 269) (i := i) (o := 0) (by omega) (by omega) hN a3 (by omega) (by omega) (by omega) (by omega) (by omega)
        exact this
      · rw [ty_9 (by dsimp only; omega), decide_eq_true (by dsimp only; omega)]
    · next hc7 =>
      obtain ⟨⟨o, p4⟩, g3, h⟩ := bnX_ok h
      obtain ⟨-, -, b3, b4, b5, b6⟩ := ask_ok g3
      dsimp only at b3 b4 b5 b6 h
      have t3 := tok_rg (W := W) (p := p3) (by omega) hT
      cases h
      refine PrE.one (by omega) (by omega) b6 ?_ (fun ts => ?_)
      · have n1 := hN.1
        have n2 := hN.2.1
        have n3 := hN.2.2
        by_cases h3 : tC W p = 273
        · have b3 : o < nR S := by rw [show kdF (tC W p) = 0 by unfold kdF; rw [if_pos h3]] at b3; exact b3
          exact okq_f (by omega) (by omega) hN a3 (by omega) (fun _ => b3) (by omega) (by omega) (by omega)
        · by_cases h4 : tC W p = 274
          · have b3 : o < nT S := by rw [show kdF (tC W p) = 2 by unfold kdF; rw [if_neg h3, if_pos h4]] at b3; exact b3
            exact okq_f (by omega) (by omega) hN a3 (by omega) (by omega) (fun _ => b3) (by omega) (by omega)
          · have b3 : o < nW S := by rw [show kdF (tC W p) = 1 by unfold kdF; rw [if_neg h3, if_neg h4]] at b3; exact b3
            have b4 : (o : Int) ≠ (i : Int) := by rw [show buF (tC W p) i = (i : Int) by unfold buF; rw [if_pos (by omega)]] at b4; exact b4
            exact okq_f (by omega) (by omega) hN a3 (by omega) (by omega) (by omega) (fun _ => ⟨b3, by omega⟩) (by omega)
      · rw [ty_9 (by dsimp only; omega), decide_eq_true (by dsimp only; omega)]
theorem brkT_pr {W : TXT} {S : STY} {k : Nat} {I : PRS} (hT : TxO W) (hI : k ≠ 0 → PrO W S true I) : PrO W S true (brkT W k I) := by
  intro p l p1 hp h3 h
  obtain ⟨p2, g1, h⟩ := bnX_ok h
  obtain ⟨⟨l0, p4⟩, g2, h⟩ := bnX_ok h
  obtain ⟨p5, g3, h⟩ := bnX_ok h
  cases h
  obtain ⟨-, k0, e2, e3⟩ := opn_ok g1
  obtain ⟨-, e5, e6⟩ := exp_ok g3
  have t1 := tok_rg hp hT
  have i1 := hI k0 p2 l0 p4 (by omega) e3 g2
  have t2 := tok_rg i1.2.2.1 hT
  exact i1.to (by omega) (by dsimp only at e5; omega) (by dsimp only at e5; omega) e6
theorem cmpT_pr {W : TXT} {S : STY} {Sm : PRS} (hT : TxO W) (hS : PrO W S false Sm) : PrO W S true (cmpT W Sm) := by
  intro p l p1 hp h3 h
  obtain ⟨⟨l0, p2⟩, g1, h⟩ := bnX_ok h
  dsimp only at h
  split at h
  · cases h
  · next hc =>
    obtain ⟨p3, g2, h⟩ := bnX_ok h
    obtain ⟨⟨l1, p4⟩, g3, h⟩ := bnX_ok h
    cases h
    obtain ⟨d1, d2⟩ := got_ok g2
    have i1 := hS p l0 p2 hp h3 g1
    have t2 := tok_rg i1.2.2.1 hT
    have o1 := opC_o (S := S) hc
    have := tok_lt i1.2.2.1 hT o1.1 o1.2.1
    have i2 := hS p3 l1 p4 (by omega) d2 g3
    exact i1.bin (by omega) i2 (okq_op (by omega) (by omega)) (fun ts => by rw [ty_bin2 (by omega) (by omega), decide_eq_true (by omega)])
theorem fctT_pr {W : TXT} {S : STY} {Bd : PRS} (hT : TxO W) (hB : PrO W S true Bd) : ∀ F, PrO W S true (fctT W Bd F)
  | 0 => hB
  | F + 1 => by
    intro p l p1 hp h3 h
    have h : (if tC W p = 271 then bnX (gotT W p) (fun p1 => bnX (fctT W Bd F p1) (fun r => .ok (r.1 ++ [(27, 0)], r.2))) else Bd p) = Except.ok (l, p1) := h
    split at h
    · next hc =>
      obtain ⟨p2, g1, h⟩ := bnX_ok h
      obtain ⟨⟨l0, p3⟩, g2, h⟩ := bnX_ok h
      cases h
      obtain ⟨d1, d2⟩ := got_ok g1
      have t1 := tok_rg hp hT
      have := tok_lt hp hT (by omega) (by omega)
      obtain ⟨a1, a2, a3, a4, a5, a6⟩ := fctT_pr hT hB F p2 l0 p3 (by omega) d2 g2
      refine ⟨by rw [List.length_append]; show p + (l0.length + 1) ≤ p3; omega, by rw [List.length_append]; show 1 ≤ l0.length + 1; omega, a3, a4, fun q hq => ?_, fun ts => tyL_snoc (a6 ts) rfl⟩
      rw [List.mem_append, List.mem_singleton] at hq
      rcases hq with h | h
      · exact a5 q h
      · rw [h]
        exact okq_op (by omega) (by omega)
    · exact hB p l p1 hp h3 h
theorem fbdT_pr {W : TXT} {S : STY} {k : Nat} {I Sm : PRS} (hT : TxO W) (hN : WfN S) (hI : k ≠ 0 → PrO W S true I) (hS : PrO W S false Sm) : PrO W S true (fbdT W S.1 k I Sm) := by
  intro p l p1 hp h3 h
  unfold fbdT at h
  split at h
  · next hc => exact simT_pr hT hN p l p1 hp hc.1 hc.2 h
  · split at h
    · exact brkT_pr hT hI p l p1 hp h3 h
    · exact cmpT_pr hT hS p l p1 hp h3 h
theorem tstG_pr {W : TXT} {S : STY} {k : Nat} {I : PRS} (hT : TxO W) (hN : WfN S) (hI : k ≠ 0 → PrO W S true I) : PrO W S true (tstG W S.1 k I) := chnT_pr hT (chnT_pr hT (fctT_pr hT (fbdT_pr hT hN hI (sumT_pr hT k)) 1200) opB_o) opO_o
theorem tstT_pr {W : TXT} {S : STY} (hT : TxO W) (hN : WfN S) : ∀ k, PrO W S true (tstT W S.1 k)
  | 0 => tstG_pr hT hN (fun h => absurd rfl h)
  | k + 1 => tstG_pr hT hN (fun _ => tstT_pr hT hN k)
/-! what stands behind a piece goes on with none of its signs -/
abbrev EnP (W : TXT) (g : Nat → Nat) (P : PRS) : Prop := ∀ p l p1, p ≤ W.2 → tC W p ≠ 303 → P p = .ok (l, p1) → g (tC W p1) = 0
theorem chnL_en {W : TXT} {S : STY} {ty : Bool} {f : Nat → Nat} {P : PRS} (hT : TxO W) (hP : PrO W S ty P) (hf : OpO S ty f) : ∀ (F : Nat) (l0 : List (Nat × Nat)) (p : Nat) (l : List (Nat × Nat)) (p1 : Nat), p ≤ W.2 → tC W p ≠ 303 → W.2 < p + F → chnL W f P F l0 p = .ok (l, p1) → f (tC W p1) = 0 ∧ ∀ g, EnP W g P → g (tC W p) = 0 → g (tC W p1) = 0
  | 0, l0, p, l, p1, hp, h3, hF, h => absurd hF (by omega)
  | F + 1, l0, p, l, p1, hp, h3, hF, h => by
    have h : (if f (tC W p) = 0 then Except.ok (l0, p) else bnX (gotT W p) (fun p1 => bnX (P p1) (fun r => chnL W f P F (l0 ++ (r.1 ++ [(f (tC W p), 0)])) r.2))) = Except.ok (l, p1) := h
    split at h
    · next h0 =>
      cases h
      exact ⟨h0, fun _ _ h => h⟩
    · next hne =>
      obtain ⟨p2, g1, h⟩ := bnX_ok h
      obtain ⟨⟨l1, p3⟩, g2, h⟩ := bnX_ok h
      have hk := tok_rg hp hT
      obtain ⟨e1, e2⟩ := got_ok g1
      obtain ⟨o1, o2, -⟩ := hf _ hne
      have hlt := tok_lt hp hT o1 o2
      have h1 := hP p2 l1 p3 (by omega) e2 g2
      dsimp only at h
      have h2 := chnL_en hT hP hf F _ p3 l p1 h1.2.2.1 h1.2.2.2.1 (by omega) h
      exact ⟨h2.1, fun g hg _ => h2.2 g hg (hg p2 l1 p3 (by omega) e2 g2)⟩
theorem chnT_en {W : TXT} {S : STY} {ty : Bool} {f : Nat → Nat} {P : PRS} (hT : TxO W) (hP : PrO W S ty P) (hf : OpO S ty f) : EnP W f (chnT W f P) ∧ ∀ g, EnP W g P → EnP W g (chnT W f P) := by
  have key : ∀ p l p1, p ≤ W.2 → tC W p ≠ 303 → chnT W f P p = .ok (l, p1) → f (tC W p1) = 0 ∧ ∀ g, EnP W g P → g (tC W p1) = 0 := by
    intro p l p1 hp h3 h
    obtain ⟨⟨l0, p0⟩, g1, h⟩ := bnX_ok h
    have h1 := hP p l0 p0 hp h3 g1
    dsimp only at h
    have h2 := chnL_en hT hP hf 1200 l0 p0 l p1 h1.2.2.1 h1.2.2.2.1 (by have := hT.1; have := h1.1; have := h1.2.1; omega) h
    exact ⟨h2.1, fun g hg => h2.2 g hg (hg p l0 p0 hp h3 g1)⟩
  exact ⟨fun p l p1 hp h3 h => (key p l p1 hp h3 h).1, fun g hg p l p1 hp h3 h => (key p l p1 hp h3 h).2 g hg⟩
