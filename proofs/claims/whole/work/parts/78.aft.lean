/-! WHAT AN EVENING KEEPS -/
theorem actS_wf {S : STY} {B c c' : SC} {p q r : Nat} (hWY : WfY S) (h : WfK S c q) (hq : q < 8) (h9 : c 9 0 < 8) : ∀ n, n ≤ nL S → actS S B p c n = some (r, c') → WfK S c' (q + 1) ∧ c' 5 0 = c 5 0
  | 0, _, ha => by cases ha
  | n + 1, hn, ha => by
    cases h1 : actS S B p c n with
    | some x =>
      have h2 := actS_more h1 (n + 1) (by omega)
      rw [h2] at ha
      rw [ha] at h1
      exact actS_wf hWY h hq h9 n (by omega) h1
    | none =>
      rw [actS_s h1] at ha
      split at ha
      · next hc =>
        cases hd : doesS S c n with
        | none => rw [hd] at ha; cases ha
        | some c2 =>
          rw [hd] at ha
          cases ha
          exact doesS_wf hWY h (by omega) hc.2.2.1 hq h9 hd
      · cases ha
theorem WfK.up {S : STY} {c : SC} {q : Nat} (h : WfK S c q) : WfK S c (q + 1) := ⟨h.1, by have := h.2.1; omega, h.2.2⟩
theorem trnS_wf {S : STY} {B c : SC} {p q : Nat} (hWY : WfY S) (h : WfK S c q) (hq : q < 8) (hp : p < nW S) (hl : c 1 p ≠ 0) : WfK S (trnS S B p c).2 (q + 1) ∧ (trnS S B p c).2 5 0 = c 5 0 := by
  obtain ⟨h1, h2, h3⟩ := felsS_wf (B := B) (p := p) h (nL S)
  cases ha : actS S B p (felsS S B p c (nL S)) (nL S) with
  | none =>
    rw [trnS_none ha]
    exact ⟨h1.up, h2⟩
  | some x =>
    obtain ⟨r, c'⟩ := x
    rw [trnS_some ha]
    have h9 := h1.k8 hWY hp (by rw [h3]; exact hl)
    have h4 := actS_wf hWY h1 hq h9 (nL S) (Nat.le_refl _) ha
    exact ⟨h4.1, by show c' 5 0 = _; rw [h4.2, h2]⟩
theorem psnS_s {S : STY} {B c : SC} {p : Nat} : psnS S B c (p + 1) = if psnS S B c p 1 p ≠ 0 then (trnS S B p (psnS S B c p)).2 else psnS S B c p := rfl
theorem psnS_wf {S : STY} {B c : SC} (hWY : WfY S) (h : WfK S c 0) : ∀ p, p ≤ nW S → WfK S (psnS S B c p) p ∧ psnS S B c p 5 0 = c 5 0
  | 0, _ => ⟨h, rfl⟩
  | p + 1, hp => by
    obtain ⟨h1, h2⟩ := psnS_wf (B := B) hWY h p (by omega)
    have h8 := hWY.2.2.1.1
    rw [psnS_s]
    split
    · next hl =>
      have h3 := trnS_wf (B := B) hWY h1 (by omega) (show p < nW S by omega) hl
      exact ⟨h3.1, by rw [h3.2, h2]⟩
    · exact ⟨h1.up, h2⟩
theorem lrnS_n {n : Nat} {c : SC} {t i : Nat} (h : t ≠ 4) : lrnS n c t i = c t i := by
  unfold lrnS
  rw [if_neg (fun hc => h hc.1)]
theorem lrnS_wf {S : STY} {c : SC} {q : Nat} (h : WfK S c q) : WfK S (lrnS (nW S) c) q := by
  obtain ⟨⟨k0, k1, k2, k3, k4, k5, k7, k9⟩, h7, h9⟩ := h
  refine ⟨⟨fun q hq => ?_, fun q => ?_, fun q hq => ?_, fun q => ?_, fun i => ?_, ?_, ?_, ?_⟩, ?_, k9_cg h9 (lrnS_n (by decide)) (fun _ => lrnS_n (by decide))⟩
  · rw [lrnS_n (by decide)]; exact k0 q hq
  · rw [lrnS_n (by decide)]; exact k1 q
  · rw [lrnS_n (by decide)]; exact k2 q hq
  · rw [lrnS_n (by decide)]; exact k3 q
  · unfold lrnS
    split
    · omega
    · exact k4 i
  · rw [lrnS_n (by decide)]; exact k5
  · rw [lrnS_n (by decide), lrnS_n (by decide)]; exact k7
  · rw [lrnS_n (by decide)]; exact k9
  · rw [lrnS_n (by decide), lrnS_n (by decide)]; exact h7
theorem alvS_all {c : SC} : ∀ n, (∀ q, q < n → c 1 q = 1) → alvS c n = n
  | 0, _ => rfl
  | n + 1, h => by
    show alvS c n + (if c 1 n ≠ 0 then 1 else 0) = n + 1
    rw [alvS_all n (fun q hq => h q (by omega)), h n (by omega)]
    rfl
theorem iniS_wf {S : STY} {B : SC} (hB : WfB S B) : WfK S (iniS B) 0 := by
  refine ⟨⟨hB.1, fun _ => Or.inr rfl, fun t ht => Or.inl (hB.2.1 t ht), fun _ => ?_, fun _ => ?_, ?_, ?_, ?_⟩, ?_, ?_⟩
  · show (-1000000 : Int) ≤ 0 ∧ (0 : Int) ≤ 1000000
    omega
  · show (-1 : Int) ≤ -1 ∧ (-1 : Int) < 180
    omega
  · show (0 : Int) ≤ 0 ∧ (0 : Int) < 180
    omega
  · show (0 : Int) ≤ 0 ∧ (0 : Int) ≤ 8 * 0 + 8
    omega
  · show (0 : Int) ≤ 0 ∧ (0 : Int) ≤ 8
    omega
  · show (0 : Int) ≤ 8 * 0 + ((0 : Nat) : Int)
    omega
  · show (0 : Int) + (alvS (iniS B) (nW S) : Int) = nW S
    rw [alvS_all (nW S) (fun _ _ => rfl)]
    omega
/-- a minute's beginning -/
theorem begS_wf {S : STY} {c : SC} {m : Nat} (h : WfC S c) (h9 : c 9 0 + alvS c (nW S) = nW S) (h7 : c 7 0 ≤ 8 * (m : Int)) (hm : m < 180) : WfK S (updC c 5 0 m) 0 :=
  ⟨h.minute hm h7, by show c 7 0 ≤ 8 * updC c 5 0 m 5 0 + ((0 : Nat) : Int); rw [updC_sm]; omega, k9_cg h9 rfl (fun _ => rfl)⟩
theorem aftS_wf {S : STY} {B : SC} (hWY : WfY S) (hB : WfB S B) : ∀ m, m ≤ 180 → WfC S (aftS S B m) ∧ aftS S B m 9 0 + alvS (aftS S B m) (nW S) = nW S ∧ aftS S B m 7 0 ≤ 8 * (m : Int)
  | 0, _ => by
    have h := iniS_wf hB
    exact ⟨h.1, h.2.2, by show (0 : Int) ≤ 8 * ((0 : Nat) : Int); omega⟩
  | m + 1, hm => by
    obtain ⟨h1, h2, h3⟩ := aftS_wf hWY hB m (by omega)
    have h4 := begS_wf h1 h2 h3 (by omega)
    obtain ⟨h5, h6⟩ := psnS_wf (B := B) hWY h4 (nW S) (Nat.le_refl _)
    have h7 := lrnS_wf h5
    have h8 := hWY.2.2.1.1
    have h9 := h7.2.1
    rw [lrnS_n (t := 5) (by decide), h6, updC_sm] at h9
    refine ⟨h7.1, h7.2.2, ?_⟩
    show lrnS (nW S) (psnS S B (updC (aftS S B m) 5 0 m) (nW S)) 7 0 ≤ _
    omega
theorem begA_wf {S : STY} {B : SC} (hWY : WfY S) (hB : WfB S B) {m : Nat} (hm : m < 180) : WfK S (updC (aftS S B m) 5 0 m) 0 := by
  obtain ⟨h1, h2, h3⟩ := aftS_wf hWY hB m (by omega)
  exact begS_wf h1 h2 h3 hm
