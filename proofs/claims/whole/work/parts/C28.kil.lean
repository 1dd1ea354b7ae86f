/-! WHAT IS SAID: the dead stay dead where they lie; who kills stays with the dead to the minute's end -/
/-- what a turn does to the living and the rooms -/
abbrev Tn01 (n p : Nat) (c c' : SC) : Prop := (c' 1 = c 1 ∧ ∀ q, q ≠ p → c' 0 q = c 0 q) ∨ (∃ o, o < n ∧ o ≠ p ∧ c 1 o ≠ 0 ∧ c 0 o = c 0 p ∧ AloneS n c p o ∧ c' 0 = c 0 ∧ ∀ q, c' 1 q = if q = o then 0 else c 1 q)
theorem doesS_01 {S : STY} {c c' : SC} {r p : Nat} (hWY : WfY S) (hr : r < nL S) (hk4 : S.1 11 r ≠ 4) (hp : S.1 12 r = (p : Int)) (hd : doesS S c r = some c') : Tn01 (nW S) p c c' := by
  have hw := hWY.2.2.2.2.2.2.2.2.2.2.2 r hr
  rw [doesS_at hp] at hd
  split at hd
  · split at hd
    · cases hd
    · cases hd
      refine Or.inl ⟨rfl, fun q hq => ?_⟩
      rw [updC_if, if_neg hq]
  · split at hd
    · split at hd
      · cases hd
        refine Or.inl ⟨by rw [leavS_n (by omega) (by omega)]; rfl, fun q hq => by rw [leavS_n (by omega) (by omega)]; rfl⟩
      · cases hd
    · split at hd
      · split at hd
        · cases hd
          refine Or.inl ⟨by rw [leavS_n (by omega) (by omega)]; rfl, fun q hq => by rw [leavS_n (by omega) (by omega)]; rfl⟩
        · cases hd
      · split at hd
        · split at hd
          · cases hd
            exact Or.inl ⟨wipS_n (by omega), fun q _ => by rw [wipS_n (by omega)]⟩
          · cases hd
        · next g0 g1 g2 g3 =>
          split at hd
          · next hK =>
            cases hd
            have h5 : S.1 11 r = 5 := by omega
            have hw5 := hw.2.2.2.2.1 h5
            refine Or.inr ⟨(S.1 13 r).toNat, by omega, by omega, hK.1, hK.2.1, hK.2.2.1, ?_, fun q => ?_⟩
            · rw [leavS_n (by omega) (by omega), deedS_n (by omega) (by omega), dropS_r (by omega)]
              rfl
            · rw [leavS_n (by omega) (by omega), deedS_n (by omega) (by omega), dropS_r (by omega), updC_if]
          · cases hd
theorem trnS_01 {S : STY} {B c : SC} {p : Nat} (hWY : WfY S) : Tn01 (nW S) p c (trnS S B p c).2 := by
  have f0 : felsS S B p c (nL S) 0 = c 0 := felsS_t (by omega) _
  have f1 : felsS S B p c (nL S) 1 = c 1 := felsS_t (by omega) _
  cases ha : actS S B p (felsS S B p c (nL S)) (nL S) with
  | none =>
    rw [trnS_none ha]
    exact Or.inl ⟨f1, fun q _ => by show felsS S B p c (nL S) 0 q = _; rw [f0]⟩
  | some x =>
    obtain ⟨r, c'⟩ := x
    rw [trnS_some ha]
    have key : ∀ n, n ≤ nL S → actS S B p (felsS S B p c (nL S)) n = some (r, c') → r < nL S ∧ S.1 12 r = (p : Int) ∧ S.1 11 r ≠ 4 ∧ doesS S (felsS S B p c (nL S)) r = some c' := by
      intro n
      induction n with
      | zero => intro _ h; cases h
      | succ n ih =>
        intro hn h
        cases h1 : actS S B p (felsS S B p c (nL S)) n with
        | some x =>
          have h2 := actS_more h1 (n + 1) (by omega)
          rw [h2] at h
          rw [h] at h1
          exact ih (by omega) h1
        | none =>
          rw [actS_s h1] at h
          split at h
          · next hc =>
            cases hd : doesS S (felsS S B p c (nL S)) n with
            | none => rw [hd] at h; cases h
            | some c2 =>
              rw [hd] at h
              cases h
              exact ⟨by omega, hc.1, hc.2.2.1, hd⟩
          · cases h
    obtain ⟨k1, k2, k3, k4⟩ := key (nL S) (Nat.le_refl _) ha
    have := doesS_01 hWY k1 k3 k2 k4
    unfold Tn01 AloneS at this ⊢
    rw [f0, f1] at this
    exact this
/-- v is alive, or somebody who had its turn stands with it, and nobody else who still has -/
def KilI (S : STY) (c : SC) (v p : Nat) : Prop := c 1 v ≠ 0 ∨ (c 1 v = 0 ∧ ∃ K, K < p ∧ K < nW S ∧ K ≠ v ∧ c 1 K ≠ 0 ∧ c 0 K = c 0 v ∧ ∀ q, p ≤ q → q < nW S → c 1 q ≠ 0 → c 0 q ≠ c 0 v)
theorem KilI.st {S : STY} {c c' : SC} {v p : Nat} (h : KilI S c v p) (hp : p < nW S) (hv : v < nW S) (hl : c 1 p ≠ 0) (hT : Tn01 (nW S) p c c') : KilI S c' v (p + 1) := by
  rcases hT with ⟨t1, t2⟩ | ⟨o, o1, o2, o3, o4, o5, o6, o7⟩
  · rcases h with h | ⟨h0, K, k1, k2, k3, k4, k5, k6⟩
    · exact Or.inl (by rw [t1]; exact h)
    · have hvp : v ≠ p := fun e => hl (e ▸ h0)
      refine Or.inr ⟨by rw [t1]; exact h0, K, by omega, k2, k3, by rw [t1]; exact k4, ?_, fun q q1 q2 q3 => ?_⟩
      · rw [t2 K (by omega), t2 v hvp]; exact k5
      · rw [t1] at q3
        rw [t2 q (by omega), t2 v hvp]
        exact k6 q (by omega) q2 q3
  · rcases h with h | ⟨h0, K, k1, k2, k3, k4, k5, k6⟩
    · by_cases hov : o = v
      · subst hov
        refine Or.inr ⟨by rw [o7, if_pos rfl], p, by omega, hp, fun e => o2 e.symm, ?_, ?_, fun q q1 q2 q3 => ?_⟩
        · rw [o7, if_neg (fun e => o2 e.symm)]; exact hl
        · rw [o6]; exact o4.symm
        · rw [o7] at q3
          by_cases hq : q = o
          · rw [if_pos hq] at q3; exact absurd rfl q3
          · rw [if_neg hq] at q3
            rw [o6, o4]
            exact o5 q q2 (by omega) (by omega) q3
      · exact Or.inl (by rw [o7, if_neg (fun e => hov e.symm)]; exact h)
    · have hpr := k6 p (Nat.le_refl p) hp hl
      have hoK : K ≠ o := fun e => hpr (by rw [← k5, e, o4])
      have hvo : v ≠ o := fun e => o3 (e ▸ h0)
      refine Or.inr ⟨by rw [o7, if_neg hvo]; exact h0, K, by omega, k2, k3, by rw [o7, if_neg hoK]; exact k4, by rw [o6]; exact k5, fun q q1 q2 q3 => ?_⟩
      rw [o7] at q3
      by_cases hq : q = o
      · rw [if_pos hq] at q3; exact absurd rfl q3
      · rw [if_neg hq] at q3
        rw [o6]
        exact k6 q (by omega) q2 q3
theorem KilI.sk {S : STY} {c : SC} {v p : Nat} (h : KilI S c v p) : KilI S c v (p + 1) := by
  rcases h with h | ⟨h0, K, k1, k2, k3, k4, k5, k6⟩
  · exact Or.inl h
  · exact Or.inr ⟨h0, K, by omega, k2, k3, k4, k5, fun q q1 q2 q3 => k6 q (by omega) q2 q3⟩
theorem psnS_kil {S : STY} {B c : SC} {v : Nat} (hWY : WfY S) (hv : v < nW S) (h : c 1 v ≠ 0) : ∀ p, p ≤ nW S → KilI S (psnS S B c p) v p
  | 0, _ => Or.inl h
  | p + 1, hp => by
    have h1 := psnS_kil (B := B) hWY hv h p (by omega)
    by_cases hl : psnS S B c p 1 p ≠ 0
    · rw [psnS_l hl]
      exact h1.st (by omega) hv hl (trnS_01 hWY)
    · rw [psnS_d hl]
      exact h1.sk
theorem psnS_dd {S : STY} {B c : SC} {v : Nat} (hWY : WfY S) (h : c 1 v = 0) : ∀ p, p ≤ nW S → psnS S B c p 1 v = 0 ∧ psnS S B c p 0 v = c 0 v
  | 0, _ => ⟨h, rfl⟩
  | p + 1, hp => by
    obtain ⟨h1, h2⟩ := psnS_dd (B := B) hWY h p (by omega)
    by_cases hl : psnS S B c p 1 p ≠ 0
    · rw [psnS_l hl]
      have hvp : v ≠ p := fun e => hl (e ▸ h1)
      rcases trnS_01 (B := B) (c := psnS S B c p) (p := p) hWY with ⟨t1, t2⟩ | ⟨o, o1, o2, o3, o4, o5, o6, o7⟩
      · exact ⟨by rw [t1]; exact h1, by rw [t2 v hvp]; exact h2⟩
      · refine ⟨?_, by rw [o6]; exact h2⟩
        rw [o7]
        split
        · rfl
        · exact h1
    · rw [psnS_d hl]
      exact ⟨h1, h2⟩
theorem aftS_dd {S : STY} {B : SC} {v m : Nat} (hWY : WfY S) (h : aftS S B m 1 v = 0) : aftS S B (m + 1) 1 v = 0 ∧ aftS S B (m + 1) 0 v = aftS S B m 0 v := by
  have h1 := psnS_dd (B := B) (c := updC (aftS S B m) 5 0 m) (v := v) hWY h (nW S) (Nat.le_refl _)
  rw [aftS_s, lrnS_r (t := 1) (by omega), lrnS_r (t := 0) (by omega)]
  exact h1
theorem aftS_dd2 {S : STY} {B : SC} {v m : Nat} (hWY : WfY S) (h : aftS S B m 1 v = 0) : ∀ k, aftS S B (m + k) 1 v = 0 ∧ aftS S B (m + k) 0 v = aftS S B m 0 v
  | 0 => ⟨h, rfl⟩
  | k + 1 => by
    obtain ⟨h1, h2⟩ := aftS_dd2 (B := B) hWY h k
    obtain ⟨h3, h4⟩ := aftS_dd (B := B) hWY h1
    exact ⟨h3, h4.trans h2⟩
/-- the scenes, as a finder has them -/
noncomputable abbrev hisS (S : STY) (B : SC) : Nat → SC := fun m => aftS S B (m + 1)
theorem his_dm {S : STY} {B : SC} {v n : Nat} (hWY : WfY S) : DmH (hisS S B) v n := fun m m' h _ h0 => by
  have := (aftS_dd2 (B := B) (m := m + 1) hWY h0 (m' - m)).1
  rw [show m + 1 + (m' - m) = m' + 1 by omega] at this
  exact this
theorem his_kil {S : STY} {B : SC} {v n : Nat} (hWY : WfY S) (hv : v < nW S) (hn0 : 0 < n) (hdv : hisS S B (n - 1) 1 v = 0) : KilH (nW S) (hisS S B) v n := by
  have hD := his_dm (B := B) (v := v) (n := n) hWY
  have hdd : ddN (hisS S B) v n < n := by
    by_cases g : ddN (hisS S B) v n < n
    · exact g
    · exact absurd hdv (ddN_a (n := n) (by omega))
  have hd0 : hisS S B (ddN (hisS S B) v n) 1 v = 0 := ddN_d hD (Nat.le_refl _) hdd
  have ha : aftS S B (ddN (hisS S B) v n) 1 v ≠ 0 := by
    cases hk : ddN (hisS S B) v n with
    | zero => show (1 : Int) ≠ 0; omega
    | succ k => exact ddN_a (H := hisS S B) (v := v) (n := n) (m := k) (by omega)
  have h1 := psnS_kil (B := B) (c := updC (aftS S B (ddN (hisS S B) v n)) 5 0 (ddN (hisS S B) v n)) (v := v) hWY hv ha (nW S) (Nat.le_refl _)
  have e1 : hisS S B (ddN (hisS S B) v n) 1 = psnS S B (updC (aftS S B (ddN (hisS S B) v n)) 5 0 (ddN (hisS S B) v n)) (nW S) 1 := by
    show aftS S B (ddN (hisS S B) v n + 1) 1 = _
    rw [aftS_s, lrnS_r (t := 1) (by omega)]
  have e0 : hisS S B (ddN (hisS S B) v n) 0 = psnS S B (updC (aftS S B (ddN (hisS S B) v n)) 5 0 (ddN (hisS S B) v n)) (nW S) 0 := by
    show aftS S B (ddN (hisS S B) v n + 1) 0 = _
    rw [aftS_s, lrnS_r (t := 0) (by omega)]
  unfold KilI at h1
  rw [← e1, ← e0] at h1
  rcases h1 with h1 | ⟨-, K, k1, k2, k3, k4, k5, -⟩
  · exact absurd hd0 h1
  · refine ⟨K, k2, k3, k4, k5.trans ?_⟩
    have := (aftS_dd2 (B := B) (m := ddN (hisS S B) v n + 1) hWY hd0 (n - 1 - ddN (hisS S B) v n)).2
    rw [show ddN (hisS S B) v n + 1 + (n - 1 - ddN (hisS S B) v n) = n - 1 + 1 by omega] at this
    exact this.symm
