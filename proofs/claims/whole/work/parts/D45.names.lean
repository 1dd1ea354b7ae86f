/-! WHAT A TEXT TELLS: names stay names -/
theorem NmV.add {S S' : STY} {kd n w : Nat} (h : NmV S) (hn : cntN S.1 kd = n) (hv : vdN 6 w) (hc : ∀ j, j < 3 → cntN S'.1 j = if j = kd then n + 1 else cntN S.1 j) (ht : ∀ j k, j < 3 → S'.1 (1 + j) k = if j = kd ∧ k = n then (w : Int) else S.1 (1 + j) k) : NmV S' := by
  intro j hj k hk
  rw [hc j hj] at hk
  rw [ht j k hj]
  by_cases hjk : j = kd
  · subst hjk
    rw [if_pos rfl] at hk
    by_cases hkn : k = n
    · rw [if_pos ⟨rfl, hkn⟩, Int.toNat_natCast]
      exact ⟨by omega, hv⟩
    · rw [if_neg (fun g => hkn g.2)]
      exact h j hj k (by omega)
  · rw [if_neg hjk] at hk
    rw [if_neg (fun g => hjk g.1)]
    exact h j hj k hk
theorem NmV.cg {S S' : STY} (h : NmV S) (hc : ∀ j, j < 3 → cntN S'.1 j = cntN S.1 j) (ht : ∀ j k, j < 3 → S'.1 (1 + j) k = S.1 (1 + j) k) : NmV S' := by
  intro j hj k hk
  rw [hc j hj] at hk
  rw [ht j k hj]
  exact h j hj k hk
theorem giv_vd {W : TXT} {N : SC} {p : Nat} {r : Nat × Nat} (hT : TxO W) (hp : p ≤ W.2) (h : givT W N p = .ok r) : vdN 6 r.1 := by
  obtain ⟨a1, a2, -⟩ := giv_ok h
  rw [a2]
  exact ((tok_pr hp hT).2.2.2.2.2.1 a1).1
theorem bod_nm {W : TXT} {S : STY} {p : Nat} {r : STY × Nat} (hT : TxO W) (hW : WfY S) (hp : p ≤ W.2) (h2 : tC W p ≠ 302) (h3 : tC W p ≠ 303) (hN : NmV S) (h : bodT W S p = .ok r) : NmV r.1 := by
  unfold bodT at h
  split at h
  · obtain ⟨p1, g1, h⟩ := bnX_ok h
    obtain ⟨⟨w, p2⟩, g2, h⟩ := bnX_ok h
    cases h
    have s1 := got_st hT hp h2 h3 g1
    have hv := giv_vd hT (by omega) g2
    have hR := hW.1.2
    refine hN.add (kd := 0) (n := nR S) (w := w) rfl hv (fun j hj => ?_) (fun j k hj => ?_)
    · match j, hj with
      | 0, _ =>
        show (S.1 0 0 + 1).toNat = nR S + 1
        omega
      | 1, _ => rfl
      | 2, _ => rfl
    · show incN _ 0 (1 + j) k = _
      rw [inc_t (by omega)]
      by_cases hc : j = 0 ∧ k = nR S
      · rw [if_pos hc, hc.1, hc.2]
        exact updC_sm
      · rw [if_neg hc]
        exact updC_nt (fun g => hc ⟨by omega, g.2⟩)
  · obtain ⟨p1, g1, h⟩ := bnX_ok h
    obtain ⟨⟨i, p2⟩, g2, h⟩ := bnX_ok h
    dsimp only at h
    split at h
    · cases h
    · split at h
      · cases h
      · split at h
        · cases h
        · obtain ⟨p3, g3, h⟩ := bnX_ok h
          cases h
          refine hN.cg (fun j hj => ?_) (fun j k hj => ?_)
          · match j, hj with
            | 0, _ => rfl
            | 1, _ => rfl
            | 2, _ => rfl
          · show incN _ 1 (1 + j) k = _
            rw [inc_t (by omega), updC_nt (by omega), updC_nt (by omega)]
  · obtain ⟨p1, g1, h⟩ := bnX_ok h
    obtain ⟨⟨w, p2⟩, g2, h⟩ := bnX_ok h
    obtain ⟨p3, g3, h⟩ := bnX_ok h
    obtain ⟨⟨i, p4⟩, g4, h⟩ := bnX_ok h
    cases h
    have s1 := got_st hT hp h2 h3 g1
    have hv := giv_vd hT (by omega) g2
    have hR := hW.2.2.1.2
    refine hN.add (kd := 1) (n := nW S) (w := w) rfl hv (fun j hj => ?_) (fun j k hj => ?_)
    · match j, hj with
      | 0, _ => rfl
      | 1, _ =>
        show (S.1 0 2 + 1).toNat = nW S + 1
        omega
      | 2, _ => rfl
    · show incN _ 2 (1 + j) k = _
      rw [inc_t (by omega), updC_nt (by omega)]
      by_cases hc : j = 1 ∧ k = nW S
      · rw [if_pos hc, hc.1, hc.2]
        exact updC_sm
      · rw [if_neg hc]
        exact updC_nt (fun g => hc ⟨by omega, g.2⟩)
  · obtain ⟨p1, g1, h⟩ := bnX_ok h
    obtain ⟨⟨w, p2⟩, g2, h⟩ := bnX_ok h
    obtain ⟨p3, g3, h⟩ := bnX_ok h
    obtain ⟨⟨i, p4⟩, g4, h⟩ := bnX_ok h
    cases h
    have s1 := got_st hT hp h2 h3 g1
    have hv := giv_vd hT (by omega) g2
    have hR := hW.2.2.2.1.2
    refine hN.add (kd := 2) (n := nT S) (w := w) rfl hv (fun j hj => ?_) (fun j k hj => ?_)
    · match j, hj with
      | 0, _ => rfl
      | 1, _ => rfl
      | 2, _ =>
        show (S.1 0 3 + 1).toNat = nT S + 1
        omega
    · show incN _ 3 (1 + j) k = _
      rw [inc_t (by omega), updC_nt (by omega)]
      by_cases hc : j = 2 ∧ k = nT S
      · rw [if_pos hc, hc.1, hc.2]
        exact updC_sm
      · rw [if_neg hc]
        exact updC_nt (fun g => hc ⟨by omega, g.2⟩)
  · obtain ⟨p1, g1, h⟩ := bnX_ok h
    obtain ⟨⟨i, p2⟩, g2, h⟩ := bnX_ok h
    obtain ⟨⟨⟨o, t, l1⟩, p3⟩, g3, h⟩ := bnX_ok h
    obtain ⟨p4, g4, h⟩ := bnX_ok h
    obtain ⟨⟨l2, p5⟩, g5, h⟩ := bnX_ok h
    cases h
    refine hN.cg (fun j hj => ?_) (fun j k hj => ?_)
    · match j, hj with
      | 0, _ => rfl
      | 1, _ => rfl
      | 2, _ => rfl
    · show incN _ 4 (1 + j) k = _
      rw [inc_t (by omega), updC_nt (by omega), updC_nt (by omega), updC_nt (by omega), updC_nt (by omega)]
  · obtain ⟨p1, g1, h⟩ := bnX_ok h
    obtain ⟨⟨i0, p2⟩, g2, h⟩ := bnX_ok h
    obtain ⟨⟨i1, p3⟩, g3, h⟩ := bnX_ok h
    obtain ⟨⟨i2, p4⟩, g4, h⟩ := bnX_ok h
    obtain ⟨⟨i3, p5⟩, g5, h⟩ := bnX_ok h
    cases h
    refine hN.cg (fun j hj => ?_) (fun j k hj => ?_)
    · match j, hj with
      | 0, _ => rfl
      | 1, _ => rfl
      | 2, _ => rfl
    · show incN _ 5 (1 + j) k = _
      rw [inc_t (by omega), updC_nt (by omega), updC_nt (by omega), updC_nt (by omega), updC_nt (by omega)]
theorem stm_nm {W : TXT} {S : STY} {p : Nat} {r : STY × Nat} (hT : TxO W) (hW : WfY S) (hp : p ≤ W.2) (h2 : tC W p ≠ 302) (h3 : tC W p ≠ 303) (hN : NmV S) (h : stmT W S p = .ok r) : NmV r.1 := by
  unfold stmT at h
  split at h
  · cases h
  · split at h
    · cases h
    · obtain ⟨⟨S1, p1⟩, g1, h⟩ := bnX_ok h
      obtain ⟨p2, g2, h⟩ := bnX_ok h
      cases h
      exact bod_nm (r := (S1, p1)) hT hW hp h2 h3 hN g1
theorem sts_nm {W : TXT} (hT : TxO W) : ∀ (F : Nat) (S : STY) (p : Nat) (S' : STY), WfY S → WfD S → p ≤ W.2 → tC W p ≠ 303 → NmV S → stsT W F S p = .ok S' → NmV S' ∧ WfY S'
  | 0, S, p, S', hW, _, _, _, hN, h => by
    cases h
    exact ⟨hN, hW⟩
  | F + 1, S, p, S', hW, hD, hp, h3, hN, h => by
    have h : (if tC W p = 302 then Except.ok S else bnX (stmT W S p) (fun r => stsT W F r.1 r.2)) = Except.ok S' := h
    split at h
    · cases h
      exact ⟨hN, hW⟩
    · next h2 =>
      obtain ⟨⟨S1, p1⟩, g1, h⟩ := bnX_ok h
      have hk := stm_wf hT hW hD hp h3 g1
      have hn := stm_nm hT hW hp h2 h3 hN g1
      exact sts_nm hT F S1 p1 S' hk.1 hk.2.1 hk.2.2.2.1 hk.2.2.2.2.1 hn h
theorem nmv_O : NmV styO := fun kd hkd k hk => by
  match kd, hkd with
  | 0, _ => exact absurd hk (Nat.not_lt_zero k)
  | 1, _ => exact absurd hk (Nat.not_lt_zero k)
  | 2, _ => exact absurd hk (Nat.not_lt_zero k)
theorem txt_nm {W : TXT} {S : STY} (hT : TxO W) (h : txtT W = .ok S) : NmV S ∧ WfY S := by
  unfold txtT at h
  split at h
  · cases h
  · next h3 => exact sts_nm hT 1200 styO 0 S wfy_O wfd_O (Nat.zero_le _) h3 nmv_O h
theorem nText_nm {G : GST} (hT : gt G ≤ 1200 ∧ ∀ i, i < gt G → 0 ≤ gT G i ∧ gT G i < 256) (hN : NmV (gS G)) : NmV (gS (nText G)) := by
  cases h : txtT (gT G, gt G) with
  | error e =>
    rw [(nText_e h).1]
    exact hN
  | ok S =>
    rw [(nText_o h).1]
    exact (txt_nm (W := (gT G, gt G)) hT h).1
