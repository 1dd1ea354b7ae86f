/-- the reference's numbers are in their bounds -/
def MWf (b : C3) : Prop := 0 ≤ b 166 12 ∧ b 166 12 < 2 ∧ 0 ≤ b 168 (b 166 12).toNat ∧ b 168 (b 166 12).toNat ≤ 8 ∧ 0 ≤ b 170 (b 166 12).toNat ∧ b 170 (b 166 12).toNat ≤ 8 ∧ 0 ≤ b 171 (b 166 12).toNat ∧ b 171 (b 166 12).toNat ≤ 8 ∧ 0 ≤ b 172 (b 166 12).toNat ∧ b 172 (b 166 12).toNat ≤ 12 ∧ 0 ≤ b 173 (b 166 12).toNat ∧ b 173 (b 166 12).toNat ≤ 30 ∧
  0 ≤ b 202 0 ∧ b 202 0 ≤ 180 ∧ 0 ≤ b 202 1 ∧ b 202 1 ≤ 180 ∧ 0 ≤ b 203 0 ∧ b 203 0 ≤ 8 ∧ 0 ≤ b 203 1 ∧ b 203 1 ≤ 8 ∧ 0 ≤ b 204 0 ∧ b 204 0 ≤ 1440 ∧ 0 ≤ b 204 1 ∧ b 204 1 ≤ 1440
theorem MWf.bk {b : C3} (h : MWf b) : 0 ≤ b 166 12 ∧ b 166 12 < 2 := by unfold MWf at h; omega
theorem m_isMinute {X : List Int} {d : Nat} {st dr rd : Int} {a s b : C3} (x : Int) (hM : MWf b) : Ev X (d + 1) 225 0 [Vr 166, Vi x] [] (SHv st dr rd, ovl a s b) (fun rr hh => rr = some (Vi (if (0 ≤ x ∧ x ≤ b 202 0 - 1) then 1 else 0)) ∧ hh = (SHv st dr rd, ovl a s b)) := by
  have hM2 := hM
  unfold MWf at hM2
  refine Ev.steps (k := 8) (pc' := 10) (L' := [Vr 166, Vi x]) (S' := [Vi (w32 ((b 202 0) - 1)), Vi 0, Vi x]) (h' := ((SHv st dr rd), (ovl a s b))) (fun _ => rfl) ?_
  rw [show (w32 ((b 202 0) - 1)) = ((b 202 0) - 1) from w32_id (by unfold R32; omega)]
  refine Ev.call (k := 0) (pc1 := 10) (L1 := [Vr 166, Vi x]) (S1 := [Vi ((b 202 0) - 1), Vi 0, Vi x]) (h1 := ((SHv st dr rd), (ovl a s b))) (m' := 189) (as := [Vi x, Vi 0, Vi ((b 202 0) - 1)]) (S' := []) (L0 := [Vi x, Vi 0, Vi ((b 202 0) - 1)]) (fun _ => rfl) rfl rfl rfl rfl rfl rfl (m_is x 0 (b 202 0 - 1)) (fun r h' hq => ?_)
  obtain ⟨rfl, rfl⟩ := hq
  show Ev X _ _ 13 [Vr 166, Vi x] [Vi (if (0 ≤ x ∧ x ≤ b 202 0 - 1) then 1 else 0)] ((SHv st dr rd), (ovl a s b)) _
  refine Ev.fin (k := 1) (r := (some (Vi (if (0 ≤ x ∧ x ≤ b 202 0 - 1) then 1 else 0)))) (h' := ((SHv st dr rd), (ovl a s b))) (fun _ => Ev_retz rfl (by omega)) ?_
  exact ⟨rfl, rfl⟩
theorem m_was {X : List Int} {d : Nat} {st dr rd : Int} {a s b : C3} (x m : Int) (hM : MWf b) : Ev X (d + 2) 224 0 [Vr 166, Vi x, Vi m] [] (SHv st dr rd, ovl a s b) (fun rr hh => rr = some (Vi (if (0 ≤ x ∧ x ≤ b 170 (b 166 12).toNat - 1) ∧ (0 ≤ m ∧ m ≤ b 202 0 - 1) then b 205 (8 * m + x).toNat else -1)) ∧ hh = (SHv st dr rd, ovl a s b)) := by
  have hM2 := hM
  unfold MWf at hM2
  refine Ev.call (k := 2) (pc1 := 2) (L1 := [Vr 166, Vi x, Vi m]) (S1 := [Vi x, Vr 166]) (h1 := ((SHv st dr rd), (ovl a s b))) (m' := 197) (as := [Vr 166, Vi x]) (S' := []) (L0 := [Vr 166, Vi x]) (fun _ => rfl) rfl rfl rfl rfl rfl rfl (m_isWho x hM.bk (by omega)) (fun r h' hq => ?_)
  obtain ⟨rfl, rfl⟩ := hq
  by_cases c2 : (0 ≤ x ∧ x ≤ b 170 (b 166 12).toNat - 1)
  · rw [if_pos c2]
    show Ev X _ _ 5 [Vr 166, Vi x, Vi m] [Vi 1] ((SHv st dr rd), (ovl a s b)) _
    refine Ev.call (k := 3) (pc1 := 10) (L1 := [Vr 166, Vi x, Vi m]) (S1 := [Vi m, Vr 166]) (h1 := ((SHv st dr rd), (ovl a s b))) (m' := 225) (as := [Vr 166, Vi m]) (S' := []) (L0 := [Vr 166, Vi m]) (fun _ => rfl) rfl rfl rfl rfl rfl rfl (m_isMinute m hM) (fun r h' hq => ?_)
    obtain ⟨rfl, rfl⟩ := hq
    by_cases c10 : (0 ≤ m ∧ m ≤ b 202 0 - 1)
    · rw [if_pos c10]
      show Ev X _ _ 13 [Vr 166, Vi x, Vi m] [Vi 1] ((SHv st dr rd), (ovl a s b)) _
      refine Ev.call (k := 6) (pc1 := 23) (L1 := [Vr 166, Vi x, Vi m]) (S1 := [Vi m, Vi 0, Vr 166, Vr 205]) (h1 := ((SHv st dr rd), (ovl a s b))) (m' := 206) (as := [Vr 166, Vi 0, Vi m]) (S' := [Vr 205]) (L0 := [Vr 166, Vi 0, Vi m]) (fun _ => rfl) rfl rfl rfl rfl rfl rfl (m_at 0 m (by omega) (by omega)) (fun r h' hq => ?_)
      obtain ⟨rfl, rfl⟩ := hq
      show Ev X _ _ 26 [Vr 166, Vi x, Vi m] [Vi (1440 * 0 + 8 * m), Vr 205] ((SHv st dr rd), (ovl a s b)) _
      refine Ev.steps (k := 2) (pc' := 28) (L' := [Vr 166, Vi x, Vi m]) (S' := [Vi (w32 ((1440 * 0 + 8 * m) + x)), Vr 205]) (h' := ((SHv st dr rd), (ovl a s b))) (fun _ => rfl) ?_
      rw [show (w32 ((1440 * 0 + 8 * m) + x)) = ((1440 * 0 + 8 * m) + x) from w32_id (by unfold R32; omega)]
      refine Ev.iald (v := (b 205 ((1440 * 0 + 8 * m) + x).toNat)) rfl (by decide) rfl (by omega) (by omega) rfl ?_
      refine Ev.fin (k := 2) (r := (some (Vi (b 205 ((1440 * 0 + 8 * m) + x).toNat)))) (h' := ((SHv st dr rd), (ovl a s b))) (fun _ => rfl) ?_
      refine ⟨?_, rfl⟩
      first | (rw [if_pos (by omega)]; first | rfl | (rw [show (1440 * 0 + 8 * m + x) = 8 * m + x by omega])) | rw [if_neg (by omega)]
    · rw [if_neg c10]
      show Ev X _ _ 13 [Vr 166, Vi x, Vi m] [Vi 0] ((SHv st dr rd), (ovl a s b)) _
      refine Ev.fin (k := 3) (r := (some (Vi (-1)))) (h' := ((SHv st dr rd), (ovl a s b))) (fun _ => rfl) ?_
      refine ⟨?_, rfl⟩
      first | (rw [if_pos (by omega)]; first | rfl | (rw [show (1440 * 0 + 8 * m + x) = 8 * m + x by omega])) | rw [if_neg (by omega)]
  · rw [if_neg c2]
    show Ev X _ _ 5 [Vr 166, Vi x, Vi m] [Vi 0] ((SHv st dr rd), (ovl a s b)) _
    refine Ev.fin (k := 3) (r := (some (Vi (-1)))) (h' := ((SHv st dr rd), (ovl a s b))) (fun _ => rfl) ?_
    refine ⟨?_, rfl⟩
    first | (rw [if_pos (by omega)]; first | rfl | (rw [show (1440 * 0 + 8 * m + x) = 8 * m + x by omega])) | rw [if_neg (by omega)]
theorem m_where {X : List Int} {d : Nat} {st dr rd : Int} {a s b : C3} (x m : Int) (hM : MWf b) : Ev X (d + 2) 227 0 [Vr 166, Vi x, Vi m] [] (SHv st dr rd, ovl a s b) (fun rr hh => rr = some (Vi (if (0 ≤ x ∧ x ≤ b 171 (b 166 12).toNat - 1) ∧ (0 ≤ m ∧ m ≤ b 202 0 - 1) then b 207 (8 * m + x).toNat else -1)) ∧ hh = (SHv st dr rd, ovl a s b)) := by
  have hM2 := hM
  unfold MWf at hM2
  refine Ev.call (k := 2) (pc1 := 2) (L1 := [Vr 166, Vi x, Vi m]) (S1 := [Vi x, Vr 166]) (h1 := ((SHv st dr rd), (ovl a s b))) (m' := 198) (as := [Vr 166, Vi x]) (S' := []) (L0 := [Vr 166, Vi x]) (fun _ => rfl) rfl rfl rfl rfl rfl rfl (m_isThing x hM.bk (by omega)) (fun r h' hq => ?_)
  obtain ⟨rfl, rfl⟩ := hq
  by_cases c2 : (0 ≤ x ∧ x ≤ b 171 (b 166 12).toNat - 1)
  · rw [if_pos c2]
    show Ev X _ _ 5 [Vr 166, Vi x, Vi m] [Vi 1] ((SHv st dr rd), (ovl a s b)) _
    refine Ev.call (k := 3) (pc1 := 10) (L1 := [Vr 166, Vi x, Vi m]) (S1 := [Vi m, Vr 166]) (h1 := ((SHv st dr rd), (ovl a s b))) (m' := 225) (as := [Vr 166, Vi m]) (S' := []) (L0 := [Vr 166, Vi m]) (fun _ => rfl) rfl rfl rfl rfl rfl rfl (m_isMinute m hM) (fun r h' hq => ?_)
    obtain ⟨rfl, rfl⟩ := hq
    by_cases c10 : (0 ≤ m ∧ m ≤ b 202 0 - 1)
    · rw [if_pos c10]
      show Ev X _ _ 13 [Vr 166, Vi x, Vi m] [Vi 1] ((SHv st dr rd), (ovl a s b)) _
      refine Ev.call (k := 6) (pc1 := 23) (L1 := [Vr 166, Vi x, Vi m]) (S1 := [Vi m, Vi 0, Vr 166, Vr 207]) (h1 := ((SHv st dr rd), (ovl a s b))) (m' := 206) (as := [Vr 166, Vi 0, Vi m]) (S' := [Vr 207]) (L0 := [Vr 166, Vi 0, Vi m]) (fun _ => rfl) rfl rfl rfl rfl rfl rfl (m_at 0 m (by omega) (by omega)) (fun r h' hq => ?_)
      obtain ⟨rfl, rfl⟩ := hq
      show Ev X _ _ 26 [Vr 166, Vi x, Vi m] [Vi (1440 * 0 + 8 * m), Vr 207] ((SHv st dr rd), (ovl a s b)) _
      refine Ev.steps (k := 2) (pc' := 28) (L' := [Vr 166, Vi x, Vi m]) (S' := [Vi (w32 ((1440 * 0 + 8 * m) + x)), Vr 207]) (h' := ((SHv st dr rd), (ovl a s b))) (fun _ => rfl) ?_
      rw [show (w32 ((1440 * 0 + 8 * m) + x)) = ((1440 * 0 + 8 * m) + x) from w32_id (by unfold R32; omega)]
      refine Ev.iald (v := (b 207 ((1440 * 0 + 8 * m) + x).toNat)) rfl (by decide) rfl (by omega) (by omega) rfl ?_
      refine Ev.fin (k := 2) (r := (some (Vi (b 207 ((1440 * 0 + 8 * m) + x).toNat)))) (h' := ((SHv st dr rd), (ovl a s b))) (fun _ => rfl) ?_
      refine ⟨?_, rfl⟩
      first | (rw [if_pos (by omega)]; first | rfl | (rw [show (1440 * 0 + 8 * m + x) = 8 * m + x by omega])) | rw [if_neg (by omega)]
    · rw [if_neg c10]
      show Ev X _ _ 13 [Vr 166, Vi x, Vi m] [Vi 0] ((SHv st dr rd), (ovl a s b)) _
      refine Ev.fin (k := 3) (r := (some (Vi (-1)))) (h' := ((SHv st dr rd), (ovl a s b))) (fun _ => rfl) ?_
      refine ⟨?_, rfl⟩
      first | (rw [if_pos (by omega)]; first | rfl | (rw [show (1440 * 0 + 8 * m + x) = 8 * m + x by omega])) | rw [if_neg (by omega)]
  · rw [if_neg c2]
    show Ev X _ _ 5 [Vr 166, Vi x, Vi m] [Vi 0] ((SHv st dr rd), (ovl a s b)) _
    refine Ev.fin (k := 3) (r := (some (Vi (-1)))) (h' := ((SHv st dr rd), (ovl a s b))) (fun _ => rfl) ?_
    refine ⟨?_, rfl⟩
    first | (rw [if_pos (by omega)]; first | rfl | (rw [show (1440 * 0 + 8 * m + x) = 8 * m + x by omega])) | rw [if_neg (by omega)]
theorem m_did {X : List Int} {d : Nat} {st dr rd : Int} {a s b : C3} (x m : Int) (hM : MWf b) : Ev X (d + 2) 228 0 [Vr 166, Vi x, Vi m] [] (SHv st dr rd, ovl a s b) (fun rr hh => rr = some (Vi (if (0 ≤ x ∧ x ≤ b 170 (b 166 12).toNat - 1) ∧ (0 ≤ m ∧ m ≤ b 202 0 - 1) then b 208 (8 * m + x).toNat else -1)) ∧ hh = (SHv st dr rd, ovl a s b)) := by
  have hM2 := hM
  unfold MWf at hM2
  refine Ev.call (k := 2) (pc1 := 2) (L1 := [Vr 166, Vi x, Vi m]) (S1 := [Vi x, Vr 166]) (h1 := ((SHv st dr rd), (ovl a s b))) (m' := 197) (as := [Vr 166, Vi x]) (S' := []) (L0 := [Vr 166, Vi x]) (fun _ => rfl) rfl rfl rfl rfl rfl rfl (m_isWho x hM.bk (by omega)) (fun r h' hq => ?_)
  obtain ⟨rfl, rfl⟩ := hq
  by_cases c2 : (0 ≤ x ∧ x ≤ b 170 (b 166 12).toNat - 1)
  · rw [if_pos c2]
    show Ev X _ _ 5 [Vr 166, Vi x, Vi m] [Vi 1] ((SHv st dr rd), (ovl a s b)) _
    refine Ev.call (k := 3) (pc1 := 10) (L1 := [Vr 166, Vi x, Vi m]) (S1 := [Vi m, Vr 166]) (h1 := ((SHv st dr rd), (ovl a s b))) (m' := 225) (as := [Vr 166, Vi m]) (S' := []) (L0 := [Vr 166, Vi m]) (fun _ => rfl) rfl rfl rfl rfl rfl rfl (m_isMinute m hM) (fun r h' hq => ?_)
    obtain ⟨rfl, rfl⟩ := hq
    by_cases c10 : (0 ≤ m ∧ m ≤ b 202 0 - 1)
    · rw [if_pos c10]
      show Ev X _ _ 13 [Vr 166, Vi x, Vi m] [Vi 1] ((SHv st dr rd), (ovl a s b)) _
      refine Ev.call (k := 6) (pc1 := 23) (L1 := [Vr 166, Vi x, Vi m]) (S1 := [Vi m, Vi 0, Vr 166, Vr 208]) (h1 := ((SHv st dr rd), (ovl a s b))) (m' := 206) (as := [Vr 166, Vi 0, Vi m]) (S' := [Vr 208]) (L0 := [Vr 166, Vi 0, Vi m]) (fun _ => rfl) rfl rfl rfl rfl rfl rfl (m_at 0 m (by omega) (by omega)) (fun r h' hq => ?_)
      obtain ⟨rfl, rfl⟩ := hq
      show Ev X _ _ 26 [Vr 166, Vi x, Vi m] [Vi (1440 * 0 + 8 * m), Vr 208] ((SHv st dr rd), (ovl a s b)) _
      refine Ev.steps (k := 2) (pc' := 28) (L' := [Vr 166, Vi x, Vi m]) (S' := [Vi (w32 ((1440 * 0 + 8 * m) + x)), Vr 208]) (h' := ((SHv st dr rd), (ovl a s b))) (fun _ => rfl) ?_
      rw [show (w32 ((1440 * 0 + 8 * m) + x)) = ((1440 * 0 + 8 * m) + x) from w32_id (by unfold R32; omega)]
      refine Ev.iald (v := (b 208 ((1440 * 0 + 8 * m) + x).toNat)) rfl (by decide) rfl (by omega) (by omega) rfl ?_
      refine Ev.fin (k := 2) (r := (some (Vi (b 208 ((1440 * 0 + 8 * m) + x).toNat)))) (h' := ((SHv st dr rd), (ovl a s b))) (fun _ => rfl) ?_
      refine ⟨?_, rfl⟩
      first | (rw [if_pos (by omega)]; first | rfl | (rw [show (1440 * 0 + 8 * m + x) = 8 * m + x by omega])) | rw [if_neg (by omega)]
    · rw [if_neg c10]
      show Ev X _ _ 13 [Vr 166, Vi x, Vi m] [Vi 0] ((SHv st dr rd), (ovl a s b)) _
      refine Ev.fin (k := 3) (r := (some (Vi (-1)))) (h' := ((SHv st dr rd), (ovl a s b))) (fun _ => rfl) ?_
      refine ⟨?_, rfl⟩
      first | (rw [if_pos (by omega)]; first | rfl | (rw [show (1440 * 0 + 8 * m + x) = 8 * m + x by omega])) | rw [if_neg (by omega)]
  · rw [if_neg c2]
    show Ev X _ _ 5 [Vr 166, Vi x, Vi m] [Vi 0] ((SHv st dr rd), (ovl a s b)) _
    refine Ev.fin (k := 3) (r := (some (Vi (-1)))) (h' := ((SHv st dr rd), (ovl a s b))) (fun _ => rfl) ?_
    refine ⟨?_, rfl⟩
    first | (rw [if_pos (by omega)]; first | rfl | (rw [show (1440 * 0 + 8 * m + x) = 8 * m + x by omega])) | rw [if_neg (by omega)]
theorem m_mood {X : List Int} {d : Nat} {st dr rd : Int} {a s b : C3} (x m : Int) (hM : MWf b) : Ev X (d + 2) 229 0 [Vr 166, Vi x, Vi m] [] (SHv st dr rd, ovl a s b) (fun rr hh => rr = some (Vi (if (0 ≤ x ∧ x ≤ b 170 (b 166 12).toNat - 1) ∧ (0 ≤ m ∧ m ≤ b 202 0 - 1) then b 209 (8 * m + x).toNat else -2000000000)) ∧ hh = (SHv st dr rd, ovl a s b)) := by
  have hM2 := hM
  unfold MWf at hM2
  refine Ev.call (k := 2) (pc1 := 2) (L1 := [Vr 166, Vi x, Vi m]) (S1 := [Vi x, Vr 166]) (h1 := ((SHv st dr rd), (ovl a s b))) (m' := 197) (as := [Vr 166, Vi x]) (S' := []) (L0 := [Vr 166, Vi x]) (fun _ => rfl) rfl rfl rfl rfl rfl rfl (m_isWho x hM.bk (by omega)) (fun r h' hq => ?_)
  obtain ⟨rfl, rfl⟩ := hq
  by_cases c2 : (0 ≤ x ∧ x ≤ b 170 (b 166 12).toNat - 1)
  · rw [if_pos c2]
    show Ev X _ _ 5 [Vr 166, Vi x, Vi m] [Vi 1] ((SHv st dr rd), (ovl a s b)) _
    refine Ev.call (k := 3) (pc1 := 10) (L1 := [Vr 166, Vi x, Vi m]) (S1 := [Vi m, Vr 166]) (h1 := ((SHv st dr rd), (ovl a s b))) (m' := 225) (as := [Vr 166, Vi m]) (S' := []) (L0 := [Vr 166, Vi m]) (fun _ => rfl) rfl rfl rfl rfl rfl rfl (m_isMinute m hM) (fun r h' hq => ?_)
    obtain ⟨rfl, rfl⟩ := hq
    by_cases c10 : (0 ≤ m ∧ m ≤ b 202 0 - 1)
    · rw [if_pos c10]
      show Ev X _ _ 13 [Vr 166, Vi x, Vi m] [Vi 1] ((SHv st dr rd), (ovl a s b)) _
      refine Ev.call (k := 6) (pc1 := 23) (L1 := [Vr 166, Vi x, Vi m]) (S1 := [Vi m, Vi 0, Vr 166, Vr 209]) (h1 := ((SHv st dr rd), (ovl a s b))) (m' := 206) (as := [Vr 166, Vi 0, Vi m]) (S' := [Vr 209]) (L0 := [Vr 166, Vi 0, Vi m]) (fun _ => rfl) rfl rfl rfl rfl rfl rfl (m_at 0 m (by omega) (by omega)) (fun r h' hq => ?_)
      obtain ⟨rfl, rfl⟩ := hq
      show Ev X _ _ 26 [Vr 166, Vi x, Vi m] [Vi (1440 * 0 + 8 * m), Vr 209] ((SHv st dr rd), (ovl a s b)) _
      refine Ev.steps (k := 2) (pc' := 28) (L' := [Vr 166, Vi x, Vi m]) (S' := [Vi (w32 ((1440 * 0 + 8 * m) + x)), Vr 209]) (h' := ((SHv st dr rd), (ovl a s b))) (fun _ => rfl) ?_
      rw [show (w32 ((1440 * 0 + 8 * m) + x)) = ((1440 * 0 + 8 * m) + x) from w32_id (by unfold R32; omega)]
      refine Ev.iald (v := (b 209 ((1440 * 0 + 8 * m) + x).toNat)) rfl (by decide) rfl (by omega) (by omega) rfl ?_
      refine Ev.fin (k := 2) (r := (some (Vi (b 209 ((1440 * 0 + 8 * m) + x).toNat)))) (h' := ((SHv st dr rd), (ovl a s b))) (fun _ => rfl) ?_
      refine ⟨?_, rfl⟩
      first | (rw [if_pos (by omega)]; first | rfl | (rw [show (1440 * 0 + 8 * m + x) = 8 * m + x by omega])) | rw [if_neg (by omega)]
    · rw [if_neg c10]
      show Ev X _ _ 13 [Vr 166, Vi x, Vi m] [Vi 0] ((SHv st dr rd), (ovl a s b)) _
      refine Ev.fin (k := 3) (r := (some (Vi (-2000000000)))) (h' := ((SHv st dr rd), (ovl a s b))) (fun _ => rfl) ?_
      refine ⟨?_, rfl⟩
      first | (rw [if_pos (by omega)]; first | rfl | (rw [show (1440 * 0 + 8 * m + x) = 8 * m + x by omega])) | rw [if_neg (by omega)]
  · rw [if_neg c2]
    show Ev X _ _ 5 [Vr 166, Vi x, Vi m] [Vi 0] ((SHv st dr rd), (ovl a s b)) _
    refine Ev.fin (k := 3) (r := (some (Vi (-2000000000)))) (h' := ((SHv st dr rd), (ovl a s b))) (fun _ => rfl) ?_
    refine ⟨?_, rfl⟩
    first | (rw [if_pos (by omega)]; first | rfl | (rw [show (1440 * 0 + 8 * m + x) = 8 * m + x by omega])) | rw [if_neg (by omega)]
theorem m_alive {X : List Int} {d : Nat} {st dr rd : Int} {a s b : C3} (x m : Int) (hM : MWf b) : Ev X (d + 2) 226 0 [Vr 166, Vi x, Vi m] [] (SHv st dr rd, ovl a s b) (fun rr hh => rr = some (Vi (if (0 ≤ x ∧ x ≤ b 170 (b 166 12).toNat - 1) ∧ (0 ≤ m ∧ m ≤ b 202 0 - 1) then (if b 206 (8 * m + x).toNat ≠ 0 then 1 else 0) else -1)) ∧ hh = (SHv st dr rd, ovl a s b)) := by
  have hM2 := hM
  unfold MWf at hM2
  refine Ev.call (k := 2) (pc1 := 2) (L1 := [Vr 166, Vi x, Vi m]) (S1 := [Vi x, Vr 166]) (h1 := ((SHv st dr rd), (ovl a s b))) (m' := 197) (as := [Vr 166, Vi x]) (S' := []) (L0 := [Vr 166, Vi x]) (fun _ => rfl) rfl rfl rfl rfl rfl rfl (m_isWho x hM.bk (by omega)) (fun r h' hq => ?_)
  obtain ⟨rfl, rfl⟩ := hq
  by_cases c2 : (0 ≤ x ∧ x ≤ b 170 (b 166 12).toNat - 1)
  · rw [if_pos c2]
    show Ev X _ _ 5 [Vr 166, Vi x, Vi m] [Vi 1] ((SHv st dr rd), (ovl a s b)) _
    refine Ev.call (k := 3) (pc1 := 10) (L1 := [Vr 166, Vi x, Vi m]) (S1 := [Vi m, Vr 166]) (h1 := ((SHv st dr rd), (ovl a s b))) (m' := 225) (as := [Vr 166, Vi m]) (S' := []) (L0 := [Vr 166, Vi m]) (fun _ => rfl) rfl rfl rfl rfl rfl rfl (m_isMinute m hM) (fun r h' hq => ?_)
    obtain ⟨rfl, rfl⟩ := hq
    by_cases c10 : (0 ≤ m ∧ m ≤ b 202 0 - 1)
    · rw [if_pos c10]
      show Ev X _ _ 13 [Vr 166, Vi x, Vi m] [Vi 1] ((SHv st dr rd), (ovl a s b)) _
      refine Ev.call (k := 6) (pc1 := 27) (L1 := [Vr 166, Vi x, Vi m]) (S1 := [Vi m, Vi 0, Vr 166, Vr 206]) (h1 := ((SHv st dr rd), (ovl a s b))) (m' := 206) (as := [Vr 166, Vi 0, Vi m]) (S' := [Vr 206]) (L0 := [Vr 166, Vi 0, Vi m]) (fun _ => rfl) rfl rfl rfl rfl rfl rfl (m_at 0 m (by omega) (by omega)) (fun r h' hq => ?_)
      obtain ⟨rfl, rfl⟩ := hq
      rw [show (1440 * 0 + 8 * m) = 8 * m by omega]
      show Ev X _ _ 30 [Vr 166, Vi x, Vi m] [Vi (1440 * 0 + 8 * m), Vr 206] ((SHv st dr rd), (ovl a s b)) _
      refine Ev.steps (k := 2) (pc' := 32) (L' := [Vr 166, Vi x, Vi m]) (S' := [Vi (w32 ((1440 * 0 + 8 * m) + x)), Vr 206]) (h' := ((SHv st dr rd), (ovl a s b))) (fun _ => rfl) ?_
      rw [show (w32 ((1440 * 0 + 8 * m) + x)) = ((1440 * 0 + 8 * m) + x) from w32_id (by unfold R32; omega)]
      refine Ev.zald (v := (b 206 ((1440 * 0 + 8 * m) + x).toNat)) rfl (by decide) rfl (by omega) (by omega) rfl ?_
      refine Ev.ite (P := (b 206 ((1440 * 0 + 8 * m) + x).toNat) = 0) (k := 1) (a := 40) (b := 36) (L' := [Vr 166, Vi x, Vi m]) (S' := []) (h' := ((SHv st dr rd), (ovl a s b))) (fun _ => rfl) (fun b33 => ?_) (fun b33 => ?_)
      · refine Ev.fin (k := 2) (r := (some (Vi 0))) (h' := ((SHv st dr rd), (ovl a s b))) (fun _ => rfl) ?_
        refine ⟨?_, rfl⟩
        first | rw [if_neg (by omega)] | (rw [if_pos (by omega)]; first | rw [if_pos (by simpa using b28)] | rw [if_neg (by simpa using b28)])
      · refine Ev.fin (k := 3) (r := (some (Vi 1))) (h' := ((SHv st dr rd), (ovl a s b))) (fun _ => rfl) ?_
        refine ⟨?_, rfl⟩
        first | rw [if_neg (by omega)] | (rw [if_pos (by omega)]; first | rw [if_pos (by simpa using b28)] | rw [if_neg (by simpa using b28)])
    · rw [if_neg c10]
      show Ev X _ _ 13 [Vr 166, Vi x, Vi m] [Vi 0] ((SHv st dr rd), (ovl a s b)) _
      refine Ev.fin (k := 4) (r := (some (Vi (-1)))) (h' := ((SHv st dr rd), (ovl a s b))) (fun _ => rfl) ?_
      refine ⟨?_, rfl⟩
      first | rw [if_neg (by omega)] | (rw [if_pos (by omega)]; first | rw [if_pos (by simpa using b28)] | rw [if_neg (by simpa using b28)])
  · rw [if_neg c2]
    show Ev X _ _ 5 [Vr 166, Vi x, Vi m] [Vi 0] ((SHv st dr rd), (ovl a s b)) _
    refine Ev.fin (k := 4) (r := (some (Vi (-1)))) (h' := ((SHv st dr rd), (ovl a s b))) (fun _ => rfl) ?_
    refine ⟨?_, rfl⟩
    first | rw [if_neg (by omega)] | (rw [if_pos (by omega)]; first | rw [if_pos (by simpa using b28)] | rw [if_neg (by simpa using b28)])
theorem m_deed {X : List Int} {d : Nat} {st dr rd : Int} {a s b : C3} (k w : Int) (hM : MWf b) : Ev X (d + 1) 230 0 [Vr 166, Vi k, Vi w] [] (SHv st dr rd, ovl a s b) (fun rr hh => rr = some (Vi (if (0 ≤ k ∧ k ≤ b 203 0 - 1) ∧ (0 ≤ w ∧ w ≤ 5) then b 210 (6 * k + w).toNat else -1)) ∧ hh = (SHv st dr rd, ovl a s b)) := by
  have hM2 := hM
  unfold MWf at hM2
  refine Ev.steps (k := 8) (pc' := 10) (L' := [Vr 166, Vi k, Vi w]) (S' := [Vi (w32 ((b 203 0) - 1)), Vi 0, Vi k]) (h' := ((SHv st dr rd), (ovl a s b))) (fun _ => rfl) ?_
  rw [show (w32 ((b 203 0) - 1)) = ((b 203 0) - 1) from w32_id (by unfold R32; omega)]
  refine Ev.call (k := 0) (pc1 := 10) (L1 := [Vr 166, Vi k, Vi w]) (S1 := [Vi ((b 203 0) - 1), Vi 0, Vi k]) (h1 := ((SHv st dr rd), (ovl a s b))) (m' := 189) (as := [Vi k, Vi 0, Vi ((b 203 0) - 1)]) (S' := []) (L0 := [Vi k, Vi 0, Vi ((b 203 0) - 1)]) (fun _ => rfl) rfl rfl rfl rfl rfl rfl (m_is k 0 (b 203 0 - 1)) (fun r h' hq => ?_)
  obtain ⟨rfl, rfl⟩ := hq
  by_cases c10 : (0 ≤ k ∧ k ≤ b 203 0 - 1)
  · rw [if_pos c10]
    show Ev X _ _ 13 [Vr 166, Vi k, Vi w] [Vi 1] ((SHv st dr rd), (ovl a s b)) _
    refine Ev.call (k := 4) (pc1 := 19) (L1 := [Vr 166, Vi k, Vi w]) (S1 := [Vi 5, Vi 0, Vi w]) (h1 := ((SHv st dr rd), (ovl a s b))) (m' := 189) (as := [Vi w, Vi 0, Vi 5]) (S' := []) (L0 := [Vi w, Vi 0, Vi 5]) (fun _ => rfl) rfl rfl rfl rfl rfl rfl (m_is w 0 5) (fun r h' hq => ?_)
    obtain ⟨rfl, rfl⟩ := hq
    by_cases c19 : (0 ≤ w ∧ w ≤ 5)
    · rw [if_pos c19]
      show Ev X _ _ 22 [Vr 166, Vi k, Vi w] [Vi 1] ((SHv st dr rd), (ovl a s b)) _
      refine Ev.steps (k := 6) (pc' := 33) (L' := [Vr 166, Vi k, Vi w]) (S' := [Vi (w32 (6 * k)), Vr 210]) (h' := ((SHv st dr rd), (ovl a s b))) (fun _ => rfl) ?_
      rw [show (w32 (6 * k)) = (6 * k) from w32_id (by unfold R32; omega)]
      refine Ev.steps (k := 2) (pc' := 35) (L' := [Vr 166, Vi k, Vi w]) (S' := [Vi (w32 ((6 * k) + w)), Vr 210]) (h' := ((SHv st dr rd), (ovl a s b))) (fun _ => rfl) ?_
      rw [show (w32 ((6 * k) + w)) = ((6 * k) + w) from w32_id (by unfold R32; omega)]
      refine Ev.iald (v := (b 210 ((6 * k) + w).toNat)) rfl (by decide) rfl (by omega) (by omega) rfl ?_
      refine Ev.fin (k := 2) (r := (some (Vi (b 210 ((6 * k) + w).toNat)))) (h' := ((SHv st dr rd), (ovl a s b))) (fun _ => rfl) ?_
      refine ⟨?_, rfl⟩
      first | rw [if_pos (by omega)] | rw [if_neg (by omega)]
    · rw [if_neg c19]
      show Ev X _ _ 22 [Vr 166, Vi k, Vi w] [Vi 0] ((SHv st dr rd), (ovl a s b)) _
      refine Ev.fin (k := 3) (r := (some (Vi (-1)))) (h' := ((SHv st dr rd), (ovl a s b))) (fun _ => rfl) ?_
      refine ⟨?_, rfl⟩
      first | rw [if_pos (by omega)] | rw [if_neg (by omega)]
  · rw [if_neg c10]
    show Ev X _ _ 13 [Vr 166, Vi k, Vi w] [Vi 0] ((SHv st dr rd), (ovl a s b)) _
    refine Ev.fin (k := 3) (r := (some (Vi (-1)))) (h' := ((SHv st dr rd), (ovl a s b))) (fun _ => rfl) ?_
    refine ⟨?_, rfl⟩
    first | rw [if_pos (by omega)] | rw [if_neg (by omega)]
theorem m_trace {X : List Int} {d : Nat} {st dr rd : Int} {a s b : C3} (k w : Int) (hM : MWf b) : Ev X (d + 1) 231 0 [Vr 166, Vi k, Vi w] [] (SHv st dr rd, ovl a s b) (fun rr hh => rr = some (Vi (if (0 ≤ k ∧ k ≤ b 204 0 - 1) ∧ (0 ≤ w ∧ w ≤ 5) then b 211 (6 * k + w).toNat else -1)) ∧ hh = (SHv st dr rd, ovl a s b)) := by
  have hM2 := hM
  unfold MWf at hM2
  refine Ev.steps (k := 8) (pc' := 10) (L' := [Vr 166, Vi k, Vi w]) (S' := [Vi (w32 ((b 204 0) - 1)), Vi 0, Vi k]) (h' := ((SHv st dr rd), (ovl a s b))) (fun _ => rfl) ?_
  rw [show (w32 ((b 204 0) - 1)) = ((b 204 0) - 1) from w32_id (by unfold R32; omega)]
  refine Ev.call (k := 0) (pc1 := 10) (L1 := [Vr 166, Vi k, Vi w]) (S1 := [Vi ((b 204 0) - 1), Vi 0, Vi k]) (h1 := ((SHv st dr rd), (ovl a s b))) (m' := 189) (as := [Vi k, Vi 0, Vi ((b 204 0) - 1)]) (S' := []) (L0 := [Vi k, Vi 0, Vi ((b 204 0) - 1)]) (fun _ => rfl) rfl rfl rfl rfl rfl rfl (m_is k 0 (b 204 0 - 1)) (fun r h' hq => ?_)
  obtain ⟨rfl, rfl⟩ := hq
  by_cases c10 : (0 ≤ k ∧ k ≤ b 204 0 - 1)
  · rw [if_pos c10]
    show Ev X _ _ 13 [Vr 166, Vi k, Vi w] [Vi 1] ((SHv st dr rd), (ovl a s b)) _
    refine Ev.call (k := 4) (pc1 := 19) (L1 := [Vr 166, Vi k, Vi w]) (S1 := [Vi 5, Vi 0, Vi w]) (h1 := ((SHv st dr rd), (ovl a s b))) (m' := 189) (as := [Vi w, Vi 0, Vi 5]) (S' := []) (L0 := [Vi w, Vi 0, Vi 5]) (fun _ => rfl) rfl rfl rfl rfl rfl rfl (m_is w 0 5) (fun r h' hq => ?_)
    obtain ⟨rfl, rfl⟩ := hq
    by_cases c19 : (0 ≤ w ∧ w ≤ 5)
    · rw [if_pos c19]
      show Ev X _ _ 22 [Vr 166, Vi k, Vi w] [Vi 1] ((SHv st dr rd), (ovl a s b)) _
      refine Ev.steps (k := 6) (pc' := 33) (L' := [Vr 166, Vi k, Vi w]) (S' := [Vi (w32 (6 * k)), Vr 211]) (h' := ((SHv st dr rd), (ovl a s b))) (fun _ => rfl) ?_
      rw [show (w32 (6 * k)) = (6 * k) from w32_id (by unfold R32; omega)]
      refine Ev.steps (k := 2) (pc' := 35) (L' := [Vr 166, Vi k, Vi w]) (S' := [Vi (w32 ((6 * k) + w)), Vr 211]) (h' := ((SHv st dr rd), (ovl a s b))) (fun _ => rfl) ?_
      rw [show (w32 ((6 * k) + w)) = ((6 * k) + w) from w32_id (by unfold R32; omega)]
      refine Ev.iald (v := (b 211 ((6 * k) + w).toNat)) rfl (by decide) rfl (by omega) (by omega) rfl ?_
      refine Ev.fin (k := 2) (r := (some (Vi (b 211 ((6 * k) + w).toNat)))) (h' := ((SHv st dr rd), (ovl a s b))) (fun _ => rfl) ?_
      refine ⟨?_, rfl⟩
      first | rw [if_pos (by omega)] | rw [if_neg (by omega)]
    · rw [if_neg c19]
      show Ev X _ _ 22 [Vr 166, Vi k, Vi w] [Vi 0] ((SHv st dr rd), (ovl a s b)) _
      refine Ev.fin (k := 3) (r := (some (Vi (-1)))) (h' := ((SHv st dr rd), (ovl a s b))) (fun _ => rfl) ?_
      refine ⟨?_, rfl⟩
      first | rw [if_pos (by omega)] | rw [if_neg (by omega)]
  · rw [if_neg c10]
    show Ev X _ _ 13 [Vr 166, Vi k, Vi w] [Vi 0] ((SHv st dr rd), (ovl a s b)) _
    refine Ev.fin (k := 3) (r := (some (Vi (-1)))) (h' := ((SHv st dr rd), (ovl a s b))) (fun _ => rfl) ?_
    refine ⟨?_, rfl⟩
    first | rw [if_pos (by omega)] | rw [if_neg (by omega)]
/-- whether one saw another in a minute: 0 no, 1 alive, 2 dead -/
def seesI (b : C3) (e p o m : Int) : Int := (if p = o ∨ b 206 (1440 * e + 8 * m + p).toNat = 0 ∨ b 205 (1440 * e + 8 * m + p).toNat ≠ b 205 (1440 * e + 8 * m + o).toNat then 0 else if b 206 (1440 * e + 8 * m + o).toNat ≠ 0 then 1 else 2)
theorem m_sees {X : List Int} {d : Nat} {st dr rd : Int} {a s b : C3} (e p o m : Int) (he : 0 ≤ e ∧ e ≤ 1) (hm : 0 ≤ m ∧ m < 180) (hp : 0 ≤ p ∧ p < 8) (ho : 0 ≤ o ∧ o < 8) : Ev X (d + 1) 223 0 [Vr 166, Vi e, Vi p, Vi o, Vi m, Vx] [] (SHv st dr rd, ovl a s b) (fun rr hh => rr = some (Vi (seesI b e p o m)) ∧ hh = (SHv st dr rd, ovl a s b)) := by
  refine Ev.call (k := 3) (pc1 := 4) (L1 := [Vr 166, Vi e, Vi p, Vi o, Vi m, Vx]) (S1 := [Vi m, Vi e, Vr 166]) (h1 := ((SHv st dr rd), (ovl a s b))) (m' := 206) (as := [Vr 166, Vi e, Vi m]) (S' := []) (L0 := [Vr 166, Vi e, Vi m]) (fun _ => rfl) rfl rfl rfl rfl rfl rfl (m_at e m he hm) (fun r h' hq => ?_)
  obtain ⟨rfl, rfl⟩ := hq
  show Ev X _ _ 7 [Vr 166, Vi e, Vi p, Vi o, Vi m, Vx] [Vi (1440 * e + 8 * m)] ((SHv st dr rd), (ovl a s b)) _
  refine Ev.ite (P := p = o) (k := 4) (a := 47) (b := 14) (L' := [Vr 166, Vi e, Vi p, Vi o, Vi m, Vi (1440 * e + 8 * m)]) (S' := []) (h' := ((SHv st dr rd), (ovl a s b))) (fun _ => rfl) (fun b11 => ?_) (fun b11 => ?_)
  · refine Ev.fin (k := 2) (r := (some (Vi 0))) (h' := ((SHv st dr rd), (ovl a s b))) (fun _ => rfl) ?_
    refine ⟨?_, rfl⟩
    unfold seesI
    simp [*]
  · refine Ev.steps (k := 5) (pc' := 22) (L' := [Vr 166, Vi e, Vi p, Vi o, Vi m, Vi (1440 * e + 8 * m)]) (S' := [Vi (w32 ((1440 * e + 8 * m) + p)), Vr 206]) (h' := ((SHv st dr rd), (ovl a s b))) (fun _ => rfl) ?_
    rw [show (w32 ((1440 * e + 8 * m) + p)) = ((1440 * e + 8 * m) + p) from w32_id (by unfold R32; omega)]
    refine Ev.zald (v := (b 206 ((1440 * e + 8 * m) + p).toNat)) rfl (by decide) rfl (by omega) (by omega) rfl ?_
    refine Ev.ite (P := (b 206 ((1440 * e + 8 * m) + p).toNat) = 0) (k := 1) (a := 47) (b := 26) (L' := [Vr 166, Vi e, Vi p, Vi o, Vi m, Vi (1440 * e + 8 * m)]) (S' := []) (h' := ((SHv st dr rd), (ovl a s b))) (fun _ => rfl) (fun b23 => ?_) (fun b23 => ?_)
    · refine Ev.fin (k := 2) (r := (some (Vi 0))) (h' := ((SHv st dr rd), (ovl a s b))) (fun _ => rfl) ?_
      refine ⟨?_, rfl⟩
      unfold seesI
      simp [*]
    · refine Ev.steps (k := 5) (pc' := 34) (L' := [Vr 166, Vi e, Vi p, Vi o, Vi m, Vi (1440 * e + 8 * m)]) (S' := [Vi (w32 ((1440 * e + 8 * m) + p)), Vr 205]) (h' := ((SHv st dr rd), (ovl a s b))) (fun _ => rfl) ?_
      rw [show (w32 ((1440 * e + 8 * m) + p)) = ((1440 * e + 8 * m) + p) from w32_id (by unfold R32; omega)]
      refine Ev.iald (v := (b 205 ((1440 * e + 8 * m) + p).toNat)) rfl (by decide) rfl (by omega) (by omega) rfl ?_
      refine Ev.steps (k := 5) (pc' := 43) (L' := [Vr 166, Vi e, Vi p, Vi o, Vi m, Vi (1440 * e + 8 * m)]) (S' := [Vi (w32 ((1440 * e + 8 * m) + o)), Vr 205, Vi (b 205 ((1440 * e + 8 * m) + p).toNat)]) (h' := ((SHv st dr rd), (ovl a s b))) (fun _ => rfl) ?_
      rw [show (w32 ((1440 * e + 8 * m) + o)) = ((1440 * e + 8 * m) + o) from w32_id (by unfold R32; omega)]
      refine Ev.iald (v := (b 205 ((1440 * e + 8 * m) + o).toNat)) rfl (by decide) rfl (by omega) (by omega) rfl ?_
      refine Ev.ite (P := (b 205 ((1440 * e + 8 * m) + p).toNat) = (b 205 ((1440 * e + 8 * m) + o).toNat)) (k := 1) (a := 49) (b := 47) (L' := [Vr 166, Vi e, Vi p, Vi o, Vi m, Vi (1440 * e + 8 * m)]) (S' := []) (h' := ((SHv st dr rd), (ovl a s b))) (fun _ => rfl) (fun b44 => ?_) (fun b44 => ?_)
      · refine Ev.steps (k := 5) (pc' := 57) (L' := [Vr 166, Vi e, Vi p, Vi o, Vi m, Vi (1440 * e + 8 * m)]) (S' := [Vi (w32 ((1440 * e + 8 * m) + o)), Vr 206]) (h' := ((SHv st dr rd), (ovl a s b))) (fun _ => rfl) ?_
        rw [show (w32 ((1440 * e + 8 * m) + o)) = ((1440 * e + 8 * m) + o) from w32_id (by unfold R32; omega)]
        refine Ev.zald (v := (b 206 ((1440 * e + 8 * m) + o).toNat)) rfl (by decide) rfl (by omega) (by omega) rfl ?_
        refine Ev.ite (P := (b 206 ((1440 * e + 8 * m) + o).toNat) = 0) (k := 1) (a := 65) (b := 61) (L' := [Vr 166, Vi e, Vi p, Vi o, Vi m, Vi (1440 * e + 8 * m)]) (S' := []) (h' := ((SHv st dr rd), (ovl a s b))) (fun _ => rfl) (fun b58 => ?_) (fun b58 => ?_)
        · refine Ev.fin (k := 2) (r := (some (Vi 2))) (h' := ((SHv st dr rd), (ovl a s b))) (fun _ => rfl) ?_
          refine ⟨?_, rfl⟩
          unfold seesI
          simp [*]
        · refine Ev.fin (k := 3) (r := (some (Vi 1))) (h' := ((SHv st dr rd), (ovl a s b))) (fun _ => rfl) ?_
          refine ⟨?_, rfl⟩
          unfold seesI
          simp [*]
      · refine Ev.fin (k := 2) (r := (some (Vi 0))) (h' := ((SHv st dr rd), (ovl a s b))) (fun _ => rfl) ?_
        refine ⟨?_, rfl⟩
        unfold seesI
        simp [*]
theorem m_saw {X : List Int} {d : Nat} {st dr rd : Int} {a s b : C3} (p o m : Int) (hM : MWf b) : Ev X (d + 2) 232 0 [Vr 166, Vi p, Vi o, Vi m] [] (SHv st dr rd, ovl a s b) (fun rr hh => rr = some (Vi (if (0 ≤ p ∧ p ≤ b 170 (b 166 12).toNat - 1) ∧ (0 ≤ o ∧ o ≤ b 170 (b 166 12).toNat - 1) ∧ (0 ≤ m ∧ m ≤ b 202 0 - 1) then seesI b 0 p o m else -1)) ∧ hh = (SHv st dr rd, ovl a s b)) := by
  have hM2 := hM
  unfold MWf at hM2
  refine Ev.call (k := 2) (pc1 := 2) (L1 := [Vr 166, Vi p, Vi o, Vi m]) (S1 := [Vi p, Vr 166]) (h1 := ((SHv st dr rd), (ovl a s b))) (m' := 197) (as := [Vr 166, Vi p]) (S' := []) (L0 := [Vr 166, Vi p]) (fun _ => rfl) rfl rfl rfl rfl rfl rfl (m_isWho p hM.bk (by omega)) (fun r h' hq => ?_)
  obtain ⟨rfl, rfl⟩ := hq
  by_cases c2 : (0 ≤ p ∧ p ≤ b 170 (b 166 12).toNat - 1)
  · rw [if_pos c2]
    show Ev X _ _ 5 [Vr 166, Vi p, Vi o, Vi m] [Vi 1] ((SHv st dr rd), (ovl a s b)) _
    refine Ev.call (k := 3) (pc1 := 10) (L1 := [Vr 166, Vi p, Vi o, Vi m]) (S1 := [Vi o, Vr 166]) (h1 := ((SHv st dr rd), (ovl a s b))) (m' := 197) (as := [Vr 166, Vi o]) (S' := []) (L0 := [Vr 166, Vi o]) (fun _ => rfl) rfl rfl rfl rfl rfl rfl (m_isWho o hM.bk (by omega)) (fun r h' hq => ?_)
    obtain ⟨rfl, rfl⟩ := hq
    by_cases c10 : (0 ≤ o ∧ o ≤ b 170 (b 166 12).toNat - 1)
    · rw [if_pos c10]
      show Ev X _ _ 13 [Vr 166, Vi p, Vi o, Vi m] [Vi 1] ((SHv st dr rd), (ovl a s b)) _
      refine Ev.call (k := 3) (pc1 := 18) (L1 := [Vr 166, Vi p, Vi o, Vi m]) (S1 := [Vi m, Vr 166]) (h1 := ((SHv st dr rd), (ovl a s b))) (m' := 225) (as := [Vr 166, Vi m]) (S' := []) (L0 := [Vr 166, Vi m]) (fun _ => rfl) rfl rfl rfl rfl rfl rfl (m_isMinute m hM) (fun r h' hq => ?_)
      obtain ⟨rfl, rfl⟩ := hq
      by_cases c18 : (0 ≤ m ∧ m ≤ b 202 0 - 1)
      · rw [if_pos c18]
        show Ev X _ _ 21 [Vr 166, Vi p, Vi o, Vi m] [Vi 1] ((SHv st dr rd), (ovl a s b)) _
        refine Ev.call (k := 6) (pc1 := 29) (L1 := [Vr 166, Vi p, Vi o, Vi m]) (S1 := [Vi m, Vi o, Vi p, Vi 0, Vr 166]) (h1 := ((SHv st dr rd), (ovl a s b))) (m' := 223) (as := [Vr 166, Vi 0, Vi p, Vi o, Vi m]) (S' := []) (L0 := [Vr 166, Vi 0, Vi p, Vi o, Vi m, Vx]) (fun _ => rfl) rfl rfl rfl rfl rfl rfl (m_sees 0 p o m (by omega) (by omega) (by omega) (by omega)) (fun r h' hq => ?_)
        obtain ⟨rfl, rfl⟩ := hq
        show Ev X _ _ 32 [Vr 166, Vi p, Vi o, Vi m] [Vi (seesI b 0 p o m)] ((SHv st dr rd), (ovl a s b)) _
        refine Ev.fin (k := 2) (r := (some (Vi (seesI b 0 p o m)))) (h' := ((SHv st dr rd), (ovl a s b))) (fun _ => rfl) ?_
        refine ⟨?_, rfl⟩
        first | rw [if_pos (by omega)] | rw [if_neg (by omega)]
      · rw [if_neg c18]
        show Ev X _ _ 21 [Vr 166, Vi p, Vi o, Vi m] [Vi 0] ((SHv st dr rd), (ovl a s b)) _
        refine Ev.fin (k := 3) (r := (some (Vi (-1)))) (h' := ((SHv st dr rd), (ovl a s b))) (fun _ => rfl) ?_
        refine ⟨?_, rfl⟩
        first | rw [if_pos (by omega)] | rw [if_neg (by omega)]
    · rw [if_neg c10]
      show Ev X _ _ 13 [Vr 166, Vi p, Vi o, Vi m] [Vi 0] ((SHv st dr rd), (ovl a s b)) _
      refine Ev.fin (k := 3) (r := (some (Vi (-1)))) (h' := ((SHv st dr rd), (ovl a s b))) (fun _ => rfl) ?_
      refine ⟨?_, rfl⟩
      first | rw [if_pos (by omega)] | rw [if_neg (by omega)]
  · rw [if_neg c2]
    show Ev X _ _ 5 [Vr 166, Vi p, Vi o, Vi m] [Vi 0] ((SHv st dr rd), (ovl a s b)) _
    refine Ev.fin (k := 3) (r := (some (Vi (-1)))) (h' := ((SHv st dr rd), (ovl a s b))) (fun _ => rfl) ?_
    refine ⟨?_, rfl⟩
    first | rw [if_pos (by omega)] | rw [if_neg (by omega)]
theorem m_knows {X : List Int} {d : Nat} {st dr rd : Int} {a s b : C3} (p o : Int) (hM : MWf b) : Ev X (d + 2) 233 0 [Vr 166, Vi p, Vi o] [] (SHv st dr rd, ovl a s b) (fun rr hh => rr = some (Vi (if (0 ≤ p ∧ p ≤ b 170 (b 166 12).toNat - 1) ∧ (0 ≤ o ∧ o ≤ b 170 (b 166 12).toNat - 1) ∧ 0 < b 202 0 then b 212 (8 * p + o).toNat else -1)) ∧ hh = (SHv st dr rd, ovl a s b)) := by
  have hM2 := hM
  unfold MWf at hM2
  refine Ev.call (k := 2) (pc1 := 2) (L1 := [Vr 166, Vi p, Vi o]) (S1 := [Vi p, Vr 166]) (h1 := ((SHv st dr rd), (ovl a s b))) (m' := 197) (as := [Vr 166, Vi p]) (S' := []) (L0 := [Vr 166, Vi p]) (fun _ => rfl) rfl rfl rfl rfl rfl rfl (m_isWho p hM.bk (by omega)) (fun r h' hq => ?_)
  obtain ⟨rfl, rfl⟩ := hq
  by_cases c2 : (0 ≤ p ∧ p ≤ b 170 (b 166 12).toNat - 1)
  · rw [if_pos c2]
    show Ev X _ _ 5 [Vr 166, Vi p, Vi o] [Vi 1] ((SHv st dr rd), (ovl a s b)) _
    refine Ev.call (k := 3) (pc1 := 10) (L1 := [Vr 166, Vi p, Vi o]) (S1 := [Vi o, Vr 166]) (h1 := ((SHv st dr rd), (ovl a s b))) (m' := 197) (as := [Vr 166, Vi o]) (S' := []) (L0 := [Vr 166, Vi o]) (fun _ => rfl) rfl rfl rfl rfl rfl rfl (m_isWho o hM.bk (by omega)) (fun r h' hq => ?_)
    obtain ⟨rfl, rfl⟩ := hq
    by_cases c10 : (0 ≤ o ∧ o ≤ b 170 (b 166 12).toNat - 1)
    · rw [if_pos c10]
      show Ev X _ _ 13 [Vr 166, Vi p, Vi o] [Vi 1] ((SHv st dr rd), (ovl a s b)) _
      refine Ev.ite (P := (b 202 0) ≤ 0) (k := 6) (a := 39) (b := 25) (L' := [Vr 166, Vi p, Vi o]) (S' := []) (h' := ((SHv st dr rd), (ovl a s b))) (fun _ => rfl) (fun b22 => ?_) (fun b22 => ?_)
      · refine Ev.fin (k := 2) (r := (some (Vi (-1)))) (h' := ((SHv st dr rd), (ovl a s b))) (fun _ => rfl) ?_
        refine ⟨?_, rfl⟩
        first | rw [if_pos (by omega)] | rw [if_neg (by omega)]
      · refine Ev.steps (k := 5) (pc' := 33) (L' := [Vr 166, Vi p, Vi o]) (S' := [Vi (w32 (8 * p)), Vr 212]) (h' := ((SHv st dr rd), (ovl a s b))) (fun _ => rfl) ?_
        rw [show (w32 (8 * p)) = (8 * p) from w32_id (by unfold R32; omega)]
        refine Ev.steps (k := 2) (pc' := 35) (L' := [Vr 166, Vi p, Vi o]) (S' := [Vi (w32 ((8 * p) + o)), Vr 212]) (h' := ((SHv st dr rd), (ovl a s b))) (fun _ => rfl) ?_
        rw [show (w32 ((8 * p) + o)) = ((8 * p) + o) from w32_id (by unfold R32; omega)]
        refine Ev.iald (v := (b 212 ((8 * p) + o).toNat)) rfl (by decide) rfl (by omega) (by omega) rfl ?_
        refine Ev.fin (k := 2) (r := (some (Vi (b 212 ((8 * p) + o).toNat)))) (h' := ((SHv st dr rd), (ovl a s b))) (fun _ => rfl) ?_
        refine ⟨?_, rfl⟩
        first | rw [if_pos (by omega)] | rw [if_neg (by omega)]
    · rw [if_neg c10]
      show Ev X _ _ 13 [Vr 166, Vi p, Vi o] [Vi 0] ((SHv st dr rd), (ovl a s b)) _
      refine Ev.fin (k := 3) (r := (some (Vi (-1)))) (h' := ((SHv st dr rd), (ovl a s b))) (fun _ => rfl) ?_
      refine ⟨?_, rfl⟩
      first | rw [if_pos (by omega)] | rw [if_neg (by omega)]
  · rw [if_neg c2]
    show Ev X _ _ 5 [Vr 166, Vi p, Vi o] [Vi 0] ((SHv st dr rd), (ovl a s b)) _
    refine Ev.fin (k := 3) (r := (some (Vi (-1)))) (h' := ((SHv st dr rd), (ovl a s b))) (fun _ => rfl) ?_
    refine ⟨?_, rfl⟩
    first | rw [if_pos (by omega)] | rw [if_neg (by omega)]
