/-! THE LAW: from its start to its end -/
theorem st_0 {X : List Int} : ∃ (c1 c2 : Nat → Nat → Int), exec X 6000 402 0 0 [Vr 0] [] ([(10, 9, [(-1), (-1), (-1), (-1), (-1), (-1), (-1), (-1), (-1)])], fun _ _ => 0) = some (none, (shA, c1)) ∧ exec X 6000 402 152 0 [Vr 166] [] (shA ++ [(11, 79, List.replicate 79 (-1))], c1) = some (none, (SHv 2 58 58, c2)) ∧ cst_ok c2 = true := by
  have h := chk1_ok
  unfold chk1 at h
  split at h
  · next h1 he =>
    rw [Bool.and_eq_true] at h
    obtain ⟨ha, hb⟩ := h
    split at hb
    · next h2 he2 =>
      rw [Bool.and_eq_true] at hb
      obtain ⟨hb, hc⟩ := hb
      have ha := of_decide_eq_true ha
      have hb := of_decide_eq_true hb
      refine ⟨h1.2, h2.2, ?_, ?_, hc⟩
      · rw [exec0_ok _ _ _ _ _ _ _ _ he, ← ha]
      · rw [exec0_ok _ _ _ _ _ _ _ _ he2, ← hb]
    · exact absurd hb (by decide)
  · exact absurd h (by decide)
theorem cst_at {c : Nat → Nat → Int} (h : cst_ok c = true) {o i : Nat} {v : Int} (hm : (o, i, v) ∈ cstL) : c o i = v := of_decide_eq_true (List.all_eq_true.mp h (o, i, v) hm)
theorem cst_m : ∀ (o i : Nat) (v : Int), cstL.any (fun q => decide (q = (o, i, v))) = true → (o, i, v) ∈ cstL := fun o i v h => by
  obtain ⟨q, h1, h2⟩ := List.any_eq_true.mp h
  rw [← of_decide_eq_true h2]
  exact h1
theorem cst_r {c : Nat → Nat → Int} (h : cst_ok c = true) {o n : Nat} {v : Int} (hm : (List.range n).all (fun i => cstL.any (fun q => decide (q = (o, i, v)))) = true) {i : Nat} (hi : i < n) : c o i = v := cst_at h (cst_m o i v (List.all_eq_true.mp hm i (List.mem_range.mpr hi)))
/-- nothing has been told -/
noncomputable def GO : GST := (styO, (fun _ _ => 0), (fun _ _ => 0), 0, ((fun _ => 0), 0), (0, -1))
theorem wfb_O : WfB styO (fun _ _ => 0) := ⟨fun p hp => absurd hp (Nat.not_lt_zero p), fun p hp => absurd hp (Nat.not_lt_zero p), fun _ _ => Or.inl rfl⟩
theorem topC_0 {c : Nat → Nat → Int} (h : cst_ok c = true) : TopC GO c 58 2 58 := by
  have hn : ∀ k, ¬ k < 0 := Nat.not_lt_zero
  refine ⟨Or.inl ⟨rfl, rfl⟩, Or.inr rfl, ⟨fun i hi => (show c 3 i = 0 from cst_r h (o := 3) (n := 6) (v := 0) (by decide +kernel) hi), fun k hk => absurd hk (hn k), fun k hk => absurd hk (hn k), fun k hk => absurd hk (hn k), fun r o hr => absurd hr (hn r), fun i hi => ?_, fun i hi => ?_, cst_at h (cst_m _ _ _ (by decide +kernel)), fun r hr => absurd hr (hn r), fun k hk => absurd hk (hn k), fun p hp => absurd hp (hn p)⟩, wfy_O, ⟨fun p hp => absurd hp (hn p), fun i hi => ?_, fun t ht => absurd ht (hn t), fun i hi => ?_, 0, by decide, cst_at h (cst_m _ _ _ (by decide +kernel)), fun r hr => absurd hr (hn r)⟩, wfb_O, wfb_O, Nat.zero_le _, ⟨cst_at h (cst_m _ _ _ (by decide +kernel)), cst_at h (cst_m _ _ _ (by decide +kernel)), cst_at h (cst_m _ _ _ (by decide +kernel)), cst_at h (cst_m _ _ _ (by decide +kernel)), fun h => absurd h (Nat.lt_irrefl 0)⟩, ⟨Nat.zero_le _, cst_at h (cst_m _ _ _ (by decide +kernel)), fun i hi => absurd hi (hn i)⟩, cst_at h (cst_m _ _ _ (by decide +kernel)), cst_at h (cst_m _ _ _ (by decide +kernel)), ⟨Or.inl ?_, Or.inl ?_, fun g => ?_, fun g => ?_⟩, cst_at h (cst_m _ _ _ (by decide +kernel)), fun w hw => ?_⟩
  · rw [cst_r h (o := 9) (n := 8) (v := 0) (by decide +kernel) hi]
    exact (if_neg (show ¬ i < nW (gS GO) from hn i)).symm
  · rw [cst_r h (o := 10) (n := 8) (v := 0) (by decide +kernel) hi]
    exact (if_neg (show ¬ i < nT (gS GO) from hn i)).symm
  · rw [cst_r h (o := 117) (n := 8) (v := 0) (by decide +kernel) hi]
    decide
  · rw [cst_r h (o := 118) (n := 8) (v := 0) (by decide +kernel) hi]
    decide
  · exact cst_at h (cst_m _ _ _ (by decide +kernel))
  · exact cst_at h (cst_m _ _ _ (by decide +kernel))
  · rw [show c 141 4 = 0 from cst_at h (cst_m _ _ _ (by decide +kernel))] at g
    exact absurd g (by decide)
  · rw [show c 141 5 = 0 from cst_at h (cst_m _ _ _ (by decide +kernel))] at g
    exact absurd g (by decide)
  · have hA : (List.range 27).all (fun w => cstL.any (fun q => decide (q = (115, w, ownN w)))) = true := by decide +kernel
    exact cst_at h (cst_m _ _ _ (List.all_eq_true.mp hA w (List.mem_range.mpr hw)))
theorem topM_0 {c : Nat → Nat → Int} (h : cst_ok c = true) : TopM GO c := by
  have hn : ∀ k, ¬ k < 0 := Nat.not_lt_zero
  refine ⟨0, ⟨by decide, cst_at h (cst_m _ _ _ (by decide +kernel)), cst_at h (cst_m _ _ _ (by decide +kernel)), cst_at h (cst_m _ _ _ (by decide +kernel)), cst_at h (cst_m _ _ _ (by decide +kernel)), cst_at h (cst_m _ _ _ (by decide +kernel)), cst_at h (cst_m _ _ _ (by decide +kernel)), cst_at h (cst_m _ _ _ (by decide +kernel)), fun k hk => absurd hk (hn k), fun k hk => absurd hk (hn k), fun k hk => absurd hk (hn k), fun r o hr => absurd hr (hn r), fun k hk => absurd hk (hn k), fun k hk => absurd hk (hn k), fun k hk => absurd hk (hn k), fun k hk => absurd hk (hn k)⟩, wfy_O, ⟨fun k hk => absurd hk (hn k), fun k hk => absurd hk (hn k), fun k hk => absurd hk (hn k)⟩, wfb_O, wfb_O, Nat.zero_le _, EvQ_0 (cst_at h (cst_m _ _ _ (by decide +kernel))) (cst_at h (cst_m _ _ _ (by decide +kernel))) (cst_at h (cst_m _ _ _ (by decide +kernel))), ⟨Nat.zero_le _, cst_at h (cst_m _ _ _ (by decide +kernel)), fun i hi => absurd hi (hn i)⟩, cst_at h (cst_m _ _ _ (by decide +kernel)), cst_at h (cst_m _ _ _ (by decide +kernel)), fun i hi => Or.inl (cst_r h (o := 201) (n := 90) (by decide +kernel) hi)⟩
theorem ovl_one {c : Nat → Nat → Int} : ovl c c c = c := by
  funext o
  unfold ovl
  cases Nat.blt o 166
  · cases Nat.blt 216 o <;> rfl
  · rfl
set_option maxRecDepth 100000 in
theorem shv_sz {y z : Nat} {rd : Int} {c : Nat → Nat → Int} : (SHv (y : Int) (z : Int) rd).length = 219 ∧ pm_sz (SHv (y : Int) (z : Int) rd, c) ≤ 7302250 := ⟨rfl, by
  have e : (SHv (y : Int) (z : Int) rd).map (fun sh => sh.2.1) = (SHv 0 0 0).map (fun sh => sh.2.1) := rfl
  show ((SHv (y : Int) (z : Int) rd).map (fun sh => sh.2.1)).sum ≤ 7302250
  rw [e]
  decide +kernel⟩
theorem pure_law (X : List Int) (hL : X.length ≤ 3072) : ∃ (f d : Nat) (h' : pm_H), d ≤ 1300 ∧ exec X f d 259 0 [Vr (-2), Vx, Vx, Vx] [] ([], fun _ _ => 0) = some (some (Vi 1), h') ∧ h'.1.length ≤ 600000 ∧ pm_sz h' ≤ 7302250 := by
  obtain ⟨c1, c2, e1, e2, hc⟩ := st_0 (X := X)
  have H : Ev X (402 + 1) 259 0 [Vr (-2), Vx, Vx, Vx] [] ([], fun _ _ => 0) (fun rr hh => rr = some (Vi 1) ∧ ∃ (y z : Nat) (rd : Int) (c : C3), hh = (SHv (y : Int) (z : Int) rd, c)) := by
    refine Ev.call (k := 2) (pc1 := 4) (L1 := [Vr (-2), Vx, Vx, Vx]) (S1 := [Vr 0, Vr 0]) (h1 := ([(10, 9, [(-1), (-1), (-1), (-1), (-1), (-1), (-1), (-1), (-1)])], fun _ _ => 0)) (m' := 0) (as := [Vr 0]) (S' := [Vr 0]) (L0 := [Vr 0]) (Q' := fun r h => r = none ∧ h = (shA, c1)) (fun _ => rfl) rfl rfl rfl rfl rfl rfl ⟨6000, none, _, e1, rfl, rfl⟩ (fun r h' hq => ?_)
    obtain ⟨rfl, rfl⟩ := hq
    show Ev X _ _ 7 [Vr (-2), Vx, Vx, Vx] [Vr 0] (shA, c1) _
    refine Ev.call (k := 3) (pc1 := 12) (L1 := [Vr (-2), Vr 0, Vx, Vx]) (S1 := [Vr 166, Vr 166]) (h1 := (shA ++ [(11, 79, List.replicate 79 (-1))], c1)) (m' := 152) (as := [Vr 166]) (S' := [Vr 166]) (L0 := [Vr 166]) (Q' := fun r h => r = none ∧ h = (SHv 2 58 58, c2)) (fun _ => rfl) rfl rfl rfl rfl rfl rfl ⟨6000, none, _, e2, rfl, rfl⟩ (fun r h' hq => ?_)
    obtain ⟨rfl, rfl⟩ := hq
    show Ev X _ _ 15 [Vr (-2), Vr 0, Vx, Vx] [Vr 166] (SHv 2 58 58, c2) _
    refine Ev.steps (k := 3) (pc' := 18) (L' := [Vr (-2), Vr 0, Vr 166, Vi 0]) (S' := []) (h' := (SHv 2 58 58, c2)) (fun _ => rfl) ?_
    have h := law_l (X := X) (d := 0) hL (X.length) 0 (by omega) (by omega) GO c2 c2 c2 58 2 58 (topC_0 hc) (topM_0 hc) nmv_O
    rw [ovl_one] at h
    exact h
  obtain ⟨f, r, h', hex, rfl, y, z, rd, c, rfl⟩ := H
  exact ⟨f, 403, _, by decide, hex, by rw [(shv_sz (c := c)).1]; decide, shv_sz.2⟩
