/-! THE REFERENCE READS: what is named -/
def coM (kd : Nat) : Nat := match kd with
  | 0 => 168
  | 1 => 170
  | _ => 171
def noM (kd : Nat) : Nat := match kd with
  | 0 => 174
  | 1 => 176
  | _ => 178
/-- the names that are told so far lie in bank j -/
def NmM (N b : SC) (j : Nat) : Prop := j < 2 ∧ b 166 39 = (j : Int) ∧ ∀ kd, kd < 3 → cntN N kd ≤ 8 ∧ b (coM kd) j = ((cntN N kd : Nat) : Int) ∧ ∀ k, k < cntN N kd → b (noM kd) (8 * j + k) = N (1 + kd) k
theorem NmM.fr {N b b' : SC} {j : Nat} (h : NmM N b j) (hf : FrN b b') : NmM N b' j := by
  refine ⟨h.1, (hf _ _ (by omega)).trans h.2.1, fun kd hkd => ?_⟩
  have hc : coM kd ≠ 166 := by unfold coM; split <;> omega
  have hn : noM kd ≠ 166 := by unfold noM; split <;> omega
  rw [hf.row hc, hf.row hn]
  exact h.2.2 kd hkd
theorem m_named_0_l {X : List Int} {d : Nat} {st dr rd : Int} {a s b : C3} {N : SC} {j : Nat} (hN : NmM N b j) (w : Nat) (i : Nat) (x6 x7 : pm_V) (hi : i ≤ cntN N 0) (hm : ∀ k, k < i → N (1 + 0) k ≠ (w : Int)) : Ev X d 168 47 [Vr 166, Vi 0, Vl (w : Int), Vx, Vi ((cntN N 0 : Nat) : Int), Vi (i : Int), x6, x7] [] (SHv st dr rd, ovl a s b) (fun rr hh => rr = some (Vi (nmI N 0 w)) ∧ hh = (SHv st dr rd, ovl a s b)) := by
  induction hkk : (cntN N 0 - i) using Nat.strongRecOn generalizing i x6 x7 with
  | ind kk ih =>
    have e39 := hN.2.1
    have hj := hN.1
    have hcn := hN.2.2 0 (by decide)
    have h8 := hcn.1
    have hnm : ∀ k, k < cntN N 0 → b 174 (8 * j + k) = N (1 + 0) k := hcn.2.2
    clear hcn
    refine Ev.ite (P := ((cntN N 0 : Nat) : Int) ≤ (i : Int)) (k := 3) (a := 132) (b := 54) (L' := [Vr 166, Vi 0, Vl (w : Int), Vx, Vi ((cntN N 0 : Nat) : Int), Vi (i : Int), x6, x7]) (S' := []) (h' := ((SHv st dr rd), (ovl a s b))) (fun _ => rfl) (fun b51 => ?_) (fun b51 => ?_)
    · refine Ev.fin (k := 2) (r := (some (Vi (-1)))) (h' := ((SHv st dr rd), (ovl a s b))) (fun _ => rfl) ?_
      refine ⟨?_, rfl⟩
      have e : nmd N 0 w = cntN N 0 := lst_no (fun k hk => decide_eq_false (hm k (by omega)))
      unfold nmI
      rw [e, if_neg (by omega)]
    · refine Ev.steps (k := 7) (pc' := 68) (L' := [Vr 166, Vi 0, Vl (w : Int), Vx, Vi ((cntN N 0 : Nat) : Int), Vi (i : Int), x6, x7]) (S' := [Vi (b 166 39), Vi 8, Vr 174]) (h' := ((SHv st dr rd), (ovl a s b))) (fun _ => rfl) ?_
      rw [e39]
      refine Ev.steps (k := 1) (pc' := 69) (L' := [Vr 166, Vi 0, Vl (w : Int), Vx, Vi ((cntN N 0 : Nat) : Int), Vi (i : Int), x6, x7]) (S' := [Vi (w32 (8 * (j : Int))), Vr 174]) (h' := ((SHv st dr rd), (ovl a s b))) (fun _ => rfl) ?_
      rw [show (w32 (8 * (j : Int))) = (8 * (j : Int)) from w32_id (by unfold R32; omega)]
      refine Ev.steps (k := 2) (pc' := 72) (L' := [Vr 166, Vi 0, Vl (w : Int), Vx, Vi ((cntN N 0 : Nat) : Int), Vi (i : Int), x6, x7]) (S' := [Vi (w32 ((8 * (j : Int)) + (i : Int))), Vr 174]) (h' := ((SHv st dr rd), (ovl a s b))) (fun _ => rfl) ?_
      rw [show (w32 ((8 * (j : Int)) + (i : Int))) = ((8 * (j : Int)) + (i : Int)) from w32_id (by unfold R32; omega)]
      refine Ev.lald (v := (N (1 + 0) i)) rfl (by decide) rfl (by omega) (by omega) (hnm i (by omega)) ?_
      refine Ev.ite (P := (l_cmp (N (1 + 0) i) (w : Int)) ≠ 0) (k := 6) (a := 126) (b := 123) (L' := [Vr 166, Vi 0, Vl (w : Int), Vx, Vi ((cntN N 0 : Nat) : Int), Vi (i : Int), Vl (N (1 + 0) i), Vx]) (S' := []) (h' := ((SHv st dr rd), (ovl a s b))) (fun _ => rfl) (fun b120 => ?_) (fun b120 => ?_)
      · rw [lc_ne] at b120
        refine Ev.steps (k := 1) (pc' := 129) (L' := [Vr 166, Vi 0, Vl (w : Int), Vx, Vi ((cntN N 0 : Nat) : Int), Vi (w32 ((i : Int) + 1)), Vl (N (1 + 0) i), Vx]) (S' := []) (h' := ((SHv st dr rd), (ovl a s b))) (fun _ => rfl) ?_
        rw [show (w32 ((i : Int) + 1)) = ((i : Int) + 1) from w32_id (by unfold R32; omega)]
        refine Ev.steps (k := 1) (pc' := 47) (L' := [Vr 166, Vi 0, Vl (w : Int), Vx, Vi ((cntN N 0 : Nat) : Int), Vi ((i : Int) + 1), Vl (N (1 + 0) i), Vx]) (S' := []) (h' := ((SHv st dr rd), (ovl a s b))) (fun _ => rfl) ?_
        refine ih _ (by omega) (i + 1) _ _ (by omega) (fun k hk => ?_) rfl
        by_cases h : k = i
        · rw [h]
          exact b120
        · exact hm k (by omega)
      · rw [lc_ne] at b120
        refine Ev.fin (k := 2) (r := (some (Vi (i : Int)))) (h' := ((SHv st dr rd), (ovl a s b))) (fun _ => rfl) ?_
        refine ⟨?_, rfl⟩
        have b120 : N (1 + 0) i = (w : Int) := by first | exact b120 | exact Classical.not_not.mp b120
        have e : nmd N 0 w = i := lst_eq (decide_eq_true b120) (fun k hk => decide_eq_false (hm k hk)) (by omega)
        unfold nmI
        rw [e, if_pos (by omega)]
theorem m_named_0 {X : List Int} {d : Nat} {st dr rd : Int} {a s b : C3} {N : SC} {j : Nat} (hN : NmM N b j) (w : Nat) : Ev X d 168 0 [Vr 166, Vi 0, Vl (w : Int), Vx, Vx, Vx, Vx, Vx] [] (SHv st dr rd, ovl a s b) (fun rr hh => rr = some (Vi (nmI N 0 w)) ∧ hh = (SHv st dr rd, ovl a s b)) := by
  have e39 := hN.2.1
  have hj := hN.1
  have hcn := (hN.2.2 0 (by decide)).2.1
  have hc1 : b 168 j = ((cntN N 0 : Nat) : Int) := hcn
  refine Ev.steps (k := 6) (pc' := 12) (L' := [Vr 166, Vi 0, Vl (w : Int), Vx, Vx, Vx, Vx, Vx]) (S' := [Vi (b 166 39), Vr 168]) (h' := ((SHv st dr rd), (ovl a s b))) (fun _ => rfl) ?_
  rw [e39]
  refine Ev.iald (v := ((cntN N 0 : Nat) : Int)) rfl (by decide) rfl (by omega) (by omega) (hc1) ?_
  refine Ev.steps (k := 4) (pc' := 47) (L' := [Vr 166, Vi 0, Vl (w : Int), Vx, Vi ((cntN N 0 : Nat) : Int), Vi 0, Vx, Vx]) (S' := []) (h' := ((SHv st dr rd), (ovl a s b))) (fun _ => rfl) ?_
  exact m_named_0_l hN w 0 _ _ (by omega) (fun k hk => absurd hk (by omega))
theorem m_named_1_l {X : List Int} {d : Nat} {st dr rd : Int} {a s b : C3} {N : SC} {j : Nat} (hN : NmM N b j) (w : Nat) (i : Nat) (x6 x7 : pm_V) (hi : i ≤ cntN N 1) (hm : ∀ k, k < i → N (1 + 1) k ≠ (w : Int)) : Ev X d 168 47 [Vr 166, Vi 1, Vl (w : Int), Vx, Vi ((cntN N 1 : Nat) : Int), Vi (i : Int), x6, x7] [] (SHv st dr rd, ovl a s b) (fun rr hh => rr = some (Vi (nmI N 1 w)) ∧ hh = (SHv st dr rd, ovl a s b)) := by
  induction hkk : (cntN N 1 - i) using Nat.strongRecOn generalizing i x6 x7 with
  | ind kk ih =>
    have e39 := hN.2.1
    have hj := hN.1
    have hcn := hN.2.2 1 (by decide)
    have h8 := hcn.1
    have hnm : ∀ k, k < cntN N 1 → b 176 (8 * j + k) = N (1 + 1) k := hcn.2.2
    clear hcn
    refine Ev.ite (P := ((cntN N 1 : Nat) : Int) ≤ (i : Int)) (k := 3) (a := 132) (b := 54) (L' := [Vr 166, Vi 1, Vl (w : Int), Vx, Vi ((cntN N 1 : Nat) : Int), Vi (i : Int), x6, x7]) (S' := []) (h' := ((SHv st dr rd), (ovl a s b))) (fun _ => rfl) (fun b51 => ?_) (fun b51 => ?_)
    · refine Ev.fin (k := 2) (r := (some (Vi (-1)))) (h' := ((SHv st dr rd), (ovl a s b))) (fun _ => rfl) ?_
      refine ⟨?_, rfl⟩
      have e : nmd N 1 w = cntN N 1 := lst_no (fun k hk => decide_eq_false (hm k (by omega)))
      unfold nmI
      rw [e, if_neg (by omega)]
    · refine Ev.steps (k := 10) (pc' := 91) (L' := [Vr 166, Vi 1, Vl (w : Int), Vx, Vi ((cntN N 1 : Nat) : Int), Vi (i : Int), x6, x7]) (S' := [Vi (b 166 39), Vi 8, Vr 176]) (h' := ((SHv st dr rd), (ovl a s b))) (fun _ => rfl) ?_
      rw [e39]
      refine Ev.steps (k := 1) (pc' := 92) (L' := [Vr 166, Vi 1, Vl (w : Int), Vx, Vi ((cntN N 1 : Nat) : Int), Vi (i : Int), x6, x7]) (S' := [Vi (w32 (8 * (j : Int))), Vr 176]) (h' := ((SHv st dr rd), (ovl a s b))) (fun _ => rfl) ?_
      rw [show (w32 (8 * (j : Int))) = (8 * (j : Int)) from w32_id (by unfold R32; omega)]
      refine Ev.steps (k := 2) (pc' := 95) (L' := [Vr 166, Vi 1, Vl (w : Int), Vx, Vi ((cntN N 1 : Nat) : Int), Vi (i : Int), x6, x7]) (S' := [Vi (w32 ((8 * (j : Int)) + (i : Int))), Vr 176]) (h' := ((SHv st dr rd), (ovl a s b))) (fun _ => rfl) ?_
      rw [show (w32 ((8 * (j : Int)) + (i : Int))) = ((8 * (j : Int)) + (i : Int)) from w32_id (by unfold R32; omega)]
      refine Ev.lald (v := (N (1 + 1) i)) rfl (by decide) rfl (by omega) (by omega) (hnm i (by omega)) ?_
      refine Ev.ite (P := (l_cmp (N (1 + 1) i) (w : Int)) ≠ 0) (k := 6) (a := 126) (b := 123) (L' := [Vr 166, Vi 1, Vl (w : Int), Vx, Vi ((cntN N 1 : Nat) : Int), Vi (i : Int), Vl (N (1 + 1) i), Vx]) (S' := []) (h' := ((SHv st dr rd), (ovl a s b))) (fun _ => rfl) (fun b120 => ?_) (fun b120 => ?_)
      · rw [lc_ne] at b120
        refine Ev.steps (k := 1) (pc' := 129) (L' := [Vr 166, Vi 1, Vl (w : Int), Vx, Vi ((cntN N 1 : Nat) : Int), Vi (w32 ((i : Int) + 1)), Vl (N (1 + 1) i), Vx]) (S' := []) (h' := ((SHv st dr rd), (ovl a s b))) (fun _ => rfl) ?_
        rw [show (w32 ((i : Int) + 1)) = ((i : Int) + 1) from w32_id (by unfold R32; omega)]
        refine Ev.steps (k := 1) (pc' := 47) (L' := [Vr 166, Vi 1, Vl (w : Int), Vx, Vi ((cntN N 1 : Nat) : Int), Vi ((i : Int) + 1), Vl (N (1 + 1) i), Vx]) (S' := []) (h' := ((SHv st dr rd), (ovl a s b))) (fun _ => rfl) ?_
        refine ih _ (by omega) (i + 1) _ _ (by omega) (fun k hk => ?_) rfl
        by_cases h : k = i
        · rw [h]
          exact b120
        · exact hm k (by omega)
      · rw [lc_ne] at b120
        refine Ev.fin (k := 2) (r := (some (Vi (i : Int)))) (h' := ((SHv st dr rd), (ovl a s b))) (fun _ => rfl) ?_
        refine ⟨?_, rfl⟩
        have b120 : N (1 + 1) i = (w : Int) := by first | exact b120 | exact Classical.not_not.mp b120
        have e : nmd N 1 w = i := lst_eq (decide_eq_true b120) (fun k hk => decide_eq_false (hm k hk)) (by omega)
        unfold nmI
        rw [e, if_pos (by omega)]
theorem m_named_1 {X : List Int} {d : Nat} {st dr rd : Int} {a s b : C3} {N : SC} {j : Nat} (hN : NmM N b j) (w : Nat) : Ev X d 168 0 [Vr 166, Vi 1, Vl (w : Int), Vx, Vx, Vx, Vx, Vx] [] (SHv st dr rd, ovl a s b) (fun rr hh => rr = some (Vi (nmI N 1 w)) ∧ hh = (SHv st dr rd, ovl a s b)) := by
  have e39 := hN.2.1
  have hj := hN.1
  have hcn := (hN.2.2 1 (by decide)).2.1
  have hc1 : b 170 j = ((cntN N 1 : Nat) : Int) := hcn
  refine Ev.steps (k := 9) (pc' := 29) (L' := [Vr 166, Vi 1, Vl (w : Int), Vx, Vx, Vx, Vx, Vx]) (S' := [Vi (b 166 39), Vr 170]) (h' := ((SHv st dr rd), (ovl a s b))) (fun _ => rfl) ?_
  rw [e39]
  refine Ev.iald (v := ((cntN N 1 : Nat) : Int)) rfl (by decide) rfl (by omega) (by omega) (hc1) ?_
  refine Ev.steps (k := 4) (pc' := 47) (L' := [Vr 166, Vi 1, Vl (w : Int), Vx, Vi ((cntN N 1 : Nat) : Int), Vi 0, Vx, Vx]) (S' := []) (h' := ((SHv st dr rd), (ovl a s b))) (fun _ => rfl) ?_
  exact m_named_1_l hN w 0 _ _ (by omega) (fun k hk => absurd hk (by omega))
theorem m_named_2_l {X : List Int} {d : Nat} {st dr rd : Int} {a s b : C3} {N : SC} {j : Nat} (hN : NmM N b j) (w : Nat) (i : Nat) (x6 x7 : pm_V) (hi : i ≤ cntN N 2) (hm : ∀ k, k < i → N (1 + 2) k ≠ (w : Int)) : Ev X d 168 47 [Vr 166, Vi 2, Vl (w : Int), Vx, Vi ((cntN N 2 : Nat) : Int), Vi (i : Int), x6, x7] [] (SHv st dr rd, ovl a s b) (fun rr hh => rr = some (Vi (nmI N 2 w)) ∧ hh = (SHv st dr rd, ovl a s b)) := by
  induction hkk : (cntN N 2 - i) using Nat.strongRecOn generalizing i x6 x7 with
  | ind kk ih =>
    have e39 := hN.2.1
    have hj := hN.1
    have hcn := hN.2.2 2 (by decide)
    have h8 := hcn.1
    have hnm : ∀ k, k < cntN N 2 → b 178 (8 * j + k) = N (1 + 2) k := hcn.2.2
    clear hcn
    refine Ev.ite (P := ((cntN N 2 : Nat) : Int) ≤ (i : Int)) (k := 3) (a := 132) (b := 54) (L' := [Vr 166, Vi 2, Vl (w : Int), Vx, Vi ((cntN N 2 : Nat) : Int), Vi (i : Int), x6, x7]) (S' := []) (h' := ((SHv st dr rd), (ovl a s b))) (fun _ => rfl) (fun b51 => ?_) (fun b51 => ?_)
    · refine Ev.fin (k := 2) (r := (some (Vi (-1)))) (h' := ((SHv st dr rd), (ovl a s b))) (fun _ => rfl) ?_
      refine ⟨?_, rfl⟩
      have e : nmd N 2 w = cntN N 2 := lst_no (fun k hk => decide_eq_false (hm k (by omega)))
      unfold nmI
      rw [e, if_neg (by omega)]
    · refine Ev.steps (k := 10) (pc' := 109) (L' := [Vr 166, Vi 2, Vl (w : Int), Vx, Vi ((cntN N 2 : Nat) : Int), Vi (i : Int), x6, x7]) (S' := [Vi (b 166 39), Vi 8, Vr 178]) (h' := ((SHv st dr rd), (ovl a s b))) (fun _ => rfl) ?_
      rw [e39]
      refine Ev.steps (k := 1) (pc' := 110) (L' := [Vr 166, Vi 2, Vl (w : Int), Vx, Vi ((cntN N 2 : Nat) : Int), Vi (i : Int), x6, x7]) (S' := [Vi (w32 (8 * (j : Int))), Vr 178]) (h' := ((SHv st dr rd), (ovl a s b))) (fun _ => rfl) ?_
      rw [show (w32 (8 * (j : Int))) = (8 * (j : Int)) from w32_id (by unfold R32; omega)]
      refine Ev.steps (k := 2) (pc' := 113) (L' := [Vr 166, Vi 2, Vl (w : Int), Vx, Vi ((cntN N 2 : Nat) : Int), Vi (i : Int), x6, x7]) (S' := [Vi (w32 ((8 * (j : Int)) + (i : Int))), Vr 178]) (h' := ((SHv st dr rd), (ovl a s b))) (fun _ => rfl) ?_
      rw [show (w32 ((8 * (j : Int)) + (i : Int))) = ((8 * (j : Int)) + (i : Int)) from w32_id (by unfold R32; omega)]
      refine Ev.lald (v := (N (1 + 2) i)) rfl (by decide) rfl (by omega) (by omega) (hnm i (by omega)) ?_
      refine Ev.ite (P := (l_cmp (N (1 + 2) i) (w : Int)) ≠ 0) (k := 5) (a := 126) (b := 123) (L' := [Vr 166, Vi 2, Vl (w : Int), Vx, Vi ((cntN N 2 : Nat) : Int), Vi (i : Int), Vl (N (1 + 2) i), Vx]) (S' := []) (h' := ((SHv st dr rd), (ovl a s b))) (fun _ => rfl) (fun b120 => ?_) (fun b120 => ?_)
      · rw [lc_ne] at b120
        refine Ev.steps (k := 1) (pc' := 129) (L' := [Vr 166, Vi 2, Vl (w : Int), Vx, Vi ((cntN N 2 : Nat) : Int), Vi (w32 ((i : Int) + 1)), Vl (N (1 + 2) i), Vx]) (S' := []) (h' := ((SHv st dr rd), (ovl a s b))) (fun _ => rfl) ?_
        rw [show (w32 ((i : Int) + 1)) = ((i : Int) + 1) from w32_id (by unfold R32; omega)]
        refine Ev.steps (k := 1) (pc' := 47) (L' := [Vr 166, Vi 2, Vl (w : Int), Vx, Vi ((cntN N 2 : Nat) : Int), Vi ((i : Int) + 1), Vl (N (1 + 2) i), Vx]) (S' := []) (h' := ((SHv st dr rd), (ovl a s b))) (fun _ => rfl) ?_
        refine ih _ (by omega) (i + 1) _ _ (by omega) (fun k hk => ?_) rfl
        by_cases h : k = i
        · rw [h]
          exact b120
        · exact hm k (by omega)
      · rw [lc_ne] at b120
        refine Ev.fin (k := 2) (r := (some (Vi (i : Int)))) (h' := ((SHv st dr rd), (ovl a s b))) (fun _ => rfl) ?_
        refine ⟨?_, rfl⟩
        have b120 : N (1 + 2) i = (w : Int) := by first | exact b120 | exact Classical.not_not.mp b120
        have e : nmd N 2 w = i := lst_eq (decide_eq_true b120) (fun k hk => decide_eq_false (hm k hk)) (by omega)
        unfold nmI
        rw [e, if_pos (by omega)]
theorem m_named_2 {X : List Int} {d : Nat} {st dr rd : Int} {a s b : C3} {N : SC} {j : Nat} (hN : NmM N b j) (w : Nat) : Ev X d 168 0 [Vr 166, Vi 2, Vl (w : Int), Vx, Vx, Vx, Vx, Vx] [] (SHv st dr rd, ovl a s b) (fun rr hh => rr = some (Vi (nmI N 2 w)) ∧ hh = (SHv st dr rd, ovl a s b)) := by
  have e39 := hN.2.1
  have hj := hN.1
  have hcn := (hN.2.2 2 (by decide)).2.1
  have hc1 : b 171 j = ((cntN N 2 : Nat) : Int) := hcn
  refine Ev.steps (k := 9) (pc' := 41) (L' := [Vr 166, Vi 2, Vl (w : Int), Vx, Vx, Vx, Vx, Vx]) (S' := [Vi (b 166 39), Vr 171]) (h' := ((SHv st dr rd), (ovl a s b))) (fun _ => rfl) ?_
  rw [e39]
  refine Ev.iald (v := ((cntN N 2 : Nat) : Int)) rfl (by decide) rfl (by omega) (by omega) (hc1) ?_
  refine Ev.steps (k := 3) (pc' := 47) (L' := [Vr 166, Vi 2, Vl (w : Int), Vx, Vi ((cntN N 2 : Nat) : Int), Vi 0, Vx, Vx]) (S' := []) (h' := ((SHv st dr rd), (ovl a s b))) (fun _ => rfl) ?_
  exact m_named_2_l hN w 0 _ _ (by omega) (fun k hk => absurd hk (by omega))
def lokT (W : TXT) (N : SC) (kd : Nat) (but : Int) (p : Nat) : Except PF Nat := if tC W p ≠ 300 then .error (fltT W 1 p) else if nmd N kd (tV W p) = cntN N kd ∨ ((nmd N kd (tV W p) : Nat) : Int) = but then .error (fltT W 3 p) else .ok (nmd N kd (tV W p))
theorem ask_lok {W : TXT} {N : SC} {kd p : Nat} {but : Int} : askT W N kd but p = bnX (lokT W N kd but p) (fun i => bnX (gotT W p) (fun p1 => .ok (i, p1))) := by
  unfold askT lokT
  split
  · rfl
  · split
    · rfl
    · rfl
theorem TkM.bl {W : TXT} {p : Nat} {b : SC} (h : TkM W p b) {k : Int} (hk : 0 < k) : BdM W b (fltT W k p) (updC (updC b 166 8 k) 166 9 ((tA W p : Nat) : Int)) := ⟨(FrN.rf.up (by omega)).up (by omega), h.1.fo rfl rfl, hk, rfl, rfl⟩
theorem m_looked_0A {X : List Int} {d : Nat} {st dr rd : Int} {a s b : C3} {W : TXT} {p : Nat} (hk : TkM W p b) {N : SC} (but : Int) (hc : tC W p ≠ 300) (h3 : b 166 3 ≠ 1) : Ev X (d + 1) 166 0 [Vr 166, Vi 0, Vi but, Vx] [] (SHv st dr rd, ovl a s b) (fun rr hh => ∃ b' : C3, hh = (SHv st dr rd, ovl a s b') ∧ ResC (lokT W N 0 but p) (fun i => rr = some (Vi ((i : Nat) : Int)) ∧ b' = b) (fun e => rr = some (Vi 0) ∧ BdM W b e b')) := by
  refine Ev.steps (k := 2) (pc' := 4) (L' := [Vr 166, Vi 0, Vi but, Vx]) (S' := [Vi (b 166 8)]) (h' := ((SHv st dr rd), (ovl a s b))) (fun _ => rfl) ?_
  rw [hk.2.1]
  refine Ev.ite (P := (b 166 3) ≠ 1) (k := 5) (a := 28) (b := 17) (L' := [Vr 166, Vi 0, Vi but, Vx]) (S' := []) (h' := ((SHv st dr rd), (ovl a s b))) (fun _ => rfl) (fun b14 => ?_) (fun b14 => ?_)
  · refine Ev.steps (k := 4) (pc' := 34) (L' := [Vr 166, Vi 0, Vi but, Vx]) (S' := [Vi (b 166 4), Vi 1, Vr 166]) (h' := ((SHv st dr rd), (ovl a s b))) (fun _ => rfl) ?_
    rw [hk.2.2.2.2.1]
    refine Ev.call (k := 0) (pc1 := 34) (L1 := [Vr 166, Vi 0, Vi but, Vx]) (S1 := [Vi ((tA W p : Nat) : Int), Vi 1, Vr 166]) (h1 := ((SHv st dr rd), (ovl a s b))) (m' := 160) (as := [Vr 166, Vi 1, Vi ((tA W p : Nat) : Int)]) (S' := []) (L0 := [Vr 166, Vi 1, Vi ((tA W p : Nat) : Int)]) (fun _ => rfl) rfl rfl rfl rfl rfl rfl (m_blame (b := b) 1 ((tA W p : Nat) : Int)) (fun r h' hq => ?_)
    obtain ⟨rfl, hq⟩ := hq
    rw [if_neg (by show ¬ 0 < b 166 8; rw [hk.2.1]; decide)] at hq
    obtain rfl := hq
    show Ev X _ _ 37 [Vr 166, Vi 0, Vi but, Vx] [] ((SHv st dr rd), (ovl a s (updC (updC b 166 8 1) 166 9 ((tA W p : Nat) : Int)))) _
    refine Ev.steps (k := 2) (pc' := 41) (L' := [Vr 166, Vi 0, Vi but, Vx]) (S' := [Vi ((updC (updC b 166 8 1) 166 9 ((tA W p : Nat) : Int)) 166 8)]) (h' := ((SHv st dr rd), (ovl a s (updC (updC b 166 8 1) 166 9 ((tA W p : Nat) : Int))))) (fun _ => rfl) ?_
    rw [(show ((updC (updC b 166 8 1) 166 9 ((tA W p : Nat) : Int)) 166 8) = 1 from rfl)]
    refine Ev.steps (k := 6) (pc' := 62) (L' := [Vr 166, Vi 0, Vi but, Vi 0]) (S' := [Vi ((updC (updC b 166 8 1) 166 9 ((tA W p : Nat) : Int)) 166 8)]) (h' := ((SHv st dr rd), (ovl a s (updC (updC b 166 8 1) 166 9 ((tA W p : Nat) : Int))))) (fun _ => rfl) ?_
    rw [(show ((updC (updC b 166 8 1) 166 9 ((tA W p : Nat) : Int)) 166 8) = 1 from rfl)]
    refine Ev.steps (k := 3) (pc' := 88) (L' := [Vr 166, Vi 0, Vi but, Vi 0]) (S' := [Vi ((updC (updC b 166 8 1) 166 9 ((tA W p : Nat) : Int)) 166 8)]) (h' := ((SHv st dr rd), (ovl a s (updC (updC b 166 8 1) 166 9 ((tA W p : Nat) : Int))))) (fun _ => rfl) ?_
    rw [(show ((updC (updC b 166 8 1) 166 9 ((tA W p : Nat) : Int)) 166 8) = 1 from rfl)]
    refine Ev.fin (k := 4) (r := (some (Vi 0))) (h' := ((SHv st dr rd), (ovl a s (updC (updC b 166 8 1) 166 9 ((tA W p : Nat) : Int))))) (fun _ => rfl) ?_
    exact ⟨_, rfl, Or.inr ⟨_, if_pos hc, rfl, hk.bl (by decide)⟩⟩
  · exact absurd (Classical.not_not.mp b14) h3
theorem m_looked_0B {X : List Int} {d : Nat} {st dr rd : Int} {a s b : C3} {W : TXT} {p : Nat} (hk : TkM W p b) {N : SC} (but : Int) (hc : tC W p ≠ 300) (h3 : b 166 3 = 1) (h7 : b 166 7 = ((tV W p : Nat) : Int)) (how : tcW (tV W p) ≠ 300) : Ev X (d + 1) 166 0 [Vr 166, Vi 0, Vi but, Vx] [] (SHv st dr rd, ovl a s b) (fun rr hh => ∃ b' : C3, hh = (SHv st dr rd, ovl a s b') ∧ ResC (lokT W N 0 but p) (fun i => rr = some (Vi ((i : Nat) : Int)) ∧ b' = b) (fun e => rr = some (Vi 0) ∧ BdM W b e b')) := by
  refine Ev.steps (k := 2) (pc' := 4) (L' := [Vr 166, Vi 0, Vi but, Vx]) (S' := [Vi (b 166 8)]) (h' := ((SHv st dr rd), (ovl a s b))) (fun _ => rfl) ?_
  rw [hk.2.1]
  refine Ev.steps (k := 3) (pc' := 13) (L' := [Vr 166, Vi 0, Vi but, Vx]) (S' := [Vi (b 166 3)]) (h' := ((SHv st dr rd), (ovl a s b))) (fun _ => rfl) ?_
  rw [h3]
  refine Ev.steps (k := 5) (pc' := 22) (L' := [Vr 166, Vi 0, Vi but, Vx]) (S' := [Vl (b 166 7), Vr 166]) (h' := ((SHv st dr rd), (ovl a s b))) (fun _ => rfl) ?_
  rw [h7]
  refine Ev.call (k := 0) (pc1 := 22) (L1 := [Vr 166, Vi 0, Vi but, Vx]) (S1 := [Vl ((tV W p : Nat) : Int), Vr 166]) (h1 := ((SHv st dr rd), (ovl a s b))) (m' := 167) (as := [Vr 166, Vl ((tV W p : Nat) : Int)]) (S' := []) (L0 := [Vr 166, Vl ((tV W p : Nat) : Int), Vx]) (fun _ => rfl) rfl rfl rfl rfl rfl rfl (m_isOwn (tV W p)) (fun r h' hq => ?_)
  obtain ⟨rfl, rfl⟩ := hq
  rw [if_pos how]
  show Ev X _ _ 25 [Vr 166, Vi 0, Vi but, Vx] [Vi 1] ((SHv st dr rd), (ovl a s b)) _
  refine Ev.steps (k := 5) (pc' := 34) (L' := [Vr 166, Vi 0, Vi but, Vx]) (S' := [Vi (b 166 4), Vi 1, Vr 166]) (h' := ((SHv st dr rd), (ovl a s b))) (fun _ => rfl) ?_
  rw [hk.2.2.2.2.1]
  refine Ev.call (k := 0) (pc1 := 34) (L1 := [Vr 166, Vi 0, Vi but, Vx]) (S1 := [Vi ((tA W p : Nat) : Int), Vi 1, Vr 166]) (h1 := ((SHv st dr rd), (ovl a s b))) (m' := 160) (as := [Vr 166, Vi 1, Vi ((tA W p : Nat) : Int)]) (S' := []) (L0 := [Vr 166, Vi 1, Vi ((tA W p : Nat) : Int)]) (fun _ => rfl) rfl rfl rfl rfl rfl rfl (m_blame (b := b) 1 ((tA W p : Nat) : Int)) (fun r h' hq => ?_)
  obtain ⟨rfl, hq⟩ := hq
  rw [if_neg (by show ¬ 0 < b 166 8; rw [hk.2.1]; decide)] at hq
  obtain rfl := hq
  show Ev X _ _ 37 [Vr 166, Vi 0, Vi but, Vx] [] ((SHv st dr rd), (ovl a s (updC (updC b 166 8 1) 166 9 ((tA W p : Nat) : Int)))) _
  refine Ev.steps (k := 2) (pc' := 41) (L' := [Vr 166, Vi 0, Vi but, Vx]) (S' := [Vi ((updC (updC b 166 8 1) 166 9 ((tA W p : Nat) : Int)) 166 8)]) (h' := ((SHv st dr rd), (ovl a s (updC (updC b 166 8 1) 166 9 ((tA W p : Nat) : Int))))) (fun _ => rfl) ?_
  rw [(show ((updC (updC b 166 8 1) 166 9 ((tA W p : Nat) : Int)) 166 8) = 1 from rfl)]
  refine Ev.steps (k := 6) (pc' := 62) (L' := [Vr 166, Vi 0, Vi but, Vi 0]) (S' := [Vi ((updC (updC b 166 8 1) 166 9 ((tA W p : Nat) : Int)) 166 8)]) (h' := ((SHv st dr rd), (ovl a s (updC (updC b 166 8 1) 166 9 ((tA W p : Nat) : Int))))) (fun _ => rfl) ?_
  rw [(show ((updC (updC b 166 8 1) 166 9 ((tA W p : Nat) : Int)) 166 8) = 1 from rfl)]
  refine Ev.steps (k := 3) (pc' := 88) (L' := [Vr 166, Vi 0, Vi but, Vi 0]) (S' := [Vi ((updC (updC b 166 8 1) 166 9 ((tA W p : Nat) : Int)) 166 8)]) (h' := ((SHv st dr rd), (ovl a s (updC (updC b 166 8 1) 166 9 ((tA W p : Nat) : Int))))) (fun _ => rfl) ?_
  rw [(show ((updC (updC b 166 8 1) 166 9 ((tA W p : Nat) : Int)) 166 8) = 1 from rfl)]
  refine Ev.fin (k := 4) (r := (some (Vi 0))) (h' := ((SHv st dr rd), (ovl a s (updC (updC b 166 8 1) 166 9 ((tA W p : Nat) : Int))))) (fun _ => rfl) ?_
  exact ⟨_, rfl, Or.inr ⟨_, if_pos hc, rfl, hk.bl (by decide)⟩⟩
theorem m_looked_0C {X : List Int} {d : Nat} {st dr rd : Int} {a s b : C3} {W : TXT} {p : Nat} (hk : TkM W p b) {N : SC} {j : Nat} (hN : NmM N b j) (but : Int) (hc : tC W p = 300) (h3 : b 166 3 = 1) (h7 : b 166 7 = ((tV W p : Nat) : Int)) (how : ¬ tcW (tV W p) ≠ 300) : Ev X (d + 1) 166 0 [Vr 166, Vi 0, Vi but, Vx] [] (SHv st dr rd, ovl a s b) (fun rr hh => ∃ b' : C3, hh = (SHv st dr rd, ovl a s b') ∧ ResC (lokT W N 0 but p) (fun i => rr = some (Vi ((i : Nat) : Int)) ∧ b' = b) (fun e => rr = some (Vi 0) ∧ BdM W b e b')) := by
  have hw : nmI N 0 (tV W p) = -1 ∧ nmd N 0 (tV W p) = cntN N 0 ∨ nmI N 0 (tV W p) = ((nmd N 0 (tV W p) : Nat) : Int) ∧ nmd N 0 (tV W p) < cntN N 0 := by
    have hle := nmd_le (N := N) (kd := 0) (w := tV W p)
    unfold nmI
    by_cases h : nmd N 0 (tV W p) < cntN N 0
    · rw [if_pos h]; exact Or.inr ⟨rfl, h⟩
    · rw [if_neg h]; exact Or.inl ⟨rfl, by omega⟩
  refine Ev.steps (k := 2) (pc' := 4) (L' := [Vr 166, Vi 0, Vi but, Vx]) (S' := [Vi (b 166 8)]) (h' := ((SHv st dr rd), (ovl a s b))) (fun _ => rfl) ?_
  rw [hk.2.1]
  refine Ev.steps (k := 3) (pc' := 13) (L' := [Vr 166, Vi 0, Vi but, Vx]) (S' := [Vi (b 166 3)]) (h' := ((SHv st dr rd), (ovl a s b))) (fun _ => rfl) ?_
  rw [h3]
  refine Ev.steps (k := 5) (pc' := 22) (L' := [Vr 166, Vi 0, Vi but, Vx]) (S' := [Vl (b 166 7), Vr 166]) (h' := ((SHv st dr rd), (ovl a s b))) (fun _ => rfl) ?_
  rw [h7]
  refine Ev.call (k := 0) (pc1 := 22) (L1 := [Vr 166, Vi 0, Vi but, Vx]) (S1 := [Vl ((tV W p : Nat) : Int), Vr 166]) (h1 := ((SHv st dr rd), (ovl a s b))) (m' := 167) (as := [Vr 166, Vl ((tV W p : Nat) : Int)]) (S' := []) (L0 := [Vr 166, Vl ((tV W p : Nat) : Int), Vx]) (fun _ => rfl) rfl rfl rfl rfl rfl rfl (m_isOwn (tV W p)) (fun r h' hq => ?_)
  obtain ⟨rfl, rfl⟩ := hq
  rw [if_neg how]
  show Ev X _ _ 25 [Vr 166, Vi 0, Vi but, Vx] [Vi 0] ((SHv st dr rd), (ovl a s b)) _
  refine Ev.steps (k := 3) (pc' := 41) (L' := [Vr 166, Vi 0, Vi but, Vx]) (S' := [Vi (b 166 8)]) (h' := ((SHv st dr rd), (ovl a s b))) (fun _ => rfl) ?_
  rw [hk.2.1]
  refine Ev.steps (k := 5) (pc' := 54) (L' := [Vr 166, Vi 0, Vi but, Vx]) (S' := [Vl (b 166 7), Vi 0, Vr 166]) (h' := ((SHv st dr rd), (ovl a s b))) (fun _ => rfl) ?_
  rw [h7]
  refine Ev.call (k := 0) (pc1 := 54) (L1 := [Vr 166, Vi 0, Vi but, Vx]) (S1 := [Vl ((tV W p : Nat) : Int), Vi 0, Vr 166]) (h1 := ((SHv st dr rd), (ovl a s b))) (m' := 168) (as := [Vr 166, Vi 0, Vl ((tV W p : Nat) : Int)]) (S' := []) (L0 := [Vr 166, Vi 0, Vl ((tV W p : Nat) : Int), Vx, Vx, Vx, Vx, Vx]) (fun _ => rfl) rfl rfl rfl rfl rfl rfl (m_named_0 hN (tV W p)) (fun r h' hq => ?_)
  obtain ⟨rfl, rfl⟩ := hq
  show Ev X _ _ 57 [Vr 166, Vi 0, Vi but, Vx] [Vi (nmI N 0 (tV W p))] ((SHv st dr rd), (ovl a s b)) _
  refine Ev.steps (k := 3) (pc' := 62) (L' := [Vr 166, Vi 0, Vi but, Vi (nmI N 0 (tV W p))]) (S' := [Vi (b 166 8)]) (h' := ((SHv st dr rd), (ovl a s b))) (fun _ => rfl) ?_
  rw [hk.2.1]
  refine Ev.ite (P := (nmI N 0 (tV W p)) = (-1)) (k := 4) (a := 75) (b := 70) (L' := [Vr 166, Vi 0, Vi but, Vi (nmI N 0 (tV W p))]) (S' := []) (h' := ((SHv st dr rd), (ovl a s b))) (fun _ => rfl) (fun b67 => ?_) (fun b67 => ?_)
  · refine Ev.steps (k := 4) (pc' := 81) (L' := [Vr 166, Vi 0, Vi but, Vi (nmI N 0 (tV W p))]) (S' := [Vi (b 166 4), Vi 3, Vr 166]) (h' := ((SHv st dr rd), (ovl a s b))) (fun _ => rfl) ?_
    rw [hk.2.2.2.2.1]
    refine Ev.call (k := 0) (pc1 := 81) (L1 := [Vr 166, Vi 0, Vi but, Vi (nmI N 0 (tV W p))]) (S1 := [Vi ((tA W p : Nat) : Int), Vi 3, Vr 166]) (h1 := ((SHv st dr rd), (ovl a s b))) (m' := 160) (as := [Vr 166, Vi 3, Vi ((tA W p : Nat) : Int)]) (S' := []) (L0 := [Vr 166, Vi 3, Vi ((tA W p : Nat) : Int)]) (fun _ => rfl) rfl rfl rfl rfl rfl rfl (m_blame (b := b) 3 ((tA W p : Nat) : Int)) (fun r h' hq => ?_)
    obtain ⟨rfl, hq⟩ := hq
    rw [if_neg (by show ¬ 0 < b 166 8; rw [hk.2.1]; decide)] at hq
    obtain rfl := hq
    show Ev X _ _ 84 [Vr 166, Vi 0, Vi but, Vi (nmI N 0 (tV W p))] [] ((SHv st dr rd), (ovl a s (updC (updC b 166 8 3) 166 9 ((tA W p : Nat) : Int)))) _
    refine Ev.steps (k := 2) (pc' := 88) (L' := [Vr 166, Vi 0, Vi but, Vi (nmI N 0 (tV W p))]) (S' := [Vi ((updC (updC b 166 8 3) 166 9 ((tA W p : Nat) : Int)) 166 8)]) (h' := ((SHv st dr rd), (ovl a s (updC (updC b 166 8 3) 166 9 ((tA W p : Nat) : Int))))) (fun _ => rfl) ?_
    rw [(show ((updC (updC b 166 8 3) 166 9 ((tA W p : Nat) : Int)) 166 8) = 3 from rfl)]
    refine Ev.fin (k := 4) (r := (some (Vi 0))) (h' := ((SHv st dr rd), (ovl a s (updC (updC b 166 8 3) 166 9 ((tA W p : Nat) : Int))))) (fun _ => rfl) ?_
    first
      | exact ⟨_, rfl, Or.inr ⟨_, by unfold lokT; rw [if_neg (by omega), if_pos (by omega)], rfl, hk.bl (by decide)⟩⟩
      | (refine ⟨_, rfl, Or.inl ⟨nmd N 0 (tV W p), by unfold lokT; rw [if_neg (by omega), if_neg (by omega)], ?_, rfl⟩⟩
         rw [show nmI N 0 (tV W p) = ((nmd N 0 (tV W p) : Nat) : Int) by omega])
  · refine Ev.ite (P := (nmI N 0 (tV W p)) ≠ but) (k := 3) (a := 84) (b := 75) (L' := [Vr 166, Vi 0, Vi but, Vi (nmI N 0 (tV W p))]) (S' := []) (h' := ((SHv st dr rd), (ovl a s b))) (fun _ => rfl) (fun b72 => ?_) (fun b72 => ?_)
    · refine Ev.steps (k := 2) (pc' := 88) (L' := [Vr 166, Vi 0, Vi but, Vi (nmI N 0 (tV W p))]) (S' := [Vi (b 166 8)]) (h' := ((SHv st dr rd), (ovl a s b))) (fun _ => rfl) ?_
      rw [hk.2.1]
      refine Ev.fin (k := 3) (r := (some (Vi (nmI N 0 (tV W p))))) (h' := ((SHv st dr rd), (ovl a s b))) (fun _ => rfl) ?_
      first
        | exact ⟨_, rfl, Or.inr ⟨_, by unfold lokT; rw [if_neg (by omega), if_pos (by omega)], rfl, hk.bl (by decide)⟩⟩
        | (refine ⟨_, rfl, Or.inl ⟨nmd N 0 (tV W p), by unfold lokT; rw [if_neg (by omega), if_neg (by omega)], ?_, rfl⟩⟩
           rw [show nmI N 0 (tV W p) = ((nmd N 0 (tV W p) : Nat) : Int) by omega])
    · refine Ev.steps (k := 4) (pc' := 81) (L' := [Vr 166, Vi 0, Vi but, Vi (nmI N 0 (tV W p))]) (S' := [Vi (b 166 4), Vi 3, Vr 166]) (h' := ((SHv st dr rd), (ovl a s b))) (fun _ => rfl) ?_
      rw [hk.2.2.2.2.1]
      refine Ev.call (k := 0) (pc1 := 81) (L1 := [Vr 166, Vi 0, Vi but, Vi (nmI N 0 (tV W p))]) (S1 := [Vi ((tA W p : Nat) : Int), Vi 3, Vr 166]) (h1 := ((SHv st dr rd), (ovl a s b))) (m' := 160) (as := [Vr 166, Vi 3, Vi ((tA W p : Nat) : Int)]) (S' := []) (L0 := [Vr 166, Vi 3, Vi ((tA W p : Nat) : Int)]) (fun _ => rfl) rfl rfl rfl rfl rfl rfl (m_blame (b := b) 3 ((tA W p : Nat) : Int)) (fun r h' hq => ?_)
      obtain ⟨rfl, hq⟩ := hq
      rw [if_neg (by show ¬ 0 < b 166 8; rw [hk.2.1]; decide)] at hq
      obtain rfl := hq
      show Ev X _ _ 84 [Vr 166, Vi 0, Vi but, Vi (nmI N 0 (tV W p))] [] ((SHv st dr rd), (ovl a s (updC (updC b 166 8 3) 166 9 ((tA W p : Nat) : Int)))) _
      refine Ev.steps (k := 2) (pc' := 88) (L' := [Vr 166, Vi 0, Vi but, Vi (nmI N 0 (tV W p))]) (S' := [Vi ((updC (updC b 166 8 3) 166 9 ((tA W p : Nat) : Int)) 166 8)]) (h' := ((SHv st dr rd), (ovl a s (updC (updC b 166 8 3) 166 9 ((tA W p : Nat) : Int))))) (fun _ => rfl) ?_
      rw [(show ((updC (updC b 166 8 3) 166 9 ((tA W p : Nat) : Int)) 166 8) = 3 from rfl)]
      refine Ev.fin (k := 4) (r := (some (Vi 0))) (h' := ((SHv st dr rd), (ovl a s (updC (updC b 166 8 3) 166 9 ((tA W p : Nat) : Int))))) (fun _ => rfl) ?_
      first
        | exact ⟨_, rfl, Or.inr ⟨_, by unfold lokT; rw [if_neg (by omega), if_pos (by omega)], rfl, hk.bl (by decide)⟩⟩
        | (refine ⟨_, rfl, Or.inl ⟨nmd N 0 (tV W p), by unfold lokT; rw [if_neg (by omega), if_neg (by omega)], ?_, rfl⟩⟩
           rw [show nmI N 0 (tV W p) = ((nmd N 0 (tV W p) : Nat) : Int) by omega])
theorem m_looked_0 {X : List Int} {d : Nat} {st dr rd : Int} {a s b : C3} {W : TXT} {p : Nat} (hk : TkM W p b) {N : SC} {j : Nat} (hN : NmM N b j) (but : Int) : Ev X (d + 1) 166 0 [Vr 166, Vi 0, Vi but, Vx] [] (SHv st dr rd, ovl a s b) (fun rr hh => ∃ b' : C3, hh = (SHv st dr rd, ovl a s b') ∧ ResC (lokT W N 0 but p) (fun i => rr = some (Vi ((i : Nat) : Int)) ∧ b' = b) (fun e => rr = some (Vi 0) ∧ BdM W b e b')) := by
  by_cases hc : tC W p = 300
  · have h := hk.nm hc
    exact m_looked_0C hk hN but hc h.1 h.2.1 (fun g => h.2.2 (tcW_ow.mpr g))
  · by_cases ho : 256 ≤ tC W p ∧ tC W p < 283
    · have h := hk.ow ho
      exact m_looked_0B hk but hc h.1 h.2.1 (tcW_ow.mp h.2.2)
    · exact m_looked_0A hk but hc (hk.n1 hc ho)
theorem m_looked_1A {X : List Int} {d : Nat} {st dr rd : Int} {a s b : C3} {W : TXT} {p : Nat} (hk : TkM W p b) {N : SC} (but : Int) (hc : tC W p ≠ 300) (h3 : b 166 3 ≠ 1) : Ev X (d + 1) 166 0 [Vr 166, Vi 1, Vi but, Vx] [] (SHv st dr rd, ovl a s b) (fun rr hh => ∃ b' : C3, hh = (SHv st dr rd, ovl a s b') ∧ ResC (lokT W N 1 but p) (fun i => rr = some (Vi ((i : Nat) : Int)) ∧ b' = b) (fun e => rr = some (Vi 0) ∧ BdM W b e b')) := by
  refine Ev.steps (k := 2) (pc' := 4) (L' := [Vr 166, Vi 1, Vi but, Vx]) (S' := [Vi (b 166 8)]) (h' := ((SHv st dr rd), (ovl a s b))) (fun _ => rfl) ?_
  rw [hk.2.1]
  refine Ev.ite (P := (b 166 3) ≠ 1) (k := 5) (a := 28) (b := 17) (L' := [Vr 166, Vi 1, Vi but, Vx]) (S' := []) (h' := ((SHv st dr rd), (ovl a s b))) (fun _ => rfl) (fun b14 => ?_) (fun b14 => ?_)
  · refine Ev.steps (k := 4) (pc' := 34) (L' := [Vr 166, Vi 1, Vi but, Vx]) (S' := [Vi (b 166 4), Vi 1, Vr 166]) (h' := ((SHv st dr rd), (ovl a s b))) (fun _ => rfl) ?_
    rw [hk.2.2.2.2.1]
    refine Ev.call (k := 0) (pc1 := 34) (L1 := [Vr 166, Vi 1, Vi but, Vx]) (S1 := [Vi ((tA W p : Nat) : Int), Vi 1, Vr 166]) (h1 := ((SHv st dr rd), (ovl a s b))) (m' := 160) (as := [Vr 166, Vi 1, Vi ((tA W p : Nat) : Int)]) (S' := []) (L0 := [Vr 166, Vi 1, Vi ((tA W p : Nat) : Int)]) (fun _ => rfl) rfl rfl rfl rfl rfl rfl (m_blame (b := b) 1 ((tA W p : Nat) : Int)) (fun r h' hq => ?_)
    obtain ⟨rfl, hq⟩ := hq
    rw [if_neg (by show ¬ 0 < b 166 8; rw [hk.2.1]; decide)] at hq
    obtain rfl := hq
    show Ev X _ _ 37 [Vr 166, Vi 1, Vi but, Vx] [] ((SHv st dr rd), (ovl a s (updC (updC b 166 8 1) 166 9 ((tA W p : Nat) : Int)))) _
    refine Ev.steps (k := 2) (pc' := 41) (L' := [Vr 166, Vi 1, Vi but, Vx]) (S' := [Vi ((updC (updC b 166 8 1) 166 9 ((tA W p : Nat) : Int)) 166 8)]) (h' := ((SHv st dr rd), (ovl a s (updC (updC b 166 8 1) 166 9 ((tA W p : Nat) : Int))))) (fun _ => rfl) ?_
    rw [(show ((updC (updC b 166 8 1) 166 9 ((tA W p : Nat) : Int)) 166 8) = 1 from rfl)]
    refine Ev.steps (k := 6) (pc' := 62) (L' := [Vr 166, Vi 1, Vi but, Vi 0]) (S' := [Vi ((updC (updC b 166 8 1) 166 9 ((tA W p : Nat) : Int)) 166 8)]) (h' := ((SHv st dr rd), (ovl a s (updC (updC b 166 8 1) 166 9 ((tA W p : Nat) : Int))))) (fun _ => rfl) ?_
    rw [(show ((updC (updC b 166 8 1) 166 9 ((tA W p : Nat) : Int)) 166 8) = 1 from rfl)]
    refine Ev.steps (k := 3) (pc' := 88) (L' := [Vr 166, Vi 1, Vi but, Vi 0]) (S' := [Vi ((updC (updC b 166 8 1) 166 9 ((tA W p : Nat) : Int)) 166 8)]) (h' := ((SHv st dr rd), (ovl a s (updC (updC b 166 8 1) 166 9 ((tA W p : Nat) : Int))))) (fun _ => rfl) ?_
    rw [(show ((updC (updC b 166 8 1) 166 9 ((tA W p : Nat) : Int)) 166 8) = 1 from rfl)]
    refine Ev.fin (k := 4) (r := (some (Vi 0))) (h' := ((SHv st dr rd), (ovl a s (updC (updC b 166 8 1) 166 9 ((tA W p : Nat) : Int))))) (fun _ => rfl) ?_
    exact ⟨_, rfl, Or.inr ⟨_, if_pos hc, rfl, hk.bl (by decide)⟩⟩
  · exact absurd (Classical.not_not.mp b14) h3
theorem m_looked_1B {X : List Int} {d : Nat} {st dr rd : Int} {a s b : C3} {W : TXT} {p : Nat} (hk : TkM W p b) {N : SC} (but : Int) (hc : tC W p ≠ 300) (h3 : b 166 3 = 1) (h7 : b 166 7 = ((tV W p : Nat) : Int)) (how : tcW (tV W p) ≠ 300) : Ev X (d + 1) 166 0 [Vr 166, Vi 1, Vi but, Vx] [] (SHv st dr rd, ovl a s b) (fun rr hh => ∃ b' : C3, hh = (SHv st dr rd, ovl a s b') ∧ ResC (lokT W N 1 but p) (fun i => rr = some (Vi ((i : Nat) : Int)) ∧ b' = b) (fun e => rr = some (Vi 0) ∧ BdM W b e b')) := by
  refine Ev.steps (k := 2) (pc' := 4) (L' := [Vr 166, Vi 1, Vi but, Vx]) (S' := [Vi (b 166 8)]) (h' := ((SHv st dr rd), (ovl a s b))) (fun _ => rfl) ?_
  rw [hk.2.1]
  refine Ev.steps (k := 3) (pc' := 13) (L' := [Vr 166, Vi 1, Vi but, Vx]) (S' := [Vi (b 166 3)]) (h' := ((SHv st dr rd), (ovl a s b))) (fun _ => rfl) ?_
  rw [h3]
  refine Ev.steps (k := 5) (pc' := 22) (L' := [Vr 166, Vi 1, Vi but, Vx]) (S' := [Vl (b 166 7), Vr 166]) (h' := ((SHv st dr rd), (ovl a s b))) (fun _ => rfl) ?_
  rw [h7]
  refine Ev.call (k := 0) (pc1 := 22) (L1 := [Vr 166, Vi 1, Vi but, Vx]) (S1 := [Vl ((tV W p : Nat) : Int), Vr 166]) (h1 := ((SHv st dr rd), (ovl a s b))) (m' := 167) (as := [Vr 166, Vl ((tV W p : Nat) : Int)]) (S' := []) (L0 := [Vr 166, Vl ((tV W p : Nat) : Int), Vx]) (fun _ => rfl) rfl rfl rfl rfl rfl rfl (m_isOwn (tV W p)) (fun r h' hq => ?_)
  obtain ⟨rfl, rfl⟩ := hq
  rw [if_pos how]
  show Ev X _ _ 25 [Vr 166, Vi 1, Vi but, Vx] [Vi 1] ((SHv st dr rd), (ovl a s b)) _
  refine Ev.steps (k := 5) (pc' := 34) (L' := [Vr 166, Vi 1, Vi but, Vx]) (S' := [Vi (b 166 4), Vi 1, Vr 166]) (h' := ((SHv st dr rd), (ovl a s b))) (fun _ => rfl) ?_
  rw [hk.2.2.2.2.1]
  refine Ev.call (k := 0) (pc1 := 34) (L1 := [Vr 166, Vi 1, Vi but, Vx]) (S1 := [Vi ((tA W p : Nat) : Int), Vi 1, Vr 166]) (h1 := ((SHv st dr rd), (ovl a s b))) (m' := 160) (as := [Vr 166, Vi 1, Vi ((tA W p : Nat) : Int)]) (S' := []) (L0 := [Vr 166, Vi 1, Vi ((tA W p : Nat) : Int)]) (fun _ => rfl) rfl rfl rfl rfl rfl rfl (m_blame (b := b) 1 ((tA W p : Nat) : Int)) (fun r h' hq => ?_)
  obtain ⟨rfl, hq⟩ := hq
  rw [if_neg (by show ¬ 0 < b 166 8; rw [hk.2.1]; decide)] at hq
  obtain rfl := hq
  show Ev X _ _ 37 [Vr 166, Vi 1, Vi but, Vx] [] ((SHv st dr rd), (ovl a s (updC (updC b 166 8 1) 166 9 ((tA W p : Nat) : Int)))) _
  refine Ev.steps (k := 2) (pc' := 41) (L' := [Vr 166, Vi 1, Vi but, Vx]) (S' := [Vi ((updC (updC b 166 8 1) 166 9 ((tA W p : Nat) : Int)) 166 8)]) (h' := ((SHv st dr rd), (ovl a s (updC (updC b 166 8 1) 166 9 ((tA W p : Nat) : Int))))) (fun _ => rfl) ?_
  rw [(show ((updC (updC b 166 8 1) 166 9 ((tA W p : Nat) : Int)) 166 8) = 1 from rfl)]
  refine Ev.steps (k := 6) (pc' := 62) (L' := [Vr 166, Vi 1, Vi but, Vi 0]) (S' := [Vi ((updC (updC b 166 8 1) 166 9 ((tA W p : Nat) : Int)) 166 8)]) (h' := ((SHv st dr rd), (ovl a s (updC (updC b 166 8 1) 166 9 ((tA W p : Nat) : Int))))) (fun _ => rfl) ?_
  rw [(show ((updC (updC b 166 8 1) 166 9 ((tA W p : Nat) : Int)) 166 8) = 1 from rfl)]
  refine Ev.steps (k := 3) (pc' := 88) (L' := [Vr 166, Vi 1, Vi but, Vi 0]) (S' := [Vi ((updC (updC b 166 8 1) 166 9 ((tA W p : Nat) : Int)) 166 8)]) (h' := ((SHv st dr rd), (ovl a s (updC (updC b 166 8 1) 166 9 ((tA W p : Nat) : Int))))) (fun _ => rfl) ?_
  rw [(show ((updC (updC b 166 8 1) 166 9 ((tA W p : Nat) : Int)) 166 8) = 1 from rfl)]
  refine Ev.fin (k := 4) (r := (some (Vi 0))) (h' := ((SHv st dr rd), (ovl a s (updC (updC b 166 8 1) 166 9 ((tA W p : Nat) : Int))))) (fun _ => rfl) ?_
  exact ⟨_, rfl, Or.inr ⟨_, if_pos hc, rfl, hk.bl (by decide)⟩⟩
theorem m_looked_1C {X : List Int} {d : Nat} {st dr rd : Int} {a s b : C3} {W : TXT} {p : Nat} (hk : TkM W p b) {N : SC} {j : Nat} (hN : NmM N b j) (but : Int) (hc : tC W p = 300) (h3 : b 166 3 = 1) (h7 : b 166 7 = ((tV W p : Nat) : Int)) (how : ¬ tcW (tV W p) ≠ 300) : Ev X (d + 1) 166 0 [Vr 166, Vi 1, Vi but, Vx] [] (SHv st dr rd, ovl a s b) (fun rr hh => ∃ b' : C3, hh = (SHv st dr rd, ovl a s b') ∧ ResC (lokT W N 1 but p) (fun i => rr = some (Vi ((i : Nat) : Int)) ∧ b' = b) (fun e => rr = some (Vi 0) ∧ BdM W b e b')) := by
  have hw : nmI N 1 (tV W p) = -1 ∧ nmd N 1 (tV W p) = cntN N 1 ∨ nmI N 1 (tV W p) = ((nmd N 1 (tV W p) : Nat) : Int) ∧ nmd N 1 (tV W p) < cntN N 1 := by
    have hle := nmd_le (N := N) (kd := 1) (w := tV W p)
    unfold nmI
    by_cases h : nmd N 1 (tV W p) < cntN N 1
    · rw [if_pos h]; exact Or.inr ⟨rfl, h⟩
    · rw [if_neg h]; exact Or.inl ⟨rfl, by omega⟩
  refine Ev.steps (k := 2) (pc' := 4) (L' := [Vr 166, Vi 1, Vi but, Vx]) (S' := [Vi (b 166 8)]) (h' := ((SHv st dr rd), (ovl a s b))) (fun _ => rfl) ?_
  rw [hk.2.1]
  refine Ev.steps (k := 3) (pc' := 13) (L' := [Vr 166, Vi 1, Vi but, Vx]) (S' := [Vi (b 166 3)]) (h' := ((SHv st dr rd), (ovl a s b))) (fun _ => rfl) ?_
  rw [h3]
  refine Ev.steps (k := 5) (pc' := 22) (L' := [Vr 166, Vi 1, Vi but, Vx]) (S' := [Vl (b 166 7), Vr 166]) (h' := ((SHv st dr rd), (ovl a s b))) (fun _ => rfl) ?_
  rw [h7]
  refine Ev.call (k := 0) (pc1 := 22) (L1 := [Vr 166, Vi 1, Vi but, Vx]) (S1 := [Vl ((tV W p : Nat) : Int), Vr 166]) (h1 := ((SHv st dr rd), (ovl a s b))) (m' := 167) (as := [Vr 166, Vl ((tV W p : Nat) : Int)]) (S' := []) (L0 := [Vr 166, Vl ((tV W p : Nat) : Int), Vx]) (fun _ => rfl) rfl rfl rfl rfl rfl rfl (m_isOwn (tV W p)) (fun r h' hq => ?_)
  obtain ⟨rfl, rfl⟩ := hq
  rw [if_neg how]
  show Ev X _ _ 25 [Vr 166, Vi 1, Vi but, Vx] [Vi 0] ((SHv st dr rd), (ovl a s b)) _
  refine Ev.steps (k := 3) (pc' := 41) (L' := [Vr 166, Vi 1, Vi but, Vx]) (S' := [Vi (b 166 8)]) (h' := ((SHv st dr rd), (ovl a s b))) (fun _ => rfl) ?_
  rw [hk.2.1]
  refine Ev.steps (k := 5) (pc' := 54) (L' := [Vr 166, Vi 1, Vi but, Vx]) (S' := [Vl (b 166 7), Vi 1, Vr 166]) (h' := ((SHv st dr rd), (ovl a s b))) (fun _ => rfl) ?_
  rw [h7]
  refine Ev.call (k := 0) (pc1 := 54) (L1 := [Vr 166, Vi 1, Vi but, Vx]) (S1 := [Vl ((tV W p : Nat) : Int), Vi 1, Vr 166]) (h1 := ((SHv st dr rd), (ovl a s b))) (m' := 168) (as := [Vr 166, Vi 1, Vl ((tV W p : Nat) : Int)]) (S' := []) (L0 := [Vr 166, Vi 1, Vl ((tV W p : Nat) : Int), Vx, Vx, Vx, Vx, Vx]) (fun _ => rfl) rfl rfl rfl rfl rfl rfl (m_named_1 hN (tV W p)) (fun r h' hq => ?_)
  obtain ⟨rfl, rfl⟩ := hq
  show Ev X _ _ 57 [Vr 166, Vi 1, Vi but, Vx] [Vi (nmI N 1 (tV W p))] ((SHv st dr rd), (ovl a s b)) _
  refine Ev.steps (k := 3) (pc' := 62) (L' := [Vr 166, Vi 1, Vi but, Vi (nmI N 1 (tV W p))]) (S' := [Vi (b 166 8)]) (h' := ((SHv st dr rd), (ovl a s b))) (fun _ => rfl) ?_
  rw [hk.2.1]
  refine Ev.ite (P := (nmI N 1 (tV W p)) = (-1)) (k := 4) (a := 75) (b := 70) (L' := [Vr 166, Vi 1, Vi but, Vi (nmI N 1 (tV W p))]) (S' := []) (h' := ((SHv st dr rd), (ovl a s b))) (fun _ => rfl) (fun b67 => ?_) (fun b67 => ?_)
  · refine Ev.steps (k := 4) (pc' := 81) (L' := [Vr 166, Vi 1, Vi but, Vi (nmI N 1 (tV W p))]) (S' := [Vi (b 166 4), Vi 3, Vr 166]) (h' := ((SHv st dr rd), (ovl a s b))) (fun _ => rfl) ?_
    rw [hk.2.2.2.2.1]
    refine Ev.call (k := 0) (pc1 := 81) (L1 := [Vr 166, Vi 1, Vi but, Vi (nmI N 1 (tV W p))]) (S1 := [Vi ((tA W p : Nat) : Int), Vi 3, Vr 166]) (h1 := ((SHv st dr rd), (ovl a s b))) (m' := 160) (as := [Vr 166, Vi 3, Vi ((tA W p : Nat) : Int)]) (S' := []) (L0 := [Vr 166, Vi 3, Vi ((tA W p : Nat) : Int)]) (fun _ => rfl) rfl rfl rfl rfl rfl rfl (m_blame (b := b) 3 ((tA W p : Nat) : Int)) (fun r h' hq => ?_)
    obtain ⟨rfl, hq⟩ := hq
    rw [if_neg (by show ¬ 0 < b 166 8; rw [hk.2.1]; decide)] at hq
    obtain rfl := hq
    show Ev X _ _ 84 [Vr 166, Vi 1, Vi but, Vi (nmI N 1 (tV W p))] [] ((SHv st dr rd), (ovl a s (updC (updC b 166 8 3) 166 9 ((tA W p : Nat) : Int)))) _
    refine Ev.steps (k := 2) (pc' := 88) (L' := [Vr 166, Vi 1, Vi but, Vi (nmI N 1 (tV W p))]) (S' := [Vi ((updC (updC b 166 8 3) 166 9 ((tA W p : Nat) : Int)) 166 8)]) (h' := ((SHv st dr rd), (ovl a s (updC (updC b 166 8 3) 166 9 ((tA W p : Nat) : Int))))) (fun _ => rfl) ?_
    rw [(show ((updC (updC b 166 8 3) 166 9 ((tA W p : Nat) : Int)) 166 8) = 3 from rfl)]
    refine Ev.fin (k := 4) (r := (some (Vi 0))) (h' := ((SHv st dr rd), (ovl a s (updC (updC b 166 8 3) 166 9 ((tA W p : Nat) : Int))))) (fun _ => rfl) ?_
    first
      | exact ⟨_, rfl, Or.inr ⟨_, by unfold lokT; rw [if_neg (by omega), if_pos (by omega)], rfl, hk.bl (by decide)⟩⟩
      | (refine ⟨_, rfl, Or.inl ⟨nmd N 1 (tV W p), by unfold lokT; rw [if_neg (by omega), if_neg (by omega)], ?_, rfl⟩⟩
         rw [show nmI N 1 (tV W p) = ((nmd N 1 (tV W p) : Nat) : Int) by omega])
  · refine Ev.ite (P := (nmI N 1 (tV W p)) ≠ but) (k := 3) (a := 84) (b := 75) (L' := [Vr 166, Vi 1, Vi but, Vi (nmI N 1 (tV W p))]) (S' := []) (h' := ((SHv st dr rd), (ovl a s b))) (fun _ => rfl) (fun b72 => ?_) (fun b72 => ?_)
    · refine Ev.steps (k := 2) (pc' := 88) (L' := [Vr 166, Vi 1, Vi but, Vi (nmI N 1 (tV W p))]) (S' := [Vi (b 166 8)]) (h' := ((SHv st dr rd), (ovl a s b))) (fun _ => rfl) ?_
      rw [hk.2.1]
      refine Ev.fin (k := 3) (r := (some (Vi (nmI N 1 (tV W p))))) (h' := ((SHv st dr rd), (ovl a s b))) (fun _ => rfl) ?_
      first
        | exact ⟨_, rfl, Or.inr ⟨_, by unfold lokT; rw [if_neg (by omega), if_pos (by omega)], rfl, hk.bl (by decide)⟩⟩
        | (refine ⟨_, rfl, Or.inl ⟨nmd N 1 (tV W p), by unfold lokT; rw [if_neg (by omega), if_neg (by omega)], ?_, rfl⟩⟩
           rw [show nmI N 1 (tV W p) = ((nmd N 1 (tV W p) : Nat) : Int) by omega])
    · refine Ev.steps (k := 4) (pc' := 81) (L' := [Vr 166, Vi 1, Vi but, Vi (nmI N 1 (tV W p))]) (S' := [Vi (b 166 4), Vi 3, Vr 166]) (h' := ((SHv st dr rd), (ovl a s b))) (fun _ => rfl) ?_
      rw [hk.2.2.2.2.1]
      refine Ev.call (k := 0) (pc1 := 81) (L1 := [Vr 166, Vi 1, Vi but, Vi (nmI N 1 (tV W p))]) (S1 := [Vi ((tA W p : Nat) : Int), Vi 3, Vr 166]) (h1 := ((SHv st dr rd), (ovl a s b))) (m' := 160) (as := [Vr 166, Vi 3, Vi ((tA W p : Nat) : Int)]) (S' := []) (L0 := [Vr 166, Vi 3, Vi ((tA W p : Nat) : Int)]) (fun _ => rfl) rfl rfl rfl rfl rfl rfl (m_blame (b := b) 3 ((tA W p : Nat) : Int)) (fun r h' hq => ?_)
      obtain ⟨rfl, hq⟩ := hq
      rw [if_neg (by show ¬ 0 < b 166 8; rw [hk.2.1]; decide)] at hq
      obtain rfl := hq
      show Ev X _ _ 84 [Vr 166, Vi 1, Vi but, Vi (nmI N 1 (tV W p))] [] ((SHv st dr rd), (ovl a s (updC (updC b 166 8 3) 166 9 ((tA W p : Nat) : Int)))) _
      refine Ev.steps (k := 2) (pc' := 88) (L' := [Vr 166, Vi 1, Vi but, Vi (nmI N 1 (tV W p))]) (S' := [Vi ((updC (updC b 166 8 3) 166 9 ((tA W p : Nat) : Int)) 166 8)]) (h' := ((SHv st dr rd), (ovl a s (updC (updC b 166 8 3) 166 9 ((tA W p : Nat) : Int))))) (fun _ => rfl) ?_
      rw [(show ((updC (updC b 166 8 3) 166 9 ((tA W p : Nat) : Int)) 166 8) = 3 from rfl)]
      refine Ev.fin (k := 4) (r := (some (Vi 0))) (h' := ((SHv st dr rd), (ovl a s (updC (updC b 166 8 3) 166 9 ((tA W p : Nat) : Int))))) (fun _ => rfl) ?_
      first
        | exact ⟨_, rfl, Or.inr ⟨_, by unfold lokT; rw [if_neg (by omega), if_pos (by omega)], rfl, hk.bl (by decide)⟩⟩
        | (refine ⟨_, rfl, Or.inl ⟨nmd N 1 (tV W p), by unfold lokT; rw [if_neg (by omega), if_neg (by omega)], ?_, rfl⟩⟩
           rw [show nmI N 1 (tV W p) = ((nmd N 1 (tV W p) : Nat) : Int) by omega])
theorem m_looked_1 {X : List Int} {d : Nat} {st dr rd : Int} {a s b : C3} {W : TXT} {p : Nat} (hk : TkM W p b) {N : SC} {j : Nat} (hN : NmM N b j) (but : Int) : Ev X (d + 1) 166 0 [Vr 166, Vi 1, Vi but, Vx] [] (SHv st dr rd, ovl a s b) (fun rr hh => ∃ b' : C3, hh = (SHv st dr rd, ovl a s b') ∧ ResC (lokT W N 1 but p) (fun i => rr = some (Vi ((i : Nat) : Int)) ∧ b' = b) (fun e => rr = some (Vi 0) ∧ BdM W b e b')) := by
  by_cases hc : tC W p = 300
  · have h := hk.nm hc
    exact m_looked_1C hk hN but hc h.1 h.2.1 (fun g => h.2.2 (tcW_ow.mpr g))
  · by_cases ho : 256 ≤ tC W p ∧ tC W p < 283
    · have h := hk.ow ho
      exact m_looked_1B hk but hc h.1 h.2.1 (tcW_ow.mp h.2.2)
    · exact m_looked_1A hk but hc (hk.n1 hc ho)
theorem m_looked_2A {X : List Int} {d : Nat} {st dr rd : Int} {a s b : C3} {W : TXT} {p : Nat} (hk : TkM W p b) {N : SC} (but : Int) (hc : tC W p ≠ 300) (h3 : b 166 3 ≠ 1) : Ev X (d + 1) 166 0 [Vr 166, Vi 2, Vi but, Vx] [] (SHv st dr rd, ovl a s b) (fun rr hh => ∃ b' : C3, hh = (SHv st dr rd, ovl a s b') ∧ ResC (lokT W N 2 but p) (fun i => rr = some (Vi ((i : Nat) : Int)) ∧ b' = b) (fun e => rr = some (Vi 0) ∧ BdM W b e b')) := by
  refine Ev.steps (k := 2) (pc' := 4) (L' := [Vr 166, Vi 2, Vi but, Vx]) (S' := [Vi (b 166 8)]) (h' := ((SHv st dr rd), (ovl a s b))) (fun _ => rfl) ?_
  rw [hk.2.1]
  refine Ev.ite (P := (b 166 3) ≠ 1) (k := 5) (a := 28) (b := 17) (L' := [Vr 166, Vi 2, Vi but, Vx]) (S' := []) (h' := ((SHv st dr rd), (ovl a s b))) (fun _ => rfl) (fun b14 => ?_) (fun b14 => ?_)
  · refine Ev.steps (k := 4) (pc' := 34) (L' := [Vr 166, Vi 2, Vi but, Vx]) (S' := [Vi (b 166 4), Vi 1, Vr 166]) (h' := ((SHv st dr rd), (ovl a s b))) (fun _ => rfl) ?_
    rw [hk.2.2.2.2.1]
    refine Ev.call (k := 0) (pc1 := 34) (L1 := [Vr 166, Vi 2, Vi but, Vx]) (S1 := [Vi ((tA W p : Nat) : Int), Vi 1, Vr 166]) (h1 := ((SHv st dr rd), (ovl a s b))) (m' := 160) (as := [Vr 166, Vi 1, Vi ((tA W p : Nat) : Int)]) (S' := []) (L0 := [Vr 166, Vi 1, Vi ((tA W p : Nat) : Int)]) (fun _ => rfl) rfl rfl rfl rfl rfl rfl (m_blame (b := b) 1 ((tA W p : Nat) : Int)) (fun r h' hq => ?_)
    obtain ⟨rfl, hq⟩ := hq
    rw [if_neg (by show ¬ 0 < b 166 8; rw [hk.2.1]; decide)] at hq
    obtain rfl := hq
    show Ev X _ _ 37 [Vr 166, Vi 2, Vi but, Vx] [] ((SHv st dr rd), (ovl a s (updC (updC b 166 8 1) 166 9 ((tA W p : Nat) : Int)))) _
    refine Ev.steps (k := 2) (pc' := 41) (L' := [Vr 166, Vi 2, Vi but, Vx]) (S' := [Vi ((updC (updC b 166 8 1) 166 9 ((tA W p : Nat) : Int)) 166 8)]) (h' := ((SHv st dr rd), (ovl a s (updC (updC b 166 8 1) 166 9 ((tA W p : Nat) : Int))))) (fun _ => rfl) ?_
    rw [(show ((updC (updC b 166 8 1) 166 9 ((tA W p : Nat) : Int)) 166 8) = 1 from rfl)]
    refine Ev.steps (k := 6) (pc' := 62) (L' := [Vr 166, Vi 2, Vi but, Vi 0]) (S' := [Vi ((updC (updC b 166 8 1) 166 9 ((tA W p : Nat) : Int)) 166 8)]) (h' := ((SHv st dr rd), (ovl a s (updC (updC b 166 8 1) 166 9 ((tA W p : Nat) : Int))))) (fun _ => rfl) ?_
    rw [(show ((updC (updC b 166 8 1) 166 9 ((tA W p : Nat) : Int)) 166 8) = 1 from rfl)]
    refine Ev.steps (k := 3) (pc' := 88) (L' := [Vr 166, Vi 2, Vi but, Vi 0]) (S' := [Vi ((updC (updC b 166 8 1) 166 9 ((tA W p : Nat) : Int)) 166 8)]) (h' := ((SHv st dr rd), (ovl a s (updC (updC b 166 8 1) 166 9 ((tA W p : Nat) : Int))))) (fun _ => rfl) ?_
    rw [(show ((updC (updC b 166 8 1) 166 9 ((tA W p : Nat) : Int)) 166 8) = 1 from rfl)]
    refine Ev.fin (k := 4) (r := (some (Vi 0))) (h' := ((SHv st dr rd), (ovl a s (updC (updC b 166 8 1) 166 9 ((tA W p : Nat) : Int))))) (fun _ => rfl) ?_
    exact ⟨_, rfl, Or.inr ⟨_, if_pos hc, rfl, hk.bl (by decide)⟩⟩
  · exact absurd (Classical.not_not.mp b14) h3
theorem m_looked_2B {X : List Int} {d : Nat} {st dr rd : Int} {a s b : C3} {W : TXT} {p : Nat} (hk : TkM W p b) {N : SC} (but : Int) (hc : tC W p ≠ 300) (h3 : b 166 3 = 1) (h7 : b 166 7 = ((tV W p : Nat) : Int)) (how : tcW (tV W p) ≠ 300) : Ev X (d + 1) 166 0 [Vr 166, Vi 2, Vi but, Vx] [] (SHv st dr rd, ovl a s b) (fun rr hh => ∃ b' : C3, hh = (SHv st dr rd, ovl a s b') ∧ ResC (lokT W N 2 but p) (fun i => rr = some (Vi ((i : Nat) : Int)) ∧ b' = b) (fun e => rr = some (Vi 0) ∧ BdM W b e b')) := by
  refine Ev.steps (k := 2) (pc' := 4) (L' := [Vr 166, Vi 2, Vi but, Vx]) (S' := [Vi (b 166 8)]) (h' := ((SHv st dr rd), (ovl a s b))) (fun _ => rfl) ?_
  rw [hk.2.1]
  refine Ev.steps (k := 3) (pc' := 13) (L' := [Vr 166, Vi 2, Vi but, Vx]) (S' := [Vi (b 166 3)]) (h' := ((SHv st dr rd), (ovl a s b))) (fun _ => rfl) ?_
  rw [h3]
  refine Ev.steps (k := 5) (pc' := 22) (L' := [Vr 166, Vi 2, Vi but, Vx]) (S' := [Vl (b 166 7), Vr 166]) (h' := ((SHv st dr rd), (ovl a s b))) (fun _ => rfl) ?_
  rw [h7]
  refine Ev.call (k := 0) (pc1 := 22) (L1 := [Vr 166, Vi 2, Vi but, Vx]) (S1 := [Vl ((tV W p : Nat) : Int), Vr 166]) (h1 := ((SHv st dr rd), (ovl a s b))) (m' := 167) (as := [Vr 166, Vl ((tV W p : Nat) : Int)]) (S' := []) (L0 := [Vr 166, Vl ((tV W p : Nat) : Int), Vx]) (fun _ => rfl) rfl rfl rfl rfl rfl rfl (m_isOwn (tV W p)) (fun r h' hq => ?_)
  obtain ⟨rfl, rfl⟩ := hq
  rw [if_pos how]
  show Ev X _ _ 25 [Vr 166, Vi 2, Vi but, Vx] [Vi 1] ((SHv st dr rd), (ovl a s b)) _
  refine Ev.steps (k := 5) (pc' := 34) (L' := [Vr 166, Vi 2, Vi but, Vx]) (S' := [Vi (b 166 4), Vi 1, Vr 166]) (h' := ((SHv st dr rd), (ovl a s b))) (fun _ => rfl) ?_
  rw [hk.2.2.2.2.1]
  refine Ev.call (k := 0) (pc1 := 34) (L1 := [Vr 166, Vi 2, Vi but, Vx]) (S1 := [Vi ((tA W p : Nat) : Int), Vi 1, Vr 166]) (h1 := ((SHv st dr rd), (ovl a s b))) (m' := 160) (as := [Vr 166, Vi 1, Vi ((tA W p : Nat) : Int)]) (S' := []) (L0 := [Vr 166, Vi 1, Vi ((tA W p : Nat) : Int)]) (fun _ => rfl) rfl rfl rfl rfl rfl rfl (m_blame (b := b) 1 ((tA W p : Nat) : Int)) (fun r h' hq => ?_)
  obtain ⟨rfl, hq⟩ := hq
  rw [if_neg (by show ¬ 0 < b 166 8; rw [hk.2.1]; decide)] at hq
  obtain rfl := hq
  show Ev X _ _ 37 [Vr 166, Vi 2, Vi but, Vx] [] ((SHv st dr rd), (ovl a s (updC (updC b 166 8 1) 166 9 ((tA W p : Nat) : Int)))) _
  refine Ev.steps (k := 2) (pc' := 41) (L' := [Vr 166, Vi 2, Vi but, Vx]) (S' := [Vi ((updC (updC b 166 8 1) 166 9 ((tA W p : Nat) : Int)) 166 8)]) (h' := ((SHv st dr rd), (ovl a s (updC (updC b 166 8 1) 166 9 ((tA W p : Nat) : Int))))) (fun _ => rfl) ?_
  rw [(show ((updC (updC b 166 8 1) 166 9 ((tA W p : Nat) : Int)) 166 8) = 1 from rfl)]
  refine Ev.steps (k := 6) (pc' := 62) (L' := [Vr 166, Vi 2, Vi but, Vi 0]) (S' := [Vi ((updC (updC b 166 8 1) 166 9 ((tA W p : Nat) : Int)) 166 8)]) (h' := ((SHv st dr rd), (ovl a s (updC (updC b 166 8 1) 166 9 ((tA W p : Nat) : Int))))) (fun _ => rfl) ?_
  rw [(show ((updC (updC b 166 8 1) 166 9 ((tA W p : Nat) : Int)) 166 8) = 1 from rfl)]
  refine Ev.steps (k := 3) (pc' := 88) (L' := [Vr 166, Vi 2, Vi but, Vi 0]) (S' := [Vi ((updC (updC b 166 8 1) 166 9 ((tA W p : Nat) : Int)) 166 8)]) (h' := ((SHv st dr rd), (ovl a s (updC (updC b 166 8 1) 166 9 ((tA W p : Nat) : Int))))) (fun _ => rfl) ?_
  rw [(show ((updC (updC b 166 8 1) 166 9 ((tA W p : Nat) : Int)) 166 8) = 1 from rfl)]
  refine Ev.fin (k := 4) (r := (some (Vi 0))) (h' := ((SHv st dr rd), (ovl a s (updC (updC b 166 8 1) 166 9 ((tA W p : Nat) : Int))))) (fun _ => rfl) ?_
  exact ⟨_, rfl, Or.inr ⟨_, if_pos hc, rfl, hk.bl (by decide)⟩⟩
theorem m_looked_2C {X : List Int} {d : Nat} {st dr rd : Int} {a s b : C3} {W : TXT} {p : Nat} (hk : TkM W p b) {N : SC} {j : Nat} (hN : NmM N b j) (but : Int) (hc : tC W p = 300) (h3 : b 166 3 = 1) (h7 : b 166 7 = ((tV W p : Nat) : Int)) (how : ¬ tcW (tV W p) ≠ 300) : Ev X (d + 1) 166 0 [Vr 166, Vi 2, Vi but, Vx] [] (SHv st dr rd, ovl a s b) (fun rr hh => ∃ b' : C3, hh = (SHv st dr rd, ovl a s b') ∧ ResC (lokT W N 2 but p) (fun i => rr = some (Vi ((i : Nat) : Int)) ∧ b' = b) (fun e => rr = some (Vi 0) ∧ BdM W b e b')) := by
  have hw : nmI N 2 (tV W p) = -1 ∧ nmd N 2 (tV W p) = cntN N 2 ∨ nmI N 2 (tV W p) = ((nmd N 2 (tV W p) : Nat) : Int) ∧ nmd N 2 (tV W p) < cntN N 2 := by
    have hle := nmd_le (N := N) (kd := 2) (w := tV W p)
    unfold nmI
    by_cases h : nmd N 2 (tV W p) < cntN N 2
    · rw [if_pos h]; exact Or.inr ⟨rfl, h⟩
    · rw [if_neg h]; exact Or.inl ⟨rfl, by omega⟩
  refine Ev.steps (k := 2) (pc' := 4) (L' := [Vr 166, Vi 2, Vi but, Vx]) (S' := [Vi (b 166 8)]) (h' := ((SHv st dr rd), (ovl a s b))) (fun _ => rfl) ?_
  rw [hk.2.1]
  refine Ev.steps (k := 3) (pc' := 13) (L' := [Vr 166, Vi 2, Vi but, Vx]) (S' := [Vi (b 166 3)]) (h' := ((SHv st dr rd), (ovl a s b))) (fun _ => rfl) ?_
  rw [h3]
  refine Ev.steps (k := 5) (pc' := 22) (L' := [Vr 166, Vi 2, Vi but, Vx]) (S' := [Vl (b 166 7), Vr 166]) (h' := ((SHv st dr rd), (ovl a s b))) (fun _ => rfl) ?_
  rw [h7]
  refine Ev.call (k := 0) (pc1 := 22) (L1 := [Vr 166, Vi 2, Vi but, Vx]) (S1 := [Vl ((tV W p : Nat) : Int), Vr 166]) (h1 := ((SHv st dr rd), (ovl a s b))) (m' := 167) (as := [Vr 166, Vl ((tV W p : Nat) : Int)]) (S' := []) (L0 := [Vr 166, Vl ((tV W p : Nat) : Int), Vx]) (fun _ => rfl) rfl rfl rfl rfl rfl rfl (m_isOwn (tV W p)) (fun r h' hq => ?_)
  obtain ⟨rfl, rfl⟩ := hq
  rw [if_neg how]
  show Ev X _ _ 25 [Vr 166, Vi 2, Vi but, Vx] [Vi 0] ((SHv st dr rd), (ovl a s b)) _
  refine Ev.steps (k := 3) (pc' := 41) (L' := [Vr 166, Vi 2, Vi but, Vx]) (S' := [Vi (b 166 8)]) (h' := ((SHv st dr rd), (ovl a s b))) (fun _ => rfl) ?_
  rw [hk.2.1]
  refine Ev.steps (k := 5) (pc' := 54) (L' := [Vr 166, Vi 2, Vi but, Vx]) (S' := [Vl (b 166 7), Vi 2, Vr 166]) (h' := ((SHv st dr rd), (ovl a s b))) (fun _ => rfl) ?_
  rw [h7]
  refine Ev.call (k := 0) (pc1 := 54) (L1 := [Vr 166, Vi 2, Vi but, Vx]) (S1 := [Vl ((tV W p : Nat) : Int), Vi 2, Vr 166]) (h1 := ((SHv st dr rd), (ovl a s b))) (m' := 168) (as := [Vr 166, Vi 2, Vl ((tV W p : Nat) : Int)]) (S' := []) (L0 := [Vr 166, Vi 2, Vl ((tV W p : Nat) : Int), Vx, Vx, Vx, Vx, Vx]) (fun _ => rfl) rfl rfl rfl rfl rfl rfl (m_named_2 hN (tV W p)) (fun r h' hq => ?_)
  obtain ⟨rfl, rfl⟩ := hq
  show Ev X _ _ 57 [Vr 166, Vi 2, Vi but, Vx] [Vi (nmI N 2 (tV W p))] ((SHv st dr rd), (ovl a s b)) _
  refine Ev.steps (k := 3) (pc' := 62) (L' := [Vr 166, Vi 2, Vi but, Vi (nmI N 2 (tV W p))]) (S' := [Vi (b 166 8)]) (h' := ((SHv st dr rd), (ovl a s b))) (fun _ => rfl) ?_
  rw [hk.2.1]
  refine Ev.ite (P := (nmI N 2 (tV W p)) = (-1)) (k := 4) (a := 75) (b := 70) (L' := [Vr 166, Vi 2, Vi but, Vi (nmI N 2 (tV W p))]) (S' := []) (h' := ((SHv st dr rd), (ovl a s b))) (fun _ => rfl) (fun b67 => ?_) (fun b67 => ?_)
  · refine Ev.steps (k := 4) (pc' := 81) (L' := [Vr 166, Vi 2, Vi but, Vi (nmI N 2 (tV W p))]) (S' := [Vi (b 166 4), Vi 3, Vr 166]) (h' := ((SHv st dr rd), (ovl a s b))) (fun _ => rfl) ?_
    rw [hk.2.2.2.2.1]
    refine Ev.call (k := 0) (pc1 := 81) (L1 := [Vr 166, Vi 2, Vi but, Vi (nmI N 2 (tV W p))]) (S1 := [Vi ((tA W p : Nat) : Int), Vi 3, Vr 166]) (h1 := ((SHv st dr rd), (ovl a s b))) (m' := 160) (as := [Vr 166, Vi 3, Vi ((tA W p : Nat) : Int)]) (S' := []) (L0 := [Vr 166, Vi 3, Vi ((tA W p : Nat) : Int)]) (fun _ => rfl) rfl rfl rfl rfl rfl rfl (m_blame (b := b) 3 ((tA W p : Nat) : Int)) (fun r h' hq => ?_)
    obtain ⟨rfl, hq⟩ := hq
    rw [if_neg (by show ¬ 0 < b 166 8; rw [hk.2.1]; decide)] at hq
    obtain rfl := hq
    show Ev X _ _ 84 [Vr 166, Vi 2, Vi but, Vi (nmI N 2 (tV W p))] [] ((SHv st dr rd), (ovl a s (updC (updC b 166 8 3) 166 9 ((tA W p : Nat) : Int)))) _
    refine Ev.steps (k := 2) (pc' := 88) (L' := [Vr 166, Vi 2, Vi but, Vi (nmI N 2 (tV W p))]) (S' := [Vi ((updC (updC b 166 8 3) 166 9 ((tA W p : Nat) : Int)) 166 8)]) (h' := ((SHv st dr rd), (ovl a s (updC (updC b 166 8 3) 166 9 ((tA W p : Nat) : Int))))) (fun _ => rfl) ?_
    rw [(show ((updC (updC b 166 8 3) 166 9 ((tA W p : Nat) : Int)) 166 8) = 3 from rfl)]
    refine Ev.fin (k := 4) (r := (some (Vi 0))) (h' := ((SHv st dr rd), (ovl a s (updC (updC b 166 8 3) 166 9 ((tA W p : Nat) : Int))))) (fun _ => rfl) ?_
    first
      | exact ⟨_, rfl, Or.inr ⟨_, by unfold lokT; rw [if_neg (by omega), if_pos (by omega)], rfl, hk.bl (by decide)⟩⟩
      | (refine ⟨_, rfl, Or.inl ⟨nmd N 2 (tV W p), by unfold lokT; rw [if_neg (by omega), if_neg (by omega)], ?_, rfl⟩⟩
         rw [show nmI N 2 (tV W p) = ((nmd N 2 (tV W p) : Nat) : Int) by omega])
  · refine Ev.ite (P := (nmI N 2 (tV W p)) ≠ but) (k := 3) (a := 84) (b := 75) (L' := [Vr 166, Vi 2, Vi but, Vi (nmI N 2 (tV W p))]) (S' := []) (h' := ((SHv st dr rd), (ovl a s b))) (fun _ => rfl) (fun b72 => ?_) (fun b72 => ?_)
    · refine Ev.steps (k := 2) (pc' := 88) (L' := [Vr 166, Vi 2, Vi but, Vi (nmI N 2 (tV W p))]) (S' := [Vi (b 166 8)]) (h' := ((SHv st dr rd), (ovl a s b))) (fun _ => rfl) ?_
      rw [hk.2.1]
      refine Ev.fin (k := 3) (r := (some (Vi (nmI N 2 (tV W p))))) (h' := ((SHv st dr rd), (ovl a s b))) (fun _ => rfl) ?_
      first
        | exact ⟨_, rfl, Or.inr ⟨_, by unfold lokT; rw [if_neg (by omega), if_pos (by omega)], rfl, hk.bl (by decide)⟩⟩
        | (refine ⟨_, rfl, Or.inl ⟨nmd N 2 (tV W p), by unfold lokT; rw [if_neg (by omega), if_neg (by omega)], ?_, rfl⟩⟩
           rw [show nmI N 2 (tV W p) = ((nmd N 2 (tV W p) : Nat) : Int) by omega])
    · refine Ev.steps (k := 4) (pc' := 81) (L' := [Vr 166, Vi 2, Vi but, Vi (nmI N 2 (tV W p))]) (S' := [Vi (b 166 4), Vi 3, Vr 166]) (h' := ((SHv st dr rd), (ovl a s b))) (fun _ => rfl) ?_
      rw [hk.2.2.2.2.1]
      refine Ev.call (k := 0) (pc1 := 81) (L1 := [Vr 166, Vi 2, Vi but, Vi (nmI N 2 (tV W p))]) (S1 := [Vi ((tA W p : Nat) : Int), Vi 3, Vr 166]) (h1 := ((SHv st dr rd), (ovl a s b))) (m' := 160) (as := [Vr 166, Vi 3, Vi ((tA W p : Nat) : Int)]) (S' := []) (L0 := [Vr 166, Vi 3, Vi ((tA W p : Nat) : Int)]) (fun _ => rfl) rfl rfl rfl rfl rfl rfl (m_blame (b := b) 3 ((tA W p : Nat) : Int)) (fun r h' hq => ?_)
      obtain ⟨rfl, hq⟩ := hq
      rw [if_neg (by show ¬ 0 < b 166 8; rw [hk.2.1]; decide)] at hq
      obtain rfl := hq
      show Ev X _ _ 84 [Vr 166, Vi 2, Vi but, Vi (nmI N 2 (tV W p))] [] ((SHv st dr rd), (ovl a s (updC (updC b 166 8 3) 166 9 ((tA W p : Nat) : Int)))) _
      refine Ev.steps (k := 2) (pc' := 88) (L' := [Vr 166, Vi 2, Vi but, Vi (nmI N 2 (tV W p))]) (S' := [Vi ((updC (updC b 166 8 3) 166 9 ((tA W p : Nat) : Int)) 166 8)]) (h' := ((SHv st dr rd), (ovl a s (updC (updC b 166 8 3) 166 9 ((tA W p : Nat) : Int))))) (fun _ => rfl) ?_
      rw [(show ((updC (updC b 166 8 3) 166 9 ((tA W p : Nat) : Int)) 166 8) = 3 from rfl)]
      refine Ev.fin (k := 4) (r := (some (Vi 0))) (h' := ((SHv st dr rd), (ovl a s (updC (updC b 166 8 3) 166 9 ((tA W p : Nat) : Int))))) (fun _ => rfl) ?_
      first
        | exact ⟨_, rfl, Or.inr ⟨_, by unfold lokT; rw [if_neg (by omega), if_pos (by omega)], rfl, hk.bl (by decide)⟩⟩
        | (refine ⟨_, rfl, Or.inl ⟨nmd N 2 (tV W p), by unfold lokT; rw [if_neg (by omega), if_neg (by omega)], ?_, rfl⟩⟩
           rw [show nmI N 2 (tV W p) = ((nmd N 2 (tV W p) : Nat) : Int) by omega])
theorem m_looked_2 {X : List Int} {d : Nat} {st dr rd : Int} {a s b : C3} {W : TXT} {p : Nat} (hk : TkM W p b) {N : SC} {j : Nat} (hN : NmM N b j) (but : Int) : Ev X (d + 1) 166 0 [Vr 166, Vi 2, Vi but, Vx] [] (SHv st dr rd, ovl a s b) (fun rr hh => ∃ b' : C3, hh = (SHv st dr rd, ovl a s b') ∧ ResC (lokT W N 2 but p) (fun i => rr = some (Vi ((i : Nat) : Int)) ∧ b' = b) (fun e => rr = some (Vi 0) ∧ BdM W b e b')) := by
  by_cases hc : tC W p = 300
  · have h := hk.nm hc
    exact m_looked_2C hk hN but hc h.1 h.2.1 (fun g => h.2.2 (tcW_ow.mpr g))
  · by_cases ho : 256 ≤ tC W p ∧ tC W p < 283
    · have h := hk.ow ho
      exact m_looked_2B hk but hc h.1 h.2.1 (tcW_ow.mp h.2.2)
    · exact m_looked_2A hk but hc (hk.n1 hc ho)
