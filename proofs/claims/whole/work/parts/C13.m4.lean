/-! THE CLASS: what a rule does -/
theorem plc_lt {v : Int} (h : 0 ≤ v ∧ v < 8 ∨ 100 ≤ v ∧ v < 108) : 0 ≤ plc v ∧ plc v < 16 := by unfold plc; split <;> omega
theorem RsC.trc {S : STY} {c c' a : SC} {u x : Nat} (h : RsC S c a u) (h0 : ∀ t, t < 6 → c' t = c t) (hx : unwB c' = x) : RsC S c' (updC a (u + 1) 8 (x : Int)) u := by
  obtain ⟨q0, q1, q2, q3, q4, q5, q6, q7, q8, q9, q10⟩ := h
  unfold RsC livB alvB at *
  rw [updC_row (by omega), updC_row (by omega), updC_row (by omega), updC_row (by omega), updC_row (by omega), updC_nt (i := 8) (i' := 6) (by omega), updC_nt (i := 8) (i' := 7) (by omega), updC_sm, hx, h0 0 (by omega), h0 1 (by omega), h0 2 (by omega), h0 3 (by omega), h0 4 (by omega), h0 5 (by omega)]
  exact ⟨q0, q1, q2, q3, q4, q5, q6, q7, q8, q9, rfl⟩
theorem RsC.thg {S : STY} {c a : SC} {u t : Nat} {v w : Int} (h : RsC S c a u) (ht : t < nT S) (hw : w = plc v) (hv : 0 ≤ w ∧ w < 16) : RsC S (updC c 2 t v) (updC a (u + 3) t w) u := by
  obtain ⟨q0, q1, q2, q3, q4, q5, q6, q7, q8, q9, q10⟩ := h
  have hU : unwB (updC c 2 t v) = unwB c := rfl
  unfold RsC
  rw [updC_row (o' := u + 1) (by omega), updC_row (o' := u + 2) (by omega), updC_row (o' := u + 4) (by omega), updC_row (o' := u + 5) (by omega), updC_row (o' := u + 6) (by omega), hU]
  refine ⟨q0, q1, fun x hx => ?_, fun x hx => ?_, fun x hx hx8 => ?_, q5, q6, q7, q8, q9, q10⟩
  · rw [updC_if, updC_if]
    split
    · exact hw
    · exact q2 x hx
  · rw [updC_if]
    split
    · exact hv
    · exact q3 x hx
  · rw [updC_if, if_neg (by omega)]
    exact q4 x hx hx8
theorem unwB_tb {c : SC} {r : Nat} : (unwB c).testBit r = true ↔ r < 8 ∧ ∃ i, i < (c 7 0).toNat ∧ c 6 (6 * i + 4) = (r : Int) ∧ c 6 (6 * i + 5) = -1 := by
  unfold unwB
  rw [bts_bit, decide_eq_true_iff]
theorem unwB_lt {c : SC} : unwB c < 256 := by
  unfold unwB
  exact bts_lt _ 8
theorem leavS_6 {c : SC} {k w : Int} {p i j : Nat} (hi : i < (c 7 0).toNat) (hj : j < 6) : leavS c k w p 6 (6 * i + j) = c 6 (6 * i + j) := by
  unfold leavS
  rw [updC_nt (by omega), updC_nt (by omega), updC_nt (by omega), updC_nt (by omega), updC_nt (by omega), updC_nt (by omega), updC_nt (by omega)]
theorem leavS_64 {c : SC} {k w : Int} {p : Nat} : leavS c k w p 6 (6 * (c 7 0).toNat + 4) = c 0 p ∧ leavS c k w p 6 (6 * (c 7 0).toNat + 5) = -1 := by
  unfold leavS
  refine ⟨?_, ?_⟩
  · rw [updC_nt (by omega), updC_nt (by omega), updC_sm]
  · rw [updC_nt (by omega), updC_sm]
theorem unwB_leav {c : SC} {k w : Int} {p r : Nat} (h7 : 0 ≤ c 7 0) (hp : c 0 p = (r : Int)) (hr : r < 8) : unwB (leavS c k w p) = unwB c ||| 2 ^ r := by
  apply nat_bits
  intro x
  rw [Nat.testBit_or, Bool.or_eq_true, unwB_tb, unwB_tb, Nat.testBit_two_pow, decide_eq_true_iff, leavS_7]
  have e : (c 7 0 + 1).toNat = (c 7 0).toNat + 1 := by omega
  rw [e]
  constructor
  · rintro ⟨h1, i, h2, h3, h4⟩
    by_cases hi : i < (c 7 0).toNat
    · rw [leavS_6 hi (by omega)] at h3
      rw [leavS_6 hi (by omega)] at h4
      exact Or.inl ⟨h1, i, hi, h3, h4⟩
    · obtain rfl : i = (c 7 0).toNat := by omega
      rw [leavS_64.1] at h3
      exact Or.inr (by omega)
  · rintro (⟨h1, i, h2, h3, h4⟩ | h)
    · refine ⟨h1, i, by omega, ?_, ?_⟩
      · rw [leavS_6 h2 (by omega)]; exact h3
      · rw [leavS_6 h2 (by omega)]; exact h4
    · subst h
      exact ⟨hr, _, Nat.lt_succ_self _, leavS_64.1.trans hp, leavS_64.2⟩
theorem leavS_n {c : SC} {k w : Int} {p t : Nat} (h : t ≠ 6) (h7 : t ≠ 7) : leavS c k w p t = c t := by
  unfold leavS
  rw [updC_row h7, updC_row h, updC_row h, updC_row h, updC_row h, updC_row h, updC_row h]
theorem wipS_n {c : SC} {p t : Nat} (h : t ≠ 6) : wipS c p t = c t := by
  funext i
  unfold wipS
  rw [if_neg (fun h2 => h h2.1)]
theorem wipS_64 {c : SC} {p i : Nat} : wipS c p 6 (6 * i + 4) = c 6 (6 * i + 4) := by
  unfold wipS
  rw [if_neg (by omega)]
theorem wipS_65 {c : SC} {p i : Nat} (hi : i < (c 7 0).toNat) : wipS c p 6 (6 * i + 5) = if WipS c p i then c 5 0 else c 6 (6 * i + 5) := by
  unfold wipS
  have e : (6 * i + 5) / 6 = i := by omega
  rw [e]
  by_cases h : WipS c p i
  · rw [if_pos h, if_pos ⟨rfl, by omega, hi, h⟩]
  · rw [if_neg h, if_neg (fun h2 => h h2.2.2.2)]
theorem unwB_wip {c : SC} {p r : Nat} (hp : c 0 p = (r : Int)) (h5 : 0 ≤ c 5 0) : unwB (wipS c p) = unwB c &&& (unwB c ^^^ 2 ^ r) := by
  have e : unwB c &&& (unwB c ^^^ 2 ^ r) = bts (fun x => decide ((∃ i, i < (c 7 0).toNat ∧ c 6 (6 * i + 4) = (x : Int) ∧ c 6 (6 * i + 5) = -1) ∧ x ≠ r)) 8 := by
    unfold unwB
    exact bts_andn (fun k hk => by rw [decide_eq_true_iff, decide_eq_true_iff])
  rw [e]
  apply nat_bits
  intro x
  rw [unwB_tb, bts_bit, decide_eq_true_iff, wipS_n (t := 7) (by omega)]
  constructor
  · rintro ⟨h1, i, h2, h3, h4⟩
    rw [wipS_64] at h3
    rw [wipS_65 h2] at h4
    split at h4
    · omega
    · next hw => exact ⟨h1, ⟨i, h2, h3, h4⟩, fun hx => hw ⟨by rw [h3, hp, hx], h4⟩⟩
  · rintro ⟨h1, ⟨i, h2, h3, h4⟩, h5⟩
    refine ⟨h1, i, h2, ?_, ?_⟩
    · rw [wipS_64]; exact h3
    · rw [wipS_65 h2, if_neg (fun hw => h5 (by have := hw.1; omega))]; exact h4
theorem RsC.mood {S : STY} {c a : SC} {u p : Nat} {v : Int} (h : RsC S c a u) : RsC S (updC c 3 p v) (updC a (u + 4) p v) u := by
  obtain ⟨q0, q1, q2, q3, q4, q5, q6, q7, q8, q9, q10⟩ := h
  have hU : unwB (updC c 3 p v) = unwB c := rfl
  unfold RsC
  rw [updC_row (o' := u + 1) (by omega), updC_row (o' := u + 2) (by omega), updC_row (o' := u + 3) (by omega), updC_row (o' := u + 5) (by omega), updC_row (o' := u + 6) (by omega), hU]
  refine ⟨q0, q1, q2, q3, q4, fun x hx => ?_, q6, q7, q8, q9, q10⟩
  rw [updC_if, updC_if]
  split
  · rfl
  · exact q5 x hx
theorem RsC.min {S : STY} {c a : SC} {u : Nat} {v : Int} (h : RsC S c a u) : RsC S (updC c 5 0 v) (updC a (u + 1) 6 v) u := by
  obtain ⟨q0, q1, q2, q3, q4, q5, q6, q7, q8, q9, q10⟩ := h
  have hU : unwB (updC c 5 0 v) = unwB c := rfl
  unfold RsC
  rw [updC_row (o' := u + 2) (by omega), updC_row (o' := u + 3) (by omega), updC_row (o' := u + 4) (by omega), updC_row (o' := u + 5) (by omega), updC_row (o' := u + 6) (by omega), hU, updC_sm, updC_sm, updC_nt (i := 6) (i' := 7) (by omega), updC_nt (i := 6) (i' := 8) (by omega)]
  exact ⟨q0, q1, q2, q3, q4, q5, q6, q7, rfl, q9, q10⟩
theorem RsC.go {S : STY} {c a : SC} {u p r0 r1 : Nat} (h : RsC S c a u) (hp : p < nW S) (hl : c 1 p ≠ 0) (h0 : c 0 p = (r0 : Int)) (h8 : r1 < 8) : RsC S (updC c 0 p (r1 : Int)) (updC (updC (updC a (u + 5) r0 ((livB (nW S) c r0 &&& (livB (nW S) c r0 ^^^ 2 ^ p) : Nat) : Int)) (u + 2) p (r1 : Int)) (u + 5) r1 ((livB (nW S) (updC c 0 p (r1 : Int)) r1 : Nat) : Int)) u := by
  obtain ⟨q0, q1, q2, q3, q4, q5, q6, q7, q8, q9, q10⟩ := h
  have hU : unwB (updC c 0 p (r1 : Int)) = unwB c := rfl
  have hA : alvB (nW S) (updC c 0 p (r1 : Int)) = alvB (nW S) c := rfl
  unfold RsC
  rw [updC_row (o := u + 5) (o' := u + 1) (by omega), updC_row (o := u + 2) (o' := u + 1) (by omega), updC_row (o := u + 5) (o' := u + 1) (by omega), updC_row (o := u + 5) (o' := u + 2) (by omega), updC_row (o := u + 5) (o' := u + 3) (by omega), updC_row (o := u + 2) (o' := u + 3) (by omega), updC_row (o := u + 5) (o' := u + 3) (by omega), updC_row (o := u + 5) (o' := u + 4) (by omega), updC_row (o := u + 2) (o' := u + 4) (by omega), updC_row (o := u + 5) (o' := u + 4) (by omega), updC_row (o := u + 5) (o' := u + 6) (by omega), updC_row (o := u + 2) (o' := u + 6) (by omega), updC_row (o := u + 5) (o' := u + 6) (by omega), hU, hA]
  refine ⟨fun x hx => ?_, fun x hx => ?_, q2, q3, q4, q5, fun r hr => ?_, q7, q8, q9, q10⟩
  · rw [updC_if, updC_if]
    split
    · rfl
    · rw [updC_nt (by omega)]; exact q0 x hx
  · rw [updC_if]
    split
    · omega
    · rw [updC_nt (by omega)]; exact q1 x hx
  · rw [updC_if]
    split
    · next g => rw [g]
    · next g =>
      rw [updC_nt (by omega), updC_if]
      split
      · next g2 =>
        rw [g2] at g
        congr 1
        unfold livB
        rw [g2]
        refine bts_andn (fun k hk => ?_)
        rw [decide_eq_true_iff, decide_eq_true_iff, updC_if]
        show c 1 k ≠ 0 ∧ _ ↔ _
        split
        · next g3 => exact ⟨fun g4 => absurd g4.2 (by omega), fun g4 => absurd g3 g4.2⟩
        · next g3 => exact ⟨fun g4 => ⟨g4, g3⟩, fun g4 => g4.1⟩
      · next g2 =>
        rw [q6 r hr]
        congr 1
        unfold livB
        refine bts_cg _ (fun k hk => ?_)
        apply decide_eq_decide.mpr
        rw [updC_if]
        show _ ↔ c 1 k ≠ 0 ∧ _
        split
        · next g3 => rw [g3, h0]; exact ⟨fun g4 => absurd g4.2 (by omega), fun g4 => absurd g4.2 (by omega)⟩
        · exact Iff.rfl
theorem livB_go {n : Nat} {c : SC} {p r0 r1 : Nat} (hp : p < n) (hl : c 1 p ≠ 0) (h0 : c 0 p = (r0 : Int)) : (if r1 = r0 then livB n c r0 &&& (livB n c r0 ^^^ 2 ^ p) else livB n c r1) ||| 2 ^ p = livB n (updC c 0 p (r1 : Int)) r1 := by
  apply nat_bits
  intro k
  rw [Nat.testBit_or, Bool.or_eq_true, livB_tb, Nat.testBit_two_pow, decide_eq_true_iff, updC_if]
  have e : livB n c r0 &&& (livB n c r0 ^^^ 2 ^ p) = bts (fun q => decide ((c 1 q ≠ 0 ∧ c 0 q = (r0 : Int)) ∧ q ≠ p)) n := by
    unfold livB
    exact bts_andn (fun k hk => by rw [decide_eq_true_iff, decide_eq_true_iff])
  have hk : ((if r1 = r0 then livB n c r0 &&& (livB n c r0 ^^^ 2 ^ p) else livB n c r1).testBit k = true) ↔ k < n ∧ c 1 k ≠ 0 ∧ c 0 k = (r1 : Int) ∧ k ≠ p := by
    split
    · next g =>
      rw [e, bts_bit, decide_eq_true_iff, g]
      exact ⟨fun g => ⟨g.1, g.2.1.1, g.2.1.2, g.2.2⟩, fun g => ⟨g.1, ⟨g.2.1, g.2.2.1⟩, g.2.2.2⟩⟩
    · next g =>
      rw [livB_tb]
      exact ⟨fun g => ⟨g.1, g.2.1, g.2.2, fun h => by subst h; have := g.2.2; omega⟩, fun g => ⟨g.1, g.2.1, g.2.2.1⟩⟩
  rw [hk]
  show _ ↔ k < n ∧ c 1 k ≠ 0 ∧ _
  constructor
  · rintro (g | g)
    · rw [if_neg g.2.2.2]
      exact ⟨g.1, g.2.1, g.2.2.1⟩
    · subst g
      rw [if_pos rfl]
      exact ⟨hp, hl, rfl⟩
  · rintro ⟨g1, g2, g3⟩
    by_cases g : k = p
    · exact Or.inr g.symm
    · rw [if_neg g] at g3
      exact Or.inl ⟨g1, g2, g3, g⟩
theorem c_feel {X : List Int} {d : Nat} {st dr rd : Int} {a s b : C3} {u : Nat} (hu : huS u) {S : STY} {c : SC} (hC : RsC S c a u) (hWY : WfY S) (hWC : WfC S c) (p : Nat) (hp : p < nW S) (v : Int) (hv : M6 v) : Ev X (d + 2) 91 0 [Vr ((u : Int) + 1), Vi (p : Int), Vi v] [] (SHv st dr rd, ovl a s b) (fun rr hh => rr = none ∧ ∃ a' : C3, hh = (SHv st dr rd, ovl a' s b) ∧ RsC S (updC c 3 p (hld (c 3 p + v))) a' u ∧ FrO (u + 1) (u + 7) a a') := by
  have hu0 : u = 119 ∨ u = 142 := hu
  obtain ⟨q0, q1, q2, q3, q4, q5, q6, q7, q8, q9, q10⟩ := id hC
  obtain ⟨k0, k1, k2, k3, k4, k5, k7, k9⟩ := id hWC
  have hW8 := hWY.2.2.1.1
  have hR8 := hWY.1.1
  have hT8 := hWY.2.2.2.1.1
  have hv2 : -1000000 ≤ v ∧ v ≤ 1000000 := hv
  have h3 := k3 p
  refine Ev.steps (k := 1) (pc' := 1) (L' := [Vr ((u : Int) + 1), Vi (p : Int), Vi v]) (S' := [Vr ((u : Int) + 1)]) (h' := ((SHv st dr rd), (ovl a s b))) (fun _ => rfl) ?_
  refine Ev.getr (r := ((u : Int) + 4)) rfl rfl (by omega) (shU_1 hu) rfl rfl rfl ?_
  refine Ev.steps (k := 3) (pc' := 7) (L' := [Vr ((u : Int) + 1), Vi (p : Int), Vi v]) (S' := [Vr ((u : Int) + 1), Vr ((u : Int) + 1), Vi (p : Int), Vr ((u : Int) + 4)]) (h' := ((SHv st dr rd), (ovl a s b))) (fun _ => rfl) ?_
  refine Ev.getr (r := ((u : Int) + 4)) rfl rfl (by omega) (shU_1 hu) rfl rfl rfl ?_
  refine Ev.steps (k := 1) (pc' := 11) (L' := [Vr ((u : Int) + 1), Vi (p : Int), Vi v]) (S' := [Vi (p : Int), Vr ((u : Int) + 4), Vr ((u : Int) + 1), Vi (p : Int), Vr ((u : Int) + 4)]) (h' := ((SHv st dr rd), (ovl a s b))) (fun _ => rfl) ?_
  refine Ev.iald (v := (c 3 p)) rfl (by omega) (shU_4 hu) (by omega) (by omega) ((ovl_rc (by omega)).trans (q5 p hp)) ?_
  refine Ev.steps (k := 4) (pc' := 16) (L' := [Vr ((u : Int) + 1), Vi (p : Int), Vi v]) (S' := [Vl (w64 ((c 3 p) + v)), Vr ((u : Int) + 1), Vi (p : Int), Vr ((u : Int) + 4)]) (h' := ((SHv st dr rd), (ovl a s b))) (fun _ => rfl) ?_
  rw [show (w64 ((c 3 p) + v)) = ((c 3 p) + v) from w64_id (by unfold R64; omega)]
  refine Ev.call (k := 0) (pc1 := 16) (L1 := [Vr ((u : Int) + 1), Vi (p : Int), Vi v]) (S1 := [Vl ((c 3 p) + v), Vr ((u : Int) + 1), Vi (p : Int), Vr ((u : Int) + 4)]) (h1 := ((SHv st dr rd), (ovl a s b))) (m' := 85) (as := [Vr ((u : Int) + 1), Vl ((c 3 p) + v)]) (S' := [Vi (p : Int), Vr ((u : Int) + 4)]) (L0 := [Vr ((u : Int) + 1), Vl ((c 3 p) + v), Vx]) (fun _ => rfl) rfl rfl rfl rfl (stpC_of rfl (pm_recv_of (by omega) (shU_1 hu))) rfl (c_within hu (c 3 p + v)) (fun r h' hq => ?_)
  obtain ⟨rfl, rfl⟩ := hq
  show Ev X _ _ 19 [Vr ((u : Int) + 1), Vi (p : Int), Vi v] [Vi (hld (c 3 p + v)), Vi (p : Int), Vr ((u : Int) + 4)] ((SHv st dr rd), (ovl a s b)) _
  refine Ev.iast (c' := (ovl (updC a (u + 4) p (hld (c 3 p + v))) s b)) rfl (by omega) (shU_4 hu) (by omega) (by omega) (ovl_wc (by omega)) ?_
  refine Ev.fin (k := 1) (r := none) (h' := ((SHv st dr rd), (ovl (updC a (u + 4) p (hld (c 3 p + v))) s b))) (fun _ => rfl) ?_
  exact ⟨rfl, _, rfl, hC.mood, FrO.rf.up (by omega)⟩
theorem c_goes_n {X : List Int} {d : Nat} {st dr rd : Int} {a s b : C3} {u : Nat} (hu : huS u) (p : Nat) : Ev X d 94 0 [Vr ((u : Int) + 1), Vi (p : Int), Vi (-1)] [] (SHv st dr rd, ovl a s b) (fun rr hh => rr = some (Vi 0) ∧ hh = (SHv st dr rd, ovl a s b)) := by
  have hu0 : u = 119 ∨ u = 142 := hu
  refine Ev.fin (k := 4) (r := (some (Vi 0))) (h' := ((SHv st dr rd), (ovl a s b))) (fun _ => rfl) ?_
  exact ⟨rfl, rfl⟩
theorem c_goes {X : List Int} {d : Nat} {st dr rd : Int} {a s b : C3} {u : Nat} (hu : huS u) {S : STY} {c : SC} (hC : RsC S c a u) (hWY : WfY S) (hWC : WfC S c) (p r1 : Nat) (hp : p < nW S) (hl : c 1 p ≠ 0) (hr1 : r1 < 8) : Ev X d 94 0 [Vr ((u : Int) + 1), Vi (p : Int), Vi (r1 : Int)] [] (SHv st dr rd, ovl a s b) (fun rr hh => rr = some (Vi 1) ∧ ∃ a' : C3, hh = (SHv st dr rd, ovl a' s b) ∧ RsC S (updC c 0 p (r1 : Int)) a' u ∧ FrO (u + 1) (u + 7) a a') := by
  have hu0 : u = 119 ∨ u = 142 := hu
  obtain ⟨q0, q1, q2, q3, q4, q5, q6, q7, q8, q9, q10⟩ := id hC
  obtain ⟨k0, k1, k2, k3, k4, k5, k7, k9⟩ := id hWC
  have hW8 := hWY.2.2.1.1
  have hR8 := hWY.1.1
  have hT8 := hWY.2.2.2.1.1
  obtain ⟨r0, hr0⟩ : ∃ r0 : Nat, c 0 p = (r0 : Int) := ⟨(c 0 p).toNat, by have := k0 p hp; omega⟩
  have hr08 := k0 p hp
  have hg0 := (q0 p hp).trans hr0
  have hl0 := livB_lt (c := c) (r := r0) hW8
  have hl1 := livB_lt (c := c) (r := r1) hW8
  have hp2 : 2 ^ p ≤ 2 ^ 7 := Nat.pow_le_pow_right (by omega) (by omega)
  have hgo := livB_go (r1 := r1) hp hl hr0
  have hV : (updC a (u + 5) r0 ((livB (nW S) c r0 &&& (livB (nW S) c r0 ^^^ 2 ^ p) : Nat) : Int)) (u + 5) r1 = ((if r1 = r0 then livB (nW S) c r0 &&& (livB (nW S) c r0 ^^^ 2 ^ p) else livB (nW S) c r1 : Nat) : Int) := by
    rw [updC_if]
    split
    · rfl
    · exact q6 r1 hr1
  have hX : livB (nW S) c r0 &&& (livB (nW S) c r0 ^^^ 2 ^ p) ≤ livB (nW S) c r0 := Nat.and_le_left
  refine Ev.ite (P := (r1 : Int) < 0) (k := 2) (a := 10) (b := 4) (L' := [Vr ((u : Int) + 1), Vi (p : Int), Vi (r1 : Int)]) (S' := []) (h' := ((SHv st dr rd), (ovl a s b))) (fun _ => rfl) (fun b1 => ?_) (fun b1 => ?_)
  · exfalso; omega
  · refine Ev.ite (P := (r1 : Int) < 8) (k := 3) (a := 12) (b := 10) (L' := [Vr ((u : Int) + 1), Vi (p : Int), Vi (r1 : Int)]) (S' := []) (h' := ((SHv st dr rd), (ovl a s b))) (fun _ => rfl) (fun b7 => ?_) (fun b7 => ?_)
    · refine Ev.steps (k := 1) (pc' := 13) (L' := [Vr ((u : Int) + 1), Vi (p : Int), Vi (r1 : Int)]) (S' := [Vr ((u : Int) + 1)]) (h' := ((SHv st dr rd), (ovl a s b))) (fun _ => rfl) ?_
      refine Ev.getr (r := ((u : Int) + 5)) rfl rfl (by omega) (shU_1 hu) rfl rfl rfl ?_
      refine Ev.steps (k := 1) (pc' := 17) (L' := [Vr ((u : Int) + 1), Vi (p : Int), Vi (r1 : Int)]) (S' := [Vr ((u : Int) + 1), Vr ((u : Int) + 5)]) (h' := ((SHv st dr rd), (ovl a s b))) (fun _ => rfl) ?_
      refine Ev.getr (r := ((u : Int) + 2)) rfl rfl (by omega) (shU_1 hu) rfl rfl rfl ?_
      refine Ev.steps (k := 1) (pc' := 21) (L' := [Vr ((u : Int) + 1), Vi (p : Int), Vi (r1 : Int)]) (S' := [Vi (p : Int), Vr ((u : Int) + 2), Vr ((u : Int) + 5)]) (h' := ((SHv st dr rd), (ovl a s b))) (fun _ => rfl) ?_
      refine Ev.iald (v := (r0 : Int)) rfl (by omega) (shU_2 hu) (by omega) (by omega) ((ovl_rc (by omega)).trans (hg0)) ?_
      refine Ev.steps (k := 1) (pc' := 23) (L' := [Vr ((u : Int) + 1), Vi (p : Int), Vi (r1 : Int)]) (S' := [Vi (r0 : Int), Vr ((u : Int) + 5), Vi (r0 : Int), Vr ((u : Int) + 5)]) (h' := ((SHv st dr rd), (ovl a s b))) (fun _ => rfl) ?_
      refine Ev.iald (v := ((livB (nW S) c r0 : Nat) : Int)) rfl (by omega) (shU_5 hu) (by omega) (by omega) ((ovl_rc (by omega)).trans (q6 r0 (by omega))) ?_
      refine Ev.steps (k := 6) (pc' := 30) (L' := [Vr ((u : Int) + 1), Vi (p : Int), Vi (r1 : Int)]) (S' := [Vi (i_and ((livB (nW S) c r0 : Nat) : Int) (i_xor (i_shl 1 (p : Int)) (-1))), Vi (r0 : Int), Vr ((u : Int) + 5)]) (h' := ((SHv st dr rd), (ovl a s b))) (fun _ => rfl) ?_
      rw [show (i_and ((livB (nW S) c r0 : Nat) : Int) (i_xor (i_shl 1 (p : Int)) (-1))) = ((livB (nW S) c r0 &&& (livB (nW S) c r0 ^^^ 2 ^ p) : Nat) : Int) from (by rw [i_shl1 (by omega), i_andn_nat (by omega) (by omega)])]
      refine Ev.iast (c' := (ovl (updC a (u + 5) r0 ((livB (nW S) c r0 &&& (livB (nW S) c r0 ^^^ 2 ^ p) : Nat) : Int)) s b)) rfl (by omega) (shU_5 hu) (by omega) (by omega) (ovl_wc (by omega)) ?_
      refine Ev.steps (k := 1) (pc' := 32) (L' := [Vr ((u : Int) + 1), Vi (p : Int), Vi (r1 : Int)]) (S' := [Vr ((u : Int) + 1)]) (h' := ((SHv st dr rd), (ovl (updC a (u + 5) r0 ((livB (nW S) c r0 &&& (livB (nW S) c r0 ^^^ 2 ^ p) : Nat) : Int)) s b))) (fun _ => rfl) ?_
      refine Ev.getr (r := ((u : Int) + 2)) rfl rfl (by omega) (shU_1 hu) rfl rfl rfl ?_
      refine Ev.steps (k := 2) (pc' := 37) (L' := [Vr ((u : Int) + 1), Vi (p : Int), Vi (r1 : Int)]) (S' := [Vi (r1 : Int), Vi (p : Int), Vr ((u : Int) + 2)]) (h' := ((SHv st dr rd), (ovl (updC a (u + 5) r0 ((livB (nW S) c r0 &&& (livB (nW S) c r0 ^^^ 2 ^ p) : Nat) : Int)) s b))) (fun _ => rfl) ?_
      refine Ev.iast (c' := (ovl (updC (updC a (u + 5) r0 ((livB (nW S) c r0 &&& (livB (nW S) c r0 ^^^ 2 ^ p) : Nat) : Int)) (u + 2) p (r1 : Int)) s b)) rfl (by omega) (shU_2 hu) (by omega) (by omega) (ovl_wc (by omega)) ?_
      refine Ev.steps (k := 1) (pc' := 39) (L' := [Vr ((u : Int) + 1), Vi (p : Int), Vi (r1 : Int)]) (S' := [Vr ((u : Int) + 1)]) (h' := ((SHv st dr rd), (ovl (updC (updC a (u + 5) r0 ((livB (nW S) c r0 &&& (livB (nW S) c r0 ^^^ 2 ^ p) : Nat) : Int)) (u + 2) p (r1 : Int)) s b))) (fun _ => rfl) ?_
      refine Ev.getr (r := ((u : Int) + 5)) rfl rfl (by omega) (shU_1 hu) rfl rfl rfl ?_
      refine Ev.steps (k := 2) (pc' := 44) (L' := [Vr ((u : Int) + 1), Vi (p : Int), Vi (r1 : Int)]) (S' := [Vi (r1 : Int), Vr ((u : Int) + 5), Vi (r1 : Int), Vr ((u : Int) + 5)]) (h' := ((SHv st dr rd), (ovl (updC (updC a (u + 5) r0 ((livB (nW S) c r0 &&& (livB (nW S) c r0 ^^^ 2 ^ p) : Nat) : Int)) (u + 2) p (r1 : Int)) s b))) (fun _ => rfl) ?_
      refine Ev.iald (v := ((updC a (u + 5) r0 ((livB (nW S) c r0 &&& (livB (nW S) c r0 ^^^ 2 ^ p) : Nat) : Int)) (u + 5) r1)) rfl (by omega) (shU_5 hu) (by omega) (by omega) ((ovl_rc (by omega)).trans (by show (updC (updC a (u + 5) r0 ((livB (nW S) c r0 &&& (livB (nW S) c r0 ^^^ 2 ^ p) : Nat) : Int)) (u + 2) p (r1 : Int)) (u + 5) r1 = _; rw [updC_nt (by omega)])) ?_
      refine Ev.steps (k := 4) (pc' := 49) (L' := [Vr ((u : Int) + 1), Vi (p : Int), Vi (r1 : Int)]) (S' := [Vi (i_or ((updC a (u + 5) r0 ((livB (nW S) c r0 &&& (livB (nW S) c r0 ^^^ 2 ^ p) : Nat) : Int)) (u + 5) r1) (i_shl 1 (p : Int))), Vi (r1 : Int), Vr ((u : Int) + 5)]) (h' := ((SHv st dr rd), (ovl (updC (updC a (u + 5) r0 ((livB (nW S) c r0 &&& (livB (nW S) c r0 ^^^ 2 ^ p) : Nat) : Int)) (u + 2) p (r1 : Int)) s b))) (fun _ => rfl) ?_
      rw [show (i_or ((updC a (u + 5) r0 ((livB (nW S) c r0 &&& (livB (nW S) c r0 ^^^ 2 ^ p) : Nat) : Int)) (u + 5) r1) (i_shl 1 (p : Int))) = ((livB (nW S) (updC c 0 p (r1 : Int)) r1 : Nat) : Int) from (by rw [hV, i_shl1 (by omega), i_or_nat (by split <;> omega) (by omega), hgo])]
      refine Ev.iast (c' := (ovl (updC (updC (updC a (u + 5) r0 ((livB (nW S) c r0 &&& (livB (nW S) c r0 ^^^ 2 ^ p) : Nat) : Int)) (u + 2) p (r1 : Int)) (u + 5) r1 ((livB (nW S) (updC c 0 p (r1 : Int)) r1 : Nat) : Int)) s b)) rfl (by omega) (shU_5 hu) (by omega) (by omega) (ovl_wc (by omega)) ?_
      refine Ev.fin (k := 2) (r := (some (Vi 1))) (h' := ((SHv st dr rd), (ovl (updC (updC (updC a (u + 5) r0 ((livB (nW S) c r0 &&& (livB (nW S) c r0 ^^^ 2 ^ p) : Nat) : Int)) (u + 2) p (r1 : Int)) (u + 5) r1 ((livB (nW S) (updC c 0 p (r1 : Int)) r1 : Nat) : Int)) s b))) (fun _ => rfl) ?_
      exact ⟨rfl, _, rfl, hC.go hp hl hr0 hr1, ((FrO.rf.up (by omega)).up (by omega)).up (by omega)⟩
    · exfalso; omega
theorem c_moves {X : List Int} {d : Nat} {st dr rd : Int} {a s b : C3} {u : Nat} (hu : huS u) (t r x : Nat) (f v : Int) (ht : t < 8) (hr : r < 8) (hx : x < 256) (h8 : a (u + 1) 8 = (x : Int)) : Ev X d 95 0 [Vr ((u : Int) + 1), Vi (t : Int), Vi f, Vi v, Vi (r : Int)] [] (SHv st dr rd, ovl a s b) (fun rr hh => (a (u + 3) t = f ∧ rr = some (Vi 1) ∧ hh = (SHv st dr rd, ovl (updC (updC a (u + 3) t v) (u + 1) 8 ((x ||| 2 ^ r : Nat) : Int)) s b)) ∨ (a (u + 3) t ≠ f ∧ rr = some (Vi 0) ∧ hh = (SHv st dr rd, ovl a s b))) := by
  have hu0 : u = 119 ∨ u = 142 := hu
  have hp2 : 2 ^ r ≤ 2 ^ 7 := Nat.pow_le_pow_right (by omega) (by omega)
  refine Ev.ite (P := (t : Int) < 0) (k := 2) (a := 20) (b := 4) (L' := [Vr ((u : Int) + 1), Vi (t : Int), Vi f, Vi v, Vi (r : Int)]) (S' := []) (h' := ((SHv st dr rd), (ovl a s b))) (fun _ => rfl) (fun b1 => ?_) (fun b1 => ?_)
  · exfalso; omega
  · refine Ev.ite (P := 8 ≤ (t : Int)) (k := 3) (a := 20) (b := 10) (L' := [Vr ((u : Int) + 1), Vi (t : Int), Vi f, Vi v, Vi (r : Int)]) (S' := []) (h' := ((SHv st dr rd), (ovl a s b))) (fun _ => rfl) (fun b7 => ?_) (fun b7 => ?_)
    · exfalso; omega
    · refine Ev.steps (k := 1) (pc' := 11) (L' := [Vr ((u : Int) + 1), Vi (t : Int), Vi f, Vi v, Vi (r : Int)]) (S' := [Vr ((u : Int) + 1)]) (h' := ((SHv st dr rd), (ovl a s b))) (fun _ => rfl) ?_
      refine Ev.getr (r := ((u : Int) + 3)) rfl rfl (by omega) (shU_1 hu) rfl rfl rfl ?_
      refine Ev.steps (k := 1) (pc' := 15) (L' := [Vr ((u : Int) + 1), Vi (t : Int), Vi f, Vi v, Vi (r : Int)]) (S' := [Vi (t : Int), Vr ((u : Int) + 3)]) (h' := ((SHv st dr rd), (ovl a s b))) (fun _ => rfl) ?_
      refine Ev.iald (v := (a (u + 3) t)) rfl (by omega) (shU_3 hu) (by omega) (by omega) (ovl_rc (by omega)) ?_
      refine Ev.ite (P := (a (u + 3) t) = f) (k := 2) (a := 22) (b := 20) (L' := [Vr ((u : Int) + 1), Vi (t : Int), Vi f, Vi v, Vi (r : Int)]) (S' := []) (h' := ((SHv st dr rd), (ovl a s b))) (fun _ => rfl) (fun b17 => ?_) (fun b17 => ?_)
      · refine Ev.steps (k := 1) (pc' := 23) (L' := [Vr ((u : Int) + 1), Vi (t : Int), Vi f, Vi v, Vi (r : Int)]) (S' := [Vr ((u : Int) + 1)]) (h' := ((SHv st dr rd), (ovl a s b))) (fun _ => rfl) ?_
        refine Ev.getr (r := ((u : Int) + 3)) rfl rfl (by omega) (shU_1 hu) rfl rfl rfl ?_
        refine Ev.steps (k := 2) (pc' := 28) (L' := [Vr ((u : Int) + 1), Vi (t : Int), Vi f, Vi v, Vi (r : Int)]) (S' := [Vi v, Vi (t : Int), Vr ((u : Int) + 3)]) (h' := ((SHv st dr rd), (ovl a s b))) (fun _ => rfl) ?_
        refine Ev.iast (c' := (ovl (updC a (u + 3) t v) s b)) rfl (by omega) (shU_3 hu) (by omega) (by omega) (ovl_wc (by omega)) ?_
        refine Ev.steps (k := 2) (pc' := 31) (L' := [Vr ((u : Int) + 1), Vi (t : Int), Vi f, Vi v, Vi (r : Int)]) (S' := [Vr ((u : Int) + 1), Vr ((u : Int) + 1)]) (h' := ((SHv st dr rd), (ovl (updC a (u + 3) t v) s b))) (fun _ => rfl) ?_
        refine Ev.getf (v := (x : Int)) rfl rfl (by omega) (shU_1 hu) rfl rfl (((ovl_rc (by omega)).trans (by show (updC a (u + 3) t v) (u + 1) 8 = _; rw [updC_nt (by omega)])).trans (h8)) ?_
        refine Ev.steps (k := 4) (pc' := 39) (L' := [Vr ((u : Int) + 1), Vi (t : Int), Vi f, Vi v, Vi (r : Int)]) (S' := [Vi (i_or (x : Int) (i_shl 1 (r : Int))), Vr ((u : Int) + 1)]) (h' := ((SHv st dr rd), (ovl (updC a (u + 3) t v) s b))) (fun _ => rfl) ?_
        rw [show (i_or (x : Int) (i_shl 1 (r : Int))) = ((x ||| 2 ^ r : Nat) : Int) from (by rw [i_shl1 (by omega), i_or_nat (by omega) (by omega)])]
        refine Ev.putf (c' := (ovl (updC (updC a (u + 3) t v) (u + 1) 8 ((x ||| 2 ^ r : Nat) : Int)) s b)) rfl (by omega) (shU_1 hu) rfl rfl (ovl_wc (by omega)) ?_
        refine Ev.fin (k := 2) (r := (some (Vi 1))) (h' := ((SHv st dr rd), (ovl (updC (updC a (u + 3) t v) (u + 1) 8 ((x ||| 2 ^ r : Nat) : Int)) s b))) (fun _ => rfl) ?_
        first | exact Or.inl ⟨b17, rfl, rfl⟩ | exact Or.inr ⟨b17, rfl, rfl⟩
      · refine Ev.fin (k := 2) (r := (some (Vi 0))) (h' := ((SHv st dr rd), (ovl a s b))) (fun _ => rfl) ?_
        first | exact Or.inl ⟨b17, rfl, rfl⟩ | exact Or.inr ⟨b17, rfl, rfl⟩
/-- a kill: o dies, all that it carried lies in r -/
theorem dropS_r {n : Nat} {c : SC} {o t : Nat} (h : t ≠ 2) : dropS n c o t = c t := by
  funext i
  unfold dropS
  rw [if_neg (fun g => h g.1)]
theorem RsC.kil {S : STY} {c a a2 : SC} {u o r x : Nat} (h : RsC S c a u) (hT8 : nT S ≤ 8) (hW8 : nW S ≤ 8) (ho : o < nW S) (hr0 : c 0 o = (r : Int)) (hr : r < 8) (k2 : ∀ t, t < nT S → (0 ≤ c 2 t ∧ c 2 t < 8) ∨ (100 ≤ c 2 t ∧ c 2 t < 108)) {c' : SC} (hc : ∀ t, t < 6 → c' t = dropS (nT S) (updC c 1 o 0) o t) (hx : unwB c' = x)
    (hf : FrO (u + 3) (u + 3) (updC (updC a (u + 1) 7 ((alvB (nW S) c &&& (alvB (nW S) c ^^^ 2 ^ o) : Nat) : Int)) (u + 5) r ((livB (nW S) c r &&& (livB (nW S) c r ^^^ 2 ^ o) : Nat) : Int)) a2) (hv : ∀ j, j < 8 → a2 (u + 3) j = if a (u + 3) j = 8 + (o : Int) then (r : Int) else a (u + 3) j) : RsC S c' (updC a2 (u + 1) 8 (x : Int)) u := by
  obtain ⟨q0, q1, q2, q3, q4, q5, q6, q7, q8, q9, q10⟩ := h
  have d0 : dropS (nT S) (updC c 1 o 0) o 0 = c 0 := dropS_r (by omega)
  have d3 : dropS (nT S) (updC c 1 o 0) o 3 = c 3 := dropS_r (by omega)
  have d4 : dropS (nT S) (updC c 1 o 0) o 4 = c 4 := dropS_r (by omega)
  have d5 : dropS (nT S) (updC c 1 o 0) o 5 = c 5 := dropS_r (by omega)
  have d1 : dropS (nT S) (updC c 1 o 0) o 1 = updC c 1 o 0 1 := dropS_r (by omega)
  unfold RsC
  rw [updC_row (o' := u + 2) (by omega), updC_row (o' := u + 3) (by omega), updC_row (o' := u + 4) (by omega), updC_row (o' := u + 5) (by omega), updC_row (o' := u + 6) (by omega), updC_nt (i := 8) (i' := 6) (by omega), updC_nt (i := 8) (i' := 7) (by omega), updC_sm, hx, hf (u + 2) (by omega), hf (u + 4) (by omega), hf (u + 5) (by omega), hf (u + 6) (by omega), hf (u + 1) (by omega), hc 0 (by omega), hc 2 (by omega), hc 3 (by omega), hc 4 (by omega), hc 5 (by omega), d0, d3, d4, d5]
  rw [updC_row (o' := u + 2) (by omega), updC_row (o' := u + 2) (by omega), updC_row (o' := u + 4) (by omega), updC_row (o' := u + 4) (by omega), updC_row (o' := u + 6) (by omega), updC_row (o' := u + 6) (by omega), updC_row (o := u + 5) (o' := u + 1) (by omega), updC_nt (i := 7) (i' := 6) (by omega), updC_sm]
  refine ⟨q0, q1, fun t ht => ?_, fun t ht => ?_, fun t ht ht8 => ?_, q5, fun y hy => ?_, q7, q8, ?_, rfl⟩
  · rw [hv t (by omega), q2 t ht]
    have hk := k2 t ht
    show _ = plc (if 2 = 2 ∧ t < nT S ∧ updC c 1 o 0 2 t = 100 + (o : Int) then updC c 1 o 0 0 o else updC c 1 o 0 2 t)
    have e1 : updC c 1 o 0 2 t = c 2 t := rfl
    have e2 : updC c 1 o 0 0 o = c 0 o := rfl
    rw [e1, e2, hr0]
    by_cases g : c 2 t = 100 + (o : Int)
    · rw [if_pos (by rw [g]; unfold plc; split <;> omega), if_pos ⟨rfl, ht, g⟩]
      unfold plc
      rw [if_pos (by omega)]
    · have g3 : ¬ plc (c 2 t) = 8 + (o : Int) := by
        intro g2
        apply g
        unfold plc at g2
        split at g2 <;> omega
      rw [if_neg g3, if_neg (fun g2 => g g2.2.2)]
  · rw [hv t ht]
    have := q3 t ht
    split <;> omega
  · rw [hv t ht8]
    have := q4 t ht ht8
    split <;> omega
  · rw [updC_if]
    split
    · next g =>
      congr 1
      rw [g]
      unfold livB
      rw [hc 0 (by omega), hc 1 (by omega), d0, d1]
      refine bts_andn (fun k hk => ?_)
      rw [decide_eq_true_iff, decide_eq_true_iff, updC_if]
      split
      · next g => exact ⟨fun g4 => absurd rfl g4.1, fun g4 => absurd g g4.2⟩
      · next g => exact ⟨fun g4 => ⟨g4, g⟩, fun g4 => g4.1⟩
    · next g =>
      rw [updC_row (by omega), q6 y hy]
      congr 1
      unfold livB
      rw [hc 0 (by omega), hc 1 (by omega), d0, d1]
      refine bts_cg _ (fun k hk => ?_)
      apply decide_eq_decide.mpr
      rw [updC_if]
      split
      · next g2 => rw [g2, hr0]; exact ⟨fun g4 => absurd g4.2 (by omega), fun g4 => absurd rfl g4.1⟩
      · exact Iff.rfl
  · congr 1
    unfold alvB
    rw [hc 1 (by omega), d1]
    refine bts_andn (fun k hk => ?_)
    rw [decide_eq_true_iff, decide_eq_true_iff, updC_if]
    split
    · next g => exact ⟨fun g4 => absurd rfl g4, fun g4 => absurd g g4.2⟩
    · next g => exact ⟨fun g4 => ⟨g4, g⟩, fun g4 => g4.1⟩
theorem lone {n : Nat} {c : SC} {p o r : Nat} (hp : p < n) (ho : o < n) (hpo : p ≠ o) (hl : c 1 p ≠ 0) (hr : c 0 p = (r : Int)) : (livB n c r = 2 ^ p ||| 2 ^ o) ↔ (c 1 o ≠ 0 ∧ c 0 o = c 0 p ∧ AloneS n c p o) := by
  constructor
  · intro h
    have key : ∀ k, k < n → c 1 k ≠ 0 → c 0 k = (r : Int) → k = p ∨ k = o := fun k h1 h2 h3 => by
      have := livB_tb.mpr ⟨h1, h2, h3⟩
      rw [h, Nat.testBit_or, Bool.or_eq_true, Nat.testBit_two_pow, Nat.testBit_two_pow, decide_eq_true_iff, decide_eq_true_iff] at this
      omega
    have ho2 : (livB n c r).testBit o = true := by
      rw [h, Nat.testBit_or, Bool.or_eq_true, Nat.testBit_two_pow, Nat.testBit_two_pow, decide_eq_true_iff, decide_eq_true_iff]
      exact Or.inr rfl
    have ho3 := livB_tb.mp ho2
    refine ⟨ho3.2.1, by omega, fun q hq h1 h2 h3 h4 => ?_⟩
    have := key q hq h3 (by omega)
    omega
  · rintro ⟨h1, h2, h3⟩
    apply nat_bits
    intro k
    rw [livB_tb, Nat.testBit_or, Bool.or_eq_true, Nat.testBit_two_pow, Nat.testBit_two_pow, decide_eq_true_iff, decide_eq_true_iff]
    constructor
    · rintro ⟨g1, g2, g3⟩
      by_cases g : k = p
      · exact Or.inl g.symm
      · by_cases g4 : k = o
        · exact Or.inr g4.symm
        · exact absurd (g3.trans hr.symm) (h3 k g1 g (by omega) g2)
    · rintro (g | g)
      · subst g; exact ⟨hp, hl, hr⟩
      · subst g; exact ⟨ho, h1, by omega⟩
theorem c_kills_l {X : List Int} {d : Nat} {st dr rd : Int} {a s b : C3} {u : Nat} (hu : huS u) (p o w : Int) (r : Nat) (oo : Nat) (hoo : o = (oo : Int)) (ho8 : oo < 8) {a0 : C3} {Q : Option pm_V → pm_H → Prop} (K : ∀ (a2 : C3), FrO (u + 3) (u + 3) a0 a2 → (∀ j, j < 8 → a2 (u + 3) j = if a0 (u + 3) j = 8 + o then (r : Int) else a0 (u + 3) j) → Ev X d 97 128 [Vr ((u : Int) + 1), Vi p, Vi o, Vi w, Vi (r : Int), Vi 8] [] (SHv st dr rd, ovl a2 s b) Q) (i : Nat) (hi : i ≤ 8) (hf : FrO (u + 3) (u + 3) a0 a) (hv : ∀ j, j < 8 → a (u + 3) j = if j < i ∧ a0 (u + 3) j = 8 + o then (r : Int) else a0 (u + 3) j) : Ev X d 97 82 [Vr ((u : Int) + 1), Vi p, Vi o, Vi w, Vi (r : Int), Vi (i : Int)] [] (SHv st dr rd, ovl a s b) (Q) := by
  induction hk : (8 - i) using Nat.strongRecOn generalizing i a with
  | ind k ih =>
    have hu0 : u = 119 ∨ u = 142 := hu
    refine Ev.ite (P := 8 ≤ (i : Int)) (k := 3) (a := 128) (b := 89) (L' := [Vr ((u : Int) + 1), Vi p, Vi o, Vi w, Vi (r : Int), Vi (i : Int)]) (S' := []) (h' := ((SHv st dr rd), (ovl a s b))) (fun _ => rfl) (fun b86 => ?_) (fun b86 => ?_)
    · obtain rfl : i = 8 := by omega
      exact K a hf (fun j hj => by
        rw [hv j hj]
        by_cases g : a0 (u + 3) j = 8 + o
        · rw [if_pos ⟨hj, g⟩, if_pos g]
        · rw [if_neg (fun g2 => g g2.2), if_neg g])
    · refine Ev.steps (k := 1) (pc' := 90) (L' := [Vr ((u : Int) + 1), Vi p, Vi o, Vi w, Vi (r : Int), Vi (i : Int)]) (S' := [Vr ((u : Int) + 1)]) (h' := ((SHv st dr rd), (ovl a s b))) (fun _ => rfl) ?_
      refine Ev.getr (r := ((u : Int) + 3)) rfl rfl (by omega) (shU_1 hu) rfl rfl rfl ?_
      refine Ev.steps (k := 2) (pc' := 96) (L' := [Vr ((u : Int) + 1), Vi p, Vi o, Vi w, Vi (r : Int), Vi (i : Int)]) (S' := [Vr ((u : Int) + 1), Vi (i : Int), Vr ((u : Int) + 3)]) (h' := ((SHv st dr rd), (ovl a s b))) (fun _ => rfl) ?_
      refine Ev.getr (r := ((u : Int) + 3)) rfl rfl (by omega) (shU_1 hu) rfl rfl rfl ?_
      refine Ev.steps (k := 1) (pc' := 101) (L' := [Vr ((u : Int) + 1), Vi p, Vi o, Vi w, Vi (r : Int), Vi (i : Int)]) (S' := [Vi (i : Int), Vr ((u : Int) + 3), Vi (i : Int), Vr ((u : Int) + 3)]) (h' := ((SHv st dr rd), (ovl a s b))) (fun _ => rfl) ?_
      refine Ev.iald (v := (a (u + 3) i)) rfl (by omega) (shU_3 hu) (by omega) (by omega) (ovl_rc (by omega)) ?_
      refine Ev.steps (k := 3) (pc' := 106) (L' := [Vr ((u : Int) + 1), Vi p, Vi o, Vi w, Vi (r : Int), Vi (i : Int)]) (S' := [Vi (w32 (8 + o)), Vi (a (u + 3) i), Vi (i : Int), Vr ((u : Int) + 3)]) (h' := ((SHv st dr rd), (ovl a s b))) (fun _ => rfl) ?_
      rw [show (w32 (8 + o)) = (8 + o) from w32_id (by unfold R32; omega)]
      refine Ev.ite (P := (a (u + 3) i) ≠ (8 + o)) (k := 1) (a := 114) (b := 109) (L' := [Vr ((u : Int) + 1), Vi p, Vi o, Vi w, Vi (r : Int), Vi (i : Int)]) (S' := [Vi (i : Int), Vr ((u : Int) + 3)]) (h' := ((SHv st dr rd), (ovl a s b))) (fun _ => rfl) (fun b106 => ?_) (fun b106 => ?_)
      · refine Ev.steps (k := 1) (pc' := 115) (L' := [Vr ((u : Int) + 1), Vi p, Vi o, Vi w, Vi (r : Int), Vi (i : Int)]) (S' := [Vr ((u : Int) + 1), Vi (i : Int), Vr ((u : Int) + 3)]) (h' := ((SHv st dr rd), (ovl a s b))) (fun _ => rfl) ?_
        refine Ev.getr (r := ((u : Int) + 3)) rfl rfl (by omega) (shU_1 hu) rfl rfl rfl ?_
        refine Ev.steps (k := 1) (pc' := 120) (L' := [Vr ((u : Int) + 1), Vi p, Vi o, Vi w, Vi (r : Int), Vi (i : Int)]) (S' := [Vi (i : Int), Vr ((u : Int) + 3), Vi (i : Int), Vr ((u : Int) + 3)]) (h' := ((SHv st dr rd), (ovl a s b))) (fun _ => rfl) ?_
        refine Ev.iald (v := (a (u + 3) i)) rfl (by omega) (shU_3 hu) (by omega) (by omega) (ovl_rc (by omega)) ?_
        refine Ev.iast (c' := (ovl (updC a (u + 3) i (a (u + 3) i)) s b)) rfl (by omega) (shU_3 hu) (by omega) (by omega) (ovl_wc (by omega)) ?_
        refine Ev.steps (k := 1) (pc' := 125) (L' := [Vr ((u : Int) + 1), Vi p, Vi o, Vi w, Vi (r : Int), Vi (w32 ((i : Int) + 1))]) (S' := []) (h' := ((SHv st dr rd), (ovl (updC a (u + 3) i (a (u + 3) i)) s b))) (fun _ => rfl) ?_
        rw [show (w32 ((i : Int) + 1)) = ((i : Int) + 1) from w32_id (by unfold R32; omega)]
        refine Ev.steps (k := 1) (pc' := 82) (L' := [Vr ((u : Int) + 1), Vi p, Vi o, Vi w, Vi (r : Int), Vi ((i : Int) + 1)]) (S' := []) (h' := ((SHv st dr rd), (ovl (updC a (u + 3) i (a (u + 3) i)) s b))) (fun _ => rfl) ?_
        refine ih _ (by omega) (a := (updC a (u + 3) i (a (u + 3) i))) (i + 1) (by omega) (hf.up (by omega)) (fun j hj => ?_) rfl
        have hvi := hv i (by omega)
        have hvj := hv j hj
        rw [if_neg (by omega)] at hvi
        rw [updC_if]
        by_cases g : j = i
        · subst g
          rw [if_pos rfl]
          first
            | rw [if_pos ⟨by omega, by omega⟩]
            | (rw [if_neg (by omega)]; exact hvi)
        · rw [if_neg g, hvj]
          by_cases g2 : j < i ∧ a0 (u + 3) j = 8 + o
          · rw [if_pos g2, if_pos ⟨by omega, g2.2⟩]
          · rw [if_neg g2, if_neg (fun g3 => g2 ⟨by omega, g3.2⟩)]
      · refine Ev.steps (k := 2) (pc' := 121) (L' := [Vr ((u : Int) + 1), Vi p, Vi o, Vi w, Vi (r : Int), Vi (i : Int)]) (S' := [Vi (r : Int), Vi (i : Int), Vr ((u : Int) + 3)]) (h' := ((SHv st dr rd), (ovl a s b))) (fun _ => rfl) ?_
        refine Ev.iast (c' := (ovl (updC a (u + 3) i (r : Int)) s b)) rfl (by omega) (shU_3 hu) (by omega) (by omega) (ovl_wc (by omega)) ?_
        refine Ev.steps (k := 1) (pc' := 125) (L' := [Vr ((u : Int) + 1), Vi p, Vi o, Vi w, Vi (r : Int), Vi (w32 ((i : Int) + 1))]) (S' := []) (h' := ((SHv st dr rd), (ovl (updC a (u + 3) i (r : Int)) s b))) (fun _ => rfl) ?_
        rw [show (w32 ((i : Int) + 1)) = ((i : Int) + 1) from w32_id (by unfold R32; omega)]
        refine Ev.steps (k := 1) (pc' := 82) (L' := [Vr ((u : Int) + 1), Vi p, Vi o, Vi w, Vi (r : Int), Vi ((i : Int) + 1)]) (S' := []) (h' := ((SHv st dr rd), (ovl (updC a (u + 3) i (r : Int)) s b))) (fun _ => rfl) ?_
        refine ih _ (by omega) (a := (updC a (u + 3) i (r : Int))) (i + 1) (by omega) (hf.up (by omega)) (fun j hj => ?_) rfl
        have hvi := hv i (by omega)
        have hvj := hv j hj
        rw [if_neg (by omega)] at hvi
        rw [updC_if]
        by_cases g : j = i
        · subst g
          rw [if_pos rfl]
          first
            | rw [if_pos ⟨by omega, by omega⟩]
            | (rw [if_neg (by omega)]; exact hvi)
        · rw [if_neg g, hvj]
          by_cases g2 : j < i ∧ a0 (u + 3) j = 8 + o
          · rw [if_pos g2, if_pos ⟨by omega, g2.2⟩]
          · rw [if_neg g2, if_neg (fun g3 => g2 ⟨by omega, g3.2⟩)]
theorem c_kills {X : List Int} {d : Nat} {st dr rd : Int} {a s b : C3} {u : Nat} (hu : huS u) {S : STY} {c : SC} (hC : RsC S c a u) (hWY : WfY S) (hWC : WfC S c) (p o w r rl : Nat) (hp : p < nW S) (ho : o < nW S) (hpo : p ≠ o) (hw : w < nT S) (hl : c 1 p ≠ 0) (hr0 : c 0 p = (r : Int)) (hr : r < 8) : Ev X d 97 0 [Vr ((u : Int) + 1), Vi (p : Int), Vi (o : Int), Vi (w : Int), Vx, Vx] [] (SHv st dr rd, ovl a s b) (fun rr hh => (KilS (nW S) c p o w ∧ rr = some (Vi 1) ∧ ∃ a' : C3, hh = (SHv st dr rd, ovl a' s b) ∧ RsC S (leavS (deedS (dropS (nT S) (updC c 1 o 0) o) p o w rl) 3 (w : Int) p) a' u ∧ FrO (u + 1) (u + 7) a a') ∨ (¬ KilS (nW S) c p o w ∧ rr = some (Vi 0) ∧ hh = (SHv st dr rd, ovl a s b))) := by
  have hu0 : u = 119 ∨ u = 142 := hu
  obtain ⟨q0, q1, q2, q3, q4, q5, q6, q7, q8, q9, q10⟩ := id hC
  obtain ⟨k0, k1, k2, k3, k4, k5, k7, k9⟩ := id hWC
  have hW8 := hWY.2.2.1.1
  have hR8 := hWY.1.1
  have hT8 := hWY.2.2.2.1.1
  have hg0 := (q0 p hp).trans hr0
  have hl0 := livB_lt (c := c) (r := r) hW8
  have ha0 := alvB_lt (c := c) hW8
  have hu8 := unwB_lt (c := c)
  have hp2 : 2 ^ p ≤ 2 ^ 7 := Nat.pow_le_pow_right (by omega) (by omega)
  have ho2 : 2 ^ o ≤ 2 ^ 7 := Nat.pow_le_pow_right (by omega) (by omega)
  have hr2 : 2 ^ r ≤ 2 ^ 7 := Nat.pow_le_pow_right (by omega) (by omega)
  have hor : 2 ^ p ||| 2 ^ o < 2 ^ 8 := Nat.or_lt_two_pow (by omega) (by omega)
  have hlo := lone hp ho hpo hl hr0
  have hth := q2 w hw
  have hw2 := k2 w hw
  have hwc : a (u + 3) w = 8 + (p : Int) ↔ c 2 w = 100 + (p : Int) := by
    rw [hth]
    unfold plc
    split <;> omega
  refine Ev.steps (k := 1) (pc' := 1) (L' := [Vr ((u : Int) + 1), Vi (p : Int), Vi (o : Int), Vi (w : Int), Vx, Vx]) (S' := [Vr ((u : Int) + 1)]) (h' := ((SHv st dr rd), (ovl a s b))) (fun _ => rfl) ?_
  refine Ev.getr (r := ((u : Int) + 2)) rfl rfl (by omega) (shU_1 hu) rfl rfl rfl ?_
  refine Ev.steps (k := 1) (pc' := 5) (L' := [Vr ((u : Int) + 1), Vi (p : Int), Vi (o : Int), Vi (w : Int), Vx, Vx]) (S' := [Vi (p : Int), Vr ((u : Int) + 2)]) (h' := ((SHv st dr rd), (ovl a s b))) (fun _ => rfl) ?_
  refine Ev.iald (v := (r : Int)) rfl (by omega) (shU_2 hu) (by omega) (by omega) ((ovl_rc (by omega)).trans (hg0)) ?_
  refine Ev.ite (P := (w : Int) < 0) (k := 3) (a := 48) (b := 12) (L' := [Vr ((u : Int) + 1), Vi (p : Int), Vi (o : Int), Vi (w : Int), Vi (r : Int), Vx]) (S' := []) (h' := ((SHv st dr rd), (ovl a s b))) (fun _ => rfl) (fun b9 => ?_) (fun b9 => ?_)
  · exfalso; omega
  · refine Ev.ite (P := 8 ≤ (w : Int)) (k := 3) (a := 48) (b := 18) (L' := [Vr ((u : Int) + 1), Vi (p : Int), Vi (o : Int), Vi (w : Int), Vi (r : Int), Vx]) (S' := []) (h' := ((SHv st dr rd), (ovl a s b))) (fun _ => rfl) (fun b15 => ?_) (fun b15 => ?_)
    · exfalso; omega
    · refine Ev.steps (k := 1) (pc' := 19) (L' := [Vr ((u : Int) + 1), Vi (p : Int), Vi (o : Int), Vi (w : Int), Vi (r : Int), Vx]) (S' := [Vr ((u : Int) + 1)]) (h' := ((SHv st dr rd), (ovl a s b))) (fun _ => rfl) ?_
      refine Ev.getr (r := ((u : Int) + 3)) rfl rfl (by omega) (shU_1 hu) rfl rfl rfl ?_
      refine Ev.steps (k := 1) (pc' := 23) (L' := [Vr ((u : Int) + 1), Vi (p : Int), Vi (o : Int), Vi (w : Int), Vi (r : Int), Vx]) (S' := [Vi (w : Int), Vr ((u : Int) + 3)]) (h' := ((SHv st dr rd), (ovl a s b))) (fun _ => rfl) ?_
      refine Ev.iald (v := (a (u + 3) w)) rfl (by omega) (shU_3 hu) (by omega) (by omega) (ovl_rc (by omega)) ?_
      refine Ev.steps (k := 3) (pc' := 28) (L' := [Vr ((u : Int) + 1), Vi (p : Int), Vi (o : Int), Vi (w : Int), Vi (r : Int), Vx]) (S' := [Vi (w32 (8 + (p : Int))), Vi (a (u + 3) w)]) (h' := ((SHv st dr rd), (ovl a s b))) (fun _ => rfl) ?_
      rw [show (w32 (8 + (p : Int))) = (8 + (p : Int)) from w32_id (by unfold R32; omega)]
      refine Ev.ite (P := (a (u + 3) w) ≠ (8 + (p : Int))) (k := 1) (a := 48) (b := 31) (L' := [Vr ((u : Int) + 1), Vi (p : Int), Vi (o : Int), Vi (w : Int), Vi (r : Int), Vx]) (S' := []) (h' := ((SHv st dr rd), (ovl a s b))) (fun _ => rfl) (fun b28 => ?_) (fun b28 => ?_)
      · refine Ev.fin (k := 2) (r := (some (Vi 0))) (h' := ((SHv st dr rd), (ovl a s b))) (fun _ => rfl) ?_
        refine Or.inr ⟨fun hK => ?_, rfl, rfl⟩
        first
          | (have := hwc.mpr hK.2.2.2; omega)
          | (have := hlo.mpr ⟨hK.1, hK.2.1, hK.2.2.1⟩; omega)
      · refine Ev.steps (k := 1) (pc' := 32) (L' := [Vr ((u : Int) + 1), Vi (p : Int), Vi (o : Int), Vi (w : Int), Vi (r : Int), Vx]) (S' := [Vr ((u : Int) + 1)]) (h' := ((SHv st dr rd), (ovl a s b))) (fun _ => rfl) ?_
        refine Ev.getr (r := ((u : Int) + 5)) rfl rfl (by omega) (shU_1 hu) rfl rfl rfl ?_
        refine Ev.steps (k := 1) (pc' := 37) (L' := [Vr ((u : Int) + 1), Vi (p : Int), Vi (o : Int), Vi (w : Int), Vi (r : Int), Vx]) (S' := [Vi (r : Int), Vr ((u : Int) + 5)]) (h' := ((SHv st dr rd), (ovl a s b))) (fun _ => rfl) ?_
        refine Ev.iald (v := ((livB (nW S) c r : Nat) : Int)) rfl (by omega) (shU_5 hu) (by omega) (by omega) ((ovl_rc (by omega)).trans (q6 r hr)) ?_
        refine Ev.steps (k := 7) (pc' := 45) (L' := [Vr ((u : Int) + 1), Vi (p : Int), Vi (o : Int), Vi (w : Int), Vi (r : Int), Vx]) (S' := [Vi (i_or (i_shl 1 (p : Int)) (i_shl 1 (o : Int))), Vi ((livB (nW S) c r : Nat) : Int)]) (h' := ((SHv st dr rd), (ovl a s b))) (fun _ => rfl) ?_
        rw [show (i_or (i_shl 1 (p : Int)) (i_shl 1 (o : Int))) = ((2 ^ p ||| 2 ^ o : Nat) : Int) from (by rw [i_shl1 (by omega), i_shl1 (by omega), i_or_nat (by omega) (by omega)])]
        refine Ev.ite (P := ((livB (nW S) c r : Nat) : Int) = ((2 ^ p ||| 2 ^ o : Nat) : Int)) (k := 1) (a := 50) (b := 48) (L' := [Vr ((u : Int) + 1), Vi (p : Int), Vi (o : Int), Vi (w : Int), Vi (r : Int), Vx]) (S' := []) (h' := ((SHv st dr rd), (ovl a s b))) (fun _ => rfl) (fun b45 => ?_) (fun b45 => ?_)
        · refine Ev.steps (k := 2) (pc' := 52) (L' := [Vr ((u : Int) + 1), Vi (p : Int), Vi (o : Int), Vi (w : Int), Vi (r : Int), Vx]) (S' := [Vr ((u : Int) + 1), Vr ((u : Int) + 1)]) (h' := ((SHv st dr rd), (ovl a s b))) (fun _ => rfl) ?_
          refine Ev.getf (v := ((alvB (nW S) c : Nat) : Int)) rfl rfl (by omega) (shU_1 hu) rfl rfl ((ovl_rc (by omega)).trans (q9)) ?_
          refine Ev.steps (k := 6) (pc' := 61) (L' := [Vr ((u : Int) + 1), Vi (p : Int), Vi (o : Int), Vi (w : Int), Vi (r : Int), Vx]) (S' := [Vi (i_and ((alvB (nW S) c : Nat) : Int) (i_xor (i_shl 1 (o : Int)) (-1))), Vr ((u : Int) + 1)]) (h' := ((SHv st dr rd), (ovl a s b))) (fun _ => rfl) ?_
          rw [show (i_and ((alvB (nW S) c : Nat) : Int) (i_xor (i_shl 1 (o : Int)) (-1))) = ((alvB (nW S) c &&& (alvB (nW S) c ^^^ 2 ^ o) : Nat) : Int) from (by rw [i_shl1 (by omega), i_andn_nat (by omega) (by omega)])]
          refine Ev.putf (c' := (ovl (updC a (u + 1) 7 ((alvB (nW S) c &&& (alvB (nW S) c ^^^ 2 ^ o) : Nat) : Int)) s b)) rfl (by omega) (shU_1 hu) rfl rfl (ovl_wc (by omega)) ?_
          refine Ev.steps (k := 1) (pc' := 65) (L' := [Vr ((u : Int) + 1), Vi (p : Int), Vi (o : Int), Vi (w : Int), Vi (r : Int), Vx]) (S' := [Vr ((u : Int) + 1)]) (h' := ((SHv st dr rd), (ovl (updC a (u + 1) 7 ((alvB (nW S) c &&& (alvB (nW S) c ^^^ 2 ^ o) : Nat) : Int)) s b))) (fun _ => rfl) ?_
          refine Ev.getr (r := ((u : Int) + 5)) rfl rfl (by omega) (shU_1 hu) rfl rfl rfl ?_
          refine Ev.steps (k := 2) (pc' := 71) (L' := [Vr ((u : Int) + 1), Vi (p : Int), Vi (o : Int), Vi (w : Int), Vi (r : Int), Vx]) (S' := [Vi (r : Int), Vr ((u : Int) + 5), Vi (r : Int), Vr ((u : Int) + 5)]) (h' := ((SHv st dr rd), (ovl (updC a (u + 1) 7 ((alvB (nW S) c &&& (alvB (nW S) c ^^^ 2 ^ o) : Nat) : Int)) s b))) (fun _ => rfl) ?_
          refine Ev.iald (v := ((livB (nW S) c r : Nat) : Int)) rfl (by omega) (shU_5 hu) (by omega) (by omega) (((ovl_rc (by omega)).trans (by show (updC a (u + 1) 7 ((alvB (nW S) c &&& (alvB (nW S) c ^^^ 2 ^ o) : Nat) : Int)) (u + 5) r = _; rw [updC_nt (by omega)])).trans (q6 r hr)) ?_
          refine Ev.steps (k := 6) (pc' := 78) (L' := [Vr ((u : Int) + 1), Vi (p : Int), Vi (o : Int), Vi (w : Int), Vi (r : Int), Vx]) (S' := [Vi (i_and ((livB (nW S) c r : Nat) : Int) (i_xor (i_shl 1 (o : Int)) (-1))), Vi (r : Int), Vr ((u : Int) + 5)]) (h' := ((SHv st dr rd), (ovl (updC a (u + 1) 7 ((alvB (nW S) c &&& (alvB (nW S) c ^^^ 2 ^ o) : Nat) : Int)) s b))) (fun _ => rfl) ?_
          rw [show (i_and ((livB (nW S) c r : Nat) : Int) (i_xor (i_shl 1 (o : Int)) (-1))) = ((livB (nW S) c r &&& (livB (nW S) c r ^^^ 2 ^ o) : Nat) : Int) from (by rw [i_shl1 (by omega), i_andn_nat (by omega) (by omega)])]
          refine Ev.iast (c' := (ovl (updC (updC a (u + 1) 7 ((alvB (nW S) c &&& (alvB (nW S) c ^^^ 2 ^ o) : Nat) : Int)) (u + 5) r ((livB (nW S) c r &&& (livB (nW S) c r ^^^ 2 ^ o) : Nat) : Int)) s b)) rfl (by omega) (shU_5 hu) (by omega) (by omega) (ovl_wc (by omega)) ?_
          refine Ev.steps (k := 2) (pc' := 82) (L' := [Vr ((u : Int) + 1), Vi (p : Int), Vi (o : Int), Vi (w : Int), Vi (r : Int), Vi 0]) (S' := []) (h' := ((SHv st dr rd), (ovl (updC (updC a (u + 1) 7 ((alvB (nW S) c &&& (alvB (nW S) c ^^^ 2 ^ o) : Nat) : Int)) (u + 5) r ((livB (nW S) c r &&& (livB (nW S) c r ^^^ 2 ^ o) : Nat) : Int)) s b))) (fun _ => rfl) ?_
          have hK : KilS (nW S) c p o w := by
            have h1 := hlo.mp (by omega)
            exact ⟨h1.1, h1.2.1, h1.2.2, hwc.mp (by omega)⟩
          have hro : c 0 o = (r : Int) := by rw [hK.2.1, hr0]
          refine c_kills_l hu (p : Int) (o : Int) (w : Int) r o rfl (by omega) (a0 := (updC (updC a (u + 1) 7 ((alvB (nW S) c &&& (alvB (nW S) c ^^^ 2 ^ o) : Nat) : Int)) (u + 5) r ((livB (nW S) c r &&& (livB (nW S) c r ^^^ 2 ^ o) : Nat) : Int))) (fun a2 hf2 hv2 => ?_) 0 (by omega) FrO.rf (fun j hj => by rw [if_neg (by omega)])
          have hv3 : ∀ j, j < 8 → a2 (u + 3) j = if a (u + 3) j = 8 + (o : Int) then (r : Int) else a (u + 3) j := fun j hj => by
            rw [hv2 j hj, updC_row (by omega), updC_row (by omega)]
          have h8 : a2 (u + 1) 8 = ((unwB c : Nat) : Int) := by
            rw [hf2 (u + 1) (by omega), updC_row (by omega), updC_nt (by omega)]
            exact q10
          have hub := unwB_leav (c := deedS (dropS (nT S) (updC c 1 o 0) o) p o w rl) (k := 3) (w := (w : Int)) (p := p) (r := r) (by show 0 ≤ dropS (nT S) (updC c 1 o 0) o 7 0; rw [dropS_r (by omega)]; exact k7.1) (by show dropS (nT S) (updC c 1 o 0) o 0 p = _; rw [dropS_r (by omega)]; exact hr0) hr
          have hub2 : unwB (deedS (dropS (nT S) (updC c 1 o 0) o) p o w rl) = unwB c := by
            unfold unwB
            show bts (fun r => decide (∃ i, i < (dropS (nT S) (updC c 1 o 0) o 7 0).toNat ∧ dropS (nT S) (updC c 1 o 0) o 6 (6 * i + 4) = (r : Int) ∧ dropS (nT S) (updC c 1 o 0) o 6 (6 * i + 5) = -1)) 8 = _
            rw [dropS_r (t := 6) (by omega), dropS_r (t := 7) (by omega)]
            rfl
          rw [hub2] at hub
          refine Ev.steps (k := 2) (pc' := 130) (L' := [Vr ((u : Int) + 1), Vi (p : Int), Vi (o : Int), Vi (w : Int), Vi (r : Int), Vi 8]) (S' := [Vr ((u : Int) + 1), Vr ((u : Int) + 1)]) (h' := ((SHv st dr rd), (ovl a2 s b))) (fun _ => rfl) ?_
          refine Ev.getf (v := ((unwB c : Nat) : Int)) rfl rfl (by omega) (shU_1 hu) rfl rfl ((ovl_rc (by omega)).trans (h8)) ?_
          refine Ev.steps (k := 4) (pc' := 138) (L' := [Vr ((u : Int) + 1), Vi (p : Int), Vi (o : Int), Vi (w : Int), Vi (r : Int), Vi 8]) (S' := [Vi (i_or ((unwB c : Nat) : Int) (i_shl 1 (r : Int))), Vr ((u : Int) + 1)]) (h' := ((SHv st dr rd), (ovl a2 s b))) (fun _ => rfl) ?_
          rw [show (i_or ((unwB c : Nat) : Int) (i_shl 1 (r : Int))) = ((unwB c ||| 2 ^ r : Nat) : Int) from (by rw [i_shl1 (by omega), i_or_nat (by omega) (by omega)])]
          refine Ev.putf (c' := (ovl (updC a2 (u + 1) 8 ((unwB c ||| 2 ^ r : Nat) : Int)) s b)) rfl (by omega) (shU_1 hu) rfl rfl (ovl_wc (by omega)) ?_
          refine Ev.fin (k := 2) (r := (some (Vi 1))) (h' := ((SHv st dr rd), (ovl (updC a2 (u + 1) 8 ((unwB c ||| 2 ^ r : Nat) : Int)) s b))) (fun _ => rfl) ?_
          refine Or.inl ⟨hK, rfl, _, rfl, hC.kil hT8 hW8 ho hro hr (fun t ht => by have := k2 t ht; omega) (fun t ht => ?_) hub hf2 hv3, ?_⟩
          · rw [leavS_n (by omega) (by omega)]
            unfold deedS
            rw [updC_row (by omega), updC_row (by omega), updC_row (by omega), updC_row (by omega), updC_row (by omega), updC_row (by omega), updC_row (by omega)]
          · exact (FrO.tr ((FrO.rf.up (by omega)).up (by omega)) (hf2.wd (by omega) (by omega))).up (by omega)
        · refine Ev.fin (k := 2) (r := (some (Vi 0))) (h' := ((SHv st dr rd), (ovl a s b))) (fun _ => rfl) ?_
          refine Or.inr ⟨fun hK => ?_, rfl, rfl⟩
          first
            | (have := hwc.mpr hK.2.2.2; omega)
            | (have := hlo.mpr ⟨hK.1, hK.2.1, hK.2.2.1⟩; omega)
theorem andn_none {x r : Nat} (h : ¬ x.testBit r = true) : x &&& (x ^^^ 2 ^ r) = x := by
  apply nat_bits
  intro k
  rw [Nat.testBit_and, Nat.testBit_xor, Nat.testBit_two_pow, Bool.and_eq_true]
  by_cases hk : r = k
  · subst hk
    exact ⟨fun g => g.1, fun g => absurd g h⟩
  · rw [decide_eq_false hk, Bool.xor_false]
    exact ⟨fun g => g.1, fun g => ⟨g, g⟩⟩
theorem c_does {X : List Int} {d : Nat} {st dr rd : Int} {a s b : C3} {u : Nat} (hu : huS u) {y : Nat} (hy : hyS y) {S : STY} {c : SC} (hC : RsC S c a u) (hWY : WfY S) (hWC : WfC S c) (r : Nat) (hr : r < nL S) (hRu : RuC S a y r) (hWay : ∀ r o, r < nR S → o < nR S → a (y + 5) (8 * r + o) = stpW S r o) (hl : c 1 (S.1 12 r).toNat ≠ 0) (hk4 : S.1 11 r ≠ 4) : Ev X (d + 1) 92 0 [Vr ((u : Int) + 1), Vr ((y + 14 + r : Nat) : Int), Vr (y : Int), Vx, Vx] [] (SHv st dr rd, ovl a s b) (fun rr hh => (∃ c', doesS S c r = some c' ∧ rr = some (Vi 1) ∧ ∃ a' : C3, hh = (SHv st dr rd, ovl a' s b) ∧ RsC S c' a' u ∧ FrO (u + 1) (u + 7) a a') ∨ (doesS S c r = none ∧ rr = some (Vi 0) ∧ ∃ a' : C3, hh = (SHv st dr rd, ovl a' s b) ∧ RsC S c a' u ∧ FrO (u + 1) (u + 7) a a')) := by
  have hu0 : u = 119 ∨ u = 142 := hu
  have hy0 : y = 2 ∨ y = 58 := hy
  obtain ⟨q0, q1, q2, q3, q4, q5, q6, q7, q8, q9, q10⟩ := id hC
  obtain ⟨k0, k1, k2, k3, k4, k5, k7, k9⟩ := id hWC
  have hW8 := hWY.2.2.1.1
  have hR8 := hWY.1.1
  have hT8 := hWY.2.2.2.1.1
  obtain ⟨v1, v2, v3, v4, -⟩ := hRu
  have hL30 := hWY.2.2.2.2.1.1
  obtain ⟨w1, w2, w3, w4, w5, -⟩ := hWY.2.2.2.2.2.2.2.2.2.2.2 r hr
  obtain ⟨p, hp⟩ : ∃ p : Nat, S.1 12 r = p := ⟨(S.1 12 r).toNat, by omega⟩
  have hpW : p < nW S := by omega
  rw [hp] at v2
  rw [hp, Int.toNat_natCast] at hl
  have hds := doesS_at (c := c) hp
  have hk0 := k0 p hpW
  obtain ⟨r0, hr0⟩ : ∃ r0 : Nat, c 0 p = (r0 : Int) := ⟨(c 0 p).toNat, by omega⟩
  have hg0 := (q0 p hpW).trans hr0
  have ht0 : (c 0 p).toNat = r0 := by omega
  refine Ev.steps (k := 1) (pc' := 1) (L' := [Vr ((u : Int) + 1), Vr ((y + 14 + r : Nat) : Int), Vr (y : Int), Vx, Vx]) (S' := [Vr ((y + 14 + r : Nat) : Int)]) (h' := ((SHv st dr rd), (ovl a s b))) (fun _ => rfl) ?_
  refine Ev.getf (v := (p : Int)) rfl rfl (by omega) (shRu hy (by omega)) rfl rfl ((ovl_rc (by omega)).trans (v2)) ?_
  refine Ev.ite (P := (p : Int) < 0) (k := 3) (a := 15) (b := 9) (L' := [Vr ((u : Int) + 1), Vr ((y + 14 + r : Nat) : Int), Vr (y : Int), Vi (p : Int), Vx]) (S' := []) (h' := ((SHv st dr rd), (ovl a s b))) (fun _ => rfl) (fun b6 => ?_) (fun b6 => ?_)
  · exfalso; omega
  · refine Ev.ite (P := (p : Int) < 8) (k := 3) (a := 17) (b := 15) (L' := [Vr ((u : Int) + 1), Vr ((y + 14 + r : Nat) : Int), Vr (y : Int), Vi (p : Int), Vx]) (S' := []) (h' := ((SHv st dr rd), (ovl a s b))) (fun _ => rfl) (fun b12 => ?_) (fun b12 => ?_)
    · refine Ev.steps (k := 1) (pc' := 18) (L' := [Vr ((u : Int) + 1), Vr ((y + 14 + r : Nat) : Int), Vr (y : Int), Vi (p : Int), Vx]) (S' := [Vr ((u : Int) + 1)]) (h' := ((SHv st dr rd), (ovl a s b))) (fun _ => rfl) ?_
      refine Ev.getr (r := ((u : Int) + 2)) rfl rfl (by omega) (shU_1 hu) rfl rfl rfl ?_
      refine Ev.steps (k := 1) (pc' := 22) (L' := [Vr ((u : Int) + 1), Vr ((y + 14 + r : Nat) : Int), Vr (y : Int), Vi (p : Int), Vx]) (S' := [Vi (p : Int), Vr ((u : Int) + 2)]) (h' := ((SHv st dr rd), (ovl a s b))) (fun _ => rfl) ?_
      refine Ev.iald (v := (r0 : Int)) rfl (by omega) (shU_2 hu) (by omega) (by omega) ((ovl_rc (by omega)).trans (hg0)) ?_
      refine Ev.steps (k := 2) (pc' := 26) (L' := [Vr ((u : Int) + 1), Vr ((y + 14 + r : Nat) : Int), Vr (y : Int), Vi (p : Int), Vi (r0 : Int)]) (S' := [Vr ((y + 14 + r : Nat) : Int)]) (h' := ((SHv st dr rd), (ovl a s b))) (fun _ => rfl) ?_
      refine Ev.getf (v := (S.1 11 r + 262)) rfl rfl (by omega) (shRu hy (by omega)) rfl rfl ((ovl_rc (by omega)).trans (v1)) ?_
      rcases (show (S.1 11 r + 262) = 262 ∨ (S.1 11 r + 262) = 263 ∨ (S.1 11 r + 262) = 264 ∨ (S.1 11 r + 262) = 265 ∨ ((S.1 11 r + 262) ≠ 262 ∧ (S.1 11 r + 262) ≠ 263 ∧ (S.1 11 r + 262) ≠ 264 ∧ (S.1 11 r + 262) ≠ 265) by omega) with b29 | b29 | b29 | b29 | b29
      · rw [b29]
        refine Ev.steps (k := 1) (pc' := 60) (L' := [Vr ((u : Int) + 1), Vr ((y + 14 + r : Nat) : Int), Vr (y : Int), Vi (p : Int), Vi (r0 : Int)]) (S' := []) (h' := ((SHv st dr rd), (ovl a s b))) (fun _ => rfl) ?_
        have h0 : S.1 11 r = 0 := by omega
        obtain ⟨o, ho⟩ : ∃ o : Nat, S.1 13 r = o := ⟨(S.1 13 r).toNat, by have := w3 h0; omega⟩
        have hoR : o < nR S := by have := w3 h0; omega
        have v3 : a (y + 14 + r) 2 = (o : Int) := (v3 (by omega)).trans ho
        have hwy : a (y + 5) (8 * r0 + o) = stpW S r0 o := hWay r0 o (by omega) hoR
        rw [ho, Int.toNat_natCast, if_pos h0, ht0] at hds
        have hst := stpW_b (S := S) (fr := r0) (to := o)
        refine Ev.steps (k := 5) (pc' := 66) (L' := [Vr ((u : Int) + 1), Vr ((y + 14 + r : Nat) : Int), Vr (y : Int), Vi (p : Int), Vi (r0 : Int)]) (S' := [Vr ((y + 14 + r : Nat) : Int), Vi (r0 : Int), Vr (y : Int), Vi (p : Int), Vr ((u : Int) + 1)]) (h' := ((SHv st dr rd), (ovl a s b))) (fun _ => rfl) ?_
        refine Ev.getf (v := (o : Int)) rfl rfl (by omega) (shRu hy (by omega)) rfl rfl ((ovl_rc (by omega)).trans (v3)) ?_
        refine Ev.call (k := 0) (pc1 := 69) (L1 := [Vr ((u : Int) + 1), Vr ((y + 14 + r : Nat) : Int), Vr (y : Int), Vi (p : Int), Vi (r0 : Int)]) (S1 := [Vi (o : Int), Vi (r0 : Int), Vr (y : Int), Vi (p : Int), Vr ((u : Int) + 1)]) (h1 := ((SHv st dr rd), (ovl a s b))) (m' := 93) (as := [Vr (y : Int), Vi (r0 : Int), Vi (o : Int)]) (S' := [Vi (p : Int), Vr ((u : Int) + 1)]) (L0 := [Vr (y : Int), Vi (r0 : Int), Vi (o : Int)]) (fun _ => rfl) rfl rfl rfl rfl (stpC_of rfl (pm_recv_of (by omega) (shY_0 hy))) rfl (c_wayOn hy r0 o (by omega) (by omega)) (fun r h' hq => ?_)
        obtain ⟨rfl, rfl⟩ := hq
        rw [hwy]
        show Ev X _ _ 72 [Vr ((u : Int) + 1), Vr ((y + 14 + r : Nat) : Int), Vr (y : Int), Vi (p : Int), Vi (r0 : Int)] [Vi (stpW S r0 o), Vi (p : Int), Vr ((u : Int) + 1)] ((SHv st dr rd), (ovl a s b)) _
        rcases hst with hst | hst
        · rw [hst] at hds ⊢
          rw [if_pos rfl] at hds
          refine Ev.call (k := 0) (pc1 := 72) (L1 := [Vr ((u : Int) + 1), Vr ((y + 14 + r : Nat) : Int), Vr (y : Int), Vi (p : Int), Vi (r0 : Int)]) (S1 := [Vi (-1), Vi (p : Int), Vr ((u : Int) + 1)]) (h1 := ((SHv st dr rd), (ovl a s b))) (m' := 94) (as := [Vr ((u : Int) + 1), Vi (p : Int), Vi (-1)]) (S' := []) (L0 := [Vr ((u : Int) + 1), Vi (p : Int), Vi (-1)]) (fun _ => rfl) rfl rfl rfl rfl (stpC_of rfl (pm_recv_of (by omega) (shU_1 hu))) rfl (c_goes_n hu p) (fun r h' hq => ?_)
          obtain ⟨rfl, rfl⟩ := hq
          show Ev X _ _ 75 [Vr ((u : Int) + 1), Vr ((y + 14 + r : Nat) : Int), Vr (y : Int), Vi (p : Int), Vi (r0 : Int)] [Vi 0] ((SHv st dr rd), (ovl a s b)) _
          refine Ev.fin (k := 1) (r := (some (Vi 0))) (h' := ((SHv st dr rd), (ovl a s b))) (fun _ => rfl) ?_
          exact Or.inr ⟨hds, rfl, _, rfl, hC, FrO.rf⟩
        · obtain ⟨r1, hr1⟩ : ∃ r1 : Nat, stpW S r0 o = (r1 : Int) := ⟨(stpW S r0 o).toNat, by omega⟩
          rw [hr1] at hds ⊢
          rw [if_neg (by omega)] at hds
          refine Ev.call (k := 0) (pc1 := 72) (L1 := [Vr ((u : Int) + 1), Vr ((y + 14 + r : Nat) : Int), Vr (y : Int), Vi (p : Int), Vi (r0 : Int)]) (S1 := [Vi (r1 : Int), Vi (p : Int), Vr ((u : Int) + 1)]) (h1 := ((SHv st dr rd), (ovl a s b))) (m' := 94) (as := [Vr ((u : Int) + 1), Vi (p : Int), Vi (r1 : Int)]) (S' := []) (L0 := [Vr ((u : Int) + 1), Vi (p : Int), Vi (r1 : Int)]) (fun _ => rfl) rfl rfl rfl rfl (stpC_of rfl (pm_recv_of (by omega) (shU_1 hu))) rfl (c_goes hu hC hWY hWC p r1 hpW hl (by omega)) (fun r h' hq => ?_)
          obtain ⟨rfl, a1, rfl, g1, g2⟩ := hq
          show Ev X _ _ 75 [Vr ((u : Int) + 1), Vr ((y + 14 + r : Nat) : Int), Vr (y : Int), Vi (p : Int), Vi (r0 : Int)] [Vi 1] ((SHv st dr rd), (ovl a1 s b)) _
          refine Ev.fin (k := 1) (r := (some (Vi 1))) (h' := ((SHv st dr rd), (ovl a1 s b))) (fun _ => rfl) ?_
          exact Or.inl ⟨_, hds, rfl, _, rfl, g1, g2⟩
      · rw [b29]
        refine Ev.steps (k := 1) (pc' := 76) (L' := [Vr ((u : Int) + 1), Vr ((y + 14 + r : Nat) : Int), Vr (y : Int), Vi (p : Int), Vi (r0 : Int)]) (S' := []) (h' := ((SHv st dr rd), (ovl a s b))) (fun _ => rfl) ?_
        have h0 : S.1 11 r = 1 := by omega
        obtain ⟨o, ho⟩ : ∃ o : Nat, S.1 13 r = o := ⟨(S.1 13 r).toNat, by have := w4 (Or.inl h0); omega⟩
        have hoT : o < nT S := by have := w4 (Or.inl h0); omega
        have v3 : a (y + 14 + r) 2 = (o : Int) := (v3 (by omega)).trans ho
        rw [ho, Int.toNat_natCast, if_neg (by omega), if_pos h0] at hds
        have hpl : a (u + 3) o = (r0 : Int) ↔ c 2 o = (r0 : Int) := by
          have := k2 o hoT
          rw [q2 o hoT]
          unfold plc
          split <;> omega
        refine Ev.steps (k := 2) (pc' := 78) (L' := [Vr ((u : Int) + 1), Vr ((y + 14 + r : Nat) : Int), Vr (y : Int), Vi (p : Int), Vi (r0 : Int)]) (S' := [Vr ((y + 14 + r : Nat) : Int), Vr ((u : Int) + 1)]) (h' := ((SHv st dr rd), (ovl a s b))) (fun _ => rfl) ?_
        refine Ev.getf (v := (o : Int)) rfl rfl (by omega) (shRu hy (by omega)) rfl rfl ((ovl_rc (by omega)).trans (v3)) ?_
        refine Ev.steps (k := 4) (pc' := 87) (L' := [Vr ((u : Int) + 1), Vr ((y + 14 + r : Nat) : Int), Vr (y : Int), Vi (p : Int), Vi (r0 : Int)]) (S' := [Vi (w32 (8 + (p : Int))), Vi (r0 : Int), Vi (o : Int), Vr ((u : Int) + 1)]) (h' := ((SHv st dr rd), (ovl a s b))) (fun _ => rfl) ?_
        rw [show (w32 (8 + (p : Int))) = (8 + (p : Int)) from w32_id (by unfold R32; omega)]
        refine Ev.call (k := 1) (pc1 := 89) (L1 := [Vr ((u : Int) + 1), Vr ((y + 14 + r : Nat) : Int), Vr (y : Int), Vi (p : Int), Vi (r0 : Int)]) (S1 := [Vi (r0 : Int), Vi (8 + (p : Int)), Vi (r0 : Int), Vi (o : Int), Vr ((u : Int) + 1)]) (h1 := ((SHv st dr rd), (ovl a s b))) (m' := 95) (as := [Vr ((u : Int) + 1), Vi (o : Int), Vi (r0 : Int), Vi (8 + (p : Int)), Vi (r0 : Int)]) (S' := []) (L0 := [Vr ((u : Int) + 1), Vi (o : Int), Vi (r0 : Int), Vi (8 + (p : Int)), Vi (r0 : Int)]) (fun _ => rfl) rfl rfl rfl rfl (stpC_of rfl (pm_recv_of (by omega) (shU_1 hu))) rfl (c_moves hu o r0 (unwB c) (r0 : Int) (8 + (p : Int)) (by omega) (by omega) unwB_lt q10) (fun r h' hq => ?_)
        rcases hq with ⟨g1, rfl, rfl⟩ | ⟨g1, rfl, rfl⟩
        · show Ev X _ _ 92 [Vr ((u : Int) + 1), Vr ((y + 14 + r : Nat) : Int), Vr (y : Int), Vi (p : Int), Vi (r0 : Int)] [Vi 1] (SHv st dr rd, ovl (updC (updC a (u + 3) o (8 + (p : Int))) (u + 1) 8 ((unwB c ||| 2 ^ r0 : Nat) : Int)) s b) _
          rw [if_pos (by have := hpl.mp g1; omega)] at hds
          refine Ev.fin (k := 1) (r := (some (Vi 1))) (h' := ((SHv st dr rd), (ovl (updC (updC a (u + 3) o (8 + (p : Int))) (u + 1) 8 ((unwB c ||| 2 ^ r0 : Nat) : Int)) s b))) (fun _ => rfl) ?_
          refine Or.inl ⟨_, hds, rfl, _, rfl, RsC.trc (c := (updC c 2 o (100 + (p : Int)))) (hC.thg hoT (by unfold plc; split <;> omega) (by omega)) (fun t ht => leavS_n (by omega) (by omega)) (unwB_leav (show 0 ≤ c 7 0 from k7.1) hr0 (by omega)), (FrO.rf.up (by omega)).up (by omega)⟩
        show Ev X _ _ 92 [Vr ((u : Int) + 1), Vr ((y + 14 + r : Nat) : Int), Vr (y : Int), Vi (p : Int), Vi (r0 : Int)] [Vi 0] ((SHv st dr rd), (ovl a s b)) _
        refine Ev.fin (k := 1) (r := (some (Vi 0))) (h' := ((SHv st dr rd), (ovl a s b))) (fun _ => rfl) ?_
        rw [if_neg (by first | exact fun h => g1 (hpl.mpr h) | (intro h; have := mt hpl.mpr g1; omega))] at hds
        exact Or.inr ⟨hds, rfl, _, rfl, hC, FrO.rf⟩
      · rw [b29]
        refine Ev.steps (k := 1) (pc' := 93) (L' := [Vr ((u : Int) + 1), Vr ((y + 14 + r : Nat) : Int), Vr (y : Int), Vi (p : Int), Vi (r0 : Int)]) (S' := []) (h' := ((SHv st dr rd), (ovl a s b))) (fun _ => rfl) ?_
        have h0 : S.1 11 r = 2 := by omega
        obtain ⟨o, ho⟩ : ∃ o : Nat, S.1 13 r = o := ⟨(S.1 13 r).toNat, by have := w4 (Or.inr h0); omega⟩
        have hoT : o < nT S := by have := w4 (Or.inr h0); omega
        have v3 : a (y + 14 + r) 2 = (o : Int) := (v3 (by omega)).trans ho
        rw [ho, Int.toNat_natCast, if_neg (by omega), if_neg (by omega), if_pos h0] at hds
        have hpl : a (u + 3) o = 8 + (p : Int) ↔ c 2 o = 100 + (p : Int) := by
          have := k2 o hoT
          rw [q2 o hoT]
          unfold plc
          split <;> omega
        refine Ev.steps (k := 2) (pc' := 95) (L' := [Vr ((u : Int) + 1), Vr ((y + 14 + r : Nat) : Int), Vr (y : Int), Vi (p : Int), Vi (r0 : Int)]) (S' := [Vr ((y + 14 + r : Nat) : Int), Vr ((u : Int) + 1)]) (h' := ((SHv st dr rd), (ovl a s b))) (fun _ => rfl) ?_
        refine Ev.getf (v := (o : Int)) rfl rfl (by omega) (shRu hy (by omega)) rfl rfl ((ovl_rc (by omega)).trans (v3)) ?_
        refine Ev.steps (k := 3) (pc' := 102) (L' := [Vr ((u : Int) + 1), Vr ((y + 14 + r : Nat) : Int), Vr (y : Int), Vi (p : Int), Vi (r0 : Int)]) (S' := [Vi (w32 (8 + (p : Int))), Vi (o : Int), Vr ((u : Int) + 1)]) (h' := ((SHv st dr rd), (ovl a s b))) (fun _ => rfl) ?_
        rw [show (w32 (8 + (p : Int))) = (8 + (p : Int)) from w32_id (by unfold R32; omega)]
        refine Ev.call (k := 2) (pc1 := 106) (L1 := [Vr ((u : Int) + 1), Vr ((y + 14 + r : Nat) : Int), Vr (y : Int), Vi (p : Int), Vi (r0 : Int)]) (S1 := [Vi (r0 : Int), Vi (r0 : Int), Vi (8 + (p : Int)), Vi (o : Int), Vr ((u : Int) + 1)]) (h1 := ((SHv st dr rd), (ovl a s b))) (m' := 95) (as := [Vr ((u : Int) + 1), Vi (o : Int), Vi (8 + (p : Int)), Vi (r0 : Int), Vi (r0 : Int)]) (S' := []) (L0 := [Vr ((u : Int) + 1), Vi (o : Int), Vi (8 + (p : Int)), Vi (r0 : Int), Vi (r0 : Int)]) (fun _ => rfl) rfl rfl rfl rfl (stpC_of rfl (pm_recv_of (by omega) (shU_1 hu))) rfl (c_moves hu o r0 (unwB c) (8 + (p : Int)) (r0 : Int) (by omega) (by omega) unwB_lt q10) (fun r h' hq => ?_)
        rcases hq with ⟨g1, rfl, rfl⟩ | ⟨g1, rfl, rfl⟩
        · show Ev X _ _ 109 [Vr ((u : Int) + 1), Vr ((y + 14 + r : Nat) : Int), Vr (y : Int), Vi (p : Int), Vi (r0 : Int)] [Vi 1] (SHv st dr rd, ovl (updC (updC a (u + 3) o (r0 : Int)) (u + 1) 8 ((unwB c ||| 2 ^ r0 : Nat) : Int)) s b) _
          rw [if_pos (by exact hpl.mp g1)] at hds
          refine Ev.fin (k := 1) (r := (some (Vi 1))) (h' := ((SHv st dr rd), (ovl (updC (updC a (u + 3) o (r0 : Int)) (u + 1) 8 ((unwB c ||| 2 ^ r0 : Nat) : Int)) s b))) (fun _ => rfl) ?_
          refine Or.inl ⟨_, hds, rfl, _, rfl, RsC.trc (c := (updC c 2 o (c 0 p))) (hC.thg hoT (by rw [hr0]; unfold plc; rw [if_pos (by omega)]) (by omega)) (fun t ht => leavS_n (by omega) (by omega)) (unwB_leav (show 0 ≤ c 7 0 from k7.1) hr0 (by omega)), (FrO.rf.up (by omega)).up (by omega)⟩
        show Ev X _ _ 109 [Vr ((u : Int) + 1), Vr ((y + 14 + r : Nat) : Int), Vr (y : Int), Vi (p : Int), Vi (r0 : Int)] [Vi 0] ((SHv st dr rd), (ovl a s b)) _
        refine Ev.fin (k := 1) (r := (some (Vi 0))) (h' := ((SHv st dr rd), (ovl a s b))) (fun _ => rfl) ?_
        rw [if_neg (by first | exact fun h => g1 (hpl.mpr h) | (intro h; have := mt hpl.mpr g1; omega))] at hds
        exact Or.inr ⟨hds, rfl, _, rfl, hC, FrO.rf⟩
      · rw [b29]
        refine Ev.steps (k := 1) (pc' := 110) (L' := [Vr ((u : Int) + 1), Vr ((y + 14 + r : Nat) : Int), Vr (y : Int), Vi (p : Int), Vi (r0 : Int)]) (S' := []) (h' := ((SHv st dr rd), (ovl a s b))) (fun _ => rfl) ?_
        have h0 : S.1 11 r = 3 := by omega
        rw [if_neg (by omega), if_neg (by omega), if_neg (by omega), if_pos h0] at hds
        have hwp : (unwB c).testBit r0 = true ↔ ∃ i, i < (c 7 0).toNat ∧ WipS c p i := by
          rw [unwB_tb]
          constructor
          · rintro ⟨-, i, g1, g2, g3⟩
            exact ⟨i, g1, g2.trans hr0.symm, g3⟩
          · rintro ⟨i, g1, g2, g3⟩
            exact ⟨by omega, i, g1, g2.trans hr0, g3⟩
        refine Ev.call (k := 2) (pc1 := 113) (L1 := [Vr ((u : Int) + 1), Vr ((y + 14 + r : Nat) : Int), Vr (y : Int), Vi (p : Int), Vi (r0 : Int)]) (S1 := [Vi (r0 : Int), Vr ((u : Int) + 1)]) (h1 := ((SHv st dr rd), (ovl a s b))) (m' := 96) (as := [Vr ((u : Int) + 1), Vi (r0 : Int)]) (S' := []) (L0 := [Vr ((u : Int) + 1), Vi (r0 : Int), Vx]) (fun _ => rfl) rfl rfl rfl rfl (stpC_of rfl (pm_recv_of (by omega) (shU_1 hu))) rfl (c_wipes0 hu r0 (unwB c) (by omega) unwB_lt q10) (fun r h' hq => ?_)
        obtain ⟨rfl, rfl⟩ := hq
        by_cases c113 : (unwB c).testBit r0 = true
        · rw [if_pos c113]
          show Ev X _ _ 116 [Vr ((u : Int) + 1), Vr ((y + 14 + r : Nat) : Int), Vr (y : Int), Vi (p : Int), Vi (r0 : Int)] [Vi 1] ((SHv st dr rd), (ovl (updC a (u + 1) 8 ((unwB c &&& (unwB c ^^^ 2 ^ r0) : Nat) : Int)) s b)) _
          refine Ev.fin (k := 1) (r := (some (Vi 1))) (h' := ((SHv st dr rd), (ovl (updC a (u + 1) 8 ((unwB c &&& (unwB c ^^^ 2 ^ r0) : Nat) : Int)) s b))) (fun _ => rfl) ?_
          first
            | (rw [if_pos (hwp.mp c113)] at hds
               exact Or.inl ⟨_, hds, rfl, _, rfl, hC.trc (fun t ht => wipS_n (by omega)) (unwB_wip hr0 k5.1), FrO.rf.up (by omega)⟩)
            | (rw [if_neg (fun h => c113 (hwp.mpr h))] at hds
               exact Or.inr ⟨hds, rfl, _, rfl, hC.trc (fun t ht => rfl) (andn_none c113).symm, FrO.rf.up (by omega)⟩)
        · rw [if_neg c113]
          show Ev X _ _ 116 [Vr ((u : Int) + 1), Vr ((y + 14 + r : Nat) : Int), Vr (y : Int), Vi (p : Int), Vi (r0 : Int)] [Vi 0] ((SHv st dr rd), (ovl (updC a (u + 1) 8 ((unwB c &&& (unwB c ^^^ 2 ^ r0) : Nat) : Int)) s b)) _
          refine Ev.fin (k := 1) (r := (some (Vi 0))) (h' := ((SHv st dr rd), (ovl (updC a (u + 1) 8 ((unwB c &&& (unwB c ^^^ 2 ^ r0) : Nat) : Int)) s b))) (fun _ => rfl) ?_
          first
            | (rw [if_pos (hwp.mp c113)] at hds
               exact Or.inl ⟨_, hds, rfl, _, rfl, hC.trc (fun t ht => wipS_n (by omega)) (unwB_wip hr0 k5.1), FrO.rf.up (by omega)⟩)
            | (rw [if_neg (fun h => c113 (hwp.mpr h))] at hds
               exact Or.inr ⟨hds, rfl, _, rfl, hC.trc (fun t ht => rfl) (andn_none c113).symm, FrO.rf.up (by omega)⟩)
      · refine Ev.tswd (dflt := 88) rfl (by omega) (by decide) ?_
        show Ev X _ _ 117 [Vr ((u : Int) + 1), Vr ((y + 14 + r : Nat) : Int), Vr (y : Int), Vi (p : Int), Vi (r0 : Int)] [] ((SHv st dr rd), (ovl a s b)) _
        have h0 : S.1 11 r = 5 := by omega
        have w5 := w5 h0
        obtain ⟨q, hq0⟩ : ∃ q : Nat, S.1 13 r = q := ⟨(S.1 13 r).toNat, by omega⟩
        obtain ⟨o, ho⟩ : ∃ o : Nat, S.1 14 r = o := ⟨(S.1 14 r).toNat, by omega⟩
        have v5 : a (y + 14 + r) 3 = (q : Int) := (v4 h0).1.trans hq0
        have v3 : a (y + 14 + r) 2 = (o : Int) := (v4 h0).2.trans ho
        rw [hq0, Int.toNat_natCast, ho, Int.toNat_natCast, if_neg (by omega), if_neg (by omega), if_neg (by omega), if_neg (by omega)] at hds
        refine Ev.steps (k := 3) (pc' := 120) (L' := [Vr ((u : Int) + 1), Vr ((y + 14 + r : Nat) : Int), Vr (y : Int), Vi (p : Int), Vi (r0 : Int)]) (S' := [Vr ((y + 14 + r : Nat) : Int), Vi (p : Int), Vr ((u : Int) + 1)]) (h' := ((SHv st dr rd), (ovl a s b))) (fun _ => rfl) ?_
        refine Ev.getf (v := (q : Int)) rfl rfl (by omega) (shRu hy (by omega)) rfl rfl ((ovl_rc (by omega)).trans (v5)) ?_
        refine Ev.steps (k := 1) (pc' := 124) (L' := [Vr ((u : Int) + 1), Vr ((y + 14 + r : Nat) : Int), Vr (y : Int), Vi (p : Int), Vi (r0 : Int)]) (S' := [Vr ((y + 14 + r : Nat) : Int), Vi (q : Int), Vi (p : Int), Vr ((u : Int) + 1)]) (h' := ((SHv st dr rd), (ovl a s b))) (fun _ => rfl) ?_
        refine Ev.getf (v := (o : Int)) rfl rfl (by omega) (shRu hy (by omega)) rfl rfl ((ovl_rc (by omega)).trans (v3)) ?_
        refine Ev.call (k := 0) (pc1 := 127) (L1 := [Vr ((u : Int) + 1), Vr ((y + 14 + r : Nat) : Int), Vr (y : Int), Vi (p : Int), Vi (r0 : Int)]) (S1 := [Vi (o : Int), Vi (q : Int), Vi (p : Int), Vr ((u : Int) + 1)]) (h1 := ((SHv st dr rd), (ovl a s b))) (m' := 97) (as := [Vr ((u : Int) + 1), Vi (p : Int), Vi (q : Int), Vi (o : Int)]) (S' := []) (L0 := [Vr ((u : Int) + 1), Vi (p : Int), Vi (q : Int), Vi (o : Int), Vx, Vx]) (fun _ => rfl) rfl rfl rfl rfl (stpC_of rfl (pm_recv_of (by omega) (shU_1 hu))) rfl (c_kills hu hC hWY hWC p q o r0 r hpW (by omega) (by omega) (by omega) hl hr0 (by omega)) (fun r h' hq => ?_)
        rcases hq with ⟨g1, rfl, a1, rfl, g2, g3⟩ | ⟨g1, rfl, rfl⟩
        · show Ev X _ _ 130 [Vr ((u : Int) + 1), Vr ((y + 14 + r : Nat) : Int), Vr (y : Int), Vi (p : Int), Vi (r0 : Int)] [Vi 1] (SHv st dr rd, ovl a1 s b) _
          rw [if_pos g1] at hds
          refine Ev.fin (k := 1) (r := (some (Vi 1))) (h' := ((SHv st dr rd), (ovl a1 s b))) (fun _ => rfl) ?_
          refine Or.inl ⟨_, hds, rfl, _, rfl, ?_, g3⟩
          exact g2
        show Ev X _ _ 130 [Vr ((u : Int) + 1), Vr ((y + 14 + r : Nat) : Int), Vr (y : Int), Vi (p : Int), Vi (r0 : Int)] [Vi 0] ((SHv st dr rd), (ovl a s b)) _
        refine Ev.fin (k := 1) (r := (some (Vi 0))) (h' := ((SHv st dr rd), (ovl a s b))) (fun _ => rfl) ?_
        rw [if_neg (by exact fun h => g1 h)] at hds
        exact Or.inr ⟨hds, rfl, _, rfl, hC, FrO.rf⟩
    · exfalso; omega
