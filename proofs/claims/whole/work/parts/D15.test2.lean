/-! THE CLASS READS: tests, behind the simple ones -/
theorem c_sim {X : List Int} {st dr : Int} {s b : C3} {W : TXT} {N : SC} {z : Nat} (hz : hyS z) {K : Nat} (d : Nat) (a0 : C3) (p0 c0 : Nat) (hd : 4 ≤ d) (X0 : XoC W N z p0 c0 K a0) (hc0 : c0 ≤ p0) (h1 : 272 ≤ tC W p0) (h2 : tC W p0 ≤ 278) : Ev X d 55 0 [Vr 114, Vx, Vx, Vx] [] (SHv st dr (z : Int), ovl a0 s b) (PoX st dr s b W N z p0 c0 K a0 1 (simT W N p0)) := by
  rcases (show tC W p0 = 272 ∨ tC W p0 = 273 ∨ tC W p0 = 274 ∨ tC W p0 = 275 ∨ tC W p0 = 276 ∨ tC W p0 = 277 ∨ tC W p0 = 278 by omega) with h | h | h | h | h | h | h
  · exact c_sim_272 hz d a0 p0 c0 hd X0 hc0 h
  · exact c_sim_273 hz d a0 p0 c0 hd X0 hc0 h
  · exact c_sim_274 hz d a0 p0 c0 hd X0 hc0 h
  · exact c_sim_275 hz d a0 p0 c0 hd X0 hc0 h
  · exact c_sim_276 hz d a0 p0 c0 hd X0 hc0 h
  · exact c_sim_277 hz d a0 p0 c0 hd X0 hc0 h
  · exact c_sim_278 hz d a0 p0 c0 hd X0 hc0 h
def notL (t : Nat) (l : List (Nat × Nat)) : List (Nat × Nat) := if t = 1 then l ++ [(27, 0)] else l
theorem notL_0 {A : Nat → Int} {D k k' t : Nat} {l : List (Nat × Nat)} (ht : t ≠ 1) (h : CoC A D k l k') : CoC A D k (notL t l) k' := by
  unfold notL
  rw [if_neg ht]
  exact h
theorem notL_1 {A : Nat → Int} {D k k' t : Nat} {l : List (Nat × Nat)} (ht : t = 1) (h : CoC A D k (l ++ [(27, 0)]) k') : CoC A D k (notL t l) k' := by
  unfold notL
  rw [if_pos ht]
  exact h
theorem notL_s {A : Nat → Int} {D k k' t u : Nat} {l : List (Nat × Nat)} (ht : t + u = 1) (h : CoC A D k (notL u l) k') : CoC A D k (notL t (l ++ [(27, 0)])) k' := by
  rcases (show t = 0 ∧ u = 1 ∨ t = 1 ∧ u = 0 by omega) with ⟨rfl, rfl⟩ | ⟨rfl, rfl⟩
  · exact h
  · exact CoC.dbl (l := l) h
abbrev PoN (st dr : Int) (s b : C3) (W : TXT) (N : SC) (z p c K : Nat) (a : SC) (D t : Nat) (x : Except PF (List (Nat × Nat) × Nat)) : Option pm_V → pm_H → Prop := fun rr hh => rr = none ∧ ∃ a' : C3, hh = (SHv st dr (z : Int), ovl a' s b) ∧ ResC x (fun r => ∃ c' : Nat, XoC W N z r.2 c' K a' ∧ Gz z c a a' ∧ CoC (a' (z + 11)) D c (notL t r.1) c' ∧ c' + p ≤ c + r.2 + t) (fun e => BdZ W z a e a')
theorem c_fact_brl {X : List Int} {d : Nat} {st dr : Int} {s b : C3} {W : TXT} {z : Nat} (hz : hyS z) {e : PF} {a00 a0 : C3} (t i : Int) (B0 : BdZ W z a00 e a0) : Ev X (d + 6) 54 4 [Vr 114, Vi t, Vi i] [] (SHv st dr (z : Int), ovl a0 s b) (fun rr hh => rr = none ∧ ∃ a' : C3, hh = (SHv st dr (z : Int), ovl a' s b) ∧ BdZ W z a00 e a') := by
  refine Ev.ite (P := 1200 ≤ i) (k := 3) (a := 41) (b := 11) (L' := [Vr 114, Vi t, Vi i]) (S' := []) (h' := ((SHv st dr (z : Int)), (ovl a0 s b))) (fun _ => rfl) (fun b8 => ?_) (fun b8 => ?_)
  · refine Ev.steps (k := 2) (pc' := 45) (L' := [Vr 114, Vi t, Vi i]) (S' := [Vi (a0 114 5)]) (h' := ((SHv st dr (z : Int)), (ovl a0 s b))) (fun _ => rfl) ?_
    rw [B0.2.2.1.2.2.2]
    refine Ev.steps (k := 4) (pc' := 55) (L' := [Vr 114, Vi t, Vi i]) (S' := [Vi (a0 114 5)]) (h' := ((SHv st dr (z : Int)), (ovl a0 s b))) (fun _ => rfl) ?_
    rw [B0.2.2.1.2.2.2]
    refine Ev.steps (k := 4) (pc' := 72) (L' := [Vr 114, Vi t, Vi i]) (S' := [Vi (a0 114 5)]) (h' := ((SHv st dr (z : Int)), (ovl a0 s b))) (fun _ => rfl) ?_
    rw [B0.2.2.1.2.2.2]
    refine Ev.call (k := 3) (pc1 := 110) (L1 := [Vr 114, Vi t, Vi i]) (S1 := [Vr 114]) (h1 := ((SHv st dr (z : Int)), (ovl a0 s b))) (m' := 46) (as := [Vr 114]) (S' := []) (L0 := [Vr 114, Vx, Vx]) (fun _ => rfl) rfl rfl rfl rfl rfl rfl (c_sum_br B0.2.2.1) (fun r h' hq => ?_)
    obtain ⟨rfl, rfl⟩ := hq
    show Ev X _ _ 113 [Vr 114, Vi t, Vi i] [] ((SHv st dr (z : Int)), (ovl a0 s b)) _
    refine Ev.steps (k := 2) (pc' := 117) (L' := [Vr 114, Vi t, Vi i]) (S' := [Vi (a0 114 5)]) (h' := ((SHv st dr (z : Int)), (ovl a0 s b))) (fun _ => rfl) ?_
    rw [B0.2.2.1.2.2.2]
    refine Ev.call (k := 14) (pc1 := 142) (L1 := [Vr 114, Vi t, Vi 303]) (S1 := [Vi (a0 114 6), Vi 1, Vr 114]) (h1 := ((SHv st dr (z : Int)), (ovl a0 s b))) (m' := 29) (as := [Vr 114, Vi 1, Vi (a0 114 6)]) (S' := []) (L0 := [Vr 114, Vi 1, Vi (a0 114 6)]) (fun _ => rfl) rfl rfl rfl rfl rfl rfl (c_fail_same B0.2.2.1 1 (a0 114 6)) (fun r h' hq => ?_)
    obtain ⟨rfl, rfl⟩ := hq
    show Ev X _ _ 145 [Vr 114, Vi t, Vi 303] [] ((SHv st dr (z : Int)), (ovl a0 s b)) _
    refine Ev.call (k := 1) (pc1 := 146) (L1 := [Vr 114, Vi t, Vi 303]) (S1 := [Vr 114]) (h1 := ((SHv st dr (z : Int)), (ovl a0 s b))) (m' := 27) (as := [Vr 114]) (S' := []) (L0 := [Vr 114, Vx, Vx, Vx, Vx]) (fun _ => rfl) rfl rfl rfl rfl rfl rfl (c_step_br B0.2.2.1) (fun r h' hq => ?_)
    obtain ⟨rfl, rfl⟩ := hq
    show Ev X _ _ 149 [Vr 114, Vi t, Vi 303] [] ((SHv st dr (z : Int)), (ovl a0 s b)) _
    refine Ev.call (k := 1) (pc1 := 150) (L1 := [Vr 114, Vi t, Vi 303]) (S1 := [Vr 114]) (h1 := ((SHv st dr (z : Int)), (ovl a0 s b))) (m' := 46) (as := [Vr 114]) (S' := []) (L0 := [Vr 114, Vx, Vx]) (fun _ => rfl) rfl rfl rfl rfl rfl rfl (c_sum_br B0.2.2.1) (fun r h' hq => ?_)
    obtain ⟨rfl, rfl⟩ := hq
    show Ev X _ _ 153 [Vr 114, Vi t, Vi 303] [] ((SHv st dr (z : Int)), (ovl a0 s b)) _
    refine Ev.call (k := 4) (pc1 := 159) (L1 := [Vr 114, Vi t, Vi 303]) (S1 := [Vi 0, Vi 303, Vr (z : Int)]) (h1 := ((SHv st dr (z : Int)), (ovl a0 s b))) (m' := 49) (as := [Vr (z : Int), Vi 303, Vi 0]) (S' := []) (L0 := [Vr (z : Int), Vi 303, Vi 0]) (fun _ => rfl) rfl rfl rfl rfl (stpC_of rfl (pm_recv_of (by omega) (shY_0 hz))) rfl (c_emit_br hz (B0).2.2.2 303 0) (fun r h' hq => ?_)
    obtain ⟨v1, a1, rfl, rfl, f1, f2, f3⟩ := hq
    have B1 := (B0).st hz f1 f2 f3
    show Ev X _ _ 162 [Vr 114, Vi t, Vi 303] [Vi v1] ((SHv st dr (z : Int)), (ovl a1 s b)) _
    refine Ev.ite (P := t = 0) (k := 3) (a := 179) (b := 167) (L' := [Vr 114, Vi t, Vi 303]) (S' := []) (h' := ((SHv st dr (z : Int)), (ovl a1 s b))) (fun _ => rfl) (fun b164 => ?_) (fun b164 => ?_)
    · refine Ev.fin (k := 1) (r := none) (h' := ((SHv st dr (z : Int)), (ovl a1 s b))) (fun _ => rfl) ?_
      exact ⟨rfl, _, rfl, B1⟩
    · refine Ev.call (k := 4) (pc1 := 175) (L1 := [Vr 114, Vi t, Vi 303]) (S1 := [Vi 0, Vi 271, Vr (z : Int)]) (h1 := ((SHv st dr (z : Int)), (ovl a1 s b))) (m' := 49) (as := [Vr (z : Int), Vi 271, Vi 0]) (S' := []) (L0 := [Vr (z : Int), Vi 271, Vi 0]) (fun _ => rfl) rfl rfl rfl rfl (stpC_of rfl (pm_recv_of (by omega) (shY_0 hz))) rfl (c_emit_br hz (B1).2.2.2 271 0) (fun r h' hq => ?_)
      obtain ⟨v2, a2, rfl, rfl, f1, f2, f3⟩ := hq
      have B2 := (B1).st hz f1 f2 f3
      show Ev X _ _ 178 [Vr 114, Vi t, Vi 303] [Vi v2] ((SHv st dr (z : Int)), (ovl a2 s b)) _
      refine Ev.fin (k := 2) (r := none) (h' := ((SHv st dr (z : Int)), (ovl a2 s b))) (fun _ => rfl) ?_
      exact ⟨rfl, _, rfl, B2⟩
  · refine Ev.steps (k := 2) (pc' := 15) (L' := [Vr 114, Vi t, Vi i]) (S' := [Vi (a0 114 5)]) (h' := ((SHv st dr (z : Int)), (ovl a0 s b))) (fun _ => rfl) ?_
    rw [B0.2.2.1.2.2.2]
    refine Ev.steps (k := 4) (pc' := 45) (L' := [Vr 114, Vi t, Vi i]) (S' := [Vi (a0 114 5)]) (h' := ((SHv st dr (z : Int)), (ovl a0 s b))) (fun _ => rfl) ?_
    rw [B0.2.2.1.2.2.2]
    refine Ev.steps (k := 4) (pc' := 55) (L' := [Vr 114, Vi t, Vi i]) (S' := [Vi (a0 114 5)]) (h' := ((SHv st dr (z : Int)), (ovl a0 s b))) (fun _ => rfl) ?_
    rw [B0.2.2.1.2.2.2]
    refine Ev.steps (k := 4) (pc' := 72) (L' := [Vr 114, Vi t, Vi i]) (S' := [Vi (a0 114 5)]) (h' := ((SHv st dr (z : Int)), (ovl a0 s b))) (fun _ => rfl) ?_
    rw [B0.2.2.1.2.2.2]
    refine Ev.call (k := 3) (pc1 := 110) (L1 := [Vr 114, Vi t, Vi i]) (S1 := [Vr 114]) (h1 := ((SHv st dr (z : Int)), (ovl a0 s b))) (m' := 46) (as := [Vr 114]) (S' := []) (L0 := [Vr 114, Vx, Vx]) (fun _ => rfl) rfl rfl rfl rfl rfl rfl (c_sum_br B0.2.2.1) (fun r h' hq => ?_)
    obtain ⟨rfl, rfl⟩ := hq
    show Ev X _ _ 113 [Vr 114, Vi t, Vi i] [] ((SHv st dr (z : Int)), (ovl a0 s b)) _
    refine Ev.steps (k := 2) (pc' := 117) (L' := [Vr 114, Vi t, Vi i]) (S' := [Vi (a0 114 5)]) (h' := ((SHv st dr (z : Int)), (ovl a0 s b))) (fun _ => rfl) ?_
    rw [B0.2.2.1.2.2.2]
    refine Ev.call (k := 14) (pc1 := 142) (L1 := [Vr 114, Vi t, Vi 303]) (S1 := [Vi (a0 114 6), Vi 1, Vr 114]) (h1 := ((SHv st dr (z : Int)), (ovl a0 s b))) (m' := 29) (as := [Vr 114, Vi 1, Vi (a0 114 6)]) (S' := []) (L0 := [Vr 114, Vi 1, Vi (a0 114 6)]) (fun _ => rfl) rfl rfl rfl rfl rfl rfl (c_fail_same B0.2.2.1 1 (a0 114 6)) (fun r h' hq => ?_)
    obtain ⟨rfl, rfl⟩ := hq
    show Ev X _ _ 145 [Vr 114, Vi t, Vi 303] [] ((SHv st dr (z : Int)), (ovl a0 s b)) _
    refine Ev.call (k := 1) (pc1 := 146) (L1 := [Vr 114, Vi t, Vi 303]) (S1 := [Vr 114]) (h1 := ((SHv st dr (z : Int)), (ovl a0 s b))) (m' := 27) (as := [Vr 114]) (S' := []) (L0 := [Vr 114, Vx, Vx, Vx, Vx]) (fun _ => rfl) rfl rfl rfl rfl rfl rfl (c_step_br B0.2.2.1) (fun r h' hq => ?_)
    obtain ⟨rfl, rfl⟩ := hq
    show Ev X _ _ 149 [Vr 114, Vi t, Vi 303] [] ((SHv st dr (z : Int)), (ovl a0 s b)) _
    refine Ev.call (k := 1) (pc1 := 150) (L1 := [Vr 114, Vi t, Vi 303]) (S1 := [Vr 114]) (h1 := ((SHv st dr (z : Int)), (ovl a0 s b))) (m' := 46) (as := [Vr 114]) (S' := []) (L0 := [Vr 114, Vx, Vx]) (fun _ => rfl) rfl rfl rfl rfl rfl rfl (c_sum_br B0.2.2.1) (fun r h' hq => ?_)
    obtain ⟨rfl, rfl⟩ := hq
    show Ev X _ _ 153 [Vr 114, Vi t, Vi 303] [] ((SHv st dr (z : Int)), (ovl a0 s b)) _
    refine Ev.call (k := 4) (pc1 := 159) (L1 := [Vr 114, Vi t, Vi 303]) (S1 := [Vi 0, Vi 303, Vr (z : Int)]) (h1 := ((SHv st dr (z : Int)), (ovl a0 s b))) (m' := 49) (as := [Vr (z : Int), Vi 303, Vi 0]) (S' := []) (L0 := [Vr (z : Int), Vi 303, Vi 0]) (fun _ => rfl) rfl rfl rfl rfl (stpC_of rfl (pm_recv_of (by omega) (shY_0 hz))) rfl (c_emit_br hz (B0).2.2.2 303 0) (fun r h' hq => ?_)
    obtain ⟨v3, a3, rfl, rfl, f1, f2, f3⟩ := hq
    have B3 := (B0).st hz f1 f2 f3
    show Ev X _ _ 162 [Vr 114, Vi t, Vi 303] [Vi v3] ((SHv st dr (z : Int)), (ovl a3 s b)) _
    refine Ev.ite (P := t = 0) (k := 3) (a := 179) (b := 167) (L' := [Vr 114, Vi t, Vi 303]) (S' := []) (h' := ((SHv st dr (z : Int)), (ovl a3 s b))) (fun _ => rfl) (fun b164 => ?_) (fun b164 => ?_)
    · refine Ev.fin (k := 1) (r := none) (h' := ((SHv st dr (z : Int)), (ovl a3 s b))) (fun _ => rfl) ?_
      exact ⟨rfl, _, rfl, B3⟩
    · refine Ev.call (k := 4) (pc1 := 175) (L1 := [Vr 114, Vi t, Vi 303]) (S1 := [Vi 0, Vi 271, Vr (z : Int)]) (h1 := ((SHv st dr (z : Int)), (ovl a3 s b))) (m' := 49) (as := [Vr (z : Int), Vi 271, Vi 0]) (S' := []) (L0 := [Vr (z : Int), Vi 271, Vi 0]) (fun _ => rfl) rfl rfl rfl rfl (stpC_of rfl (pm_recv_of (by omega) (shY_0 hz))) rfl (c_emit_br hz (B3).2.2.2 271 0) (fun r h' hq => ?_)
      obtain ⟨v4, a4, rfl, rfl, f1, f2, f3⟩ := hq
      have B4 := (B3).st hz f1 f2 f3
      show Ev X _ _ 178 [Vr 114, Vi t, Vi 303] [Vi v4] ((SHv st dr (z : Int)), (ovl a4 s b)) _
      refine Ev.fin (k := 2) (r := none) (h' := ((SHv st dr (z : Int)), (ovl a4 s b))) (fun _ => rfl) ?_
      exact ⟨rfl, _, rfl, B4⟩
theorem c_fact_br {X : List Int} {d : Nat} {st dr : Int} {s b : C3} {W : TXT} {z : Nat} (hz : hyS z) {e : PF} {a00 a0 : C3}  (B0 : BdZ W z a00 e a0) : Ev X (d + 6) 54 0 [Vr 114, Vx, Vx] [] (SHv st dr (z : Int), ovl a0 s b) (fun rr hh => rr = none ∧ ∃ a' : C3, hh = (SHv st dr (z : Int), ovl a' s b) ∧ BdZ W z a00 e a') := by
  refine Ev.steps (k := 4) (pc' := 4) (L' := [Vr 114, Vi 0, Vi 0]) (S' := []) (h' := ((SHv st dr (z : Int)), (ovl a0 s b))) (fun _ => rfl) ?_
  exact c_fact_brl hz 0 0 B0
theorem c_both_brl {X : List Int} {d : Nat} {st dr : Int} {s b : C3} {W : TXT} {z : Nat} (hz : hyS z) {e : PF} {a00 a0 : C3} (i : Int) (x : pm_V) (B0 : BdZ W z a00 e a0) : Ev X (d + 0) 53 6 [Vr 114, Vi i, x] [] (SHv st dr (z : Int), ovl a0 s b) (fun rr hh => rr = none ∧ ∃ a' : C3, hh = (SHv st dr (z : Int), ovl a' s b) ∧ BdZ W z a00 e a') := by
  refine Ev.ite (P := 1200 ≤ i) (k := 3) (a := 57) (b := 13) (L' := [Vr 114, Vi i, x]) (S' := []) (h' := ((SHv st dr (z : Int)), (ovl a0 s b))) (fun _ => rfl) (fun b10 => ?_) (fun b10 => ?_)
  · refine Ev.fin (k := 1) (r := none) (h' := ((SHv st dr (z : Int)), (ovl a0 s b))) (fun _ => rfl) ?_
    exact ⟨rfl, _, rfl, B0⟩
  · refine Ev.steps (k := 2) (pc' := 17) (L' := [Vr 114, Vi i, x]) (S' := [Vi (a0 114 5)]) (h' := ((SHv st dr (z : Int)), (ovl a0 s b))) (fun _ => rfl) ?_
    rw [B0.2.2.1.2.2.2]
    refine Ev.fin (k := 3) (r := none) (h' := ((SHv st dr (z : Int)), (ovl a0 s b))) (fun _ => rfl) ?_
    exact ⟨rfl, _, rfl, B0⟩
theorem c_both_br {X : List Int} {d : Nat} {st dr : Int} {s b : C3} {W : TXT} {z : Nat} (hz : hyS z) {e : PF} {a00 a0 : C3}  (B0 : BdZ W z a00 e a0) : Ev X (d + 7) 53 0 [Vr 114, Vx, Vx] [] (SHv st dr (z : Int), ovl a0 s b) (fun rr hh => rr = none ∧ ∃ a' : C3, hh = (SHv st dr (z : Int), ovl a' s b) ∧ BdZ W z a00 e a') := by
  refine Ev.call (k := 1) (pc1 := 1) (L1 := [Vr 114, Vx, Vx]) (S1 := [Vr 114]) (h1 := ((SHv st dr (z : Int)), (ovl a0 s b))) (m' := 54) (as := [Vr 114]) (S' := []) (L0 := [Vr 114, Vx, Vx]) (fun _ => rfl) rfl rfl rfl rfl rfl rfl (c_fact_br hz B0) (fun r h' hq => ?_)
  obtain ⟨rfl, a5, rfl, B5⟩ := hq
  show Ev X _ _ 4 [Vr 114, Vx, Vx] [] ((SHv st dr (z : Int)), (ovl a5 s b)) _
  refine Ev.steps (k := 2) (pc' := 6) (L' := [Vr 114, Vi 0, Vx]) (S' := []) (h' := ((SHv st dr (z : Int)), (ovl a5 s b))) (fun _ => rfl) ?_
  exact c_both_brl hz 0 Vx B5
theorem c_test_brl {X : List Int} {d : Nat} {st dr : Int} {s b : C3} {W : TXT} {z : Nat} (hz : hyS z) {e : PF} {a00 a0 : C3} (i : Int) (x : pm_V) (B0 : BdZ W z a00 e a0) : Ev X (d + 0) 52 6 [Vr 114, Vi i, x] [] (SHv st dr (z : Int), ovl a0 s b) (fun rr hh => rr = none ∧ ∃ a' : C3, hh = (SHv st dr (z : Int), ovl a' s b) ∧ BdZ W z a00 e a') := by
  refine Ev.ite (P := 1200 ≤ i) (k := 3) (a := 57) (b := 13) (L' := [Vr 114, Vi i, x]) (S' := []) (h' := ((SHv st dr (z : Int)), (ovl a0 s b))) (fun _ => rfl) (fun b10 => ?_) (fun b10 => ?_)
  · refine Ev.fin (k := 1) (r := none) (h' := ((SHv st dr (z : Int)), (ovl a0 s b))) (fun _ => rfl) ?_
    exact ⟨rfl, _, rfl, B0⟩
  · refine Ev.steps (k := 2) (pc' := 17) (L' := [Vr 114, Vi i, x]) (S' := [Vi (a0 114 5)]) (h' := ((SHv st dr (z : Int)), (ovl a0 s b))) (fun _ => rfl) ?_
    rw [B0.2.2.1.2.2.2]
    refine Ev.fin (k := 3) (r := none) (h' := ((SHv st dr (z : Int)), (ovl a0 s b))) (fun _ => rfl) ?_
    exact ⟨rfl, _, rfl, B0⟩
theorem c_test_br {X : List Int} {d : Nat} {st dr : Int} {s b : C3} {W : TXT} {z : Nat} (hz : hyS z) {e : PF} {a00 a0 : C3}  (B0 : BdZ W z a00 e a0) : Ev X (d + 8) 52 0 [Vr 114, Vx, Vx] [] (SHv st dr (z : Int), ovl a0 s b) (fun rr hh => rr = none ∧ ∃ a' : C3, hh = (SHv st dr (z : Int), ovl a' s b) ∧ BdZ W z a00 e a') := by
  refine Ev.call (k := 1) (pc1 := 1) (L1 := [Vr 114, Vx, Vx]) (S1 := [Vr 114]) (h1 := ((SHv st dr (z : Int)), (ovl a0 s b))) (m' := 53) (as := [Vr 114]) (S' := []) (L0 := [Vr 114, Vx, Vx]) (fun _ => rfl) rfl rfl rfl rfl rfl rfl (c_both_br hz B0) (fun r h' hq => ?_)
  obtain ⟨rfl, a6, rfl, B6⟩ := hq
  show Ev X _ _ 4 [Vr 114, Vx, Vx] [] ((SHv st dr (z : Int)), (ovl a6 s b)) _
  refine Ev.steps (k := 2) (pc' := 6) (L' := [Vr 114, Vi 0, Vx]) (S' := []) (h' := ((SHv st dr (z : Int)), (ovl a6 s b))) (fun _ => rfl) ?_
  exact c_test_brl hz 0 Vx B6
theorem c_fbd {X : List Int} {st dr : Int} {s b : C3} {W : TXT} {N : SC} {z : Nat} (hz : hyS z) {K K1 : Nat} {I Sm : PRS} {D D1 Ds h : Nat} (hI : K ≠ 0 → K = K1 + 1 ∧ MOk X st dr s b W N z 52 [Vr 114, Vx, Vx] K1 I D h) (hS : MOk X st dr s b W N z 46 [Vr 114, Vx, Vx] K Sm Ds h) (h1 : 1 ≤ D1) (hD : D ≤ D1) (hDs : Ds + 1 ≤ D1) (d t : Nat) (i : Int) (ht : t ≤ 1) (a0 : C3) (p0 c0 : Nat) (hd : h + 9 ≤ d) (X0 : XoC W N z p0 c0 K a0) (hc0 : c0 + t ≤ p0) : Ev X d 54 41 [Vr 114, Vi (t : Int), Vi i] [] (SHv st dr (z : Int), ovl a0 s b) (PoN st dr s b W N z p0 c0 K a0 D1 t (fbdT W N K I Sm p0)) := by
  have hz1 := z11 hz
  obtain ⟨d, rfl⟩ : ∃ d1, d = d1 + 9 := ⟨d - 9, by omega⟩
  have G0 : Gz z c0 a0 a0 := Gz.rf
  have Q0 := X0.le
  have hl0 : tC W p0 ≠ 302 → p0 < W.2 := fun h => Nat.lt_of_lt_of_le (tok_lt X0.le.1 X0.1.1.1 h X0.1.2.2.2.2.2.2.2.2.1) (tok_rg X0.le.1 X0.1.1.1).2
  refine Ev.steps (k := 2) (pc' := 45) (L' := [Vr 114, Vi (t : Int), Vi i]) (S' := [Vi (a0 114 5)]) (h' := ((SHv st dr (z : Int)), (ovl a0 s b))) (fun _ => rfl) ?_
  rw [X0.t5]
  refine Ev.ite (P := ((tC W p0 : Nat) : Int) < 272) (k := 2) (a := 68) (b := 51) (L' := [Vr 114, Vi (t : Int), Vi i]) (S' := []) (h' := ((SHv st dr (z : Int)), (ovl a0 s b))) (fun _ => rfl) (fun b48 => ?_) (fun b48 => ?_)
  · refine Ev.steps (k := 2) (pc' := 72) (L' := [Vr 114, Vi (t : Int), Vi i]) (S' := [Vi (a0 114 5)]) (h' := ((SHv st dr (z : Int)), (ovl a0 s b))) (fun _ => rfl) ?_
    rw [X0.t5]
    refine Ev.ite (P := ((tC W p0 : Nat) : Int) ≠ 91) (k := 2) (a := 109) (b := 77) (L' := [Vr 114, Vi (t : Int), Vi i]) (S' := []) (h' := ((SHv st dr (z : Int)), (ovl a0 s b))) (fun _ => rfl) (fun b74 => ?_) (fun b74 => ?_)
    · refine Ev.call (k := 1) (pc1 := 110) (L1 := [Vr 114, Vi (t : Int), Vi i]) (S1 := [Vr 114]) (h1 := ((SHv st dr (z : Int)), (ovl a0 s b))) (m' := 46) (as := [Vr 114]) (S' := []) (L0 := [Vr 114, Vx, Vx]) (fun _ => rfl) rfl rfl rfl rfl rfl rfl (hS _ _ _ _ (by omega) X0 (by omega)) (fun r h' hq => ?_)
      obtain ⟨rfl, a7, rfl, hq⟩ := hq
      rcases hq with ⟨⟨l7, p7⟩, hx7, c7, X7, g7, o7, h7⟩ | ⟨e7, hx7, hb7⟩
      · dsimp only at h7 X7 o7
        have L7 := o7.lt
        have G7 := G0.tr g7 (by omega)
        have Q7 := X7.le
        show Ev X _ _ 113 [Vr 114, Vi (t : Int), Vi i] [] ((SHv st dr (z : Int)), (ovl a7 s b)) _
        refine Ev.steps (k := 2) (pc' := 117) (L' := [Vr 114, Vi (t : Int), Vi i]) (S' := [Vi (a7 114 5)]) (h' := ((SHv st dr (z : Int)), (ovl a7 s b))) (fun _ => rfl) ?_
        rw [X7.t5]
        refine Ev.ite (P := ((tC W p7 : Nat) : Int) = 60) (k := 4) (a := 145) (b := 124) (L' := [Vr 114, Vi (t : Int), Vi ((tC W p7 : Nat) : Int)]) (S' := []) (h' := ((SHv st dr (z : Int)), (ovl a7 s b))) (fun _ => rfl) (fun b121 => ?_) (fun b121 => ?_)
        · refine Ev.call (k := 1) (pc1 := 146) (L1 := [Vr 114, Vi (t : Int), Vi ((tC W p7 : Nat) : Int)]) (S1 := [Vr 114]) (h1 := ((SHv st dr (z : Int)), (ovl a7 s b))) (m' := 27) (as := [Vr 114]) (S' := []) (L0 := [Vr 114, Vx, Vx, Vx, Vx]) (fun _ => rfl) rfl rfl rfl rfl rfl rfl (c_next X7.1) (fun r h' hq => ?_)
          obtain ⟨rfl, a8, rfl, hq⟩ := hq
          rcases hq with ⟨p8, hx8, ho8⟩ | ⟨e8, hx8, hb8⟩
          · have X8 := X7.nx ho8
            have L8 : p7 < p8 := X7.lt (by omega) hx8
            have G8 := G7.tr (ho8.1.gz (c := c7) X7.hz) (by omega)
            have R8 : a8 (z + 11) = a7 (z + 11) := ho8.1 _ (by omega)
            have Q8 := X8.le
            show Ev X _ _ 149 [Vr 114, Vi (t : Int), Vi ((tC W p7 : Nat) : Int)] [] ((SHv st dr (z : Int)), (ovl a8 s b)) _
            refine Ev.call (k := 1) (pc1 := 150) (L1 := [Vr 114, Vi (t : Int), Vi ((tC W p7 : Nat) : Int)]) (S1 := [Vr 114]) (h1 := ((SHv st dr (z : Int)), (ovl a8 s b))) (m' := 46) (as := [Vr 114]) (S' := []) (L0 := [Vr 114, Vx, Vx]) (fun _ => rfl) rfl rfl rfl rfl rfl rfl (hS _ _ _ _ (by omega) X8 (by omega)) (fun r h' hq => ?_)
            obtain ⟨rfl, a9, rfl, hq⟩ := hq
            rcases hq with ⟨⟨l9, p9⟩, hx9, c9, X9, g9, o9, h9⟩ | ⟨e9, hx9, hb9⟩
            · dsimp only at h9 X9 o9
              have L9 := o9.lt
              have G9 := G8.tr g9 (by omega)
              have Q9 := X9.le
              show Ev X _ _ 153 [Vr 114, Vi (t : Int), Vi ((tC W p7 : Nat) : Int)] [] ((SHv st dr (z : Int)), (ovl a9 s b)) _
              refine Ev.call (k := 4) (pc1 := 159) (L1 := [Vr 114, Vi (t : Int), Vi ((tC W p7 : Nat) : Int)]) (S1 := [Vi 0, Vi ((tC W p7 : Nat) : Int), Vr (z : Int)]) (h1 := ((SHv st dr (z : Int)), (ovl a9 s b))) (m' := 49) (as := [Vr (z : Int), Vi ((tC W p7 : Nat) : Int), Vi 0]) (S' := []) (L0 := [Vr (z : Int), Vi ((tC W p7 : Nat) : Int), Vi 0]) (fun _ => rfl) rfl rfl rfl rfl (stpC_of rfl (pm_recv_of (by omega) (shY_0 hz))) rfl (c_emitX (a := a9) X9 (by omega) (tC W p7) 0 (by omega) (by omega)) (fun r h' hq => ?_)
              obtain ⟨rfl, hq⟩ := hq
              rcases hq with ⟨a10, rfl, X10, g10, E10⟩
              · have G10 := G9.tr g10 (by omega)
                have Q10 := X10.le
                show Ev X _ _ 162 [Vr 114, Vi (t : Int), Vi ((tC W p7 : Nat) : Int)] [Vi ((c9 : Nat) : Int)] ((SHv st dr (z : Int)), (ovl a10 s b)) _
                refine Ev.ite (P := (t : Int) = 0) (k := 3) (a := 179) (b := 167) (L' := [Vr 114, Vi (t : Int), Vi ((tC W p7 : Nat) : Int)]) (S' := []) (h' := ((SHv st dr (z : Int)), (ovl a10 s b))) (fun _ => rfl) (fun b164 => ?_) (fun b164 => ?_)
                · refine Ev.fin (k := 1) (r := none) (h' := ((SHv st dr (z : Int)), (ovl a10 s b))) (fun _ => rfl) ?_
                  refine ⟨rfl, _, rfl, ?_⟩
                  unfold fbdT cmpT
                  rw [if_neg (by omega), if_neg (by omega), hx7, bnX_o, if_neg (by rw [opC_z]; dsimp only; omega), hx8, bnX_o, hx9, bnX_o]
                  have e1 : ∀ i, i < c9 → a10 (z + 11) i = a9 (z + 11) i := fun i hi => g10.2 i hi
                  have e2 : ∀ i, i < c7 → a10 (z + 11) i = a7 (z + 11) i := fun i hi => (e1 i (by omega)).trans ((g9.2 i (by omega)).trans (by rw [R8]))
                  have hoc := enc_opC (c := tC W p7) (by rw [ne_eq, opC_z]; omega)
                  exact Or.inl ⟨_, rfl, _, X10, G10, notL_0 (by omega) (CoC.bin (D' := Ds) hoc.1 hoc.2.1 ((o7.cg (fun i _ hi => e2 i hi)).mo (by omega)) (o9.cg (fun i _ hi => e1 i hi)) hDs (by rw [E10, hoc.2.2]; rfl)), by dsimp only; omega⟩
                · refine Ev.call (k := 4) (pc1 := 175) (L1 := [Vr 114, Vi (t : Int), Vi ((tC W p7 : Nat) : Int)]) (S1 := [Vi 0, Vi 271, Vr (z : Int)]) (h1 := ((SHv st dr (z : Int)), (ovl a10 s b))) (m' := 49) (as := [Vr (z : Int), Vi 271, Vi 0]) (S' := []) (L0 := [Vr (z : Int), Vi 271, Vi 0]) (fun _ => rfl) rfl rfl rfl rfl (stpC_of rfl (pm_recv_of (by omega) (shY_0 hz))) rfl (c_emitX (a := a10) X10 (by omega) 271 0 (by omega) (by omega)) (fun r h' hq => ?_)
                  obtain ⟨rfl, hq⟩ := hq
                  rcases hq with ⟨a11, rfl, X11, g11, E11⟩
                  · have G11 := G10.tr g11 (by omega)
                    have Q11 := X11.le
                    show Ev X _ _ 178 [Vr 114, Vi (t : Int), Vi ((tC W p7 : Nat) : Int)] [Vi (((c9 + 1) : Nat) : Int)] ((SHv st dr (z : Int)), (ovl a11 s b)) _
                    refine Ev.fin (k := 2) (r := none) (h' := ((SHv st dr (z : Int)), (ovl a11 s b))) (fun _ => rfl) ?_
                    refine ⟨rfl, _, rfl, ?_⟩
                    unfold fbdT cmpT
                    rw [if_neg (by omega), if_neg (by omega), hx7, bnX_o, if_neg (by rw [opC_z]; dsimp only; omega), hx8, bnX_o, hx9, bnX_o]
                    have e1 : ∀ i, i < c9 → a10 (z + 11) i = a9 (z + 11) i := fun i hi => g10.2 i hi
                    have e2 : ∀ i, i < c7 → a10 (z + 11) i = a7 (z + 11) i := fun i hi => (e1 i (by omega)).trans ((g9.2 i (by omega)).trans (by rw [R8]))
                    have hoc := enc_opC (c := tC W p7) (by rw [ne_eq, opC_z]; omega)
                    exact Or.inl ⟨_, rfl, _, X11, G11, notL_1 (by omega) (((CoC.bin (D' := Ds) hoc.1 hoc.2.1 ((o7.cg (fun i _ hi => e2 i hi)).mo (by omega)) (o9.cg (fun i _ hi => e1 i hi)) hDs (by rw [E10, hoc.2.2]; rfl)).cg (fun i _ hi => g11.2 i hi)).not (by rw [E11]; rfl)), by dsimp only; omega⟩
            · have B9 := G8.bz hb9
              show Ev X _ _ 153 [Vr 114, Vi (t : Int), Vi ((tC W p7 : Nat) : Int)] [] ((SHv st dr (z : Int)), (ovl a9 s b)) _
              refine Ev.call (k := 4) (pc1 := 159) (L1 := [Vr 114, Vi (t : Int), Vi ((tC W p7 : Nat) : Int)]) (S1 := [Vi 0, Vi ((tC W p7 : Nat) : Int), Vr (z : Int)]) (h1 := ((SHv st dr (z : Int)), (ovl a9 s b))) (m' := 49) (as := [Vr (z : Int), Vi ((tC W p7 : Nat) : Int), Vi 0]) (S' := []) (L0 := [Vr (z : Int), Vi ((tC W p7 : Nat) : Int), Vi 0]) (fun _ => rfl) rfl rfl rfl rfl (stpC_of rfl (pm_recv_of (by omega) (shY_0 hz))) rfl (c_emit_br hz (B9).2.2.2 ((tC W p7 : Nat) : Int) 0) (fun r h' hq => ?_)
              obtain ⟨v12, a12, rfl, rfl, f1, f2, f3⟩ := hq
              have B12 := (B9).st hz f1 f2 f3
              show Ev X _ _ 162 [Vr 114, Vi (t : Int), Vi ((tC W p7 : Nat) : Int)] [Vi v12] ((SHv st dr (z : Int)), (ovl a12 s b)) _
              refine Ev.ite (P := (t : Int) = 0) (k := 3) (a := 179) (b := 167) (L' := [Vr 114, Vi (t : Int), Vi ((tC W p7 : Nat) : Int)]) (S' := []) (h' := ((SHv st dr (z : Int)), (ovl a12 s b))) (fun _ => rfl) (fun b164 => ?_) (fun b164 => ?_)
              · refine Ev.fin (k := 1) (r := none) (h' := ((SHv st dr (z : Int)), (ovl a12 s b))) (fun _ => rfl) ?_
                refine ⟨rfl, _, rfl, ?_⟩
                unfold fbdT cmpT
                rw [if_neg (by omega), if_neg (by omega), hx7, bnX_o, if_neg (by rw [opC_z]; dsimp only; omega), hx8, bnX_o, hx9, bnX_e]
                exact Or.inr ⟨_, rfl, B12⟩
              · refine Ev.call (k := 4) (pc1 := 175) (L1 := [Vr 114, Vi (t : Int), Vi ((tC W p7 : Nat) : Int)]) (S1 := [Vi 0, Vi 271, Vr (z : Int)]) (h1 := ((SHv st dr (z : Int)), (ovl a12 s b))) (m' := 49) (as := [Vr (z : Int), Vi 271, Vi 0]) (S' := []) (L0 := [Vr (z : Int), Vi 271, Vi 0]) (fun _ => rfl) rfl rfl rfl rfl (stpC_of rfl (pm_recv_of (by omega) (shY_0 hz))) rfl (c_emit_br hz (B12).2.2.2 271 0) (fun r h' hq => ?_)
                obtain ⟨v13, a13, rfl, rfl, f1, f2, f3⟩ := hq
                have B13 := (B12).st hz f1 f2 f3
                show Ev X _ _ 178 [Vr 114, Vi (t : Int), Vi ((tC W p7 : Nat) : Int)] [Vi v13] ((SHv st dr (z : Int)), (ovl a13 s b)) _
                refine Ev.fin (k := 2) (r := none) (h' := ((SHv st dr (z : Int)), (ovl a13 s b))) (fun _ => rfl) ?_
                refine ⟨rfl, _, rfl, ?_⟩
                unfold fbdT cmpT
                rw [if_neg (by omega), if_neg (by omega), hx7, bnX_o, if_neg (by rw [opC_z]; dsimp only; omega), hx8, bnX_o, hx9, bnX_e]
                exact Or.inr ⟨_, rfl, B13⟩
          · have B8 := G7.bd X7 (by omega) hb8
            show Ev X _ _ 149 [Vr 114, Vi (t : Int), Vi ((tC W p7 : Nat) : Int)] [] ((SHv st dr (z : Int)), (ovl a8 s b)) _
            refine Ev.call (k := 1) (pc1 := 150) (L1 := [Vr 114, Vi (t : Int), Vi ((tC W p7 : Nat) : Int)]) (S1 := [Vr 114]) (h1 := ((SHv st dr (z : Int)), (ovl a8 s b))) (m' := 46) (as := [Vr 114]) (S' := []) (L0 := [Vr 114, Vx, Vx]) (fun _ => rfl) rfl rfl rfl rfl rfl rfl (c_sum_br B8.2.2.1) (fun r h' hq => ?_)
            obtain ⟨rfl, rfl⟩ := hq
            show Ev X _ _ 153 [Vr 114, Vi (t : Int), Vi ((tC W p7 : Nat) : Int)] [] ((SHv st dr (z : Int)), (ovl a8 s b)) _
            refine Ev.call (k := 4) (pc1 := 159) (L1 := [Vr 114, Vi (t : Int), Vi ((tC W p7 : Nat) : Int)]) (S1 := [Vi 0, Vi ((tC W p7 : Nat) : Int), Vr (z : Int)]) (h1 := ((SHv st dr (z : Int)), (ovl a8 s b))) (m' := 49) (as := [Vr (z : Int), Vi ((tC W p7 : Nat) : Int), Vi 0]) (S' := []) (L0 := [Vr (z : Int), Vi ((tC W p7 : Nat) : Int), Vi 0]) (fun _ => rfl) rfl rfl rfl rfl (stpC_of rfl (pm_recv_of (by omega) (shY_0 hz))) rfl (c_emit_br hz (B8).2.2.2 ((tC W p7 : Nat) : Int) 0) (fun r h' hq => ?_)
            obtain ⟨v14, a14, rfl, rfl, f1, f2, f3⟩ := hq
            have B14 := (B8).st hz f1 f2 f3
            show Ev X _ _ 162 [Vr 114, Vi (t : Int), Vi ((tC W p7 : Nat) : Int)] [Vi v14] ((SHv st dr (z : Int)), (ovl a14 s b)) _
            refine Ev.ite (P := (t : Int) = 0) (k := 3) (a := 179) (b := 167) (L' := [Vr 114, Vi (t : Int), Vi ((tC W p7 : Nat) : Int)]) (S' := []) (h' := ((SHv st dr (z : Int)), (ovl a14 s b))) (fun _ => rfl) (fun b164 => ?_) (fun b164 => ?_)
            · refine Ev.fin (k := 1) (r := none) (h' := ((SHv st dr (z : Int)), (ovl a14 s b))) (fun _ => rfl) ?_
              refine ⟨rfl, _, rfl, ?_⟩
              unfold fbdT cmpT
              rw [if_neg (by omega), if_neg (by omega), hx7, bnX_o, if_neg (by rw [opC_z]; dsimp only; omega), hx8, bnX_e]
              exact Or.inr ⟨_, rfl, B14⟩
            · refine Ev.call (k := 4) (pc1 := 175) (L1 := [Vr 114, Vi (t : Int), Vi ((tC W p7 : Nat) : Int)]) (S1 := [Vi 0, Vi 271, Vr (z : Int)]) (h1 := ((SHv st dr (z : Int)), (ovl a14 s b))) (m' := 49) (as := [Vr (z : Int), Vi 271, Vi 0]) (S' := []) (L0 := [Vr (z : Int), Vi 271, Vi 0]) (fun _ => rfl) rfl rfl rfl rfl (stpC_of rfl (pm_recv_of (by omega) (shY_0 hz))) rfl (c_emit_br hz (B14).2.2.2 271 0) (fun r h' hq => ?_)
              obtain ⟨v15, a15, rfl, rfl, f1, f2, f3⟩ := hq
              have B15 := (B14).st hz f1 f2 f3
              show Ev X _ _ 178 [Vr 114, Vi (t : Int), Vi ((tC W p7 : Nat) : Int)] [Vi v15] ((SHv st dr (z : Int)), (ovl a15 s b)) _
              refine Ev.fin (k := 2) (r := none) (h' := ((SHv st dr (z : Int)), (ovl a15 s b))) (fun _ => rfl) ?_
              refine ⟨rfl, _, rfl, ?_⟩
              unfold fbdT cmpT
              rw [if_neg (by omega), if_neg (by omega), hx7, bnX_o, if_neg (by rw [opC_z]; dsimp only; omega), hx8, bnX_e]
              exact Or.inr ⟨_, rfl, B15⟩
        · refine Ev.ite (P := ((tC W p7 : Nat) : Int) = 62) (k := 3) (a := 145) (b := 130) (L' := [Vr 114, Vi (t : Int), Vi ((tC W p7 : Nat) : Int)]) (S' := []) (h' := ((SHv st dr (z : Int)), (ovl a7 s b))) (fun _ => rfl) (fun b127 => ?_) (fun b127 => ?_)
          · refine Ev.call (k := 1) (pc1 := 146) (L1 := [Vr 114, Vi (t : Int), Vi ((tC W p7 : Nat) : Int)]) (S1 := [Vr 114]) (h1 := ((SHv st dr (z : Int)), (ovl a7 s b))) (m' := 27) (as := [Vr 114]) (S' := []) (L0 := [Vr 114, Vx, Vx, Vx, Vx]) (fun _ => rfl) rfl rfl rfl rfl rfl rfl (c_next X7.1) (fun r h' hq => ?_)
            obtain ⟨rfl, a16, rfl, hq⟩ := hq
            rcases hq with ⟨p16, hx16, ho16⟩ | ⟨e16, hx16, hb16⟩
            · have X16 := X7.nx ho16
              have L16 : p7 < p16 := X7.lt (by omega) hx16
              have G16 := G7.tr (ho16.1.gz (c := c7) X7.hz) (by omega)
              have R16 : a16 (z + 11) = a7 (z + 11) := ho16.1 _ (by omega)
              have Q16 := X16.le
              show Ev X _ _ 149 [Vr 114, Vi (t : Int), Vi ((tC W p7 : Nat) : Int)] [] ((SHv st dr (z : Int)), (ovl a16 s b)) _
              refine Ev.call (k := 1) (pc1 := 150) (L1 := [Vr 114, Vi (t : Int), Vi ((tC W p7 : Nat) : Int)]) (S1 := [Vr 114]) (h1 := ((SHv st dr (z : Int)), (ovl a16 s b))) (m' := 46) (as := [Vr 114]) (S' := []) (L0 := [Vr 114, Vx, Vx]) (fun _ => rfl) rfl rfl rfl rfl rfl rfl (hS _ _ _ _ (by omega) X16 (by omega)) (fun r h' hq => ?_)
              obtain ⟨rfl, a17, rfl, hq⟩ := hq
              rcases hq with ⟨⟨l17, p17⟩, hx17, c17, X17, g17, o17, h17⟩ | ⟨e17, hx17, hb17⟩
              · dsimp only at h17 X17 o17
                have L17 := o17.lt
                have G17 := G16.tr g17 (by omega)
                have Q17 := X17.le
                show Ev X _ _ 153 [Vr 114, Vi (t : Int), Vi ((tC W p7 : Nat) : Int)] [] ((SHv st dr (z : Int)), (ovl a17 s b)) _
                refine Ev.call (k := 4) (pc1 := 159) (L1 := [Vr 114, Vi (t : Int), Vi ((tC W p7 : Nat) : Int)]) (S1 := [Vi 0, Vi ((tC W p7 : Nat) : Int), Vr (z : Int)]) (h1 := ((SHv st dr (z : Int)), (ovl a17 s b))) (m' := 49) (as := [Vr (z : Int), Vi ((tC W p7 : Nat) : Int), Vi 0]) (S' := []) (L0 := [Vr (z : Int), Vi ((tC W p7 : Nat) : Int), Vi 0]) (fun _ => rfl) rfl rfl rfl rfl (stpC_of rfl (pm_recv_of (by omega) (shY_0 hz))) rfl (c_emitX (a := a17) X17 (by omega) (tC W p7) 0 (by omega) (by omega)) (fun r h' hq => ?_)
                obtain ⟨rfl, hq⟩ := hq
                rcases hq with ⟨a18, rfl, X18, g18, E18⟩
                · have G18 := G17.tr g18 (by omega)
                  have Q18 := X18.le
                  show Ev X _ _ 162 [Vr 114, Vi (t : Int), Vi ((tC W p7 : Nat) : Int)] [Vi ((c17 : Nat) : Int)] ((SHv st dr (z : Int)), (ovl a18 s b)) _
                  refine Ev.ite (P := (t : Int) = 0) (k := 3) (a := 179) (b := 167) (L' := [Vr 114, Vi (t : Int), Vi ((tC W p7 : Nat) : Int)]) (S' := []) (h' := ((SHv st dr (z : Int)), (ovl a18 s b))) (fun _ => rfl) (fun b164 => ?_) (fun b164 => ?_)
                  · refine Ev.fin (k := 1) (r := none) (h' := ((SHv st dr (z : Int)), (ovl a18 s b))) (fun _ => rfl) ?_
                    refine ⟨rfl, _, rfl, ?_⟩
                    unfold fbdT cmpT
                    rw [if_neg (by omega), if_neg (by omega), hx7, bnX_o, if_neg (by rw [opC_z]; dsimp only; omega), hx16, bnX_o, hx17, bnX_o]
                    have e1 : ∀ i, i < c17 → a18 (z + 11) i = a17 (z + 11) i := fun i hi => g18.2 i hi
                    have e2 : ∀ i, i < c7 → a18 (z + 11) i = a7 (z + 11) i := fun i hi => (e1 i (by omega)).trans ((g17.2 i (by omega)).trans (by rw [R16]))
                    have hoc := enc_opC (c := tC W p7) (by rw [ne_eq, opC_z]; omega)
                    exact Or.inl ⟨_, rfl, _, X18, G18, notL_0 (by omega) (CoC.bin (D' := Ds) hoc.1 hoc.2.1 ((o7.cg (fun i _ hi => e2 i hi)).mo (by omega)) (o17.cg (fun i _ hi => e1 i hi)) hDs (by rw [E18, hoc.2.2]; rfl)), by dsimp only; omega⟩
                  · refine Ev.call (k := 4) (pc1 := 175) (L1 := [Vr 114, Vi (t : Int), Vi ((tC W p7 : Nat) : Int)]) (S1 := [Vi 0, Vi 271, Vr (z : Int)]) (h1 := ((SHv st dr (z : Int)), (ovl a18 s b))) (m' := 49) (as := [Vr (z : Int), Vi 271, Vi 0]) (S' := []) (L0 := [Vr (z : Int), Vi 271, Vi 0]) (fun _ => rfl) rfl rfl rfl rfl (stpC_of rfl (pm_recv_of (by omega) (shY_0 hz))) rfl (c_emitX (a := a18) X18 (by omega) 271 0 (by omega) (by omega)) (fun r h' hq => ?_)
                    obtain ⟨rfl, hq⟩ := hq
                    rcases hq with ⟨a19, rfl, X19, g19, E19⟩
                    · have G19 := G18.tr g19 (by omega)
                      have Q19 := X19.le
                      show Ev X _ _ 178 [Vr 114, Vi (t : Int), Vi ((tC W p7 : Nat) : Int)] [Vi (((c17 + 1) : Nat) : Int)] ((SHv st dr (z : Int)), (ovl a19 s b)) _
                      refine Ev.fin (k := 2) (r := none) (h' := ((SHv st dr (z : Int)), (ovl a19 s b))) (fun _ => rfl) ?_
                      refine ⟨rfl, _, rfl, ?_⟩
                      unfold fbdT cmpT
                      rw [if_neg (by omega), if_neg (by omega), hx7, bnX_o, if_neg (by rw [opC_z]; dsimp only; omega), hx16, bnX_o, hx17, bnX_o]
                      have e1 : ∀ i, i < c17 → a18 (z + 11) i = a17 (z + 11) i := fun i hi => g18.2 i hi
                      have e2 : ∀ i, i < c7 → a18 (z + 11) i = a7 (z + 11) i := fun i hi => (e1 i (by omega)).trans ((g17.2 i (by omega)).trans (by rw [R16]))
                      have hoc := enc_opC (c := tC W p7) (by rw [ne_eq, opC_z]; omega)
                      exact Or.inl ⟨_, rfl, _, X19, G19, notL_1 (by omega) (((CoC.bin (D' := Ds) hoc.1 hoc.2.1 ((o7.cg (fun i _ hi => e2 i hi)).mo (by omega)) (o17.cg (fun i _ hi => e1 i hi)) hDs (by rw [E18, hoc.2.2]; rfl)).cg (fun i _ hi => g19.2 i hi)).not (by rw [E19]; rfl)), by dsimp only; omega⟩
              · have B17 := G16.bz hb17
                show Ev X _ _ 153 [Vr 114, Vi (t : Int), Vi ((tC W p7 : Nat) : Int)] [] ((SHv st dr (z : Int)), (ovl a17 s b)) _
                refine Ev.call (k := 4) (pc1 := 159) (L1 := [Vr 114, Vi (t : Int), Vi ((tC W p7 : Nat) : Int)]) (S1 := [Vi 0, Vi ((tC W p7 : Nat) : Int), Vr (z : Int)]) (h1 := ((SHv st dr (z : Int)), (ovl a17 s b))) (m' := 49) (as := [Vr (z : Int), Vi ((tC W p7 : Nat) : Int), Vi 0]) (S' := []) (L0 := [Vr (z : Int), Vi ((tC W p7 : Nat) : Int), Vi 0]) (fun _ => rfl) rfl rfl rfl rfl (stpC_of rfl (pm_recv_of (by omega) (shY_0 hz))) rfl (c_emit_br hz (B17).2.2.2 ((tC W p7 : Nat) : Int) 0) (fun r h' hq => ?_)
                obtain ⟨v20, a20, rfl, rfl, f1, f2, f3⟩ := hq
                have B20 := (B17).st hz f1 f2 f3
                show Ev X _ _ 162 [Vr 114, Vi (t : Int), Vi ((tC W p7 : Nat) : Int)] [Vi v20] ((SHv st dr (z : Int)), (ovl a20 s b)) _
                refine Ev.ite (P := (t : Int) = 0) (k := 3) (a := 179) (b := 167) (L' := [Vr 114, Vi (t : Int), Vi ((tC W p7 : Nat) : Int)]) (S' := []) (h' := ((SHv st dr (z : Int)), (ovl a20 s b))) (fun _ => rfl) (fun b164 => ?_) (fun b164 => ?_)
                · refine Ev.fin (k := 1) (r := none) (h' := ((SHv st dr (z : Int)), (ovl a20 s b))) (fun _ => rfl) ?_
                  refine ⟨rfl, _, rfl, ?_⟩
                  unfold fbdT cmpT
                  rw [if_neg (by omega), if_neg (by omega), hx7, bnX_o, if_neg (by rw [opC_z]; dsimp only; omega), hx16, bnX_o, hx17, bnX_e]
                  exact Or.inr ⟨_, rfl, B20⟩
                · refine Ev.call (k := 4) (pc1 := 175) (L1 := [Vr 114, Vi (t : Int), Vi ((tC W p7 : Nat) : Int)]) (S1 := [Vi 0, Vi 271, Vr (z : Int)]) (h1 := ((SHv st dr (z : Int)), (ovl a20 s b))) (m' := 49) (as := [Vr (z : Int), Vi 271, Vi 0]) (S' := []) (L0 := [Vr (z : Int), Vi 271, Vi 0]) (fun _ => rfl) rfl rfl rfl rfl (stpC_of rfl (pm_recv_of (by omega) (shY_0 hz))) rfl (c_emit_br hz (B20).2.2.2 271 0) (fun r h' hq => ?_)
                  obtain ⟨v21, a21, rfl, rfl, f1, f2, f3⟩ := hq
                  have B21 := (B20).st hz f1 f2 f3
                  show Ev X _ _ 178 [Vr 114, Vi (t : Int), Vi ((tC W p7 : Nat) : Int)] [Vi v21] ((SHv st dr (z : Int)), (ovl a21 s b)) _
                  refine Ev.fin (k := 2) (r := none) (h' := ((SHv st dr (z : Int)), (ovl a21 s b))) (fun _ => rfl) ?_
                  refine ⟨rfl, _, rfl, ?_⟩
                  unfold fbdT cmpT
                  rw [if_neg (by omega), if_neg (by omega), hx7, bnX_o, if_neg (by rw [opC_z]; dsimp only; omega), hx16, bnX_o, hx17, bnX_e]
                  exact Or.inr ⟨_, rfl, B21⟩
            · have B16 := G7.bd X7 (by omega) hb16
              show Ev X _ _ 149 [Vr 114, Vi (t : Int), Vi ((tC W p7 : Nat) : Int)] [] ((SHv st dr (z : Int)), (ovl a16 s b)) _
              refine Ev.call (k := 1) (pc1 := 150) (L1 := [Vr 114, Vi (t : Int), Vi ((tC W p7 : Nat) : Int)]) (S1 := [Vr 114]) (h1 := ((SHv st dr (z : Int)), (ovl a16 s b))) (m' := 46) (as := [Vr 114]) (S' := []) (L0 := [Vr 114, Vx, Vx]) (fun _ => rfl) rfl rfl rfl rfl rfl rfl (c_sum_br B16.2.2.1) (fun r h' hq => ?_)
              obtain ⟨rfl, rfl⟩ := hq
              show Ev X _ _ 153 [Vr 114, Vi (t : Int), Vi ((tC W p7 : Nat) : Int)] [] ((SHv st dr (z : Int)), (ovl a16 s b)) _
              refine Ev.call (k := 4) (pc1 := 159) (L1 := [Vr 114, Vi (t : Int), Vi ((tC W p7 : Nat) : Int)]) (S1 := [Vi 0, Vi ((tC W p7 : Nat) : Int), Vr (z : Int)]) (h1 := ((SHv st dr (z : Int)), (ovl a16 s b))) (m' := 49) (as := [Vr (z : Int), Vi ((tC W p7 : Nat) : Int), Vi 0]) (S' := []) (L0 := [Vr (z : Int), Vi ((tC W p7 : Nat) : Int), Vi 0]) (fun _ => rfl) rfl rfl rfl rfl (stpC_of rfl (pm_recv_of (by omega) (shY_0 hz))) rfl (c_emit_br hz (B16).2.2.2 ((tC W p7 : Nat) : Int) 0) (fun r h' hq => ?_)
              obtain ⟨v22, a22, rfl, rfl, f1, f2, f3⟩ := hq
              have B22 := (B16).st hz f1 f2 f3
              show Ev X _ _ 162 [Vr 114, Vi (t : Int), Vi ((tC W p7 : Nat) : Int)] [Vi v22] ((SHv st dr (z : Int)), (ovl a22 s b)) _
              refine Ev.ite (P := (t : Int) = 0) (k := 3) (a := 179) (b := 167) (L' := [Vr 114, Vi (t : Int), Vi ((tC W p7 : Nat) : Int)]) (S' := []) (h' := ((SHv st dr (z : Int)), (ovl a22 s b))) (fun _ => rfl) (fun b164 => ?_) (fun b164 => ?_)
              · refine Ev.fin (k := 1) (r := none) (h' := ((SHv st dr (z : Int)), (ovl a22 s b))) (fun _ => rfl) ?_
                refine ⟨rfl, _, rfl, ?_⟩
                unfold fbdT cmpT
                rw [if_neg (by omega), if_neg (by omega), hx7, bnX_o, if_neg (by rw [opC_z]; dsimp only; omega), hx16, bnX_e]
                exact Or.inr ⟨_, rfl, B22⟩
              · refine Ev.call (k := 4) (pc1 := 175) (L1 := [Vr 114, Vi (t : Int), Vi ((tC W p7 : Nat) : Int)]) (S1 := [Vi 0, Vi 271, Vr (z : Int)]) (h1 := ((SHv st dr (z : Int)), (ovl a22 s b))) (m' := 49) (as := [Vr (z : Int), Vi 271, Vi 0]) (S' := []) (L0 := [Vr (z : Int), Vi 271, Vi 0]) (fun _ => rfl) rfl rfl rfl rfl (stpC_of rfl (pm_recv_of (by omega) (shY_0 hz))) rfl (c_emit_br hz (B22).2.2.2 271 0) (fun r h' hq => ?_)
                obtain ⟨v23, a23, rfl, rfl, f1, f2, f3⟩ := hq
                have B23 := (B22).st hz f1 f2 f3
                show Ev X _ _ 178 [Vr 114, Vi (t : Int), Vi ((tC W p7 : Nat) : Int)] [Vi v23] ((SHv st dr (z : Int)), (ovl a23 s b)) _
                refine Ev.fin (k := 2) (r := none) (h' := ((SHv st dr (z : Int)), (ovl a23 s b))) (fun _ => rfl) ?_
                refine ⟨rfl, _, rfl, ?_⟩
                unfold fbdT cmpT
                rw [if_neg (by omega), if_neg (by omega), hx7, bnX_o, if_neg (by rw [opC_z]; dsimp only; omega), hx16, bnX_e]
                exact Or.inr ⟨_, rfl, B23⟩
          · refine Ev.ite (P := ((tC W p7 : Nat) : Int) = 61) (k := 3) (a := 145) (b := 136) (L' := [Vr 114, Vi (t : Int), Vi ((tC W p7 : Nat) : Int)]) (S' := []) (h' := ((SHv st dr (z : Int)), (ovl a7 s b))) (fun _ => rfl) (fun b133 => ?_) (fun b133 => ?_)
            · refine Ev.call (k := 1) (pc1 := 146) (L1 := [Vr 114, Vi (t : Int), Vi ((tC W p7 : Nat) : Int)]) (S1 := [Vr 114]) (h1 := ((SHv st dr (z : Int)), (ovl a7 s b))) (m' := 27) (as := [Vr 114]) (S' := []) (L0 := [Vr 114, Vx, Vx, Vx, Vx]) (fun _ => rfl) rfl rfl rfl rfl rfl rfl (c_next X7.1) (fun r h' hq => ?_)
              obtain ⟨rfl, a24, rfl, hq⟩ := hq
              rcases hq with ⟨p24, hx24, ho24⟩ | ⟨e24, hx24, hb24⟩
              · have X24 := X7.nx ho24
                have L24 : p7 < p24 := X7.lt (by omega) hx24
                have G24 := G7.tr (ho24.1.gz (c := c7) X7.hz) (by omega)
                have R24 : a24 (z + 11) = a7 (z + 11) := ho24.1 _ (by omega)
                have Q24 := X24.le
                show Ev X _ _ 149 [Vr 114, Vi (t : Int), Vi ((tC W p7 : Nat) : Int)] [] ((SHv st dr (z : Int)), (ovl a24 s b)) _
                refine Ev.call (k := 1) (pc1 := 150) (L1 := [Vr 114, Vi (t : Int), Vi ((tC W p7 : Nat) : Int)]) (S1 := [Vr 114]) (h1 := ((SHv st dr (z : Int)), (ovl a24 s b))) (m' := 46) (as := [Vr 114]) (S' := []) (L0 := [Vr 114, Vx, Vx]) (fun _ => rfl) rfl rfl rfl rfl rfl rfl (hS _ _ _ _ (by omega) X24 (by omega)) (fun r h' hq => ?_)
                obtain ⟨rfl, a25, rfl, hq⟩ := hq
                rcases hq with ⟨⟨l25, p25⟩, hx25, c25, X25, g25, o25, h25⟩ | ⟨e25, hx25, hb25⟩
                · dsimp only at h25 X25 o25
                  have L25 := o25.lt
                  have G25 := G24.tr g25 (by omega)
                  have Q25 := X25.le
                  show Ev X _ _ 153 [Vr 114, Vi (t : Int), Vi ((tC W p7 : Nat) : Int)] [] ((SHv st dr (z : Int)), (ovl a25 s b)) _
                  refine Ev.call (k := 4) (pc1 := 159) (L1 := [Vr 114, Vi (t : Int), Vi ((tC W p7 : Nat) : Int)]) (S1 := [Vi 0, Vi ((tC W p7 : Nat) : Int), Vr (z : Int)]) (h1 := ((SHv st dr (z : Int)), (ovl a25 s b))) (m' := 49) (as := [Vr (z : Int), Vi ((tC W p7 : Nat) : Int), Vi 0]) (S' := []) (L0 := [Vr (z : Int), Vi ((tC W p7 : Nat) : Int), Vi 0]) (fun _ => rfl) rfl rfl rfl rfl (stpC_of rfl (pm_recv_of (by omega) (shY_0 hz))) rfl (c_emitX (a := a25) X25 (by omega) (tC W p7) 0 (by omega) (by omega)) (fun r h' hq => ?_)
                  obtain ⟨rfl, hq⟩ := hq
                  rcases hq with ⟨a26, rfl, X26, g26, E26⟩
                  · have G26 := G25.tr g26 (by omega)
                    have Q26 := X26.le
                    show Ev X _ _ 162 [Vr 114, Vi (t : Int), Vi ((tC W p7 : Nat) : Int)] [Vi ((c25 : Nat) : Int)] ((SHv st dr (z : Int)), (ovl a26 s b)) _
                    refine Ev.ite (P := (t : Int) = 0) (k := 3) (a := 179) (b := 167) (L' := [Vr 114, Vi (t : Int), Vi ((tC W p7 : Nat) : Int)]) (S' := []) (h' := ((SHv st dr (z : Int)), (ovl a26 s b))) (fun _ => rfl) (fun b164 => ?_) (fun b164 => ?_)
                    · refine Ev.fin (k := 1) (r := none) (h' := ((SHv st dr (z : Int)), (ovl a26 s b))) (fun _ => rfl) ?_
                      refine ⟨rfl, _, rfl, ?_⟩
                      unfold fbdT cmpT
                      rw [if_neg (by omega), if_neg (by omega), hx7, bnX_o, if_neg (by rw [opC_z]; dsimp only; omega), hx24, bnX_o, hx25, bnX_o]
                      have e1 : ∀ i, i < c25 → a26 (z + 11) i = a25 (z + 11) i := fun i hi => g26.2 i hi
                      have e2 : ∀ i, i < c7 → a26 (z + 11) i = a7 (z + 11) i := fun i hi => (e1 i (by omega)).trans ((g25.2 i (by omega)).trans (by rw [R24]))
                      have hoc := enc_opC (c := tC W p7) (by rw [ne_eq, opC_z]; omega)
                      exact Or.inl ⟨_, rfl, _, X26, G26, notL_0 (by omega) (CoC.bin (D' := Ds) hoc.1 hoc.2.1 ((o7.cg (fun i _ hi => e2 i hi)).mo (by omega)) (o25.cg (fun i _ hi => e1 i hi)) hDs (by rw [E26, hoc.2.2]; rfl)), by dsimp only; omega⟩
                    · refine Ev.call (k := 4) (pc1 := 175) (L1 := [Vr 114, Vi (t : Int), Vi ((tC W p7 : Nat) : Int)]) (S1 := [Vi 0, Vi 271, Vr (z : Int)]) (h1 := ((SHv st dr (z : Int)), (ovl a26 s b))) (m' := 49) (as := [Vr (z : Int), Vi 271, Vi 0]) (S' := []) (L0 := [Vr (z : Int), Vi 271, Vi 0]) (fun _ => rfl) rfl rfl rfl rfl (stpC_of rfl (pm_recv_of (by omega) (shY_0 hz))) rfl (c_emitX (a := a26) X26 (by omega) 271 0 (by omega) (by omega)) (fun r h' hq => ?_)
                      obtain ⟨rfl, hq⟩ := hq
                      rcases hq with ⟨a27, rfl, X27, g27, E27⟩
                      · have G27 := G26.tr g27 (by omega)
                        have Q27 := X27.le
                        show Ev X _ _ 178 [Vr 114, Vi (t : Int), Vi ((tC W p7 : Nat) : Int)] [Vi (((c25 + 1) : Nat) : Int)] ((SHv st dr (z : Int)), (ovl a27 s b)) _
                        refine Ev.fin (k := 2) (r := none) (h' := ((SHv st dr (z : Int)), (ovl a27 s b))) (fun _ => rfl) ?_
                        refine ⟨rfl, _, rfl, ?_⟩
                        unfold fbdT cmpT
                        rw [if_neg (by omega), if_neg (by omega), hx7, bnX_o, if_neg (by rw [opC_z]; dsimp only; omega), hx24, bnX_o, hx25, bnX_o]
                        have e1 : ∀ i, i < c25 → a26 (z + 11) i = a25 (z + 11) i := fun i hi => g26.2 i hi
                        have e2 : ∀ i, i < c7 → a26 (z + 11) i = a7 (z + 11) i := fun i hi => (e1 i (by omega)).trans ((g25.2 i (by omega)).trans (by rw [R24]))
                        have hoc := enc_opC (c := tC W p7) (by rw [ne_eq, opC_z]; omega)
                        exact Or.inl ⟨_, rfl, _, X27, G27, notL_1 (by omega) (((CoC.bin (D' := Ds) hoc.1 hoc.2.1 ((o7.cg (fun i _ hi => e2 i hi)).mo (by omega)) (o25.cg (fun i _ hi => e1 i hi)) hDs (by rw [E26, hoc.2.2]; rfl)).cg (fun i _ hi => g27.2 i hi)).not (by rw [E27]; rfl)), by dsimp only; omega⟩
                · have B25 := G24.bz hb25
                  show Ev X _ _ 153 [Vr 114, Vi (t : Int), Vi ((tC W p7 : Nat) : Int)] [] ((SHv st dr (z : Int)), (ovl a25 s b)) _
                  refine Ev.call (k := 4) (pc1 := 159) (L1 := [Vr 114, Vi (t : Int), Vi ((tC W p7 : Nat) : Int)]) (S1 := [Vi 0, Vi ((tC W p7 : Nat) : Int), Vr (z : Int)]) (h1 := ((SHv st dr (z : Int)), (ovl a25 s b))) (m' := 49) (as := [Vr (z : Int), Vi ((tC W p7 : Nat) : Int), Vi 0]) (S' := []) (L0 := [Vr (z : Int), Vi ((tC W p7 : Nat) : Int), Vi 0]) (fun _ => rfl) rfl rfl rfl rfl (stpC_of rfl (pm_recv_of (by omega) (shY_0 hz))) rfl (c_emit_br hz (B25).2.2.2 ((tC W p7 : Nat) : Int) 0) (fun r h' hq => ?_)
                  obtain ⟨v28, a28, rfl, rfl, f1, f2, f3⟩ := hq
                  have B28 := (B25).st hz f1 f2 f3
                  show Ev X _ _ 162 [Vr 114, Vi (t : Int), Vi ((tC W p7 : Nat) : Int)] [Vi v28] ((SHv st dr (z : Int)), (ovl a28 s b)) _
                  refine Ev.ite (P := (t : Int) = 0) (k := 3) (a := 179) (b := 167) (L' := [Vr 114, Vi (t : Int), Vi ((tC W p7 : Nat) : Int)]) (S' := []) (h' := ((SHv st dr (z : Int)), (ovl a28 s b))) (fun _ => rfl) (fun b164 => ?_) (fun b164 => ?_)
                  · refine Ev.fin (k := 1) (r := none) (h' := ((SHv st dr (z : Int)), (ovl a28 s b))) (fun _ => rfl) ?_
                    refine ⟨rfl, _, rfl, ?_⟩
                    unfold fbdT cmpT
                    rw [if_neg (by omega), if_neg (by omega), hx7, bnX_o, if_neg (by rw [opC_z]; dsimp only; omega), hx24, bnX_o, hx25, bnX_e]
                    exact Or.inr ⟨_, rfl, B28⟩
                  · refine Ev.call (k := 4) (pc1 := 175) (L1 := [Vr 114, Vi (t : Int), Vi ((tC W p7 : Nat) : Int)]) (S1 := [Vi 0, Vi 271, Vr (z : Int)]) (h1 := ((SHv st dr (z : Int)), (ovl a28 s b))) (m' := 49) (as := [Vr (z : Int), Vi 271, Vi 0]) (S' := []) (L0 := [Vr (z : Int), Vi 271, Vi 0]) (fun _ => rfl) rfl rfl rfl rfl (stpC_of rfl (pm_recv_of (by omega) (shY_0 hz))) rfl (c_emit_br hz (B28).2.2.2 271 0) (fun r h' hq => ?_)
                    obtain ⟨v29, a29, rfl, rfl, f1, f2, f3⟩ := hq
                    have B29 := (B28).st hz f1 f2 f3
                    show Ev X _ _ 178 [Vr 114, Vi (t : Int), Vi ((tC W p7 : Nat) : Int)] [Vi v29] ((SHv st dr (z : Int)), (ovl a29 s b)) _
                    refine Ev.fin (k := 2) (r := none) (h' := ((SHv st dr (z : Int)), (ovl a29 s b))) (fun _ => rfl) ?_
                    refine ⟨rfl, _, rfl, ?_⟩
                    unfold fbdT cmpT
                    rw [if_neg (by omega), if_neg (by omega), hx7, bnX_o, if_neg (by rw [opC_z]; dsimp only; omega), hx24, bnX_o, hx25, bnX_e]
                    exact Or.inr ⟨_, rfl, B29⟩
              · have B24 := G7.bd X7 (by omega) hb24
                show Ev X _ _ 149 [Vr 114, Vi (t : Int), Vi ((tC W p7 : Nat) : Int)] [] ((SHv st dr (z : Int)), (ovl a24 s b)) _
                refine Ev.call (k := 1) (pc1 := 150) (L1 := [Vr 114, Vi (t : Int), Vi ((tC W p7 : Nat) : Int)]) (S1 := [Vr 114]) (h1 := ((SHv st dr (z : Int)), (ovl a24 s b))) (m' := 46) (as := [Vr 114]) (S' := []) (L0 := [Vr 114, Vx, Vx]) (fun _ => rfl) rfl rfl rfl rfl rfl rfl (c_sum_br B24.2.2.1) (fun r h' hq => ?_)
                obtain ⟨rfl, rfl⟩ := hq
                show Ev X _ _ 153 [Vr 114, Vi (t : Int), Vi ((tC W p7 : Nat) : Int)] [] ((SHv st dr (z : Int)), (ovl a24 s b)) _
                refine Ev.call (k := 4) (pc1 := 159) (L1 := [Vr 114, Vi (t : Int), Vi ((tC W p7 : Nat) : Int)]) (S1 := [Vi 0, Vi ((tC W p7 : Nat) : Int), Vr (z : Int)]) (h1 := ((SHv st dr (z : Int)), (ovl a24 s b))) (m' := 49) (as := [Vr (z : Int), Vi ((tC W p7 : Nat) : Int), Vi 0]) (S' := []) (L0 := [Vr (z : Int), Vi ((tC W p7 : Nat) : Int), Vi 0]) (fun _ => rfl) rfl rfl rfl rfl (stpC_of rfl (pm_recv_of (by omega) (shY_0 hz))) rfl (c_emit_br hz (B24).2.2.2 ((tC W p7 : Nat) : Int) 0) (fun r h' hq => ?_)
                obtain ⟨v30, a30, rfl, rfl, f1, f2, f3⟩ := hq
                have B30 := (B24).st hz f1 f2 f3
                show Ev X _ _ 162 [Vr 114, Vi (t : Int), Vi ((tC W p7 : Nat) : Int)] [Vi v30] ((SHv st dr (z : Int)), (ovl a30 s b)) _
                refine Ev.ite (P := (t : Int) = 0) (k := 3) (a := 179) (b := 167) (L' := [Vr 114, Vi (t : Int), Vi ((tC W p7 : Nat) : Int)]) (S' := []) (h' := ((SHv st dr (z : Int)), (ovl a30 s b))) (fun _ => rfl) (fun b164 => ?_) (fun b164 => ?_)
                · refine Ev.fin (k := 1) (r := none) (h' := ((SHv st dr (z : Int)), (ovl a30 s b))) (fun _ => rfl) ?_
                  refine ⟨rfl, _, rfl, ?_⟩
                  unfold fbdT cmpT
                  rw [if_neg (by omega), if_neg (by omega), hx7, bnX_o, if_neg (by rw [opC_z]; dsimp only; omega), hx24, bnX_e]
                  exact Or.inr ⟨_, rfl, B30⟩
                · refine Ev.call (k := 4) (pc1 := 175) (L1 := [Vr 114, Vi (t : Int), Vi ((tC W p7 : Nat) : Int)]) (S1 := [Vi 0, Vi 271, Vr (z : Int)]) (h1 := ((SHv st dr (z : Int)), (ovl a30 s b))) (m' := 49) (as := [Vr (z : Int), Vi 271, Vi 0]) (S' := []) (L0 := [Vr (z : Int), Vi 271, Vi 0]) (fun _ => rfl) rfl rfl rfl rfl (stpC_of rfl (pm_recv_of (by omega) (shY_0 hz))) rfl (c_emit_br hz (B30).2.2.2 271 0) (fun r h' hq => ?_)
                  obtain ⟨v31, a31, rfl, rfl, f1, f2, f3⟩ := hq
                  have B31 := (B30).st hz f1 f2 f3
                  show Ev X _ _ 178 [Vr 114, Vi (t : Int), Vi ((tC W p7 : Nat) : Int)] [Vi v31] ((SHv st dr (z : Int)), (ovl a31 s b)) _
                  refine Ev.fin (k := 2) (r := none) (h' := ((SHv st dr (z : Int)), (ovl a31 s b))) (fun _ => rfl) ?_
                  refine ⟨rfl, _, rfl, ?_⟩
                  unfold fbdT cmpT
                  rw [if_neg (by omega), if_neg (by omega), hx7, bnX_o, if_neg (by rw [opC_z]; dsimp only; omega), hx24, bnX_e]
                  exact Or.inr ⟨_, rfl, B31⟩
            · refine Ev.steps (k := 4) (pc' := 142) (L' := [Vr 114, Vi (t : Int), Vi ((tC W p7 : Nat) : Int)]) (S' := [Vi (a7 114 6), Vi 1, Vr 114]) (h' := ((SHv st dr (z : Int)), (ovl a7 s b))) (fun _ => rfl) ?_
              rw [X7.t6]
              refine Ev.call (k := 0) (pc1 := 142) (L1 := [Vr 114, Vi (t : Int), Vi ((tC W p7 : Nat) : Int)]) (S1 := [Vi ((tA W p7 : Nat) : Int), Vi 1, Vr 114]) (h1 := ((SHv st dr (z : Int)), (ovl a7 s b))) (m' := 29) (as := [Vr 114, Vi 1, Vi ((tA W p7 : Nat) : Int)]) (S' := []) (L0 := [Vr 114, Vi 1, Vi ((tA W p7 : Nat) : Int)]) (fun _ => rfl) rfl rfl rfl rfl rfl rfl (c_fail_t X7.1 1 ((tA W p7 : Nat) : Int) (by decide)) (fun r h' hq => ?_)
              obtain ⟨rfl, a32, rfl, hq⟩ := hq
              rcases hq with hq
              · have hb32 := hq
                have B32 := G7.bd X7 (by omega) hb32
                show Ev X _ _ 145 [Vr 114, Vi (t : Int), Vi ((tC W p7 : Nat) : Int)] [] ((SHv st dr (z : Int)), (ovl a32 s b)) _
                refine Ev.call (k := 1) (pc1 := 146) (L1 := [Vr 114, Vi (t : Int), Vi ((tC W p7 : Nat) : Int)]) (S1 := [Vr 114]) (h1 := ((SHv st dr (z : Int)), (ovl a32 s b))) (m' := 27) (as := [Vr 114]) (S' := []) (L0 := [Vr 114, Vx, Vx, Vx, Vx]) (fun _ => rfl) rfl rfl rfl rfl rfl rfl (c_step_br B32.2.2.1) (fun r h' hq => ?_)
                obtain ⟨rfl, rfl⟩ := hq
                show Ev X _ _ 149 [Vr 114, Vi (t : Int), Vi ((tC W p7 : Nat) : Int)] [] ((SHv st dr (z : Int)), (ovl a32 s b)) _
                refine Ev.call (k := 1) (pc1 := 150) (L1 := [Vr 114, Vi (t : Int), Vi ((tC W p7 : Nat) : Int)]) (S1 := [Vr 114]) (h1 := ((SHv st dr (z : Int)), (ovl a32 s b))) (m' := 46) (as := [Vr 114]) (S' := []) (L0 := [Vr 114, Vx, Vx]) (fun _ => rfl) rfl rfl rfl rfl rfl rfl (c_sum_br B32.2.2.1) (fun r h' hq => ?_)
                obtain ⟨rfl, rfl⟩ := hq
                show Ev X _ _ 153 [Vr 114, Vi (t : Int), Vi ((tC W p7 : Nat) : Int)] [] ((SHv st dr (z : Int)), (ovl a32 s b)) _
                refine Ev.call (k := 4) (pc1 := 159) (L1 := [Vr 114, Vi (t : Int), Vi ((tC W p7 : Nat) : Int)]) (S1 := [Vi 0, Vi ((tC W p7 : Nat) : Int), Vr (z : Int)]) (h1 := ((SHv st dr (z : Int)), (ovl a32 s b))) (m' := 49) (as := [Vr (z : Int), Vi ((tC W p7 : Nat) : Int), Vi 0]) (S' := []) (L0 := [Vr (z : Int), Vi ((tC W p7 : Nat) : Int), Vi 0]) (fun _ => rfl) rfl rfl rfl rfl (stpC_of rfl (pm_recv_of (by omega) (shY_0 hz))) rfl (c_emit_br hz (B32).2.2.2 ((tC W p7 : Nat) : Int) 0) (fun r h' hq => ?_)
                obtain ⟨v33, a33, rfl, rfl, f1, f2, f3⟩ := hq
                have B33 := (B32).st hz f1 f2 f3
                show Ev X _ _ 162 [Vr 114, Vi (t : Int), Vi ((tC W p7 : Nat) : Int)] [Vi v33] ((SHv st dr (z : Int)), (ovl a33 s b)) _
                refine Ev.ite (P := (t : Int) = 0) (k := 3) (a := 179) (b := 167) (L' := [Vr 114, Vi (t : Int), Vi ((tC W p7 : Nat) : Int)]) (S' := []) (h' := ((SHv st dr (z : Int)), (ovl a33 s b))) (fun _ => rfl) (fun b164 => ?_) (fun b164 => ?_)
                · refine Ev.fin (k := 1) (r := none) (h' := ((SHv st dr (z : Int)), (ovl a33 s b))) (fun _ => rfl) ?_
                  refine ⟨rfl, _, rfl, ?_⟩
                  unfold fbdT cmpT
                  rw [if_neg (by omega), if_neg (by omega), hx7, bnX_o, if_pos (by rw [opC_z]; dsimp only; omega)]
                  exact Or.inr ⟨_, rfl, B33⟩
                · refine Ev.call (k := 4) (pc1 := 175) (L1 := [Vr 114, Vi (t : Int), Vi ((tC W p7 : Nat) : Int)]) (S1 := [Vi 0, Vi 271, Vr (z : Int)]) (h1 := ((SHv st dr (z : Int)), (ovl a33 s b))) (m' := 49) (as := [Vr (z : Int), Vi 271, Vi 0]) (S' := []) (L0 := [Vr (z : Int), Vi 271, Vi 0]) (fun _ => rfl) rfl rfl rfl rfl (stpC_of rfl (pm_recv_of (by omega) (shY_0 hz))) rfl (c_emit_br hz (B33).2.2.2 271 0) (fun r h' hq => ?_)
                  obtain ⟨v34, a34, rfl, rfl, f1, f2, f3⟩ := hq
                  have B34 := (B33).st hz f1 f2 f3
                  show Ev X _ _ 178 [Vr 114, Vi (t : Int), Vi ((tC W p7 : Nat) : Int)] [Vi v34] ((SHv st dr (z : Int)), (ovl a34 s b)) _
                  refine Ev.fin (k := 2) (r := none) (h' := ((SHv st dr (z : Int)), (ovl a34 s b))) (fun _ => rfl) ?_
                  refine ⟨rfl, _, rfl, ?_⟩
                  unfold fbdT cmpT
                  rw [if_neg (by omega), if_neg (by omega), hx7, bnX_o, if_pos (by rw [opC_z]; dsimp only; omega)]
                  exact Or.inr ⟨_, rfl, B34⟩
      · have B7 := G0.bz hb7
        show Ev X _ _ 113 [Vr 114, Vi (t : Int), Vi i] [] ((SHv st dr (z : Int)), (ovl a7 s b)) _
        refine Ev.steps (k := 2) (pc' := 117) (L' := [Vr 114, Vi (t : Int), Vi i]) (S' := [Vi (a7 114 5)]) (h' := ((SHv st dr (z : Int)), (ovl a7 s b))) (fun _ => rfl) ?_
        rw [B7.2.2.1.2.2.2]
        refine Ev.call (k := 14) (pc1 := 142) (L1 := [Vr 114, Vi (t : Int), Vi 303]) (S1 := [Vi (a7 114 6), Vi 1, Vr 114]) (h1 := ((SHv st dr (z : Int)), (ovl a7 s b))) (m' := 29) (as := [Vr 114, Vi 1, Vi (a7 114 6)]) (S' := []) (L0 := [Vr 114, Vi 1, Vi (a7 114 6)]) (fun _ => rfl) rfl rfl rfl rfl rfl rfl (c_fail_same B7.2.2.1 1 (a7 114 6)) (fun r h' hq => ?_)
        obtain ⟨rfl, rfl⟩ := hq
        show Ev X _ _ 145 [Vr 114, Vi (t : Int), Vi 303] [] ((SHv st dr (z : Int)), (ovl a7 s b)) _
        refine Ev.call (k := 1) (pc1 := 146) (L1 := [Vr 114, Vi (t : Int), Vi 303]) (S1 := [Vr 114]) (h1 := ((SHv st dr (z : Int)), (ovl a7 s b))) (m' := 27) (as := [Vr 114]) (S' := []) (L0 := [Vr 114, Vx, Vx, Vx, Vx]) (fun _ => rfl) rfl rfl rfl rfl rfl rfl (c_step_br B7.2.2.1) (fun r h' hq => ?_)
        obtain ⟨rfl, rfl⟩ := hq
        show Ev X _ _ 149 [Vr 114, Vi (t : Int), Vi 303] [] ((SHv st dr (z : Int)), (ovl a7 s b)) _
        refine Ev.call (k := 1) (pc1 := 150) (L1 := [Vr 114, Vi (t : Int), Vi 303]) (S1 := [Vr 114]) (h1 := ((SHv st dr (z : Int)), (ovl a7 s b))) (m' := 46) (as := [Vr 114]) (S' := []) (L0 := [Vr 114, Vx, Vx]) (fun _ => rfl) rfl rfl rfl rfl rfl rfl (c_sum_br B7.2.2.1) (fun r h' hq => ?_)
        obtain ⟨rfl, rfl⟩ := hq
        show Ev X _ _ 153 [Vr 114, Vi (t : Int), Vi 303] [] ((SHv st dr (z : Int)), (ovl a7 s b)) _
        refine Ev.call (k := 4) (pc1 := 159) (L1 := [Vr 114, Vi (t : Int), Vi 303]) (S1 := [Vi 0, Vi 303, Vr (z : Int)]) (h1 := ((SHv st dr (z : Int)), (ovl a7 s b))) (m' := 49) (as := [Vr (z : Int), Vi 303, Vi 0]) (S' := []) (L0 := [Vr (z : Int), Vi 303, Vi 0]) (fun _ => rfl) rfl rfl rfl rfl (stpC_of rfl (pm_recv_of (by omega) (shY_0 hz))) rfl (c_emit_br hz (B7).2.2.2 303 0) (fun r h' hq => ?_)
        obtain ⟨v35, a35, rfl, rfl, f1, f2, f3⟩ := hq
        have B35 := (B7).st hz f1 f2 f3
        show Ev X _ _ 162 [Vr 114, Vi (t : Int), Vi 303] [Vi v35] ((SHv st dr (z : Int)), (ovl a35 s b)) _
        refine Ev.ite (P := (t : Int) = 0) (k := 3) (a := 179) (b := 167) (L' := [Vr 114, Vi (t : Int), Vi 303]) (S' := []) (h' := ((SHv st dr (z : Int)), (ovl a35 s b))) (fun _ => rfl) (fun b164 => ?_) (fun b164 => ?_)
        · refine Ev.fin (k := 1) (r := none) (h' := ((SHv st dr (z : Int)), (ovl a35 s b))) (fun _ => rfl) ?_
          refine ⟨rfl, _, rfl, ?_⟩
          unfold fbdT cmpT
          rw [if_neg (by omega), if_neg (by omega), hx7, bnX_e]
          exact Or.inr ⟨_, rfl, B35⟩
        · refine Ev.call (k := 4) (pc1 := 175) (L1 := [Vr 114, Vi (t : Int), Vi 303]) (S1 := [Vi 0, Vi 271, Vr (z : Int)]) (h1 := ((SHv st dr (z : Int)), (ovl a35 s b))) (m' := 49) (as := [Vr (z : Int), Vi 271, Vi 0]) (S' := []) (L0 := [Vr (z : Int), Vi 271, Vi 0]) (fun _ => rfl) rfl rfl rfl rfl (stpC_of rfl (pm_recv_of (by omega) (shY_0 hz))) rfl (c_emit_br hz (B35).2.2.2 271 0) (fun r h' hq => ?_)
          obtain ⟨v36, a36, rfl, rfl, f1, f2, f3⟩ := hq
          have B36 := (B35).st hz f1 f2 f3
          show Ev X _ _ 178 [Vr 114, Vi (t : Int), Vi 303] [Vi v36] ((SHv st dr (z : Int)), (ovl a36 s b)) _
          refine Ev.fin (k := 2) (r := none) (h' := ((SHv st dr (z : Int)), (ovl a36 s b))) (fun _ => rfl) ?_
          refine ⟨rfl, _, rfl, ?_⟩
          unfold fbdT cmpT
          rw [if_neg (by omega), if_neg (by omega), hx7, bnX_e]
          exact Or.inr ⟨_, rfl, B36⟩
    · refine Ev.call (k := 2) (pc1 := 80) (L1 := [Vr 114, Vi (t : Int), Vi i]) (S1 := [Vi 91, Vr 114]) (h1 := ((SHv st dr (z : Int)), (ovl a0 s b))) (m' := 51) (as := [Vr 114, Vi 91]) (S' := []) (L0 := [Vr 114, Vi 91]) (fun _ => rfl) rfl rfl rfl rfl rfl rfl (c_opensX X0 91) (fun r h' hq => ?_)
      obtain ⟨a37, rfl, hq⟩ := hq
      rcases hq with ⟨p37, hx37, rfl, ho37, hX37⟩ | ⟨e37, hx37, rfl | rfl, hb37⟩
      · have K37 := opn_ok hx37
        obtain ⟨hK, HI⟩ := hI K37.2.1
        have X37 := hX37 K1 hK
        have L37 : p0 < p37 := by
          rw [K37.2.2.1]
          exact tok_lt X0.le.1 X0.1.1.1 (by omega) (by omega)
        have G37 := G0.tr (ho37.gz (c := c0) X0.hz) (by omega)
        have Q37 := X37.le
        clear K37
        show Ev X _ _ 83 [Vr 114, Vi (t : Int), Vi i] [Vi 1] ((SHv st dr (z : Int)), (ovl a37 s b)) _
        refine Ev.call (k := 2) (pc1 := 87) (L1 := [Vr 114, Vi (t : Int), Vi i]) (S1 := [Vr 114]) (h1 := ((SHv st dr (z : Int)), (ovl a37 s b))) (m' := 52) (as := [Vr 114]) (S' := []) (L0 := [Vr 114, Vx, Vx]) (fun _ => rfl) rfl rfl rfl rfl rfl rfl (HI _ _ _ _ (by omega) X37 (by omega)) (fun r h' hq => ?_)
        obtain ⟨rfl, a38, rfl, hq⟩ := hq
        rcases hq with ⟨⟨l38, p38⟩, hx38, c38, X38, g38, o38, h38⟩ | ⟨e38, hx38, hb38⟩
        · dsimp only at h38 X38 o38
          have L38 := o38.lt
          have G38 := G37.tr g38 (by omega)
          have Q38 := X38.le
          show Ev X _ _ 90 [Vr 114, Vi (t : Int), Vi i] [] ((SHv st dr (z : Int)), (ovl a38 s b)) _
          refine Ev.call (k := 2) (pc1 := 93) (L1 := [Vr 114, Vi (t : Int), Vi i]) (S1 := [Vi 93, Vr 114]) (h1 := ((SHv st dr (z : Int)), (ovl a38 s b))) (m' := 42) (as := [Vr 114, Vi 93]) (S' := []) (L0 := [Vr 114, Vi 93]) (fun _ => rfl) rfl rfl rfl rfl rfl rfl (c_expect X38.1 93) (fun r h' hq => ?_)
          obtain ⟨rfl, a39, rfl, hq⟩ := hq
          rcases hq with ⟨p39, hx39, ho39⟩ | ⟨e39, hx39, hb39⟩
          · have X39 := X38.nx ho39
            have L39 : p38 < p39 := by
              obtain ⟨h1, h2⟩ := exp_ok hx39
              exact X38.lt (by omega) (by unfold expT at hx39; rwa [if_neg (by omega)] at hx39)
            have G39 := G38.tr (ho39.1.gz (c := c38) X38.hz) (by omega)
            have R39 : a39 (z + 11) = a38 (z + 11) := ho39.1 _ (by omega)
            have Q39 := X39.le
            show Ev X _ _ 96 [Vr 114, Vi (t : Int), Vi i] [] ((SHv st dr (z : Int)), (ovl a39 s b)) _
            refine Ev.steps (k := 3) (pc' := 101) (L' := [Vr 114, Vi (t : Int), Vi i]) (S' := [Vi (a39 114 8), Vr 114]) (h' := ((SHv st dr (z : Int)), (ovl a39 s b))) (fun _ => rfl) ?_
            rw [X39.t8]
            refine Ev.steps (k := 2) (pc' := 103) (L' := [Vr 114, Vi (t : Int), Vi i]) (S' := [Vi (w32 ((8 - (K1 : Int)) - 1)), Vr 114]) (h' := ((SHv st dr (z : Int)), (ovl a39 s b))) (fun _ => rfl) ?_
            rw [show (w32 ((8 - (K1 : Int)) - 1)) = ((8 - (K1 : Int)) - 1) from w32_id (by unfold R32; omega)]
            refine Ev.putf (c' := (ovl (updC a39 114 8 ((8 - (K1 : Int)) - 1)) s b)) rfl (by decide) rfl rfl rfl (ovl_wc (by decide)) ?_
            refine Ev.ite (P := (t : Int) = 0) (k := 3) (a := 179) (b := 167) (L' := [Vr 114, Vi (t : Int), Vi i]) (S' := []) (h' := ((SHv st dr (z : Int)), (ovl (updC a39 114 8 ((8 - (K1 : Int)) - 1)) s b))) (fun _ => rfl) (fun b164 => ?_) (fun b164 => ?_)
            · refine Ev.fin (k := 1) (r := none) (h' := ((SHv st dr (z : Int)), (ovl (updC a39 114 8 ((8 - (K1 : Int)) - 1)) s b))) (fun _ => rfl) ?_
              refine ⟨rfl, _, rfl, ?_⟩
              unfold fbdT brkT
              rw [if_neg (by omega), if_pos (by omega), hx37, bnX_o, hx38, bnX_o, hx39, bnX_o]
              exact Or.inl ⟨_, rfl, _, X39.o8 (by omega) (by omega), G39.o8 hz, notL_0 (by omega) ((o38.cg (fun i _ _ => by rw [updC_row (by omega), R39])).mo (by omega)), by dsimp only; omega⟩
            · refine Ev.call (k := 4) (pc1 := 175) (L1 := [Vr 114, Vi (t : Int), Vi i]) (S1 := [Vi 0, Vi 271, Vr (z : Int)]) (h1 := ((SHv st dr (z : Int)), (ovl (updC a39 114 8 ((8 - (K1 : Int)) - 1)) s b))) (m' := 49) (as := [Vr (z : Int), Vi 271, Vi 0]) (S' := []) (L0 := [Vr (z : Int), Vi 271, Vi 0]) (fun _ => rfl) rfl rfl rfl rfl (stpC_of rfl (pm_recv_of (by omega) (shY_0 hz))) rfl (c_emitX (a := (updC a39 114 8 ((8 - (K1 : Int)) - 1))) (X39.o8 (K1 := K) (by omega) (by omega)) (by omega) 271 0 (by omega) (by omega)) (fun r h' hq => ?_)
              obtain ⟨rfl, hq⟩ := hq
              rcases hq with ⟨a40, rfl, X40, g40, E40⟩
              · have G40 := (G39.o8 hz).tr g40 (by omega)
                have Q40 := X40.le
                show Ev X _ _ 178 [Vr 114, Vi (t : Int), Vi i] [Vi ((c38 : Nat) : Int)] ((SHv st dr (z : Int)), (ovl a40 s b)) _
                refine Ev.fin (k := 2) (r := none) (h' := ((SHv st dr (z : Int)), (ovl a40 s b))) (fun _ => rfl) ?_
                refine ⟨rfl, _, rfl, ?_⟩
                unfold fbdT brkT
                rw [if_neg (by omega), if_pos (by omega), hx37, bnX_o, hx38, bnX_o, hx39, bnX_o]
                exact Or.inl ⟨_, rfl, _, X40, G40, notL_1 (by omega) ((((o38.cg (fun i _ _ => by rw [updC_row (by omega), R39])).mo (by omega)).cg (fun i _ hi => g40.2 i hi)).not (by rw [E40]; rfl)), by dsimp only; omega⟩
          · have B39 := G38.bd X38 (by omega) hb39
            show Ev X _ _ 96 [Vr 114, Vi (t : Int), Vi i] [] ((SHv st dr (z : Int)), (ovl a39 s b)) _
            refine Ev.steps (k := 5) (pc' := 103) (L' := [Vr 114, Vi (t : Int), Vi i]) (S' := [Vi (w32 ((a39 114 8) - 1)), Vr 114]) (h' := ((SHv st dr (z : Int)), (ovl a39 s b))) (fun _ => rfl) ?_
            refine Ev.putf (c' := (ovl (updC a39 114 8 (w32 ((a39 114 8) - 1))) s b)) rfl (by decide) rfl rfl rfl (ovl_wc (by decide)) ?_
            refine Ev.ite (P := (t : Int) = 0) (k := 3) (a := 179) (b := 167) (L' := [Vr 114, Vi (t : Int), Vi i]) (S' := []) (h' := ((SHv st dr (z : Int)), (ovl (updC a39 114 8 (w32 ((a39 114 8) - 1))) s b))) (fun _ => rfl) (fun b164 => ?_) (fun b164 => ?_)
            · refine Ev.fin (k := 1) (r := none) (h' := ((SHv st dr (z : Int)), (ovl (updC a39 114 8 (w32 ((a39 114 8) - 1))) s b))) (fun _ => rfl) ?_
              refine ⟨rfl, _, rfl, ?_⟩
              unfold fbdT brkT
              rw [if_neg (by omega), if_pos (by omega), hx37, bnX_o, hx38, bnX_o, hx39, bnX_e]
              exact Or.inr ⟨_, rfl, B39.o8 hz⟩
            · refine Ev.call (k := 4) (pc1 := 175) (L1 := [Vr 114, Vi (t : Int), Vi i]) (S1 := [Vi 0, Vi 271, Vr (z : Int)]) (h1 := ((SHv st dr (z : Int)), (ovl (updC a39 114 8 (w32 ((a39 114 8) - 1))) s b))) (m' := 49) (as := [Vr (z : Int), Vi 271, Vi 0]) (S' := []) (L0 := [Vr (z : Int), Vi 271, Vi 0]) (fun _ => rfl) rfl rfl rfl rfl (stpC_of rfl (pm_recv_of (by omega) (shY_0 hz))) rfl (c_emit_br hz (B39.o8 hz).2.2.2 271 0) (fun r h' hq => ?_)
              obtain ⟨v41, a41, rfl, rfl, f1, f2, f3⟩ := hq
              have B41 := (B39.o8 hz).st hz f1 f2 f3
              show Ev X _ _ 178 [Vr 114, Vi (t : Int), Vi i] [Vi v41] ((SHv st dr (z : Int)), (ovl a41 s b)) _
              refine Ev.fin (k := 2) (r := none) (h' := ((SHv st dr (z : Int)), (ovl a41 s b))) (fun _ => rfl) ?_
              refine ⟨rfl, _, rfl, ?_⟩
              unfold fbdT brkT
              rw [if_neg (by omega), if_pos (by omega), hx37, bnX_o, hx38, bnX_o, hx39, bnX_e]
              exact Or.inr ⟨_, rfl, B41⟩
        · have B38 := G37.bz hb38
          show Ev X _ _ 90 [Vr 114, Vi (t : Int), Vi i] [] ((SHv st dr (z : Int)), (ovl a38 s b)) _
          refine Ev.call (k := 2) (pc1 := 93) (L1 := [Vr 114, Vi (t : Int), Vi i]) (S1 := [Vi 93, Vr 114]) (h1 := ((SHv st dr (z : Int)), (ovl a38 s b))) (m' := 42) (as := [Vr 114, Vi 93]) (S' := []) (L0 := [Vr 114, Vi 93]) (fun _ => rfl) rfl rfl rfl rfl rfl rfl (c_expect_br B38.2.2.1 93 (by decide)) (fun r h' hq => ?_)
          obtain ⟨rfl, rfl⟩ := hq
          show Ev X _ _ 96 [Vr 114, Vi (t : Int), Vi i] [] ((SHv st dr (z : Int)), (ovl a38 s b)) _
          refine Ev.steps (k := 5) (pc' := 103) (L' := [Vr 114, Vi (t : Int), Vi i]) (S' := [Vi (w32 ((a38 114 8) - 1)), Vr 114]) (h' := ((SHv st dr (z : Int)), (ovl a38 s b))) (fun _ => rfl) ?_
          refine Ev.putf (c' := (ovl (updC a38 114 8 (w32 ((a38 114 8) - 1))) s b)) rfl (by decide) rfl rfl rfl (ovl_wc (by decide)) ?_
          refine Ev.ite (P := (t : Int) = 0) (k := 3) (a := 179) (b := 167) (L' := [Vr 114, Vi (t : Int), Vi i]) (S' := []) (h' := ((SHv st dr (z : Int)), (ovl (updC a38 114 8 (w32 ((a38 114 8) - 1))) s b))) (fun _ => rfl) (fun b164 => ?_) (fun b164 => ?_)
          · refine Ev.fin (k := 1) (r := none) (h' := ((SHv st dr (z : Int)), (ovl (updC a38 114 8 (w32 ((a38 114 8) - 1))) s b))) (fun _ => rfl) ?_
            refine ⟨rfl, _, rfl, ?_⟩
            unfold fbdT brkT
            rw [if_neg (by omega), if_pos (by omega), hx37, bnX_o, hx38, bnX_e]
            exact Or.inr ⟨_, rfl, B38.o8 hz⟩
          · refine Ev.call (k := 4) (pc1 := 175) (L1 := [Vr 114, Vi (t : Int), Vi i]) (S1 := [Vi 0, Vi 271, Vr (z : Int)]) (h1 := ((SHv st dr (z : Int)), (ovl (updC a38 114 8 (w32 ((a38 114 8) - 1))) s b))) (m' := 49) (as := [Vr (z : Int), Vi 271, Vi 0]) (S' := []) (L0 := [Vr (z : Int), Vi 271, Vi 0]) (fun _ => rfl) rfl rfl rfl rfl (stpC_of rfl (pm_recv_of (by omega) (shY_0 hz))) rfl (c_emit_br hz (B38.o8 hz).2.2.2 271 0) (fun r h' hq => ?_)
            obtain ⟨v42, a42, rfl, rfl, f1, f2, f3⟩ := hq
            have B42 := (B38.o8 hz).st hz f1 f2 f3
            show Ev X _ _ 178 [Vr 114, Vi (t : Int), Vi i] [Vi v42] ((SHv st dr (z : Int)), (ovl a42 s b)) _
            refine Ev.fin (k := 2) (r := none) (h' := ((SHv st dr (z : Int)), (ovl a42 s b))) (fun _ => rfl) ?_
            refine ⟨rfl, _, rfl, ?_⟩
            unfold fbdT brkT
            rw [if_neg (by omega), if_pos (by omega), hx37, bnX_o, hx38, bnX_e]
            exact Or.inr ⟨_, rfl, B42⟩
      · have B37 := G0.bd X0 (by omega) hb37
        show Ev X _ _ 83 [Vr 114, Vi (t : Int), Vi i] [Vi 0] ((SHv st dr (z : Int)), (ovl a37 s b)) _
        refine Ev.ite (P := (t : Int) = 0) (k := 3) (a := 179) (b := 167) (L' := [Vr 114, Vi (t : Int), Vi i]) (S' := []) (h' := ((SHv st dr (z : Int)), (ovl a37 s b))) (fun _ => rfl) (fun b164 => ?_) (fun b164 => ?_)
        · refine Ev.fin (k := 1) (r := none) (h' := ((SHv st dr (z : Int)), (ovl a37 s b))) (fun _ => rfl) ?_
          refine ⟨rfl, _, rfl, ?_⟩
          unfold fbdT brkT
          rw [if_neg (by omega), if_pos (by omega), hx37, bnX_e]
          exact Or.inr ⟨_, rfl, B37⟩
        · refine Ev.call (k := 4) (pc1 := 175) (L1 := [Vr 114, Vi (t : Int), Vi i]) (S1 := [Vi 0, Vi 271, Vr (z : Int)]) (h1 := ((SHv st dr (z : Int)), (ovl a37 s b))) (m' := 49) (as := [Vr (z : Int), Vi 271, Vi 0]) (S' := []) (L0 := [Vr (z : Int), Vi 271, Vi 0]) (fun _ => rfl) rfl rfl rfl rfl (stpC_of rfl (pm_recv_of (by omega) (shY_0 hz))) rfl (c_emit_br hz (B37).2.2.2 271 0) (fun r h' hq => ?_)
          obtain ⟨v43, a43, rfl, rfl, f1, f2, f3⟩ := hq
          have B43 := (B37).st hz f1 f2 f3
          show Ev X _ _ 178 [Vr 114, Vi (t : Int), Vi i] [Vi v43] ((SHv st dr (z : Int)), (ovl a43 s b)) _
          refine Ev.fin (k := 2) (r := none) (h' := ((SHv st dr (z : Int)), (ovl a43 s b))) (fun _ => rfl) ?_
          refine ⟨rfl, _, rfl, ?_⟩
          unfold fbdT brkT
          rw [if_neg (by omega), if_pos (by omega), hx37, bnX_e]
          exact Or.inr ⟨_, rfl, B43⟩
      · have B37 := G0.bd X0 (by omega) hb37
        show Ev X _ _ 83 [Vr 114, Vi (t : Int), Vi i] [Vi 1] ((SHv st dr (z : Int)), (ovl a37 s b)) _
        refine Ev.call (k := 2) (pc1 := 87) (L1 := [Vr 114, Vi (t : Int), Vi i]) (S1 := [Vr 114]) (h1 := ((SHv st dr (z : Int)), (ovl a37 s b))) (m' := 52) (as := [Vr 114]) (S' := []) (L0 := [Vr 114, Vx, Vx]) (fun _ => rfl) rfl rfl rfl rfl rfl rfl (c_test_br hz B37) (fun r h' hq => ?_)
        obtain ⟨rfl, a44, rfl, B44⟩ := hq
        show Ev X _ _ 90 [Vr 114, Vi (t : Int), Vi i] [] ((SHv st dr (z : Int)), (ovl a44 s b)) _
        refine Ev.call (k := 2) (pc1 := 93) (L1 := [Vr 114, Vi (t : Int), Vi i]) (S1 := [Vi 93, Vr 114]) (h1 := ((SHv st dr (z : Int)), (ovl a44 s b))) (m' := 42) (as := [Vr 114, Vi 93]) (S' := []) (L0 := [Vr 114, Vi 93]) (fun _ => rfl) rfl rfl rfl rfl rfl rfl (c_expect_br B44.2.2.1 93 (by decide)) (fun r h' hq => ?_)
        obtain ⟨rfl, rfl⟩ := hq
        show Ev X _ _ 96 [Vr 114, Vi (t : Int), Vi i] [] ((SHv st dr (z : Int)), (ovl a44 s b)) _
        refine Ev.steps (k := 5) (pc' := 103) (L' := [Vr 114, Vi (t : Int), Vi i]) (S' := [Vi (w32 ((a44 114 8) - 1)), Vr 114]) (h' := ((SHv st dr (z : Int)), (ovl a44 s b))) (fun _ => rfl) ?_
        refine Ev.putf (c' := (ovl (updC a44 114 8 (w32 ((a44 114 8) - 1))) s b)) rfl (by decide) rfl rfl rfl (ovl_wc (by decide)) ?_
        refine Ev.ite (P := (t : Int) = 0) (k := 3) (a := 179) (b := 167) (L' := [Vr 114, Vi (t : Int), Vi i]) (S' := []) (h' := ((SHv st dr (z : Int)), (ovl (updC a44 114 8 (w32 ((a44 114 8) - 1))) s b))) (fun _ => rfl) (fun b164 => ?_) (fun b164 => ?_)
        · refine Ev.fin (k := 1) (r := none) (h' := ((SHv st dr (z : Int)), (ovl (updC a44 114 8 (w32 ((a44 114 8) - 1))) s b))) (fun _ => rfl) ?_
          refine ⟨rfl, _, rfl, ?_⟩
          unfold fbdT brkT
          rw [if_neg (by omega), if_pos (by omega), hx37, bnX_e]
          exact Or.inr ⟨_, rfl, B44.o8 hz⟩
        · refine Ev.call (k := 4) (pc1 := 175) (L1 := [Vr 114, Vi (t : Int), Vi i]) (S1 := [Vi 0, Vi 271, Vr (z : Int)]) (h1 := ((SHv st dr (z : Int)), (ovl (updC a44 114 8 (w32 ((a44 114 8) - 1))) s b))) (m' := 49) (as := [Vr (z : Int), Vi 271, Vi 0]) (S' := []) (L0 := [Vr (z : Int), Vi 271, Vi 0]) (fun _ => rfl) rfl rfl rfl rfl (stpC_of rfl (pm_recv_of (by omega) (shY_0 hz))) rfl (c_emit_br hz (B44.o8 hz).2.2.2 271 0) (fun r h' hq => ?_)
          obtain ⟨v45, a45, rfl, rfl, f1, f2, f3⟩ := hq
          have B45 := (B44.o8 hz).st hz f1 f2 f3
          show Ev X _ _ 178 [Vr 114, Vi (t : Int), Vi i] [Vi v45] ((SHv st dr (z : Int)), (ovl a45 s b)) _
          refine Ev.fin (k := 2) (r := none) (h' := ((SHv st dr (z : Int)), (ovl a45 s b))) (fun _ => rfl) ?_
          refine ⟨rfl, _, rfl, ?_⟩
          unfold fbdT brkT
          rw [if_neg (by omega), if_pos (by omega), hx37, bnX_e]
          exact Or.inr ⟨_, rfl, B45⟩
  · refine Ev.steps (k := 2) (pc' := 55) (L' := [Vr 114, Vi (t : Int), Vi i]) (S' := [Vi (a0 114 5)]) (h' := ((SHv st dr (z : Int)), (ovl a0 s b))) (fun _ => rfl) ?_
    rw [X0.t5]
    refine Ev.ite (P := 278 < ((tC W p0 : Nat) : Int)) (k := 2) (a := 68) (b := 61) (L' := [Vr 114, Vi (t : Int), Vi i]) (S' := []) (h' := ((SHv st dr (z : Int)), (ovl a0 s b))) (fun _ => rfl) (fun b58 => ?_) (fun b58 => ?_)
    · refine Ev.steps (k := 2) (pc' := 72) (L' := [Vr 114, Vi (t : Int), Vi i]) (S' := [Vi (a0 114 5)]) (h' := ((SHv st dr (z : Int)), (ovl a0 s b))) (fun _ => rfl) ?_
      rw [X0.t5]
      refine Ev.ite (P := ((tC W p0 : Nat) : Int) ≠ 91) (k := 2) (a := 109) (b := 77) (L' := [Vr 114, Vi (t : Int), Vi i]) (S' := []) (h' := ((SHv st dr (z : Int)), (ovl a0 s b))) (fun _ => rfl) (fun b74 => ?_) (fun b74 => ?_)
      · refine Ev.call (k := 1) (pc1 := 110) (L1 := [Vr 114, Vi (t : Int), Vi i]) (S1 := [Vr 114]) (h1 := ((SHv st dr (z : Int)), (ovl a0 s b))) (m' := 46) (as := [Vr 114]) (S' := []) (L0 := [Vr 114, Vx, Vx]) (fun _ => rfl) rfl rfl rfl rfl rfl rfl (hS _ _ _ _ (by omega) X0 (by omega)) (fun r h' hq => ?_)
        obtain ⟨rfl, a46, rfl, hq⟩ := hq
        rcases hq with ⟨⟨l46, p46⟩, hx46, c46, X46, g46, o46, h46⟩ | ⟨e46, hx46, hb46⟩
        · dsimp only at h46 X46 o46
          have L46 := o46.lt
          have G46 := G0.tr g46 (by omega)
          have Q46 := X46.le
          show Ev X _ _ 113 [Vr 114, Vi (t : Int), Vi i] [] ((SHv st dr (z : Int)), (ovl a46 s b)) _
          refine Ev.steps (k := 2) (pc' := 117) (L' := [Vr 114, Vi (t : Int), Vi i]) (S' := [Vi (a46 114 5)]) (h' := ((SHv st dr (z : Int)), (ovl a46 s b))) (fun _ => rfl) ?_
          rw [X46.t5]
          refine Ev.ite (P := ((tC W p46 : Nat) : Int) = 60) (k := 4) (a := 145) (b := 124) (L' := [Vr 114, Vi (t : Int), Vi ((tC W p46 : Nat) : Int)]) (S' := []) (h' := ((SHv st dr (z : Int)), (ovl a46 s b))) (fun _ => rfl) (fun b121 => ?_) (fun b121 => ?_)
          · refine Ev.call (k := 1) (pc1 := 146) (L1 := [Vr 114, Vi (t : Int), Vi ((tC W p46 : Nat) : Int)]) (S1 := [Vr 114]) (h1 := ((SHv st dr (z : Int)), (ovl a46 s b))) (m' := 27) (as := [Vr 114]) (S' := []) (L0 := [Vr 114, Vx, Vx, Vx, Vx]) (fun _ => rfl) rfl rfl rfl rfl rfl rfl (c_next X46.1) (fun r h' hq => ?_)
            obtain ⟨rfl, a47, rfl, hq⟩ := hq
            rcases hq with ⟨p47, hx47, ho47⟩ | ⟨e47, hx47, hb47⟩
            · have X47 := X46.nx ho47
              have L47 : p46 < p47 := X46.lt (by omega) hx47
              have G47 := G46.tr (ho47.1.gz (c := c46) X46.hz) (by omega)
              have R47 : a47 (z + 11) = a46 (z + 11) := ho47.1 _ (by omega)
              have Q47 := X47.le
              show Ev X _ _ 149 [Vr 114, Vi (t : Int), Vi ((tC W p46 : Nat) : Int)] [] ((SHv st dr (z : Int)), (ovl a47 s b)) _
              refine Ev.call (k := 1) (pc1 := 150) (L1 := [Vr 114, Vi (t : Int), Vi ((tC W p46 : Nat) : Int)]) (S1 := [Vr 114]) (h1 := ((SHv st dr (z : Int)), (ovl a47 s b))) (m' := 46) (as := [Vr 114]) (S' := []) (L0 := [Vr 114, Vx, Vx]) (fun _ => rfl) rfl rfl rfl rfl rfl rfl (hS _ _ _ _ (by omega) X47 (by omega)) (fun r h' hq => ?_)
              obtain ⟨rfl, a48, rfl, hq⟩ := hq
              rcases hq with ⟨⟨l48, p48⟩, hx48, c48, X48, g48, o48, h48⟩ | ⟨e48, hx48, hb48⟩
              · dsimp only at h48 X48 o48
                have L48 := o48.lt
                have G48 := G47.tr g48 (by omega)
                have Q48 := X48.le
                show Ev X _ _ 153 [Vr 114, Vi (t : Int), Vi ((tC W p46 : Nat) : Int)] [] ((SHv st dr (z : Int)), (ovl a48 s b)) _
                refine Ev.call (k := 4) (pc1 := 159) (L1 := [Vr 114, Vi (t : Int), Vi ((tC W p46 : Nat) : Int)]) (S1 := [Vi 0, Vi ((tC W p46 : Nat) : Int), Vr (z : Int)]) (h1 := ((SHv st dr (z : Int)), (ovl a48 s b))) (m' := 49) (as := [Vr (z : Int), Vi ((tC W p46 : Nat) : Int), Vi 0]) (S' := []) (L0 := [Vr (z : Int), Vi ((tC W p46 : Nat) : Int), Vi 0]) (fun _ => rfl) rfl rfl rfl rfl (stpC_of rfl (pm_recv_of (by omega) (shY_0 hz))) rfl (c_emitX (a := a48) X48 (by omega) (tC W p46) 0 (by omega) (by omega)) (fun r h' hq => ?_)
                obtain ⟨rfl, hq⟩ := hq
                rcases hq with ⟨a49, rfl, X49, g49, E49⟩
                · have G49 := G48.tr g49 (by omega)
                  have Q49 := X49.le
                  show Ev X _ _ 162 [Vr 114, Vi (t : Int), Vi ((tC W p46 : Nat) : Int)] [Vi ((c48 : Nat) : Int)] ((SHv st dr (z : Int)), (ovl a49 s b)) _
                  refine Ev.ite (P := (t : Int) = 0) (k := 3) (a := 179) (b := 167) (L' := [Vr 114, Vi (t : Int), Vi ((tC W p46 : Nat) : Int)]) (S' := []) (h' := ((SHv st dr (z : Int)), (ovl a49 s b))) (fun _ => rfl) (fun b164 => ?_) (fun b164 => ?_)
                  · refine Ev.fin (k := 1) (r := none) (h' := ((SHv st dr (z : Int)), (ovl a49 s b))) (fun _ => rfl) ?_
                    refine ⟨rfl, _, rfl, ?_⟩
                    unfold fbdT cmpT
                    rw [if_neg (by omega), if_neg (by omega), hx46, bnX_o, if_neg (by rw [opC_z]; dsimp only; omega), hx47, bnX_o, hx48, bnX_o]
                    have e1 : ∀ i, i < c48 → a49 (z + 11) i = a48 (z + 11) i := fun i hi => g49.2 i hi
                    have e2 : ∀ i, i < c46 → a49 (z + 11) i = a46 (z + 11) i := fun i hi => (e1 i (by omega)).trans ((g48.2 i (by omega)).trans (by rw [R47]))
                    have hoc := enc_opC (c := tC W p46) (by rw [ne_eq, opC_z]; omega)
                    exact Or.inl ⟨_, rfl, _, X49, G49, notL_0 (by omega) (CoC.bin (D' := Ds) hoc.1 hoc.2.1 ((o46.cg (fun i _ hi => e2 i hi)).mo (by omega)) (o48.cg (fun i _ hi => e1 i hi)) hDs (by rw [E49, hoc.2.2]; rfl)), by dsimp only; omega⟩
                  · refine Ev.call (k := 4) (pc1 := 175) (L1 := [Vr 114, Vi (t : Int), Vi ((tC W p46 : Nat) : Int)]) (S1 := [Vi 0, Vi 271, Vr (z : Int)]) (h1 := ((SHv st dr (z : Int)), (ovl a49 s b))) (m' := 49) (as := [Vr (z : Int), Vi 271, Vi 0]) (S' := []) (L0 := [Vr (z : Int), Vi 271, Vi 0]) (fun _ => rfl) rfl rfl rfl rfl (stpC_of rfl (pm_recv_of (by omega) (shY_0 hz))) rfl (c_emitX (a := a49) X49 (by omega) 271 0 (by omega) (by omega)) (fun r h' hq => ?_)
                    obtain ⟨rfl, hq⟩ := hq
                    rcases hq with ⟨a50, rfl, X50, g50, E50⟩
                    · have G50 := G49.tr g50 (by omega)
                      have Q50 := X50.le
                      show Ev X _ _ 178 [Vr 114, Vi (t : Int), Vi ((tC W p46 : Nat) : Int)] [Vi (((c48 + 1) : Nat) : Int)] ((SHv st dr (z : Int)), (ovl a50 s b)) _
                      refine Ev.fin (k := 2) (r := none) (h' := ((SHv st dr (z : Int)), (ovl a50 s b))) (fun _ => rfl) ?_
                      refine ⟨rfl, _, rfl, ?_⟩
                      unfold fbdT cmpT
                      rw [if_neg (by omega), if_neg (by omega), hx46, bnX_o, if_neg (by rw [opC_z]; dsimp only; omega), hx47, bnX_o, hx48, bnX_o]
                      have e1 : ∀ i, i < c48 → a49 (z + 11) i = a48 (z + 11) i := fun i hi => g49.2 i hi
                      have e2 : ∀ i, i < c46 → a49 (z + 11) i = a46 (z + 11) i := fun i hi => (e1 i (by omega)).trans ((g48.2 i (by omega)).trans (by rw [R47]))
                      have hoc := enc_opC (c := tC W p46) (by rw [ne_eq, opC_z]; omega)
                      exact Or.inl ⟨_, rfl, _, X50, G50, notL_1 (by omega) (((CoC.bin (D' := Ds) hoc.1 hoc.2.1 ((o46.cg (fun i _ hi => e2 i hi)).mo (by omega)) (o48.cg (fun i _ hi => e1 i hi)) hDs (by rw [E49, hoc.2.2]; rfl)).cg (fun i _ hi => g50.2 i hi)).not (by rw [E50]; rfl)), by dsimp only; omega⟩
              · have B48 := G47.bz hb48
                show Ev X _ _ 153 [Vr 114, Vi (t : Int), Vi ((tC W p46 : Nat) : Int)] [] ((SHv st dr (z : Int)), (ovl a48 s b)) _
                refine Ev.call (k := 4) (pc1 := 159) (L1 := [Vr 114, Vi (t : Int), Vi ((tC W p46 : Nat) : Int)]) (S1 := [Vi 0, Vi ((tC W p46 : Nat) : Int), Vr (z : Int)]) (h1 := ((SHv st dr (z : Int)), (ovl a48 s b))) (m' := 49) (as := [Vr (z : Int), Vi ((tC W p46 : Nat) : Int), Vi 0]) (S' := []) (L0 := [Vr (z : Int), Vi ((tC W p46 : Nat) : Int), Vi 0]) (fun _ => rfl) rfl rfl rfl rfl (stpC_of rfl (pm_recv_of (by omega) (shY_0 hz))) rfl (c_emit_br hz (B48).2.2.2 ((tC W p46 : Nat) : Int) 0) (fun r h' hq => ?_)
                obtain ⟨v51, a51, rfl, rfl, f1, f2, f3⟩ := hq
                have B51 := (B48).st hz f1 f2 f3
                show Ev X _ _ 162 [Vr 114, Vi (t : Int), Vi ((tC W p46 : Nat) : Int)] [Vi v51] ((SHv st dr (z : Int)), (ovl a51 s b)) _
                refine Ev.ite (P := (t : Int) = 0) (k := 3) (a := 179) (b := 167) (L' := [Vr 114, Vi (t : Int), Vi ((tC W p46 : Nat) : Int)]) (S' := []) (h' := ((SHv st dr (z : Int)), (ovl a51 s b))) (fun _ => rfl) (fun b164 => ?_) (fun b164 => ?_)
                · refine Ev.fin (k := 1) (r := none) (h' := ((SHv st dr (z : Int)), (ovl a51 s b))) (fun _ => rfl) ?_
                  refine ⟨rfl, _, rfl, ?_⟩
                  unfold fbdT cmpT
                  rw [if_neg (by omega), if_neg (by omega), hx46, bnX_o, if_neg (by rw [opC_z]; dsimp only; omega), hx47, bnX_o, hx48, bnX_e]
                  exact Or.inr ⟨_, rfl, B51⟩
                · refine Ev.call (k := 4) (pc1 := 175) (L1 := [Vr 114, Vi (t : Int), Vi ((tC W p46 : Nat) : Int)]) (S1 := [Vi 0, Vi 271, Vr (z : Int)]) (h1 := ((SHv st dr (z : Int)), (ovl a51 s b))) (m' := 49) (as := [Vr (z : Int), Vi 271, Vi 0]) (S' := []) (L0 := [Vr (z : Int), Vi 271, Vi 0]) (fun _ => rfl) rfl rfl rfl rfl (stpC_of rfl (pm_recv_of (by omega) (shY_0 hz))) rfl (c_emit_br hz (B51).2.2.2 271 0) (fun r h' hq => ?_)
                  obtain ⟨v52, a52, rfl, rfl, f1, f2, f3⟩ := hq
                  have B52 := (B51).st hz f1 f2 f3
                  show Ev X _ _ 178 [Vr 114, Vi (t : Int), Vi ((tC W p46 : Nat) : Int)] [Vi v52] ((SHv st dr (z : Int)), (ovl a52 s b)) _
                  refine Ev.fin (k := 2) (r := none) (h' := ((SHv st dr (z : Int)), (ovl a52 s b))) (fun _ => rfl) ?_
                  refine ⟨rfl, _, rfl, ?_⟩
                  unfold fbdT cmpT
                  rw [if_neg (by omega), if_neg (by omega), hx46, bnX_o, if_neg (by rw [opC_z]; dsimp only; omega), hx47, bnX_o, hx48, bnX_e]
                  exact Or.inr ⟨_, rfl, B52⟩
            · have B47 := G46.bd X46 (by omega) hb47
              show Ev X _ _ 149 [Vr 114, Vi (t : Int), Vi ((tC W p46 : Nat) : Int)] [] ((SHv st dr (z : Int)), (ovl a47 s b)) _
              refine Ev.call (k := 1) (pc1 := 150) (L1 := [Vr 114, Vi (t : Int), Vi ((tC W p46 : Nat) : Int)]) (S1 := [Vr 114]) (h1 := ((SHv st dr (z : Int)), (ovl a47 s b))) (m' := 46) (as := [Vr 114]) (S' := []) (L0 := [Vr 114, Vx, Vx]) (fun _ => rfl) rfl rfl rfl rfl rfl rfl (c_sum_br B47.2.2.1) (fun r h' hq => ?_)
              obtain ⟨rfl, rfl⟩ := hq
              show Ev X _ _ 153 [Vr 114, Vi (t : Int), Vi ((tC W p46 : Nat) : Int)] [] ((SHv st dr (z : Int)), (ovl a47 s b)) _
              refine Ev.call (k := 4) (pc1 := 159) (L1 := [Vr 114, Vi (t : Int), Vi ((tC W p46 : Nat) : Int)]) (S1 := [Vi 0, Vi ((tC W p46 : Nat) : Int), Vr (z : Int)]) (h1 := ((SHv st dr (z : Int)), (ovl a47 s b))) (m' := 49) (as := [Vr (z : Int), Vi ((tC W p46 : Nat) : Int), Vi 0]) (S' := []) (L0 := [Vr (z : Int), Vi ((tC W p46 : Nat) : Int), Vi 0]) (fun _ => rfl) rfl rfl rfl rfl (stpC_of rfl (pm_recv_of (by omega) (shY_0 hz))) rfl (c_emit_br hz (B47).2.2.2 ((tC W p46 : Nat) : Int) 0) (fun r h' hq => ?_)
              obtain ⟨v53, a53, rfl, rfl, f1, f2, f3⟩ := hq
              have B53 := (B47).st hz f1 f2 f3
              show Ev X _ _ 162 [Vr 114, Vi (t : Int), Vi ((tC W p46 : Nat) : Int)] [Vi v53] ((SHv st dr (z : Int)), (ovl a53 s b)) _
              refine Ev.ite (P := (t : Int) = 0) (k := 3) (a := 179) (b := 167) (L' := [Vr 114, Vi (t : Int), Vi ((tC W p46 : Nat) : Int)]) (S' := []) (h' := ((SHv st dr (z : Int)), (ovl a53 s b))) (fun _ => rfl) (fun b164 => ?_) (fun b164 => ?_)
              · refine Ev.fin (k := 1) (r := none) (h' := ((SHv st dr (z : Int)), (ovl a53 s b))) (fun _ => rfl) ?_
                refine ⟨rfl, _, rfl, ?_⟩
                unfold fbdT cmpT
                rw [if_neg (by omega), if_neg (by omega), hx46, bnX_o, if_neg (by rw [opC_z]; dsimp only; omega), hx47, bnX_e]
                exact Or.inr ⟨_, rfl, B53⟩
              · refine Ev.call (k := 4) (pc1 := 175) (L1 := [Vr 114, Vi (t : Int), Vi ((tC W p46 : Nat) : Int)]) (S1 := [Vi 0, Vi 271, Vr (z : Int)]) (h1 := ((SHv st dr (z : Int)), (ovl a53 s b))) (m' := 49) (as := [Vr (z : Int), Vi 271, Vi 0]) (S' := []) (L0 := [Vr (z : Int), Vi 271, Vi 0]) (fun _ => rfl) rfl rfl rfl rfl (stpC_of rfl (pm_recv_of (by omega) (shY_0 hz))) rfl (c_emit_br hz (B53).2.2.2 271 0) (fun r h' hq => ?_)
                obtain ⟨v54, a54, rfl, rfl, f1, f2, f3⟩ := hq
                have B54 := (B53).st hz f1 f2 f3
                show Ev X _ _ 178 [Vr 114, Vi (t : Int), Vi ((tC W p46 : Nat) : Int)] [Vi v54] ((SHv st dr (z : Int)), (ovl a54 s b)) _
                refine Ev.fin (k := 2) (r := none) (h' := ((SHv st dr (z : Int)), (ovl a54 s b))) (fun _ => rfl) ?_
                refine ⟨rfl, _, rfl, ?_⟩
                unfold fbdT cmpT
                rw [if_neg (by omega), if_neg (by omega), hx46, bnX_o, if_neg (by rw [opC_z]; dsimp only; omega), hx47, bnX_e]
                exact Or.inr ⟨_, rfl, B54⟩
          · refine Ev.ite (P := ((tC W p46 : Nat) : Int) = 62) (k := 3) (a := 145) (b := 130) (L' := [Vr 114, Vi (t : Int), Vi ((tC W p46 : Nat) : Int)]) (S' := []) (h' := ((SHv st dr (z : Int)), (ovl a46 s b))) (fun _ => rfl) (fun b127 => ?_) (fun b127 => ?_)
            · refine Ev.call (k := 1) (pc1 := 146) (L1 := [Vr 114, Vi (t : Int), Vi ((tC W p46 : Nat) : Int)]) (S1 := [Vr 114]) (h1 := ((SHv st dr (z : Int)), (ovl a46 s b))) (m' := 27) (as := [Vr 114]) (S' := []) (L0 := [Vr 114, Vx, Vx, Vx, Vx]) (fun _ => rfl) rfl rfl rfl rfl rfl rfl (c_next X46.1) (fun r h' hq => ?_)
              obtain ⟨rfl, a55, rfl, hq⟩ := hq
              rcases hq with ⟨p55, hx55, ho55⟩ | ⟨e55, hx55, hb55⟩
              · have X55 := X46.nx ho55
                have L55 : p46 < p55 := X46.lt (by omega) hx55
                have G55 := G46.tr (ho55.1.gz (c := c46) X46.hz) (by omega)
                have R55 : a55 (z + 11) = a46 (z + 11) := ho55.1 _ (by omega)
                have Q55 := X55.le
                show Ev X _ _ 149 [Vr 114, Vi (t : Int), Vi ((tC W p46 : Nat) : Int)] [] ((SHv st dr (z : Int)), (ovl a55 s b)) _
                refine Ev.call (k := 1) (pc1 := 150) (L1 := [Vr 114, Vi (t : Int), Vi ((tC W p46 : Nat) : Int)]) (S1 := [Vr 114]) (h1 := ((SHv st dr (z : Int)), (ovl a55 s b))) (m' := 46) (as := [Vr 114]) (S' := []) (L0 := [Vr 114, Vx, Vx]) (fun _ => rfl) rfl rfl rfl rfl rfl rfl (hS _ _ _ _ (by omega) X55 (by omega)) (fun r h' hq => ?_)
                obtain ⟨rfl, a56, rfl, hq⟩ := hq
                rcases hq with ⟨⟨l56, p56⟩, hx56, c56, X56, g56, o56, h56⟩ | ⟨e56, hx56, hb56⟩
                · dsimp only at h56 X56 o56
                  have L56 := o56.lt
                  have G56 := G55.tr g56 (by omega)
                  have Q56 := X56.le
                  show Ev X _ _ 153 [Vr 114, Vi (t : Int), Vi ((tC W p46 : Nat) : Int)] [] ((SHv st dr (z : Int)), (ovl a56 s b)) _
                  refine Ev.call (k := 4) (pc1 := 159) (L1 := [Vr 114, Vi (t : Int), Vi ((tC W p46 : Nat) : Int)]) (S1 := [Vi 0, Vi ((tC W p46 : Nat) : Int), Vr (z : Int)]) (h1 := ((SHv st dr (z : Int)), (ovl a56 s b))) (m' := 49) (as := [Vr (z : Int), Vi ((tC W p46 : Nat) : Int), Vi 0]) (S' := []) (L0 := [Vr (z : Int), Vi ((tC W p46 : Nat) : Int), Vi 0]) (fun _ => rfl) rfl rfl rfl rfl (stpC_of rfl (pm_recv_of (by omega) (shY_0 hz))) rfl (c_emitX (a := a56) X56 (by omega) (tC W p46) 0 (by omega) (by omega)) (fun r h' hq => ?_)
                  obtain ⟨rfl, hq⟩ := hq
                  rcases hq with ⟨a57, rfl, X57, g57, E57⟩
                  · have G57 := G56.tr g57 (by omega)
                    have Q57 := X57.le
                    show Ev X _ _ 162 [Vr 114, Vi (t : Int), Vi ((tC W p46 : Nat) : Int)] [Vi ((c56 : Nat) : Int)] ((SHv st dr (z : Int)), (ovl a57 s b)) _
                    refine Ev.ite (P := (t : Int) = 0) (k := 3) (a := 179) (b := 167) (L' := [Vr 114, Vi (t : Int), Vi ((tC W p46 : Nat) : Int)]) (S' := []) (h' := ((SHv st dr (z : Int)), (ovl a57 s b))) (fun _ => rfl) (fun b164 => ?_) (fun b164 => ?_)
                    · refine Ev.fin (k := 1) (r := none) (h' := ((SHv st dr (z : Int)), (ovl a57 s b))) (fun _ => rfl) ?_
                      refine ⟨rfl, _, rfl, ?_⟩
                      unfold fbdT cmpT
                      rw [if_neg (by omega), if_neg (by omega), hx46, bnX_o, if_neg (by rw [opC_z]; dsimp only; omega), hx55, bnX_o, hx56, bnX_o]
                      have e1 : ∀ i, i < c56 → a57 (z + 11) i = a56 (z + 11) i := fun i hi => g57.2 i hi
                      have e2 : ∀ i, i < c46 → a57 (z + 11) i = a46 (z + 11) i := fun i hi => (e1 i (by omega)).trans ((g56.2 i (by omega)).trans (by rw [R55]))
                      have hoc := enc_opC (c := tC W p46) (by rw [ne_eq, opC_z]; omega)
                      exact Or.inl ⟨_, rfl, _, X57, G57, notL_0 (by omega) (CoC.bin (D' := Ds) hoc.1 hoc.2.1 ((o46.cg (fun i _ hi => e2 i hi)).mo (by omega)) (o56.cg (fun i _ hi => e1 i hi)) hDs (by rw [E57, hoc.2.2]; rfl)), by dsimp only; omega⟩
                    · refine Ev.call (k := 4) (pc1 := 175) (L1 := [Vr 114, Vi (t : Int), Vi ((tC W p46 : Nat) : Int)]) (S1 := [Vi 0, Vi 271, Vr (z : Int)]) (h1 := ((SHv st dr (z : Int)), (ovl a57 s b))) (m' := 49) (as := [Vr (z : Int), Vi 271, Vi 0]) (S' := []) (L0 := [Vr (z : Int), Vi 271, Vi 0]) (fun _ => rfl) rfl rfl rfl rfl (stpC_of rfl (pm_recv_of (by omega) (shY_0 hz))) rfl (c_emitX (a := a57) X57 (by omega) 271 0 (by omega) (by omega)) (fun r h' hq => ?_)
                      obtain ⟨rfl, hq⟩ := hq
                      rcases hq with ⟨a58, rfl, X58, g58, E58⟩
                      · have G58 := G57.tr g58 (by omega)
                        have Q58 := X58.le
                        show Ev X _ _ 178 [Vr 114, Vi (t : Int), Vi ((tC W p46 : Nat) : Int)] [Vi (((c56 + 1) : Nat) : Int)] ((SHv st dr (z : Int)), (ovl a58 s b)) _
                        refine Ev.fin (k := 2) (r := none) (h' := ((SHv st dr (z : Int)), (ovl a58 s b))) (fun _ => rfl) ?_
                        refine ⟨rfl, _, rfl, ?_⟩
                        unfold fbdT cmpT
                        rw [if_neg (by omega), if_neg (by omega), hx46, bnX_o, if_neg (by rw [opC_z]; dsimp only; omega), hx55, bnX_o, hx56, bnX_o]
                        have e1 : ∀ i, i < c56 → a57 (z + 11) i = a56 (z + 11) i := fun i hi => g57.2 i hi
                        have e2 : ∀ i, i < c46 → a57 (z + 11) i = a46 (z + 11) i := fun i hi => (e1 i (by omega)).trans ((g56.2 i (by omega)).trans (by rw [R55]))
                        have hoc := enc_opC (c := tC W p46) (by rw [ne_eq, opC_z]; omega)
                        exact Or.inl ⟨_, rfl, _, X58, G58, notL_1 (by omega) (((CoC.bin (D' := Ds) hoc.1 hoc.2.1 ((o46.cg (fun i _ hi => e2 i hi)).mo (by omega)) (o56.cg (fun i _ hi => e1 i hi)) hDs (by rw [E57, hoc.2.2]; rfl)).cg (fun i _ hi => g58.2 i hi)).not (by rw [E58]; rfl)), by dsimp only; omega⟩
                · have B56 := G55.bz hb56
                  show Ev X _ _ 153 [Vr 114, Vi (t : Int), Vi ((tC W p46 : Nat) : Int)] [] ((SHv st dr (z : Int)), (ovl a56 s b)) _
                  refine Ev.call (k := 4) (pc1 := 159) (L1 := [Vr 114, Vi (t : Int), Vi ((tC W p46 : Nat) : Int)]) (S1 := [Vi 0, Vi ((tC W p46 : Nat) : Int), Vr (z : Int)]) (h1 := ((SHv st dr (z : Int)), (ovl a56 s b))) (m' := 49) (as := [Vr (z : Int), Vi ((tC W p46 : Nat) : Int), Vi 0]) (S' := []) (L0 := [Vr (z : Int), Vi ((tC W p46 : Nat) : Int), Vi 0]) (fun _ => rfl) rfl rfl rfl rfl (stpC_of rfl (pm_recv_of (by omega) (shY_0 hz))) rfl (c_emit_br hz (B56).2.2.2 ((tC W p46 : Nat) : Int) 0) (fun r h' hq => ?_)
                  obtain ⟨v59, a59, rfl, rfl, f1, f2, f3⟩ := hq
                  have B59 := (B56).st hz f1 f2 f3
                  show Ev X _ _ 162 [Vr 114, Vi (t : Int), Vi ((tC W p46 : Nat) : Int)] [Vi v59] ((SHv st dr (z : Int)), (ovl a59 s b)) _
                  refine Ev.ite (P := (t : Int) = 0) (k := 3) (a := 179) (b := 167) (L' := [Vr 114, Vi (t : Int), Vi ((tC W p46 : Nat) : Int)]) (S' := []) (h' := ((SHv st dr (z : Int)), (ovl a59 s b))) (fun _ => rfl) (fun b164 => ?_) (fun b164 => ?_)
                  · refine Ev.fin (k := 1) (r := none) (h' := ((SHv st dr (z : Int)), (ovl a59 s b))) (fun _ => rfl) ?_
                    refine ⟨rfl, _, rfl, ?_⟩
                    unfold fbdT cmpT
                    rw [if_neg (by omega), if_neg (by omega), hx46, bnX_o, if_neg (by rw [opC_z]; dsimp only; omega), hx55, bnX_o, hx56, bnX_e]
                    exact Or.inr ⟨_, rfl, B59⟩
                  · refine Ev.call (k := 4) (pc1 := 175) (L1 := [Vr 114, Vi (t : Int), Vi ((tC W p46 : Nat) : Int)]) (S1 := [Vi 0, Vi 271, Vr (z : Int)]) (h1 := ((SHv st dr (z : Int)), (ovl a59 s b))) (m' := 49) (as := [Vr (z : Int), Vi 271, Vi 0]) (S' := []) (L0 := [Vr (z : Int), Vi 271, Vi 0]) (fun _ => rfl) rfl rfl rfl rfl (stpC_of rfl (pm_recv_of (by omega) (shY_0 hz))) rfl (c_emit_br hz (B59).2.2.2 271 0) (fun r h' hq => ?_)
                    obtain ⟨v60, a60, rfl, rfl, f1, f2, f3⟩ := hq
                    have B60 := (B59).st hz f1 f2 f3
                    show Ev X _ _ 178 [Vr 114, Vi (t : Int), Vi ((tC W p46 : Nat) : Int)] [Vi v60] ((SHv st dr (z : Int)), (ovl a60 s b)) _
                    refine Ev.fin (k := 2) (r := none) (h' := ((SHv st dr (z : Int)), (ovl a60 s b))) (fun _ => rfl) ?_
                    refine ⟨rfl, _, rfl, ?_⟩
                    unfold fbdT cmpT
                    rw [if_neg (by omega), if_neg (by omega), hx46, bnX_o, if_neg (by rw [opC_z]; dsimp only; omega), hx55, bnX_o, hx56, bnX_e]
                    exact Or.inr ⟨_, rfl, B60⟩
              · have B55 := G46.bd X46 (by omega) hb55
                show Ev X _ _ 149 [Vr 114, Vi (t : Int), Vi ((tC W p46 : Nat) : Int)] [] ((SHv st dr (z : Int)), (ovl a55 s b)) _
                refine Ev.call (k := 1) (pc1 := 150) (L1 := [Vr 114, Vi (t : Int), Vi ((tC W p46 : Nat) : Int)]) (S1 := [Vr 114]) (h1 := ((SHv st dr (z : Int)), (ovl a55 s b))) (m' := 46) (as := [Vr 114]) (S' := []) (L0 := [Vr 114, Vx, Vx]) (fun _ => rfl) rfl rfl rfl rfl rfl rfl (c_sum_br B55.2.2.1) (fun r h' hq => ?_)
                obtain ⟨rfl, rfl⟩ := hq
                show Ev X _ _ 153 [Vr 114, Vi (t : Int), Vi ((tC W p46 : Nat) : Int)] [] ((SHv st dr (z : Int)), (ovl a55 s b)) _
                refine Ev.call (k := 4) (pc1 := 159) (L1 := [Vr 114, Vi (t : Int), Vi ((tC W p46 : Nat) : Int)]) (S1 := [Vi 0, Vi ((tC W p46 : Nat) : Int), Vr (z : Int)]) (h1 := ((SHv st dr (z : Int)), (ovl a55 s b))) (m' := 49) (as := [Vr (z : Int), Vi ((tC W p46 : Nat) : Int), Vi 0]) (S' := []) (L0 := [Vr (z : Int), Vi ((tC W p46 : Nat) : Int), Vi 0]) (fun _ => rfl) rfl rfl rfl rfl (stpC_of rfl (pm_recv_of (by omega) (shY_0 hz))) rfl (c_emit_br hz (B55).2.2.2 ((tC W p46 : Nat) : Int) 0) (fun r h' hq => ?_)
                obtain ⟨v61, a61, rfl, rfl, f1, f2, f3⟩ := hq
                have B61 := (B55).st hz f1 f2 f3
                show Ev X _ _ 162 [Vr 114, Vi (t : Int), Vi ((tC W p46 : Nat) : Int)] [Vi v61] ((SHv st dr (z : Int)), (ovl a61 s b)) _
                refine Ev.ite (P := (t : Int) = 0) (k := 3) (a := 179) (b := 167) (L' := [Vr 114, Vi (t : Int), Vi ((tC W p46 : Nat) : Int)]) (S' := []) (h' := ((SHv st dr (z : Int)), (ovl a61 s b))) (fun _ => rfl) (fun b164 => ?_) (fun b164 => ?_)
                · refine Ev.fin (k := 1) (r := none) (h' := ((SHv st dr (z : Int)), (ovl a61 s b))) (fun _ => rfl) ?_
                  refine ⟨rfl, _, rfl, ?_⟩
                  unfold fbdT cmpT
                  rw [if_neg (by omega), if_neg (by omega), hx46, bnX_o, if_neg (by rw [opC_z]; dsimp only; omega), hx55, bnX_e]
                  exact Or.inr ⟨_, rfl, B61⟩
                · refine Ev.call (k := 4) (pc1 := 175) (L1 := [Vr 114, Vi (t : Int), Vi ((tC W p46 : Nat) : Int)]) (S1 := [Vi 0, Vi 271, Vr (z : Int)]) (h1 := ((SHv st dr (z : Int)), (ovl a61 s b))) (m' := 49) (as := [Vr (z : Int), Vi 271, Vi 0]) (S' := []) (L0 := [Vr (z : Int), Vi 271, Vi 0]) (fun _ => rfl) rfl rfl rfl rfl (stpC_of rfl (pm_recv_of (by omega) (shY_0 hz))) rfl (c_emit_br hz (B61).2.2.2 271 0) (fun r h' hq => ?_)
                  obtain ⟨v62, a62, rfl, rfl, f1, f2, f3⟩ := hq
                  have B62 := (B61).st hz f1 f2 f3
                  show Ev X _ _ 178 [Vr 114, Vi (t : Int), Vi ((tC W p46 : Nat) : Int)] [Vi v62] ((SHv st dr (z : Int)), (ovl a62 s b)) _
                  refine Ev.fin (k := 2) (r := none) (h' := ((SHv st dr (z : Int)), (ovl a62 s b))) (fun _ => rfl) ?_
                  refine ⟨rfl, _, rfl, ?_⟩
                  unfold fbdT cmpT
                  rw [if_neg (by omega), if_neg (by omega), hx46, bnX_o, if_neg (by rw [opC_z]; dsimp only; omega), hx55, bnX_e]
                  exact Or.inr ⟨_, rfl, B62⟩
            · refine Ev.ite (P := ((tC W p46 : Nat) : Int) = 61) (k := 3) (a := 145) (b := 136) (L' := [Vr 114, Vi (t : Int), Vi ((tC W p46 : Nat) : Int)]) (S' := []) (h' := ((SHv st dr (z : Int)), (ovl a46 s b))) (fun _ => rfl) (fun b133 => ?_) (fun b133 => ?_)
              · refine Ev.call (k := 1) (pc1 := 146) (L1 := [Vr 114, Vi (t : Int), Vi ((tC W p46 : Nat) : Int)]) (S1 := [Vr 114]) (h1 := ((SHv st dr (z : Int)), (ovl a46 s b))) (m' := 27) (as := [Vr 114]) (S' := []) (L0 := [Vr 114, Vx, Vx, Vx, Vx]) (fun _ => rfl) rfl rfl rfl rfl rfl rfl (c_next X46.1) (fun r h' hq => ?_)
                obtain ⟨rfl, a63, rfl, hq⟩ := hq
                rcases hq with ⟨p63, hx63, ho63⟩ | ⟨e63, hx63, hb63⟩
                · have X63 := X46.nx ho63
                  have L63 : p46 < p63 := X46.lt (by omega) hx63
                  have G63 := G46.tr (ho63.1.gz (c := c46) X46.hz) (by omega)
                  have R63 : a63 (z + 11) = a46 (z + 11) := ho63.1 _ (by omega)
                  have Q63 := X63.le
                  show Ev X _ _ 149 [Vr 114, Vi (t : Int), Vi ((tC W p46 : Nat) : Int)] [] ((SHv st dr (z : Int)), (ovl a63 s b)) _
                  refine Ev.call (k := 1) (pc1 := 150) (L1 := [Vr 114, Vi (t : Int), Vi ((tC W p46 : Nat) : Int)]) (S1 := [Vr 114]) (h1 := ((SHv st dr (z : Int)), (ovl a63 s b))) (m' := 46) (as := [Vr 114]) (S' := []) (L0 := [Vr 114, Vx, Vx]) (fun _ => rfl) rfl rfl rfl rfl rfl rfl (hS _ _ _ _ (by omega) X63 (by omega)) (fun r h' hq => ?_)
                  obtain ⟨rfl, a64, rfl, hq⟩ := hq
                  rcases hq with ⟨⟨l64, p64⟩, hx64, c64, X64, g64, o64, h64⟩ | ⟨e64, hx64, hb64⟩
                  · dsimp only at h64 X64 o64
                    have L64 := o64.lt
                    have G64 := G63.tr g64 (by omega)
                    have Q64 := X64.le
                    show Ev X _ _ 153 [Vr 114, Vi (t : Int), Vi ((tC W p46 : Nat) : Int)] [] ((SHv st dr (z : Int)), (ovl a64 s b)) _
                    refine Ev.call (k := 4) (pc1 := 159) (L1 := [Vr 114, Vi (t : Int), Vi ((tC W p46 : Nat) : Int)]) (S1 := [Vi 0, Vi ((tC W p46 : Nat) : Int), Vr (z : Int)]) (h1 := ((SHv st dr (z : Int)), (ovl a64 s b))) (m' := 49) (as := [Vr (z : Int), Vi ((tC W p46 : Nat) : Int), Vi 0]) (S' := []) (L0 := [Vr (z : Int), Vi ((tC W p46 : Nat) : Int), Vi 0]) (fun _ => rfl) rfl rfl rfl rfl (stpC_of rfl (pm_recv_of (by omega) (shY_0 hz))) rfl (c_emitX (a := a64) X64 (by omega) (tC W p46) 0 (by omega) (by omega)) (fun r h' hq => ?_)
                    obtain ⟨rfl, hq⟩ := hq
                    rcases hq with ⟨a65, rfl, X65, g65, E65⟩
                    · have G65 := G64.tr g65 (by omega)
                      have Q65 := X65.le
                      show Ev X _ _ 162 [Vr 114, Vi (t : Int), Vi ((tC W p46 : Nat) : Int)] [Vi ((c64 : Nat) : Int)] ((SHv st dr (z : Int)), (ovl a65 s b)) _
                      refine Ev.ite (P := (t : Int) = 0) (k := 3) (a := 179) (b := 167) (L' := [Vr 114, Vi (t : Int), Vi ((tC W p46 : Nat) : Int)]) (S' := []) (h' := ((SHv st dr (z : Int)), (ovl a65 s b))) (fun _ => rfl) (fun b164 => ?_) (fun b164 => ?_)
                      · refine Ev.fin (k := 1) (r := none) (h' := ((SHv st dr (z : Int)), (ovl a65 s b))) (fun _ => rfl) ?_
                        refine ⟨rfl, _, rfl, ?_⟩
                        unfold fbdT cmpT
                        rw [if_neg (by omega), if_neg (by omega), hx46, bnX_o, if_neg (by rw [opC_z]; dsimp only; omega), hx63, bnX_o, hx64, bnX_o]
                        have e1 : ∀ i, i < c64 → a65 (z + 11) i = a64 (z + 11) i := fun i hi => g65.2 i hi
                        have e2 : ∀ i, i < c46 → a65 (z + 11) i = a46 (z + 11) i := fun i hi => (e1 i (by omega)).trans ((g64.2 i (by omega)).trans (by rw [R63]))
                        have hoc := enc_opC (c := tC W p46) (by rw [ne_eq, opC_z]; omega)
                        exact Or.inl ⟨_, rfl, _, X65, G65, notL_0 (by omega) (CoC.bin (D' := Ds) hoc.1 hoc.2.1 ((o46.cg (fun i _ hi => e2 i hi)).mo (by omega)) (o64.cg (fun i _ hi => e1 i hi)) hDs (by rw [E65, hoc.2.2]; rfl)), by dsimp only; omega⟩
                      · refine Ev.call (k := 4) (pc1 := 175) (L1 := [Vr 114, Vi (t : Int), Vi ((tC W p46 : Nat) : Int)]) (S1 := [Vi 0, Vi 271, Vr (z : Int)]) (h1 := ((SHv st dr (z : Int)), (ovl a65 s b))) (m' := 49) (as := [Vr (z : Int), Vi 271, Vi 0]) (S' := []) (L0 := [Vr (z : Int), Vi 271, Vi 0]) (fun _ => rfl) rfl rfl rfl rfl (stpC_of rfl (pm_recv_of (by omega) (shY_0 hz))) rfl (c_emitX (a := a65) X65 (by omega) 271 0 (by omega) (by omega)) (fun r h' hq => ?_)
                        obtain ⟨rfl, hq⟩ := hq
                        rcases hq with ⟨a66, rfl, X66, g66, E66⟩
                        · have G66 := G65.tr g66 (by omega)
                          have Q66 := X66.le
                          show Ev X _ _ 178 [Vr 114, Vi (t : Int), Vi ((tC W p46 : Nat) : Int)] [Vi (((c64 + 1) : Nat) : Int)] ((SHv st dr (z : Int)), (ovl a66 s b)) _
                          refine Ev.fin (k := 2) (r := none) (h' := ((SHv st dr (z : Int)), (ovl a66 s b))) (fun _ => rfl) ?_
                          refine ⟨rfl, _, rfl, ?_⟩
                          unfold fbdT cmpT
                          rw [if_neg (by omega), if_neg (by omega), hx46, bnX_o, if_neg (by rw [opC_z]; dsimp only; omega), hx63, bnX_o, hx64, bnX_o]
                          have e1 : ∀ i, i < c64 → a65 (z + 11) i = a64 (z + 11) i := fun i hi => g65.2 i hi
                          have e2 : ∀ i, i < c46 → a65 (z + 11) i = a46 (z + 11) i := fun i hi => (e1 i (by omega)).trans ((g64.2 i (by omega)).trans (by rw [R63]))
                          have hoc := enc_opC (c := tC W p46) (by rw [ne_eq, opC_z]; omega)
                          exact Or.inl ⟨_, rfl, _, X66, G66, notL_1 (by omega) (((CoC.bin (D' := Ds) hoc.1 hoc.2.1 ((o46.cg (fun i _ hi => e2 i hi)).mo (by omega)) (o64.cg (fun i _ hi => e1 i hi)) hDs (by rw [E65, hoc.2.2]; rfl)).cg (fun i _ hi => g66.2 i hi)).not (by rw [E66]; rfl)), by dsimp only; omega⟩
                  · have B64 := G63.bz hb64
                    show Ev X _ _ 153 [Vr 114, Vi (t : Int), Vi ((tC W p46 : Nat) : Int)] [] ((SHv st dr (z : Int)), (ovl a64 s b)) _
                    refine Ev.call (k := 4) (pc1 := 159) (L1 := [Vr 114, Vi (t : Int), Vi ((tC W p46 : Nat) : Int)]) (S1 := [Vi 0, Vi ((tC W p46 : Nat) : Int), Vr (z : Int)]) (h1 := ((SHv st dr (z : Int)), (ovl a64 s b))) (m' := 49) (as := [Vr (z : Int), Vi ((tC W p46 : Nat) : Int), Vi 0]) (S' := []) (L0 := [Vr (z : Int), Vi ((tC W p46 : Nat) : Int), Vi 0]) (fun _ => rfl) rfl rfl rfl rfl (stpC_of rfl (pm_recv_of (by omega) (shY_0 hz))) rfl (c_emit_br hz (B64).2.2.2 ((tC W p46 : Nat) : Int) 0) (fun r h' hq => ?_)
                    obtain ⟨v67, a67, rfl, rfl, f1, f2, f3⟩ := hq
                    have B67 := (B64).st hz f1 f2 f3
                    show Ev X _ _ 162 [Vr 114, Vi (t : Int), Vi ((tC W p46 : Nat) : Int)] [Vi v67] ((SHv st dr (z : Int)), (ovl a67 s b)) _
                    refine Ev.ite (P := (t : Int) = 0) (k := 3) (a := 179) (b := 167) (L' := [Vr 114, Vi (t : Int), Vi ((tC W p46 : Nat) : Int)]) (S' := []) (h' := ((SHv st dr (z : Int)), (ovl a67 s b))) (fun _ => rfl) (fun b164 => ?_) (fun b164 => ?_)
                    · refine Ev.fin (k := 1) (r := none) (h' := ((SHv st dr (z : Int)), (ovl a67 s b))) (fun _ => rfl) ?_
                      refine ⟨rfl, _, rfl, ?_⟩
                      unfold fbdT cmpT
                      rw [if_neg (by omega), if_neg (by omega), hx46, bnX_o, if_neg (by rw [opC_z]; dsimp only; omega), hx63, bnX_o, hx64, bnX_e]
                      exact Or.inr ⟨_, rfl, B67⟩
                    · refine Ev.call (k := 4) (pc1 := 175) (L1 := [Vr 114, Vi (t : Int), Vi ((tC W p46 : Nat) : Int)]) (S1 := [Vi 0, Vi 271, Vr (z : Int)]) (h1 := ((SHv st dr (z : Int)), (ovl a67 s b))) (m' := 49) (as := [Vr (z : Int), Vi 271, Vi 0]) (S' := []) (L0 := [Vr (z : Int), Vi 271, Vi 0]) (fun _ => rfl) rfl rfl rfl rfl (stpC_of rfl (pm_recv_of (by omega) (shY_0 hz))) rfl (c_emit_br hz (B67).2.2.2 271 0) (fun r h' hq => ?_)
                      obtain ⟨v68, a68, rfl, rfl, f1, f2, f3⟩ := hq
                      have B68 := (B67).st hz f1 f2 f3
                      show Ev X _ _ 178 [Vr 114, Vi (t : Int), Vi ((tC W p46 : Nat) : Int)] [Vi v68] ((SHv st dr (z : Int)), (ovl a68 s b)) _
                      refine Ev.fin (k := 2) (r := none) (h' := ((SHv st dr (z : Int)), (ovl a68 s b))) (fun _ => rfl) ?_
                      refine ⟨rfl, _, rfl, ?_⟩
                      unfold fbdT cmpT
                      rw [if_neg (by omega), if_neg (by omega), hx46, bnX_o, if_neg (by rw [opC_z]; dsimp only; omega), hx63, bnX_o, hx64, bnX_e]
                      exact Or.inr ⟨_, rfl, B68⟩
                · have B63 := G46.bd X46 (by omega) hb63
                  show Ev X _ _ 149 [Vr 114, Vi (t : Int), Vi ((tC W p46 : Nat) : Int)] [] ((SHv st dr (z : Int)), (ovl a63 s b)) _
                  refine Ev.call (k := 1) (pc1 := 150) (L1 := [Vr 114, Vi (t : Int), Vi ((tC W p46 : Nat) : Int)]) (S1 := [Vr 114]) (h1 := ((SHv st dr (z : Int)), (ovl a63 s b))) (m' := 46) (as := [Vr 114]) (S' := []) (L0 := [Vr 114, Vx, Vx]) (fun _ => rfl) rfl rfl rfl rfl rfl rfl (c_sum_br B63.2.2.1) (fun r h' hq => ?_)
                  obtain ⟨rfl, rfl⟩ := hq
                  show Ev X _ _ 153 [Vr 114, Vi (t : Int), Vi ((tC W p46 : Nat) : Int)] [] ((SHv st dr (z : Int)), (ovl a63 s b)) _
                  refine Ev.call (k := 4) (pc1 := 159) (L1 := [Vr 114, Vi (t : Int), Vi ((tC W p46 : Nat) : Int)]) (S1 := [Vi 0, Vi ((tC W p46 : Nat) : Int), Vr (z : Int)]) (h1 := ((SHv st dr (z : Int)), (ovl a63 s b))) (m' := 49) (as := [Vr (z : Int), Vi ((tC W p46 : Nat) : Int), Vi 0]) (S' := []) (L0 := [Vr (z : Int), Vi ((tC W p46 : Nat) : Int), Vi 0]) (fun _ => rfl) rfl rfl rfl rfl (stpC_of rfl (pm_recv_of (by omega) (shY_0 hz))) rfl (c_emit_br hz (B63).2.2.2 ((tC W p46 : Nat) : Int) 0) (fun r h' hq => ?_)
                  obtain ⟨v69, a69, rfl, rfl, f1, f2, f3⟩ := hq
                  have B69 := (B63).st hz f1 f2 f3
                  show Ev X _ _ 162 [Vr 114, Vi (t : Int), Vi ((tC W p46 : Nat) : Int)] [Vi v69] ((SHv st dr (z : Int)), (ovl a69 s b)) _
                  refine Ev.ite (P := (t : Int) = 0) (k := 3) (a := 179) (b := 167) (L' := [Vr 114, Vi (t : Int), Vi ((tC W p46 : Nat) : Int)]) (S' := []) (h' := ((SHv st dr (z : Int)), (ovl a69 s b))) (fun _ => rfl) (fun b164 => ?_) (fun b164 => ?_)
                  · refine Ev.fin (k := 1) (r := none) (h' := ((SHv st dr (z : Int)), (ovl a69 s b))) (fun _ => rfl) ?_
                    refine ⟨rfl, _, rfl, ?_⟩
                    unfold fbdT cmpT
                    rw [if_neg (by omega), if_neg (by omega), hx46, bnX_o, if_neg (by rw [opC_z]; dsimp only; omega), hx63, bnX_e]
                    exact Or.inr ⟨_, rfl, B69⟩
                  · refine Ev.call (k := 4) (pc1 := 175) (L1 := [Vr 114, Vi (t : Int), Vi ((tC W p46 : Nat) : Int)]) (S1 := [Vi 0, Vi 271, Vr (z : Int)]) (h1 := ((SHv st dr (z : Int)), (ovl a69 s b))) (m' := 49) (as := [Vr (z : Int), Vi 271, Vi 0]) (S' := []) (L0 := [Vr (z : Int), Vi 271, Vi 0]) (fun _ => rfl) rfl rfl rfl rfl (stpC_of rfl (pm_recv_of (by omega) (shY_0 hz))) rfl (c_emit_br hz (B69).2.2.2 271 0) (fun r h' hq => ?_)
                    obtain ⟨v70, a70, rfl, rfl, f1, f2, f3⟩ := hq
                    have B70 := (B69).st hz f1 f2 f3
                    show Ev X _ _ 178 [Vr 114, Vi (t : Int), Vi ((tC W p46 : Nat) : Int)] [Vi v70] ((SHv st dr (z : Int)), (ovl a70 s b)) _
                    refine Ev.fin (k := 2) (r := none) (h' := ((SHv st dr (z : Int)), (ovl a70 s b))) (fun _ => rfl) ?_
                    refine ⟨rfl, _, rfl, ?_⟩
                    unfold fbdT cmpT
                    rw [if_neg (by omega), if_neg (by omega), hx46, bnX_o, if_neg (by rw [opC_z]; dsimp only; omega), hx63, bnX_e]
                    exact Or.inr ⟨_, rfl, B70⟩
              · refine Ev.steps (k := 4) (pc' := 142) (L' := [Vr 114, Vi (t : Int), Vi ((tC W p46 : Nat) : Int)]) (S' := [Vi (a46 114 6), Vi 1, Vr 114]) (h' := ((SHv st dr (z : Int)), (ovl a46 s b))) (fun _ => rfl) ?_
                rw [X46.t6]
                refine Ev.call (k := 0) (pc1 := 142) (L1 := [Vr 114, Vi (t : Int), Vi ((tC W p46 : Nat) : Int)]) (S1 := [Vi ((tA W p46 : Nat) : Int), Vi 1, Vr 114]) (h1 := ((SHv st dr (z : Int)), (ovl a46 s b))) (m' := 29) (as := [Vr 114, Vi 1, Vi ((tA W p46 : Nat) : Int)]) (S' := []) (L0 := [Vr 114, Vi 1, Vi ((tA W p46 : Nat) : Int)]) (fun _ => rfl) rfl rfl rfl rfl rfl rfl (c_fail_t X46.1 1 ((tA W p46 : Nat) : Int) (by decide)) (fun r h' hq => ?_)
                obtain ⟨rfl, a71, rfl, hq⟩ := hq
                rcases hq with hq
                · have hb71 := hq
                  have B71 := G46.bd X46 (by omega) hb71
                  show Ev X _ _ 145 [Vr 114, Vi (t : Int), Vi ((tC W p46 : Nat) : Int)] [] ((SHv st dr (z : Int)), (ovl a71 s b)) _
                  refine Ev.call (k := 1) (pc1 := 146) (L1 := [Vr 114, Vi (t : Int), Vi ((tC W p46 : Nat) : Int)]) (S1 := [Vr 114]) (h1 := ((SHv st dr (z : Int)), (ovl a71 s b))) (m' := 27) (as := [Vr 114]) (S' := []) (L0 := [Vr 114, Vx, Vx, Vx, Vx]) (fun _ => rfl) rfl rfl rfl rfl rfl rfl (c_step_br B71.2.2.1) (fun r h' hq => ?_)
                  obtain ⟨rfl, rfl⟩ := hq
                  show Ev X _ _ 149 [Vr 114, Vi (t : Int), Vi ((tC W p46 : Nat) : Int)] [] ((SHv st dr (z : Int)), (ovl a71 s b)) _
                  refine Ev.call (k := 1) (pc1 := 150) (L1 := [Vr 114, Vi (t : Int), Vi ((tC W p46 : Nat) : Int)]) (S1 := [Vr 114]) (h1 := ((SHv st dr (z : Int)), (ovl a71 s b))) (m' := 46) (as := [Vr 114]) (S' := []) (L0 := [Vr 114, Vx, Vx]) (fun _ => rfl) rfl rfl rfl rfl rfl rfl (c_sum_br B71.2.2.1) (fun r h' hq => ?_)
                  obtain ⟨rfl, rfl⟩ := hq
                  show Ev X _ _ 153 [Vr 114, Vi (t : Int), Vi ((tC W p46 : Nat) : Int)] [] ((SHv st dr (z : Int)), (ovl a71 s b)) _
                  refine Ev.call (k := 4) (pc1 := 159) (L1 := [Vr 114, Vi (t : Int), Vi ((tC W p46 : Nat) : Int)]) (S1 := [Vi 0, Vi ((tC W p46 : Nat) : Int), Vr (z : Int)]) (h1 := ((SHv st dr (z : Int)), (ovl a71 s b))) (m' := 49) (as := [Vr (z : Int), Vi ((tC W p46 : Nat) : Int), Vi 0]) (S' := []) (L0 := [Vr (z : Int), Vi ((tC W p46 : Nat) : Int), Vi 0]) (fun _ => rfl) rfl rfl rfl rfl (stpC_of rfl (pm_recv_of (by omega) (shY_0 hz))) rfl (c_emit_br hz (B71).2.2.2 ((tC W p46 : Nat) : Int) 0) (fun r h' hq => ?_)
                  obtain ⟨v72, a72, rfl, rfl, f1, f2, f3⟩ := hq
                  have B72 := (B71).st hz f1 f2 f3
                  show Ev X _ _ 162 [Vr 114, Vi (t : Int), Vi ((tC W p46 : Nat) : Int)] [Vi v72] ((SHv st dr (z : Int)), (ovl a72 s b)) _
                  refine Ev.ite (P := (t : Int) = 0) (k := 3) (a := 179) (b := 167) (L' := [Vr 114, Vi (t : Int), Vi ((tC W p46 : Nat) : Int)]) (S' := []) (h' := ((SHv st dr (z : Int)), (ovl a72 s b))) (fun _ => rfl) (fun b164 => ?_) (fun b164 => ?_)
                  · refine Ev.fin (k := 1) (r := none) (h' := ((SHv st dr (z : Int)), (ovl a72 s b))) (fun _ => rfl) ?_
                    refine ⟨rfl, _, rfl, ?_⟩
                    unfold fbdT cmpT
                    rw [if_neg (by omega), if_neg (by omega), hx46, bnX_o, if_pos (by rw [opC_z]; dsimp only; omega)]
                    exact Or.inr ⟨_, rfl, B72⟩
                  · refine Ev.call (k := 4) (pc1 := 175) (L1 := [Vr 114, Vi (t : Int), Vi ((tC W p46 : Nat) : Int)]) (S1 := [Vi 0, Vi 271, Vr (z : Int)]) (h1 := ((SHv st dr (z : Int)), (ovl a72 s b))) (m' := 49) (as := [Vr (z : Int), Vi 271, Vi 0]) (S' := []) (L0 := [Vr (z : Int), Vi 271, Vi 0]) (fun _ => rfl) rfl rfl rfl rfl (stpC_of rfl (pm_recv_of (by omega) (shY_0 hz))) rfl (c_emit_br hz (B72).2.2.2 271 0) (fun r h' hq => ?_)
                    obtain ⟨v73, a73, rfl, rfl, f1, f2, f3⟩ := hq
                    have B73 := (B72).st hz f1 f2 f3
                    show Ev X _ _ 178 [Vr 114, Vi (t : Int), Vi ((tC W p46 : Nat) : Int)] [Vi v73] ((SHv st dr (z : Int)), (ovl a73 s b)) _
                    refine Ev.fin (k := 2) (r := none) (h' := ((SHv st dr (z : Int)), (ovl a73 s b))) (fun _ => rfl) ?_
                    refine ⟨rfl, _, rfl, ?_⟩
                    unfold fbdT cmpT
                    rw [if_neg (by omega), if_neg (by omega), hx46, bnX_o, if_pos (by rw [opC_z]; dsimp only; omega)]
                    exact Or.inr ⟨_, rfl, B73⟩
        · have B46 := G0.bz hb46
          show Ev X _ _ 113 [Vr 114, Vi (t : Int), Vi i] [] ((SHv st dr (z : Int)), (ovl a46 s b)) _
          refine Ev.steps (k := 2) (pc' := 117) (L' := [Vr 114, Vi (t : Int), Vi i]) (S' := [Vi (a46 114 5)]) (h' := ((SHv st dr (z : Int)), (ovl a46 s b))) (fun _ => rfl) ?_
          rw [B46.2.2.1.2.2.2]
          refine Ev.call (k := 14) (pc1 := 142) (L1 := [Vr 114, Vi (t : Int), Vi 303]) (S1 := [Vi (a46 114 6), Vi 1, Vr 114]) (h1 := ((SHv st dr (z : Int)), (ovl a46 s b))) (m' := 29) (as := [Vr 114, Vi 1, Vi (a46 114 6)]) (S' := []) (L0 := [Vr 114, Vi 1, Vi (a46 114 6)]) (fun _ => rfl) rfl rfl rfl rfl rfl rfl (c_fail_same B46.2.2.1 1 (a46 114 6)) (fun r h' hq => ?_)
          obtain ⟨rfl, rfl⟩ := hq
          show Ev X _ _ 145 [Vr 114, Vi (t : Int), Vi 303] [] ((SHv st dr (z : Int)), (ovl a46 s b)) _
          refine Ev.call (k := 1) (pc1 := 146) (L1 := [Vr 114, Vi (t : Int), Vi 303]) (S1 := [Vr 114]) (h1 := ((SHv st dr (z : Int)), (ovl a46 s b))) (m' := 27) (as := [Vr 114]) (S' := []) (L0 := [Vr 114, Vx, Vx, Vx, Vx]) (fun _ => rfl) rfl rfl rfl rfl rfl rfl (c_step_br B46.2.2.1) (fun r h' hq => ?_)
          obtain ⟨rfl, rfl⟩ := hq
          show Ev X _ _ 149 [Vr 114, Vi (t : Int), Vi 303] [] ((SHv st dr (z : Int)), (ovl a46 s b)) _
          refine Ev.call (k := 1) (pc1 := 150) (L1 := [Vr 114, Vi (t : Int), Vi 303]) (S1 := [Vr 114]) (h1 := ((SHv st dr (z : Int)), (ovl a46 s b))) (m' := 46) (as := [Vr 114]) (S' := []) (L0 := [Vr 114, Vx, Vx]) (fun _ => rfl) rfl rfl rfl rfl rfl rfl (c_sum_br B46.2.2.1) (fun r h' hq => ?_)
          obtain ⟨rfl, rfl⟩ := hq
          show Ev X _ _ 153 [Vr 114, Vi (t : Int), Vi 303] [] ((SHv st dr (z : Int)), (ovl a46 s b)) _
          refine Ev.call (k := 4) (pc1 := 159) (L1 := [Vr 114, Vi (t : Int), Vi 303]) (S1 := [Vi 0, Vi 303, Vr (z : Int)]) (h1 := ((SHv st dr (z : Int)), (ovl a46 s b))) (m' := 49) (as := [Vr (z : Int), Vi 303, Vi 0]) (S' := []) (L0 := [Vr (z : Int), Vi 303, Vi 0]) (fun _ => rfl) rfl rfl rfl rfl (stpC_of rfl (pm_recv_of (by omega) (shY_0 hz))) rfl (c_emit_br hz (B46).2.2.2 303 0) (fun r h' hq => ?_)
          obtain ⟨v74, a74, rfl, rfl, f1, f2, f3⟩ := hq
          have B74 := (B46).st hz f1 f2 f3
          show Ev X _ _ 162 [Vr 114, Vi (t : Int), Vi 303] [Vi v74] ((SHv st dr (z : Int)), (ovl a74 s b)) _
          refine Ev.ite (P := (t : Int) = 0) (k := 3) (a := 179) (b := 167) (L' := [Vr 114, Vi (t : Int), Vi 303]) (S' := []) (h' := ((SHv st dr (z : Int)), (ovl a74 s b))) (fun _ => rfl) (fun b164 => ?_) (fun b164 => ?_)
          · refine Ev.fin (k := 1) (r := none) (h' := ((SHv st dr (z : Int)), (ovl a74 s b))) (fun _ => rfl) ?_
            refine ⟨rfl, _, rfl, ?_⟩
            unfold fbdT cmpT
            rw [if_neg (by omega), if_neg (by omega), hx46, bnX_e]
            exact Or.inr ⟨_, rfl, B74⟩
          · refine Ev.call (k := 4) (pc1 := 175) (L1 := [Vr 114, Vi (t : Int), Vi 303]) (S1 := [Vi 0, Vi 271, Vr (z : Int)]) (h1 := ((SHv st dr (z : Int)), (ovl a74 s b))) (m' := 49) (as := [Vr (z : Int), Vi 271, Vi 0]) (S' := []) (L0 := [Vr (z : Int), Vi 271, Vi 0]) (fun _ => rfl) rfl rfl rfl rfl (stpC_of rfl (pm_recv_of (by omega) (shY_0 hz))) rfl (c_emit_br hz (B74).2.2.2 271 0) (fun r h' hq => ?_)
            obtain ⟨v75, a75, rfl, rfl, f1, f2, f3⟩ := hq
            have B75 := (B74).st hz f1 f2 f3
            show Ev X _ _ 178 [Vr 114, Vi (t : Int), Vi 303] [Vi v75] ((SHv st dr (z : Int)), (ovl a75 s b)) _
            refine Ev.fin (k := 2) (r := none) (h' := ((SHv st dr (z : Int)), (ovl a75 s b))) (fun _ => rfl) ?_
            refine ⟨rfl, _, rfl, ?_⟩
            unfold fbdT cmpT
            rw [if_neg (by omega), if_neg (by omega), hx46, bnX_e]
            exact Or.inr ⟨_, rfl, B75⟩
      · refine Ev.call (k := 2) (pc1 := 80) (L1 := [Vr 114, Vi (t : Int), Vi i]) (S1 := [Vi 91, Vr 114]) (h1 := ((SHv st dr (z : Int)), (ovl a0 s b))) (m' := 51) (as := [Vr 114, Vi 91]) (S' := []) (L0 := [Vr 114, Vi 91]) (fun _ => rfl) rfl rfl rfl rfl rfl rfl (c_opensX X0 91) (fun r h' hq => ?_)
        obtain ⟨a76, rfl, hq⟩ := hq
        rcases hq with ⟨p76, hx76, rfl, ho76, hX76⟩ | ⟨e76, hx76, rfl | rfl, hb76⟩
        · have K76 := opn_ok hx76
          obtain ⟨hK, HI⟩ := hI K76.2.1
          have X76 := hX76 K1 hK
          have L76 : p0 < p76 := by
            rw [K76.2.2.1]
            exact tok_lt X0.le.1 X0.1.1.1 (by omega) (by omega)
          have G76 := G0.tr (ho76.gz (c := c0) X0.hz) (by omega)
          have Q76 := X76.le
          clear K76
          show Ev X _ _ 83 [Vr 114, Vi (t : Int), Vi i] [Vi 1] ((SHv st dr (z : Int)), (ovl a76 s b)) _
          refine Ev.call (k := 2) (pc1 := 87) (L1 := [Vr 114, Vi (t : Int), Vi i]) (S1 := [Vr 114]) (h1 := ((SHv st dr (z : Int)), (ovl a76 s b))) (m' := 52) (as := [Vr 114]) (S' := []) (L0 := [Vr 114, Vx, Vx]) (fun _ => rfl) rfl rfl rfl rfl rfl rfl (HI _ _ _ _ (by omega) X76 (by omega)) (fun r h' hq => ?_)
          obtain ⟨rfl, a77, rfl, hq⟩ := hq
          rcases hq with ⟨⟨l77, p77⟩, hx77, c77, X77, g77, o77, h77⟩ | ⟨e77, hx77, hb77⟩
          · dsimp only at h77 X77 o77
            have L77 := o77.lt
            have G77 := G76.tr g77 (by omega)
            have Q77 := X77.le
            show Ev X _ _ 90 [Vr 114, Vi (t : Int), Vi i] [] ((SHv st dr (z : Int)), (ovl a77 s b)) _
            refine Ev.call (k := 2) (pc1 := 93) (L1 := [Vr 114, Vi (t : Int), Vi i]) (S1 := [Vi 93, Vr 114]) (h1 := ((SHv st dr (z : Int)), (ovl a77 s b))) (m' := 42) (as := [Vr 114, Vi 93]) (S' := []) (L0 := [Vr 114, Vi 93]) (fun _ => rfl) rfl rfl rfl rfl rfl rfl (c_expect X77.1 93) (fun r h' hq => ?_)
            obtain ⟨rfl, a78, rfl, hq⟩ := hq
            rcases hq with ⟨p78, hx78, ho78⟩ | ⟨e78, hx78, hb78⟩
            · have X78 := X77.nx ho78
              have L78 : p77 < p78 := by
                obtain ⟨h1, h2⟩ := exp_ok hx78
                exact X77.lt (by omega) (by unfold expT at hx78; rwa [if_neg (by omega)] at hx78)
              have G78 := G77.tr (ho78.1.gz (c := c77) X77.hz) (by omega)
              have R78 : a78 (z + 11) = a77 (z + 11) := ho78.1 _ (by omega)
              have Q78 := X78.le
              show Ev X _ _ 96 [Vr 114, Vi (t : Int), Vi i] [] ((SHv st dr (z : Int)), (ovl a78 s b)) _
              refine Ev.steps (k := 3) (pc' := 101) (L' := [Vr 114, Vi (t : Int), Vi i]) (S' := [Vi (a78 114 8), Vr 114]) (h' := ((SHv st dr (z : Int)), (ovl a78 s b))) (fun _ => rfl) ?_
              rw [X78.t8]
              refine Ev.steps (k := 2) (pc' := 103) (L' := [Vr 114, Vi (t : Int), Vi i]) (S' := [Vi (w32 ((8 - (K1 : Int)) - 1)), Vr 114]) (h' := ((SHv st dr (z : Int)), (ovl a78 s b))) (fun _ => rfl) ?_
              rw [show (w32 ((8 - (K1 : Int)) - 1)) = ((8 - (K1 : Int)) - 1) from w32_id (by unfold R32; omega)]
              refine Ev.putf (c' := (ovl (updC a78 114 8 ((8 - (K1 : Int)) - 1)) s b)) rfl (by decide) rfl rfl rfl (ovl_wc (by decide)) ?_
              refine Ev.ite (P := (t : Int) = 0) (k := 3) (a := 179) (b := 167) (L' := [Vr 114, Vi (t : Int), Vi i]) (S' := []) (h' := ((SHv st dr (z : Int)), (ovl (updC a78 114 8 ((8 - (K1 : Int)) - 1)) s b))) (fun _ => rfl) (fun b164 => ?_) (fun b164 => ?_)
              · refine Ev.fin (k := 1) (r := none) (h' := ((SHv st dr (z : Int)), (ovl (updC a78 114 8 ((8 - (K1 : Int)) - 1)) s b))) (fun _ => rfl) ?_
                refine ⟨rfl, _, rfl, ?_⟩
                unfold fbdT brkT
                rw [if_neg (by omega), if_pos (by omega), hx76, bnX_o, hx77, bnX_o, hx78, bnX_o]
                exact Or.inl ⟨_, rfl, _, X78.o8 (by omega) (by omega), G78.o8 hz, notL_0 (by omega) ((o77.cg (fun i _ _ => by rw [updC_row (by omega), R78])).mo (by omega)), by dsimp only; omega⟩
              · refine Ev.call (k := 4) (pc1 := 175) (L1 := [Vr 114, Vi (t : Int), Vi i]) (S1 := [Vi 0, Vi 271, Vr (z : Int)]) (h1 := ((SHv st dr (z : Int)), (ovl (updC a78 114 8 ((8 - (K1 : Int)) - 1)) s b))) (m' := 49) (as := [Vr (z : Int), Vi 271, Vi 0]) (S' := []) (L0 := [Vr (z : Int), Vi 271, Vi 0]) (fun _ => rfl) rfl rfl rfl rfl (stpC_of rfl (pm_recv_of (by omega) (shY_0 hz))) rfl (c_emitX (a := (updC a78 114 8 ((8 - (K1 : Int)) - 1))) (X78.o8 (K1 := K) (by omega) (by omega)) (by omega) 271 0 (by omega) (by omega)) (fun r h' hq => ?_)
                obtain ⟨rfl, hq⟩ := hq
                rcases hq with ⟨a79, rfl, X79, g79, E79⟩
                · have G79 := (G78.o8 hz).tr g79 (by omega)
                  have Q79 := X79.le
                  show Ev X _ _ 178 [Vr 114, Vi (t : Int), Vi i] [Vi ((c77 : Nat) : Int)] ((SHv st dr (z : Int)), (ovl a79 s b)) _
                  refine Ev.fin (k := 2) (r := none) (h' := ((SHv st dr (z : Int)), (ovl a79 s b))) (fun _ => rfl) ?_
                  refine ⟨rfl, _, rfl, ?_⟩
                  unfold fbdT brkT
                  rw [if_neg (by omega), if_pos (by omega), hx76, bnX_o, hx77, bnX_o, hx78, bnX_o]
                  exact Or.inl ⟨_, rfl, _, X79, G79, notL_1 (by omega) ((((o77.cg (fun i _ _ => by rw [updC_row (by omega), R78])).mo (by omega)).cg (fun i _ hi => g79.2 i hi)).not (by rw [E79]; rfl)), by dsimp only; omega⟩
            · have B78 := G77.bd X77 (by omega) hb78
              show Ev X _ _ 96 [Vr 114, Vi (t : Int), Vi i] [] ((SHv st dr (z : Int)), (ovl a78 s b)) _
              refine Ev.steps (k := 5) (pc' := 103) (L' := [Vr 114, Vi (t : Int), Vi i]) (S' := [Vi (w32 ((a78 114 8) - 1)), Vr 114]) (h' := ((SHv st dr (z : Int)), (ovl a78 s b))) (fun _ => rfl) ?_
              refine Ev.putf (c' := (ovl (updC a78 114 8 (w32 ((a78 114 8) - 1))) s b)) rfl (by decide) rfl rfl rfl (ovl_wc (by decide)) ?_
              refine Ev.ite (P := (t : Int) = 0) (k := 3) (a := 179) (b := 167) (L' := [Vr 114, Vi (t : Int), Vi i]) (S' := []) (h' := ((SHv st dr (z : Int)), (ovl (updC a78 114 8 (w32 ((a78 114 8) - 1))) s b))) (fun _ => rfl) (fun b164 => ?_) (fun b164 => ?_)
              · refine Ev.fin (k := 1) (r := none) (h' := ((SHv st dr (z : Int)), (ovl (updC a78 114 8 (w32 ((a78 114 8) - 1))) s b))) (fun _ => rfl) ?_
                refine ⟨rfl, _, rfl, ?_⟩
                unfold fbdT brkT
                rw [if_neg (by omega), if_pos (by omega), hx76, bnX_o, hx77, bnX_o, hx78, bnX_e]
                exact Or.inr ⟨_, rfl, B78.o8 hz⟩
              · refine Ev.call (k := 4) (pc1 := 175) (L1 := [Vr 114, Vi (t : Int), Vi i]) (S1 := [Vi 0, Vi 271, Vr (z : Int)]) (h1 := ((SHv st dr (z : Int)), (ovl (updC a78 114 8 (w32 ((a78 114 8) - 1))) s b))) (m' := 49) (as := [Vr (z : Int), Vi 271, Vi 0]) (S' := []) (L0 := [Vr (z : Int), Vi 271, Vi 0]) (fun _ => rfl) rfl rfl rfl rfl (stpC_of rfl (pm_recv_of (by omega) (shY_0 hz))) rfl (c_emit_br hz (B78.o8 hz).2.2.2 271 0) (fun r h' hq => ?_)
                obtain ⟨v80, a80, rfl, rfl, f1, f2, f3⟩ := hq
                have B80 := (B78.o8 hz).st hz f1 f2 f3
                show Ev X _ _ 178 [Vr 114, Vi (t : Int), Vi i] [Vi v80] ((SHv st dr (z : Int)), (ovl a80 s b)) _
                refine Ev.fin (k := 2) (r := none) (h' := ((SHv st dr (z : Int)), (ovl a80 s b))) (fun _ => rfl) ?_
                refine ⟨rfl, _, rfl, ?_⟩
                unfold fbdT brkT
                rw [if_neg (by omega), if_pos (by omega), hx76, bnX_o, hx77, bnX_o, hx78, bnX_e]
                exact Or.inr ⟨_, rfl, B80⟩
          · have B77 := G76.bz hb77
            show Ev X _ _ 90 [Vr 114, Vi (t : Int), Vi i] [] ((SHv st dr (z : Int)), (ovl a77 s b)) _
            refine Ev.call (k := 2) (pc1 := 93) (L1 := [Vr 114, Vi (t : Int), Vi i]) (S1 := [Vi 93, Vr 114]) (h1 := ((SHv st dr (z : Int)), (ovl a77 s b))) (m' := 42) (as := [Vr 114, Vi 93]) (S' := []) (L0 := [Vr 114, Vi 93]) (fun _ => rfl) rfl rfl rfl rfl rfl rfl (c_expect_br B77.2.2.1 93 (by decide)) (fun r h' hq => ?_)
            obtain ⟨rfl, rfl⟩ := hq
            show Ev X _ _ 96 [Vr 114, Vi (t : Int), Vi i] [] ((SHv st dr (z : Int)), (ovl a77 s b)) _
            refine Ev.steps (k := 5) (pc' := 103) (L' := [Vr 114, Vi (t : Int), Vi i]) (S' := [Vi (w32 ((a77 114 8) - 1)), Vr 114]) (h' := ((SHv st dr (z : Int)), (ovl a77 s b))) (fun _ => rfl) ?_
            refine Ev.putf (c' := (ovl (updC a77 114 8 (w32 ((a77 114 8) - 1))) s b)) rfl (by decide) rfl rfl rfl (ovl_wc (by decide)) ?_
            refine Ev.ite (P := (t : Int) = 0) (k := 3) (a := 179) (b := 167) (L' := [Vr 114, Vi (t : Int), Vi i]) (S' := []) (h' := ((SHv st dr (z : Int)), (ovl (updC a77 114 8 (w32 ((a77 114 8) - 1))) s b))) (fun _ => rfl) (fun b164 => ?_) (fun b164 => ?_)
            · refine Ev.fin (k := 1) (r := none) (h' := ((SHv st dr (z : Int)), (ovl (updC a77 114 8 (w32 ((a77 114 8) - 1))) s b))) (fun _ => rfl) ?_
              refine ⟨rfl, _, rfl, ?_⟩
              unfold fbdT brkT
              rw [if_neg (by omega), if_pos (by omega), hx76, bnX_o, hx77, bnX_e]
              exact Or.inr ⟨_, rfl, B77.o8 hz⟩
            · refine Ev.call (k := 4) (pc1 := 175) (L1 := [Vr 114, Vi (t : Int), Vi i]) (S1 := [Vi 0, Vi 271, Vr (z : Int)]) (h1 := ((SHv st dr (z : Int)), (ovl (updC a77 114 8 (w32 ((a77 114 8) - 1))) s b))) (m' := 49) (as := [Vr (z : Int), Vi 271, Vi 0]) (S' := []) (L0 := [Vr (z : Int), Vi 271, Vi 0]) (fun _ => rfl) rfl rfl rfl rfl (stpC_of rfl (pm_recv_of (by omega) (shY_0 hz))) rfl (c_emit_br hz (B77.o8 hz).2.2.2 271 0) (fun r h' hq => ?_)
              obtain ⟨v81, a81, rfl, rfl, f1, f2, f3⟩ := hq
              have B81 := (B77.o8 hz).st hz f1 f2 f3
              show Ev X _ _ 178 [Vr 114, Vi (t : Int), Vi i] [Vi v81] ((SHv st dr (z : Int)), (ovl a81 s b)) _
              refine Ev.fin (k := 2) (r := none) (h' := ((SHv st dr (z : Int)), (ovl a81 s b))) (fun _ => rfl) ?_
              refine ⟨rfl, _, rfl, ?_⟩
              unfold fbdT brkT
              rw [if_neg (by omega), if_pos (by omega), hx76, bnX_o, hx77, bnX_e]
              exact Or.inr ⟨_, rfl, B81⟩
        · have B76 := G0.bd X0 (by omega) hb76
          show Ev X _ _ 83 [Vr 114, Vi (t : Int), Vi i] [Vi 0] ((SHv st dr (z : Int)), (ovl a76 s b)) _
          refine Ev.ite (P := (t : Int) = 0) (k := 3) (a := 179) (b := 167) (L' := [Vr 114, Vi (t : Int), Vi i]) (S' := []) (h' := ((SHv st dr (z : Int)), (ovl a76 s b))) (fun _ => rfl) (fun b164 => ?_) (fun b164 => ?_)
          · refine Ev.fin (k := 1) (r := none) (h' := ((SHv st dr (z : Int)), (ovl a76 s b))) (fun _ => rfl) ?_
            refine ⟨rfl, _, rfl, ?_⟩
            unfold fbdT brkT
            rw [if_neg (by omega), if_pos (by omega), hx76, bnX_e]
            exact Or.inr ⟨_, rfl, B76⟩
          · refine Ev.call (k := 4) (pc1 := 175) (L1 := [Vr 114, Vi (t : Int), Vi i]) (S1 := [Vi 0, Vi 271, Vr (z : Int)]) (h1 := ((SHv st dr (z : Int)), (ovl a76 s b))) (m' := 49) (as := [Vr (z : Int), Vi 271, Vi 0]) (S' := []) (L0 := [Vr (z : Int), Vi 271, Vi 0]) (fun _ => rfl) rfl rfl rfl rfl (stpC_of rfl (pm_recv_of (by omega) (shY_0 hz))) rfl (c_emit_br hz (B76).2.2.2 271 0) (fun r h' hq => ?_)
            obtain ⟨v82, a82, rfl, rfl, f1, f2, f3⟩ := hq
            have B82 := (B76).st hz f1 f2 f3
            show Ev X _ _ 178 [Vr 114, Vi (t : Int), Vi i] [Vi v82] ((SHv st dr (z : Int)), (ovl a82 s b)) _
            refine Ev.fin (k := 2) (r := none) (h' := ((SHv st dr (z : Int)), (ovl a82 s b))) (fun _ => rfl) ?_
            refine ⟨rfl, _, rfl, ?_⟩
            unfold fbdT brkT
            rw [if_neg (by omega), if_pos (by omega), hx76, bnX_e]
            exact Or.inr ⟨_, rfl, B82⟩
        · have B76 := G0.bd X0 (by omega) hb76
          show Ev X _ _ 83 [Vr 114, Vi (t : Int), Vi i] [Vi 1] ((SHv st dr (z : Int)), (ovl a76 s b)) _
          refine Ev.call (k := 2) (pc1 := 87) (L1 := [Vr 114, Vi (t : Int), Vi i]) (S1 := [Vr 114]) (h1 := ((SHv st dr (z : Int)), (ovl a76 s b))) (m' := 52) (as := [Vr 114]) (S' := []) (L0 := [Vr 114, Vx, Vx]) (fun _ => rfl) rfl rfl rfl rfl rfl rfl (c_test_br hz B76) (fun r h' hq => ?_)
          obtain ⟨rfl, a83, rfl, B83⟩ := hq
          show Ev X _ _ 90 [Vr 114, Vi (t : Int), Vi i] [] ((SHv st dr (z : Int)), (ovl a83 s b)) _
          refine Ev.call (k := 2) (pc1 := 93) (L1 := [Vr 114, Vi (t : Int), Vi i]) (S1 := [Vi 93, Vr 114]) (h1 := ((SHv st dr (z : Int)), (ovl a83 s b))) (m' := 42) (as := [Vr 114, Vi 93]) (S' := []) (L0 := [Vr 114, Vi 93]) (fun _ => rfl) rfl rfl rfl rfl rfl rfl (c_expect_br B83.2.2.1 93 (by decide)) (fun r h' hq => ?_)
          obtain ⟨rfl, rfl⟩ := hq
          show Ev X _ _ 96 [Vr 114, Vi (t : Int), Vi i] [] ((SHv st dr (z : Int)), (ovl a83 s b)) _
          refine Ev.steps (k := 5) (pc' := 103) (L' := [Vr 114, Vi (t : Int), Vi i]) (S' := [Vi (w32 ((a83 114 8) - 1)), Vr 114]) (h' := ((SHv st dr (z : Int)), (ovl a83 s b))) (fun _ => rfl) ?_
          refine Ev.putf (c' := (ovl (updC a83 114 8 (w32 ((a83 114 8) - 1))) s b)) rfl (by decide) rfl rfl rfl (ovl_wc (by decide)) ?_
          refine Ev.ite (P := (t : Int) = 0) (k := 3) (a := 179) (b := 167) (L' := [Vr 114, Vi (t : Int), Vi i]) (S' := []) (h' := ((SHv st dr (z : Int)), (ovl (updC a83 114 8 (w32 ((a83 114 8) - 1))) s b))) (fun _ => rfl) (fun b164 => ?_) (fun b164 => ?_)
          · refine Ev.fin (k := 1) (r := none) (h' := ((SHv st dr (z : Int)), (ovl (updC a83 114 8 (w32 ((a83 114 8) - 1))) s b))) (fun _ => rfl) ?_
            refine ⟨rfl, _, rfl, ?_⟩
            unfold fbdT brkT
            rw [if_neg (by omega), if_pos (by omega), hx76, bnX_e]
            exact Or.inr ⟨_, rfl, B83.o8 hz⟩
          · refine Ev.call (k := 4) (pc1 := 175) (L1 := [Vr 114, Vi (t : Int), Vi i]) (S1 := [Vi 0, Vi 271, Vr (z : Int)]) (h1 := ((SHv st dr (z : Int)), (ovl (updC a83 114 8 (w32 ((a83 114 8) - 1))) s b))) (m' := 49) (as := [Vr (z : Int), Vi 271, Vi 0]) (S' := []) (L0 := [Vr (z : Int), Vi 271, Vi 0]) (fun _ => rfl) rfl rfl rfl rfl (stpC_of rfl (pm_recv_of (by omega) (shY_0 hz))) rfl (c_emit_br hz (B83.o8 hz).2.2.2 271 0) (fun r h' hq => ?_)
            obtain ⟨v84, a84, rfl, rfl, f1, f2, f3⟩ := hq
            have B84 := (B83.o8 hz).st hz f1 f2 f3
            show Ev X _ _ 178 [Vr 114, Vi (t : Int), Vi i] [Vi v84] ((SHv st dr (z : Int)), (ovl a84 s b)) _
            refine Ev.fin (k := 2) (r := none) (h' := ((SHv st dr (z : Int)), (ovl a84 s b))) (fun _ => rfl) ?_
            refine ⟨rfl, _, rfl, ?_⟩
            unfold fbdT brkT
            rw [if_neg (by omega), if_pos (by omega), hx76, bnX_e]
            exact Or.inr ⟨_, rfl, B84⟩
    · refine Ev.call (k := 1) (pc1 := 62) (L1 := [Vr 114, Vi (t : Int), Vi i]) (S1 := [Vr 114]) (h1 := ((SHv st dr (z : Int)), (ovl a0 s b))) (m' := 55) (as := [Vr 114]) (S' := []) (L0 := [Vr 114, Vx, Vx, Vx]) (fun _ => rfl) rfl rfl rfl rfl rfl rfl (c_sim hz _ _ _ _ (by omega) X0 (by omega) (by omega) (by omega)) (fun r h' hq => ?_)
      obtain ⟨rfl, a85, rfl, hq⟩ := hq
      rcases hq with ⟨⟨l85, p85⟩, hx85, c85, X85, g85, o85, h85⟩ | ⟨e85, hx85, hb85⟩
      · dsimp only at h85 X85 o85
        have L85 := o85.lt
        have G85 := G0.tr g85 (by omega)
        have Q85 := X85.le
        show Ev X _ _ 65 [Vr 114, Vi (t : Int), Vi i] [] ((SHv st dr (z : Int)), (ovl a85 s b)) _
        refine Ev.ite (P := (t : Int) = 0) (k := 3) (a := 179) (b := 167) (L' := [Vr 114, Vi (t : Int), Vi i]) (S' := []) (h' := ((SHv st dr (z : Int)), (ovl a85 s b))) (fun _ => rfl) (fun b164 => ?_) (fun b164 => ?_)
        · refine Ev.fin (k := 1) (r := none) (h' := ((SHv st dr (z : Int)), (ovl a85 s b))) (fun _ => rfl) ?_
          refine ⟨rfl, _, rfl, ?_⟩
          unfold fbdT
          rw [if_pos ⟨by omega, by omega⟩, hx85]
          exact Or.inl ⟨_, rfl, _, X85, G85, notL_0 (by omega) (o85.mo (by omega)), by dsimp only; omega⟩
        · refine Ev.call (k := 4) (pc1 := 175) (L1 := [Vr 114, Vi (t : Int), Vi i]) (S1 := [Vi 0, Vi 271, Vr (z : Int)]) (h1 := ((SHv st dr (z : Int)), (ovl a85 s b))) (m' := 49) (as := [Vr (z : Int), Vi 271, Vi 0]) (S' := []) (L0 := [Vr (z : Int), Vi 271, Vi 0]) (fun _ => rfl) rfl rfl rfl rfl (stpC_of rfl (pm_recv_of (by omega) (shY_0 hz))) rfl (c_emitX (a := a85) X85 (by omega) 271 0 (by omega) (by omega)) (fun r h' hq => ?_)
          obtain ⟨rfl, hq⟩ := hq
          rcases hq with ⟨a86, rfl, X86, g86, E86⟩
          · have G86 := G85.tr g86 (by omega)
            have Q86 := X86.le
            show Ev X _ _ 178 [Vr 114, Vi (t : Int), Vi i] [Vi ((c85 : Nat) : Int)] ((SHv st dr (z : Int)), (ovl a86 s b)) _
            refine Ev.fin (k := 2) (r := none) (h' := ((SHv st dr (z : Int)), (ovl a86 s b))) (fun _ => rfl) ?_
            refine ⟨rfl, _, rfl, ?_⟩
            unfold fbdT
            rw [if_pos ⟨by omega, by omega⟩, hx85]
            exact Or.inl ⟨_, rfl, _, X86, G86, notL_1 (by omega) (((o85.mo (by omega)).cg (fun i _ hi => g86.2 i hi)).not (by rw [E86]; rfl)), by dsimp only; omega⟩
      · have B85 := G0.bz hb85
        show Ev X _ _ 65 [Vr 114, Vi (t : Int), Vi i] [] ((SHv st dr (z : Int)), (ovl a85 s b)) _
        refine Ev.ite (P := (t : Int) = 0) (k := 3) (a := 179) (b := 167) (L' := [Vr 114, Vi (t : Int), Vi i]) (S' := []) (h' := ((SHv st dr (z : Int)), (ovl a85 s b))) (fun _ => rfl) (fun b164 => ?_) (fun b164 => ?_)
        · refine Ev.fin (k := 1) (r := none) (h' := ((SHv st dr (z : Int)), (ovl a85 s b))) (fun _ => rfl) ?_
          refine ⟨rfl, _, rfl, ?_⟩
          unfold fbdT
          rw [if_pos ⟨by omega, by omega⟩, hx85]
          exact Or.inr ⟨_, rfl, B85⟩
        · refine Ev.call (k := 4) (pc1 := 175) (L1 := [Vr 114, Vi (t : Int), Vi i]) (S1 := [Vi 0, Vi 271, Vr (z : Int)]) (h1 := ((SHv st dr (z : Int)), (ovl a85 s b))) (m' := 49) (as := [Vr (z : Int), Vi 271, Vi 0]) (S' := []) (L0 := [Vr (z : Int), Vi 271, Vi 0]) (fun _ => rfl) rfl rfl rfl rfl (stpC_of rfl (pm_recv_of (by omega) (shY_0 hz))) rfl (c_emit_br hz (B85).2.2.2 271 0) (fun r h' hq => ?_)
          obtain ⟨v87, a87, rfl, rfl, f1, f2, f3⟩ := hq
          have B87 := (B85).st hz f1 f2 f3
          show Ev X _ _ 178 [Vr 114, Vi (t : Int), Vi i] [Vi v87] ((SHv st dr (z : Int)), (ovl a87 s b)) _
          refine Ev.fin (k := 2) (r := none) (h' := ((SHv st dr (z : Int)), (ovl a87 s b))) (fun _ => rfl) ?_
          refine ⟨rfl, _, rfl, ?_⟩
          unfold fbdT
          rw [if_pos ⟨by omega, by omega⟩, hx85]
          exact Or.inr ⟨_, rfl, B87⟩
theorem c_fact_l {X : List Int} {st dr : Int} {s b : C3} {W : TXT} {N : SC} {z : Nat} (hz : hyS z) {K K1 : Nat} {I Sm : PRS} {D D1 Ds h : Nat} (hI : K ≠ 0 → K = K1 + 1 ∧ MOk X st dr s b W N z 52 [Vr 114, Vx, Vx] K1 I D h) (hS : MOk X st dr s b W N z 46 [Vr 114, Vx, Vx] K Sm Ds h) (h1 : 1 ≤ D1) (hD : D ≤ D1) (hDs : Ds + 1 ≤ D1) (d t i : Nat) (ht : t ≤ 1) (hi : i ≤ 1200) (a0 : C3) (p0 c0 : Nat) (hd : h + 9 ≤ d) (X0 : XoC W N z p0 c0 K a0) (hc0 : c0 + t ≤ p0) : Ev X d 54 4 [Vr 114, Vi (t : Int), Vi (i : Int)] [] (SHv st dr (z : Int), ovl a0 s b) (PoN st dr s b W N z p0 c0 K a0 D1 t (fctT W (fbdT W N K I Sm) (1200 - i) p0)) := by
  induction hk : 1200 - i using Nat.strongRecOn generalizing i t a0 p0 c0 d with
  | ind kk ih =>
    have hz1 := z11 hz
    obtain ⟨d, rfl⟩ : ∃ d1, d = d1 + 9 := ⟨d - 9, by omega⟩
    have G0 : Gz z c0 a0 a0 := Gz.rf
    have Q0 := X0.le
    refine Ev.ite (P := 1200 ≤ (i : Int)) (k := 3) (a := 41) (b := 11) (L' := [Vr 114, Vi (t : Int), Vi (i : Int)]) (S' := []) (h' := ((SHv st dr (z : Int)), (ovl a0 s b))) (fun _ => rfl) (fun b8 => ?_) (fun b8 => ?_)
    · have e : fctT W (fbdT W N K I Sm) kk p0 = fbdT W N K I Sm p0 := by
        match kk, hk with
        | 0, _ => rfl
        | F + 1, hk => exact if_neg (by omega)
      rw [e]
      exact c_fbd hz hI hS h1 hD hDs _ t _ ht a0 p0 c0 (by omega) X0 hc0
    · refine Ev.steps (k := 2) (pc' := 15) (L' := [Vr 114, Vi (t : Int), Vi (i : Int)]) (S' := [Vi (a0 114 5)]) (h' := ((SHv st dr (z : Int)), (ovl a0 s b))) (fun _ => rfl) ?_
      rw [X0.t5]
      refine Ev.ite (P := ((tC W p0 : Nat) : Int) ≠ 271) (k := 2) (a := 41) (b := 21) (L' := [Vr 114, Vi (t : Int), Vi (i : Int)]) (S' := []) (h' := ((SHv st dr (z : Int)), (ovl a0 s b))) (fun _ => rfl) (fun b18 => ?_) (fun b18 => ?_)
      · have e : fctT W (fbdT W N K I Sm) kk p0 = fbdT W N K I Sm p0 := by
          match kk, hk with
          | 0, _ => rfl
          | F + 1, hk => exact if_neg (by omega)
        rw [e]
        exact c_fbd hz hI hS h1 hD hDs _ t _ ht a0 p0 c0 (by omega) X0 hc0
      · refine Ev.ite (P := (t : Int) ≠ 0) (k := 2) (a := 29) (b := 25) (L' := [Vr 114, Vi (t : Int), Vi (i : Int)]) (S' := []) (h' := ((SHv st dr (z : Int)), (ovl a0 s b))) (fun _ => rfl) (fun b22 => ?_) (fun b22 => ?_)
        · refine Ev.call (k := 3) (pc1 := 32) (L1 := [Vr 114, Vi 0, Vi (i : Int)]) (S1 := [Vr 114]) (h1 := ((SHv st dr (z : Int)), (ovl a0 s b))) (m' := 27) (as := [Vr 114]) (S' := []) (L0 := [Vr 114, Vx, Vx, Vx, Vx]) (fun _ => rfl) rfl rfl rfl rfl rfl rfl (c_next X0.1) (fun r h' hq => ?_)
          obtain ⟨rfl, a88, rfl, hq⟩ := hq
          rcases hq with ⟨p88, hx88, ho88⟩ | ⟨e88, hx88, hb88⟩
          · have X88 := X0.nx ho88
            have L88 : p0 < p88 := X0.lt (by omega) hx88
            have G88 := G0.tr (ho88.1.gz (c := c0) X0.hz) (by omega)
            have R88 : a88 (z + 11) = a0 (z + 11) := ho88.1 _ (by omega)
            have Q88 := X88.le
            show Ev X _ _ 35 [Vr 114, Vi 0, Vi (i : Int)] [] ((SHv st dr (z : Int)), (ovl a88 s b)) _
            refine Ev.steps (k := 1) (pc' := 38) (L' := [Vr 114, Vi 0, Vi (w32 ((i : Int) + 1))]) (S' := []) (h' := ((SHv st dr (z : Int)), (ovl a88 s b))) (fun _ => rfl) ?_
            rw [show (w32 ((i : Int) + 1)) = ((i : Int) + 1) from w32_id (by unfold R32; omega)]
            refine Ev.steps (k := 1) (pc' := 4) (L' := [Vr 114, Vi 0, Vi ((i : Int) + 1)]) (S' := []) (h' := ((SHv st dr (z : Int)), (ovl a88 s b))) (fun _ => rfl) ?_
            obtain ⟨F, rfl⟩ : ∃ F, kk = F + 1 := ⟨kk - 1, by omega⟩
            have e : fctT W (fbdT W N K I Sm) (F + 1) p0 = bnX (gotT W p0) (fun p1 => bnX (fctT W (fbdT W N K I Sm) F p1) (fun r => .ok (r.1 ++ [(27, 0)], r.2))) := if_pos (by omega)
            rw [e, hx88, bnX_o]
            refine (ih F (by omega) _ 0 (i + 1) (by omega) (by omega) a88 p88 c0 (by omega) X88 (by omega) (by omega)).mono ?_
            rintro r h' ⟨h1, a9, h2, ⟨⟨l9, p9⟩, hx, c9, X9, g9, o9, h9⟩ | ⟨e9, hx, B9⟩⟩
            · rw [hx, bnX_o]
              dsimp only at h9
              exact ⟨h1, a9, h2, Or.inl ⟨_, rfl, c9, X9, G88.tr g9 (Nat.le_refl _), notL_s (by omega) o9, by dsimp only; omega⟩⟩
            · rw [hx, bnX_e]
              exact ⟨h1, a9, h2, Or.inr ⟨_, rfl, G88.bz B9⟩⟩
          · have B88 := G0.bd X0 (by omega) hb88
            show Ev X _ _ 35 [Vr 114, Vi 0, Vi (i : Int)] [] ((SHv st dr (z : Int)), (ovl a88 s b)) _
            refine Ev.steps (k := 1) (pc' := 38) (L' := [Vr 114, Vi 0, Vi (w32 ((i : Int) + 1))]) (S' := []) (h' := ((SHv st dr (z : Int)), (ovl a88 s b))) (fun _ => rfl) ?_
            rw [show (w32 ((i : Int) + 1)) = ((i : Int) + 1) from w32_id (by unfold R32; omega)]
            refine Ev.steps (k := 1) (pc' := 4) (L' := [Vr 114, Vi 0, Vi ((i : Int) + 1)]) (S' := []) (h' := ((SHv st dr (z : Int)), (ovl a88 s b))) (fun _ => rfl) ?_
            obtain ⟨F, rfl⟩ : ∃ F, kk = F + 1 := ⟨kk - 1, by omega⟩
            have e : fctT W (fbdT W N K I Sm) (F + 1) p0 = bnX (gotT W p0) (fun p1 => bnX (fctT W (fbdT W N K I Sm) F p1) (fun r => .ok (r.1 ++ [(27, 0)], r.2))) := if_pos (by omega)
            rw [e, hx88, bnX_e]
            exact (c_fact_brl hz _ _ B88).mono (fun r h' hq => ⟨hq.1, hq.2.choose, hq.2.choose_spec.1, Or.inr ⟨_, rfl, hq.2.choose_spec.2⟩⟩)
        · refine Ev.call (k := 4) (pc1 := 32) (L1 := [Vr 114, Vi 1, Vi (i : Int)]) (S1 := [Vr 114]) (h1 := ((SHv st dr (z : Int)), (ovl a0 s b))) (m' := 27) (as := [Vr 114]) (S' := []) (L0 := [Vr 114, Vx, Vx, Vx, Vx]) (fun _ => rfl) rfl rfl rfl rfl rfl rfl (c_next X0.1) (fun r h' hq => ?_)
          obtain ⟨rfl, a89, rfl, hq⟩ := hq
          rcases hq with ⟨p89, hx89, ho89⟩ | ⟨e89, hx89, hb89⟩
          · have X89 := X0.nx ho89
            have L89 : p0 < p89 := X0.lt (by omega) hx89
            have G89 := G0.tr (ho89.1.gz (c := c0) X0.hz) (by omega)
            have R89 : a89 (z + 11) = a0 (z + 11) := ho89.1 _ (by omega)
            have Q89 := X89.le
            show Ev X _ _ 35 [Vr 114, Vi 1, Vi (i : Int)] [] ((SHv st dr (z : Int)), (ovl a89 s b)) _
            refine Ev.steps (k := 1) (pc' := 38) (L' := [Vr 114, Vi 1, Vi (w32 ((i : Int) + 1))]) (S' := []) (h' := ((SHv st dr (z : Int)), (ovl a89 s b))) (fun _ => rfl) ?_
            rw [show (w32 ((i : Int) + 1)) = ((i : Int) + 1) from w32_id (by unfold R32; omega)]
            refine Ev.steps (k := 1) (pc' := 4) (L' := [Vr 114, Vi 1, Vi ((i : Int) + 1)]) (S' := []) (h' := ((SHv st dr (z : Int)), (ovl a89 s b))) (fun _ => rfl) ?_
            obtain ⟨F, rfl⟩ : ∃ F, kk = F + 1 := ⟨kk - 1, by omega⟩
            have e : fctT W (fbdT W N K I Sm) (F + 1) p0 = bnX (gotT W p0) (fun p1 => bnX (fctT W (fbdT W N K I Sm) F p1) (fun r => .ok (r.1 ++ [(27, 0)], r.2))) := if_pos (by omega)
            rw [e, hx89, bnX_o]
            refine (ih F (by omega) _ 1 (i + 1) (by omega) (by omega) a89 p89 c0 (by omega) X89 (by omega) (by omega)).mono ?_
            rintro r h' ⟨h1, a9, h2, ⟨⟨l9, p9⟩, hx, c9, X9, g9, o9, h9⟩ | ⟨e9, hx, B9⟩⟩
            · rw [hx, bnX_o]
              dsimp only at h9
              exact ⟨h1, a9, h2, Or.inl ⟨_, rfl, c9, X9, G89.tr g9 (Nat.le_refl _), notL_s (by omega) o9, by dsimp only; omega⟩⟩
            · rw [hx, bnX_e]
              exact ⟨h1, a9, h2, Or.inr ⟨_, rfl, G89.bz B9⟩⟩
          · have B89 := G0.bd X0 (by omega) hb89
            show Ev X _ _ 35 [Vr 114, Vi 1, Vi (i : Int)] [] ((SHv st dr (z : Int)), (ovl a89 s b)) _
            refine Ev.steps (k := 1) (pc' := 38) (L' := [Vr 114, Vi 1, Vi (w32 ((i : Int) + 1))]) (S' := []) (h' := ((SHv st dr (z : Int)), (ovl a89 s b))) (fun _ => rfl) ?_
            rw [show (w32 ((i : Int) + 1)) = ((i : Int) + 1) from w32_id (by unfold R32; omega)]
            refine Ev.steps (k := 1) (pc' := 4) (L' := [Vr 114, Vi 1, Vi ((i : Int) + 1)]) (S' := []) (h' := ((SHv st dr (z : Int)), (ovl a89 s b))) (fun _ => rfl) ?_
            obtain ⟨F, rfl⟩ : ∃ F, kk = F + 1 := ⟨kk - 1, by omega⟩
            have e : fctT W (fbdT W N K I Sm) (F + 1) p0 = bnX (gotT W p0) (fun p1 => bnX (fctT W (fbdT W N K I Sm) F p1) (fun r => .ok (r.1 ++ [(27, 0)], r.2))) := if_pos (by omega)
            rw [e, hx89, bnX_e]
            exact (c_fact_brl hz _ _ B89).mono (fun r h' hq => ⟨hq.1, hq.2.choose, hq.2.choose_spec.1, Or.inr ⟨_, rfl, hq.2.choose_spec.2⟩⟩)
theorem c_fact {X : List Int} {st dr : Int} {s b : C3} {W : TXT} {N : SC} {z : Nat} (hz : hyS z) {K K1 : Nat} {I Sm : PRS} {D D1 Ds h : Nat} (hI : K ≠ 0 → K = K1 + 1 ∧ MOk X st dr s b W N z 52 [Vr 114, Vx, Vx] K1 I D h) (hS : MOk X st dr s b W N z 46 [Vr 114, Vx, Vx] K Sm Ds h) (h1 : 1 ≤ D1) (hD : D ≤ D1) (hDs : Ds + 1 ≤ D1) : MOk X st dr s b W N z 54 [Vr 114, Vx, Vx] K (fctT W (fbdT W N K I Sm) 1200) D1 (h + 9) := by
  intro d a0 p0 c0 hd X0 hc0
  refine Ev.steps (k := 4) (pc' := 4) (L' := [Vr 114, Vi 0, Vi 0]) (S' := []) (h' := (SHv st dr (z : Int), ovl a0 s b)) (fun _ => rfl) ?_
  exact (c_fact_l hz hI hS h1 hD hDs d 0 0 (by omega) (by omega) a0 p0 c0 hd X0 hc0).mono (fun r h' hq => hq)
theorem c_both_l {X : List Int} {st dr : Int} {s b : C3} {W : TXT} {N : SC} {z : Nat} (hz : hyS z) {K : Nat} {P : PRS} {D h : Nat} (hP : MOk X st dr s b W N z 54 [Vr 114, Vx, Vx] K P D h) {a00 : C3} {p00 c00 : Nat} (d i : Nat) (x : pm_V) (l0 : List (Nat × Nat)) (a0 : C3) (p0 c0 : Nat) (hd : h + 9 ≤ d) (hi : i ≤ 1200) (X0 : XoC W N z p0 c0 K a0) (hc0 : c0 ≤ p0) (G0 : Gz z c00 a00 a0) (o0 : CoC (a0 (z + 11)) D c00 l0 c0) (h0 : c0 + p00 ≤ c00 + p0) : Ev X d 53 6 [Vr 114, Vi (i : Int), x] [] (SHv st dr (z : Int), ovl a0 s b) (PoX st dr s b W N z p00 c00 K a00 D (chnL W opB P (1200 - i) l0 p0)) := by
  induction hk : 1200 - i using Nat.strongRecOn generalizing i x l0 a0 p0 c0 d with
  | ind kk ih =>
    have hz1 := z11 hz
    obtain ⟨d, rfl⟩ : ∃ d1, d = d1 + 9 := ⟨d - 9, by omega⟩
    have Q0 := X0.le
    have L0 := o0.lt
    have hl0 : tC W p0 ≠ 302 → p0 < W.2 := fun h => Nat.lt_of_lt_of_le (tok_lt X0.le.1 X0.1.1.1 h X0.1.2.2.2.2.2.2.2.2.1) (tok_rg X0.le.1 X0.1.1.1).2
    refine Ev.ite (P := 1200 ≤ (i : Int)) (k := 3) (a := 57) (b := 13) (L' := [Vr 114, Vi (i : Int), x]) (S' := []) (h' := ((SHv st dr (z : Int)), (ovl a0 s b))) (fun _ => rfl) (fun b10 => ?_) (fun b10 => ?_)
    · refine Ev.fin (k := 1) (r := none) (h' := ((SHv st dr (z : Int)), (ovl a0 s b))) (fun _ => rfl) ?_
      refine ⟨rfl, _, rfl, ?_⟩
      have e : chnL W opB P kk l0 p0 = .ok (l0, p0) := by
        match kk, hk with
        | 0, _ => rfl
        | F + 1, _ =>
          show (if opB (tC W p0) = 0 then Except.ok (l0, p0) else _) = _
          rw [if_pos (show opB (tC W p0) = 0 from if_neg (by omega))]
      rw [e]
      exact Or.inl ⟨_, rfl, c0, X0, G0, o0, h0⟩
    · refine Ev.steps (k := 2) (pc' := 17) (L' := [Vr 114, Vi (i : Int), x]) (S' := [Vi (a0 114 5)]) (h' := ((SHv st dr (z : Int)), (ovl a0 s b))) (fun _ => rfl) ?_
      rw [X0.t5]
      refine Ev.ite (P := ((tC W p0 : Nat) : Int) ≠ 270) (k := 2) (a := 57) (b := 23) (L' := [Vr 114, Vi (i : Int), x]) (S' := []) (h' := ((SHv st dr (z : Int)), (ovl a0 s b))) (fun _ => rfl) (fun b20 => ?_) (fun b20 => ?_)
      · refine Ev.fin (k := 1) (r := none) (h' := ((SHv st dr (z : Int)), (ovl a0 s b))) (fun _ => rfl) ?_
        refine ⟨rfl, _, rfl, ?_⟩
        have e : chnL W opB P kk l0 p0 = .ok (l0, p0) := by
          match kk, hk with
          | 0, _ => rfl
          | F + 1, _ =>
            show (if opB (tC W p0) = 0 then Except.ok (l0, p0) else _) = _
            rw [if_pos (show opB (tC W p0) = 0 from if_neg (by omega))]
        rw [e]
        exact Or.inl ⟨_, rfl, c0, X0, G0, o0, h0⟩
      · refine Ev.call (k := 4) (pc1 := 31) (L1 := [Vr 114, Vi (i : Int), x]) (S1 := [Vi 0, Vi 270, Vr (z : Int)]) (h1 := ((SHv st dr (z : Int)), (ovl a0 s b))) (m' := 49) (as := [Vr (z : Int), Vi 270, Vi 0]) (S' := []) (L0 := [Vr (z : Int), Vi 270, Vi 0]) (fun _ => rfl) rfl rfl rfl rfl (stpC_of rfl (pm_recv_of (by omega) (shY_0 hz))) rfl (c_emitX (a := a0) X0 (by omega) 270 0 (by omega) (by omega)) (fun r h' hq => ?_)
        obtain ⟨rfl, hq⟩ := hq
        rcases hq with ⟨a90, rfl, X90, g90, E90⟩
        · have G90 := G0.tr g90 (by omega)
          have Q90 := X90.le
          show Ev X _ _ 34 [Vr 114, Vi (i : Int), x] [Vi ((c0 : Nat) : Int)] ((SHv st dr (z : Int)), (ovl a90 s b)) _
          refine Ev.call (k := 2) (pc1 := 36) (L1 := [Vr 114, Vi (i : Int), Vi ((c0 : Nat) : Int)]) (S1 := [Vr 114]) (h1 := ((SHv st dr (z : Int)), (ovl a90 s b))) (m' := 27) (as := [Vr 114]) (S' := []) (L0 := [Vr 114, Vx, Vx, Vx, Vx]) (fun _ => rfl) rfl rfl rfl rfl rfl rfl (c_next X90.1) (fun r h' hq => ?_)
          obtain ⟨rfl, a91, rfl, hq⟩ := hq
          rcases hq with ⟨p91, hx91, ho91⟩ | ⟨e91, hx91, hb91⟩
          · have X91 := X90.nx ho91
            have L91 : p0 < p91 := X90.lt (by omega) hx91
            have G91 := G90.tr (ho91.1.gz (c := (c0 + 1)) X90.hz) (by omega)
            have R91 : a91 (z + 11) = a90 (z + 11) := ho91.1 _ (by omega)
            have Q91 := X91.le
            show Ev X _ _ 39 [Vr 114, Vi (i : Int), Vi ((c0 : Nat) : Int)] [] ((SHv st dr (z : Int)), (ovl a91 s b)) _
            refine Ev.call (k := 1) (pc1 := 40) (L1 := [Vr 114, Vi (i : Int), Vi ((c0 : Nat) : Int)]) (S1 := [Vr 114]) (h1 := ((SHv st dr (z : Int)), (ovl a91 s b))) (m' := 54) (as := [Vr 114]) (S' := []) (L0 := [Vr 114, Vx, Vx]) (fun _ => rfl) rfl rfl rfl rfl rfl rfl (hP _ _ _ _ (by omega) X91 (by omega)) (fun r h' hq => ?_)
            obtain ⟨rfl, a92, rfl, hq⟩ := hq
            rcases hq with ⟨⟨l92, p92⟩, hx92, c92, X92, g92, o92, h92⟩ | ⟨e92, hx92, hb92⟩
            · dsimp only at h92 X92 o92
              have L92 := o92.lt
              have G92 := G91.tr g92 (by omega)
              have Q92 := X92.le
              show Ev X _ _ 43 [Vr 114, Vi (i : Int), Vi ((c0 : Nat) : Int)] [] ((SHv st dr (z : Int)), (ovl a92 s b)) _
              have hv92 : a92 (z + 11) c0 = ((270 : Nat) : Int) := (g92.2 c0 (by omega)).trans ((congrFun R91 c0).trans E90)
              refine Ev.call (k := 3) (pc1 := 48) (L1 := [Vr 114, Vi (i : Int), Vi ((c0 : Nat) : Int)]) (S1 := [Vi ((c0 : Nat) : Int), Vr (z : Int)]) (h1 := ((SHv st dr (z : Int)), (ovl a92 s b))) (m' := 56) (as := [Vr (z : Int), Vi ((c0 : Nat) : Int)]) (S' := []) (L0 := [Vr (z : Int), Vi ((c0 : Nat) : Int)]) (fun _ => rfl) rfl rfl rfl rfl (stpC_of rfl (pm_recv_of (by omega) (shY_0 hz))) rfl (c_leadHereX X92 (by omega) (k := c0) (t := 270) (by omega) (by omega) hv92) (fun r h' hq => ?_)
              
              rcases hq with ⟨rfl, a93, rfl, X93, f93, v93, w93⟩
              · have Q93 := X93.le
                show Ev X _ _ 51 [Vr 114, Vi (i : Int), Vi ((c0 : Nat) : Int)] [] ((SHv st dr (z : Int)), (ovl a93 s b)) _
                refine Ev.steps (k := 1) (pc' := 54) (L' := [Vr 114, Vi (w32 ((i : Int) + 1)), Vi ((c0 : Nat) : Int)]) (S' := []) (h' := ((SHv st dr (z : Int)), (ovl a93 s b))) (fun _ => rfl) ?_
                rw [show (w32 ((i : Int) + 1)) = ((i : Int) + 1) from w32_id (by unfold R32; omega)]
                refine Ev.steps (k := 1) (pc' := 6) (L' := [Vr 114, Vi ((i : Int) + 1), Vi ((c0 : Nat) : Int)]) (S' := []) (h' := ((SHv st dr (z : Int)), (ovl a93 s b))) (fun _ => rfl) ?_
                obtain ⟨F, rfl⟩ : ∃ F, kk = F + 1 := ⟨kk - 1, by omega⟩
                have hop : opB (tC W p0) = 25 := if_pos (by omega)
                show Ev X _ _ _ _ _ _ (PoX st dr s b W N z p00 c00 K a00 D (if opB (tC W p0) = 0 then .ok (l0, p0) else bnX (gotT W p0) (fun p1 => bnX (P p1) (fun r => chnL W opB P F (l0 ++ (r.1 ++ [(opB (tC W p0), 0)])) r.2))))
                rw [if_neg (by rw [hop]; decide), hx91, bnX_o, hx92, bnX_o]
                have e1 : ∀ j, c0 + 1 ≤ j → a93 (z + 11) j = a92 (z + 11) j := fun j hj => w93 j (by omega)
                have e2 : ∀ j, j < c0 → a93 (z + 11) j = a0 (z + 11) j := fun j hj => (w93 j (by omega)).trans ((g92.2 j (by omega)).trans ((congrFun R91 j).trans (g90.2 j hj)))
                rw [hop]
                exact ih F (by omega) _ (i + 1) _ (l0 ++ (l92 ++ [(25, 0)])) a93 p92 c92 (by omega) (by omega) X93 (by omega) ⟨G92.1.tr f93, fun j hj => (e2 j (by omega)).trans (G0.2 j hj)⟩ (CoC.log (by decide) (o0.cg (fun j _ hj => e2 j hj)) (by rw [v93]; rfl) (o92.cg (fun j hj _ => e1 j hj))) (by omega) (by omega)
            · have B92 := G91.bz hb92
              show Ev X _ _ 43 [Vr 114, Vi (i : Int), Vi ((c0 : Nat) : Int)] [] ((SHv st dr (z : Int)), (ovl a92 s b)) _
              refine Ev.call (k := 3) (pc1 := 48) (L1 := [Vr 114, Vi (i : Int), Vi ((c0 : Nat) : Int)]) (S1 := [Vi ((c0 : Nat) : Int), Vr (z : Int)]) (h1 := ((SHv st dr (z : Int)), (ovl a92 s b))) (m' := 56) (as := [Vr (z : Int), Vi ((c0 : Nat) : Int)]) (S' := []) (L0 := [Vr (z : Int), Vi ((c0 : Nat) : Int)]) (fun _ => rfl) rfl rfl rfl rfl (stpC_of rfl (pm_recv_of (by omega) (shY_0 hz))) rfl (c_leadHere_br hz B92.2.2.2 ((c0 : Nat) : Int)) (fun r h' hq => ?_)
              obtain ⟨rfl, a94, rfl, f1, f2, f3⟩ := hq
              have B94 := B92.st hz f1 f2 f3
              show Ev X _ _ 51 [Vr 114, Vi (i : Int), Vi ((c0 : Nat) : Int)] [] ((SHv st dr (z : Int)), (ovl a94 s b)) _
              refine Ev.steps (k := 1) (pc' := 54) (L' := [Vr 114, Vi (w32 ((i : Int) + 1)), Vi ((c0 : Nat) : Int)]) (S' := []) (h' := ((SHv st dr (z : Int)), (ovl a94 s b))) (fun _ => rfl) ?_
              rw [show (w32 ((i : Int) + 1)) = ((i : Int) + 1) from w32_id (by unfold R32; omega)]
              refine Ev.steps (k := 1) (pc' := 6) (L' := [Vr 114, Vi ((i : Int) + 1), Vi ((c0 : Nat) : Int)]) (S' := []) (h' := ((SHv st dr (z : Int)), (ovl a94 s b))) (fun _ => rfl) ?_
              obtain ⟨F, rfl⟩ : ∃ F, kk = F + 1 := ⟨kk - 1, by omega⟩
              have hop : opB (tC W p0) = 25 := if_pos (by omega)
              show Ev X _ _ _ _ _ _ (PoX st dr s b W N z p00 c00 K a00 D (if opB (tC W p0) = 0 then .ok (l0, p0) else bnX (gotT W p0) (fun p1 => bnX (P p1) (fun r => chnL W opB P F (l0 ++ (r.1 ++ [(opB (tC W p0), 0)])) r.2))))
              rw [if_neg (by rw [hop]; decide), hx91, bnX_o, hx92, bnX_e]
              exact (c_both_brl hz _ _ B94).mono (fun r h' hq => ⟨hq.1, hq.2.choose, hq.2.choose_spec.1, Or.inr ⟨_, rfl, hq.2.choose_spec.2⟩⟩)
          · have B91 := G90.bd X90 (by omega) hb91
            show Ev X _ _ 39 [Vr 114, Vi (i : Int), Vi ((c0 : Nat) : Int)] [] ((SHv st dr (z : Int)), (ovl a91 s b)) _
            refine Ev.call (k := 1) (pc1 := 40) (L1 := [Vr 114, Vi (i : Int), Vi ((c0 : Nat) : Int)]) (S1 := [Vr 114]) (h1 := ((SHv st dr (z : Int)), (ovl a91 s b))) (m' := 54) (as := [Vr 114]) (S' := []) (L0 := [Vr 114, Vx, Vx]) (fun _ => rfl) rfl rfl rfl rfl rfl rfl (c_fact_br hz B91) (fun r h' hq => ?_)
            obtain ⟨rfl, a95, rfl, B95⟩ := hq
            show Ev X _ _ 43 [Vr 114, Vi (i : Int), Vi ((c0 : Nat) : Int)] [] ((SHv st dr (z : Int)), (ovl a95 s b)) _
            refine Ev.call (k := 3) (pc1 := 48) (L1 := [Vr 114, Vi (i : Int), Vi ((c0 : Nat) : Int)]) (S1 := [Vi ((c0 : Nat) : Int), Vr (z : Int)]) (h1 := ((SHv st dr (z : Int)), (ovl a95 s b))) (m' := 56) (as := [Vr (z : Int), Vi ((c0 : Nat) : Int)]) (S' := []) (L0 := [Vr (z : Int), Vi ((c0 : Nat) : Int)]) (fun _ => rfl) rfl rfl rfl rfl (stpC_of rfl (pm_recv_of (by omega) (shY_0 hz))) rfl (c_leadHere_br hz B95.2.2.2 ((c0 : Nat) : Int)) (fun r h' hq => ?_)
            obtain ⟨rfl, a96, rfl, f1, f2, f3⟩ := hq
            have B96 := B95.st hz f1 f2 f3
            show Ev X _ _ 51 [Vr 114, Vi (i : Int), Vi ((c0 : Nat) : Int)] [] ((SHv st dr (z : Int)), (ovl a96 s b)) _
            refine Ev.steps (k := 1) (pc' := 54) (L' := [Vr 114, Vi (w32 ((i : Int) + 1)), Vi ((c0 : Nat) : Int)]) (S' := []) (h' := ((SHv st dr (z : Int)), (ovl a96 s b))) (fun _ => rfl) ?_
            rw [show (w32 ((i : Int) + 1)) = ((i : Int) + 1) from w32_id (by unfold R32; omega)]
            refine Ev.steps (k := 1) (pc' := 6) (L' := [Vr 114, Vi ((i : Int) + 1), Vi ((c0 : Nat) : Int)]) (S' := []) (h' := ((SHv st dr (z : Int)), (ovl a96 s b))) (fun _ => rfl) ?_
            obtain ⟨F, rfl⟩ : ∃ F, kk = F + 1 := ⟨kk - 1, by omega⟩
            have hop : opB (tC W p0) = 25 := if_pos (by omega)
            show Ev X _ _ _ _ _ _ (PoX st dr s b W N z p00 c00 K a00 D (if opB (tC W p0) = 0 then .ok (l0, p0) else bnX (gotT W p0) (fun p1 => bnX (P p1) (fun r => chnL W opB P F (l0 ++ (r.1 ++ [(opB (tC W p0), 0)])) r.2))))
            rw [if_neg (by rw [hop]; decide), hx91, bnX_e]
            exact (c_both_brl hz _ _ B96).mono (fun r h' hq => ⟨hq.1, hq.2.choose, hq.2.choose_spec.1, Or.inr ⟨_, rfl, hq.2.choose_spec.2⟩⟩)
theorem c_both {X : List Int} {st dr : Int} {s b : C3} {W : TXT} {N : SC} {z : Nat} (hz : hyS z) {K : Nat} {P : PRS} {D h : Nat} (hP : MOk X st dr s b W N z 54 [Vr 114, Vx, Vx] K P D h) : MOk X st dr s b W N z 53 [Vr 114, Vx, Vx] K (chnT W opB P) D (h + 9) := by
  intro d a0 p0 c0 hd X0 hc0
  have hz1 := z11 hz
  obtain ⟨d, rfl⟩ : ∃ d1, d = d1 + 9 := ⟨d - 9, by omega⟩
  have G0 : Gz z c0 a0 a0 := Gz.rf
  have Q0 := X0.le
  refine Ev.call (k := 1) (pc1 := 1) (L1 := [Vr 114, Vx, Vx]) (S1 := [Vr 114]) (h1 := ((SHv st dr (z : Int)), (ovl a0 s b))) (m' := 54) (as := [Vr 114]) (S' := []) (L0 := [Vr 114, Vx, Vx]) (fun _ => rfl) rfl rfl rfl rfl rfl rfl (hP _ _ _ _ (by omega) X0 (by omega)) (fun r h' hq => ?_)
  obtain ⟨rfl, a97, rfl, hq⟩ := hq
  rcases hq with ⟨⟨l97, p97⟩, hx97, c97, X97, g97, o97, h97⟩ | ⟨e97, hx97, hb97⟩
  · dsimp only at h97 X97 o97
    have L97 := o97.lt
    have G97 := G0.tr g97 (by omega)
    have Q97 := X97.le
    show Ev X _ _ 4 [Vr 114, Vx, Vx] [] ((SHv st dr (z : Int)), (ovl a97 s b)) _
    refine Ev.steps (k := 2) (pc' := 6) (L' := [Vr 114, Vi 0, Vx]) (S' := []) (h' := ((SHv st dr (z : Int)), (ovl a97 s b))) (fun _ => rfl) ?_
    unfold chnT
    rw [hx97, bnX_o]
    exact c_both_l hz hP _ 0 _ l97 a97 p97 c97 (by omega) (by omega) X97 (by omega) G97 o97 h97
  · have B97 := G0.bz hb97
    show Ev X _ _ 4 [Vr 114, Vx, Vx] [] ((SHv st dr (z : Int)), (ovl a97 s b)) _
    refine Ev.steps (k := 2) (pc' := 6) (L' := [Vr 114, Vi 0, Vx]) (S' := []) (h' := ((SHv st dr (z : Int)), (ovl a97 s b))) (fun _ => rfl) ?_
    unfold chnT
    rw [hx97, bnX_e]
    exact (c_both_brl hz _ _ B97).mono (fun r h' hq => ⟨hq.1, hq.2.choose, hq.2.choose_spec.1, Or.inr ⟨_, rfl, hq.2.choose_spec.2⟩⟩)
theorem c_test_l {X : List Int} {st dr : Int} {s b : C3} {W : TXT} {N : SC} {z : Nat} (hz : hyS z) {K : Nat} {P : PRS} {D h : Nat} (hP : MOk X st dr s b W N z 53 [Vr 114, Vx, Vx] K P D h) {a00 : C3} {p00 c00 : Nat} (d i : Nat) (x : pm_V) (l0 : List (Nat × Nat)) (a0 : C3) (p0 c0 : Nat) (hd : h + 9 ≤ d) (hi : i ≤ 1200) (X0 : XoC W N z p0 c0 K a0) (hc0 : c0 ≤ p0) (G0 : Gz z c00 a00 a0) (o0 : CoC (a0 (z + 11)) D c00 l0 c0) (h0 : c0 + p00 ≤ c00 + p0) : Ev X d 52 6 [Vr 114, Vi (i : Int), x] [] (SHv st dr (z : Int), ovl a0 s b) (PoX st dr s b W N z p00 c00 K a00 D (chnL W opO P (1200 - i) l0 p0)) := by
  induction hk : 1200 - i using Nat.strongRecOn generalizing i x l0 a0 p0 c0 d with
  | ind kk ih =>
    have hz1 := z11 hz
    obtain ⟨d, rfl⟩ : ∃ d1, d = d1 + 9 := ⟨d - 9, by omega⟩
    have Q0 := X0.le
    have L0 := o0.lt
    have hl0 : tC W p0 ≠ 302 → p0 < W.2 := fun h => Nat.lt_of_lt_of_le (tok_lt X0.le.1 X0.1.1.1 h X0.1.2.2.2.2.2.2.2.2.1) (tok_rg X0.le.1 X0.1.1.1).2
    refine Ev.ite (P := 1200 ≤ (i : Int)) (k := 3) (a := 57) (b := 13) (L' := [Vr 114, Vi (i : Int), x]) (S' := []) (h' := ((SHv st dr (z : Int)), (ovl a0 s b))) (fun _ => rfl) (fun b10 => ?_) (fun b10 => ?_)
    · refine Ev.fin (k := 1) (r := none) (h' := ((SHv st dr (z : Int)), (ovl a0 s b))) (fun _ => rfl) ?_
      refine ⟨rfl, _, rfl, ?_⟩
      have e : chnL W opO P kk l0 p0 = .ok (l0, p0) := by
        match kk, hk with
        | 0, _ => rfl
        | F + 1, _ =>
          show (if opO (tC W p0) = 0 then Except.ok (l0, p0) else _) = _
          rw [if_pos (show opO (tC W p0) = 0 from if_neg (by omega))]
      rw [e]
      exact Or.inl ⟨_, rfl, c0, X0, G0, o0, h0⟩
    · refine Ev.steps (k := 2) (pc' := 17) (L' := [Vr 114, Vi (i : Int), x]) (S' := [Vi (a0 114 5)]) (h' := ((SHv st dr (z : Int)), (ovl a0 s b))) (fun _ => rfl) ?_
      rw [X0.t5]
      refine Ev.ite (P := ((tC W p0 : Nat) : Int) ≠ 269) (k := 2) (a := 57) (b := 23) (L' := [Vr 114, Vi (i : Int), x]) (S' := []) (h' := ((SHv st dr (z : Int)), (ovl a0 s b))) (fun _ => rfl) (fun b20 => ?_) (fun b20 => ?_)
      · refine Ev.fin (k := 1) (r := none) (h' := ((SHv st dr (z : Int)), (ovl a0 s b))) (fun _ => rfl) ?_
        refine ⟨rfl, _, rfl, ?_⟩
        have e : chnL W opO P kk l0 p0 = .ok (l0, p0) := by
          match kk, hk with
          | 0, _ => rfl
          | F + 1, _ =>
            show (if opO (tC W p0) = 0 then Except.ok (l0, p0) else _) = _
            rw [if_pos (show opO (tC W p0) = 0 from if_neg (by omega))]
        rw [e]
        exact Or.inl ⟨_, rfl, c0, X0, G0, o0, h0⟩
      · refine Ev.call (k := 4) (pc1 := 31) (L1 := [Vr 114, Vi (i : Int), x]) (S1 := [Vi 0, Vi 269, Vr (z : Int)]) (h1 := ((SHv st dr (z : Int)), (ovl a0 s b))) (m' := 49) (as := [Vr (z : Int), Vi 269, Vi 0]) (S' := []) (L0 := [Vr (z : Int), Vi 269, Vi 0]) (fun _ => rfl) rfl rfl rfl rfl (stpC_of rfl (pm_recv_of (by omega) (shY_0 hz))) rfl (c_emitX (a := a0) X0 (by omega) 269 0 (by omega) (by omega)) (fun r h' hq => ?_)
        obtain ⟨rfl, hq⟩ := hq
        rcases hq with ⟨a98, rfl, X98, g98, E98⟩
        · have G98 := G0.tr g98 (by omega)
          have Q98 := X98.le
          show Ev X _ _ 34 [Vr 114, Vi (i : Int), x] [Vi ((c0 : Nat) : Int)] ((SHv st dr (z : Int)), (ovl a98 s b)) _
          refine Ev.call (k := 2) (pc1 := 36) (L1 := [Vr 114, Vi (i : Int), Vi ((c0 : Nat) : Int)]) (S1 := [Vr 114]) (h1 := ((SHv st dr (z : Int)), (ovl a98 s b))) (m' := 27) (as := [Vr 114]) (S' := []) (L0 := [Vr 114, Vx, Vx, Vx, Vx]) (fun _ => rfl) rfl rfl rfl rfl rfl rfl (c_next X98.1) (fun r h' hq => ?_)
          obtain ⟨rfl, a99, rfl, hq⟩ := hq
          rcases hq with ⟨p99, hx99, ho99⟩ | ⟨e99, hx99, hb99⟩
          · have X99 := X98.nx ho99
            have L99 : p0 < p99 := X98.lt (by omega) hx99
            have G99 := G98.tr (ho99.1.gz (c := (c0 + 1)) X98.hz) (by omega)
            have R99 : a99 (z + 11) = a98 (z + 11) := ho99.1 _ (by omega)
            have Q99 := X99.le
            show Ev X _ _ 39 [Vr 114, Vi (i : Int), Vi ((c0 : Nat) : Int)] [] ((SHv st dr (z : Int)), (ovl a99 s b)) _
            refine Ev.call (k := 1) (pc1 := 40) (L1 := [Vr 114, Vi (i : Int), Vi ((c0 : Nat) : Int)]) (S1 := [Vr 114]) (h1 := ((SHv st dr (z : Int)), (ovl a99 s b))) (m' := 53) (as := [Vr 114]) (S' := []) (L0 := [Vr 114, Vx, Vx]) (fun _ => rfl) rfl rfl rfl rfl rfl rfl (hP _ _ _ _ (by omega) X99 (by omega)) (fun r h' hq => ?_)
            obtain ⟨rfl, a100, rfl, hq⟩ := hq
            rcases hq with ⟨⟨l100, p100⟩, hx100, c100, X100, g100, o100, h100⟩ | ⟨e100, hx100, hb100⟩
            · dsimp only at h100 X100 o100
              have L100 := o100.lt
              have G100 := G99.tr g100 (by omega)
              have Q100 := X100.le
              show Ev X _ _ 43 [Vr 114, Vi (i : Int), Vi ((c0 : Nat) : Int)] [] ((SHv st dr (z : Int)), (ovl a100 s b)) _
              have hv100 : a100 (z + 11) c0 = ((269 : Nat) : Int) := (g100.2 c0 (by omega)).trans ((congrFun R99 c0).trans E98)
              refine Ev.call (k := 3) (pc1 := 48) (L1 := [Vr 114, Vi (i : Int), Vi ((c0 : Nat) : Int)]) (S1 := [Vi ((c0 : Nat) : Int), Vr (z : Int)]) (h1 := ((SHv st dr (z : Int)), (ovl a100 s b))) (m' := 56) (as := [Vr (z : Int), Vi ((c0 : Nat) : Int)]) (S' := []) (L0 := [Vr (z : Int), Vi ((c0 : Nat) : Int)]) (fun _ => rfl) rfl rfl rfl rfl (stpC_of rfl (pm_recv_of (by omega) (shY_0 hz))) rfl (c_leadHereX X100 (by omega) (k := c0) (t := 269) (by omega) (by omega) hv100) (fun r h' hq => ?_)
              
              rcases hq with ⟨rfl, a101, rfl, X101, f101, v101, w101⟩
              · have Q101 := X101.le
                show Ev X _ _ 51 [Vr 114, Vi (i : Int), Vi ((c0 : Nat) : Int)] [] ((SHv st dr (z : Int)), (ovl a101 s b)) _
                refine Ev.steps (k := 1) (pc' := 54) (L' := [Vr 114, Vi (w32 ((i : Int) + 1)), Vi ((c0 : Nat) : Int)]) (S' := []) (h' := ((SHv st dr (z : Int)), (ovl a101 s b))) (fun _ => rfl) ?_
                rw [show (w32 ((i : Int) + 1)) = ((i : Int) + 1) from w32_id (by unfold R32; omega)]
                refine Ev.steps (k := 1) (pc' := 6) (L' := [Vr 114, Vi ((i : Int) + 1), Vi ((c0 : Nat) : Int)]) (S' := []) (h' := ((SHv st dr (z : Int)), (ovl a101 s b))) (fun _ => rfl) ?_
                obtain ⟨F, rfl⟩ : ∃ F, kk = F + 1 := ⟨kk - 1, by omega⟩
                have hop : opO (tC W p0) = 26 := if_pos (by omega)
                show Ev X _ _ _ _ _ _ (PoX st dr s b W N z p00 c00 K a00 D (if opO (tC W p0) = 0 then .ok (l0, p0) else bnX (gotT W p0) (fun p1 => bnX (P p1) (fun r => chnL W opO P F (l0 ++ (r.1 ++ [(opO (tC W p0), 0)])) r.2))))
                rw [if_neg (by rw [hop]; decide), hx99, bnX_o, hx100, bnX_o]
                have e1 : ∀ j, c0 + 1 ≤ j → a101 (z + 11) j = a100 (z + 11) j := fun j hj => w101 j (by omega)
                have e2 : ∀ j, j < c0 → a101 (z + 11) j = a0 (z + 11) j := fun j hj => (w101 j (by omega)).trans ((g100.2 j (by omega)).trans ((congrFun R99 j).trans (g98.2 j hj)))
                rw [hop]
                exact ih F (by omega) _ (i + 1) _ (l0 ++ (l100 ++ [(26, 0)])) a101 p100 c100 (by omega) (by omega) X101 (by omega) ⟨G100.1.tr f101, fun j hj => (e2 j (by omega)).trans (G0.2 j hj)⟩ (CoC.log (by decide) (o0.cg (fun j _ hj => e2 j hj)) (by rw [v101]; rfl) (o100.cg (fun j hj _ => e1 j hj))) (by omega) (by omega)
            · have B100 := G99.bz hb100
              show Ev X _ _ 43 [Vr 114, Vi (i : Int), Vi ((c0 : Nat) : Int)] [] ((SHv st dr (z : Int)), (ovl a100 s b)) _
              refine Ev.call (k := 3) (pc1 := 48) (L1 := [Vr 114, Vi (i : Int), Vi ((c0 : Nat) : Int)]) (S1 := [Vi ((c0 : Nat) : Int), Vr (z : Int)]) (h1 := ((SHv st dr (z : Int)), (ovl a100 s b))) (m' := 56) (as := [Vr (z : Int), Vi ((c0 : Nat) : Int)]) (S' := []) (L0 := [Vr (z : Int), Vi ((c0 : Nat) : Int)]) (fun _ => rfl) rfl rfl rfl rfl (stpC_of rfl (pm_recv_of (by omega) (shY_0 hz))) rfl (c_leadHere_br hz B100.2.2.2 ((c0 : Nat) : Int)) (fun r h' hq => ?_)
              obtain ⟨rfl, a102, rfl, f1, f2, f3⟩ := hq
              have B102 := B100.st hz f1 f2 f3
              show Ev X _ _ 51 [Vr 114, Vi (i : Int), Vi ((c0 : Nat) : Int)] [] ((SHv st dr (z : Int)), (ovl a102 s b)) _
              refine Ev.steps (k := 1) (pc' := 54) (L' := [Vr 114, Vi (w32 ((i : Int) + 1)), Vi ((c0 : Nat) : Int)]) (S' := []) (h' := ((SHv st dr (z : Int)), (ovl a102 s b))) (fun _ => rfl) ?_
              rw [show (w32 ((i : Int) + 1)) = ((i : Int) + 1) from w32_id (by unfold R32; omega)]
              refine Ev.steps (k := 1) (pc' := 6) (L' := [Vr 114, Vi ((i : Int) + 1), Vi ((c0 : Nat) : Int)]) (S' := []) (h' := ((SHv st dr (z : Int)), (ovl a102 s b))) (fun _ => rfl) ?_
              obtain ⟨F, rfl⟩ : ∃ F, kk = F + 1 := ⟨kk - 1, by omega⟩
              have hop : opO (tC W p0) = 26 := if_pos (by omega)
              show Ev X _ _ _ _ _ _ (PoX st dr s b W N z p00 c00 K a00 D (if opO (tC W p0) = 0 then .ok (l0, p0) else bnX (gotT W p0) (fun p1 => bnX (P p1) (fun r => chnL W opO P F (l0 ++ (r.1 ++ [(opO (tC W p0), 0)])) r.2))))
              rw [if_neg (by rw [hop]; decide), hx99, bnX_o, hx100, bnX_e]
              exact (c_test_brl hz _ _ B102).mono (fun r h' hq => ⟨hq.1, hq.2.choose, hq.2.choose_spec.1, Or.inr ⟨_, rfl, hq.2.choose_spec.2⟩⟩)
          · have B99 := G98.bd X98 (by omega) hb99
            show Ev X _ _ 39 [Vr 114, Vi (i : Int), Vi ((c0 : Nat) : Int)] [] ((SHv st dr (z : Int)), (ovl a99 s b)) _
            refine Ev.call (k := 1) (pc1 := 40) (L1 := [Vr 114, Vi (i : Int), Vi ((c0 : Nat) : Int)]) (S1 := [Vr 114]) (h1 := ((SHv st dr (z : Int)), (ovl a99 s b))) (m' := 53) (as := [Vr 114]) (S' := []) (L0 := [Vr 114, Vx, Vx]) (fun _ => rfl) rfl rfl rfl rfl rfl rfl (c_both_br hz B99) (fun r h' hq => ?_)
            obtain ⟨rfl, a103, rfl, B103⟩ := hq
            show Ev X _ _ 43 [Vr 114, Vi (i : Int), Vi ((c0 : Nat) : Int)] [] ((SHv st dr (z : Int)), (ovl a103 s b)) _
            refine Ev.call (k := 3) (pc1 := 48) (L1 := [Vr 114, Vi (i : Int), Vi ((c0 : Nat) : Int)]) (S1 := [Vi ((c0 : Nat) : Int), Vr (z : Int)]) (h1 := ((SHv st dr (z : Int)), (ovl a103 s b))) (m' := 56) (as := [Vr (z : Int), Vi ((c0 : Nat) : Int)]) (S' := []) (L0 := [Vr (z : Int), Vi ((c0 : Nat) : Int)]) (fun _ => rfl) rfl rfl rfl rfl (stpC_of rfl (pm_recv_of (by omega) (shY_0 hz))) rfl (c_leadHere_br hz B103.2.2.2 ((c0 : Nat) : Int)) (fun r h' hq => ?_)
            obtain ⟨rfl, a104, rfl, f1, f2, f3⟩ := hq
            have B104 := B103.st hz f1 f2 f3
            show Ev X _ _ 51 [Vr 114, Vi (i : Int), Vi ((c0 : Nat) : Int)] [] ((SHv st dr (z : Int)), (ovl a104 s b)) _
            refine Ev.steps (k := 1) (pc' := 54) (L' := [Vr 114, Vi (w32 ((i : Int) + 1)), Vi ((c0 : Nat) : Int)]) (S' := []) (h' := ((SHv st dr (z : Int)), (ovl a104 s b))) (fun _ => rfl) ?_
            rw [show (w32 ((i : Int) + 1)) = ((i : Int) + 1) from w32_id (by unfold R32; omega)]
            refine Ev.steps (k := 1) (pc' := 6) (L' := [Vr 114, Vi ((i : Int) + 1), Vi ((c0 : Nat) : Int)]) (S' := []) (h' := ((SHv st dr (z : Int)), (ovl a104 s b))) (fun _ => rfl) ?_
            obtain ⟨F, rfl⟩ : ∃ F, kk = F + 1 := ⟨kk - 1, by omega⟩
            have hop : opO (tC W p0) = 26 := if_pos (by omega)
            show Ev X _ _ _ _ _ _ (PoX st dr s b W N z p00 c00 K a00 D (if opO (tC W p0) = 0 then .ok (l0, p0) else bnX (gotT W p0) (fun p1 => bnX (P p1) (fun r => chnL W opO P F (l0 ++ (r.1 ++ [(opO (tC W p0), 0)])) r.2))))
            rw [if_neg (by rw [hop]; decide), hx99, bnX_e]
            exact (c_test_brl hz _ _ B104).mono (fun r h' hq => ⟨hq.1, hq.2.choose, hq.2.choose_spec.1, Or.inr ⟨_, rfl, hq.2.choose_spec.2⟩⟩)
theorem c_test {X : List Int} {st dr : Int} {s b : C3} {W : TXT} {N : SC} {z : Nat} (hz : hyS z) {K : Nat} {P : PRS} {D h : Nat} (hP : MOk X st dr s b W N z 53 [Vr 114, Vx, Vx] K P D h) : MOk X st dr s b W N z 52 [Vr 114, Vx, Vx] K (chnT W opO P) D (h + 9) := by
  intro d a0 p0 c0 hd X0 hc0
  have hz1 := z11 hz
  obtain ⟨d, rfl⟩ : ∃ d1, d = d1 + 9 := ⟨d - 9, by omega⟩
  have G0 : Gz z c0 a0 a0 := Gz.rf
  have Q0 := X0.le
  refine Ev.call (k := 1) (pc1 := 1) (L1 := [Vr 114, Vx, Vx]) (S1 := [Vr 114]) (h1 := ((SHv st dr (z : Int)), (ovl a0 s b))) (m' := 53) (as := [Vr 114]) (S' := []) (L0 := [Vr 114, Vx, Vx]) (fun _ => rfl) rfl rfl rfl rfl rfl rfl (hP _ _ _ _ (by omega) X0 (by omega)) (fun r h' hq => ?_)
  obtain ⟨rfl, a105, rfl, hq⟩ := hq
  rcases hq with ⟨⟨l105, p105⟩, hx105, c105, X105, g105, o105, h105⟩ | ⟨e105, hx105, hb105⟩
  · dsimp only at h105 X105 o105
    have L105 := o105.lt
    have G105 := G0.tr g105 (by omega)
    have Q105 := X105.le
    show Ev X _ _ 4 [Vr 114, Vx, Vx] [] ((SHv st dr (z : Int)), (ovl a105 s b)) _
    refine Ev.steps (k := 2) (pc' := 6) (L' := [Vr 114, Vi 0, Vx]) (S' := []) (h' := ((SHv st dr (z : Int)), (ovl a105 s b))) (fun _ => rfl) ?_
    unfold chnT
    rw [hx105, bnX_o]
    exact c_test_l hz hP _ 0 _ l105 a105 p105 c105 (by omega) (by omega) X105 (by omega) G105 o105 h105
  · have B105 := G0.bz hb105
    show Ev X _ _ 4 [Vr 114, Vx, Vx] [] ((SHv st dr (z : Int)), (ovl a105 s b)) _
    refine Ev.steps (k := 2) (pc' := 6) (L' := [Vr 114, Vi 0, Vx]) (S' := []) (h' := ((SHv st dr (z : Int)), (ovl a105 s b))) (fun _ => rfl) ?_
    unfold chnT
    rw [hx105, bnX_e]
    exact (c_test_brl hz _ _ B105).mono (fun r h' hq => ⟨hq.1, hq.2.choose, hq.2.choose_spec.1, Or.inr ⟨_, rfl, hq.2.choose_spec.2⟩⟩)
theorem c_tstG {X : List Int} {st dr : Int} {s b : C3} {W : TXT} {N : SC} {z : Nat} (hz : hyS z) {K K1 : Nat} {I : PRS} {h : Nat} (hI : K ≠ 0 → K = K1 + 1 ∧ MOk X st dr s b W N z 52 [Vr 114, Vx, Vx] K1 I (3 * K1 + 4) h) (hh : 17 * K + 17 ≤ h) : MOk X st dr s b W N z 52 [Vr 114, Vx, Vx] K (tstG W N K I) (3 * K + 4) (h + 9 + 9 + 9) :=
  c_test hz (h := h + 9 + 9) (c_both hz (h := h + 9) (c_fact hz (D := if K = 0 then 0 else 3 * K1 + 4) (Ds := 3 * K + 3) (h := h) (fun hk => ⟨(hI hk).1, by rw [if_neg hk]; exact (hI hk).2⟩) (fun d a p c hd hX hc => c_sumT hz K d a p c (by omega) hX hc) (by omega) (by split <;> omega) (by omega)))
theorem c_tstT {X : List Int} {st dr : Int} {s b : C3} {W : TXT} {N : SC} {z : Nat} (hz : hyS z) : ∀ K, MOk X st dr s b W N z 52 [Vr 114, Vx, Vx] K (tstT W N K) (3 * K + 4) (44 * K + 44)
  | 0 => c_tstG hz (K1 := 0) (I := fun _ => .error (0, 0)) (h := 17) (fun h => absurd rfl h) (by omega)
  | K + 1 => c_tstG hz (K1 := K) (h := 44 * K + 44 + 17) (fun _ => ⟨rfl, fun d a p c hd hX hc => c_tstT hz K d a p c (by omega) hX hc⟩) (by omega)
