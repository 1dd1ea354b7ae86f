/-! THE CLASS SETTLES -/
abbrev TuC (S : STY) (a : SC) (z q : Nat) : Prop := (∀ p, p < q → a (z + 13) (2 * p) = ((cPT S p (nL S) : Nat) : Int) ∧ a (z + 13) (2 * p + 1) = ((cPT S p (nL S) + cntT S p true (nL S) : Nat) : Int)) ∧ ∀ p, p < q → ∀ r, r < nL S → (isT S p true r = true → a (z + 12) (cPT S p (nL S) + cntT S p true r) = (r : Int)) ∧ (isT S p false r = true → a (z + 12) (cPT S p (nL S) + cntT S p true (nL S) + cntT S p false r) = (r : Int))
theorem cP_mo {S : STY} {p q n : Nat} (h : p ≤ q) : cPT S p n ≤ cPT S q n := by
  obtain ⟨k, rfl⟩ := Nat.le.dest h
  induction k with
  | zero => exact Nat.le_refl _
  | succ k ih =>
    have := cP_s (S := S) (p := p + k) n
    have := ih (by omega)
    rw [← Nat.add_assoc]
    omega
theorem c_settle_t {X : List Int} {d : Nat} {st dr rd : Int} {a s b : C3} {z : Nat} (hz : hyS z) {S : STY} {a0 : C3} (hL : nL S ≤ 30) (hc : a0 (z + 1) 4 = ((nL S : Nat) : Int)) (hr : ∀ r, r < nL S → a0 (z + 14 + r) 0 = S.1 11 r + 262 ∧ a0 (z + 14 + r) 1 = S.1 12 r) (hk : ∀ r, r < nL S → 0 ≤ S.1 11 r ∧ S.1 11 r ≤ 5) (q : Nat) (hq : q ≤ 8) (f0 : FrO (z + 12) (z + 13) a0 a) (hI : TuC S a z q) : Ev X (d + 2) 57 62 [Vr (z : Int), Vi ((cPT S q (nL S) : Nat) : Int), Vi (q : Int)] [] (SHv st dr rd, ovl a s b) (fun rr hh => rr = none ∧ ∃ a' : C3, hh = (SHv st dr rd, ovl a' s b) ∧ FrO (z + 12) (z + 13) a0 a' ∧ TuC S a' z 8 ∧ a' (z + 13) 16 = ((cPT S 8 (nL S) : Nat) : Int)) := by
  induction hkk : (8 - q) using Nat.strongRecOn generalizing q a with
  | ind kk ih =>
    have hz0 : z = 2 ∨ z = 58 := hz
    have hcs := cP_s (S := S) (p := q) (nL S)
    have hcl := cP_le (S := S) (p := q + 1) (nL S)
    refine Ev.ite (P := 8 ≤ (q : Int)) (k := 3) (a := 110) (b := 68) (L' := [Vr (z : Int), Vi ((cPT S q (nL S) : Nat) : Int), Vi (q : Int)]) (S' := []) (h' := ((SHv st dr rd), (ovl a s b))) (fun _ => rfl) (fun b65 => ?_) (fun b65 => ?_)
    · refine Ev.steps (k := 1) (pc' := 111) (L' := [Vr (z : Int), Vi ((cPT S q (nL S) : Nat) : Int), Vi (q : Int)]) (S' := [Vr (z : Int)]) (h' := ((SHv st dr rd), (ovl a s b))) (fun _ => rfl) ?_
      refine Ev.getr (r := ((z : Int) + 13)) rfl rfl (by omega) (shY_0 hz) rfl rfl rfl ?_
      refine Ev.steps (k := 2) (pc' := 117) (L' := [Vr (z : Int), Vi ((cPT S q (nL S) : Nat) : Int), Vi (q : Int)]) (S' := [Vi ((cPT S q (nL S) : Nat) : Int), Vi 16, Vr ((z : Int) + 13)]) (h' := ((SHv st dr rd), (ovl a s b))) (fun _ => rfl) ?_
      refine Ev.iast (c' := (ovl (updC a (z + 13) 16 ((cPT S q (nL S) : Nat) : Int)) s b)) rfl (by omega) (shY_13 hz) (by omega) (by omega) (ovl_wc (by omega)) ?_
      refine Ev.fin (k := 1) (r := none) (h' := ((SHv st dr rd), (ovl (updC a (z + 13) 16 ((cPT S q (nL S) : Nat) : Int)) s b))) (fun _ => rfl) ?_
      obtain rfl : q = 8 := by omega
      refine ⟨rfl, _, rfl, f0.up (by omega), ⟨fun p hp => ?_, fun p hp r hr2 => ?_⟩, updC_sm⟩
      · rw [updC_if, updC_if, if_neg (by omega), if_neg (by omega)]
        exact hI.1 p hp
      · rw [updC_row (by omega)]
        exact hI.2 p hp r hr2
    · refine Ev.steps (k := 1) (pc' := 69) (L' := [Vr (z : Int), Vi ((cPT S q (nL S) : Nat) : Int), Vi (q : Int)]) (S' := [Vr (z : Int)]) (h' := ((SHv st dr rd), (ovl a s b))) (fun _ => rfl) ?_
      refine Ev.getr (r := ((z : Int) + 13)) rfl rfl (by omega) (shY_0 hz) rfl rfl rfl ?_
      refine Ev.steps (k := 3) (pc' := 75) (L' := [Vr (z : Int), Vi ((cPT S q (nL S) : Nat) : Int), Vi (q : Int)]) (S' := [Vi (w32 (2 * (q : Int))), Vr ((z : Int) + 13)]) (h' := ((SHv st dr rd), (ovl a s b))) (fun _ => rfl) ?_
      rw [show (w32 (2 * (q : Int))) = (2 * (q : Int)) from w32_id (by unfold R32; omega)]
      refine Ev.steps (k := 1) (pc' := 76) (L' := [Vr (z : Int), Vi ((cPT S q (nL S) : Nat) : Int), Vi (q : Int)]) (S' := [Vi ((cPT S q (nL S) : Nat) : Int), Vi (2 * (q : Int)), Vr ((z : Int) + 13)]) (h' := ((SHv st dr rd), (ovl a s b))) (fun _ => rfl) ?_
      refine Ev.iast (c' := (ovl (updC a (z + 13) (2 * q) ((cPT S q (nL S) : Nat) : Int)) s b)) rfl (by omega) (shY_13 hz) (by omega) (by omega) (ovl_wc (by omega)) ?_
      refine Ev.call (k := 4) (pc1 := 81) (L1 := [Vr (z : Int), Vi ((cPT S q (nL S) : Nat) : Int), Vi (q : Int)]) (S1 := [Vi ((cPT S q (nL S) : Nat) : Int), Vi 1, Vi (q : Int), Vr (z : Int)]) (h1 := ((SHv st dr rd), (ovl (updC a (z + 13) (2 * q) ((cPT S q (nL S) : Nat) : Int)) s b))) (m' := 60) (as := [Vr (z : Int), Vi (q : Int), Vi 1, Vi ((cPT S q (nL S) : Nat) : Int)]) (S' := []) (L0 := [Vr (z : Int), Vi (q : Int), Vi 1, Vi ((cPT S q (nL S) : Nat) : Int), Vx, Vx]) (fun _ => rfl) rfl rfl rfl rfl (stpC_of rfl (pm_recv_of (by omega) (shY_0 hz))) rfl (c_fillTurns_t (a := (updC a (z + 13) (2 * q) ((cPT S q (nL S) : Nat) : Int))) hz hL (by rw [updC_row (by omega), f0 (z + 1) (by omega)]; exact hc) (fun r h => by rw [updC_row (by omega), f0 (z + 14 + r) (by omega)]; exact hr r h) hk q (cPT S q (nL S)) (by omega)) (fun r h' hq => ?_)
      obtain ⟨rfl, a5, rfl, f5, j5, i5⟩ := hq
      show Ev X _ _ 84 [Vr (z : Int), Vi ((cPT S q (nL S) : Nat) : Int), Vi (q : Int)] [Vi ((cPT S q (nL S) + cntT S q true (nL S) : Nat) : Int)] ((SHv st dr rd), (ovl a5 s b)) _
      refine Ev.steps (k := 2) (pc' := 86) (L' := [Vr (z : Int), Vi ((cPT S q (nL S) + cntT S q true (nL S) : Nat) : Int), Vi (q : Int)]) (S' := [Vr (z : Int)]) (h' := ((SHv st dr rd), (ovl a5 s b))) (fun _ => rfl) ?_
      refine Ev.getr (r := ((z : Int) + 13)) rfl rfl (by omega) (shY_0 hz) rfl rfl rfl ?_
      refine Ev.steps (k := 3) (pc' := 92) (L' := [Vr (z : Int), Vi ((cPT S q (nL S) + cntT S q true (nL S) : Nat) : Int), Vi (q : Int)]) (S' := [Vi (w32 (2 * (q : Int))), Vr ((z : Int) + 13)]) (h' := ((SHv st dr rd), (ovl a5 s b))) (fun _ => rfl) ?_
      rw [show (w32 (2 * (q : Int))) = (2 * (q : Int)) from w32_id (by unfold R32; omega)]
      refine Ev.steps (k := 2) (pc' := 94) (L' := [Vr (z : Int), Vi ((cPT S q (nL S) + cntT S q true (nL S) : Nat) : Int), Vi (q : Int)]) (S' := [Vi (w32 ((2 * (q : Int)) + 1)), Vr ((z : Int) + 13)]) (h' := ((SHv st dr rd), (ovl a5 s b))) (fun _ => rfl) ?_
      rw [show (w32 ((2 * (q : Int)) + 1)) = ((2 * (q : Int)) + 1) from w32_id (by unfold R32; omega)]
      refine Ev.steps (k := 1) (pc' := 95) (L' := [Vr (z : Int), Vi ((cPT S q (nL S) + cntT S q true (nL S) : Nat) : Int), Vi (q : Int)]) (S' := [Vi ((cPT S q (nL S) + cntT S q true (nL S) : Nat) : Int), Vi ((2 * (q : Int)) + 1), Vr ((z : Int) + 13)]) (h' := ((SHv st dr rd), (ovl a5 s b))) (fun _ => rfl) ?_
      refine Ev.iast (c' := (ovl (updC a5 (z + 13) ((2 * q + 1)) ((cPT S q (nL S) + cntT S q true (nL S) : Nat) : Int)) s b)) rfl (by omega) (shY_13 hz) (by omega) (by omega) (ovl_wc (by omega)) ?_
      refine Ev.call (k := 4) (pc1 := 100) (L1 := [Vr (z : Int), Vi ((cPT S q (nL S) + cntT S q true (nL S) : Nat) : Int), Vi (q : Int)]) (S1 := [Vi ((cPT S q (nL S) + cntT S q true (nL S) : Nat) : Int), Vi 0, Vi (q : Int), Vr (z : Int)]) (h1 := ((SHv st dr rd), (ovl (updC a5 (z + 13) ((2 * q + 1)) ((cPT S q (nL S) + cntT S q true (nL S) : Nat) : Int)) s b))) (m' := 60) (as := [Vr (z : Int), Vi (q : Int), Vi 0, Vi ((cPT S q (nL S) + cntT S q true (nL S) : Nat) : Int)]) (S' := []) (L0 := [Vr (z : Int), Vi (q : Int), Vi 0, Vi ((cPT S q (nL S) + cntT S q true (nL S) : Nat) : Int), Vx, Vx]) (fun _ => rfl) rfl rfl rfl rfl (stpC_of rfl (pm_recv_of (by omega) (shY_0 hz))) rfl (c_fillTurns_f (a := (updC a5 (z + 13) ((2 * q + 1)) ((cPT S q (nL S) + cntT S q true (nL S) : Nat) : Int))) hz hL (by rw [updC_row (by omega), f5 _ (by omega), updC_row (by omega), f0 (z + 1) (by omega)]; exact hc) (fun r h => by rw [updC_row (by omega), f5 _ (by omega), updC_row (by omega), f0 (z + 14 + r) (by omega)]; exact hr r h) hk q (cPT S q (nL S) + cntT S q true (nL S)) (by omega)) (fun r h' hq => ?_)
      obtain ⟨rfl, a6, rfl, f6, j6, i6⟩ := hq
      show Ev X _ _ 103 [Vr (z : Int), Vi ((cPT S q (nL S) + cntT S q true (nL S) : Nat) : Int), Vi (q : Int)] [Vi ((cPT S q (nL S) + cntT S q true (nL S) + cntT S q false (nL S) : Nat) : Int)] ((SHv st dr rd), (ovl a6 s b)) _
      refine Ev.steps (k := 2) (pc' := 107) (L' := [Vr (z : Int), Vi ((cPT S q (nL S) + cntT S q true (nL S) + cntT S q false (nL S) : Nat) : Int), Vi (w32 ((q : Int) + 1))]) (S' := []) (h' := ((SHv st dr rd), (ovl a6 s b))) (fun _ => rfl) ?_
      rw [show (w32 ((q : Int) + 1)) = ((q : Int) + 1) from w32_id (by unfold R32; omega)]
      refine Ev.steps (k := 1) (pc' := 62) (L' := [Vr (z : Int), Vi ((cPT S q (nL S) + cntT S q true (nL S) + cntT S q false (nL S) : Nat) : Int), Vi ((q : Int) + 1)]) (S' := []) (h' := ((SHv st dr rd), (ovl a6 s b))) (fun _ => rfl) ?_
      rw [← hcs]
      refine ih _ (by omega) (a := a6) (q + 1) (by omega) ?_ ⟨fun p hp => ?_, fun p hp r hr2 => ?_⟩ rfl
      · exact (f0.up (by omega)).tr ((f5.wd (by omega) (by omega)).tr ((FrO.rf.up (by omega)).tr (f6.wd (by omega) (by omega))))
      · rw [f6 (z + 13) (by omega), updC_if, updC_if, f5 (z + 13) (by omega), updC_if, updC_if]
        by_cases h : p = q
        · rw [h, if_neg (by omega), if_pos rfl, if_pos rfl]
          exact ⟨rfl, rfl⟩
        · rw [if_neg (by omega), if_neg (by omega), if_neg (by omega), if_neg (by omega)]
          exact hI.1 p (by omega)
      · by_cases h : p = q
        · rw [h]
          refine ⟨fun ht => ?_, fun ht => i6 r hr2 ht⟩
          have hlt := cnt_lt hr2 ht
          rw [j6 _ (by omega), updC_row (by omega)]
          exact i5 r hr2 ht
        · have hm := cP_mo (S := S) (n := nL S) (show p + 1 ≤ q by omega)
          have hs2 := cP_s (S := S) (p := p) (nL S)
          refine ⟨fun ht => ?_, fun ht => ?_⟩
          · have hlt := cnt_lt hr2 ht
            rw [j6 _ (by omega), updC_row (by omega), j5 _ (by omega), updC_row (by omega)]
            exact (hI.2 p (by omega) r hr2).1 ht
          · have hlt := cnt_lt hr2 ht
            rw [j6 _ (by omega), updC_row (by omega), j5 _ (by omega), updC_row (by omega)]
            exact (hI.2 p (by omega) r hr2).2 ht
theorem c_settle_w {X : List Int} {d : Nat} {st dr rd : Int} {a s b : C3} {z : Nat} (hz : hyS z) {S : STY} {a0 : C3} (hD : DoC S.1 a0 z) (hWD : WfD S) (hR : nR S ≤ 8) (hF : ∀ r t, r < 8 → t < 8 → a0 (z + 4) (8 * r + t) = ((fwT S 8 r t : Nat) : Int)) (hL : nL S ≤ 30) (hc : a0 (z + 1) 4 = ((nL S : Nat) : Int)) (hr : ∀ r, r < nL S → a0 (z + 14 + r) 0 = S.1 11 r + 262 ∧ a0 (z + 14 + r) 1 = S.1 12 r) (hk : ∀ r, r < nL S → 0 ≤ S.1 11 r ∧ S.1 11 r ≤ 5) (hw : ∀ r, r < nL S → 0 ≤ S.1 12 r) (room to : Nat) (hro : room < 8) (hto : to ≤ 8) (f0 : FrO (z + 5) (z + 5) a0 a) (hI : ∀ r t, r < 8 → t < 8 → 8 * r + t < 8 * room + to → a (z + 5) (8 * r + t) = if r = t then -1 else bstS S r t 8) : Ev X (d + 2) 57 14 [Vr (z : Int), Vi (room : Int), Vi (to : Int)] [] (SHv st dr rd, ovl a s b) (fun rr hh => rr = none ∧ ∃ a' : C3, hh = (SHv st dr rd, ovl a' s b) ∧ (∀ o, o ≠ z + 5 → o ≠ z + 12 → o ≠ z + 13 → a' o = a0 o) ∧ (∀ r t, r < 8 → t < 8 → a' (z + 5) (8 * r + t) = if r = t then -1 else bstS S r t 8) ∧ TuC S a' z 8 ∧ a' (z + 13) 16 = ((cPT S 8 (nL S) : Nat) : Int)) := by
  induction hkk : (9 * (8 - room) + (8 - to)) using Nat.strongRecOn generalizing room to a with
  | ind kk ih =>
    have hz0 : z = 2 ∨ z = 58 := hz
    have hD2 : DoC S.1 a z := by
      unfold DoC
      rw [f0 _ (by omega)]
      exact hD
    have hF2 : ∀ r t, r < 8 → t < 8 → a (z + 4) (8 * r + t) = ((fwT S 8 r t : Nat) : Int) := by
      rw [f0 _ (by omega)]
      exact hF
    refine Ev.ite (P := 8 ≤ (to : Int)) (k := 3) (a := 52) (b := 20) (L' := [Vr (z : Int), Vi (room : Int), Vi (to : Int)]) (S' := []) (h' := ((SHv st dr rd), (ovl a s b))) (fun _ => rfl) (fun b17 => ?_) (fun b17 => ?_)
    · refine Ev.steps (k := 1) (pc' := 55) (L' := [Vr (z : Int), Vi (w32 ((room : Int) + 1)), Vi (to : Int)]) (S' := []) (h' := ((SHv st dr rd), (ovl a s b))) (fun _ => rfl) ?_
      rw [show (w32 ((room : Int) + 1)) = ((room : Int) + 1) from w32_id (by unfold R32; omega)]
      refine Ev.ite (P := 8 ≤ ((room : Int) + 1)) (k := 4) (a := 58) (b := 12) (L' := [Vr (z : Int), Vi ((room : Int) + 1), Vi (to : Int)]) (S' := []) (h' := ((SHv st dr rd), (ovl a s b))) (fun _ => rfl) (fun b9 => ?_) (fun b9 => ?_)
      · refine Ev.steps (k := 4) (pc' := 62) (L' := [Vr (z : Int), Vi 0, Vi 0]) (S' := []) (h' := ((SHv st dr rd), (ovl a s b))) (fun _ => rfl) ?_
        have hh0 := (c_settle_t (X := X) (d := d) (st := st) (dr := dr) (rd := rd) (s := s) (b := b) hz (S := S) (a0 := a) hL (by rw [f0 _ (by omega)]; exact hc) (fun r h => by rw [f0 _ (by omega)]; exact hr r h) hk 0 (by omega) FrO.rf ⟨fun p h => absurd h (by omega), fun p h => absurd h (by omega)⟩)
        rw [cP_0 _ hw] at hh0
        refine Ev.mono hh0 ?_
        rintro r h' ⟨h1, a', h2, h3, h4, h5⟩
        refine ⟨h1, a', h2, fun o o1 o2 o3 => (h3 o (by omega)).trans (f0 o (by omega)), fun r t hr9 ht9 => ?_, h4, h5⟩
        rw [h3 _ (by omega)]
        exact hI r t hr9 ht9 (by omega)
      · refine Ev.steps (k := 2) (pc' := 14) (L' := [Vr (z : Int), Vi ((room : Int) + 1), Vi 0]) (S' := []) (h' := ((SHv st dr rd), (ovl a s b))) (fun _ => rfl) ?_
        refine ih _ (by omega) (a := a) (room + 1) 0 (by omega) (by omega) (by first | exact f0 | exact f0.up (by omega)) (fun r t hr9 ht9 hlt => ?_) rfl
        first
          | (rw [updC_if]
             by_cases h : 8 * r + t = room * 8 + to
             · obtain rfl : r = room := by omega
               obtain rfl : t = to := by omega
               rw [if_pos h]
               first
                 | (rw [if_pos (by omega)]; done)
                 | (rw [if_neg (by omega)]; done)
             · rw [if_neg h]
               exact hI r t hr9 ht9 (by omega))
          | (exact hI r t hr9 ht9 (by omega))
    · refine Ev.steps (k := 1) (pc' := 21) (L' := [Vr (z : Int), Vi (room : Int), Vi (to : Int)]) (S' := [Vr (z : Int)]) (h' := ((SHv st dr rd), (ovl a s b))) (fun _ => rfl) ?_
      refine Ev.getr (r := ((z : Int) + 5)) rfl rfl (by omega) (shY_0 hz) rfl rfl rfl ?_
      refine Ev.steps (k := 3) (pc' := 28) (L' := [Vr (z : Int), Vi (room : Int), Vi (to : Int)]) (S' := [Vi (w32 ((room : Int) * 8)), Vr ((z : Int) + 5)]) (h' := ((SHv st dr rd), (ovl a s b))) (fun _ => rfl) ?_
      rw [show (w32 ((room : Int) * 8)) = ((room : Int) * 8) from w32_id (by unfold R32; omega)]
      refine Ev.steps (k := 2) (pc' := 30) (L' := [Vr (z : Int), Vi (room : Int), Vi (to : Int)]) (S' := [Vi (w32 (((room : Int) * 8) + (to : Int))), Vr ((z : Int) + 5)]) (h' := ((SHv st dr rd), (ovl a s b))) (fun _ => rfl) ?_
      rw [show (w32 (((room : Int) * 8) + (to : Int))) = (((room : Int) * 8) + (to : Int)) from w32_id (by unfold R32; omega)]
      refine Ev.ite (P := (room : Int) ≠ (to : Int)) (k := 3) (a := 39) (b := 35) (L' := [Vr (z : Int), Vi (room : Int), Vi (to : Int)]) (S' := [Vi (((room : Int) * 8) + (to : Int)), Vr ((z : Int) + 5)]) (h' := ((SHv st dr rd), (ovl a s b))) (fun _ => rfl) (fun b32 => ?_) (fun b32 => ?_)
      · refine Ev.call (k := 3) (pc1 := 42) (L1 := [Vr (z : Int), Vi (room : Int), Vi (to : Int)]) (S1 := [Vi (to : Int), Vi (room : Int), Vr (z : Int), Vi (((room : Int) * 8) + (to : Int)), Vr ((z : Int) + 5)]) (h1 := ((SHv st dr rd), (ovl a s b))) (m' := 59) (as := [Vr (z : Int), Vi (room : Int), Vi (to : Int)]) (S' := [Vi (((room : Int) * 8) + (to : Int)), Vr ((z : Int) + 5)]) (L0 := [Vr (z : Int), Vi (room : Int), Vi (to : Int), Vx, Vx, Vx]) (fun _ => rfl) rfl rfl rfl rfl (stpC_of rfl (pm_recv_of (by omega) (shY_0 hz))) rfl (c_beside hz hD2 hWD hR hF2 room to hro (by omega)) (fun r h' hq => ?_)
        obtain ⟨rfl, rfl⟩ := hq
        show Ev X _ _ 45 [Vr (z : Int), Vi (room : Int), Vi (to : Int)] [Vi (bstS S room to 8), Vi (((room : Int) * 8) + (to : Int)), Vr ((z : Int) + 5)] ((SHv st dr rd), (ovl a s b)) _
        refine Ev.iast (c' := (ovl (updC a (z + 5) ((room * 8 + to)) (bstS S room to 8)) s b)) rfl (by omega) (shY_5 hz) (by omega) (by omega) (ovl_wc (by omega)) ?_
        refine Ev.steps (k := 1) (pc' := 49) (L' := [Vr (z : Int), Vi (room : Int), Vi (w32 ((to : Int) + 1))]) (S' := []) (h' := ((SHv st dr rd), (ovl (updC a (z + 5) ((room * 8 + to)) (bstS S room to 8)) s b))) (fun _ => rfl) ?_
        rw [show (w32 ((to : Int) + 1)) = ((to : Int) + 1) from w32_id (by unfold R32; omega)]
        refine Ev.steps (k := 1) (pc' := 14) (L' := [Vr (z : Int), Vi (room : Int), Vi ((to : Int) + 1)]) (S' := []) (h' := ((SHv st dr rd), (ovl (updC a (z + 5) ((room * 8 + to)) (bstS S room to 8)) s b))) (fun _ => rfl) ?_
        refine ih _ (by omega) (a := (updC a (z + 5) ((room * 8 + to)) (bstS S room to 8))) room (to + 1) (by omega) (by omega) (by first | exact f0 | exact f0.up (by omega)) (fun r t hr9 ht9 hlt => ?_) rfl
        first
          | (rw [updC_if]
             by_cases h : 8 * r + t = room * 8 + to
             · obtain rfl : r = room := by omega
               obtain rfl : t = to := by omega
               rw [if_pos h]
               first
                 | (rw [if_pos (by omega)]; done)
                 | (rw [if_neg (by omega)]; done)
             · rw [if_neg h]
               exact hI r t hr9 ht9 (by omega))
          | (exact hI r t hr9 ht9 (by omega))
      · refine Ev.steps (k := 2) (pc' := 45) (L' := [Vr (z : Int), Vi (room : Int), Vi (to : Int)]) (S' := [Vi (-1), Vi (((room : Int) * 8) + (to : Int)), Vr ((z : Int) + 5)]) (h' := ((SHv st dr rd), (ovl a s b))) (fun _ => rfl) ?_
        refine Ev.iast (c' := (ovl (updC a (z + 5) ((room * 8 + to)) (-1)) s b)) rfl (by omega) (shY_5 hz) (by omega) (by omega) (ovl_wc (by omega)) ?_
        refine Ev.steps (k := 1) (pc' := 49) (L' := [Vr (z : Int), Vi (room : Int), Vi (w32 ((to : Int) + 1))]) (S' := []) (h' := ((SHv st dr rd), (ovl (updC a (z + 5) ((room * 8 + to)) (-1)) s b))) (fun _ => rfl) ?_
        rw [show (w32 ((to : Int) + 1)) = ((to : Int) + 1) from w32_id (by unfold R32; omega)]
        refine Ev.steps (k := 1) (pc' := 14) (L' := [Vr (z : Int), Vi (room : Int), Vi ((to : Int) + 1)]) (S' := []) (h' := ((SHv st dr rd), (ovl (updC a (z + 5) ((room * 8 + to)) (-1)) s b))) (fun _ => rfl) ?_
        refine ih _ (by omega) (a := (updC a (z + 5) ((room * 8 + to)) (-1))) room (to + 1) (by omega) (by omega) (by first | exact f0 | exact f0.up (by omega)) (fun r t hr9 ht9 hlt => ?_) rfl
        first
          | (rw [updC_if]
             by_cases h : 8 * r + t = room * 8 + to
             · obtain rfl : r = room := by omega
               obtain rfl : t = to := by omega
               rw [if_pos h]
               first
                 | (rw [if_pos (by omega)]; done)
                 | (rw [if_neg (by omega)]; done)
             · rw [if_neg h]
               exact hI r t hr9 ht9 (by omega))
          | (exact hI r t hr9 ht9 (by omega))
theorem c_settle {X : List Int} {d : Nat} {st dr rd : Int} {a s b : C3} {z : Nat} (hz : hyS z) {S : STY} {c : Nat} (P0 : PaC S a z c) (hWY : WfY S) (hWD : WfD S) : Ev X (d + 2) 57 0 [Vr (z : Int), Vx, Vx] [] (SHv st dr rd, ovl a s b) (fun rr hh => rr = none ∧ ∃ a' : C3, hh = (SHv st dr rd, ovl a' s b) ∧ (∀ o, o ≠ z + 4 → o ≠ z + 5 → o ≠ z + 12 → o ≠ z + 13 → a' o = a o) ∧ RpC S a' z) := by
  have hz0 : z = 2 ∨ z = 58 := hz
  have hR := hWY.1.1
  have hL := hWY.2.2.2.2.1.1
  have hC := hWY.2.2.2.2.2.1.1
  have hRu := hWY.2.2.2.2.2.2.2.2.2.2.2
  refine Ev.call (k := 1) (pc1 := 1) (L1 := [Vr (z : Int), Vx, Vx]) (S1 := [Vr (z : Int)]) (h1 := ((SHv st dr rd), (ovl a s b))) (m' := 58) (as := [Vr (z : Int)]) (S' := []) (L0 := [Vr (z : Int), Vx, Vx, Vx]) (fun _ => rfl) rfl rfl rfl rfl (stpC_of rfl (pm_recv_of (by omega) (shY_0 hz))) rfl (c_measure hz (S := S) P0.2.2.1) (fun r h' hq => ?_)
  obtain ⟨rfl, a5, rfl, f5, h5⟩ := hq
  show Ev X _ _ 4 [Vr (z : Int), Vx, Vx] [] ((SHv st dr rd), (ovl a5 s b)) _
  refine Ev.steps (k := 7) (pc' := 14) (L' := [Vr (z : Int), Vi 0, Vi 0]) (S' := []) (h' := ((SHv st dr rd), (ovl a5 s b))) (fun _ => rfl) ?_
  refine (c_settle_w hz (S := S) (a0 := a5) (a := a5) (by unfold DoC; rw [f5 _ (by omega)]; exact P0.2.2.1) hWD hR h5 hL (by rw [f5 _ (by omega), P0.1 4 (by omega)]; exact hWY.2.2.2.2.1.2) (fun r h => by rw [f5 _ (by omega)]; have := (P0.2.2.2.2.2.2.1 r h).1; exact ⟨this.1, this.2.1⟩) (fun r h => (hRu r h).1) (fun r h => (hRu r h).2.1.1) 0 0 (by omega) (by omega) FrO.rf (fun r t _ _ h => absurd h (by omega))).mono ?_
  rintro rr h' ⟨h1, a', h2, h3, h4, h6, h7⟩
  have hfr : ∀ o, o ≠ z + 4 → o ≠ z + 5 → o ≠ z + 12 → o ≠ z + 13 → a' o = a o := fun o o1 o2 o3 o4 => (h3 o o2 o3 o4).trans (f5 o (by omega))
  refine ⟨h1, a', h2, hfr, ?_⟩
  obtain ⟨p1, p2, p3, p4, p5, p6, p7, p8⟩ := P0
  have hn : ∀ kd, kd < 3 → ∀ k, k < cntN S.1 kd → a' (z + 2) (8 * ixN kd + k) = cvN (S.1 (1 + kd) k) := fun kd hkd k hk => by
    rw [hfr _ (by omega) (by omega) (by omega) (by omega)]
    exact ((p2 kd hkd).2.2 k hk).2.2
  refine ⟨?_, fun k hk => ?_, fun k hk => hn 1 (by decide) k hk, fun k hk => hn 2 (by decide) k hk, fun r o hr ho => ?_, ?_, ?_, ?_, fun r hr => ?_, fun k hk => ?_, fun p hp => ?_⟩
  · rw [hfr _ (by omega) (by omega) (by omega) (by omega)]; exact p1
  · have := hn 0 (by decide) k hk
    rwa [show 8 * ixN 0 + k = k by show 8 * 0 + k = k; omega] at this
  · rw [h4 r o (by omega) (by omega), bst_n hWD (show r < 8 by omega) 8 hR (by omega)]
    rfl
  · rw [hfr _ (by omega) (by omega) (by omega) (by omega)]; exact p4
  · rw [hfr _ (by omega) (by omega) (by omega) (by omega)]; exact p5
  · rw [hfr _ (by omega) (by omega) (by omega) (by omega)]; exact p6
  · have g := p7 r hr
    exact g.1.cd g.2 (hfr _ (by omega) (by omega) (by omega) (by omega)) (fun i _ => by rw [hfr (z + 11) (by omega) (by omega) (by omega) (by omega)])
  · rw [hfr _ (by omega) (by omega) (by omega) (by omega)]
    exact p8 k hk
  · have hW8 := hWY.2.2.1.1
    have hcs := cP_s (S := S) (p := p) (nL S)
    have hcl := cP_le (S := S) (p := p + 1) (nL S)
    have t1 := h6.1 p (by omega)
    refine ⟨cPT S p (nL S), cPT S p (nL S) + cntT S p true (nL S), cPT S (p + 1) (nL S), t1.1, t1.2, ?_, ⟨rfl, by omega, fun r hr ht => (h6.2 p (by omega) r hr).1 ht⟩, ⟨by omega, by omega, fun r hr ht => (h6.2 p (by omega) r hr).2 ht⟩⟩
    by_cases h : p = 7
    · rw [h]
      exact h7
    · exact (h6.1 (p + 1) (by omega)).1
