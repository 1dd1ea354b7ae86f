/-! THE CLASS: what a finder is asked -/
theorem fair_all {W : Nat} {H : Nat → SC} {N : Nat} : hrdF H N (2 ^ W - 1) W = alvB W (H N) := nat_bits (fun k => by
  rw [hrdF_tb, alvB_tb, Nat.testBit_two_pow_sub_one, decide_eq_true_iff]
  exact ⟨fun h => ⟨h.1, h.2.2⟩, fun h => ⟨h.1, h.1, h.2⟩⟩)
theorem lsF_r {W : Nat} {H : Nat → SC} {N v : Nat} : ∀ k, lsF W H N v k = -1 ∨ (0 ≤ lsF W H N v k ∧ lsF W H N v k < (k : Int))
  | 0 => Or.inl rfl
  | k + 1 => by
    rw [lsF_s]
    split
    · exact Or.inr ⟨by omega, by omega⟩
    · have := lsF_r (W := W) (H := H) (N := N) (v := v) k
      omega
theorem TopC.fi {G : GST} {a a' : SC} {rd : Int} {y z : Nat} (h : TopC G a rd y z) (hf : FrO 138 140 a a') : TopC G a' rd y z := h.fo (fun o h1 h2 h3 => hf o (by omega))
theorem h_span {X : List Int} {d : Nat} {rd : Int} {a s b : C3} {y z : Nat} {G : GST} (hT : TopC G a rd y z) (x q l : Int) : Ev X (d + 5) 128 0 [Vr 0, Vi x, Vi q, Vi l] [] (SHv (y : Int) (z : Int) rd, ovl a s b) (fun rr hh => rr = some (Vi (aSpan G x q (decide (l ≠ 0)))) ∧ ∃ a' : C3, hh = (SHv (y : Int) (z : Int) rd, ovl a' s b) ∧ TopC G a' rd y z) := by
  obtain ⟨hyz, hrd, hY, hWY, hBB, hWB, hWE, hn180, ⟨e7, e6, e5, e0, hEv⟩, hTp, hfk, hfp, hCh, h156, hOwn⟩ := id hT
  have hy : hyS y := by show y = 2 ∨ y = 58; omega
  have hy0 : y = 2 ∨ y = 58 := hy
  have hW8 := hWY.2.2.1.1
  have hR8 := hWY.1.1
  have hT8 := hWY.2.2.2.1.1
  have hL30 := hWY.2.2.2.2.1.1
  have hC12 := hWY.2.2.2.2.2.1.1
  have hcW : a (y + 1) 2 = ((nW (gS G) : Nat) : Int) := (hY.1 2 (by omega)).trans hWY.2.2.1.2
  have hp8 : 2 ^ nW (gS G) ≤ 2 ^ 8 := Nat.pow_le_pow_right (by omega) hW8
  refine Ev.call (k := 2) (pc1 := 2) (L1 := [Vr 0, Vi x, Vi q, Vi l]) (S1 := [Vi x, Vr 0]) (h1 := ((SHv (y : Int) (z : Int) rd), (ovl a s b))) (m' := 129) (as := [Vr 0, Vi x]) (S' := []) (L0 := [Vr 0, Vi x]) (fun _ => rfl) rfl rfl rfl rfl rfl rfl (q_dead hT x) (fun r h' hq => ?_)
  obtain ⟨rfl, rfl⟩ := hq
  by_cases c2 : isV G x
  · rw [if_pos c2]
    show Ev X _ _ 5 [Vr 0, Vi x, Vi q, Vi l] [Vi 1] ((SHv (y : Int) (z : Int) rd), (ovl a s b)) _
    refine Ev.call (k := 4) (pc1 := 11) (L1 := [Vr 0, Vi x, Vi q, Vi l]) (S1 := [Vi q, Vi 2, Vr 0]) (h1 := ((SHv (y : Int) (z : Int) rd), (ovl a s b))) (m' := 130) (as := [Vr 0, Vi 2, Vi q]) (S' := []) (L0 := [Vr 0, Vi 2, Vi q]) (fun _ => rfl) rfl rfl rfl rfl rfl rfl (q_isSetW hT q) (fun r h' hq => ?_)
    obtain ⟨rfl, rfl⟩ := hq
    by_cases c11 : isX (nW (gS G)) q
    · rw [if_pos c11]
      show Ev X _ _ 14 [Vr 0, Vi x, Vi q, Vi l] [Vi 1] ((SHv (y : Int) (z : Int) rd), (ovl a s b)) _
      refine Ev.steps (k := 1) (pc' := 19) (L' := [Vr 0, Vi x, Vi q, Vi l]) (S' := []) (h' := ((SHv (y : Int) (z : Int) rd), (ovl a s b))) (fun _ => rfl) ?_
      obtain ⟨v, hv⟩ : ∃ v : Nat, x = (v : Int) := ⟨x.toNat, by have := c2.1.1; omega⟩
      have hvW : v < nW (gS G) := by have := c2.1.2; omega
      have hn0 : 0 < gn G := c2.2.1
      have hn1 : gn G - 1 + 1 = gn G := by omega
      have hE := hEv hn0
      have hdv : gH G (gn G - 1) 1 v = 0 := by
        have h := c2.2.2
        rw [hv, Int.toNat_natCast, ← hn1] at h
        exact h
      have hD : DmH (gH G) v (gn G) := his_dm hWY
      have hK : KilH (nW (gS G)) (gH G) v (gn G) := his_kil hWY hvW hn0 hdv
      obtain ⟨xx, hxx⟩ : ∃ xx : Nat, q = (xx : Int) := ⟨q.toNat, by have := c11.1; omega⟩
      have hx2 : xx < 2 ^ nW (gS G) := by have := c11.2; omega
      refine Ev.steps (k := 6) (pc' := 31) (L' := [Vr 0, Vi x, Vi q, Vi l]) (S' := [Vr (y : Int), Vr 119, Vr 138]) (h' := ((SHv (y : Int) (z : Int) rd), (ovl a s b))) (fun _ => rfl) ?_
      refine Ev.getr (r := ((y : Int) + 1)) rfl rfl (by omega) (shY_0 hy) rfl rfl rfl ?_
      refine Ev.steps (k := 1) (pc' := 35) (L' := [Vr 0, Vi x, Vi q, Vi l]) (S' := [Vi 2, Vr ((y : Int) + 1), Vr 119, Vr 138]) (h' := ((SHv (y : Int) (z : Int) rd), (ovl a s b))) (fun _ => rfl) ?_
      refine Ev.iald (v := ((nW (gS G) : Nat) : Int)) rfl (by omega) (shY_1 hy) (by omega) (by omega) ((ovl_rc (by omega)).trans (hcW)) ?_
      refine Ev.call (k := 1) (pc1 := 37) (L1 := [Vr 0, Vi x, Vi q, Vi l]) (S1 := [Vi x, Vi ((nW (gS G) : Nat) : Int), Vr 119, Vr 138]) (h1 := ((SHv (y : Int) (z : Int) rd), (ovl a s b))) (m' := 131) (as := [Vr 138, Vr 119, Vi ((nW (gS G) : Nat) : Int), Vi x]) (S' := []) (L0 := [Vr 138, Vr 119, Vi ((nW (gS G) : Nat) : Int), Vi x, Vx, Vx, Vx]) (fun _ => rfl) rfl rfl rfl rfl rfl rfl ((by rw [hv]; exact c_look (u := 119) (Or.inl rfl) hE.2.2.2.2.1 hn180 hn0 hW8 v hvW hD e7)) (fun r h' hq => ?_)
      obtain ⟨rfl, a1, rfl, g1, g2⟩ := hq
      show Ev X _ _ 40 [Vr 0, Vi x, Vi q, Vi l] [] ((SHv (y : Int) (z : Int) rd), (ovl a1 s b)) _
      refine Ev.call (k := 3) (pc1 := 45) (L1 := [Vr 0, Vi x, Vi q, Vi l]) (S1 := [Vi q, Vr 138]) (h1 := ((SHv (y : Int) (z : Int) rd), (ovl a1 s b))) (m' := 133) (as := [Vr 138, Vi q]) (S' := []) (L0 := [Vr 138, Vi q, Vx, Vx]) (fun _ => rfl) rfl rfl rfl rfl rfl rfl ((by rw [hxx]; exact c_setSpan hn180 hn0 hW8 hD hdv xx (by omega) g2)) (fun r h' hq => ?_)
      obtain ⟨rfl, a2, rfl, g3, g4, g5⟩ := hq
      show Ev X _ _ 48 [Vr 0, Vi x, Vi q, Vi l] [] ((SHv (y : Int) (z : Int) rd), (ovl a2 s b)) _
      refine Ev.ite (P := l = 0) (k := 2) (a := 62) (b := 52) (L' := [Vr 0, Vi x, Vi q, Vi l]) (S' := []) (h' := ((SHv (y : Int) (z : Int) rd), (ovl a2 s b))) (fun _ => rfl) (fun b49 => ?_) (fun b49 => ?_)
      · refine Ev.steps (k := 3) (pc' := 69) (L' := [Vr 0, Vi x, Vi q, Vi l]) (S' := [Vi (a2 138 7)]) (h' := ((SHv (y : Int) (z : Int) rd), (ovl a2 s b))) (fun _ => rfl) ?_
        rw [g5.1]
        refine Ev.fin (k := 1) (r := (some (Vi ((spfF (nW (gS G)) (gH G) (hrdF (gH G) (gn G - 1) xx (nW (gS G))) v (gn G) : Nat) : Int)))) (h' := ((SHv (y : Int) (z : Int) rd), (ovl a2 s b))) (fun _ => rfl) ?_
        unfold aSpan
        rw [if_pos ⟨c2, c11⟩]
        have hY2 : gY G q = hrdF (gH G) (gn G - 1) xx (nW (gS G)) := by rw [hxx]; rfl
        rw [hY2, hv, Int.toNat_natCast]
        refine ⟨?_, a2, rfl, (hT.fi g1).fo (fun o h1 h2 h3 => g3 o (by omega))⟩
        first
          | (rw [if_neg (by simp [b49])]; done)
          | (rw [if_pos (by simp [b49])]; done)
      · refine Ev.steps (k := 3) (pc' := 59) (L' := [Vr 0, Vi x, Vi q, Vi l]) (S' := [Vi (a2 138 8)]) (h' := ((SHv (y : Int) (z : Int) rd), (ovl a2 s b))) (fun _ => rfl) ?_
        rw [g5.2]
        refine Ev.fin (k := 2) (r := (some (Vi ((sptF (nW (gS G)) (gH G) (gn G - 1) (hrdF (gH G) (gn G - 1) xx (nW (gS G))) v : Nat) : Int)))) (h' := ((SHv (y : Int) (z : Int) rd), (ovl a2 s b))) (fun _ => rfl) ?_
        unfold aSpan
        rw [if_pos ⟨c2, c11⟩]
        have hY2 : gY G q = hrdF (gH G) (gn G - 1) xx (nW (gS G)) := by rw [hxx]; rfl
        rw [hY2, hv, Int.toNat_natCast]
        refine ⟨?_, a2, rfl, (hT.fi g1).fo (fun o h1 h2 h3 => g3 o (by omega))⟩
        first
          | (rw [if_neg (by simp [b49])]; done)
          | (rw [if_pos (by simp [b49])]; done)
    · rw [if_neg c11]
      show Ev X _ _ 14 [Vr 0, Vi x, Vi q, Vi l] [Vi 0] ((SHv (y : Int) (z : Int) rd), (ovl a s b)) _
      refine Ev.fin (k := 3) (r := (some (Vi (-1)))) (h' := ((SHv (y : Int) (z : Int) rd), (ovl a s b))) (fun _ => rfl) ?_
      unfold aSpan
      first | rw [if_neg (by exact fun h => c2 h.1)] | rw [if_neg (by exact fun h => c11 h.2)]
      exact ⟨rfl, a, rfl, hT⟩
  · rw [if_neg c2]
    show Ev X _ _ 5 [Vr 0, Vi x, Vi q, Vi l] [Vi 0] ((SHv (y : Int) (z : Int) rd), (ovl a s b)) _
    refine Ev.fin (k := 3) (r := (some (Vi (-1)))) (h' := ((SHv (y : Int) (z : Int) rd), (ovl a s b))) (fun _ => rfl) ?_
    unfold aSpan
    first | rw [if_neg (by exact fun h => c2 h.1)] | rw [if_neg (by exact fun h => c11 h.2)]
    exact ⟨rfl, a, rfl, hT⟩
theorem h_could {X : List Int} {d : Nat} {rd : Int} {a s b : C3} {y z : Nat} {G : GST} (hT : TopC G a rd y z) (x q r : Int) : Ev X (d + 5) 134 0 [Vr 0, Vi x, Vi q, Vi r, Vx] [] (SHv (y : Int) (z : Int) rd, ovl a s b) (fun rr hh => rr = some (Vi (aCould G x q r)) ∧ ∃ a' : C3, hh = (SHv (y : Int) (z : Int) rd, ovl a' s b) ∧ TopC G a' rd y z) := by
  obtain ⟨hyz, hrd, hY, hWY, hBB, hWB, hWE, hn180, ⟨e7, e6, e5, e0, hEv⟩, hTp, hfk, hfp, hCh, h156, hOwn⟩ := id hT
  have hy : hyS y := by show y = 2 ∨ y = 58; omega
  have hy0 : y = 2 ∨ y = 58 := hy
  have hW8 := hWY.2.2.1.1
  have hR8 := hWY.1.1
  have hT8 := hWY.2.2.2.1.1
  have hL30 := hWY.2.2.2.2.1.1
  have hC12 := hWY.2.2.2.2.2.1.1
  have hcW : a (y + 1) 2 = ((nW (gS G) : Nat) : Int) := (hY.1 2 (by omega)).trans hWY.2.2.1.2
  have hp8 : 2 ^ nW (gS G) ≤ 2 ^ 8 := Nat.pow_le_pow_right (by omega) hW8
  refine Ev.call (k := 2) (pc1 := 2) (L1 := [Vr 0, Vi x, Vi q, Vi r, Vx]) (S1 := [Vi x, Vr 0]) (h1 := ((SHv (y : Int) (z : Int) rd), (ovl a s b))) (m' := 129) (as := [Vr 0, Vi x]) (S' := []) (L0 := [Vr 0, Vi x]) (fun _ => rfl) rfl rfl rfl rfl rfl rfl (q_dead hT x) (fun r h' hq => ?_)
  obtain ⟨rfl, rfl⟩ := hq
  by_cases c2 : isV G x
  · rw [if_pos c2]
    show Ev X _ _ 5 [Vr 0, Vi x, Vi q, Vi r, Vx] [Vi 1] ((SHv (y : Int) (z : Int) rd), (ovl a s b)) _
    refine Ev.call (k := 4) (pc1 := 11) (L1 := [Vr 0, Vi x, Vi q, Vi r, Vx]) (S1 := [Vi q, Vi 2, Vr 0]) (h1 := ((SHv (y : Int) (z : Int) rd), (ovl a s b))) (m' := 130) (as := [Vr 0, Vi 2, Vi q]) (S' := []) (L0 := [Vr 0, Vi 2, Vi q]) (fun _ => rfl) rfl rfl rfl rfl rfl rfl (q_isSetW hT q) (fun r h' hq => ?_)
    obtain ⟨rfl, rfl⟩ := hq
    by_cases c11 : isX (nW (gS G)) q
    · rw [if_pos c11]
      show Ev X _ _ 14 [Vr 0, Vi x, Vi q, Vi r, Vx] [Vi 1] ((SHv (y : Int) (z : Int) rd), (ovl a s b)) _
      refine Ev.call (k := 4) (pc1 := 20) (L1 := [Vr 0, Vi x, Vi q, Vi r, Vx]) (S1 := [Vi r, Vi 0, Vr 0]) (h1 := ((SHv (y : Int) (z : Int) rd), (ovl a s b))) (m' := 130) (as := [Vr 0, Vi 0, Vi r]) (S' := []) (L0 := [Vr 0, Vi 0, Vi r]) (fun _ => rfl) rfl rfl rfl rfl rfl rfl (q_isSetR hT r) (fun r h' hq => ?_)
      obtain ⟨rfl, rfl⟩ := hq
      by_cases c20 : isX (nR (gS G)) r
      · rw [if_pos c20]
        show Ev X _ _ 23 [Vr 0, Vi x, Vi q, Vi r, Vx] [Vi 1] ((SHv (y : Int) (z : Int) rd), (ovl a s b)) _
        refine Ev.steps (k := 1) (pc' := 28) (L' := [Vr 0, Vi x, Vi q, Vi r, Vx]) (S' := []) (h' := ((SHv (y : Int) (z : Int) rd), (ovl a s b))) (fun _ => rfl) ?_
        obtain ⟨v, hv⟩ : ∃ v : Nat, x = (v : Int) := ⟨x.toNat, by have := c2.1.1; omega⟩
        have hvW : v < nW (gS G) := by have := c2.1.2; omega
        have hn0 : 0 < gn G := c2.2.1
        have hn1 : gn G - 1 + 1 = gn G := by omega
        have hE := hEv hn0
        have hdv : gH G (gn G - 1) 1 v = 0 := by
          have h := c2.2.2
          rw [hv, Int.toNat_natCast, ← hn1] at h
          exact h
        have hD : DmH (gH G) v (gn G) := his_dm hWY
        have hK : KilH (nW (gS G)) (gH G) v (gn G) := his_kil hWY hvW hn0 hdv
        obtain ⟨xx, hxx⟩ : ∃ xx : Nat, q = (xx : Int) := ⟨q.toNat, by have := c11.1; omega⟩
        have hx2 : xx < 2 ^ nW (gS G) := by have := c11.2; omega
        obtain ⟨rb, hrb⟩ : ∃ rb : Nat, r = (rb : Int) := ⟨r.toNat, by have := c20.1; omega⟩
        have hr2 : rb < 2 ^ nR (gS G) := by have := c20.2; omega
        have hrp : 2 ^ nR (gS G) ≤ 2 ^ 8 := Nat.pow_le_pow_right (by omega) hR8
        have hro0 := (aftS_wf hWY hWE (gn G) hn180).1.1 v hvW
        obtain ⟨ro, hro⟩ : ∃ ro : Nat, gA G (gn G) 0 x.toNat = (ro : Int) := ⟨(gA G (gn G) 0 x.toNat).toNat, by rw [hv, Int.toNat_natCast]; exact (Int.toNat_of_nonneg hro0.1).symm⟩
        have hro8 : ro < 8 := by
          rw [hv, Int.toNat_natCast] at hro
          have e : aftS (gS G) (gE G) (gn G) 0 v = (ro : Int) := hro
          rw [e] at hro0
          omega
        clear hro0
        refine Ev.steps (k := 6) (pc' := 40) (L' := [Vr 0, Vi x, Vi q, Vi r, Vx]) (S' := [Vi (a 119 7), Vi x, Vr 119]) (h' := ((SHv (y : Int) (z : Int) rd), (ovl a s b))) (fun _ => rfl) ?_
        rw [e7]
        refine Ev.steps (k := 2) (pc' := 42) (L' := [Vr 0, Vi x, Vi q, Vi r, Vx]) (S' := [Vi (w32 (((gn G : Nat) : Int) - 1)), Vi x, Vr 119]) (h' := ((SHv (y : Int) (z : Int) rd), (ovl a s b))) (fun _ => rfl) ?_
        rw [show (w32 (((gn G : Nat) : Int) - 1)) = ((gn G : Int) - 1) from (by unfold w32; omega)]
        refine Ev.call (k := 0) (pc1 := 42) (L1 := [Vr 0, Vi x, Vi q, Vi r, Vx]) (S1 := [Vi ((gn G : Int) - 1), Vi x, Vr 119]) (h1 := ((SHv (y : Int) (z : Int) rd), (ovl a s b))) (m' := 107) (as := [Vr 119, Vi x, Vi ((gn G : Int) - 1)]) (S' := []) (L0 := [Vr 119, Vi x, Vi ((gn G : Int) - 1)]) (fun _ => rfl) rfl rfl rfl rfl rfl rfl (q_roomThen hT x ((gn G : Int) - 1) c2.1 ⟨by omega, by omega⟩) (fun r h' hq => ?_)
        obtain ⟨rfl, rfl⟩ := hq
        rw [show ((gn G : Int) - 1).toNat + 1 = gn G by omega, hro]
        show Ev X _ _ 45 [Vr 0, Vi x, Vi q, Vi r, Vx] [Vi (ro : Int)] ((SHv (y : Int) (z : Int) rd), (ovl a s b)) _
        refine Ev.ite (P := (i_and r (i_shl 1 (ro : Int))) ≠ 0) (k := 7) (a := 58) (b := 56) (L' := [Vr 0, Vi x, Vi q, Vi r, Vi (ro : Int)]) (S' := []) (h' := ((SHv (y : Int) (z : Int) rd), (ovl a s b))) (fun _ => rfl) (fun b53 => ?_) (fun b53 => ?_)
        · rw [hrb, ib1 (by omega) (by omega)] at b53
          refine Ev.steps (k := 6) (pc' := 70) (L' := [Vr 0, Vi x, Vi q, Vi r, Vi (ro : Int)]) (S' := [Vr (y : Int), Vr 119, Vr 138]) (h' := ((SHv (y : Int) (z : Int) rd), (ovl a s b))) (fun _ => rfl) ?_
          refine Ev.getr (r := ((y : Int) + 1)) rfl rfl (by omega) (shY_0 hy) rfl rfl rfl ?_
          refine Ev.steps (k := 1) (pc' := 74) (L' := [Vr 0, Vi x, Vi q, Vi r, Vi (ro : Int)]) (S' := [Vi 2, Vr ((y : Int) + 1), Vr 119, Vr 138]) (h' := ((SHv (y : Int) (z : Int) rd), (ovl a s b))) (fun _ => rfl) ?_
          refine Ev.iald (v := ((nW (gS G) : Nat) : Int)) rfl (by omega) (shY_1 hy) (by omega) (by omega) ((ovl_rc (by omega)).trans (hcW)) ?_
          refine Ev.call (k := 1) (pc1 := 76) (L1 := [Vr 0, Vi x, Vi q, Vi r, Vi (ro : Int)]) (S1 := [Vi x, Vi ((nW (gS G) : Nat) : Int), Vr 119, Vr 138]) (h1 := ((SHv (y : Int) (z : Int) rd), (ovl a s b))) (m' := 131) (as := [Vr 138, Vr 119, Vi ((nW (gS G) : Nat) : Int), Vi x]) (S' := []) (L0 := [Vr 138, Vr 119, Vi ((nW (gS G) : Nat) : Int), Vi x, Vx, Vx, Vx]) (fun _ => rfl) rfl rfl rfl rfl rfl rfl ((by rw [hv]; exact c_look (u := 119) (Or.inl rfl) hE.2.2.2.2.1 hn180 hn0 hW8 v hvW hD e7)) (fun r h' hq => ?_)
          obtain ⟨rfl, a1, rfl, g1, g2⟩ := hq
          show Ev X _ _ 79 [Vr 0, Vi x, Vi q, Vi r, Vi (ro : Int)] [] ((SHv (y : Int) (z : Int) rd), (ovl a1 s b)) _
          refine Ev.call (k := 3) (pc1 := 84) (L1 := [Vr 0, Vi x, Vi q, Vi r, Vi (ro : Int)]) (S1 := [Vi q, Vr 138]) (h1 := ((SHv (y : Int) (z : Int) rd), (ovl a1 s b))) (m' := 135) (as := [Vr 138, Vi q]) (S' := []) (L0 := [Vr 138, Vi q, Vx, Vx]) (fun _ => rfl) rfl rfl rfl rfl rfl rfl ((by rw [hxx]; exact c_suspects hn180 hn0 hW8 hD hdv xx (by omega) g2)) (fun r h' hq => ?_)
          obtain ⟨rfl, a2, rfl, g3, g4⟩ := hq
          show Ev X _ _ 87 [Vr 0, Vi x, Vi q, Vi r, Vi (ro : Int)] [Vi ((cldF (nW (gS G)) (gH G) (gn G - 1) (hrdF (gH G) (gn G - 1) xx (nW (gS G))) v (nW (gS G)) : Nat) : Int)] ((SHv (y : Int) (z : Int) rd), (ovl a2 s b)) _
          refine Ev.fin (k := 1) (r := (some (Vi ((cldF (nW (gS G)) (gH G) (gn G - 1) (hrdF (gH G) (gn G - 1) xx (nW (gS G))) v (nW (gS G)) : Nat) : Int)))) (h' := ((SHv (y : Int) (z : Int) rd), (ovl a2 s b))) (fun _ => rfl) ?_
          unfold aCould
          first
            | (rw [if_neg (by intro h; have h4 := h.2.2.2; rw [hro, hrb, Int.toNat_natCast, Int.toNat_natCast] at h4; exact b53 h4)]
               exact ⟨rfl, a, rfl, hT⟩)
            | (rw [if_pos ⟨c2, c11, c20, by rw [hro, hrb, Int.toNat_natCast, Int.toNat_natCast]; exact b53⟩]
               have hY2 : gY G q = hrdF (gH G) (gn G - 1) xx (nW (gS G)) := by rw [hxx]; rfl
               rw [hY2, hv, Int.toNat_natCast]
               exact ⟨rfl, a2, rfl, (hT.fi g1).fo (fun o h1 h2 h3 => g3 o (by omega))⟩)
        · rw [hrb, ib1 (by omega) (by omega)] at b53
          refine Ev.fin (k := 2) (r := (some (Vi (-1)))) (h' := ((SHv (y : Int) (z : Int) rd), (ovl a s b))) (fun _ => rfl) ?_
          unfold aCould
          first
            | (rw [if_neg (by intro h; have h4 := h.2.2.2; rw [hro, hrb, Int.toNat_natCast, Int.toNat_natCast] at h4; exact b53 h4)]
               exact ⟨rfl, a, rfl, hT⟩)
            | (rw [if_pos ⟨c2, c11, c20, by rw [hro, hrb, Int.toNat_natCast, Int.toNat_natCast]; exact b53⟩]
               have hY2 : gY G q = hrdF (gH G) (gn G - 1) xx (nW (gS G)) := by rw [hxx]; rfl
               rw [hY2, hv, Int.toNat_natCast]
               exact ⟨rfl, a2, rfl, (hT.fi g1).fo (fun o h1 h2 h3 => g3 o (by omega))⟩)
      · rw [if_neg c20]
        show Ev X _ _ 23 [Vr 0, Vi x, Vi q, Vi r, Vx] [Vi 0] ((SHv (y : Int) (z : Int) rd), (ovl a s b)) _
        refine Ev.fin (k := 3) (r := (some (Vi (-1)))) (h' := ((SHv (y : Int) (z : Int) rd), (ovl a s b))) (fun _ => rfl) ?_
        unfold aCould
        first | rw [if_neg (by exact fun h => c2 h.1)] | rw [if_neg (by exact fun h => c11 h.2.1)] | rw [if_neg (by exact fun h => c20 h.2.2.1)]
        exact ⟨rfl, a, rfl, hT⟩
    · rw [if_neg c11]
      show Ev X _ _ 14 [Vr 0, Vi x, Vi q, Vi r, Vx] [Vi 0] ((SHv (y : Int) (z : Int) rd), (ovl a s b)) _
      refine Ev.fin (k := 3) (r := (some (Vi (-1)))) (h' := ((SHv (y : Int) (z : Int) rd), (ovl a s b))) (fun _ => rfl) ?_
      unfold aCould
      first | rw [if_neg (by exact fun h => c2 h.1)] | rw [if_neg (by exact fun h => c11 h.2.1)] | rw [if_neg (by exact fun h => c20 h.2.2.1)]
      exact ⟨rfl, a, rfl, hT⟩
  · rw [if_neg c2]
    show Ev X _ _ 5 [Vr 0, Vi x, Vi q, Vi r, Vx] [Vi 0] ((SHv (y : Int) (z : Int) rd), (ovl a s b)) _
    refine Ev.fin (k := 3) (r := (some (Vi (-1)))) (h' := ((SHv (y : Int) (z : Int) rd), (ovl a s b))) (fun _ => rfl) ?_
    unfold aCould
    first | rw [if_neg (by exact fun h => c2 h.1)] | rw [if_neg (by exact fun h => c11 h.2.1)] | rw [if_neg (by exact fun h => c20 h.2.2.1)]
    exact ⟨rfl, a, rfl, hT⟩
theorem h_least {X : List Int} {d : Nat} {rd : Int} {a s b : C3} {y z : Nat} {G : GST} (hT : TopC G a rd y z) (x l : Int) : Ev X (d + 5) 137 0 [Vr 0, Vi x, Vi l, Vx] [] (SHv (y : Int) (z : Int) rd, ovl a s b) (fun rr hh => rr = some (Vi (aLeast G x (decide (l ≠ 0)))) ∧ ∃ a' : C3, hh = (SHv (y : Int) (z : Int) rd, ovl a' s b) ∧ TopC G a' rd y z) := by
  obtain ⟨hyz, hrd, hY, hWY, hBB, hWB, hWE, hn180, ⟨e7, e6, e5, e0, hEv⟩, hTp, hfk, hfp, hCh, h156, hOwn⟩ := id hT
  have hy : hyS y := by show y = 2 ∨ y = 58; omega
  have hy0 : y = 2 ∨ y = 58 := hy
  have hW8 := hWY.2.2.1.1
  have hR8 := hWY.1.1
  have hT8 := hWY.2.2.2.1.1
  have hL30 := hWY.2.2.2.2.1.1
  have hC12 := hWY.2.2.2.2.2.1.1
  have hcW : a (y + 1) 2 = ((nW (gS G) : Nat) : Int) := (hY.1 2 (by omega)).trans hWY.2.2.1.2
  have hp8 : 2 ^ nW (gS G) ≤ 2 ^ 8 := Nat.pow_le_pow_right (by omega) hW8
  refine Ev.call (k := 2) (pc1 := 2) (L1 := [Vr 0, Vi x, Vi l, Vx]) (S1 := [Vi x, Vr 0]) (h1 := ((SHv (y : Int) (z : Int) rd), (ovl a s b))) (m' := 129) (as := [Vr 0, Vi x]) (S' := []) (L0 := [Vr 0, Vi x]) (fun _ => rfl) rfl rfl rfl rfl rfl rfl (q_dead hT x) (fun r h' hq => ?_)
  obtain ⟨rfl, rfl⟩ := hq
  by_cases c2 : isV G x
  · rw [if_pos c2]
    show Ev X _ _ 5 [Vr 0, Vi x, Vi l, Vx] [Vi 1] ((SHv (y : Int) (z : Int) rd), (ovl a s b)) _
    refine Ev.steps (k := 1) (pc' := 10) (L' := [Vr 0, Vi x, Vi l, Vx]) (S' := []) (h' := ((SHv (y : Int) (z : Int) rd), (ovl a s b))) (fun _ => rfl) ?_
    obtain ⟨v, hv⟩ : ∃ v : Nat, x = (v : Int) := ⟨x.toNat, by have := c2.1.1; omega⟩
    have hvW : v < nW (gS G) := by have := c2.1.2; omega
    have hn0 : 0 < gn G := c2.2.1
    have hn1 : gn G - 1 + 1 = gn G := by omega
    have hE := hEv hn0
    have hdv : gH G (gn G - 1) 1 v = 0 := by
      have h := c2.2.2
      rw [hv, Int.toNat_natCast, ← hn1] at h
      exact h
    have hD : DmH (gH G) v (gn G) := his_dm hWY
    have hK : KilH (nW (gS G)) (gH G) v (gn G) := his_kil hWY hvW hn0 hdv
    refine Ev.steps (k := 6) (pc' := 22) (L' := [Vr 0, Vi x, Vi l, Vx]) (S' := [Vr (y : Int), Vr 119, Vr 138]) (h' := ((SHv (y : Int) (z : Int) rd), (ovl a s b))) (fun _ => rfl) ?_
    refine Ev.getr (r := ((y : Int) + 1)) rfl rfl (by omega) (shY_0 hy) rfl rfl rfl ?_
    refine Ev.steps (k := 1) (pc' := 26) (L' := [Vr 0, Vi x, Vi l, Vx]) (S' := [Vi 2, Vr ((y : Int) + 1), Vr 119, Vr 138]) (h' := ((SHv (y : Int) (z : Int) rd), (ovl a s b))) (fun _ => rfl) ?_
    refine Ev.iald (v := ((nW (gS G) : Nat) : Int)) rfl (by omega) (shY_1 hy) (by omega) (by omega) ((ovl_rc (by omega)).trans (hcW)) ?_
    refine Ev.call (k := 1) (pc1 := 28) (L1 := [Vr 0, Vi x, Vi l, Vx]) (S1 := [Vi x, Vi ((nW (gS G) : Nat) : Int), Vr 119, Vr 138]) (h1 := ((SHv (y : Int) (z : Int) rd), (ovl a s b))) (m' := 131) (as := [Vr 138, Vr 119, Vi ((nW (gS G) : Nat) : Int), Vi x]) (S' := []) (L0 := [Vr 138, Vr 119, Vi ((nW (gS G) : Nat) : Int), Vi x, Vx, Vx, Vx]) (fun _ => rfl) rfl rfl rfl rfl rfl rfl ((by rw [hv]; exact c_look (u := 119) (Or.inl rfl) hE.2.2.2.2.1 hn180 hn0 hW8 v hvW hD e7)) (fun r h' hq => ?_)
    obtain ⟨rfl, a1, rfl, g1, g2⟩ := hq
    show Ev X _ _ 31 [Vr 0, Vi x, Vi l, Vx] [] ((SHv (y : Int) (z : Int) rd), (ovl a1 s b)) _
    refine Ev.call (k := 2) (pc1 := 35) (L1 := [Vr 0, Vi x, Vi l, Vx]) (S1 := [Vr 138]) (h1 := ((SHv (y : Int) (z : Int) rd), (ovl a1 s b))) (m' := 138) (as := [Vr 138]) (S' := []) (L0 := [Vr 138, Vx, Vx, Vx]) (fun _ => rfl) rfl rfl rfl rfl rfl rfl (c_fewest hn180 hn0 hW8 hD hdv hK g2) (fun r h' hq => ?_)
    obtain ⟨rfl, a2, rfl, g3, g4⟩ := hq
    have hlr := lsF_r (W := nW (gS G)) (H := gH G) (N := gn G - 1) (v := v) (2 ^ nW (gS G))
    obtain ⟨lv, hlv⟩ : ∃ lv, lv = lstF (nW (gS G)) (gH G) (gn G - 1) v := ⟨_, rfl⟩
    rw [← hlv]
    rw [show lsF (nW (gS G)) (gH G) (gn G - 1) v (2 ^ nW (gS G)) = lv from hlv.symm] at hlr
    show Ev X _ _ 38 [Vr 0, Vi x, Vi l, Vx] [Vi lv] ((SHv (y : Int) (z : Int) rd), (ovl a2 s b)) _
    refine Ev.ite (P := l ≠ 0) (k := 3) (a := 48) (b := 43) (L' := [Vr 0, Vi x, Vi l, Vi lv]) (S' := []) (h' := ((SHv (y : Int) (z : Int) rd), (ovl a2 s b))) (fun _ => rfl) (fun b40 => ?_) (fun b40 => ?_)
    · refine Ev.fin (k := 3) (r := (some (Vi lv))) (h' := ((SHv (y : Int) (z : Int) rd), (ovl a2 s b))) (fun _ => rfl) ?_
      unfold aLeast
      rw [if_pos c2, hv, Int.toNat_natCast, ← hlv]
      refine ⟨?_, a2, rfl, (hT.fi g1).fo (fun o h1 h2 h3 => g3 o (by omega))⟩
      first
        | (rw [if_pos (by first | exact Or.inl (by omega) | exact Or.inr (by simp only [decide_eq_true_eq]; omega))]; done)
        | (rw [if_neg (by simp only [decide_eq_true_eq]; omega)]; done)
    · refine Ev.ite (P := lv ≠ (-1)) (k := 3) (a := 52) (b := 48) (L' := [Vr 0, Vi x, Vi l, Vi lv]) (S' := []) (h' := ((SHv (y : Int) (z : Int) rd), (ovl a2 s b))) (fun _ => rfl) (fun b45 => ?_) (fun b45 => ?_)
      · refine Ev.call (k := 1) (pc1 := 53) (L1 := [Vr 0, Vi x, Vi l, Vi lv]) (S1 := [Vi lv]) (h1 := ((SHv (y : Int) (z : Int) rd), (ovl a2 s b))) (m' := 140) (as := [Vi lv]) (S' := []) (L0 := [Vi lv]) (fun _ => rfl) rfl rfl rfl rfl rfl rfl ((by rw [show lv = ((lv.toNat : Nat) : Int) by omega]; exact c_bitCount lv.toNat (by omega))) (fun r h' hq => ?_)
        obtain ⟨rfl, rfl⟩ := hq
        show Ev X _ _ 56 [Vr 0, Vi x, Vi l, Vi lv] [Vi ((bcS lv.toNat : Nat) : Int)] ((SHv (y : Int) (z : Int) rd), (ovl a2 s b)) _
        refine Ev.fin (k := 1) (r := (some (Vi ((bcS lv.toNat : Nat) : Int)))) (h' := ((SHv (y : Int) (z : Int) rd), (ovl a2 s b))) (fun _ => rfl) ?_
        unfold aLeast
        rw [if_pos c2, hv, Int.toNat_natCast, ← hlv]
        refine ⟨?_, a2, rfl, (hT.fi g1).fo (fun o h1 h2 h3 => g3 o (by omega))⟩
        first
          | (rw [if_pos (by first | exact Or.inl (by omega) | exact Or.inr (by simp only [decide_eq_true_eq]; omega))]; done)
          | (rw [if_neg (by simp only [decide_eq_true_eq]; omega)]; done)
      · refine Ev.fin (k := 3) (r := (some (Vi lv))) (h' := ((SHv (y : Int) (z : Int) rd), (ovl a2 s b))) (fun _ => rfl) ?_
        unfold aLeast
        rw [if_pos c2, hv, Int.toNat_natCast, ← hlv]
        refine ⟨?_, a2, rfl, (hT.fi g1).fo (fun o h1 h2 h3 => g3 o (by omega))⟩
        first
          | (rw [if_pos (by first | exact Or.inl (by omega) | exact Or.inr (by simp only [decide_eq_true_eq]; omega))]; done)
          | (rw [if_neg (by simp only [decide_eq_true_eq]; omega)]; done)
  · rw [if_neg c2]
    show Ev X _ _ 5 [Vr 0, Vi x, Vi l, Vx] [Vi 0] ((SHv (y : Int) (z : Int) rd), (ovl a s b)) _
    refine Ev.fin (k := 3) (r := (some (Vi (-1)))) (h' := ((SHv (y : Int) (z : Int) rd), (ovl a s b))) (fun _ => rfl) ?_
    unfold aLeast
    rw [if_neg c2]
    exact ⟨rfl, a, rfl, hT⟩
theorem h_fair {X : List Int} {d : Nat} {rd : Int} {a s b : C3} {y z : Nat} {G : GST} (hT : TopC G a rd y z) (x : Int) : Ev X (d + 5) 141 0 [Vr 0, Vi x] [] (SHv (y : Int) (z : Int) rd, ovl a s b) (fun rr hh => rr = some (Vi (aFair G x)) ∧ ∃ a' : C3, hh = (SHv (y : Int) (z : Int) rd, ovl a' s b) ∧ TopC G a' rd y z) := by
  obtain ⟨hyz, hrd, hY, hWY, hBB, hWB, hWE, hn180, ⟨e7, e6, e5, e0, hEv⟩, hTp, hfk, hfp, hCh, h156, hOwn⟩ := id hT
  have hy : hyS y := by show y = 2 ∨ y = 58; omega
  have hy0 : y = 2 ∨ y = 58 := hy
  have hW8 := hWY.2.2.1.1
  have hR8 := hWY.1.1
  have hT8 := hWY.2.2.2.1.1
  have hL30 := hWY.2.2.2.2.1.1
  have hC12 := hWY.2.2.2.2.2.1.1
  have hcW : a (y + 1) 2 = ((nW (gS G) : Nat) : Int) := (hY.1 2 (by omega)).trans hWY.2.2.1.2
  have hp8 : 2 ^ nW (gS G) ≤ 2 ^ 8 := Nat.pow_le_pow_right (by omega) hW8
  refine Ev.call (k := 2) (pc1 := 2) (L1 := [Vr 0, Vi x]) (S1 := [Vi x, Vr 0]) (h1 := ((SHv (y : Int) (z : Int) rd), (ovl a s b))) (m' := 129) (as := [Vr 0, Vi x]) (S' := []) (L0 := [Vr 0, Vi x]) (fun _ => rfl) rfl rfl rfl rfl rfl rfl (q_dead hT x) (fun r h' hq => ?_)
  obtain ⟨rfl, rfl⟩ := hq
  by_cases c2 : isV G x
  · rw [if_pos c2]
    show Ev X _ _ 5 [Vr 0, Vi x] [Vi 1] ((SHv (y : Int) (z : Int) rd), (ovl a s b)) _
    refine Ev.steps (k := 1) (pc' := 10) (L' := [Vr 0, Vi x]) (S' := []) (h' := ((SHv (y : Int) (z : Int) rd), (ovl a s b))) (fun _ => rfl) ?_
    obtain ⟨v, hv⟩ : ∃ v : Nat, x = (v : Int) := ⟨x.toNat, by have := c2.1.1; omega⟩
    have hvW : v < nW (gS G) := by have := c2.1.2; omega
    have hn0 : 0 < gn G := c2.2.1
    have hn1 : gn G - 1 + 1 = gn G := by omega
    have hE := hEv hn0
    have hdv : gH G (gn G - 1) 1 v = 0 := by
      have h := c2.2.2
      rw [hv, Int.toNat_natCast, ← hn1] at h
      exact h
    have hD : DmH (gH G) v (gn G) := his_dm hWY
    have hK : KilH (nW (gS G)) (gH G) v (gn G) := his_kil hWY hvW hn0 hdv
    refine Ev.steps (k := 6) (pc' := 22) (L' := [Vr 0, Vi x]) (S' := [Vr (y : Int), Vr 119, Vr 138]) (h' := ((SHv (y : Int) (z : Int) rd), (ovl a s b))) (fun _ => rfl) ?_
    refine Ev.getr (r := ((y : Int) + 1)) rfl rfl (by omega) (shY_0 hy) rfl rfl rfl ?_
    refine Ev.steps (k := 1) (pc' := 26) (L' := [Vr 0, Vi x]) (S' := [Vi 2, Vr ((y : Int) + 1), Vr 119, Vr 138]) (h' := ((SHv (y : Int) (z : Int) rd), (ovl a s b))) (fun _ => rfl) ?_
    refine Ev.iald (v := ((nW (gS G) : Nat) : Int)) rfl (by omega) (shY_1 hy) (by omega) (by omega) ((ovl_rc (by omega)).trans (hcW)) ?_
    refine Ev.call (k := 1) (pc1 := 28) (L1 := [Vr 0, Vi x]) (S1 := [Vi x, Vi ((nW (gS G) : Nat) : Int), Vr 119, Vr 138]) (h1 := ((SHv (y : Int) (z : Int) rd), (ovl a s b))) (m' := 131) (as := [Vr 138, Vr 119, Vi ((nW (gS G) : Nat) : Int), Vi x]) (S' := []) (L0 := [Vr 138, Vr 119, Vi ((nW (gS G) : Nat) : Int), Vi x, Vx, Vx, Vx]) (fun _ => rfl) rfl rfl rfl rfl rfl rfl ((by rw [hv]; exact c_look (u := 119) (Or.inl rfl) hE.2.2.2.2.1 hn180 hn0 hW8 v hvW hD e7)) (fun r h' hq => ?_)
    obtain ⟨rfl, a1, rfl, g1, g2⟩ := hq
    show Ev X _ _ 31 [Vr 0, Vi x] [] ((SHv (y : Int) (z : Int) rd), (ovl a1 s b)) _
    refine Ev.steps (k := 5) (pc' := 42) (L' := [Vr 0, Vi x]) (S' := [Vi (a1 138 6), Vr 138]) (h' := ((SHv (y : Int) (z : Int) rd), (ovl a1 s b))) (fun _ => rfl) ?_
    rw [g2.2.2.2.2.1]
    refine Ev.call (k := 0) (pc1 := 42) (L1 := [Vr 0, Vi x]) (S1 := [Vi ((alvB (nW (gS G)) (gH G (gn G - 1)) : Nat) : Int), Vr 138]) (h1 := ((SHv (y : Int) (z : Int) rd), (ovl a1 s b))) (m' := 139) (as := [Vr 138, Vi ((alvB (nW (gS G)) (gH G (gn G - 1)) : Nat) : Int)]) (S' := []) (L0 := [Vr 138, Vi ((alvB (nW (gS G)) (gH G (gn G - 1)) : Nat) : Int)]) (fun _ => rfl) rfl rfl rfl rfl rfl rfl (c_known hn180 hn0 hW8 hD hdv (alvB (nW (gS G)) (gH G (gn G - 1))) (alvB_lt hW8) g2) (fun r h' hq => ?_)
    obtain ⟨rfl, a2, rfl, g3, g4⟩ := hq
    rw [show hrdF (gH G) (gn G - 1) (alvB (nW (gS G)) (gH G (gn G - 1))) (nW (gS G)) = hrdF (gH G) (gn G - 1) (2 ^ nW (gS G) - 1) (nW (gS G)) by rw [fair_all, alv_self]]
    by_cases c42 : FairF (nW (gS G)) (gH G) (gn G - 1) v
    · rw [if_pos c42]
      show Ev X _ _ 45 [Vr 0, Vi x] [Vi 1] ((SHv (y : Int) (z : Int) rd), (ovl a2 s b)) _
      refine Ev.fin (k := 4) (r := (some (Vi 1))) (h' := ((SHv (y : Int) (z : Int) rd), (ovl a2 s b))) (fun _ => rfl) ?_
      unfold aFair
      rw [if_pos c2, hv, Int.toNat_natCast]
      refine ⟨?_, a2, rfl, (hT.fi g1).fo (fun o h1 h2 h3 => g3 o (by omega))⟩
      first | rw [if_pos c42] | rw [if_neg c42]
    · rw [if_neg c42]
      show Ev X _ _ 45 [Vr 0, Vi x] [Vi 0] ((SHv (y : Int) (z : Int) rd), (ovl a2 s b)) _
      refine Ev.fin (k := 3) (r := (some (Vi 0))) (h' := ((SHv (y : Int) (z : Int) rd), (ovl a2 s b))) (fun _ => rfl) ?_
      unfold aFair
      rw [if_pos c2, hv, Int.toNat_natCast]
      refine ⟨?_, a2, rfl, (hT.fi g1).fo (fun o h1 h2 h3 => g3 o (by omega))⟩
      first | rw [if_pos c42] | rw [if_neg c42]
  · rw [if_neg c2]
    show Ev X _ _ 5 [Vr 0, Vi x] [Vi 0] ((SHv (y : Int) (z : Int) rd), (ovl a s b)) _
    refine Ev.fin (k := 3) (r := (some (Vi (-1)))) (h' := ((SHv (y : Int) (z : Int) rd), (ovl a s b))) (fun _ => rfl) ?_
    unfold aFair
    rw [if_neg c2]
    exact ⟨rfl, a, rfl, hT⟩
