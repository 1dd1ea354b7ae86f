/-! THE CLASS READS: tests -/
theorem XoC.t6 {W : TXT} {N : SC} {z p c K : Nat} {a : SC} (h : XoC W N z p c K a) : a 114 6 = ((tA W p : Nat) : Int) := h.1.2.2.2.2.2.1
theorem opC_z {c : Nat} : opC c = 0 ↔ c ≠ 60 ∧ c ≠ 62 ∧ c ≠ 61 := by
  unfold opC
  split
  · omega
  · split
    · omega
    · split <;> omega
theorem enc_opC {c : Nat} (h : opC c ≠ 0) : 15 ≤ opC c ∧ opC c ≤ 24 ∧ encT (opC c) = c := by
  unfold opC at h ⊢
  by_cases h1 : c = 60
  · rw [if_pos h1]; exact ⟨by omega, by omega, h1.symm⟩
  · rw [if_neg h1] at h ⊢
    by_cases h2 : c = 62
    · rw [if_pos h2]; exact ⟨by omega, by omega, h2.symm⟩
    · rw [if_neg h2] at h ⊢
      by_cases h3 : c = 61
      · rw [if_pos h3]; exact ⟨by omega, by omega, h3.symm⟩
      · rw [if_neg h3] at h
        exact absurd rfl h
theorem f_or {i o : Nat} (hi : i < 8) (ho : o < 8) : i_or (i : Int) (i_shl (o : Int) 3) = ((i + 8 * o : Nat) : Int) := by
  rw [show (3 : Int) = ((3 : Nat) : Int) from rfl, i_shl_nat (by omega) (by omega), i_or_nat (by omega) (by omega)]
  have := Nat.two_pow_add_eq_or_of_lt (i := 3) (show i < 2 ^ 3 by omega) o
  rw [Nat.or_comm, show o * 2 ^ 3 = 2 ^ 3 * o by omega, ← this]
  congr 1
  omega
theorem f_or0 {i : Nat} (hi : i < 8) : i_or (i : Int) (i_shl 0 3) = (i : Int) := by
  rw [show i_shl 0 3 = 0 from by decide +kernel, i_or0 (by omega)]
theorem encV_f {op i o : Nat} (h : 3 ≤ op) (hi : i < 8) (ho : o < 8) : encV op (8 * i + o) = i + 8 * o := by
  unfold encV
  rw [if_pos h]
  omega
theorem encT_f {c : Nat} (h1 : 272 ≤ c) (h2 : c ≤ 278) : encT (c - 269) = c := by
  rcases (show c = 272 ∨ c = 273 ∨ c = 274 ∨ c = 275 ∨ c = 276 ∨ c = 277 ∨ c = 278 by omega) with rfl | rfl | rfl | rfl | rfl | rfl | rfl <;> rfl
theorem c_leadHereX {X : List Int} {d : Nat} {st dr rd : Int} {a s b : C3} {W : TXT} {N : SC} {z p c K : Nat} (hX : XoC W N z p c K a) (h12 : c ≤ 1200) {k t : Nat} (hk : k < c) (ht : t < 512) (hv : a (z + 11) k = (t : Int)) : Ev X d 56 0 [Vr (z : Int), Vi (k : Int)] [] (SHv st dr rd, ovl a s b) (fun rr hh => rr = none ∧ ∃ a' : C3, hh = (SHv st dr rd, ovl a' s b) ∧ XoC W N z p c K a' ∧ FrZ z a a' ∧ a' (z + 11) k = ((t + 512 * c : Nat) : Int) ∧ ∀ i, i ≠ k → a' (z + 11) i = a (z + 11) i) := by
  have hz := z11 hX.hz
  refine (c_leadHere hX.hz hX.2.2.1 h12 hk ht hv).mono ?_
  rintro r h' ⟨h1, h2⟩
  refine ⟨h1, _, h2, ⟨hX.1.fo ?_ ?_ ?_, hX.2.1.fo ?_ ?_, ?_, ?_, hX.2.2.2.2⟩, FrZ.rf.up (by omega), ?_, fun i hi => ?_⟩
  · rw [updC_row (by omega)]
  · rw [updC_row (by omega)]
  · rw [updC_row (by omega)]
  · rw [updC_row (by omega)]
  · rw [updC_row (by omega)]
  · rw [updC_row (by omega)]
    exact hX.2.2.1
  · rw [updC_row (by omega)]
    exact hX.2.2.2.1
  · rw [updC_sm]
  · rw [updC_nt (by omega)]
theorem c_sim_272 {X : List Int} {st dr : Int} {s b : C3} {W : TXT} {N : SC} {z : Nat} (hz : hyS z) {K : Nat} (d : Nat) (a0 : C3) (p0 c0 : Nat) (hd : 4 ≤ d) (X0 : XoC W N z p0 c0 K a0) (hc0 : c0 ≤ p0) (hlit : tC W p0 = 272) : Ev X d 55 0 [Vr 114, Vx, Vx, Vx] [] (SHv st dr (z : Int), ovl a0 s b) (PoX st dr s b W N z p0 c0 K a0 1 (simT W N p0)) := by
  have hz1 := z11 hz
  obtain ⟨d, rfl⟩ : ∃ d1, d = d1 + 4 := ⟨d - 4, by omega⟩
  have G0 : Gz z c0 a0 a0 := Gz.rf
  have Q0 := X0.le
  have hl0 : tC W p0 ≠ 302 → p0 < W.2 := fun h => Nat.lt_of_lt_of_le (tok_lt X0.le.1 X0.1.1.1 h X0.1.2.2.2.2.2.2.2.2.1) (tok_rg X0.le.1 X0.1.1.1).2
  refine Ev.steps (k := 2) (pc' := 4) (L' := [Vr 114, Vx, Vx, Vx]) (S' := [Vi (a0 114 5)]) (h' := ((SHv st dr (z : Int)), (ovl a0 s b))) (fun _ => rfl) ?_
  rw [(X0.t5.trans (show ((tC W p0 : Nat) : Int) = 272 by omega))]
  refine Ev.call (k := 2) (pc1 := 6) (L1 := [Vr 114, Vi 272, Vx, Vx]) (S1 := [Vr 114]) (h1 := ((SHv st dr (z : Int)), (ovl a0 s b))) (m' := 27) (as := [Vr 114]) (S' := []) (L0 := [Vr 114, Vx, Vx, Vx, Vx]) (fun _ => rfl) rfl rfl rfl rfl rfl rfl (c_next X0.1) (fun r h' hq => ?_)
  obtain ⟨rfl, a1, rfl, hq⟩ := hq
  rcases hq with ⟨p1, hx1, ho1⟩ | ⟨e1, hx1, hb1⟩
  · have X1 := X0.nx ho1
    have L1 : p0 < p1 := X0.lt (by omega) hx1
    have G1 := G0.tr (ho1.1.gz (c := c0) X0.hz) (by omega)
    have R1 : a1 (z + 11) = a0 (z + 11) := ho1.1 _ (by omega)
    have Q1 := X1.le
    show Ev X _ _ 9 [Vr 114, Vi 272, Vx, Vx] [] ((SHv st dr (z : Int)), (ovl a1 s b)) _
    refine Ev.steps (k := 18) (pc' := 108) (L' := [Vr 114, Vi 272, Vi 0, Vi 0]) (S' := [Vi (i_or 0 (i_shl 0 3)), Vi 272, Vr (z : Int)]) (h' := ((SHv st dr (z : Int)), (ovl a1 s b))) (fun _ => rfl) ?_
    rw [show (i_or 0 (i_shl 0 3)) = 0 from (by decide +kernel)]
    refine Ev.call (k := 0) (pc1 := 108) (L1 := [Vr 114, Vi 272, Vi 0, Vi 0]) (S1 := [Vi 0, Vi 272, Vr (z : Int)]) (h1 := ((SHv st dr (z : Int)), (ovl a1 s b))) (m' := 49) (as := [Vr (z : Int), Vi 272, Vi 0]) (S' := []) (L0 := [Vr (z : Int), Vi 272, Vi 0]) (fun _ => rfl) rfl rfl rfl rfl (stpC_of rfl (pm_recv_of (by omega) (shY_0 hz))) rfl (c_emitX (a := a1) X1 (by omega) 272 0 (by omega) (by omega)) (fun r h' hq => ?_)
    obtain ⟨rfl, hq⟩ := hq
    rcases hq with ⟨a2, rfl, X2, g2, E2⟩
    · have G2 := G1.tr g2 (by omega)
      have Q2 := X2.le
      show Ev X _ _ 111 [Vr 114, Vi 272, Vi 0, Vi 0] [Vi ((c0 : Nat) : Int)] ((SHv st dr (z : Int)), (ovl a2 s b)) _
      refine Ev.fin (k := 2) (r := none) (h' := ((SHv st dr (z : Int)), (ovl a2 s b))) (fun _ => rfl) ?_
      refine ⟨rfl, _, rfl, ?_⟩
      unfold simT
      rw [hx1, bnX_o]
      rw [if_pos hlit]
      exact Or.inl ⟨_, rfl, _, X2, G2, CoC.leaf (q := (3, 0)) (by show _ ≤ 9; (try dsimp only); omega) (by omega) (by rw [E2]; rfl), by dsimp only; omega⟩
  · have B1 := G0.bd X0 (by omega) hb1
    show Ev X _ _ 9 [Vr 114, Vi 272, Vx, Vx] [] ((SHv st dr (z : Int)), (ovl a1 s b)) _
    refine Ev.call (k := 18) (pc1 := 108) (L1 := [Vr 114, Vi 272, Vi 0, Vi 0]) (S1 := [Vi (i_or 0 (i_shl 0 3)), Vi 272, Vr (z : Int)]) (h1 := ((SHv st dr (z : Int)), (ovl a1 s b))) (m' := 49) (as := [Vr (z : Int), Vi 272, Vi (i_or 0 (i_shl 0 3))]) (S' := []) (L0 := [Vr (z : Int), Vi 272, Vi (i_or 0 (i_shl 0 3))]) (fun _ => rfl) rfl rfl rfl rfl (stpC_of rfl (pm_recv_of (by omega) (shY_0 hz))) rfl (c_emit_br hz (B1).2.2.2 272 (i_or 0 (i_shl 0 3))) (fun r h' hq => ?_)
    obtain ⟨v3, a3, rfl, rfl, f1, f2, f3⟩ := hq
    have B3 := (B1).st hz f1 f2 f3
    show Ev X _ _ 111 [Vr 114, Vi 272, Vi 0, Vi 0] [Vi v3] ((SHv st dr (z : Int)), (ovl a3 s b)) _
    refine Ev.fin (k := 2) (r := none) (h' := ((SHv st dr (z : Int)), (ovl a3 s b))) (fun _ => rfl) ?_
    refine ⟨rfl, _, rfl, ?_⟩
    unfold simT
    rw [hx1, bnX_e]
    exact Or.inr ⟨_, rfl, B3⟩
theorem c_sim_273 {X : List Int} {st dr : Int} {s b : C3} {W : TXT} {N : SC} {z : Nat} (hz : hyS z) {K : Nat} (d : Nat) (a0 : C3) (p0 c0 : Nat) (hd : 4 ≤ d) (X0 : XoC W N z p0 c0 K a0) (hc0 : c0 ≤ p0) (hlit : tC W p0 = 273) : Ev X d 55 0 [Vr 114, Vx, Vx, Vx] [] (SHv st dr (z : Int), ovl a0 s b) (PoX st dr s b W N z p0 c0 K a0 1 (simT W N p0)) := by
  have hz1 := z11 hz
  obtain ⟨d, rfl⟩ : ∃ d1, d = d1 + 4 := ⟨d - 4, by omega⟩
  have G0 : Gz z c0 a0 a0 := Gz.rf
  have Q0 := X0.le
  have hl0 : tC W p0 ≠ 302 → p0 < W.2 := fun h => Nat.lt_of_lt_of_le (tok_lt X0.le.1 X0.1.1.1 h X0.1.2.2.2.2.2.2.2.2.1) (tok_rg X0.le.1 X0.1.1.1).2
  refine Ev.steps (k := 2) (pc' := 4) (L' := [Vr 114, Vx, Vx, Vx]) (S' := [Vi (a0 114 5)]) (h' := ((SHv st dr (z : Int)), (ovl a0 s b))) (fun _ => rfl) ?_
  rw [(X0.t5.trans (show ((tC W p0 : Nat) : Int) = 273 by omega))]
  refine Ev.call (k := 2) (pc1 := 6) (L1 := [Vr 114, Vi 273, Vx, Vx]) (S1 := [Vr 114]) (h1 := ((SHv st dr (z : Int)), (ovl a0 s b))) (m' := 27) (as := [Vr 114]) (S' := []) (L0 := [Vr 114, Vx, Vx, Vx, Vx]) (fun _ => rfl) rfl rfl rfl rfl rfl rfl (c_next X0.1) (fun r h' hq => ?_)
  obtain ⟨rfl, a4, rfl, hq⟩ := hq
  rcases hq with ⟨p4, hx4, ho4⟩ | ⟨e4, hx4, hb4⟩
  · have X4 := X0.nx ho4
    have L4 : p0 < p4 := X0.lt (by omega) hx4
    have G4 := G0.tr (ho4.1.gz (c := c0) X0.hz) (by omega)
    have R4 : a4 (z + 11) = a0 (z + 11) := ho4.1 _ (by omega)
    have Q4 := X4.le
    show Ev X _ _ 9 [Vr 114, Vi 273, Vx, Vx] [] ((SHv st dr (z : Int)), (ovl a4 s b)) _
    refine Ev.call (k := 6) (pc1 := 23) (L1 := [Vr 114, Vi 273, Vx, Vx]) (S1 := [Vi (-1), Vi 2, Vr 114]) (h1 := ((SHv st dr (z : Int)), (ovl a4 s b))) (m' := 38) (as := [Vr 114, Vi 2, Vi (-1)]) (S' := []) (L0 := [Vr 114, Vi 2, Vi (-1), Vx]) (fun _ => rfl) rfl rfl rfl rfl rfl rfl (c_asked X4.hz X4.1 (kd := 1) (q := 2) X4.2.1 (by decide) rfl (-1) rfl) (fun r h' hq => ?_)
    obtain ⟨a5, rfl, hq⟩ := hq
    rcases hq with ⟨⟨i5, p5⟩, hx5, rfl, ho5⟩ | ⟨e5, hx5, ⟨v5, rfl, hv5⟩, hb5⟩
    · have K5 := ask_ok hx5
      dsimp only at K5 ho5
      have X5 := X4.nx ho5
      have L5 : p4 < p5 := by
        rw [show p5 = tE W p4 from K5.2.2.2.2.1]
        exact tok_lt X4.le.1 X4.1.1.1 (by omega) (by omega)
      have I5 := K5.2.2.1
      have J5 := (X4.2.1 1 (by decide)).1
      have G5 := G4.tr (ho5.1.gz (c := c0) X4.hz) (by omega)
      have R5 : a5 (z + 11) = a4 (z + 11) := ho5.1 _ (by omega)
      have Q5 := X5.le
      clear K5
      show Ev X _ _ 26 [Vr 114, Vi 273, Vx, Vx] [Vi ((i5 : Nat) : Int)] ((SHv st dr (z : Int)), (ovl a5 s b)) _
      refine Ev.call (k := 8) (pc1 := 71) (L1 := [Vr 114, Vi 273, Vi ((i5 : Nat) : Int), Vi 0]) (S1 := [Vi (-1), Vi 0, Vr 114]) (h1 := ((SHv st dr (z : Int)), (ovl a5 s b))) (m' := 38) (as := [Vr 114, Vi 0, Vi (-1)]) (S' := []) (L0 := [Vr 114, Vi 0, Vi (-1), Vx]) (fun _ => rfl) rfl rfl rfl rfl rfl rfl (c_asked X5.hz X5.1 (kd := 0) (q := 0) X5.2.1 (by decide) rfl (-1) rfl) (fun r h' hq => ?_)
      obtain ⟨a6, rfl, hq⟩ := hq
      rcases hq with ⟨⟨i6, p6⟩, hx6, rfl, ho6⟩ | ⟨e6, hx6, ⟨v6, rfl, hv6⟩, hb6⟩
      · have K6 := ask_ok hx6
        dsimp only at K6 ho6
        have X6 := X5.nx ho6
        have L6 : p5 < p6 := by
          rw [show p6 = tE W p5 from K6.2.2.2.2.1]
          exact tok_lt X5.le.1 X5.1.1.1 (by omega) (by omega)
        have I6 := K6.2.2.1
        have J6 := (X5.2.1 0 (by decide)).1
        have G6 := G5.tr (ho6.1.gz (c := c0) X5.hz) (by omega)
        have R6 : a6 (z + 11) = a5 (z + 11) := ho6.1 _ (by omega)
        have Q6 := X6.le
        clear K6
        show Ev X _ _ 74 [Vr 114, Vi 273, Vi ((i5 : Nat) : Int), Vi 0] [Vi ((i6 : Nat) : Int)] ((SHv st dr (z : Int)), (ovl a6 s b)) _
        refine Ev.steps (k := 10) (pc' := 108) (L' := [Vr 114, Vi 273, Vi ((i5 : Nat) : Int), Vi ((i6 : Nat) : Int)]) (S' := [Vi (i_or ((i5 : Nat) : Int) (i_shl ((i6 : Nat) : Int) 3)), Vi 273, Vr (z : Int)]) (h' := ((SHv st dr (z : Int)), (ovl a6 s b))) (fun _ => rfl) ?_
        rw [show (i_or ((i5 : Nat) : Int) (i_shl ((i6 : Nat) : Int) 3)) = (((i5) + 8 * (i6) : Nat) : Int) from (f_or (by omega) (by omega))]
        refine Ev.call (k := 0) (pc1 := 108) (L1 := [Vr 114, Vi 273, Vi ((i5 : Nat) : Int), Vi ((i6 : Nat) : Int)]) (S1 := [Vi (((i5) + 8 * (i6) : Nat) : Int), Vi 273, Vr (z : Int)]) (h1 := ((SHv st dr (z : Int)), (ovl a6 s b))) (m' := 49) (as := [Vr (z : Int), Vi 273, Vi (((i5) + 8 * (i6) : Nat) : Int)]) (S' := []) (L0 := [Vr (z : Int), Vi 273, Vi (((i5) + 8 * (i6) : Nat) : Int)]) (fun _ => rfl) rfl rfl rfl rfl (stpC_of rfl (pm_recv_of (by omega) (shY_0 hz))) rfl (c_emitX (a := a6) X6 (by omega) 273 ((i5) + 8 * (i6)) (by omega) (by omega)) (fun r h' hq => ?_)
        obtain ⟨rfl, hq⟩ := hq
        rcases hq with ⟨a7, rfl, X7, g7, E7⟩
        · have G7 := G6.tr g7 (by omega)
          have Q7 := X7.le
          show Ev X _ _ 111 [Vr 114, Vi 273, Vi ((i5 : Nat) : Int), Vi ((i6 : Nat) : Int)] [Vi ((c0 : Nat) : Int)] ((SHv st dr (z : Int)), (ovl a7 s b)) _
          refine Ev.fin (k := 2) (r := none) (h' := ((SHv st dr (z : Int)), (ovl a7 s b))) (fun _ => rfl) ?_
          refine ⟨rfl, _, rfl, ?_⟩
          unfold simT
          rw [hx4, bnX_o]
          rw [if_neg (by omega)]
          rw [hx5, bnX_o]
          try dsimp only
          rw [if_neg (by omega)]
          rw [show kdF (tC W p0) = 0 by rw [hlit]; rfl, show buF (tC W p0) i5 = -1 by rw [hlit]; rfl, hx6, bnX_o]
          exact Or.inl ⟨_, rfl, _, X7, G7, CoC.leaf (q := (tC W p0 - 269, 8 * i5 + i6)) (by show _ ≤ 9; (try dsimp only); omega) (by omega) (by dsimp only; rw [E7, encT_f (by omega) (by omega), show encV (tC W p0 - 269) (8 * i5 + i6) = i5 + 8 * i6 from encV_f (op := tC W p0 - 269) (i := i5) (o := i6) (by omega) (by omega) (by omega), hlit]; try omega), by dsimp only; omega⟩
      · have B6 := G5.bd X5 (by omega) hb6
        show Ev X _ _ 74 [Vr 114, Vi 273, Vi ((i5 : Nat) : Int), Vi 0] [Vi v6] ((SHv st dr (z : Int)), (ovl a6 s b)) _
        refine Ev.call (k := 10) (pc1 := 108) (L1 := [Vr 114, Vi 273, Vi ((i5 : Nat) : Int), Vi v6]) (S1 := [Vi (i_or ((i5 : Nat) : Int) (i_shl v6 3)), Vi 273, Vr (z : Int)]) (h1 := ((SHv st dr (z : Int)), (ovl a6 s b))) (m' := 49) (as := [Vr (z : Int), Vi 273, Vi (i_or ((i5 : Nat) : Int) (i_shl v6 3))]) (S' := []) (L0 := [Vr (z : Int), Vi 273, Vi (i_or ((i5 : Nat) : Int) (i_shl v6 3))]) (fun _ => rfl) rfl rfl rfl rfl (stpC_of rfl (pm_recv_of (by omega) (shY_0 hz))) rfl (c_emit_br hz (B6).2.2.2 273 (i_or ((i5 : Nat) : Int) (i_shl v6 3))) (fun r h' hq => ?_)
        obtain ⟨v8, a8, rfl, rfl, f1, f2, f3⟩ := hq
        have B8 := (B6).st hz f1 f2 f3
        show Ev X _ _ 111 [Vr 114, Vi 273, Vi ((i5 : Nat) : Int), Vi v6] [Vi v8] ((SHv st dr (z : Int)), (ovl a8 s b)) _
        refine Ev.fin (k := 2) (r := none) (h' := ((SHv st dr (z : Int)), (ovl a8 s b))) (fun _ => rfl) ?_
        refine ⟨rfl, _, rfl, ?_⟩
        unfold simT
        rw [hx4, bnX_o]
        rw [if_neg (by omega)]
        rw [hx5, bnX_o]
        try dsimp only
        rw [if_neg (by omega)]
        rw [show kdF (tC W p0) = 0 by rw [hlit]; rfl, show buF (tC W p0) i5 = -1 by rw [hlit]; rfl, hx6, bnX_e]
        exact Or.inr ⟨_, rfl, B8⟩
    · have B5 := G4.bd X4 (by omega) hb5
      show Ev X _ _ 26 [Vr 114, Vi 273, Vx, Vx] [Vi v5] ((SHv st dr (z : Int)), (ovl a5 s b)) _
      refine Ev.call (k := 8) (pc1 := 71) (L1 := [Vr 114, Vi 273, Vi v5, Vi 0]) (S1 := [Vi (-1), Vi 0, Vr 114]) (h1 := ((SHv st dr (z : Int)), (ovl a5 s b))) (m' := 38) (as := [Vr 114, Vi 0, Vi (-1)]) (S' := []) (L0 := [Vr 114, Vi 0, Vi (-1), Vx]) (fun _ => rfl) rfl rfl rfl rfl rfl rfl (c_asked_br B5.2.2.1 0 (-1)) (fun r h' hq => ?_)
      obtain ⟨rfl, rfl⟩ := hq
      show Ev X _ _ 74 [Vr 114, Vi 273, Vi v5, Vi 0] [Vi (-1)] ((SHv st dr (z : Int)), (ovl a5 s b)) _
      refine Ev.call (k := 10) (pc1 := 108) (L1 := [Vr 114, Vi 273, Vi v5, Vi (-1)]) (S1 := [Vi (i_or v5 (i_shl (-1) 3)), Vi 273, Vr (z : Int)]) (h1 := ((SHv st dr (z : Int)), (ovl a5 s b))) (m' := 49) (as := [Vr (z : Int), Vi 273, Vi (i_or v5 (i_shl (-1) 3))]) (S' := []) (L0 := [Vr (z : Int), Vi 273, Vi (i_or v5 (i_shl (-1) 3))]) (fun _ => rfl) rfl rfl rfl rfl (stpC_of rfl (pm_recv_of (by omega) (shY_0 hz))) rfl (c_emit_br hz (B5).2.2.2 273 (i_or v5 (i_shl (-1) 3))) (fun r h' hq => ?_)
      obtain ⟨v9, a9, rfl, rfl, f1, f2, f3⟩ := hq
      have B9 := (B5).st hz f1 f2 f3
      show Ev X _ _ 111 [Vr 114, Vi 273, Vi v5, Vi (-1)] [Vi v9] ((SHv st dr (z : Int)), (ovl a9 s b)) _
      refine Ev.fin (k := 2) (r := none) (h' := ((SHv st dr (z : Int)), (ovl a9 s b))) (fun _ => rfl) ?_
      refine ⟨rfl, _, rfl, ?_⟩
      unfold simT
      rw [hx4, bnX_o]
      rw [if_neg (by omega)]
      rw [hx5, bnX_e]
      exact Or.inr ⟨_, rfl, B9⟩
  · have B4 := G0.bd X0 (by omega) hb4
    show Ev X _ _ 9 [Vr 114, Vi 273, Vx, Vx] [] ((SHv st dr (z : Int)), (ovl a4 s b)) _
    refine Ev.call (k := 6) (pc1 := 23) (L1 := [Vr 114, Vi 273, Vx, Vx]) (S1 := [Vi (-1), Vi 2, Vr 114]) (h1 := ((SHv st dr (z : Int)), (ovl a4 s b))) (m' := 38) (as := [Vr 114, Vi 2, Vi (-1)]) (S' := []) (L0 := [Vr 114, Vi 2, Vi (-1), Vx]) (fun _ => rfl) rfl rfl rfl rfl rfl rfl (c_asked_br B4.2.2.1 2 (-1)) (fun r h' hq => ?_)
    obtain ⟨rfl, rfl⟩ := hq
    show Ev X _ _ 26 [Vr 114, Vi 273, Vx, Vx] [Vi (-1)] ((SHv st dr (z : Int)), (ovl a4 s b)) _
    refine Ev.call (k := 8) (pc1 := 71) (L1 := [Vr 114, Vi 273, Vi (-1), Vi 0]) (S1 := [Vi (-1), Vi 0, Vr 114]) (h1 := ((SHv st dr (z : Int)), (ovl a4 s b))) (m' := 38) (as := [Vr 114, Vi 0, Vi (-1)]) (S' := []) (L0 := [Vr 114, Vi 0, Vi (-1), Vx]) (fun _ => rfl) rfl rfl rfl rfl rfl rfl (c_asked_br B4.2.2.1 0 (-1)) (fun r h' hq => ?_)
    obtain ⟨rfl, rfl⟩ := hq
    show Ev X _ _ 74 [Vr 114, Vi 273, Vi (-1), Vi 0] [Vi (-1)] ((SHv st dr (z : Int)), (ovl a4 s b)) _
    refine Ev.call (k := 10) (pc1 := 108) (L1 := [Vr 114, Vi 273, Vi (-1), Vi (-1)]) (S1 := [Vi (i_or (-1) (i_shl (-1) 3)), Vi 273, Vr (z : Int)]) (h1 := ((SHv st dr (z : Int)), (ovl a4 s b))) (m' := 49) (as := [Vr (z : Int), Vi 273, Vi (i_or (-1) (i_shl (-1) 3))]) (S' := []) (L0 := [Vr (z : Int), Vi 273, Vi (i_or (-1) (i_shl (-1) 3))]) (fun _ => rfl) rfl rfl rfl rfl (stpC_of rfl (pm_recv_of (by omega) (shY_0 hz))) rfl (c_emit_br hz (B4).2.2.2 273 (i_or (-1) (i_shl (-1) 3))) (fun r h' hq => ?_)
    obtain ⟨v10, a10, rfl, rfl, f1, f2, f3⟩ := hq
    have B10 := (B4).st hz f1 f2 f3
    show Ev X _ _ 111 [Vr 114, Vi 273, Vi (-1), Vi (-1)] [Vi v10] ((SHv st dr (z : Int)), (ovl a10 s b)) _
    refine Ev.fin (k := 2) (r := none) (h' := ((SHv st dr (z : Int)), (ovl a10 s b))) (fun _ => rfl) ?_
    refine ⟨rfl, _, rfl, ?_⟩
    unfold simT
    rw [hx4, bnX_e]
    exact Or.inr ⟨_, rfl, B10⟩
theorem c_sim_274 {X : List Int} {st dr : Int} {s b : C3} {W : TXT} {N : SC} {z : Nat} (hz : hyS z) {K : Nat} (d : Nat) (a0 : C3) (p0 c0 : Nat) (hd : 4 ≤ d) (X0 : XoC W N z p0 c0 K a0) (hc0 : c0 ≤ p0) (hlit : tC W p0 = 274) : Ev X d 55 0 [Vr 114, Vx, Vx, Vx] [] (SHv st dr (z : Int), ovl a0 s b) (PoX st dr s b W N z p0 c0 K a0 1 (simT W N p0)) := by
  have hz1 := z11 hz
  obtain ⟨d, rfl⟩ : ∃ d1, d = d1 + 4 := ⟨d - 4, by omega⟩
  have G0 : Gz z c0 a0 a0 := Gz.rf
  have Q0 := X0.le
  have hl0 : tC W p0 ≠ 302 → p0 < W.2 := fun h => Nat.lt_of_lt_of_le (tok_lt X0.le.1 X0.1.1.1 h X0.1.2.2.2.2.2.2.2.2.1) (tok_rg X0.le.1 X0.1.1.1).2
  refine Ev.steps (k := 2) (pc' := 4) (L' := [Vr 114, Vx, Vx, Vx]) (S' := [Vi (a0 114 5)]) (h' := ((SHv st dr (z : Int)), (ovl a0 s b))) (fun _ => rfl) ?_
  rw [(X0.t5.trans (show ((tC W p0 : Nat) : Int) = 274 by omega))]
  refine Ev.call (k := 2) (pc1 := 6) (L1 := [Vr 114, Vi 274, Vx, Vx]) (S1 := [Vr 114]) (h1 := ((SHv st dr (z : Int)), (ovl a0 s b))) (m' := 27) (as := [Vr 114]) (S' := []) (L0 := [Vr 114, Vx, Vx, Vx, Vx]) (fun _ => rfl) rfl rfl rfl rfl rfl rfl (c_next X0.1) (fun r h' hq => ?_)
  obtain ⟨rfl, a11, rfl, hq⟩ := hq
  rcases hq with ⟨p11, hx11, ho11⟩ | ⟨e11, hx11, hb11⟩
  · have X11 := X0.nx ho11
    have L11 : p0 < p11 := X0.lt (by omega) hx11
    have G11 := G0.tr (ho11.1.gz (c := c0) X0.hz) (by omega)
    have R11 : a11 (z + 11) = a0 (z + 11) := ho11.1 _ (by omega)
    have Q11 := X11.le
    show Ev X _ _ 9 [Vr 114, Vi 274, Vx, Vx] [] ((SHv st dr (z : Int)), (ovl a11 s b)) _
    refine Ev.call (k := 6) (pc1 := 23) (L1 := [Vr 114, Vi 274, Vx, Vx]) (S1 := [Vi (-1), Vi 2, Vr 114]) (h1 := ((SHv st dr (z : Int)), (ovl a11 s b))) (m' := 38) (as := [Vr 114, Vi 2, Vi (-1)]) (S' := []) (L0 := [Vr 114, Vi 2, Vi (-1), Vx]) (fun _ => rfl) rfl rfl rfl rfl rfl rfl (c_asked X11.hz X11.1 (kd := 1) (q := 2) X11.2.1 (by decide) rfl (-1) rfl) (fun r h' hq => ?_)
    obtain ⟨a12, rfl, hq⟩ := hq
    rcases hq with ⟨⟨i12, p12⟩, hx12, rfl, ho12⟩ | ⟨e12, hx12, ⟨v12, rfl, hv12⟩, hb12⟩
    · have K12 := ask_ok hx12
      dsimp only at K12 ho12
      have X12 := X11.nx ho12
      have L12 : p11 < p12 := by
        rw [show p12 = tE W p11 from K12.2.2.2.2.1]
        exact tok_lt X11.le.1 X11.1.1.1 (by omega) (by omega)
      have I12 := K12.2.2.1
      have J12 := (X11.2.1 1 (by decide)).1
      have G12 := G11.tr (ho12.1.gz (c := c0) X11.hz) (by omega)
      have R12 : a12 (z + 11) = a11 (z + 11) := ho12.1 _ (by omega)
      have Q12 := X12.le
      clear K12
      show Ev X _ _ 26 [Vr 114, Vi 274, Vx, Vx] [Vi ((i12 : Nat) : Int)] ((SHv st dr (z : Int)), (ovl a12 s b)) _
      refine Ev.call (k := 8) (pc1 := 81) (L1 := [Vr 114, Vi 274, Vi ((i12 : Nat) : Int), Vi 0]) (S1 := [Vi (-1), Vi 3, Vr 114]) (h1 := ((SHv st dr (z : Int)), (ovl a12 s b))) (m' := 38) (as := [Vr 114, Vi 3, Vi (-1)]) (S' := []) (L0 := [Vr 114, Vi 3, Vi (-1), Vx]) (fun _ => rfl) rfl rfl rfl rfl rfl rfl (c_asked X12.hz X12.1 (kd := 2) (q := 3) X12.2.1 (by decide) rfl (-1) rfl) (fun r h' hq => ?_)
      obtain ⟨a13, rfl, hq⟩ := hq
      rcases hq with ⟨⟨i13, p13⟩, hx13, rfl, ho13⟩ | ⟨e13, hx13, ⟨v13, rfl, hv13⟩, hb13⟩
      · have K13 := ask_ok hx13
        dsimp only at K13 ho13
        have X13 := X12.nx ho13
        have L13 : p12 < p13 := by
          rw [show p13 = tE W p12 from K13.2.2.2.2.1]
          exact tok_lt X12.le.1 X12.1.1.1 (by omega) (by omega)
        have I13 := K13.2.2.1
        have J13 := (X12.2.1 2 (by decide)).1
        have G13 := G12.tr (ho13.1.gz (c := c0) X12.hz) (by omega)
        have R13 : a13 (z + 11) = a12 (z + 11) := ho13.1 _ (by omega)
        have Q13 := X13.le
        clear K13
        show Ev X _ _ 84 [Vr 114, Vi 274, Vi ((i12 : Nat) : Int), Vi 0] [Vi ((i13 : Nat) : Int)] ((SHv st dr (z : Int)), (ovl a13 s b)) _
        refine Ev.steps (k := 10) (pc' := 108) (L' := [Vr 114, Vi 274, Vi ((i12 : Nat) : Int), Vi ((i13 : Nat) : Int)]) (S' := [Vi (i_or ((i12 : Nat) : Int) (i_shl ((i13 : Nat) : Int) 3)), Vi 274, Vr (z : Int)]) (h' := ((SHv st dr (z : Int)), (ovl a13 s b))) (fun _ => rfl) ?_
        rw [show (i_or ((i12 : Nat) : Int) (i_shl ((i13 : Nat) : Int) 3)) = (((i12) + 8 * (i13) : Nat) : Int) from (f_or (by omega) (by omega))]
        refine Ev.call (k := 0) (pc1 := 108) (L1 := [Vr 114, Vi 274, Vi ((i12 : Nat) : Int), Vi ((i13 : Nat) : Int)]) (S1 := [Vi (((i12) + 8 * (i13) : Nat) : Int), Vi 274, Vr (z : Int)]) (h1 := ((SHv st dr (z : Int)), (ovl a13 s b))) (m' := 49) (as := [Vr (z : Int), Vi 274, Vi (((i12) + 8 * (i13) : Nat) : Int)]) (S' := []) (L0 := [Vr (z : Int), Vi 274, Vi (((i12) + 8 * (i13) : Nat) : Int)]) (fun _ => rfl) rfl rfl rfl rfl (stpC_of rfl (pm_recv_of (by omega) (shY_0 hz))) rfl (c_emitX (a := a13) X13 (by omega) 274 ((i12) + 8 * (i13)) (by omega) (by omega)) (fun r h' hq => ?_)
        obtain ⟨rfl, hq⟩ := hq
        rcases hq with ⟨a14, rfl, X14, g14, E14⟩
        · have G14 := G13.tr g14 (by omega)
          have Q14 := X14.le
          show Ev X _ _ 111 [Vr 114, Vi 274, Vi ((i12 : Nat) : Int), Vi ((i13 : Nat) : Int)] [Vi ((c0 : Nat) : Int)] ((SHv st dr (z : Int)), (ovl a14 s b)) _
          refine Ev.fin (k := 2) (r := none) (h' := ((SHv st dr (z : Int)), (ovl a14 s b))) (fun _ => rfl) ?_
          refine ⟨rfl, _, rfl, ?_⟩
          unfold simT
          rw [hx11, bnX_o]
          rw [if_neg (by omega)]
          rw [hx12, bnX_o]
          try dsimp only
          rw [if_neg (by omega)]
          rw [show kdF (tC W p0) = 2 by rw [hlit]; rfl, show buF (tC W p0) i12 = -1 by rw [hlit]; rfl, hx13, bnX_o]
          exact Or.inl ⟨_, rfl, _, X14, G14, CoC.leaf (q := (tC W p0 - 269, 8 * i12 + i13)) (by show _ ≤ 9; (try dsimp only); omega) (by omega) (by dsimp only; rw [E14, encT_f (by omega) (by omega), show encV (tC W p0 - 269) (8 * i12 + i13) = i12 + 8 * i13 from encV_f (op := tC W p0 - 269) (i := i12) (o := i13) (by omega) (by omega) (by omega), hlit]; try omega), by dsimp only; omega⟩
      · have B13 := G12.bd X12 (by omega) hb13
        show Ev X _ _ 84 [Vr 114, Vi 274, Vi ((i12 : Nat) : Int), Vi 0] [Vi v13] ((SHv st dr (z : Int)), (ovl a13 s b)) _
        refine Ev.call (k := 10) (pc1 := 108) (L1 := [Vr 114, Vi 274, Vi ((i12 : Nat) : Int), Vi v13]) (S1 := [Vi (i_or ((i12 : Nat) : Int) (i_shl v13 3)), Vi 274, Vr (z : Int)]) (h1 := ((SHv st dr (z : Int)), (ovl a13 s b))) (m' := 49) (as := [Vr (z : Int), Vi 274, Vi (i_or ((i12 : Nat) : Int) (i_shl v13 3))]) (S' := []) (L0 := [Vr (z : Int), Vi 274, Vi (i_or ((i12 : Nat) : Int) (i_shl v13 3))]) (fun _ => rfl) rfl rfl rfl rfl (stpC_of rfl (pm_recv_of (by omega) (shY_0 hz))) rfl (c_emit_br hz (B13).2.2.2 274 (i_or ((i12 : Nat) : Int) (i_shl v13 3))) (fun r h' hq => ?_)
        obtain ⟨v15, a15, rfl, rfl, f1, f2, f3⟩ := hq
        have B15 := (B13).st hz f1 f2 f3
        show Ev X _ _ 111 [Vr 114, Vi 274, Vi ((i12 : Nat) : Int), Vi v13] [Vi v15] ((SHv st dr (z : Int)), (ovl a15 s b)) _
        refine Ev.fin (k := 2) (r := none) (h' := ((SHv st dr (z : Int)), (ovl a15 s b))) (fun _ => rfl) ?_
        refine ⟨rfl, _, rfl, ?_⟩
        unfold simT
        rw [hx11, bnX_o]
        rw [if_neg (by omega)]
        rw [hx12, bnX_o]
        try dsimp only
        rw [if_neg (by omega)]
        rw [show kdF (tC W p0) = 2 by rw [hlit]; rfl, show buF (tC W p0) i12 = -1 by rw [hlit]; rfl, hx13, bnX_e]
        exact Or.inr ⟨_, rfl, B15⟩
    · have B12 := G11.bd X11 (by omega) hb12
      show Ev X _ _ 26 [Vr 114, Vi 274, Vx, Vx] [Vi v12] ((SHv st dr (z : Int)), (ovl a12 s b)) _
      refine Ev.call (k := 8) (pc1 := 81) (L1 := [Vr 114, Vi 274, Vi v12, Vi 0]) (S1 := [Vi (-1), Vi 3, Vr 114]) (h1 := ((SHv st dr (z : Int)), (ovl a12 s b))) (m' := 38) (as := [Vr 114, Vi 3, Vi (-1)]) (S' := []) (L0 := [Vr 114, Vi 3, Vi (-1), Vx]) (fun _ => rfl) rfl rfl rfl rfl rfl rfl (c_asked_br B12.2.2.1 3 (-1)) (fun r h' hq => ?_)
      obtain ⟨rfl, rfl⟩ := hq
      show Ev X _ _ 84 [Vr 114, Vi 274, Vi v12, Vi 0] [Vi (-1)] ((SHv st dr (z : Int)), (ovl a12 s b)) _
      refine Ev.call (k := 10) (pc1 := 108) (L1 := [Vr 114, Vi 274, Vi v12, Vi (-1)]) (S1 := [Vi (i_or v12 (i_shl (-1) 3)), Vi 274, Vr (z : Int)]) (h1 := ((SHv st dr (z : Int)), (ovl a12 s b))) (m' := 49) (as := [Vr (z : Int), Vi 274, Vi (i_or v12 (i_shl (-1) 3))]) (S' := []) (L0 := [Vr (z : Int), Vi 274, Vi (i_or v12 (i_shl (-1) 3))]) (fun _ => rfl) rfl rfl rfl rfl (stpC_of rfl (pm_recv_of (by omega) (shY_0 hz))) rfl (c_emit_br hz (B12).2.2.2 274 (i_or v12 (i_shl (-1) 3))) (fun r h' hq => ?_)
      obtain ⟨v16, a16, rfl, rfl, f1, f2, f3⟩ := hq
      have B16 := (B12).st hz f1 f2 f3
      show Ev X _ _ 111 [Vr 114, Vi 274, Vi v12, Vi (-1)] [Vi v16] ((SHv st dr (z : Int)), (ovl a16 s b)) _
      refine Ev.fin (k := 2) (r := none) (h' := ((SHv st dr (z : Int)), (ovl a16 s b))) (fun _ => rfl) ?_
      refine ⟨rfl, _, rfl, ?_⟩
      unfold simT
      rw [hx11, bnX_o]
      rw [if_neg (by omega)]
      rw [hx12, bnX_e]
      exact Or.inr ⟨_, rfl, B16⟩
  · have B11 := G0.bd X0 (by omega) hb11
    show Ev X _ _ 9 [Vr 114, Vi 274, Vx, Vx] [] ((SHv st dr (z : Int)), (ovl a11 s b)) _
    refine Ev.call (k := 6) (pc1 := 23) (L1 := [Vr 114, Vi 274, Vx, Vx]) (S1 := [Vi (-1), Vi 2, Vr 114]) (h1 := ((SHv st dr (z : Int)), (ovl a11 s b))) (m' := 38) (as := [Vr 114, Vi 2, Vi (-1)]) (S' := []) (L0 := [Vr 114, Vi 2, Vi (-1), Vx]) (fun _ => rfl) rfl rfl rfl rfl rfl rfl (c_asked_br B11.2.2.1 2 (-1)) (fun r h' hq => ?_)
    obtain ⟨rfl, rfl⟩ := hq
    show Ev X _ _ 26 [Vr 114, Vi 274, Vx, Vx] [Vi (-1)] ((SHv st dr (z : Int)), (ovl a11 s b)) _
    refine Ev.call (k := 8) (pc1 := 81) (L1 := [Vr 114, Vi 274, Vi (-1), Vi 0]) (S1 := [Vi (-1), Vi 3, Vr 114]) (h1 := ((SHv st dr (z : Int)), (ovl a11 s b))) (m' := 38) (as := [Vr 114, Vi 3, Vi (-1)]) (S' := []) (L0 := [Vr 114, Vi 3, Vi (-1), Vx]) (fun _ => rfl) rfl rfl rfl rfl rfl rfl (c_asked_br B11.2.2.1 3 (-1)) (fun r h' hq => ?_)
    obtain ⟨rfl, rfl⟩ := hq
    show Ev X _ _ 84 [Vr 114, Vi 274, Vi (-1), Vi 0] [Vi (-1)] ((SHv st dr (z : Int)), (ovl a11 s b)) _
    refine Ev.call (k := 10) (pc1 := 108) (L1 := [Vr 114, Vi 274, Vi (-1), Vi (-1)]) (S1 := [Vi (i_or (-1) (i_shl (-1) 3)), Vi 274, Vr (z : Int)]) (h1 := ((SHv st dr (z : Int)), (ovl a11 s b))) (m' := 49) (as := [Vr (z : Int), Vi 274, Vi (i_or (-1) (i_shl (-1) 3))]) (S' := []) (L0 := [Vr (z : Int), Vi 274, Vi (i_or (-1) (i_shl (-1) 3))]) (fun _ => rfl) rfl rfl rfl rfl (stpC_of rfl (pm_recv_of (by omega) (shY_0 hz))) rfl (c_emit_br hz (B11).2.2.2 274 (i_or (-1) (i_shl (-1) 3))) (fun r h' hq => ?_)
    obtain ⟨v17, a17, rfl, rfl, f1, f2, f3⟩ := hq
    have B17 := (B11).st hz f1 f2 f3
    show Ev X _ _ 111 [Vr 114, Vi 274, Vi (-1), Vi (-1)] [Vi v17] ((SHv st dr (z : Int)), (ovl a17 s b)) _
    refine Ev.fin (k := 2) (r := none) (h' := ((SHv st dr (z : Int)), (ovl a17 s b))) (fun _ => rfl) ?_
    refine ⟨rfl, _, rfl, ?_⟩
    unfold simT
    rw [hx11, bnX_e]
    exact Or.inr ⟨_, rfl, B17⟩
theorem c_sim_275 {X : List Int} {st dr : Int} {s b : C3} {W : TXT} {N : SC} {z : Nat} (hz : hyS z) {K : Nat} (d : Nat) (a0 : C3) (p0 c0 : Nat) (hd : 4 ≤ d) (X0 : XoC W N z p0 c0 K a0) (hc0 : c0 ≤ p0) (hlit : tC W p0 = 275) : Ev X d 55 0 [Vr 114, Vx, Vx, Vx] [] (SHv st dr (z : Int), ovl a0 s b) (PoX st dr s b W N z p0 c0 K a0 1 (simT W N p0)) := by
  have hz1 := z11 hz
  obtain ⟨d, rfl⟩ : ∃ d1, d = d1 + 4 := ⟨d - 4, by omega⟩
  have G0 : Gz z c0 a0 a0 := Gz.rf
  have Q0 := X0.le
  have hl0 : tC W p0 ≠ 302 → p0 < W.2 := fun h => Nat.lt_of_lt_of_le (tok_lt X0.le.1 X0.1.1.1 h X0.1.2.2.2.2.2.2.2.2.1) (tok_rg X0.le.1 X0.1.1.1).2
  refine Ev.steps (k := 2) (pc' := 4) (L' := [Vr 114, Vx, Vx, Vx]) (S' := [Vi (a0 114 5)]) (h' := ((SHv st dr (z : Int)), (ovl a0 s b))) (fun _ => rfl) ?_
  rw [(X0.t5.trans (show ((tC W p0 : Nat) : Int) = 275 by omega))]
  refine Ev.call (k := 2) (pc1 := 6) (L1 := [Vr 114, Vi 275, Vx, Vx]) (S1 := [Vr 114]) (h1 := ((SHv st dr (z : Int)), (ovl a0 s b))) (m' := 27) (as := [Vr 114]) (S' := []) (L0 := [Vr 114, Vx, Vx, Vx, Vx]) (fun _ => rfl) rfl rfl rfl rfl rfl rfl (c_next X0.1) (fun r h' hq => ?_)
  obtain ⟨rfl, a18, rfl, hq⟩ := hq
  rcases hq with ⟨p18, hx18, ho18⟩ | ⟨e18, hx18, hb18⟩
  · have X18 := X0.nx ho18
    have L18 : p0 < p18 := X0.lt (by omega) hx18
    have G18 := G0.tr (ho18.1.gz (c := c0) X0.hz) (by omega)
    have R18 : a18 (z + 11) = a0 (z + 11) := ho18.1 _ (by omega)
    have Q18 := X18.le
    show Ev X _ _ 9 [Vr 114, Vi 275, Vx, Vx] [] ((SHv st dr (z : Int)), (ovl a18 s b)) _
    refine Ev.call (k := 6) (pc1 := 23) (L1 := [Vr 114, Vi 275, Vx, Vx]) (S1 := [Vi (-1), Vi 2, Vr 114]) (h1 := ((SHv st dr (z : Int)), (ovl a18 s b))) (m' := 38) (as := [Vr 114, Vi 2, Vi (-1)]) (S' := []) (L0 := [Vr 114, Vi 2, Vi (-1), Vx]) (fun _ => rfl) rfl rfl rfl rfl rfl rfl (c_asked X18.hz X18.1 (kd := 1) (q := 2) X18.2.1 (by decide) rfl (-1) rfl) (fun r h' hq => ?_)
    obtain ⟨a19, rfl, hq⟩ := hq
    rcases hq with ⟨⟨i19, p19⟩, hx19, rfl, ho19⟩ | ⟨e19, hx19, ⟨v19, rfl, hv19⟩, hb19⟩
    · have K19 := ask_ok hx19
      dsimp only at K19 ho19
      have X19 := X18.nx ho19
      have L19 : p18 < p19 := by
        rw [show p19 = tE W p18 from K19.2.2.2.2.1]
        exact tok_lt X18.le.1 X18.1.1.1 (by omega) (by omega)
      have I19 := K19.2.2.1
      have J19 := (X18.2.1 1 (by decide)).1
      have G19 := G18.tr (ho19.1.gz (c := c0) X18.hz) (by omega)
      have R19 : a19 (z + 11) = a18 (z + 11) := ho19.1 _ (by omega)
      have Q19 := X19.le
      clear K19
      show Ev X _ _ 26 [Vr 114, Vi 275, Vx, Vx] [Vi ((i19 : Nat) : Int)] ((SHv st dr (z : Int)), (ovl a19 s b)) _
      refine Ev.call (k := 8) (pc1 := 91) (L1 := [Vr 114, Vi 275, Vi ((i19 : Nat) : Int), Vi 0]) (S1 := [Vi ((i19 : Nat) : Int), Vi 2, Vr 114]) (h1 := ((SHv st dr (z : Int)), (ovl a19 s b))) (m' := 38) (as := [Vr 114, Vi 2, Vi ((i19 : Nat) : Int)]) (S' := []) (L0 := [Vr 114, Vi 2, Vi ((i19 : Nat) : Int), Vx]) (fun _ => rfl) rfl rfl rfl rfl rfl rfl (c_asked X19.hz X19.1 (kd := 1) (q := 2) X19.2.1 (by decide) rfl ((i19 : Nat) : Int) rfl) (fun r h' hq => ?_)
      obtain ⟨a20, rfl, hq⟩ := hq
      rcases hq with ⟨⟨i20, p20⟩, hx20, rfl, ho20⟩ | ⟨e20, hx20, ⟨v20, rfl, hv20⟩, hb20⟩
      · have K20 := ask_ok hx20
        dsimp only at K20 ho20
        have X20 := X19.nx ho20
        have L20 : p19 < p20 := by
          rw [show p20 = tE W p19 from K20.2.2.2.2.1]
          exact tok_lt X19.le.1 X19.1.1.1 (by omega) (by omega)
        have I20 := K20.2.2.1
        have J20 := (X19.2.1 1 (by decide)).1
        have G20 := G19.tr (ho20.1.gz (c := c0) X19.hz) (by omega)
        have R20 : a20 (z + 11) = a19 (z + 11) := ho20.1 _ (by omega)
        have Q20 := X20.le
        clear K20
        show Ev X _ _ 94 [Vr 114, Vi 275, Vi ((i19 : Nat) : Int), Vi 0] [Vi ((i20 : Nat) : Int)] ((SHv st dr (z : Int)), (ovl a20 s b)) _
        refine Ev.steps (k := 10) (pc' := 108) (L' := [Vr 114, Vi 275, Vi ((i19 : Nat) : Int), Vi ((i20 : Nat) : Int)]) (S' := [Vi (i_or ((i19 : Nat) : Int) (i_shl ((i20 : Nat) : Int) 3)), Vi 275, Vr (z : Int)]) (h' := ((SHv st dr (z : Int)), (ovl a20 s b))) (fun _ => rfl) ?_
        rw [show (i_or ((i19 : Nat) : Int) (i_shl ((i20 : Nat) : Int) 3)) = (((i19) + 8 * (i20) : Nat) : Int) from (f_or (by omega) (by omega))]
        refine Ev.call (k := 0) (pc1 := 108) (L1 := [Vr 114, Vi 275, Vi ((i19 : Nat) : Int), Vi ((i20 : Nat) : Int)]) (S1 := [Vi (((i19) + 8 * (i20) : Nat) : Int), Vi 275, Vr (z : Int)]) (h1 := ((SHv st dr (z : Int)), (ovl a20 s b))) (m' := 49) (as := [Vr (z : Int), Vi 275, Vi (((i19) + 8 * (i20) : Nat) : Int)]) (S' := []) (L0 := [Vr (z : Int), Vi 275, Vi (((i19) + 8 * (i20) : Nat) : Int)]) (fun _ => rfl) rfl rfl rfl rfl (stpC_of rfl (pm_recv_of (by omega) (shY_0 hz))) rfl (c_emitX (a := a20) X20 (by omega) 275 ((i19) + 8 * (i20)) (by omega) (by omega)) (fun r h' hq => ?_)
        obtain ⟨rfl, hq⟩ := hq
        rcases hq with ⟨a21, rfl, X21, g21, E21⟩
        · have G21 := G20.tr g21 (by omega)
          have Q21 := X21.le
          show Ev X _ _ 111 [Vr 114, Vi 275, Vi ((i19 : Nat) : Int), Vi ((i20 : Nat) : Int)] [Vi ((c0 : Nat) : Int)] ((SHv st dr (z : Int)), (ovl a21 s b)) _
          refine Ev.fin (k := 2) (r := none) (h' := ((SHv st dr (z : Int)), (ovl a21 s b))) (fun _ => rfl) ?_
          refine ⟨rfl, _, rfl, ?_⟩
          unfold simT
          rw [hx18, bnX_o]
          rw [if_neg (by omega)]
          rw [hx19, bnX_o]
          try dsimp only
          rw [if_neg (by omega)]
          rw [show kdF (tC W p0) = 1 by rw [hlit]; rfl, show buF (tC W p0) i19 = ((i19 : Nat) : Int) by rw [hlit]; rfl, hx20, bnX_o]
          exact Or.inl ⟨_, rfl, _, X21, G21, CoC.leaf (q := (tC W p0 - 269, 8 * i19 + i20)) (by show _ ≤ 9; (try dsimp only); omega) (by omega) (by dsimp only; rw [E21, encT_f (by omega) (by omega), show encV (tC W p0 - 269) (8 * i19 + i20) = i19 + 8 * i20 from encV_f (op := tC W p0 - 269) (i := i19) (o := i20) (by omega) (by omega) (by omega), hlit]; try omega), by dsimp only; omega⟩
      · have B20 := G19.bd X19 (by omega) hb20
        show Ev X _ _ 94 [Vr 114, Vi 275, Vi ((i19 : Nat) : Int), Vi 0] [Vi v20] ((SHv st dr (z : Int)), (ovl a20 s b)) _
        refine Ev.call (k := 10) (pc1 := 108) (L1 := [Vr 114, Vi 275, Vi ((i19 : Nat) : Int), Vi v20]) (S1 := [Vi (i_or ((i19 : Nat) : Int) (i_shl v20 3)), Vi 275, Vr (z : Int)]) (h1 := ((SHv st dr (z : Int)), (ovl a20 s b))) (m' := 49) (as := [Vr (z : Int), Vi 275, Vi (i_or ((i19 : Nat) : Int) (i_shl v20 3))]) (S' := []) (L0 := [Vr (z : Int), Vi 275, Vi (i_or ((i19 : Nat) : Int) (i_shl v20 3))]) (fun _ => rfl) rfl rfl rfl rfl (stpC_of rfl (pm_recv_of (by omega) (shY_0 hz))) rfl (c_emit_br hz (B20).2.2.2 275 (i_or ((i19 : Nat) : Int) (i_shl v20 3))) (fun r h' hq => ?_)
        obtain ⟨v22, a22, rfl, rfl, f1, f2, f3⟩ := hq
        have B22 := (B20).st hz f1 f2 f3
        show Ev X _ _ 111 [Vr 114, Vi 275, Vi ((i19 : Nat) : Int), Vi v20] [Vi v22] ((SHv st dr (z : Int)), (ovl a22 s b)) _
        refine Ev.fin (k := 2) (r := none) (h' := ((SHv st dr (z : Int)), (ovl a22 s b))) (fun _ => rfl) ?_
        refine ⟨rfl, _, rfl, ?_⟩
        unfold simT
        rw [hx18, bnX_o]
        rw [if_neg (by omega)]
        rw [hx19, bnX_o]
        try dsimp only
        rw [if_neg (by omega)]
        rw [show kdF (tC W p0) = 1 by rw [hlit]; rfl, show buF (tC W p0) i19 = ((i19 : Nat) : Int) by rw [hlit]; rfl, hx20, bnX_e]
        exact Or.inr ⟨_, rfl, B22⟩
    · have B19 := G18.bd X18 (by omega) hb19
      show Ev X _ _ 26 [Vr 114, Vi 275, Vx, Vx] [Vi v19] ((SHv st dr (z : Int)), (ovl a19 s b)) _
      refine Ev.call (k := 8) (pc1 := 91) (L1 := [Vr 114, Vi 275, Vi v19, Vi 0]) (S1 := [Vi v19, Vi 2, Vr 114]) (h1 := ((SHv st dr (z : Int)), (ovl a19 s b))) (m' := 38) (as := [Vr 114, Vi 2, Vi v19]) (S' := []) (L0 := [Vr 114, Vi 2, Vi v19, Vx]) (fun _ => rfl) rfl rfl rfl rfl rfl rfl (c_asked_br B19.2.2.1 2 v19) (fun r h' hq => ?_)
      obtain ⟨rfl, rfl⟩ := hq
      show Ev X _ _ 94 [Vr 114, Vi 275, Vi v19, Vi 0] [Vi (-1)] ((SHv st dr (z : Int)), (ovl a19 s b)) _
      refine Ev.call (k := 10) (pc1 := 108) (L1 := [Vr 114, Vi 275, Vi v19, Vi (-1)]) (S1 := [Vi (i_or v19 (i_shl (-1) 3)), Vi 275, Vr (z : Int)]) (h1 := ((SHv st dr (z : Int)), (ovl a19 s b))) (m' := 49) (as := [Vr (z : Int), Vi 275, Vi (i_or v19 (i_shl (-1) 3))]) (S' := []) (L0 := [Vr (z : Int), Vi 275, Vi (i_or v19 (i_shl (-1) 3))]) (fun _ => rfl) rfl rfl rfl rfl (stpC_of rfl (pm_recv_of (by omega) (shY_0 hz))) rfl (c_emit_br hz (B19).2.2.2 275 (i_or v19 (i_shl (-1) 3))) (fun r h' hq => ?_)
      obtain ⟨v23, a23, rfl, rfl, f1, f2, f3⟩ := hq
      have B23 := (B19).st hz f1 f2 f3
      show Ev X _ _ 111 [Vr 114, Vi 275, Vi v19, Vi (-1)] [Vi v23] ((SHv st dr (z : Int)), (ovl a23 s b)) _
      refine Ev.fin (k := 2) (r := none) (h' := ((SHv st dr (z : Int)), (ovl a23 s b))) (fun _ => rfl) ?_
      refine ⟨rfl, _, rfl, ?_⟩
      unfold simT
      rw [hx18, bnX_o]
      rw [if_neg (by omega)]
      rw [hx19, bnX_e]
      exact Or.inr ⟨_, rfl, B23⟩
  · have B18 := G0.bd X0 (by omega) hb18
    show Ev X _ _ 9 [Vr 114, Vi 275, Vx, Vx] [] ((SHv st dr (z : Int)), (ovl a18 s b)) _
    refine Ev.call (k := 6) (pc1 := 23) (L1 := [Vr 114, Vi 275, Vx, Vx]) (S1 := [Vi (-1), Vi 2, Vr 114]) (h1 := ((SHv st dr (z : Int)), (ovl a18 s b))) (m' := 38) (as := [Vr 114, Vi 2, Vi (-1)]) (S' := []) (L0 := [Vr 114, Vi 2, Vi (-1), Vx]) (fun _ => rfl) rfl rfl rfl rfl rfl rfl (c_asked_br B18.2.2.1 2 (-1)) (fun r h' hq => ?_)
    obtain ⟨rfl, rfl⟩ := hq
    show Ev X _ _ 26 [Vr 114, Vi 275, Vx, Vx] [Vi (-1)] ((SHv st dr (z : Int)), (ovl a18 s b)) _
    refine Ev.call (k := 8) (pc1 := 91) (L1 := [Vr 114, Vi 275, Vi (-1), Vi 0]) (S1 := [Vi (-1), Vi 2, Vr 114]) (h1 := ((SHv st dr (z : Int)), (ovl a18 s b))) (m' := 38) (as := [Vr 114, Vi 2, Vi (-1)]) (S' := []) (L0 := [Vr 114, Vi 2, Vi (-1), Vx]) (fun _ => rfl) rfl rfl rfl rfl rfl rfl (c_asked_br B18.2.2.1 2 (-1)) (fun r h' hq => ?_)
    obtain ⟨rfl, rfl⟩ := hq
    show Ev X _ _ 94 [Vr 114, Vi 275, Vi (-1), Vi 0] [Vi (-1)] ((SHv st dr (z : Int)), (ovl a18 s b)) _
    refine Ev.call (k := 10) (pc1 := 108) (L1 := [Vr 114, Vi 275, Vi (-1), Vi (-1)]) (S1 := [Vi (i_or (-1) (i_shl (-1) 3)), Vi 275, Vr (z : Int)]) (h1 := ((SHv st dr (z : Int)), (ovl a18 s b))) (m' := 49) (as := [Vr (z : Int), Vi 275, Vi (i_or (-1) (i_shl (-1) 3))]) (S' := []) (L0 := [Vr (z : Int), Vi 275, Vi (i_or (-1) (i_shl (-1) 3))]) (fun _ => rfl) rfl rfl rfl rfl (stpC_of rfl (pm_recv_of (by omega) (shY_0 hz))) rfl (c_emit_br hz (B18).2.2.2 275 (i_or (-1) (i_shl (-1) 3))) (fun r h' hq => ?_)
    obtain ⟨v24, a24, rfl, rfl, f1, f2, f3⟩ := hq
    have B24 := (B18).st hz f1 f2 f3
    show Ev X _ _ 111 [Vr 114, Vi 275, Vi (-1), Vi (-1)] [Vi v24] ((SHv st dr (z : Int)), (ovl a24 s b)) _
    refine Ev.fin (k := 2) (r := none) (h' := ((SHv st dr (z : Int)), (ovl a24 s b))) (fun _ => rfl) ?_
    refine ⟨rfl, _, rfl, ?_⟩
    unfold simT
    rw [hx18, bnX_e]
    exact Or.inr ⟨_, rfl, B24⟩
theorem c_sim_276 {X : List Int} {st dr : Int} {s b : C3} {W : TXT} {N : SC} {z : Nat} (hz : hyS z) {K : Nat} (d : Nat) (a0 : C3) (p0 c0 : Nat) (hd : 4 ≤ d) (X0 : XoC W N z p0 c0 K a0) (hc0 : c0 ≤ p0) (hlit : tC W p0 = 276) : Ev X d 55 0 [Vr 114, Vx, Vx, Vx] [] (SHv st dr (z : Int), ovl a0 s b) (PoX st dr s b W N z p0 c0 K a0 1 (simT W N p0)) := by
  have hz1 := z11 hz
  obtain ⟨d, rfl⟩ : ∃ d1, d = d1 + 4 := ⟨d - 4, by omega⟩
  have G0 : Gz z c0 a0 a0 := Gz.rf
  have Q0 := X0.le
  have hl0 : tC W p0 ≠ 302 → p0 < W.2 := fun h => Nat.lt_of_lt_of_le (tok_lt X0.le.1 X0.1.1.1 h X0.1.2.2.2.2.2.2.2.2.1) (tok_rg X0.le.1 X0.1.1.1).2
  refine Ev.steps (k := 2) (pc' := 4) (L' := [Vr 114, Vx, Vx, Vx]) (S' := [Vi (a0 114 5)]) (h' := ((SHv st dr (z : Int)), (ovl a0 s b))) (fun _ => rfl) ?_
  rw [(X0.t5.trans (show ((tC W p0 : Nat) : Int) = 276 by omega))]
  refine Ev.call (k := 2) (pc1 := 6) (L1 := [Vr 114, Vi 276, Vx, Vx]) (S1 := [Vr 114]) (h1 := ((SHv st dr (z : Int)), (ovl a0 s b))) (m' := 27) (as := [Vr 114]) (S' := []) (L0 := [Vr 114, Vx, Vx, Vx, Vx]) (fun _ => rfl) rfl rfl rfl rfl rfl rfl (c_next X0.1) (fun r h' hq => ?_)
  obtain ⟨rfl, a25, rfl, hq⟩ := hq
  rcases hq with ⟨p25, hx25, ho25⟩ | ⟨e25, hx25, hb25⟩
  · have X25 := X0.nx ho25
    have L25 : p0 < p25 := X0.lt (by omega) hx25
    have G25 := G0.tr (ho25.1.gz (c := c0) X0.hz) (by omega)
    have R25 : a25 (z + 11) = a0 (z + 11) := ho25.1 _ (by omega)
    have Q25 := X25.le
    show Ev X _ _ 9 [Vr 114, Vi 276, Vx, Vx] [] ((SHv st dr (z : Int)), (ovl a25 s b)) _
    refine Ev.call (k := 6) (pc1 := 23) (L1 := [Vr 114, Vi 276, Vx, Vx]) (S1 := [Vi (-1), Vi 2, Vr 114]) (h1 := ((SHv st dr (z : Int)), (ovl a25 s b))) (m' := 38) (as := [Vr 114, Vi 2, Vi (-1)]) (S' := []) (L0 := [Vr 114, Vi 2, Vi (-1), Vx]) (fun _ => rfl) rfl rfl rfl rfl rfl rfl (c_asked X25.hz X25.1 (kd := 1) (q := 2) X25.2.1 (by decide) rfl (-1) rfl) (fun r h' hq => ?_)
    obtain ⟨a26, rfl, hq⟩ := hq
    rcases hq with ⟨⟨i26, p26⟩, hx26, rfl, ho26⟩ | ⟨e26, hx26, ⟨v26, rfl, hv26⟩, hb26⟩
    · have K26 := ask_ok hx26
      dsimp only at K26 ho26
      have X26 := X25.nx ho26
      have L26 : p25 < p26 := by
        rw [show p26 = tE W p25 from K26.2.2.2.2.1]
        exact tok_lt X25.le.1 X25.1.1.1 (by omega) (by omega)
      have I26 := K26.2.2.1
      have J26 := (X25.2.1 1 (by decide)).1
      have G26 := G25.tr (ho26.1.gz (c := c0) X25.hz) (by omega)
      have R26 : a26 (z + 11) = a25 (z + 11) := ho26.1 _ (by omega)
      have Q26 := X26.le
      clear K26
      show Ev X _ _ 26 [Vr 114, Vi 276, Vx, Vx] [Vi ((i26 : Nat) : Int)] ((SHv st dr (z : Int)), (ovl a26 s b)) _
      refine Ev.steps (k := 13) (pc' := 108) (L' := [Vr 114, Vi 276, Vi ((i26 : Nat) : Int), Vi 0]) (S' := [Vi (i_or ((i26 : Nat) : Int) (i_shl 0 3)), Vi 276, Vr (z : Int)]) (h' := ((SHv st dr (z : Int)), (ovl a26 s b))) (fun _ => rfl) ?_
      rw [show (i_or ((i26 : Nat) : Int) (i_shl 0 3)) = ((i26 : Nat) : Int) from (f_or0 (by omega))]
      refine Ev.call (k := 0) (pc1 := 108) (L1 := [Vr 114, Vi 276, Vi ((i26 : Nat) : Int), Vi 0]) (S1 := [Vi ((i26 : Nat) : Int), Vi 276, Vr (z : Int)]) (h1 := ((SHv st dr (z : Int)), (ovl a26 s b))) (m' := 49) (as := [Vr (z : Int), Vi 276, Vi ((i26 : Nat) : Int)]) (S' := []) (L0 := [Vr (z : Int), Vi 276, Vi ((i26 : Nat) : Int)]) (fun _ => rfl) rfl rfl rfl rfl (stpC_of rfl (pm_recv_of (by omega) (shY_0 hz))) rfl (c_emitX (a := a26) X26 (by omega) 276 (i26) (by omega) (by omega)) (fun r h' hq => ?_)
      obtain ⟨rfl, hq⟩ := hq
      rcases hq with ⟨a27, rfl, X27, g27, E27⟩
      · have G27 := G26.tr g27 (by omega)
        have Q27 := X27.le
        show Ev X _ _ 111 [Vr 114, Vi 276, Vi ((i26 : Nat) : Int), Vi 0] [Vi ((c0 : Nat) : Int)] ((SHv st dr (z : Int)), (ovl a27 s b)) _
        refine Ev.fin (k := 2) (r := none) (h' := ((SHv st dr (z : Int)), (ovl a27 s b))) (fun _ => rfl) ?_
        refine ⟨rfl, _, rfl, ?_⟩
        unfold simT
        rw [hx25, bnX_o]
        rw [if_neg (by omega)]
        rw [hx26, bnX_o]
        try dsimp only
        rw [if_pos (Or.inl hlit)]
        exact Or.inl ⟨_, rfl, _, X27, G27, CoC.leaf (q := (tC W p0 - 269, 8 * i26)) (by show _ ≤ 9; (try dsimp only); omega) (by omega) (by dsimp only; rw [E27, encT_f (by omega) (by omega), show encV (tC W p0 - 269) (8 * i26) = i26 + 8 * 0 from encV_f (op := tC W p0 - 269) (i := i26) (o := 0) (by omega) (by omega) (by omega), hlit]; try omega), by dsimp only; omega⟩
    · have B26 := G25.bd X25 (by omega) hb26
      show Ev X _ _ 26 [Vr 114, Vi 276, Vx, Vx] [Vi v26] ((SHv st dr (z : Int)), (ovl a26 s b)) _
      refine Ev.call (k := 13) (pc1 := 108) (L1 := [Vr 114, Vi 276, Vi v26, Vi 0]) (S1 := [Vi (i_or v26 (i_shl 0 3)), Vi 276, Vr (z : Int)]) (h1 := ((SHv st dr (z : Int)), (ovl a26 s b))) (m' := 49) (as := [Vr (z : Int), Vi 276, Vi (i_or v26 (i_shl 0 3))]) (S' := []) (L0 := [Vr (z : Int), Vi 276, Vi (i_or v26 (i_shl 0 3))]) (fun _ => rfl) rfl rfl rfl rfl (stpC_of rfl (pm_recv_of (by omega) (shY_0 hz))) rfl (c_emit_br hz (B26).2.2.2 276 (i_or v26 (i_shl 0 3))) (fun r h' hq => ?_)
      obtain ⟨v28, a28, rfl, rfl, f1, f2, f3⟩ := hq
      have B28 := (B26).st hz f1 f2 f3
      show Ev X _ _ 111 [Vr 114, Vi 276, Vi v26, Vi 0] [Vi v28] ((SHv st dr (z : Int)), (ovl a28 s b)) _
      refine Ev.fin (k := 2) (r := none) (h' := ((SHv st dr (z : Int)), (ovl a28 s b))) (fun _ => rfl) ?_
      refine ⟨rfl, _, rfl, ?_⟩
      unfold simT
      rw [hx25, bnX_o]
      rw [if_neg (by omega)]
      rw [hx26, bnX_e]
      exact Or.inr ⟨_, rfl, B28⟩
  · have B25 := G0.bd X0 (by omega) hb25
    show Ev X _ _ 9 [Vr 114, Vi 276, Vx, Vx] [] ((SHv st dr (z : Int)), (ovl a25 s b)) _
    refine Ev.call (k := 6) (pc1 := 23) (L1 := [Vr 114, Vi 276, Vx, Vx]) (S1 := [Vi (-1), Vi 2, Vr 114]) (h1 := ((SHv st dr (z : Int)), (ovl a25 s b))) (m' := 38) (as := [Vr 114, Vi 2, Vi (-1)]) (S' := []) (L0 := [Vr 114, Vi 2, Vi (-1), Vx]) (fun _ => rfl) rfl rfl rfl rfl rfl rfl (c_asked_br B25.2.2.1 2 (-1)) (fun r h' hq => ?_)
    obtain ⟨rfl, rfl⟩ := hq
    show Ev X _ _ 26 [Vr 114, Vi 276, Vx, Vx] [Vi (-1)] ((SHv st dr (z : Int)), (ovl a25 s b)) _
    refine Ev.call (k := 13) (pc1 := 108) (L1 := [Vr 114, Vi 276, Vi (-1), Vi 0]) (S1 := [Vi (i_or (-1) (i_shl 0 3)), Vi 276, Vr (z : Int)]) (h1 := ((SHv st dr (z : Int)), (ovl a25 s b))) (m' := 49) (as := [Vr (z : Int), Vi 276, Vi (i_or (-1) (i_shl 0 3))]) (S' := []) (L0 := [Vr (z : Int), Vi 276, Vi (i_or (-1) (i_shl 0 3))]) (fun _ => rfl) rfl rfl rfl rfl (stpC_of rfl (pm_recv_of (by omega) (shY_0 hz))) rfl (c_emit_br hz (B25).2.2.2 276 (i_or (-1) (i_shl 0 3))) (fun r h' hq => ?_)
    obtain ⟨v29, a29, rfl, rfl, f1, f2, f3⟩ := hq
    have B29 := (B25).st hz f1 f2 f3
    show Ev X _ _ 111 [Vr 114, Vi 276, Vi (-1), Vi 0] [Vi v29] ((SHv st dr (z : Int)), (ovl a29 s b)) _
    refine Ev.fin (k := 2) (r := none) (h' := ((SHv st dr (z : Int)), (ovl a29 s b))) (fun _ => rfl) ?_
    refine ⟨rfl, _, rfl, ?_⟩
    unfold simT
    rw [hx25, bnX_e]
    exact Or.inr ⟨_, rfl, B29⟩
theorem c_sim_277 {X : List Int} {st dr : Int} {s b : C3} {W : TXT} {N : SC} {z : Nat} (hz : hyS z) {K : Nat} (d : Nat) (a0 : C3) (p0 c0 : Nat) (hd : 4 ≤ d) (X0 : XoC W N z p0 c0 K a0) (hc0 : c0 ≤ p0) (hlit : tC W p0 = 277) : Ev X d 55 0 [Vr 114, Vx, Vx, Vx] [] (SHv st dr (z : Int), ovl a0 s b) (PoX st dr s b W N z p0 c0 K a0 1 (simT W N p0)) := by
  have hz1 := z11 hz
  obtain ⟨d, rfl⟩ : ∃ d1, d = d1 + 4 := ⟨d - 4, by omega⟩
  have G0 : Gz z c0 a0 a0 := Gz.rf
  have Q0 := X0.le
  have hl0 : tC W p0 ≠ 302 → p0 < W.2 := fun h => Nat.lt_of_lt_of_le (tok_lt X0.le.1 X0.1.1.1 h X0.1.2.2.2.2.2.2.2.2.1) (tok_rg X0.le.1 X0.1.1.1).2
  refine Ev.steps (k := 2) (pc' := 4) (L' := [Vr 114, Vx, Vx, Vx]) (S' := [Vi (a0 114 5)]) (h' := ((SHv st dr (z : Int)), (ovl a0 s b))) (fun _ => rfl) ?_
  rw [(X0.t5.trans (show ((tC W p0 : Nat) : Int) = 277 by omega))]
  refine Ev.call (k := 2) (pc1 := 6) (L1 := [Vr 114, Vi 277, Vx, Vx]) (S1 := [Vr 114]) (h1 := ((SHv st dr (z : Int)), (ovl a0 s b))) (m' := 27) (as := [Vr 114]) (S' := []) (L0 := [Vr 114, Vx, Vx, Vx, Vx]) (fun _ => rfl) rfl rfl rfl rfl rfl rfl (c_next X0.1) (fun r h' hq => ?_)
  obtain ⟨rfl, a30, rfl, hq⟩ := hq
  rcases hq with ⟨p30, hx30, ho30⟩ | ⟨e30, hx30, hb30⟩
  · have X30 := X0.nx ho30
    have L30 : p0 < p30 := X0.lt (by omega) hx30
    have G30 := G0.tr (ho30.1.gz (c := c0) X0.hz) (by omega)
    have R30 : a30 (z + 11) = a0 (z + 11) := ho30.1 _ (by omega)
    have Q30 := X30.le
    show Ev X _ _ 9 [Vr 114, Vi 277, Vx, Vx] [] ((SHv st dr (z : Int)), (ovl a30 s b)) _
    refine Ev.call (k := 6) (pc1 := 23) (L1 := [Vr 114, Vi 277, Vx, Vx]) (S1 := [Vi (-1), Vi 2, Vr 114]) (h1 := ((SHv st dr (z : Int)), (ovl a30 s b))) (m' := 38) (as := [Vr 114, Vi 2, Vi (-1)]) (S' := []) (L0 := [Vr 114, Vi 2, Vi (-1), Vx]) (fun _ => rfl) rfl rfl rfl rfl rfl rfl (c_asked X30.hz X30.1 (kd := 1) (q := 2) X30.2.1 (by decide) rfl (-1) rfl) (fun r h' hq => ?_)
    obtain ⟨a31, rfl, hq⟩ := hq
    rcases hq with ⟨⟨i31, p31⟩, hx31, rfl, ho31⟩ | ⟨e31, hx31, ⟨v31, rfl, hv31⟩, hb31⟩
    · have K31 := ask_ok hx31
      dsimp only at K31 ho31
      have X31 := X30.nx ho31
      have L31 : p30 < p31 := by
        rw [show p31 = tE W p30 from K31.2.2.2.2.1]
        exact tok_lt X30.le.1 X30.1.1.1 (by omega) (by omega)
      have I31 := K31.2.2.1
      have J31 := (X30.2.1 1 (by decide)).1
      have G31 := G30.tr (ho31.1.gz (c := c0) X30.hz) (by omega)
      have R31 : a31 (z + 11) = a30 (z + 11) := ho31.1 _ (by omega)
      have Q31 := X31.le
      clear K31
      show Ev X _ _ 26 [Vr 114, Vi 277, Vx, Vx] [Vi ((i31 : Nat) : Int)] ((SHv st dr (z : Int)), (ovl a31 s b)) _
      refine Ev.steps (k := 13) (pc' := 108) (L' := [Vr 114, Vi 277, Vi ((i31 : Nat) : Int), Vi 0]) (S' := [Vi (i_or ((i31 : Nat) : Int) (i_shl 0 3)), Vi 277, Vr (z : Int)]) (h' := ((SHv st dr (z : Int)), (ovl a31 s b))) (fun _ => rfl) ?_
      rw [show (i_or ((i31 : Nat) : Int) (i_shl 0 3)) = ((i31 : Nat) : Int) from (f_or0 (by omega))]
      refine Ev.call (k := 0) (pc1 := 108) (L1 := [Vr 114, Vi 277, Vi ((i31 : Nat) : Int), Vi 0]) (S1 := [Vi ((i31 : Nat) : Int), Vi 277, Vr (z : Int)]) (h1 := ((SHv st dr (z : Int)), (ovl a31 s b))) (m' := 49) (as := [Vr (z : Int), Vi 277, Vi ((i31 : Nat) : Int)]) (S' := []) (L0 := [Vr (z : Int), Vi 277, Vi ((i31 : Nat) : Int)]) (fun _ => rfl) rfl rfl rfl rfl (stpC_of rfl (pm_recv_of (by omega) (shY_0 hz))) rfl (c_emitX (a := a31) X31 (by omega) 277 (i31) (by omega) (by omega)) (fun r h' hq => ?_)
      obtain ⟨rfl, hq⟩ := hq
      rcases hq with ⟨a32, rfl, X32, g32, E32⟩
      · have G32 := G31.tr g32 (by omega)
        have Q32 := X32.le
        show Ev X _ _ 111 [Vr 114, Vi 277, Vi ((i31 : Nat) : Int), Vi 0] [Vi ((c0 : Nat) : Int)] ((SHv st dr (z : Int)), (ovl a32 s b)) _
        refine Ev.fin (k := 2) (r := none) (h' := ((SHv st dr (z : Int)), (ovl a32 s b))) (fun _ => rfl) ?_
        refine ⟨rfl, _, rfl, ?_⟩
        unfold simT
        rw [hx30, bnX_o]
        rw [if_neg (by omega)]
        rw [hx31, bnX_o]
        try dsimp only
        rw [if_pos (Or.inr hlit)]
        exact Or.inl ⟨_, rfl, _, X32, G32, CoC.leaf (q := (tC W p0 - 269, 8 * i31)) (by show _ ≤ 9; (try dsimp only); omega) (by omega) (by dsimp only; rw [E32, encT_f (by omega) (by omega), show encV (tC W p0 - 269) (8 * i31) = i31 + 8 * 0 from encV_f (op := tC W p0 - 269) (i := i31) (o := 0) (by omega) (by omega) (by omega), hlit]; try omega), by dsimp only; omega⟩
    · have B31 := G30.bd X30 (by omega) hb31
      show Ev X _ _ 26 [Vr 114, Vi 277, Vx, Vx] [Vi v31] ((SHv st dr (z : Int)), (ovl a31 s b)) _
      refine Ev.call (k := 13) (pc1 := 108) (L1 := [Vr 114, Vi 277, Vi v31, Vi 0]) (S1 := [Vi (i_or v31 (i_shl 0 3)), Vi 277, Vr (z : Int)]) (h1 := ((SHv st dr (z : Int)), (ovl a31 s b))) (m' := 49) (as := [Vr (z : Int), Vi 277, Vi (i_or v31 (i_shl 0 3))]) (S' := []) (L0 := [Vr (z : Int), Vi 277, Vi (i_or v31 (i_shl 0 3))]) (fun _ => rfl) rfl rfl rfl rfl (stpC_of rfl (pm_recv_of (by omega) (shY_0 hz))) rfl (c_emit_br hz (B31).2.2.2 277 (i_or v31 (i_shl 0 3))) (fun r h' hq => ?_)
      obtain ⟨v33, a33, rfl, rfl, f1, f2, f3⟩ := hq
      have B33 := (B31).st hz f1 f2 f3
      show Ev X _ _ 111 [Vr 114, Vi 277, Vi v31, Vi 0] [Vi v33] ((SHv st dr (z : Int)), (ovl a33 s b)) _
      refine Ev.fin (k := 2) (r := none) (h' := ((SHv st dr (z : Int)), (ovl a33 s b))) (fun _ => rfl) ?_
      refine ⟨rfl, _, rfl, ?_⟩
      unfold simT
      rw [hx30, bnX_o]
      rw [if_neg (by omega)]
      rw [hx31, bnX_e]
      exact Or.inr ⟨_, rfl, B33⟩
  · have B30 := G0.bd X0 (by omega) hb30
    show Ev X _ _ 9 [Vr 114, Vi 277, Vx, Vx] [] ((SHv st dr (z : Int)), (ovl a30 s b)) _
    refine Ev.call (k := 6) (pc1 := 23) (L1 := [Vr 114, Vi 277, Vx, Vx]) (S1 := [Vi (-1), Vi 2, Vr 114]) (h1 := ((SHv st dr (z : Int)), (ovl a30 s b))) (m' := 38) (as := [Vr 114, Vi 2, Vi (-1)]) (S' := []) (L0 := [Vr 114, Vi 2, Vi (-1), Vx]) (fun _ => rfl) rfl rfl rfl rfl rfl rfl (c_asked_br B30.2.2.1 2 (-1)) (fun r h' hq => ?_)
    obtain ⟨rfl, rfl⟩ := hq
    show Ev X _ _ 26 [Vr 114, Vi 277, Vx, Vx] [Vi (-1)] ((SHv st dr (z : Int)), (ovl a30 s b)) _
    refine Ev.call (k := 13) (pc1 := 108) (L1 := [Vr 114, Vi 277, Vi (-1), Vi 0]) (S1 := [Vi (i_or (-1) (i_shl 0 3)), Vi 277, Vr (z : Int)]) (h1 := ((SHv st dr (z : Int)), (ovl a30 s b))) (m' := 49) (as := [Vr (z : Int), Vi 277, Vi (i_or (-1) (i_shl 0 3))]) (S' := []) (L0 := [Vr (z : Int), Vi 277, Vi (i_or (-1) (i_shl 0 3))]) (fun _ => rfl) rfl rfl rfl rfl (stpC_of rfl (pm_recv_of (by omega) (shY_0 hz))) rfl (c_emit_br hz (B30).2.2.2 277 (i_or (-1) (i_shl 0 3))) (fun r h' hq => ?_)
    obtain ⟨v34, a34, rfl, rfl, f1, f2, f3⟩ := hq
    have B34 := (B30).st hz f1 f2 f3
    show Ev X _ _ 111 [Vr 114, Vi 277, Vi (-1), Vi 0] [Vi v34] ((SHv st dr (z : Int)), (ovl a34 s b)) _
    refine Ev.fin (k := 2) (r := none) (h' := ((SHv st dr (z : Int)), (ovl a34 s b))) (fun _ => rfl) ?_
    refine ⟨rfl, _, rfl, ?_⟩
    unfold simT
    rw [hx30, bnX_e]
    exact Or.inr ⟨_, rfl, B34⟩
theorem c_sim_278 {X : List Int} {st dr : Int} {s b : C3} {W : TXT} {N : SC} {z : Nat} (hz : hyS z) {K : Nat} (d : Nat) (a0 : C3) (p0 c0 : Nat) (hd : 4 ≤ d) (X0 : XoC W N z p0 c0 K a0) (hc0 : c0 ≤ p0) (hlit : tC W p0 = 278) : Ev X d 55 0 [Vr 114, Vx, Vx, Vx] [] (SHv st dr (z : Int), ovl a0 s b) (PoX st dr s b W N z p0 c0 K a0 1 (simT W N p0)) := by
  have hz1 := z11 hz
  obtain ⟨d, rfl⟩ : ∃ d1, d = d1 + 4 := ⟨d - 4, by omega⟩
  have G0 : Gz z c0 a0 a0 := Gz.rf
  have Q0 := X0.le
  have hl0 : tC W p0 ≠ 302 → p0 < W.2 := fun h => Nat.lt_of_lt_of_le (tok_lt X0.le.1 X0.1.1.1 h X0.1.2.2.2.2.2.2.2.2.1) (tok_rg X0.le.1 X0.1.1.1).2
  refine Ev.steps (k := 2) (pc' := 4) (L' := [Vr 114, Vx, Vx, Vx]) (S' := [Vi (a0 114 5)]) (h' := ((SHv st dr (z : Int)), (ovl a0 s b))) (fun _ => rfl) ?_
  rw [(X0.t5.trans (show ((tC W p0 : Nat) : Int) = 278 by omega))]
  refine Ev.call (k := 2) (pc1 := 6) (L1 := [Vr 114, Vi 278, Vx, Vx]) (S1 := [Vr 114]) (h1 := ((SHv st dr (z : Int)), (ovl a0 s b))) (m' := 27) (as := [Vr 114]) (S' := []) (L0 := [Vr 114, Vx, Vx, Vx, Vx]) (fun _ => rfl) rfl rfl rfl rfl rfl rfl (c_next X0.1) (fun r h' hq => ?_)
  obtain ⟨rfl, a35, rfl, hq⟩ := hq
  rcases hq with ⟨p35, hx35, ho35⟩ | ⟨e35, hx35, hb35⟩
  · have X35 := X0.nx ho35
    have L35 : p0 < p35 := X0.lt (by omega) hx35
    have G35 := G0.tr (ho35.1.gz (c := c0) X0.hz) (by omega)
    have R35 : a35 (z + 11) = a0 (z + 11) := ho35.1 _ (by omega)
    have Q35 := X35.le
    show Ev X _ _ 9 [Vr 114, Vi 278, Vx, Vx] [] ((SHv st dr (z : Int)), (ovl a35 s b)) _
    refine Ev.call (k := 6) (pc1 := 23) (L1 := [Vr 114, Vi 278, Vx, Vx]) (S1 := [Vi (-1), Vi 2, Vr 114]) (h1 := ((SHv st dr (z : Int)), (ovl a35 s b))) (m' := 38) (as := [Vr 114, Vi 2, Vi (-1)]) (S' := []) (L0 := [Vr 114, Vi 2, Vi (-1), Vx]) (fun _ => rfl) rfl rfl rfl rfl rfl rfl (c_asked X35.hz X35.1 (kd := 1) (q := 2) X35.2.1 (by decide) rfl (-1) rfl) (fun r h' hq => ?_)
    obtain ⟨a36, rfl, hq⟩ := hq
    rcases hq with ⟨⟨i36, p36⟩, hx36, rfl, ho36⟩ | ⟨e36, hx36, ⟨v36, rfl, hv36⟩, hb36⟩
    · have K36 := ask_ok hx36
      dsimp only at K36 ho36
      have X36 := X35.nx ho36
      have L36 : p35 < p36 := by
        rw [show p36 = tE W p35 from K36.2.2.2.2.1]
        exact tok_lt X35.le.1 X35.1.1.1 (by omega) (by omega)
      have I36 := K36.2.2.1
      have J36 := (X35.2.1 1 (by decide)).1
      have G36 := G35.tr (ho36.1.gz (c := c0) X35.hz) (by omega)
      have R36 : a36 (z + 11) = a35 (z + 11) := ho36.1 _ (by omega)
      have Q36 := X36.le
      clear K36
      show Ev X _ _ 26 [Vr 114, Vi 278, Vx, Vx] [Vi ((i36 : Nat) : Int)] ((SHv st dr (z : Int)), (ovl a36 s b)) _
      refine Ev.call (k := 8) (pc1 := 91) (L1 := [Vr 114, Vi 278, Vi ((i36 : Nat) : Int), Vi 0]) (S1 := [Vi ((i36 : Nat) : Int), Vi 2, Vr 114]) (h1 := ((SHv st dr (z : Int)), (ovl a36 s b))) (m' := 38) (as := [Vr 114, Vi 2, Vi ((i36 : Nat) : Int)]) (S' := []) (L0 := [Vr 114, Vi 2, Vi ((i36 : Nat) : Int), Vx]) (fun _ => rfl) rfl rfl rfl rfl rfl rfl (c_asked X36.hz X36.1 (kd := 1) (q := 2) X36.2.1 (by decide) rfl ((i36 : Nat) : Int) rfl) (fun r h' hq => ?_)
      obtain ⟨a37, rfl, hq⟩ := hq
      rcases hq with ⟨⟨i37, p37⟩, hx37, rfl, ho37⟩ | ⟨e37, hx37, ⟨v37, rfl, hv37⟩, hb37⟩
      · have K37 := ask_ok hx37
        dsimp only at K37 ho37
        have X37 := X36.nx ho37
        have L37 : p36 < p37 := by
          rw [show p37 = tE W p36 from K37.2.2.2.2.1]
          exact tok_lt X36.le.1 X36.1.1.1 (by omega) (by omega)
        have I37 := K37.2.2.1
        have J37 := (X36.2.1 1 (by decide)).1
        have G37 := G36.tr (ho37.1.gz (c := c0) X36.hz) (by omega)
        have R37 : a37 (z + 11) = a36 (z + 11) := ho37.1 _ (by omega)
        have Q37 := X37.le
        clear K37
        show Ev X _ _ 94 [Vr 114, Vi 278, Vi ((i36 : Nat) : Int), Vi 0] [Vi ((i37 : Nat) : Int)] ((SHv st dr (z : Int)), (ovl a37 s b)) _
        refine Ev.steps (k := 10) (pc' := 108) (L' := [Vr 114, Vi 278, Vi ((i36 : Nat) : Int), Vi ((i37 : Nat) : Int)]) (S' := [Vi (i_or ((i36 : Nat) : Int) (i_shl ((i37 : Nat) : Int) 3)), Vi 278, Vr (z : Int)]) (h' := ((SHv st dr (z : Int)), (ovl a37 s b))) (fun _ => rfl) ?_
        rw [show (i_or ((i36 : Nat) : Int) (i_shl ((i37 : Nat) : Int) 3)) = (((i36) + 8 * (i37) : Nat) : Int) from (f_or (by omega) (by omega))]
        refine Ev.call (k := 0) (pc1 := 108) (L1 := [Vr 114, Vi 278, Vi ((i36 : Nat) : Int), Vi ((i37 : Nat) : Int)]) (S1 := [Vi (((i36) + 8 * (i37) : Nat) : Int), Vi 278, Vr (z : Int)]) (h1 := ((SHv st dr (z : Int)), (ovl a37 s b))) (m' := 49) (as := [Vr (z : Int), Vi 278, Vi (((i36) + 8 * (i37) : Nat) : Int)]) (S' := []) (L0 := [Vr (z : Int), Vi 278, Vi (((i36) + 8 * (i37) : Nat) : Int)]) (fun _ => rfl) rfl rfl rfl rfl (stpC_of rfl (pm_recv_of (by omega) (shY_0 hz))) rfl (c_emitX (a := a37) X37 (by omega) 278 ((i36) + 8 * (i37)) (by omega) (by omega)) (fun r h' hq => ?_)
        obtain ⟨rfl, hq⟩ := hq
        rcases hq with ⟨a38, rfl, X38, g38, E38⟩
        · have G38 := G37.tr g38 (by omega)
          have Q38 := X38.le
          show Ev X _ _ 111 [Vr 114, Vi 278, Vi ((i36 : Nat) : Int), Vi ((i37 : Nat) : Int)] [Vi ((c0 : Nat) : Int)] ((SHv st dr (z : Int)), (ovl a38 s b)) _
          refine Ev.fin (k := 2) (r := none) (h' := ((SHv st dr (z : Int)), (ovl a38 s b))) (fun _ => rfl) ?_
          refine ⟨rfl, _, rfl, ?_⟩
          unfold simT
          rw [hx35, bnX_o]
          rw [if_neg (by omega)]
          rw [hx36, bnX_o]
          try dsimp only
          rw [if_neg (by omega)]
          rw [show kdF (tC W p0) = 1 by rw [hlit]; rfl, show buF (tC W p0) i36 = ((i36 : Nat) : Int) by rw [hlit]; rfl, hx37, bnX_o]
          exact Or.inl ⟨_, rfl, _, X38, G38, CoC.leaf (q := (tC W p0 - 269, 8 * i36 + i37)) (by show _ ≤ 9; (try dsimp only); omega) (by omega) (by dsimp only; rw [E38, encT_f (by omega) (by omega), show encV (tC W p0 - 269) (8 * i36 + i37) = i36 + 8 * i37 from encV_f (op := tC W p0 - 269) (i := i36) (o := i37) (by omega) (by omega) (by omega), hlit]; try omega), by dsimp only; omega⟩
      · have B37 := G36.bd X36 (by omega) hb37
        show Ev X _ _ 94 [Vr 114, Vi 278, Vi ((i36 : Nat) : Int), Vi 0] [Vi v37] ((SHv st dr (z : Int)), (ovl a37 s b)) _
        refine Ev.call (k := 10) (pc1 := 108) (L1 := [Vr 114, Vi 278, Vi ((i36 : Nat) : Int), Vi v37]) (S1 := [Vi (i_or ((i36 : Nat) : Int) (i_shl v37 3)), Vi 278, Vr (z : Int)]) (h1 := ((SHv st dr (z : Int)), (ovl a37 s b))) (m' := 49) (as := [Vr (z : Int), Vi 278, Vi (i_or ((i36 : Nat) : Int) (i_shl v37 3))]) (S' := []) (L0 := [Vr (z : Int), Vi 278, Vi (i_or ((i36 : Nat) : Int) (i_shl v37 3))]) (fun _ => rfl) rfl rfl rfl rfl (stpC_of rfl (pm_recv_of (by omega) (shY_0 hz))) rfl (c_emit_br hz (B37).2.2.2 278 (i_or ((i36 : Nat) : Int) (i_shl v37 3))) (fun r h' hq => ?_)
        obtain ⟨v39, a39, rfl, rfl, f1, f2, f3⟩ := hq
        have B39 := (B37).st hz f1 f2 f3
        show Ev X _ _ 111 [Vr 114, Vi 278, Vi ((i36 : Nat) : Int), Vi v37] [Vi v39] ((SHv st dr (z : Int)), (ovl a39 s b)) _
        refine Ev.fin (k := 2) (r := none) (h' := ((SHv st dr (z : Int)), (ovl a39 s b))) (fun _ => rfl) ?_
        refine ⟨rfl, _, rfl, ?_⟩
        unfold simT
        rw [hx35, bnX_o]
        rw [if_neg (by omega)]
        rw [hx36, bnX_o]
        try dsimp only
        rw [if_neg (by omega)]
        rw [show kdF (tC W p0) = 1 by rw [hlit]; rfl, show buF (tC W p0) i36 = ((i36 : Nat) : Int) by rw [hlit]; rfl, hx37, bnX_e]
        exact Or.inr ⟨_, rfl, B39⟩
    · have B36 := G35.bd X35 (by omega) hb36
      show Ev X _ _ 26 [Vr 114, Vi 278, Vx, Vx] [Vi v36] ((SHv st dr (z : Int)), (ovl a36 s b)) _
      refine Ev.call (k := 8) (pc1 := 91) (L1 := [Vr 114, Vi 278, Vi v36, Vi 0]) (S1 := [Vi v36, Vi 2, Vr 114]) (h1 := ((SHv st dr (z : Int)), (ovl a36 s b))) (m' := 38) (as := [Vr 114, Vi 2, Vi v36]) (S' := []) (L0 := [Vr 114, Vi 2, Vi v36, Vx]) (fun _ => rfl) rfl rfl rfl rfl rfl rfl (c_asked_br B36.2.2.1 2 v36) (fun r h' hq => ?_)
      obtain ⟨rfl, rfl⟩ := hq
      show Ev X _ _ 94 [Vr 114, Vi 278, Vi v36, Vi 0] [Vi (-1)] ((SHv st dr (z : Int)), (ovl a36 s b)) _
      refine Ev.call (k := 10) (pc1 := 108) (L1 := [Vr 114, Vi 278, Vi v36, Vi (-1)]) (S1 := [Vi (i_or v36 (i_shl (-1) 3)), Vi 278, Vr (z : Int)]) (h1 := ((SHv st dr (z : Int)), (ovl a36 s b))) (m' := 49) (as := [Vr (z : Int), Vi 278, Vi (i_or v36 (i_shl (-1) 3))]) (S' := []) (L0 := [Vr (z : Int), Vi 278, Vi (i_or v36 (i_shl (-1) 3))]) (fun _ => rfl) rfl rfl rfl rfl (stpC_of rfl (pm_recv_of (by omega) (shY_0 hz))) rfl (c_emit_br hz (B36).2.2.2 278 (i_or v36 (i_shl (-1) 3))) (fun r h' hq => ?_)
      obtain ⟨v40, a40, rfl, rfl, f1, f2, f3⟩ := hq
      have B40 := (B36).st hz f1 f2 f3
      show Ev X _ _ 111 [Vr 114, Vi 278, Vi v36, Vi (-1)] [Vi v40] ((SHv st dr (z : Int)), (ovl a40 s b)) _
      refine Ev.fin (k := 2) (r := none) (h' := ((SHv st dr (z : Int)), (ovl a40 s b))) (fun _ => rfl) ?_
      refine ⟨rfl, _, rfl, ?_⟩
      unfold simT
      rw [hx35, bnX_o]
      rw [if_neg (by omega)]
      rw [hx36, bnX_e]
      exact Or.inr ⟨_, rfl, B40⟩
  · have B35 := G0.bd X0 (by omega) hb35
    show Ev X _ _ 9 [Vr 114, Vi 278, Vx, Vx] [] ((SHv st dr (z : Int)), (ovl a35 s b)) _
    refine Ev.call (k := 6) (pc1 := 23) (L1 := [Vr 114, Vi 278, Vx, Vx]) (S1 := [Vi (-1), Vi 2, Vr 114]) (h1 := ((SHv st dr (z : Int)), (ovl a35 s b))) (m' := 38) (as := [Vr 114, Vi 2, Vi (-1)]) (S' := []) (L0 := [Vr 114, Vi 2, Vi (-1), Vx]) (fun _ => rfl) rfl rfl rfl rfl rfl rfl (c_asked_br B35.2.2.1 2 (-1)) (fun r h' hq => ?_)
    obtain ⟨rfl, rfl⟩ := hq
    show Ev X _ _ 26 [Vr 114, Vi 278, Vx, Vx] [Vi (-1)] ((SHv st dr (z : Int)), (ovl a35 s b)) _
    refine Ev.call (k := 8) (pc1 := 91) (L1 := [Vr 114, Vi 278, Vi (-1), Vi 0]) (S1 := [Vi (-1), Vi 2, Vr 114]) (h1 := ((SHv st dr (z : Int)), (ovl a35 s b))) (m' := 38) (as := [Vr 114, Vi 2, Vi (-1)]) (S' := []) (L0 := [Vr 114, Vi 2, Vi (-1), Vx]) (fun _ => rfl) rfl rfl rfl rfl rfl rfl (c_asked_br B35.2.2.1 2 (-1)) (fun r h' hq => ?_)
    obtain ⟨rfl, rfl⟩ := hq
    show Ev X _ _ 94 [Vr 114, Vi 278, Vi (-1), Vi 0] [Vi (-1)] ((SHv st dr (z : Int)), (ovl a35 s b)) _
    refine Ev.call (k := 10) (pc1 := 108) (L1 := [Vr 114, Vi 278, Vi (-1), Vi (-1)]) (S1 := [Vi (i_or (-1) (i_shl (-1) 3)), Vi 278, Vr (z : Int)]) (h1 := ((SHv st dr (z : Int)), (ovl a35 s b))) (m' := 49) (as := [Vr (z : Int), Vi 278, Vi (i_or (-1) (i_shl (-1) 3))]) (S' := []) (L0 := [Vr (z : Int), Vi 278, Vi (i_or (-1) (i_shl (-1) 3))]) (fun _ => rfl) rfl rfl rfl rfl (stpC_of rfl (pm_recv_of (by omega) (shY_0 hz))) rfl (c_emit_br hz (B35).2.2.2 278 (i_or (-1) (i_shl (-1) 3))) (fun r h' hq => ?_)
    obtain ⟨v41, a41, rfl, rfl, f1, f2, f3⟩ := hq
    have B41 := (B35).st hz f1 f2 f3
    show Ev X _ _ 111 [Vr 114, Vi 278, Vi (-1), Vi (-1)] [Vi v41] ((SHv st dr (z : Int)), (ovl a41 s b)) _
    refine Ev.fin (k := 2) (r := none) (h' := ((SHv st dr (z : Int)), (ovl a41 s b))) (fun _ => rfl) ?_
    refine ⟨rfl, _, rfl, ?_⟩
    unfold simT
    rw [hx35, bnX_e]
    exact Or.inr ⟨_, rfl, B41⟩
