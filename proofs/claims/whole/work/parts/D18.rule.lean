/-! THE CLASS READS: claims, rules, doors -/
theorem c_claimed {X : List Int} {st dr : Int} {s b : C3} {W : TXT} {S : STY} {z : Nat} (hz : hyS z) {n : Nat} (d : Nat) (a0 : C3) (p0 c0 : Nat) (hd : 6 ≤ d) (X0 : XoC W S.1 z p0 c0 8 a0) (P0 : PaC S a0 z c0) (hl : nL S ≤ 30) (hc0 : c0 ≤ p0) (ht : tC W p0 ≠ 302) (hn0 : S.1 0 5 = (n : Int)) (h8 : n < 12) : Ev X d 43 0 [Vr 114, Vr ((z + 44 + n : Nat) : Int)] [] (SHv st dr (z : Int), ovl a0 s b) (PoB st dr s b W S z 5 n a0 (sayT W S p0)) := by
  have hz1 := z11 hz
  have hz0 : z = 2 ∨ z = 58 := hz
  obtain ⟨d, rfl⟩ : ∃ d1, d = d1 + 6 := ⟨d - 6, by omega⟩
  have Q0 := X0.le
  have hn : nC S = n := by show (S.1 0 5).toNat = n; rw [hn0]; omega
  have G0 : Gq z (z + 44 + n) (z + 44 + n) c0 a0 a0 := ⟨by omega, by omega, fun _ _ _ _ _ _ => rfl, fun _ _ => rfl⟩
  refine Ev.call (k := 1) (pc1 := 1) (L1 := [Vr 114, Vr ((z + 44 + n : Nat) : Int)]) (S1 := [Vr 114]) (h1 := ((SHv st dr (z : Int)), (ovl a0 s b))) (m' := 27) (as := [Vr 114]) (S' := []) (L0 := [Vr 114, Vx, Vx, Vx, Vx]) (fun _ => rfl) rfl rfl rfl rfl rfl rfl (c_next X0.1) (fun r h' hq => ?_)
  obtain ⟨rfl, a1, rfl, hq⟩ := hq
  rcases hq with ⟨p1, hx1, ho1⟩ | ⟨e1, hx1, hb1⟩
  · have X1 := X0.nx ho1
    have L1 : p0 < p1 := X0.lt (by omega) hx1
    have G1 := G0.tr (ho1.1.gz (c := c0) X0.hz) (by omega)
    have R1 : a1 (z + 11) = a0 (z + 11) := ho1.1 _ (by omega)
    have Q1 := X1.le
    show Ev X _ _ 4 [Vr 114, Vr ((z + 44 + n : Nat) : Int)] [] ((SHv st dr (z : Int)), (ovl a1 s b)) _
    refine Ev.call (k := 4) (pc1 := 8) (L1 := [Vr 114, Vr ((z + 44 + n : Nat) : Int)]) (S1 := [Vi (-1), Vi 2, Vr 114, Vr ((z + 44 + n : Nat) : Int)]) (h1 := ((SHv st dr (z : Int)), (ovl a1 s b))) (m' := 38) (as := [Vr 114, Vi 2, Vi (-1)]) (S' := [Vr ((z + 44 + n : Nat) : Int)]) (L0 := [Vr 114, Vi 2, Vi (-1), Vx]) (fun _ => rfl) rfl rfl rfl rfl rfl rfl (c_asked X1.hz X1.1 (kd := 1) (q := 2) X1.2.1 (by decide) rfl (-1) rfl) (fun r h' hq => ?_)
    obtain ⟨a2, rfl, hq⟩ := hq
    rcases hq with ⟨⟨i2, p2⟩, hx2, rfl, ho2⟩ | ⟨e2, hx2, ⟨v2, rfl, hv2⟩, hb2⟩
    · have K2 := ask_ok hx2
      dsimp only at K2 ho2
      have X2 := X1.nx ho2
      have L2 : p1 < p2 := by
        rw [show p2 = tE W p1 from K2.2.2.2.2.1]
        exact tok_lt X1.le.1 X1.1.1.1 (by omega) (by omega)
      have I2 := K2.2.2.1
      have J2 := (X1.2.1 1 (by decide)).1
      have G2 := G1.tr (ho2.1.gz (c := c0) X1.hz) (by omega)
      have R2 : a2 (z + 11) = a1 (z + 11) := ho2.1 _ (by omega)
      have Q2 := X2.le
      clear K2
      show Ev X _ _ 11 [Vr 114, Vr ((z + 44 + n : Nat) : Int)] [Vi ((i2 : Nat) : Int), Vr ((z + 44 + n : Nat) : Int)] ((SHv st dr (z : Int)), (ovl a2 s b)) _
      refine Ev.putf (c' := (ovl (updC a2 (z + 44 + n) 0 ((i2 : Nat) : Int)) s b)) rfl (by omega) (shCl hz (by omega)) rfl rfl (ovl_wc (by omega)) ?_
      obtain ⟨a3, ha3⟩ : ∃ x : C3, x = (updC a2 (z + 44 + n) 0 ((i2 : Nat) : Int)) := ⟨_, rfl⟩
      rw [← ha3]
      have X3 := (X2.up (o := (z + 44 + n)) (i := 0) (v := ((i2 : Nat) : Int)) (by omega))
      have G3 := (G2.up (o := (z + 44 + n)) (i := 0) (v := ((i2 : Nat) : Int)) (by omega))
      rw [← ha3] at X3 G3
      have Q3 := X3.le
      have F3_0 : a3 (z + 44 + n) 0 = ((i2 : Nat) : Int) := by
        rw [ha3]
        exact updC_sm
      refine Ev.call (k := 4) (pc1 := 18) (L1 := [Vr 114, Vr ((z + 44 + n : Nat) : Int)]) (S1 := [Vi (-1), Vi 0, Vr 114, Vr ((z + 44 + n : Nat) : Int)]) (h1 := ((SHv st dr (z : Int)), (ovl a3 s b))) (m' := 38) (as := [Vr 114, Vi 0, Vi (-1)]) (S' := [Vr ((z + 44 + n : Nat) : Int)]) (L0 := [Vr 114, Vi 0, Vi (-1), Vx]) (fun _ => rfl) rfl rfl rfl rfl rfl rfl (c_asked X3.hz X3.1 (kd := 0) (q := 0) X3.2.1 (by decide) rfl (-1) rfl) (fun r h' hq => ?_)
      obtain ⟨a4, rfl, hq⟩ := hq
      rcases hq with ⟨⟨i4, p4⟩, hx4, rfl, ho4⟩ | ⟨e4, hx4, ⟨v4, rfl, hv4⟩, hb4⟩
      · have K4 := ask_ok hx4
        dsimp only at K4 ho4
        have X4 := X3.nx ho4
        have L4 : p2 < p4 := by
          rw [show p4 = tE W p2 from K4.2.2.2.2.1]
          exact tok_lt X3.le.1 X3.1.1.1 (by omega) (by omega)
        have I4 := K4.2.2.1
        have J4 := (X3.2.1 0 (by decide)).1
        have G4 := G3.tr (ho4.1.gz (c := c0) X3.hz) (by omega)
        have R4 : a4 (z + 11) = a3 (z + 11) := ho4.1 _ (by omega)
        have Q4 := X4.le
        clear K4
        have F4_0 : a4 (z + 44 + n) 0 = ((i2 : Nat) : Int) := (congrFun (ho4.1 _ (by omega)) 0).trans F3_0
        show Ev X _ _ 21 [Vr 114, Vr ((z + 44 + n : Nat) : Int)] [Vi ((i4 : Nat) : Int), Vr ((z + 44 + n : Nat) : Int)] ((SHv st dr (z : Int)), (ovl a4 s b)) _
        refine Ev.putf (c' := (ovl (updC a4 (z + 44 + n) 1 ((i4 : Nat) : Int)) s b)) rfl (by omega) (shCl hz (by omega)) rfl rfl (ovl_wc (by omega)) ?_
        obtain ⟨a5, ha5⟩ : ∃ x : C3, x = (updC a4 (z + 44 + n) 1 ((i4 : Nat) : Int)) := ⟨_, rfl⟩
        rw [← ha5]
        have X5 := (X4.up (o := (z + 44 + n)) (i := 1) (v := ((i4 : Nat) : Int)) (by omega))
        have G5 := (G4.up (o := (z + 44 + n)) (i := 1) (v := ((i4 : Nat) : Int)) (by omega))
        rw [← ha5] at X5 G5
        have Q5 := X5.le
        have F5_0 : a5 (z + 44 + n) 0 = ((i2 : Nat) : Int) := by
          rw [ha5]
          exact (updC_nt (by omega)).trans <| F4_0
        have F5_1 : a5 (z + 44 + n) 1 = ((i4 : Nat) : Int) := by
          rw [ha5]
          exact updC_sm
        refine Ev.call (k := 3) (pc1 := 27) (L1 := [Vr 114, Vr ((z + 44 + n : Nat) : Int)]) (S1 := [Vi 0, Vr 114, Vr ((z + 44 + n : Nat) : Int)]) (h1 := ((SHv st dr (z : Int)), (ovl a5 s b))) (m' := 44) (as := [Vr 114, Vi 0]) (S' := [Vr ((z + 44 + n : Nat) : Int)]) (L0 := [Vr 114, Vi 0, Vx]) (fun _ => rfl) rfl rfl rfl rfl rfl rfl (c_minuteFrom X5.1 0) (fun r h' hq => ?_)
        obtain ⟨a6, rfl, hq⟩ := hq
        rcases hq with ⟨⟨i6, p6⟩, hx6, rfl, ho6⟩ | ⟨e6, hx6, ⟨v6, rfl, hv6⟩, hb6⟩
        · have K6 := num_ok hx6
          dsimp only at K6 ho6
          have X6 := X5.nx ho6
          have L6 : p4 < p6 := by
            rw [K6.2.2.2.2.1]
            exact tok_lt X5.le.1 X5.1.1.1 (by omega) (by omega)
          have G6 := G5.tr (ho6.1.gz (c := c0) X5.hz) (by omega)
          have R6 : a6 (z + 11) = a5 (z + 11) := ho6.1 _ (by omega)
          have Q6 := X6.le
          clear K6
          have F6_0 : a6 (z + 44 + n) 0 = ((i2 : Nat) : Int) := (congrFun (ho6.1 _ (by omega)) 0).trans F5_0
          have F6_1 : a6 (z + 44 + n) 1 = ((i4 : Nat) : Int) := (congrFun (ho6.1 _ (by omega)) 1).trans F5_1
          show Ev X _ _ 30 [Vr 114, Vr ((z + 44 + n : Nat) : Int)] [Vi ((i6 : Nat) : Int), Vr ((z + 44 + n : Nat) : Int)] ((SHv st dr (z : Int)), (ovl a6 s b)) _
          refine Ev.putf (c' := (ovl (updC a6 (z + 44 + n) 2 ((i6 : Nat) : Int)) s b)) rfl (by omega) (shCl hz (by omega)) rfl rfl (ovl_wc (by omega)) ?_
          refine Ev.steps (k := 3) (pc' := 36) (L' := [Vr 114, Vr ((z + 44 + n : Nat) : Int)]) (S' := [Vr ((z + 44 + n : Nat) : Int), Vr 114, Vr ((z + 44 + n : Nat) : Int)]) (h' := ((SHv st dr (z : Int)), (ovl (updC a6 (z + 44 + n) 2 ((i6 : Nat) : Int)) s b))) (fun _ => rfl) ?_
          refine Ev.getf (v := ((i6 : Nat) : Int)) rfl rfl (by omega) (shCl hz (by omega)) rfl rfl ((ovl_rc (by omega)).trans (by show (updC a6 (z + 44 + n) 2 ((i6 : Nat) : Int)) (z + 44 + n) 2 = _; rw [updC_sm])) ?_
          obtain ⟨a7, ha7⟩ : ∃ x : C3, x = (updC a6 (z + 44 + n) 2 ((i6 : Nat) : Int)) := ⟨_, rfl⟩
          rw [← ha7]
          have X7 := (X6.up (o := (z + 44 + n)) (i := 2) (v := ((i6 : Nat) : Int)) (by omega))
          have G7 := (G6.up (o := (z + 44 + n)) (i := 2) (v := ((i6 : Nat) : Int)) (by omega))
          rw [← ha7] at X7 G7
          have Q7 := X7.le
          have F7_0 : a7 (z + 44 + n) 0 = ((i2 : Nat) : Int) := by
            rw [ha7]
            exact (updC_nt (by omega)).trans <| F6_0
          have F7_1 : a7 (z + 44 + n) 1 = ((i4 : Nat) : Int) := by
            rw [ha7]
            exact (updC_nt (by omega)).trans <| F6_1
          have F7_2 : a7 (z + 44 + n) 2 = ((i6 : Nat) : Int) := by
            rw [ha7]
            exact updC_sm
          refine Ev.call (k := 0) (pc1 := 39) (L1 := [Vr 114, Vr ((z + 44 + n : Nat) : Int)]) (S1 := [Vi ((i6 : Nat) : Int), Vr 114, Vr ((z + 44 + n : Nat) : Int)]) (h1 := ((SHv st dr (z : Int)), (ovl a7 s b))) (m' := 44) (as := [Vr 114, Vi ((i6 : Nat) : Int)]) (S' := [Vr ((z + 44 + n : Nat) : Int)]) (L0 := [Vr 114, Vi ((i6 : Nat) : Int), Vx]) (fun _ => rfl) rfl rfl rfl rfl rfl rfl (c_minuteFrom X7.1 (i6)) (fun r h' hq => ?_)
          obtain ⟨a8, rfl, hq⟩ := hq
          rcases hq with ⟨⟨i8, p8⟩, hx8, rfl, ho8⟩ | ⟨e8, hx8, ⟨v8, rfl, hv8⟩, hb8⟩
          · have K8 := num_ok hx8
            dsimp only at K8 ho8
            have X8 := X7.nx ho8
            have L8 : p6 < p8 := by
              rw [K8.2.2.2.2.1]
              exact tok_lt X7.le.1 X7.1.1.1 (by omega) (by omega)
            have G8 := G7.tr (ho8.1.gz (c := c0) X7.hz) (by omega)
            have R8 : a8 (z + 11) = a7 (z + 11) := ho8.1 _ (by omega)
            have Q8 := X8.le
            clear K8
            have F8_0 : a8 (z + 44 + n) 0 = ((i2 : Nat) : Int) := (congrFun (ho8.1 _ (by omega)) 0).trans F7_0
            have F8_1 : a8 (z + 44 + n) 1 = ((i4 : Nat) : Int) := (congrFun (ho8.1 _ (by omega)) 1).trans F7_1
            have F8_2 : a8 (z + 44 + n) 2 = ((i6 : Nat) : Int) := (congrFun (ho8.1 _ (by omega)) 2).trans F7_2
            show Ev X _ _ 42 [Vr 114, Vr ((z + 44 + n : Nat) : Int)] [Vi ((i8 : Nat) : Int), Vr ((z + 44 + n : Nat) : Int)] ((SHv st dr (z : Int)), (ovl a8 s b)) _
            refine Ev.putf (c' := (ovl (updC a8 (z + 44 + n) 3 ((i8 : Nat) : Int)) s b)) rfl (by omega) (shCl hz (by omega)) rfl rfl (ovl_wc (by omega)) ?_
            refine Ev.fin (k := 1) (r := none) (h' := ((SHv st dr (z : Int)), (ovl (updC a8 (z + 44 + n) 3 ((i8 : Nat) : Int)) s b))) (fun _ => rfl) ?_
            obtain ⟨a9, ha9⟩ : ∃ x : C3, x = (updC a8 (z + 44 + n) 3 ((i8 : Nat) : Int)) := ⟨_, rfl⟩
            rw [← ha9]
            have X9 := (X8.up (o := (z + 44 + n)) (i := 3) (v := ((i8 : Nat) : Int)) (by omega))
            have G9 := (G8.up (o := (z + 44 + n)) (i := 3) (v := ((i8 : Nat) : Int)) (by omega))
            rw [← ha9] at X9 G9
            have Q9 := X9.le
            have F9_0 : a9 (z + 44 + n) 0 = ((i2 : Nat) : Int) := by
              rw [ha9]
              exact (updC_nt (by omega)).trans <| F8_0
            have F9_1 : a9 (z + 44 + n) 1 = ((i4 : Nat) : Int) := by
              rw [ha9]
              exact (updC_nt (by omega)).trans <| F8_1
            have F9_2 : a9 (z + 44 + n) 2 = ((i6 : Nat) : Int) := by
              rw [ha9]
              exact (updC_nt (by omega)).trans <| F8_2
            have F9_3 : a9 (z + 44 + n) 3 = ((i8 : Nat) : Int) := by
              rw [ha9]
              exact updC_sm
            refine ⟨rfl, _, rfl, ?_⟩
            unfold sayT
            rw [hx1, bnX_o, hx2, bnX_o, hx4, bnX_o, hx6, bnX_o, hx8, bnX_o]
            refine Or.inl ⟨_, rfl, c0, X9, by dsimp only; omega, G9.fs, fun a2 h1 h2 => ?_⟩
            dsimp only
            rw [hn]
            have hq := h1 (z + 44 + n) (by omega) (by omega) (by omega)
            refine P0.says hn0 h8 hl (fun o o1 o2 o3 o4 o5 => (h1 o o1 o2 o3).trans (G9.2.2.1 o (by omega) (by omega) o4 o5 o5)) (fun j hj => (congrFun (h1 (z + 11) (by omega) (by omega) (by omega)) j).trans (G9.2.2.2 j hj)) (fun i => ?_) ?_ ?_ ?_ ?_
            · rw [h2, congrFun (G9.2.2.1 (z + 1) (by omega) (by omega) (by omega) (by omega) (by omega)) i]
            · rw [hq]; exact F9_0
            · rw [hq]; exact F9_1
            · rw [hq]; exact F9_2
            · rw [hq]; exact F9_3
          · have B8 := G7.bd X7 (by omega) hb8
            show Ev X _ _ 42 [Vr 114, Vr ((z + 44 + n : Nat) : Int)] [Vi v8, Vr ((z + 44 + n : Nat) : Int)] ((SHv st dr (z : Int)), (ovl a8 s b)) _
            refine Ev.putf (c' := (ovl (updC a8 (z + 44 + n) 3 v8) s b)) rfl (by omega) (shCl hz (by omega)) rfl rfl (ovl_wc (by omega)) ?_
            refine Ev.fin (k := 1) (r := none) (h' := ((SHv st dr (z : Int)), (ovl (updC a8 (z + 44 + n) 3 v8) s b))) (fun _ => rfl) ?_
            obtain ⟨a10, ha10⟩ : ∃ x : C3, x = (updC a8 (z + 44 + n) 3 v8) := ⟨_, rfl⟩
            rw [← ha10]
            have B10 := (B8.up (o := (z + 44 + n)) (i := 3) (v := v8) hz (by omega))
            rw [← ha10] at B10
            refine ⟨rfl, _, rfl, ?_⟩
            unfold sayT
            rw [hx1, bnX_o, hx2, bnX_o, hx4, bnX_o, hx6, bnX_o, hx8, bnX_e]
            exact Or.inr ⟨_, rfl, B10⟩
        · have B6 := G5.bd X5 (by omega) hb6
          show Ev X _ _ 30 [Vr 114, Vr ((z + 44 + n : Nat) : Int)] [Vi v6, Vr ((z + 44 + n : Nat) : Int)] ((SHv st dr (z : Int)), (ovl a6 s b)) _
          refine Ev.putf (c' := (ovl (updC a6 (z + 44 + n) 2 v6) s b)) rfl (by omega) (shCl hz (by omega)) rfl rfl (ovl_wc (by omega)) ?_
          refine Ev.steps (k := 3) (pc' := 36) (L' := [Vr 114, Vr ((z + 44 + n : Nat) : Int)]) (S' := [Vr ((z + 44 + n : Nat) : Int), Vr 114, Vr ((z + 44 + n : Nat) : Int)]) (h' := ((SHv st dr (z : Int)), (ovl (updC a6 (z + 44 + n) 2 v6) s b))) (fun _ => rfl) ?_
          refine Ev.getf (v := v6) rfl rfl (by omega) (shCl hz (by omega)) rfl rfl ((ovl_rc (by omega)).trans (by show (updC a6 (z + 44 + n) 2 v6) (z + 44 + n) 2 = _; rw [updC_sm])) ?_
          obtain ⟨a11, ha11⟩ : ∃ x : C3, x = (updC a6 (z + 44 + n) 2 v6) := ⟨_, rfl⟩
          rw [← ha11]
          have B11 := (B6.up (o := (z + 44 + n)) (i := 2) (v := v6) hz (by omega))
          rw [← ha11] at B11
          refine Ev.call (k := 0) (pc1 := 39) (L1 := [Vr 114, Vr ((z + 44 + n : Nat) : Int)]) (S1 := [Vi v6, Vr 114, Vr ((z + 44 + n : Nat) : Int)]) (h1 := ((SHv st dr (z : Int)), (ovl a11 s b))) (m' := 44) (as := [Vr 114, Vi v6]) (S' := [Vr ((z + 44 + n : Nat) : Int)]) (L0 := [Vr 114, Vi v6, Vx]) (fun _ => rfl) rfl rfl rfl rfl rfl rfl (c_minuteFrom_br B11.2.2.1 v6) (fun r h' hq => ?_)
          obtain ⟨rfl, rfl⟩ := hq
          show Ev X _ _ 42 [Vr 114, Vr ((z + 44 + n : Nat) : Int)] [Vi 0, Vr ((z + 44 + n : Nat) : Int)] ((SHv st dr (z : Int)), (ovl a11 s b)) _
          refine Ev.putf (c' := (ovl (updC a11 (z + 44 + n) 3 0) s b)) rfl (by omega) (shCl hz (by omega)) rfl rfl (ovl_wc (by omega)) ?_
          refine Ev.fin (k := 1) (r := none) (h' := ((SHv st dr (z : Int)), (ovl (updC a11 (z + 44 + n) 3 0) s b))) (fun _ => rfl) ?_
          obtain ⟨a12, ha12⟩ : ∃ x : C3, x = (updC a11 (z + 44 + n) 3 0) := ⟨_, rfl⟩
          rw [← ha12]
          have B12 := (B11.up (o := (z + 44 + n)) (i := 3) (v := 0) hz (by omega))
          rw [← ha12] at B12
          refine ⟨rfl, _, rfl, ?_⟩
          unfold sayT
          rw [hx1, bnX_o, hx2, bnX_o, hx4, bnX_o, hx6, bnX_e]
          exact Or.inr ⟨_, rfl, B12⟩
      · have B4 := G3.bd X3 (by omega) hb4
        show Ev X _ _ 21 [Vr 114, Vr ((z + 44 + n : Nat) : Int)] [Vi v4, Vr ((z + 44 + n : Nat) : Int)] ((SHv st dr (z : Int)), (ovl a4 s b)) _
        refine Ev.putf (c' := (ovl (updC a4 (z + 44 + n) 1 v4) s b)) rfl (by omega) (shCl hz (by omega)) rfl rfl (ovl_wc (by omega)) ?_
        obtain ⟨a13, ha13⟩ : ∃ x : C3, x = (updC a4 (z + 44 + n) 1 v4) := ⟨_, rfl⟩
        rw [← ha13]
        have B13 := (B4.up (o := (z + 44 + n)) (i := 1) (v := v4) hz (by omega))
        rw [← ha13] at B13
        refine Ev.call (k := 3) (pc1 := 27) (L1 := [Vr 114, Vr ((z + 44 + n : Nat) : Int)]) (S1 := [Vi 0, Vr 114, Vr ((z + 44 + n : Nat) : Int)]) (h1 := ((SHv st dr (z : Int)), (ovl a13 s b))) (m' := 44) (as := [Vr 114, Vi 0]) (S' := [Vr ((z + 44 + n : Nat) : Int)]) (L0 := [Vr 114, Vi 0, Vx]) (fun _ => rfl) rfl rfl rfl rfl rfl rfl (c_minuteFrom_br B13.2.2.1 0) (fun r h' hq => ?_)
        obtain ⟨rfl, rfl⟩ := hq
        show Ev X _ _ 30 [Vr 114, Vr ((z + 44 + n : Nat) : Int)] [Vi 0, Vr ((z + 44 + n : Nat) : Int)] ((SHv st dr (z : Int)), (ovl a13 s b)) _
        refine Ev.putf (c' := (ovl (updC a13 (z + 44 + n) 2 0) s b)) rfl (by omega) (shCl hz (by omega)) rfl rfl (ovl_wc (by omega)) ?_
        refine Ev.steps (k := 3) (pc' := 36) (L' := [Vr 114, Vr ((z + 44 + n : Nat) : Int)]) (S' := [Vr ((z + 44 + n : Nat) : Int), Vr 114, Vr ((z + 44 + n : Nat) : Int)]) (h' := ((SHv st dr (z : Int)), (ovl (updC a13 (z + 44 + n) 2 0) s b))) (fun _ => rfl) ?_
        refine Ev.getf (v := 0) rfl rfl (by omega) (shCl hz (by omega)) rfl rfl ((ovl_rc (by omega)).trans (by show (updC a13 (z + 44 + n) 2 0) (z + 44 + n) 2 = _; rw [updC_sm])) ?_
        obtain ⟨a14, ha14⟩ : ∃ x : C3, x = (updC a13 (z + 44 + n) 2 0) := ⟨_, rfl⟩
        rw [← ha14]
        have B14 := (B13.up (o := (z + 44 + n)) (i := 2) (v := 0) hz (by omega))
        rw [← ha14] at B14
        refine Ev.call (k := 0) (pc1 := 39) (L1 := [Vr 114, Vr ((z + 44 + n : Nat) : Int)]) (S1 := [Vi 0, Vr 114, Vr ((z + 44 + n : Nat) : Int)]) (h1 := ((SHv st dr (z : Int)), (ovl a14 s b))) (m' := 44) (as := [Vr 114, Vi 0]) (S' := [Vr ((z + 44 + n : Nat) : Int)]) (L0 := [Vr 114, Vi 0, Vx]) (fun _ => rfl) rfl rfl rfl rfl rfl rfl (c_minuteFrom_br B14.2.2.1 0) (fun r h' hq => ?_)
        obtain ⟨rfl, rfl⟩ := hq
        show Ev X _ _ 42 [Vr 114, Vr ((z + 44 + n : Nat) : Int)] [Vi 0, Vr ((z + 44 + n : Nat) : Int)] ((SHv st dr (z : Int)), (ovl a14 s b)) _
        refine Ev.putf (c' := (ovl (updC a14 (z + 44 + n) 3 0) s b)) rfl (by omega) (shCl hz (by omega)) rfl rfl (ovl_wc (by omega)) ?_
        refine Ev.fin (k := 1) (r := none) (h' := ((SHv st dr (z : Int)), (ovl (updC a14 (z + 44 + n) 3 0) s b))) (fun _ => rfl) ?_
        obtain ⟨a15, ha15⟩ : ∃ x : C3, x = (updC a14 (z + 44 + n) 3 0) := ⟨_, rfl⟩
        rw [← ha15]
        have B15 := (B14.up (o := (z + 44 + n)) (i := 3) (v := 0) hz (by omega))
        rw [← ha15] at B15
        refine ⟨rfl, _, rfl, ?_⟩
        unfold sayT
        rw [hx1, bnX_o, hx2, bnX_o, hx4, bnX_e]
        exact Or.inr ⟨_, rfl, B15⟩
    · have B2 := G1.bd X1 (by omega) hb2
      show Ev X _ _ 11 [Vr 114, Vr ((z + 44 + n : Nat) : Int)] [Vi v2, Vr ((z + 44 + n : Nat) : Int)] ((SHv st dr (z : Int)), (ovl a2 s b)) _
      refine Ev.putf (c' := (ovl (updC a2 (z + 44 + n) 0 v2) s b)) rfl (by omega) (shCl hz (by omega)) rfl rfl (ovl_wc (by omega)) ?_
      obtain ⟨a16, ha16⟩ : ∃ x : C3, x = (updC a2 (z + 44 + n) 0 v2) := ⟨_, rfl⟩
      rw [← ha16]
      have B16 := (B2.up (o := (z + 44 + n)) (i := 0) (v := v2) hz (by omega))
      rw [← ha16] at B16
      refine Ev.call (k := 4) (pc1 := 18) (L1 := [Vr 114, Vr ((z + 44 + n : Nat) : Int)]) (S1 := [Vi (-1), Vi 0, Vr 114, Vr ((z + 44 + n : Nat) : Int)]) (h1 := ((SHv st dr (z : Int)), (ovl a16 s b))) (m' := 38) (as := [Vr 114, Vi 0, Vi (-1)]) (S' := [Vr ((z + 44 + n : Nat) : Int)]) (L0 := [Vr 114, Vi 0, Vi (-1), Vx]) (fun _ => rfl) rfl rfl rfl rfl rfl rfl (c_asked_br B16.2.2.1 0 (-1)) (fun r h' hq => ?_)
      obtain ⟨rfl, rfl⟩ := hq
      show Ev X _ _ 21 [Vr 114, Vr ((z + 44 + n : Nat) : Int)] [Vi (-1), Vr ((z + 44 + n : Nat) : Int)] ((SHv st dr (z : Int)), (ovl a16 s b)) _
      refine Ev.putf (c' := (ovl (updC a16 (z + 44 + n) 1 (-1)) s b)) rfl (by omega) (shCl hz (by omega)) rfl rfl (ovl_wc (by omega)) ?_
      obtain ⟨a17, ha17⟩ : ∃ x : C3, x = (updC a16 (z + 44 + n) 1 (-1)) := ⟨_, rfl⟩
      rw [← ha17]
      have B17 := (B16.up (o := (z + 44 + n)) (i := 1) (v := (-1)) hz (by omega))
      rw [← ha17] at B17
      refine Ev.call (k := 3) (pc1 := 27) (L1 := [Vr 114, Vr ((z + 44 + n : Nat) : Int)]) (S1 := [Vi 0, Vr 114, Vr ((z + 44 + n : Nat) : Int)]) (h1 := ((SHv st dr (z : Int)), (ovl a17 s b))) (m' := 44) (as := [Vr 114, Vi 0]) (S' := [Vr ((z + 44 + n : Nat) : Int)]) (L0 := [Vr 114, Vi 0, Vx]) (fun _ => rfl) rfl rfl rfl rfl rfl rfl (c_minuteFrom_br B17.2.2.1 0) (fun r h' hq => ?_)
      obtain ⟨rfl, rfl⟩ := hq
      show Ev X _ _ 30 [Vr 114, Vr ((z + 44 + n : Nat) : Int)] [Vi 0, Vr ((z + 44 + n : Nat) : Int)] ((SHv st dr (z : Int)), (ovl a17 s b)) _
      refine Ev.putf (c' := (ovl (updC a17 (z + 44 + n) 2 0) s b)) rfl (by omega) (shCl hz (by omega)) rfl rfl (ovl_wc (by omega)) ?_
      refine Ev.steps (k := 3) (pc' := 36) (L' := [Vr 114, Vr ((z + 44 + n : Nat) : Int)]) (S' := [Vr ((z + 44 + n : Nat) : Int), Vr 114, Vr ((z + 44 + n : Nat) : Int)]) (h' := ((SHv st dr (z : Int)), (ovl (updC a17 (z + 44 + n) 2 0) s b))) (fun _ => rfl) ?_
      refine Ev.getf (v := 0) rfl rfl (by omega) (shCl hz (by omega)) rfl rfl ((ovl_rc (by omega)).trans (by show (updC a17 (z + 44 + n) 2 0) (z + 44 + n) 2 = _; rw [updC_sm])) ?_
      obtain ⟨a18, ha18⟩ : ∃ x : C3, x = (updC a17 (z + 44 + n) 2 0) := ⟨_, rfl⟩
      rw [← ha18]
      have B18 := (B17.up (o := (z + 44 + n)) (i := 2) (v := 0) hz (by omega))
      rw [← ha18] at B18
      refine Ev.call (k := 0) (pc1 := 39) (L1 := [Vr 114, Vr ((z + 44 + n : Nat) : Int)]) (S1 := [Vi 0, Vr 114, Vr ((z + 44 + n : Nat) : Int)]) (h1 := ((SHv st dr (z : Int)), (ovl a18 s b))) (m' := 44) (as := [Vr 114, Vi 0]) (S' := [Vr ((z + 44 + n : Nat) : Int)]) (L0 := [Vr 114, Vi 0, Vx]) (fun _ => rfl) rfl rfl rfl rfl rfl rfl (c_minuteFrom_br B18.2.2.1 0) (fun r h' hq => ?_)
      obtain ⟨rfl, rfl⟩ := hq
      show Ev X _ _ 42 [Vr 114, Vr ((z + 44 + n : Nat) : Int)] [Vi 0, Vr ((z + 44 + n : Nat) : Int)] ((SHv st dr (z : Int)), (ovl a18 s b)) _
      refine Ev.putf (c' := (ovl (updC a18 (z + 44 + n) 3 0) s b)) rfl (by omega) (shCl hz (by omega)) rfl rfl (ovl_wc (by omega)) ?_
      refine Ev.fin (k := 1) (r := none) (h' := ((SHv st dr (z : Int)), (ovl (updC a18 (z + 44 + n) 3 0) s b))) (fun _ => rfl) ?_
      obtain ⟨a19, ha19⟩ : ∃ x : C3, x = (updC a18 (z + 44 + n) 3 0) := ⟨_, rfl⟩
      rw [← ha19]
      have B19 := (B18.up (o := (z + 44 + n)) (i := 3) (v := 0) hz (by omega))
      rw [← ha19] at B19
      refine ⟨rfl, _, rfl, ?_⟩
      unfold sayT
      rw [hx1, bnX_o, hx2, bnX_e]
      exact Or.inr ⟨_, rfl, B19⟩
  · have B1 := G0.bd X0 (by omega) hb1
    show Ev X _ _ 4 [Vr 114, Vr ((z + 44 + n : Nat) : Int)] [] ((SHv st dr (z : Int)), (ovl a1 s b)) _
    refine Ev.call (k := 4) (pc1 := 8) (L1 := [Vr 114, Vr ((z + 44 + n : Nat) : Int)]) (S1 := [Vi (-1), Vi 2, Vr 114, Vr ((z + 44 + n : Nat) : Int)]) (h1 := ((SHv st dr (z : Int)), (ovl a1 s b))) (m' := 38) (as := [Vr 114, Vi 2, Vi (-1)]) (S' := [Vr ((z + 44 + n : Nat) : Int)]) (L0 := [Vr 114, Vi 2, Vi (-1), Vx]) (fun _ => rfl) rfl rfl rfl rfl rfl rfl (c_asked_br B1.2.2.1 2 (-1)) (fun r h' hq => ?_)
    obtain ⟨rfl, rfl⟩ := hq
    show Ev X _ _ 11 [Vr 114, Vr ((z + 44 + n : Nat) : Int)] [Vi (-1), Vr ((z + 44 + n : Nat) : Int)] ((SHv st dr (z : Int)), (ovl a1 s b)) _
    refine Ev.putf (c' := (ovl (updC a1 (z + 44 + n) 0 (-1)) s b)) rfl (by omega) (shCl hz (by omega)) rfl rfl (ovl_wc (by omega)) ?_
    obtain ⟨a20, ha20⟩ : ∃ x : C3, x = (updC a1 (z + 44 + n) 0 (-1)) := ⟨_, rfl⟩
    rw [← ha20]
    have B20 := (B1.up (o := (z + 44 + n)) (i := 0) (v := (-1)) hz (by omega))
    rw [← ha20] at B20
    refine Ev.call (k := 4) (pc1 := 18) (L1 := [Vr 114, Vr ((z + 44 + n : Nat) : Int)]) (S1 := [Vi (-1), Vi 0, Vr 114, Vr ((z + 44 + n : Nat) : Int)]) (h1 := ((SHv st dr (z : Int)), (ovl a20 s b))) (m' := 38) (as := [Vr 114, Vi 0, Vi (-1)]) (S' := [Vr ((z + 44 + n : Nat) : Int)]) (L0 := [Vr 114, Vi 0, Vi (-1), Vx]) (fun _ => rfl) rfl rfl rfl rfl rfl rfl (c_asked_br B20.2.2.1 0 (-1)) (fun r h' hq => ?_)
    obtain ⟨rfl, rfl⟩ := hq
    show Ev X _ _ 21 [Vr 114, Vr ((z + 44 + n : Nat) : Int)] [Vi (-1), Vr ((z + 44 + n : Nat) : Int)] ((SHv st dr (z : Int)), (ovl a20 s b)) _
    refine Ev.putf (c' := (ovl (updC a20 (z + 44 + n) 1 (-1)) s b)) rfl (by omega) (shCl hz (by omega)) rfl rfl (ovl_wc (by omega)) ?_
    obtain ⟨a21, ha21⟩ : ∃ x : C3, x = (updC a20 (z + 44 + n) 1 (-1)) := ⟨_, rfl⟩
    rw [← ha21]
    have B21 := (B20.up (o := (z + 44 + n)) (i := 1) (v := (-1)) hz (by omega))
    rw [← ha21] at B21
    refine Ev.call (k := 3) (pc1 := 27) (L1 := [Vr 114, Vr ((z + 44 + n : Nat) : Int)]) (S1 := [Vi 0, Vr 114, Vr ((z + 44 + n : Nat) : Int)]) (h1 := ((SHv st dr (z : Int)), (ovl a21 s b))) (m' := 44) (as := [Vr 114, Vi 0]) (S' := [Vr ((z + 44 + n : Nat) : Int)]) (L0 := [Vr 114, Vi 0, Vx]) (fun _ => rfl) rfl rfl rfl rfl rfl rfl (c_minuteFrom_br B21.2.2.1 0) (fun r h' hq => ?_)
    obtain ⟨rfl, rfl⟩ := hq
    show Ev X _ _ 30 [Vr 114, Vr ((z + 44 + n : Nat) : Int)] [Vi 0, Vr ((z + 44 + n : Nat) : Int)] ((SHv st dr (z : Int)), (ovl a21 s b)) _
    refine Ev.putf (c' := (ovl (updC a21 (z + 44 + n) 2 0) s b)) rfl (by omega) (shCl hz (by omega)) rfl rfl (ovl_wc (by omega)) ?_
    refine Ev.steps (k := 3) (pc' := 36) (L' := [Vr 114, Vr ((z + 44 + n : Nat) : Int)]) (S' := [Vr ((z + 44 + n : Nat) : Int), Vr 114, Vr ((z + 44 + n : Nat) : Int)]) (h' := ((SHv st dr (z : Int)), (ovl (updC a21 (z + 44 + n) 2 0) s b))) (fun _ => rfl) ?_
    refine Ev.getf (v := 0) rfl rfl (by omega) (shCl hz (by omega)) rfl rfl ((ovl_rc (by omega)).trans (by show (updC a21 (z + 44 + n) 2 0) (z + 44 + n) 2 = _; rw [updC_sm])) ?_
    obtain ⟨a22, ha22⟩ : ∃ x : C3, x = (updC a21 (z + 44 + n) 2 0) := ⟨_, rfl⟩
    rw [← ha22]
    have B22 := (B21.up (o := (z + 44 + n)) (i := 2) (v := 0) hz (by omega))
    rw [← ha22] at B22
    refine Ev.call (k := 0) (pc1 := 39) (L1 := [Vr 114, Vr ((z + 44 + n : Nat) : Int)]) (S1 := [Vi 0, Vr 114, Vr ((z + 44 + n : Nat) : Int)]) (h1 := ((SHv st dr (z : Int)), (ovl a22 s b))) (m' := 44) (as := [Vr 114, Vi 0]) (S' := [Vr ((z + 44 + n : Nat) : Int)]) (L0 := [Vr 114, Vi 0, Vx]) (fun _ => rfl) rfl rfl rfl rfl rfl rfl (c_minuteFrom_br B22.2.2.1 0) (fun r h' hq => ?_)
    obtain ⟨rfl, rfl⟩ := hq
    show Ev X _ _ 42 [Vr 114, Vr ((z + 44 + n : Nat) : Int)] [Vi 0, Vr ((z + 44 + n : Nat) : Int)] ((SHv st dr (z : Int)), (ovl a22 s b)) _
    refine Ev.putf (c' := (ovl (updC a22 (z + 44 + n) 3 0) s b)) rfl (by omega) (shCl hz (by omega)) rfl rfl (ovl_wc (by omega)) ?_
    refine Ev.fin (k := 1) (r := none) (h' := ((SHv st dr (z : Int)), (ovl (updC a22 (z + 44 + n) 3 0) s b))) (fun _ => rfl) ?_
    obtain ⟨a23, ha23⟩ : ∃ x : C3, x = (updC a22 (z + 44 + n) 3 0) := ⟨_, rfl⟩
    rw [← ha23]
    have B23 := (B22.up (o := (z + 44 + n)) (i := 3) (v := 0) hz (by omega))
    rw [← ha23] at B23
    refine ⟨rfl, _, rfl, ?_⟩
    unfold sayT
    rw [hx1, bnX_e]
    exact Or.inr ⟨_, rfl, B23⟩
theorem c_ruled_262 {X : List Int} {st dr : Int} {s b : C3} {W : TXT} {S : STY} {z : Nat} (hz : hyS z) {n : Nat} (d : Nat) (a0 : C3) (p0 c0 : Nat) (hd : 400 ≤ d) (X0 : XoC W S.1 z p0 c0 8 a0) (P0 : PaC S a0 z c0) (hC : nC S ≤ 12) (hc0 : c0 ≤ p0) (hlit : tC W p0 = 262) (hn0 : S.1 0 4 = (n : Int)) (h8 : n < 30) : Ev X d 45 0 [Vr 114, Vr ((z + 14 + n : Nat) : Int)] [] (SHv st dr (z : Int), ovl a0 s b) (PoB st dr s b W S z 4 n a0 (rulT W S p0)) := by
  have hz1 := z11 hz
  have hz0 : z = 2 ∨ z = 58 := hz
  obtain ⟨d, rfl⟩ : ∃ d1, d = d1 + 400 := ⟨d - 400, by omega⟩
  have Q0 := X0.le
  have G0 : Gq z (z + 14 + n) (z + 14 + n) c0 a0 a0 := ⟨by omega, by omega, fun _ _ _ _ _ _ => rfl, fun _ _ => rfl⟩
  refine Ev.steps (k := 3) (pc' := 5) (L' := [Vr 114, Vr ((z + 14 + n : Nat) : Int)]) (S' := [Vi (a0 114 5), Vr ((z + 14 + n : Nat) : Int)]) (h' := ((SHv st dr (z : Int)), (ovl a0 s b))) (fun _ => rfl) ?_
  rw [(X0.t5.trans (show ((tC W p0 : Nat) : Int) = 262 by omega))]
  refine Ev.putf (c' := (ovl (updC a0 (z + 14 + n) 0 262) s b)) rfl (by omega) (shRu hz (by omega)) rfl rfl (ovl_wc (by omega)) ?_
  obtain ⟨a24, ha24⟩ : ∃ x : C3, x = (updC a0 (z + 14 + n) 0 262) := ⟨_, rfl⟩
  rw [← ha24]
  have X24 := (X0.up (o := (z + 14 + n)) (i := 0) (v := 262) (by omega))
  have G24 := (G0.up (o := (z + 14 + n)) (i := 0) (v := 262) (by omega))
  rw [← ha24] at X24 G24
  have Q24 := X24.le
  have F24_0 : a24 (z + 14 + n) 0 = 262 := by
    rw [ha24]
    exact updC_sm
  refine Ev.call (k := 1) (pc1 := 9) (L1 := [Vr 114, Vr ((z + 14 + n : Nat) : Int)]) (S1 := [Vr 114]) (h1 := ((SHv st dr (z : Int)), (ovl a24 s b))) (m' := 27) (as := [Vr 114]) (S' := []) (L0 := [Vr 114, Vx, Vx, Vx, Vx]) (fun _ => rfl) rfl rfl rfl rfl rfl rfl (c_next X24.1) (fun r h' hq => ?_)
  obtain ⟨rfl, a25, rfl, hq⟩ := hq
  rcases hq with ⟨p25, hx25, ho25⟩ | ⟨e25, hx25, hb25⟩
  · have X25 := X24.nx ho25
    have L25 : p0 < p25 := X24.lt (by omega) hx25
    have G25 := G24.tr (ho25.1.gz (c := c0) X24.hz) (by omega)
    have R25 : a25 (z + 11) = a24 (z + 11) := ho25.1 _ (by omega)
    have Q25 := X25.le
    have F25_0 : a25 (z + 14 + n) 0 = 262 := (congrFun (ho25.1 _ (by omega)) 0).trans F24_0
    show Ev X _ _ 12 [Vr 114, Vr ((z + 14 + n : Nat) : Int)] [] ((SHv st dr (z : Int)), (ovl a25 s b)) _
    refine Ev.call (k := 4) (pc1 := 16) (L1 := [Vr 114, Vr ((z + 14 + n : Nat) : Int)]) (S1 := [Vi (-1), Vi 2, Vr 114, Vr ((z + 14 + n : Nat) : Int)]) (h1 := ((SHv st dr (z : Int)), (ovl a25 s b))) (m' := 38) (as := [Vr 114, Vi 2, Vi (-1)]) (S' := [Vr ((z + 14 + n : Nat) : Int)]) (L0 := [Vr 114, Vi 2, Vi (-1), Vx]) (fun _ => rfl) rfl rfl rfl rfl rfl rfl (c_asked X25.hz X25.1 (kd := 1) (q := 2) X25.2.1 (by decide) rfl (-1) rfl) (fun r h' hq => ?_)
    obtain ⟨a26, rfl, hq⟩ := hq
    rcases hq with ⟨⟨i26, p26⟩, hx26, rfl, ho26⟩ | ⟨e26, hx26, ⟨v26, rfl, hv26⟩, hb26⟩
    · have K26 := ask_ok hx26
      dsimp only at K26 ho26
      have X26 := X25.nx ho26
      have L26 : p25 < p26 := by
        rw [show p26 = tE W p25 from K26.2.2.2.2.1]
        exact tok_lt X25.le.1 X25.1.1.1 (by omega) (by omega)
      have I26 := K26.2.2.1
      have J26 := (X25.2.1 1 (by decide)).1
      have G26 := G25.tr (ho26.1.gz (c := c0) X25.hz) (by omega)
      have R26 : a26 (z + 11) = a25 (z + 11) := ho26.1 _ (by omega)
      have Q26 := X26.le
      clear K26
      have F26_0 : a26 (z + 14 + n) 0 = 262 := (congrFun (ho26.1 _ (by omega)) 0).trans F25_0
      show Ev X _ _ 19 [Vr 114, Vr ((z + 14 + n : Nat) : Int)] [Vi ((i26 : Nat) : Int), Vr ((z + 14 + n : Nat) : Int)] ((SHv st dr (z : Int)), (ovl a26 s b)) _
      refine Ev.putf (c' := (ovl (updC a26 (z + 14 + n) 1 ((i26 : Nat) : Int)) s b)) rfl (by omega) (shRu hz (by omega)) rfl rfl (ovl_wc (by omega)) ?_
      refine Ev.steps (k := 2) (pc' := 24) (L' := [Vr 114, Vr ((z + 14 + n : Nat) : Int)]) (S' := [Vi (-1), Vr ((z + 14 + n : Nat) : Int)]) (h' := ((SHv st dr (z : Int)), (ovl (updC a26 (z + 14 + n) 1 ((i26 : Nat) : Int)) s b))) (fun _ => rfl) ?_
      refine Ev.putf (c' := (ovl (updC (updC a26 (z + 14 + n) 1 ((i26 : Nat) : Int)) (z + 14 + n) 2 (-1)) s b)) rfl (by omega) (shRu hz (by omega)) rfl rfl (ovl_wc (by omega)) ?_
      refine Ev.steps (k := 2) (pc' := 29) (L' := [Vr 114, Vr ((z + 14 + n : Nat) : Int)]) (S' := [Vi (-1), Vr ((z + 14 + n : Nat) : Int)]) (h' := ((SHv st dr (z : Int)), (ovl (updC (updC a26 (z + 14 + n) 1 ((i26 : Nat) : Int)) (z + 14 + n) 2 (-1)) s b))) (fun _ => rfl) ?_
      refine Ev.putf (c' := (ovl (updC (updC (updC a26 (z + 14 + n) 1 ((i26 : Nat) : Int)) (z + 14 + n) 2 (-1)) (z + 14 + n) 3 (-1)) s b)) rfl (by omega) (shRu hz (by omega)) rfl rfl (ovl_wc (by omega)) ?_
      refine Ev.steps (k := 3) (pc' := 37) (L' := [Vr 114, Vr ((z + 14 + n : Nat) : Int)]) (S' := [Vr (z : Int), Vr ((z + 14 + n : Nat) : Int)]) (h' := ((SHv st dr (z : Int)), (ovl (updC (updC (updC a26 (z + 14 + n) 1 ((i26 : Nat) : Int)) (z + 14 + n) 2 (-1)) (z + 14 + n) 3 (-1)) s b))) (fun _ => rfl) ?_
      refine Ev.getf (v := ((c0 : Nat) : Int)) rfl rfl (by omega) (shY_0 hz) rfl rfl (((ovl_rc (by omega)).trans (by show (updC (updC (updC a26 (z + 14 + n) 1 ((i26 : Nat) : Int)) (z + 14 + n) 2 (-1)) (z + 14 + n) 3 (-1)) z 9 = _; rw [updC_nt (by omega), updC_nt (by omega), updC_nt (by omega)])).trans (X26.2.2.1)) ?_
      refine Ev.putf (c' := (ovl (updC (updC (updC (updC a26 (z + 14 + n) 1 ((i26 : Nat) : Int)) (z + 14 + n) 2 (-1)) (z + 14 + n) 3 (-1)) (z + 14 + n) 4 ((c0 : Nat) : Int)) s b)) rfl (by omega) (shRu hz (by omega)) rfl rfl (ovl_wc (by omega)) ?_
      refine Ev.steps (k := 1) (pc' := 44) (L' := [Vr 114, Vr ((z + 14 + n : Nat) : Int)]) (S' := [Vr ((z + 14 + n : Nat) : Int)]) (h' := ((SHv st dr (z : Int)), (ovl (updC (updC (updC (updC a26 (z + 14 + n) 1 ((i26 : Nat) : Int)) (z + 14 + n) 2 (-1)) (z + 14 + n) 3 (-1)) (z + 14 + n) 4 ((c0 : Nat) : Int)) s b))) (fun _ => rfl) ?_
      refine Ev.getf (v := 262) rfl rfl (by omega) (shRu hz (by omega)) rfl rfl (((ovl_rc (by omega)).trans (by show (updC (updC (updC (updC a26 (z + 14 + n) 1 ((i26 : Nat) : Int)) (z + 14 + n) 2 (-1)) (z + 14 + n) 3 (-1)) (z + 14 + n) 4 ((c0 : Nat) : Int)) (z + 14 + n) 0 = _; rw [updC_nt (by omega), updC_nt (by omega), updC_nt (by omega), updC_nt (by omega)])).trans (F26_0)) ?_
      obtain ⟨a27, ha27⟩ : ∃ x : C3, x = (updC (updC (updC (updC a26 (z + 14 + n) 1 ((i26 : Nat) : Int)) (z + 14 + n) 2 (-1)) (z + 14 + n) 3 (-1)) (z + 14 + n) 4 ((c0 : Nat) : Int)) := ⟨_, rfl⟩
      rw [← ha27]
      have X27 := ((((X26.up (o := (z + 14 + n)) (i := 1) (v := ((i26 : Nat) : Int)) (by omega)).up (o := (z + 14 + n)) (i := 2) (v := (-1)) (by omega)).up (o := (z + 14 + n)) (i := 3) (v := (-1)) (by omega)).up (o := (z + 14 + n)) (i := 4) (v := ((c0 : Nat) : Int)) (by omega))
      have G27 := ((((G26.up (o := (z + 14 + n)) (i := 1) (v := ((i26 : Nat) : Int)) (by omega)).up (o := (z + 14 + n)) (i := 2) (v := (-1)) (by omega)).up (o := (z + 14 + n)) (i := 3) (v := (-1)) (by omega)).up (o := (z + 14 + n)) (i := 4) (v := ((c0 : Nat) : Int)) (by omega))
      rw [← ha27] at X27 G27
      have Q27 := X27.le
      have F27_0 : a27 (z + 14 + n) 0 = 262 := by
        rw [ha27]
        exact (updC_nt (by omega)).trans <| (updC_nt (by omega)).trans <| (updC_nt (by omega)).trans <| (updC_nt (by omega)).trans <| F26_0
      have F27_1 : a27 (z + 14 + n) 1 = ((i26 : Nat) : Int) := by
        rw [ha27]
        exact (updC_nt (by omega)).trans <| (updC_nt (by omega)).trans <| (updC_nt (by omega)).trans <| updC_sm
      have F27_2 : a27 (z + 14 + n) 2 = (-1) := by
        rw [ha27]
        exact (updC_nt (by omega)).trans <| (updC_nt (by omega)).trans <| updC_sm
      have F27_3 : a27 (z + 14 + n) 3 = (-1) := by
        rw [ha27]
        exact (updC_nt (by omega)).trans <| updC_sm
      have F27_4 : a27 (z + 14 + n) 4 = ((c0 : Nat) : Int) := by
        rw [ha27]
        exact updC_sm
      refine Ev.call (k := 5) (pc1 := 88) (L1 := [Vr 114, Vr ((z + 14 + n : Nat) : Int)]) (S1 := [Vi (-1), Vi 0, Vr 114, Vr ((z + 14 + n : Nat) : Int)]) (h1 := ((SHv st dr (z : Int)), (ovl a27 s b))) (m' := 38) (as := [Vr 114, Vi 0, Vi (-1)]) (S' := [Vr ((z + 14 + n : Nat) : Int)]) (L0 := [Vr 114, Vi 0, Vi (-1), Vx]) (fun _ => rfl) rfl rfl rfl rfl rfl rfl (c_asked X27.hz X27.1 (kd := 0) (q := 0) X27.2.1 (by decide) rfl (-1) rfl) (fun r h' hq => ?_)
      obtain ⟨a28, rfl, hq⟩ := hq
      rcases hq with ⟨⟨i28, p28⟩, hx28, rfl, ho28⟩ | ⟨e28, hx28, ⟨v28, rfl, hv28⟩, hb28⟩
      · have K28 := ask_ok hx28
        dsimp only at K28 ho28
        have X28 := X27.nx ho28
        have L28 : p26 < p28 := by
          rw [show p28 = tE W p26 from K28.2.2.2.2.1]
          exact tok_lt X27.le.1 X27.1.1.1 (by omega) (by omega)
        have I28 := K28.2.2.1
        have J28 := (X27.2.1 0 (by decide)).1
        have G28 := G27.tr (ho28.1.gz (c := c0) X27.hz) (by omega)
        have R28 : a28 (z + 11) = a27 (z + 11) := ho28.1 _ (by omega)
        have Q28 := X28.le
        clear K28
        have F28_0 : a28 (z + 14 + n) 0 = 262 := (congrFun (ho28.1 _ (by omega)) 0).trans F27_0
        have F28_1 : a28 (z + 14 + n) 1 = ((i26 : Nat) : Int) := (congrFun (ho28.1 _ (by omega)) 1).trans F27_1
        have F28_2 : a28 (z + 14 + n) 2 = (-1) := (congrFun (ho28.1 _ (by omega)) 2).trans F27_2
        have F28_3 : a28 (z + 14 + n) 3 = (-1) := (congrFun (ho28.1 _ (by omega)) 3).trans F27_3
        have F28_4 : a28 (z + 14 + n) 4 = ((c0 : Nat) : Int) := (congrFun (ho28.1 _ (by omega)) 4).trans F27_4
        show Ev X _ _ 91 [Vr 114, Vr ((z + 14 + n : Nat) : Int)] [Vi ((i28 : Nat) : Int), Vr ((z + 14 + n : Nat) : Int)] ((SHv st dr (z : Int)), (ovl a28 s b)) _
        refine Ev.putf (c' := (ovl (updC a28 (z + 14 + n) 2 ((i28 : Nat) : Int)) s b)) rfl (by omega) (shRu hz (by omega)) rfl rfl (ovl_wc (by omega)) ?_
        obtain ⟨a29, ha29⟩ : ∃ x : C3, x = (updC a28 (z + 14 + n) 2 ((i28 : Nat) : Int)) := ⟨_, rfl⟩
        rw [← ha29]
        have X29 := (X28.up (o := (z + 14 + n)) (i := 2) (v := ((i28 : Nat) : Int)) (by omega))
        have G29 := (G28.up (o := (z + 14 + n)) (i := 2) (v := ((i28 : Nat) : Int)) (by omega))
        rw [← ha29] at X29 G29
        have Q29 := X29.le
        have F29_0 : a29 (z + 14 + n) 0 = 262 := by
          rw [ha29]
          exact (updC_nt (by omega)).trans <| F28_0
        have F29_1 : a29 (z + 14 + n) 1 = ((i26 : Nat) : Int) := by
          rw [ha29]
          exact (updC_nt (by omega)).trans <| F28_1
        have F29_2 : a29 (z + 14 + n) 2 = ((i28 : Nat) : Int) := by
          rw [ha29]
          exact updC_sm
        have F29_3 : a29 (z + 14 + n) 3 = (-1) := by
          rw [ha29]
          exact (updC_nt (by omega)).trans <| F28_3
        have F29_4 : a29 (z + 14 + n) 4 = ((c0 : Nat) : Int) := by
          rw [ha29]
          exact (updC_nt (by omega)).trans <| F28_4
        refine Ev.call (k := 3) (pc1 := 147) (L1 := [Vr 114, Vr ((z + 14 + n : Nat) : Int)]) (S1 := [Vi 268, Vr 114]) (h1 := ((SHv st dr (z : Int)), (ovl a29 s b))) (m' := 42) (as := [Vr 114, Vi 268]) (S' := []) (L0 := [Vr 114, Vi 268]) (fun _ => rfl) rfl rfl rfl rfl rfl rfl (c_expect X29.1 268) (fun r h' hq => ?_)
        obtain ⟨rfl, a30, rfl, hq⟩ := hq
        rcases hq with ⟨p30, hx30, ho30⟩ | ⟨e30, hx30, hb30⟩
        · have X30 := X29.nx ho30
          have L30 : p28 < p30 := by
            obtain ⟨h1, h2⟩ := exp_ok hx30
            exact X29.lt (by omega) (by unfold expT at hx30; rwa [if_neg (by omega)] at hx30)
          have G30 := G29.tr (ho30.1.gz (c := c0) X29.hz) (by omega)
          have R30 : a30 (z + 11) = a29 (z + 11) := ho30.1 _ (by omega)
          have Q30 := X30.le
          have F30_0 : a30 (z + 14 + n) 0 = 262 := (congrFun (ho30.1 _ (by omega)) 0).trans F29_0
          have F30_1 : a30 (z + 14 + n) 1 = ((i26 : Nat) : Int) := (congrFun (ho30.1 _ (by omega)) 1).trans F29_1
          have F30_2 : a30 (z + 14 + n) 2 = ((i28 : Nat) : Int) := (congrFun (ho30.1 _ (by omega)) 2).trans F29_2
          have F30_3 : a30 (z + 14 + n) 3 = (-1) := (congrFun (ho30.1 _ (by omega)) 3).trans F29_3
          have F30_4 : a30 (z + 14 + n) 4 = ((c0 : Nat) : Int) := (congrFun (ho30.1 _ (by omega)) 4).trans F29_4
          show Ev X _ _ 150 [Vr 114, Vr ((z + 14 + n : Nat) : Int)] [] ((SHv st dr (z : Int)), (ovl a30 s b)) _
          refine Ev.steps (k := 3) (pc' := 155) (L' := [Vr 114, Vr ((z + 14 + n : Nat) : Int)]) (S' := [Vr (z : Int), Vr ((z + 14 + n : Nat) : Int)]) (h' := ((SHv st dr (z : Int)), (ovl a30 s b))) (fun _ => rfl) ?_
          refine Ev.getf (v := ((c0 : Nat) : Int)) rfl rfl (by omega) (shY_0 hz) rfl rfl ((ovl_rc (by omega)).trans (X30.2.2.1)) ?_
          refine Ev.putf (c' := (ovl (updC a30 (z + 14 + n) 5 ((c0 : Nat) : Int)) s b)) rfl (by omega) (shRu hz (by omega)) rfl rfl (ovl_wc (by omega)) ?_
          obtain ⟨a31, ha31⟩ : ∃ x : C3, x = (updC a30 (z + 14 + n) 5 ((c0 : Nat) : Int)) := ⟨_, rfl⟩
          rw [← ha31]
          have X31 := (X30.up (o := (z + 14 + n)) (i := 5) (v := ((c0 : Nat) : Int)) (by omega))
          have G31 := (G30.up (o := (z + 14 + n)) (i := 5) (v := ((c0 : Nat) : Int)) (by omega))
          rw [← ha31] at X31 G31
          have Q31 := X31.le
          have F31_0 : a31 (z + 14 + n) 0 = 262 := by
            rw [ha31]
            exact (updC_nt (by omega)).trans <| F30_0
          have F31_1 : a31 (z + 14 + n) 1 = ((i26 : Nat) : Int) := by
            rw [ha31]
            exact (updC_nt (by omega)).trans <| F30_1
          have F31_2 : a31 (z + 14 + n) 2 = ((i28 : Nat) : Int) := by
            rw [ha31]
            exact (updC_nt (by omega)).trans <| F30_2
          have F31_3 : a31 (z + 14 + n) 3 = (-1) := by
            rw [ha31]
            exact (updC_nt (by omega)).trans <| F30_3
          have F31_4 : a31 (z + 14 + n) 4 = ((c0 : Nat) : Int) := by
            rw [ha31]
            exact (updC_nt (by omega)).trans <| F30_4
          have F31_5 : a31 (z + 14 + n) 5 = ((c0 : Nat) : Int) := by
            rw [ha31]
            exact updC_sm
          refine Ev.call (k := 1) (pc1 := 162) (L1 := [Vr 114, Vr ((z + 14 + n : Nat) : Int)]) (S1 := [Vr 114]) (h1 := ((SHv st dr (z : Int)), (ovl a31 s b))) (m' := 52) (as := [Vr 114]) (S' := []) (L0 := [Vr 114, Vx, Vx]) (fun _ => rfl) rfl rfl rfl rfl rfl rfl (c_tstT hz 8 _ _ _ _ (by omega) X31 (by omega)) (fun r h' hq => ?_)
          obtain ⟨rfl, a33, rfl, hq⟩ := hq
          rcases hq with ⟨⟨l33, p33⟩, hx33, c33, X33, g33, o33, h33⟩ | ⟨e33, hx33, hb33⟩
          · dsimp only at h33 X33 o33
            have L33 := o33.lt
            have G33 := G31.tr g33 (by omega)
            have Q33 := X33.le
            have F33_0 : a33 (z + 14 + n) 0 = 262 := (congrFun (g33.1 _ (by omega) (by omega) (by omega)) 0).trans F31_0
            have F33_1 : a33 (z + 14 + n) 1 = ((i26 : Nat) : Int) := (congrFun (g33.1 _ (by omega) (by omega) (by omega)) 1).trans F31_1
            have F33_2 : a33 (z + 14 + n) 2 = ((i28 : Nat) : Int) := (congrFun (g33.1 _ (by omega) (by omega) (by omega)) 2).trans F31_2
            have F33_3 : a33 (z + 14 + n) 3 = (-1) := (congrFun (g33.1 _ (by omega) (by omega) (by omega)) 3).trans F31_3
            have F33_4 : a33 (z + 14 + n) 4 = ((c0 : Nat) : Int) := (congrFun (g33.1 _ (by omega) (by omega) (by omega)) 4).trans F31_4
            have F33_5 : a33 (z + 14 + n) 5 = ((c0 : Nat) : Int) := (congrFun (g33.1 _ (by omega) (by omega) (by omega)) 5).trans F31_5
            show Ev X _ _ 165 [Vr 114, Vr ((z + 14 + n : Nat) : Int)] [] ((SHv st dr (z : Int)), (ovl a33 s b)) _
            refine Ev.steps (k := 3) (pc' := 170) (L' := [Vr 114, Vr ((z + 14 + n : Nat) : Int)]) (S' := [Vr (z : Int), Vr ((z + 14 + n : Nat) : Int)]) (h' := ((SHv st dr (z : Int)), (ovl a33 s b))) (fun _ => rfl) ?_
            refine Ev.getf (v := ((c33 : Nat) : Int)) rfl rfl (by omega) (shY_0 hz) rfl rfl ((ovl_rc (by omega)).trans (X33.2.2.1)) ?_
            refine Ev.putf (c' := (ovl (updC a33 (z + 14 + n) 6 ((c33 : Nat) : Int)) s b)) rfl (by omega) (shRu hz (by omega)) rfl rfl (ovl_wc (by omega)) ?_
            refine Ev.fin (k := 1) (r := none) (h' := ((SHv st dr (z : Int)), (ovl (updC a33 (z + 14 + n) 6 ((c33 : Nat) : Int)) s b))) (fun _ => rfl) ?_
            obtain ⟨a34, ha34⟩ : ∃ x : C3, x = (updC a33 (z + 14 + n) 6 ((c33 : Nat) : Int)) := ⟨_, rfl⟩
            rw [← ha34]
            have X34 := (X33.up (o := (z + 14 + n)) (i := 6) (v := ((c33 : Nat) : Int)) (by omega))
            have G34 := (G33.up (o := (z + 14 + n)) (i := 6) (v := ((c33 : Nat) : Int)) (by omega))
            rw [← ha34] at X34 G34
            have Q34 := X34.le
            have F34_0 : a34 (z + 14 + n) 0 = 262 := by
              rw [ha34]
              exact (updC_nt (by omega)).trans <| F33_0
            have F34_1 : a34 (z + 14 + n) 1 = ((i26 : Nat) : Int) := by
              rw [ha34]
              exact (updC_nt (by omega)).trans <| F33_1
            have F34_2 : a34 (z + 14 + n) 2 = ((i28 : Nat) : Int) := by
              rw [ha34]
              exact (updC_nt (by omega)).trans <| F33_2
            have F34_3 : a34 (z + 14 + n) 3 = (-1) := by
              rw [ha34]
              exact (updC_nt (by omega)).trans <| F33_3
            have F34_4 : a34 (z + 14 + n) 4 = ((c0 : Nat) : Int) := by
              rw [ha34]
              exact (updC_nt (by omega)).trans <| F33_4
            have F34_5 : a34 (z + 14 + n) 5 = ((c0 : Nat) : Int) := by
              rw [ha34]
              exact (updC_nt (by omega)).trans <| F33_5
            have F34_6 : a34 (z + 14 + n) 6 = ((c33 : Nat) : Int) := by
              rw [ha34]
              exact updC_sm
            refine ⟨rfl, _, rfl, ?_⟩
            unfold rulT
            rw [hx25, bnX_o, hx26, bnX_o]
            have eA : argT W S.1 (tC W p0) i26 p26 = bnX (askT W S.1 0 (-1) p26) (fun r => .ok ((((r.1 : Nat) : Int), ((r.1 : Nat) : Int), []), r.2)) := by rw [hlit]; rfl
            try dsimp only
            rw [eA, hx28, bnX_o]
            rw [bnX_o]
            try dsimp only
            rw [hx30, bnX_o, hx33, bnX_o]
            refine Or.inl ⟨_, rfl, c33, X34, by dsimp only; omega, G34.fs, fun a2 h1 h2 => ?_⟩
            dsimp only
            have hq := h1 (z + 14 + n) (by omega) (by omega) (by omega)
            have h11 := h1 (z + 11) (by omega) (by omega) (by omega)
            have ekd : tC W p0 - 262 = 0 := by omega
            refine P0.rule (k0 := (c0)) (k1 := (c0)) hn0 h8 hC (by omega) (fun o o1 o2 o3 o4 o5 => (h1 o o1 o2 o3).trans (G34.2.2.1 o (by omega) (by omega) o4 o5 o5)) (fun j hj => (congrFun h11 j).trans (G34.2.2.2 j hj)) (fun i => ?_) ?_ ?_ ?_ ?_ ?_ ?_ ?_ (by omega) ?_ ?_
            · rw [h2, congrFun (G34.2.2.1 (z + 1) (by omega) (by omega) (by omega) (by omega) (by omega)) i]
            · rw [hq, F34_0, ekd]; rfl
            · rw [hq, F34_1]
            · intro g; rw [hq, F34_2]
            · intro g; omega
            · rw [hq, F34_4]
            · rw [hq, F34_5]
            · rw [hq, F34_6]
            · rw [h11, show a34 (z + 11) = a33 (z + 11) by rw [ha34, updC_row (by omega)]]
              exact o33.mo (by omega)
            · intro g; omega
          · have B33 := G31.bz hb33
            show Ev X _ _ 165 [Vr 114, Vr ((z + 14 + n : Nat) : Int)] [] ((SHv st dr (z : Int)), (ovl a33 s b)) _
            refine Ev.steps (k := 3) (pc' := 170) (L' := [Vr 114, Vr ((z + 14 + n : Nat) : Int)]) (S' := [Vr (z : Int), Vr ((z + 14 + n : Nat) : Int)]) (h' := ((SHv st dr (z : Int)), (ovl a33 s b))) (fun _ => rfl) ?_
            refine Ev.getf (v := (a33 z 9)) rfl rfl (by omega) (shY_0 hz) rfl rfl (ovl_rc (by omega)) ?_
            refine Ev.putf (c' := (ovl (updC a33 (z + 14 + n) 6 (a33 z 9)) s b)) rfl (by omega) (shRu hz (by omega)) rfl rfl (ovl_wc (by omega)) ?_
            refine Ev.fin (k := 1) (r := none) (h' := ((SHv st dr (z : Int)), (ovl (updC a33 (z + 14 + n) 6 (a33 z 9)) s b))) (fun _ => rfl) ?_
            obtain ⟨a35, ha35⟩ : ∃ x : C3, x = (updC a33 (z + 14 + n) 6 (a33 z 9)) := ⟨_, rfl⟩
            rw [← ha35]
            have B35 := (B33.up (o := (z + 14 + n)) (i := 6) (v := (a33 z 9)) hz (by omega))
            rw [← ha35] at B35
            refine ⟨rfl, _, rfl, ?_⟩
            unfold rulT
            rw [hx25, bnX_o, hx26, bnX_o]
            have eA : argT W S.1 (tC W p0) i26 p26 = bnX (askT W S.1 0 (-1) p26) (fun r => .ok ((((r.1 : Nat) : Int), ((r.1 : Nat) : Int), []), r.2)) := by rw [hlit]; rfl
            try dsimp only
            rw [eA, hx28, bnX_o]
            rw [bnX_o]
            try dsimp only
            rw [hx30, bnX_o, hx33, bnX_e]
            exact Or.inr ⟨_, rfl, B35⟩
        · have B30 := G29.bd X29 (by omega) hb30
          show Ev X _ _ 150 [Vr 114, Vr ((z + 14 + n : Nat) : Int)] [] ((SHv st dr (z : Int)), (ovl a30 s b)) _
          refine Ev.steps (k := 3) (pc' := 155) (L' := [Vr 114, Vr ((z + 14 + n : Nat) : Int)]) (S' := [Vr (z : Int), Vr ((z + 14 + n : Nat) : Int)]) (h' := ((SHv st dr (z : Int)), (ovl a30 s b))) (fun _ => rfl) ?_
          refine Ev.getf (v := (a30 z 9)) rfl rfl (by omega) (shY_0 hz) rfl rfl (ovl_rc (by omega)) ?_
          refine Ev.putf (c' := (ovl (updC a30 (z + 14 + n) 5 (a30 z 9)) s b)) rfl (by omega) (shRu hz (by omega)) rfl rfl (ovl_wc (by omega)) ?_
          obtain ⟨a36, ha36⟩ : ∃ x : C3, x = (updC a30 (z + 14 + n) 5 (a30 z 9)) := ⟨_, rfl⟩
          rw [← ha36]
          have B36 := (B30.up (o := (z + 14 + n)) (i := 5) (v := (a30 z 9)) hz (by omega))
          rw [← ha36] at B36
          refine Ev.call (k := 1) (pc1 := 162) (L1 := [Vr 114, Vr ((z + 14 + n : Nat) : Int)]) (S1 := [Vr 114]) (h1 := ((SHv st dr (z : Int)), (ovl a36 s b))) (m' := 52) (as := [Vr 114]) (S' := []) (L0 := [Vr 114, Vx, Vx]) (fun _ => rfl) rfl rfl rfl rfl rfl rfl (c_test_br hz B36.z) (fun r h' hq => ?_)
          obtain ⟨rfl, a37, rfl, hb37⟩ := hq
          have B37 := B36.tz hb37
          show Ev X _ _ 165 [Vr 114, Vr ((z + 14 + n : Nat) : Int)] [] ((SHv st dr (z : Int)), (ovl a37 s b)) _
          refine Ev.steps (k := 3) (pc' := 170) (L' := [Vr 114, Vr ((z + 14 + n : Nat) : Int)]) (S' := [Vr (z : Int), Vr ((z + 14 + n : Nat) : Int)]) (h' := ((SHv st dr (z : Int)), (ovl a37 s b))) (fun _ => rfl) ?_
          refine Ev.getf (v := (a37 z 9)) rfl rfl (by omega) (shY_0 hz) rfl rfl (ovl_rc (by omega)) ?_
          refine Ev.putf (c' := (ovl (updC a37 (z + 14 + n) 6 (a37 z 9)) s b)) rfl (by omega) (shRu hz (by omega)) rfl rfl (ovl_wc (by omega)) ?_
          refine Ev.fin (k := 1) (r := none) (h' := ((SHv st dr (z : Int)), (ovl (updC a37 (z + 14 + n) 6 (a37 z 9)) s b))) (fun _ => rfl) ?_
          obtain ⟨a38, ha38⟩ : ∃ x : C3, x = (updC a37 (z + 14 + n) 6 (a37 z 9)) := ⟨_, rfl⟩
          rw [← ha38]
          have B38 := (B37.up (o := (z + 14 + n)) (i := 6) (v := (a37 z 9)) hz (by omega))
          rw [← ha38] at B38
          refine ⟨rfl, _, rfl, ?_⟩
          unfold rulT
          rw [hx25, bnX_o, hx26, bnX_o]
          have eA : argT W S.1 (tC W p0) i26 p26 = bnX (askT W S.1 0 (-1) p26) (fun r => .ok ((((r.1 : Nat) : Int), ((r.1 : Nat) : Int), []), r.2)) := by rw [hlit]; rfl
          try dsimp only
          rw [eA, hx28, bnX_o]
          rw [bnX_o]
          try dsimp only
          rw [hx30, bnX_e]
          exact Or.inr ⟨_, rfl, B38⟩
      · have B28 := G27.bd X27 (by omega) hb28
        have F28_0 : a28 (z + 14 + n) 0 = 262 := (congrFun (hb28.1 _ (by omega)) 0).trans F27_0
        show Ev X _ _ 91 [Vr 114, Vr ((z + 14 + n : Nat) : Int)] [Vi v28, Vr ((z + 14 + n : Nat) : Int)] ((SHv st dr (z : Int)), (ovl a28 s b)) _
        refine Ev.putf (c' := (ovl (updC a28 (z + 14 + n) 2 v28) s b)) rfl (by omega) (shRu hz (by omega)) rfl rfl (ovl_wc (by omega)) ?_
        obtain ⟨a39, ha39⟩ : ∃ x : C3, x = (updC a28 (z + 14 + n) 2 v28) := ⟨_, rfl⟩
        rw [← ha39]
        have B39 := (B28.up (o := (z + 14 + n)) (i := 2) (v := v28) hz (by omega))
        rw [← ha39] at B39
        have F39_0 : a39 (z + 14 + n) 0 = 262 := by
          rw [ha39]
          exact (updC_nt (by omega)).trans <| F28_0
        refine Ev.call (k := 3) (pc1 := 147) (L1 := [Vr 114, Vr ((z + 14 + n : Nat) : Int)]) (S1 := [Vi 268, Vr 114]) (h1 := ((SHv st dr (z : Int)), (ovl a39 s b))) (m' := 42) (as := [Vr 114, Vi 268]) (S' := []) (L0 := [Vr 114, Vi 268]) (fun _ => rfl) rfl rfl rfl rfl rfl rfl (c_expect_br B39.2.2.1 268 (by decide)) (fun r h' hq => ?_)
        obtain ⟨rfl, rfl⟩ := hq
        show Ev X _ _ 150 [Vr 114, Vr ((z + 14 + n : Nat) : Int)] [] ((SHv st dr (z : Int)), (ovl a39 s b)) _
        refine Ev.steps (k := 3) (pc' := 155) (L' := [Vr 114, Vr ((z + 14 + n : Nat) : Int)]) (S' := [Vr (z : Int), Vr ((z + 14 + n : Nat) : Int)]) (h' := ((SHv st dr (z : Int)), (ovl a39 s b))) (fun _ => rfl) ?_
        refine Ev.getf (v := (a39 z 9)) rfl rfl (by omega) (shY_0 hz) rfl rfl (ovl_rc (by omega)) ?_
        refine Ev.putf (c' := (ovl (updC a39 (z + 14 + n) 5 (a39 z 9)) s b)) rfl (by omega) (shRu hz (by omega)) rfl rfl (ovl_wc (by omega)) ?_
        obtain ⟨a40, ha40⟩ : ∃ x : C3, x = (updC a39 (z + 14 + n) 5 (a39 z 9)) := ⟨_, rfl⟩
        rw [← ha40]
        have B40 := (B39.up (o := (z + 14 + n)) (i := 5) (v := (a39 z 9)) hz (by omega))
        rw [← ha40] at B40
        have F40_0 : a40 (z + 14 + n) 0 = 262 := by
          rw [ha40]
          exact (updC_nt (by omega)).trans <| F39_0
        refine Ev.call (k := 1) (pc1 := 162) (L1 := [Vr 114, Vr ((z + 14 + n : Nat) : Int)]) (S1 := [Vr 114]) (h1 := ((SHv st dr (z : Int)), (ovl a40 s b))) (m' := 52) (as := [Vr 114]) (S' := []) (L0 := [Vr 114, Vx, Vx]) (fun _ => rfl) rfl rfl rfl rfl rfl rfl (c_test_br hz B40.z) (fun r h' hq => ?_)
        obtain ⟨rfl, a41, rfl, hb41⟩ := hq
        have B41 := B40.tz hb41
        show Ev X _ _ 165 [Vr 114, Vr ((z + 14 + n : Nat) : Int)] [] ((SHv st dr (z : Int)), (ovl a41 s b)) _
        refine Ev.steps (k := 3) (pc' := 170) (L' := [Vr 114, Vr ((z + 14 + n : Nat) : Int)]) (S' := [Vr (z : Int), Vr ((z + 14 + n : Nat) : Int)]) (h' := ((SHv st dr (z : Int)), (ovl a41 s b))) (fun _ => rfl) ?_
        refine Ev.getf (v := (a41 z 9)) rfl rfl (by omega) (shY_0 hz) rfl rfl (ovl_rc (by omega)) ?_
        refine Ev.putf (c' := (ovl (updC a41 (z + 14 + n) 6 (a41 z 9)) s b)) rfl (by omega) (shRu hz (by omega)) rfl rfl (ovl_wc (by omega)) ?_
        refine Ev.fin (k := 1) (r := none) (h' := ((SHv st dr (z : Int)), (ovl (updC a41 (z + 14 + n) 6 (a41 z 9)) s b))) (fun _ => rfl) ?_
        obtain ⟨a42, ha42⟩ : ∃ x : C3, x = (updC a41 (z + 14 + n) 6 (a41 z 9)) := ⟨_, rfl⟩
        rw [← ha42]
        have B42 := (B41.up (o := (z + 14 + n)) (i := 6) (v := (a41 z 9)) hz (by omega))
        rw [← ha42] at B42
        refine ⟨rfl, _, rfl, ?_⟩
        unfold rulT
        rw [hx25, bnX_o, hx26, bnX_o]
        have eA : argT W S.1 (tC W p0) i26 p26 = bnX (askT W S.1 0 (-1) p26) (fun r => .ok ((((r.1 : Nat) : Int), ((r.1 : Nat) : Int), []), r.2)) := by rw [hlit]; rfl
        try dsimp only
        rw [eA, hx28, bnX_e]
        rw [bnX_e]
        exact Or.inr ⟨_, rfl, B42⟩
    · have B26 := G25.bd X25 (by omega) hb26
      have F26_0 : a26 (z + 14 + n) 0 = 262 := (congrFun (hb26.1 _ (by omega)) 0).trans F25_0
      show Ev X _ _ 19 [Vr 114, Vr ((z + 14 + n : Nat) : Int)] [Vi v26, Vr ((z + 14 + n : Nat) : Int)] ((SHv st dr (z : Int)), (ovl a26 s b)) _
      refine Ev.putf (c' := (ovl (updC a26 (z + 14 + n) 1 v26) s b)) rfl (by omega) (shRu hz (by omega)) rfl rfl (ovl_wc (by omega)) ?_
      refine Ev.steps (k := 2) (pc' := 24) (L' := [Vr 114, Vr ((z + 14 + n : Nat) : Int)]) (S' := [Vi (-1), Vr ((z + 14 + n : Nat) : Int)]) (h' := ((SHv st dr (z : Int)), (ovl (updC a26 (z + 14 + n) 1 v26) s b))) (fun _ => rfl) ?_
      refine Ev.putf (c' := (ovl (updC (updC a26 (z + 14 + n) 1 v26) (z + 14 + n) 2 (-1)) s b)) rfl (by omega) (shRu hz (by omega)) rfl rfl (ovl_wc (by omega)) ?_
      refine Ev.steps (k := 2) (pc' := 29) (L' := [Vr 114, Vr ((z + 14 + n : Nat) : Int)]) (S' := [Vi (-1), Vr ((z + 14 + n : Nat) : Int)]) (h' := ((SHv st dr (z : Int)), (ovl (updC (updC a26 (z + 14 + n) 1 v26) (z + 14 + n) 2 (-1)) s b))) (fun _ => rfl) ?_
      refine Ev.putf (c' := (ovl (updC (updC (updC a26 (z + 14 + n) 1 v26) (z + 14 + n) 2 (-1)) (z + 14 + n) 3 (-1)) s b)) rfl (by omega) (shRu hz (by omega)) rfl rfl (ovl_wc (by omega)) ?_
      refine Ev.steps (k := 3) (pc' := 37) (L' := [Vr 114, Vr ((z + 14 + n : Nat) : Int)]) (S' := [Vr (z : Int), Vr ((z + 14 + n : Nat) : Int)]) (h' := ((SHv st dr (z : Int)), (ovl (updC (updC (updC a26 (z + 14 + n) 1 v26) (z + 14 + n) 2 (-1)) (z + 14 + n) 3 (-1)) s b))) (fun _ => rfl) ?_
      refine Ev.getf (v := (a26 z 9)) rfl rfl (by omega) (shY_0 hz) rfl rfl ((ovl_rc (by omega)).trans (by show (updC (updC (updC a26 (z + 14 + n) 1 v26) (z + 14 + n) 2 (-1)) (z + 14 + n) 3 (-1)) z 9 = _; rw [updC_nt (by omega), updC_nt (by omega), updC_nt (by omega)])) ?_
      refine Ev.putf (c' := (ovl (updC (updC (updC (updC a26 (z + 14 + n) 1 v26) (z + 14 + n) 2 (-1)) (z + 14 + n) 3 (-1)) (z + 14 + n) 4 (a26 z 9)) s b)) rfl (by omega) (shRu hz (by omega)) rfl rfl (ovl_wc (by omega)) ?_
      refine Ev.steps (k := 1) (pc' := 44) (L' := [Vr 114, Vr ((z + 14 + n : Nat) : Int)]) (S' := [Vr ((z + 14 + n : Nat) : Int)]) (h' := ((SHv st dr (z : Int)), (ovl (updC (updC (updC (updC a26 (z + 14 + n) 1 v26) (z + 14 + n) 2 (-1)) (z + 14 + n) 3 (-1)) (z + 14 + n) 4 (a26 z 9)) s b))) (fun _ => rfl) ?_
      refine Ev.getf (v := 262) rfl rfl (by omega) (shRu hz (by omega)) rfl rfl (((ovl_rc (by omega)).trans (by show (updC (updC (updC (updC a26 (z + 14 + n) 1 v26) (z + 14 + n) 2 (-1)) (z + 14 + n) 3 (-1)) (z + 14 + n) 4 (a26 z 9)) (z + 14 + n) 0 = _; rw [updC_nt (by omega), updC_nt (by omega), updC_nt (by omega), updC_nt (by omega)])).trans (F26_0)) ?_
      obtain ⟨a43, ha43⟩ : ∃ x : C3, x = (updC (updC (updC (updC a26 (z + 14 + n) 1 v26) (z + 14 + n) 2 (-1)) (z + 14 + n) 3 (-1)) (z + 14 + n) 4 (a26 z 9)) := ⟨_, rfl⟩
      rw [← ha43]
      have B43 := ((((B26.up (o := (z + 14 + n)) (i := 1) (v := v26) hz (by omega)).up (o := (z + 14 + n)) (i := 2) (v := (-1)) hz (by omega)).up (o := (z + 14 + n)) (i := 3) (v := (-1)) hz (by omega)).up (o := (z + 14 + n)) (i := 4) (v := (a26 z 9)) hz (by omega))
      rw [← ha43] at B43
      have F43_0 : a43 (z + 14 + n) 0 = 262 := by
        rw [ha43]
        exact (updC_nt (by omega)).trans <| (updC_nt (by omega)).trans <| (updC_nt (by omega)).trans <| (updC_nt (by omega)).trans <| F26_0
      refine Ev.call (k := 5) (pc1 := 88) (L1 := [Vr 114, Vr ((z + 14 + n : Nat) : Int)]) (S1 := [Vi (-1), Vi 0, Vr 114, Vr ((z + 14 + n : Nat) : Int)]) (h1 := ((SHv st dr (z : Int)), (ovl a43 s b))) (m' := 38) (as := [Vr 114, Vi 0, Vi (-1)]) (S' := [Vr ((z + 14 + n : Nat) : Int)]) (L0 := [Vr 114, Vi 0, Vi (-1), Vx]) (fun _ => rfl) rfl rfl rfl rfl rfl rfl (c_asked_br B43.2.2.1 0 (-1)) (fun r h' hq => ?_)
      obtain ⟨rfl, rfl⟩ := hq
      show Ev X _ _ 91 [Vr 114, Vr ((z + 14 + n : Nat) : Int)] [Vi (-1), Vr ((z + 14 + n : Nat) : Int)] ((SHv st dr (z : Int)), (ovl a43 s b)) _
      refine Ev.putf (c' := (ovl (updC a43 (z + 14 + n) 2 (-1)) s b)) rfl (by omega) (shRu hz (by omega)) rfl rfl (ovl_wc (by omega)) ?_
      obtain ⟨a44, ha44⟩ : ∃ x : C3, x = (updC a43 (z + 14 + n) 2 (-1)) := ⟨_, rfl⟩
      rw [← ha44]
      have B44 := (B43.up (o := (z + 14 + n)) (i := 2) (v := (-1)) hz (by omega))
      rw [← ha44] at B44
      have F44_0 : a44 (z + 14 + n) 0 = 262 := by
        rw [ha44]
        exact (updC_nt (by omega)).trans <| F43_0
      refine Ev.call (k := 3) (pc1 := 147) (L1 := [Vr 114, Vr ((z + 14 + n : Nat) : Int)]) (S1 := [Vi 268, Vr 114]) (h1 := ((SHv st dr (z : Int)), (ovl a44 s b))) (m' := 42) (as := [Vr 114, Vi 268]) (S' := []) (L0 := [Vr 114, Vi 268]) (fun _ => rfl) rfl rfl rfl rfl rfl rfl (c_expect_br B44.2.2.1 268 (by decide)) (fun r h' hq => ?_)
      obtain ⟨rfl, rfl⟩ := hq
      show Ev X _ _ 150 [Vr 114, Vr ((z + 14 + n : Nat) : Int)] [] ((SHv st dr (z : Int)), (ovl a44 s b)) _
      refine Ev.steps (k := 3) (pc' := 155) (L' := [Vr 114, Vr ((z + 14 + n : Nat) : Int)]) (S' := [Vr (z : Int), Vr ((z + 14 + n : Nat) : Int)]) (h' := ((SHv st dr (z : Int)), (ovl a44 s b))) (fun _ => rfl) ?_
      refine Ev.getf (v := (a44 z 9)) rfl rfl (by omega) (shY_0 hz) rfl rfl (ovl_rc (by omega)) ?_
      refine Ev.putf (c' := (ovl (updC a44 (z + 14 + n) 5 (a44 z 9)) s b)) rfl (by omega) (shRu hz (by omega)) rfl rfl (ovl_wc (by omega)) ?_
      obtain ⟨a45, ha45⟩ : ∃ x : C3, x = (updC a44 (z + 14 + n) 5 (a44 z 9)) := ⟨_, rfl⟩
      rw [← ha45]
      have B45 := (B44.up (o := (z + 14 + n)) (i := 5) (v := (a44 z 9)) hz (by omega))
      rw [← ha45] at B45
      have F45_0 : a45 (z + 14 + n) 0 = 262 := by
        rw [ha45]
        exact (updC_nt (by omega)).trans <| F44_0
      refine Ev.call (k := 1) (pc1 := 162) (L1 := [Vr 114, Vr ((z + 14 + n : Nat) : Int)]) (S1 := [Vr 114]) (h1 := ((SHv st dr (z : Int)), (ovl a45 s b))) (m' := 52) (as := [Vr 114]) (S' := []) (L0 := [Vr 114, Vx, Vx]) (fun _ => rfl) rfl rfl rfl rfl rfl rfl (c_test_br hz B45.z) (fun r h' hq => ?_)
      obtain ⟨rfl, a46, rfl, hb46⟩ := hq
      have B46 := B45.tz hb46
      show Ev X _ _ 165 [Vr 114, Vr ((z + 14 + n : Nat) : Int)] [] ((SHv st dr (z : Int)), (ovl a46 s b)) _
      refine Ev.steps (k := 3) (pc' := 170) (L' := [Vr 114, Vr ((z + 14 + n : Nat) : Int)]) (S' := [Vr (z : Int), Vr ((z + 14 + n : Nat) : Int)]) (h' := ((SHv st dr (z : Int)), (ovl a46 s b))) (fun _ => rfl) ?_
      refine Ev.getf (v := (a46 z 9)) rfl rfl (by omega) (shY_0 hz) rfl rfl (ovl_rc (by omega)) ?_
      refine Ev.putf (c' := (ovl (updC a46 (z + 14 + n) 6 (a46 z 9)) s b)) rfl (by omega) (shRu hz (by omega)) rfl rfl (ovl_wc (by omega)) ?_
      refine Ev.fin (k := 1) (r := none) (h' := ((SHv st dr (z : Int)), (ovl (updC a46 (z + 14 + n) 6 (a46 z 9)) s b))) (fun _ => rfl) ?_
      obtain ⟨a47, ha47⟩ : ∃ x : C3, x = (updC a46 (z + 14 + n) 6 (a46 z 9)) := ⟨_, rfl⟩
      rw [← ha47]
      have B47 := (B46.up (o := (z + 14 + n)) (i := 6) (v := (a46 z 9)) hz (by omega))
      rw [← ha47] at B47
      refine ⟨rfl, _, rfl, ?_⟩
      unfold rulT
      rw [hx25, bnX_o, hx26, bnX_e]
      exact Or.inr ⟨_, rfl, B47⟩
  · have B25 := G24.bd X24 (by omega) hb25
    have F25_0 : a25 (z + 14 + n) 0 = 262 := (congrFun (hb25.1 _ (by omega)) 0).trans F24_0
    show Ev X _ _ 12 [Vr 114, Vr ((z + 14 + n : Nat) : Int)] [] ((SHv st dr (z : Int)), (ovl a25 s b)) _
    refine Ev.call (k := 4) (pc1 := 16) (L1 := [Vr 114, Vr ((z + 14 + n : Nat) : Int)]) (S1 := [Vi (-1), Vi 2, Vr 114, Vr ((z + 14 + n : Nat) : Int)]) (h1 := ((SHv st dr (z : Int)), (ovl a25 s b))) (m' := 38) (as := [Vr 114, Vi 2, Vi (-1)]) (S' := [Vr ((z + 14 + n : Nat) : Int)]) (L0 := [Vr 114, Vi 2, Vi (-1), Vx]) (fun _ => rfl) rfl rfl rfl rfl rfl rfl (c_asked_br B25.2.2.1 2 (-1)) (fun r h' hq => ?_)
    obtain ⟨rfl, rfl⟩ := hq
    show Ev X _ _ 19 [Vr 114, Vr ((z + 14 + n : Nat) : Int)] [Vi (-1), Vr ((z + 14 + n : Nat) : Int)] ((SHv st dr (z : Int)), (ovl a25 s b)) _
    refine Ev.putf (c' := (ovl (updC a25 (z + 14 + n) 1 (-1)) s b)) rfl (by omega) (shRu hz (by omega)) rfl rfl (ovl_wc (by omega)) ?_
    refine Ev.steps (k := 2) (pc' := 24) (L' := [Vr 114, Vr ((z + 14 + n : Nat) : Int)]) (S' := [Vi (-1), Vr ((z + 14 + n : Nat) : Int)]) (h' := ((SHv st dr (z : Int)), (ovl (updC a25 (z + 14 + n) 1 (-1)) s b))) (fun _ => rfl) ?_
    refine Ev.putf (c' := (ovl (updC (updC a25 (z + 14 + n) 1 (-1)) (z + 14 + n) 2 (-1)) s b)) rfl (by omega) (shRu hz (by omega)) rfl rfl (ovl_wc (by omega)) ?_
    refine Ev.steps (k := 2) (pc' := 29) (L' := [Vr 114, Vr ((z + 14 + n : Nat) : Int)]) (S' := [Vi (-1), Vr ((z + 14 + n : Nat) : Int)]) (h' := ((SHv st dr (z : Int)), (ovl (updC (updC a25 (z + 14 + n) 1 (-1)) (z + 14 + n) 2 (-1)) s b))) (fun _ => rfl) ?_
    refine Ev.putf (c' := (ovl (updC (updC (updC a25 (z + 14 + n) 1 (-1)) (z + 14 + n) 2 (-1)) (z + 14 + n) 3 (-1)) s b)) rfl (by omega) (shRu hz (by omega)) rfl rfl (ovl_wc (by omega)) ?_
    refine Ev.steps (k := 3) (pc' := 37) (L' := [Vr 114, Vr ((z + 14 + n : Nat) : Int)]) (S' := [Vr (z : Int), Vr ((z + 14 + n : Nat) : Int)]) (h' := ((SHv st dr (z : Int)), (ovl (updC (updC (updC a25 (z + 14 + n) 1 (-1)) (z + 14 + n) 2 (-1)) (z + 14 + n) 3 (-1)) s b))) (fun _ => rfl) ?_
    refine Ev.getf (v := (a25 z 9)) rfl rfl (by omega) (shY_0 hz) rfl rfl ((ovl_rc (by omega)).trans (by show (updC (updC (updC a25 (z + 14 + n) 1 (-1)) (z + 14 + n) 2 (-1)) (z + 14 + n) 3 (-1)) z 9 = _; rw [updC_nt (by omega), updC_nt (by omega), updC_nt (by omega)])) ?_
    refine Ev.putf (c' := (ovl (updC (updC (updC (updC a25 (z + 14 + n) 1 (-1)) (z + 14 + n) 2 (-1)) (z + 14 + n) 3 (-1)) (z + 14 + n) 4 (a25 z 9)) s b)) rfl (by omega) (shRu hz (by omega)) rfl rfl (ovl_wc (by omega)) ?_
    refine Ev.steps (k := 1) (pc' := 44) (L' := [Vr 114, Vr ((z + 14 + n : Nat) : Int)]) (S' := [Vr ((z + 14 + n : Nat) : Int)]) (h' := ((SHv st dr (z : Int)), (ovl (updC (updC (updC (updC a25 (z + 14 + n) 1 (-1)) (z + 14 + n) 2 (-1)) (z + 14 + n) 3 (-1)) (z + 14 + n) 4 (a25 z 9)) s b))) (fun _ => rfl) ?_
    refine Ev.getf (v := 262) rfl rfl (by omega) (shRu hz (by omega)) rfl rfl (((ovl_rc (by omega)).trans (by show (updC (updC (updC (updC a25 (z + 14 + n) 1 (-1)) (z + 14 + n) 2 (-1)) (z + 14 + n) 3 (-1)) (z + 14 + n) 4 (a25 z 9)) (z + 14 + n) 0 = _; rw [updC_nt (by omega), updC_nt (by omega), updC_nt (by omega), updC_nt (by omega)])).trans (F25_0)) ?_
    obtain ⟨a48, ha48⟩ : ∃ x : C3, x = (updC (updC (updC (updC a25 (z + 14 + n) 1 (-1)) (z + 14 + n) 2 (-1)) (z + 14 + n) 3 (-1)) (z + 14 + n) 4 (a25 z 9)) := ⟨_, rfl⟩
    rw [← ha48]
    have B48 := ((((B25.up (o := (z + 14 + n)) (i := 1) (v := (-1)) hz (by omega)).up (o := (z + 14 + n)) (i := 2) (v := (-1)) hz (by omega)).up (o := (z + 14 + n)) (i := 3) (v := (-1)) hz (by omega)).up (o := (z + 14 + n)) (i := 4) (v := (a25 z 9)) hz (by omega))
    rw [← ha48] at B48
    have F48_0 : a48 (z + 14 + n) 0 = 262 := by
      rw [ha48]
      exact (updC_nt (by omega)).trans <| (updC_nt (by omega)).trans <| (updC_nt (by omega)).trans <| (updC_nt (by omega)).trans <| F25_0
    refine Ev.call (k := 5) (pc1 := 88) (L1 := [Vr 114, Vr ((z + 14 + n : Nat) : Int)]) (S1 := [Vi (-1), Vi 0, Vr 114, Vr ((z + 14 + n : Nat) : Int)]) (h1 := ((SHv st dr (z : Int)), (ovl a48 s b))) (m' := 38) (as := [Vr 114, Vi 0, Vi (-1)]) (S' := [Vr ((z + 14 + n : Nat) : Int)]) (L0 := [Vr 114, Vi 0, Vi (-1), Vx]) (fun _ => rfl) rfl rfl rfl rfl rfl rfl (c_asked_br B48.2.2.1 0 (-1)) (fun r h' hq => ?_)
    obtain ⟨rfl, rfl⟩ := hq
    show Ev X _ _ 91 [Vr 114, Vr ((z + 14 + n : Nat) : Int)] [Vi (-1), Vr ((z + 14 + n : Nat) : Int)] ((SHv st dr (z : Int)), (ovl a48 s b)) _
    refine Ev.putf (c' := (ovl (updC a48 (z + 14 + n) 2 (-1)) s b)) rfl (by omega) (shRu hz (by omega)) rfl rfl (ovl_wc (by omega)) ?_
    obtain ⟨a49, ha49⟩ : ∃ x : C3, x = (updC a48 (z + 14 + n) 2 (-1)) := ⟨_, rfl⟩
    rw [← ha49]
    have B49 := (B48.up (o := (z + 14 + n)) (i := 2) (v := (-1)) hz (by omega))
    rw [← ha49] at B49
    have F49_0 : a49 (z + 14 + n) 0 = 262 := by
      rw [ha49]
      exact (updC_nt (by omega)).trans <| F48_0
    refine Ev.call (k := 3) (pc1 := 147) (L1 := [Vr 114, Vr ((z + 14 + n : Nat) : Int)]) (S1 := [Vi 268, Vr 114]) (h1 := ((SHv st dr (z : Int)), (ovl a49 s b))) (m' := 42) (as := [Vr 114, Vi 268]) (S' := []) (L0 := [Vr 114, Vi 268]) (fun _ => rfl) rfl rfl rfl rfl rfl rfl (c_expect_br B49.2.2.1 268 (by decide)) (fun r h' hq => ?_)
    obtain ⟨rfl, rfl⟩ := hq
    show Ev X _ _ 150 [Vr 114, Vr ((z + 14 + n : Nat) : Int)] [] ((SHv st dr (z : Int)), (ovl a49 s b)) _
    refine Ev.steps (k := 3) (pc' := 155) (L' := [Vr 114, Vr ((z + 14 + n : Nat) : Int)]) (S' := [Vr (z : Int), Vr ((z + 14 + n : Nat) : Int)]) (h' := ((SHv st dr (z : Int)), (ovl a49 s b))) (fun _ => rfl) ?_
    refine Ev.getf (v := (a49 z 9)) rfl rfl (by omega) (shY_0 hz) rfl rfl (ovl_rc (by omega)) ?_
    refine Ev.putf (c' := (ovl (updC a49 (z + 14 + n) 5 (a49 z 9)) s b)) rfl (by omega) (shRu hz (by omega)) rfl rfl (ovl_wc (by omega)) ?_
    obtain ⟨a50, ha50⟩ : ∃ x : C3, x = (updC a49 (z + 14 + n) 5 (a49 z 9)) := ⟨_, rfl⟩
    rw [← ha50]
    have B50 := (B49.up (o := (z + 14 + n)) (i := 5) (v := (a49 z 9)) hz (by omega))
    rw [← ha50] at B50
    have F50_0 : a50 (z + 14 + n) 0 = 262 := by
      rw [ha50]
      exact (updC_nt (by omega)).trans <| F49_0
    refine Ev.call (k := 1) (pc1 := 162) (L1 := [Vr 114, Vr ((z + 14 + n : Nat) : Int)]) (S1 := [Vr 114]) (h1 := ((SHv st dr (z : Int)), (ovl a50 s b))) (m' := 52) (as := [Vr 114]) (S' := []) (L0 := [Vr 114, Vx, Vx]) (fun _ => rfl) rfl rfl rfl rfl rfl rfl (c_test_br hz B50.z) (fun r h' hq => ?_)
    obtain ⟨rfl, a51, rfl, hb51⟩ := hq
    have B51 := B50.tz hb51
    show Ev X _ _ 165 [Vr 114, Vr ((z + 14 + n : Nat) : Int)] [] ((SHv st dr (z : Int)), (ovl a51 s b)) _
    refine Ev.steps (k := 3) (pc' := 170) (L' := [Vr 114, Vr ((z + 14 + n : Nat) : Int)]) (S' := [Vr (z : Int), Vr ((z + 14 + n : Nat) : Int)]) (h' := ((SHv st dr (z : Int)), (ovl a51 s b))) (fun _ => rfl) ?_
    refine Ev.getf (v := (a51 z 9)) rfl rfl (by omega) (shY_0 hz) rfl rfl (ovl_rc (by omega)) ?_
    refine Ev.putf (c' := (ovl (updC a51 (z + 14 + n) 6 (a51 z 9)) s b)) rfl (by omega) (shRu hz (by omega)) rfl rfl (ovl_wc (by omega)) ?_
    refine Ev.fin (k := 1) (r := none) (h' := ((SHv st dr (z : Int)), (ovl (updC a51 (z + 14 + n) 6 (a51 z 9)) s b))) (fun _ => rfl) ?_
    obtain ⟨a52, ha52⟩ : ∃ x : C3, x = (updC a51 (z + 14 + n) 6 (a51 z 9)) := ⟨_, rfl⟩
    rw [← ha52]
    have B52 := (B51.up (o := (z + 14 + n)) (i := 6) (v := (a51 z 9)) hz (by omega))
    rw [← ha52] at B52
    refine ⟨rfl, _, rfl, ?_⟩
    unfold rulT
    rw [hx25, bnX_e]
    exact Or.inr ⟨_, rfl, B52⟩
theorem c_ruled_263 {X : List Int} {st dr : Int} {s b : C3} {W : TXT} {S : STY} {z : Nat} (hz : hyS z) {n : Nat} (d : Nat) (a0 : C3) (p0 c0 : Nat) (hd : 400 ≤ d) (X0 : XoC W S.1 z p0 c0 8 a0) (P0 : PaC S a0 z c0) (hC : nC S ≤ 12) (hc0 : c0 ≤ p0) (hlit : tC W p0 = 263) (hn0 : S.1 0 4 = (n : Int)) (h8 : n < 30) : Ev X d 45 0 [Vr 114, Vr ((z + 14 + n : Nat) : Int)] [] (SHv st dr (z : Int), ovl a0 s b) (PoB st dr s b W S z 4 n a0 (rulT W S p0)) := by
  have hz1 := z11 hz
  have hz0 : z = 2 ∨ z = 58 := hz
  obtain ⟨d, rfl⟩ : ∃ d1, d = d1 + 400 := ⟨d - 400, by omega⟩
  have Q0 := X0.le
  have G0 : Gq z (z + 14 + n) (z + 14 + n) c0 a0 a0 := ⟨by omega, by omega, fun _ _ _ _ _ _ => rfl, fun _ _ => rfl⟩
  refine Ev.steps (k := 3) (pc' := 5) (L' := [Vr 114, Vr ((z + 14 + n : Nat) : Int)]) (S' := [Vi (a0 114 5), Vr ((z + 14 + n : Nat) : Int)]) (h' := ((SHv st dr (z : Int)), (ovl a0 s b))) (fun _ => rfl) ?_
  rw [(X0.t5.trans (show ((tC W p0 : Nat) : Int) = 263 by omega))]
  refine Ev.putf (c' := (ovl (updC a0 (z + 14 + n) 0 263) s b)) rfl (by omega) (shRu hz (by omega)) rfl rfl (ovl_wc (by omega)) ?_
  obtain ⟨a53, ha53⟩ : ∃ x : C3, x = (updC a0 (z + 14 + n) 0 263) := ⟨_, rfl⟩
  rw [← ha53]
  have X53 := (X0.up (o := (z + 14 + n)) (i := 0) (v := 263) (by omega))
  have G53 := (G0.up (o := (z + 14 + n)) (i := 0) (v := 263) (by omega))
  rw [← ha53] at X53 G53
  have Q53 := X53.le
  have F53_0 : a53 (z + 14 + n) 0 = 263 := by
    rw [ha53]
    exact updC_sm
  refine Ev.call (k := 1) (pc1 := 9) (L1 := [Vr 114, Vr ((z + 14 + n : Nat) : Int)]) (S1 := [Vr 114]) (h1 := ((SHv st dr (z : Int)), (ovl a53 s b))) (m' := 27) (as := [Vr 114]) (S' := []) (L0 := [Vr 114, Vx, Vx, Vx, Vx]) (fun _ => rfl) rfl rfl rfl rfl rfl rfl (c_next X53.1) (fun r h' hq => ?_)
  obtain ⟨rfl, a54, rfl, hq⟩ := hq
  rcases hq with ⟨p54, hx54, ho54⟩ | ⟨e54, hx54, hb54⟩
  · have X54 := X53.nx ho54
    have L54 : p0 < p54 := X53.lt (by omega) hx54
    have G54 := G53.tr (ho54.1.gz (c := c0) X53.hz) (by omega)
    have R54 : a54 (z + 11) = a53 (z + 11) := ho54.1 _ (by omega)
    have Q54 := X54.le
    have F54_0 : a54 (z + 14 + n) 0 = 263 := (congrFun (ho54.1 _ (by omega)) 0).trans F53_0
    show Ev X _ _ 12 [Vr 114, Vr ((z + 14 + n : Nat) : Int)] [] ((SHv st dr (z : Int)), (ovl a54 s b)) _
    refine Ev.call (k := 4) (pc1 := 16) (L1 := [Vr 114, Vr ((z + 14 + n : Nat) : Int)]) (S1 := [Vi (-1), Vi 2, Vr 114, Vr ((z + 14 + n : Nat) : Int)]) (h1 := ((SHv st dr (z : Int)), (ovl a54 s b))) (m' := 38) (as := [Vr 114, Vi 2, Vi (-1)]) (S' := [Vr ((z + 14 + n : Nat) : Int)]) (L0 := [Vr 114, Vi 2, Vi (-1), Vx]) (fun _ => rfl) rfl rfl rfl rfl rfl rfl (c_asked X54.hz X54.1 (kd := 1) (q := 2) X54.2.1 (by decide) rfl (-1) rfl) (fun r h' hq => ?_)
    obtain ⟨a55, rfl, hq⟩ := hq
    rcases hq with ⟨⟨i55, p55⟩, hx55, rfl, ho55⟩ | ⟨e55, hx55, ⟨v55, rfl, hv55⟩, hb55⟩
    · have K55 := ask_ok hx55
      dsimp only at K55 ho55
      have X55 := X54.nx ho55
      have L55 : p54 < p55 := by
        rw [show p55 = tE W p54 from K55.2.2.2.2.1]
        exact tok_lt X54.le.1 X54.1.1.1 (by omega) (by omega)
      have I55 := K55.2.2.1
      have J55 := (X54.2.1 1 (by decide)).1
      have G55 := G54.tr (ho55.1.gz (c := c0) X54.hz) (by omega)
      have R55 : a55 (z + 11) = a54 (z + 11) := ho55.1 _ (by omega)
      have Q55 := X55.le
      clear K55
      have F55_0 : a55 (z + 14 + n) 0 = 263 := (congrFun (ho55.1 _ (by omega)) 0).trans F54_0
      show Ev X _ _ 19 [Vr 114, Vr ((z + 14 + n : Nat) : Int)] [Vi ((i55 : Nat) : Int), Vr ((z + 14 + n : Nat) : Int)] ((SHv st dr (z : Int)), (ovl a55 s b)) _
      refine Ev.putf (c' := (ovl (updC a55 (z + 14 + n) 1 ((i55 : Nat) : Int)) s b)) rfl (by omega) (shRu hz (by omega)) rfl rfl (ovl_wc (by omega)) ?_
      refine Ev.steps (k := 2) (pc' := 24) (L' := [Vr 114, Vr ((z + 14 + n : Nat) : Int)]) (S' := [Vi (-1), Vr ((z + 14 + n : Nat) : Int)]) (h' := ((SHv st dr (z : Int)), (ovl (updC a55 (z + 14 + n) 1 ((i55 : Nat) : Int)) s b))) (fun _ => rfl) ?_
      refine Ev.putf (c' := (ovl (updC (updC a55 (z + 14 + n) 1 ((i55 : Nat) : Int)) (z + 14 + n) 2 (-1)) s b)) rfl (by omega) (shRu hz (by omega)) rfl rfl (ovl_wc (by omega)) ?_
      refine Ev.steps (k := 2) (pc' := 29) (L' := [Vr 114, Vr ((z + 14 + n : Nat) : Int)]) (S' := [Vi (-1), Vr ((z + 14 + n : Nat) : Int)]) (h' := ((SHv st dr (z : Int)), (ovl (updC (updC a55 (z + 14 + n) 1 ((i55 : Nat) : Int)) (z + 14 + n) 2 (-1)) s b))) (fun _ => rfl) ?_
      refine Ev.putf (c' := (ovl (updC (updC (updC a55 (z + 14 + n) 1 ((i55 : Nat) : Int)) (z + 14 + n) 2 (-1)) (z + 14 + n) 3 (-1)) s b)) rfl (by omega) (shRu hz (by omega)) rfl rfl (ovl_wc (by omega)) ?_
      refine Ev.steps (k := 3) (pc' := 37) (L' := [Vr 114, Vr ((z + 14 + n : Nat) : Int)]) (S' := [Vr (z : Int), Vr ((z + 14 + n : Nat) : Int)]) (h' := ((SHv st dr (z : Int)), (ovl (updC (updC (updC a55 (z + 14 + n) 1 ((i55 : Nat) : Int)) (z + 14 + n) 2 (-1)) (z + 14 + n) 3 (-1)) s b))) (fun _ => rfl) ?_
      refine Ev.getf (v := ((c0 : Nat) : Int)) rfl rfl (by omega) (shY_0 hz) rfl rfl (((ovl_rc (by omega)).trans (by show (updC (updC (updC a55 (z + 14 + n) 1 ((i55 : Nat) : Int)) (z + 14 + n) 2 (-1)) (z + 14 + n) 3 (-1)) z 9 = _; rw [updC_nt (by omega), updC_nt (by omega), updC_nt (by omega)])).trans (X55.2.2.1)) ?_
      refine Ev.putf (c' := (ovl (updC (updC (updC (updC a55 (z + 14 + n) 1 ((i55 : Nat) : Int)) (z + 14 + n) 2 (-1)) (z + 14 + n) 3 (-1)) (z + 14 + n) 4 ((c0 : Nat) : Int)) s b)) rfl (by omega) (shRu hz (by omega)) rfl rfl (ovl_wc (by omega)) ?_
      refine Ev.steps (k := 1) (pc' := 44) (L' := [Vr 114, Vr ((z + 14 + n : Nat) : Int)]) (S' := [Vr ((z + 14 + n : Nat) : Int)]) (h' := ((SHv st dr (z : Int)), (ovl (updC (updC (updC (updC a55 (z + 14 + n) 1 ((i55 : Nat) : Int)) (z + 14 + n) 2 (-1)) (z + 14 + n) 3 (-1)) (z + 14 + n) 4 ((c0 : Nat) : Int)) s b))) (fun _ => rfl) ?_
      refine Ev.getf (v := 263) rfl rfl (by omega) (shRu hz (by omega)) rfl rfl (((ovl_rc (by omega)).trans (by show (updC (updC (updC (updC a55 (z + 14 + n) 1 ((i55 : Nat) : Int)) (z + 14 + n) 2 (-1)) (z + 14 + n) 3 (-1)) (z + 14 + n) 4 ((c0 : Nat) : Int)) (z + 14 + n) 0 = _; rw [updC_nt (by omega), updC_nt (by omega), updC_nt (by omega), updC_nt (by omega)])).trans (F55_0)) ?_
      obtain ⟨a56, ha56⟩ : ∃ x : C3, x = (updC (updC (updC (updC a55 (z + 14 + n) 1 ((i55 : Nat) : Int)) (z + 14 + n) 2 (-1)) (z + 14 + n) 3 (-1)) (z + 14 + n) 4 ((c0 : Nat) : Int)) := ⟨_, rfl⟩
      rw [← ha56]
      have X56 := ((((X55.up (o := (z + 14 + n)) (i := 1) (v := ((i55 : Nat) : Int)) (by omega)).up (o := (z + 14 + n)) (i := 2) (v := (-1)) (by omega)).up (o := (z + 14 + n)) (i := 3) (v := (-1)) (by omega)).up (o := (z + 14 + n)) (i := 4) (v := ((c0 : Nat) : Int)) (by omega))
      have G56 := ((((G55.up (o := (z + 14 + n)) (i := 1) (v := ((i55 : Nat) : Int)) (by omega)).up (o := (z + 14 + n)) (i := 2) (v := (-1)) (by omega)).up (o := (z + 14 + n)) (i := 3) (v := (-1)) (by omega)).up (o := (z + 14 + n)) (i := 4) (v := ((c0 : Nat) : Int)) (by omega))
      rw [← ha56] at X56 G56
      have Q56 := X56.le
      have F56_0 : a56 (z + 14 + n) 0 = 263 := by
        rw [ha56]
        exact (updC_nt (by omega)).trans <| (updC_nt (by omega)).trans <| (updC_nt (by omega)).trans <| (updC_nt (by omega)).trans <| F55_0
      have F56_1 : a56 (z + 14 + n) 1 = ((i55 : Nat) : Int) := by
        rw [ha56]
        exact (updC_nt (by omega)).trans <| (updC_nt (by omega)).trans <| (updC_nt (by omega)).trans <| updC_sm
      have F56_2 : a56 (z + 14 + n) 2 = (-1) := by
        rw [ha56]
        exact (updC_nt (by omega)).trans <| (updC_nt (by omega)).trans <| updC_sm
      have F56_3 : a56 (z + 14 + n) 3 = (-1) := by
        rw [ha56]
        exact (updC_nt (by omega)).trans <| updC_sm
      have F56_4 : a56 (z + 14 + n) 4 = ((c0 : Nat) : Int) := by
        rw [ha56]
        exact updC_sm
      refine Ev.call (k := 5) (pc1 := 101) (L1 := [Vr 114, Vr ((z + 14 + n : Nat) : Int)]) (S1 := [Vi (-1), Vi 3, Vr 114, Vr ((z + 14 + n : Nat) : Int)]) (h1 := ((SHv st dr (z : Int)), (ovl a56 s b))) (m' := 38) (as := [Vr 114, Vi 3, Vi (-1)]) (S' := [Vr ((z + 14 + n : Nat) : Int)]) (L0 := [Vr 114, Vi 3, Vi (-1), Vx]) (fun _ => rfl) rfl rfl rfl rfl rfl rfl (c_asked X56.hz X56.1 (kd := 2) (q := 3) X56.2.1 (by decide) rfl (-1) rfl) (fun r h' hq => ?_)
      obtain ⟨a57, rfl, hq⟩ := hq
      rcases hq with ⟨⟨i57, p57⟩, hx57, rfl, ho57⟩ | ⟨e57, hx57, ⟨v57, rfl, hv57⟩, hb57⟩
      · have K57 := ask_ok hx57
        dsimp only at K57 ho57
        have X57 := X56.nx ho57
        have L57 : p55 < p57 := by
          rw [show p57 = tE W p55 from K57.2.2.2.2.1]
          exact tok_lt X56.le.1 X56.1.1.1 (by omega) (by omega)
        have I57 := K57.2.2.1
        have J57 := (X56.2.1 2 (by decide)).1
        have G57 := G56.tr (ho57.1.gz (c := c0) X56.hz) (by omega)
        have R57 : a57 (z + 11) = a56 (z + 11) := ho57.1 _ (by omega)
        have Q57 := X57.le
        clear K57
        have F57_0 : a57 (z + 14 + n) 0 = 263 := (congrFun (ho57.1 _ (by omega)) 0).trans F56_0
        have F57_1 : a57 (z + 14 + n) 1 = ((i55 : Nat) : Int) := (congrFun (ho57.1 _ (by omega)) 1).trans F56_1
        have F57_2 : a57 (z + 14 + n) 2 = (-1) := (congrFun (ho57.1 _ (by omega)) 2).trans F56_2
        have F57_3 : a57 (z + 14 + n) 3 = (-1) := (congrFun (ho57.1 _ (by omega)) 3).trans F56_3
        have F57_4 : a57 (z + 14 + n) 4 = ((c0 : Nat) : Int) := (congrFun (ho57.1 _ (by omega)) 4).trans F56_4
        show Ev X _ _ 104 [Vr 114, Vr ((z + 14 + n : Nat) : Int)] [Vi ((i57 : Nat) : Int), Vr ((z + 14 + n : Nat) : Int)] ((SHv st dr (z : Int)), (ovl a57 s b)) _
        refine Ev.putf (c' := (ovl (updC a57 (z + 14 + n) 2 ((i57 : Nat) : Int)) s b)) rfl (by omega) (shRu hz (by omega)) rfl rfl (ovl_wc (by omega)) ?_
        obtain ⟨a58, ha58⟩ : ∃ x : C3, x = (updC a57 (z + 14 + n) 2 ((i57 : Nat) : Int)) := ⟨_, rfl⟩
        rw [← ha58]
        have X58 := (X57.up (o := (z + 14 + n)) (i := 2) (v := ((i57 : Nat) : Int)) (by omega))
        have G58 := (G57.up (o := (z + 14 + n)) (i := 2) (v := ((i57 : Nat) : Int)) (by omega))
        rw [← ha58] at X58 G58
        have Q58 := X58.le
        have F58_0 : a58 (z + 14 + n) 0 = 263 := by
          rw [ha58]
          exact (updC_nt (by omega)).trans <| F57_0
        have F58_1 : a58 (z + 14 + n) 1 = ((i55 : Nat) : Int) := by
          rw [ha58]
          exact (updC_nt (by omega)).trans <| F57_1
        have F58_2 : a58 (z + 14 + n) 2 = ((i57 : Nat) : Int) := by
          rw [ha58]
          exact updC_sm
        have F58_3 : a58 (z + 14 + n) 3 = (-1) := by
          rw [ha58]
          exact (updC_nt (by omega)).trans <| F57_3
        have F58_4 : a58 (z + 14 + n) 4 = ((c0 : Nat) : Int) := by
          rw [ha58]
          exact (updC_nt (by omega)).trans <| F57_4
        refine Ev.call (k := 3) (pc1 := 147) (L1 := [Vr 114, Vr ((z + 14 + n : Nat) : Int)]) (S1 := [Vi 268, Vr 114]) (h1 := ((SHv st dr (z : Int)), (ovl a58 s b))) (m' := 42) (as := [Vr 114, Vi 268]) (S' := []) (L0 := [Vr 114, Vi 268]) (fun _ => rfl) rfl rfl rfl rfl rfl rfl (c_expect X58.1 268) (fun r h' hq => ?_)
        obtain ⟨rfl, a59, rfl, hq⟩ := hq
        rcases hq with ⟨p59, hx59, ho59⟩ | ⟨e59, hx59, hb59⟩
        · have X59 := X58.nx ho59
          have L59 : p57 < p59 := by
            obtain ⟨h1, h2⟩ := exp_ok hx59
            exact X58.lt (by omega) (by unfold expT at hx59; rwa [if_neg (by omega)] at hx59)
          have G59 := G58.tr (ho59.1.gz (c := c0) X58.hz) (by omega)
          have R59 : a59 (z + 11) = a58 (z + 11) := ho59.1 _ (by omega)
          have Q59 := X59.le
          have F59_0 : a59 (z + 14 + n) 0 = 263 := (congrFun (ho59.1 _ (by omega)) 0).trans F58_0
          have F59_1 : a59 (z + 14 + n) 1 = ((i55 : Nat) : Int) := (congrFun (ho59.1 _ (by omega)) 1).trans F58_1
          have F59_2 : a59 (z + 14 + n) 2 = ((i57 : Nat) : Int) := (congrFun (ho59.1 _ (by omega)) 2).trans F58_2
          have F59_3 : a59 (z + 14 + n) 3 = (-1) := (congrFun (ho59.1 _ (by omega)) 3).trans F58_3
          have F59_4 : a59 (z + 14 + n) 4 = ((c0 : Nat) : Int) := (congrFun (ho59.1 _ (by omega)) 4).trans F58_4
          show Ev X _ _ 150 [Vr 114, Vr ((z + 14 + n : Nat) : Int)] [] ((SHv st dr (z : Int)), (ovl a59 s b)) _
          refine Ev.steps (k := 3) (pc' := 155) (L' := [Vr 114, Vr ((z + 14 + n : Nat) : Int)]) (S' := [Vr (z : Int), Vr ((z + 14 + n : Nat) : Int)]) (h' := ((SHv st dr (z : Int)), (ovl a59 s b))) (fun _ => rfl) ?_
          refine Ev.getf (v := ((c0 : Nat) : Int)) rfl rfl (by omega) (shY_0 hz) rfl rfl ((ovl_rc (by omega)).trans (X59.2.2.1)) ?_
          refine Ev.putf (c' := (ovl (updC a59 (z + 14 + n) 5 ((c0 : Nat) : Int)) s b)) rfl (by omega) (shRu hz (by omega)) rfl rfl (ovl_wc (by omega)) ?_
          obtain ⟨a60, ha60⟩ : ∃ x : C3, x = (updC a59 (z + 14 + n) 5 ((c0 : Nat) : Int)) := ⟨_, rfl⟩
          rw [← ha60]
          have X60 := (X59.up (o := (z + 14 + n)) (i := 5) (v := ((c0 : Nat) : Int)) (by omega))
          have G60 := (G59.up (o := (z + 14 + n)) (i := 5) (v := ((c0 : Nat) : Int)) (by omega))
          rw [← ha60] at X60 G60
          have Q60 := X60.le
          have F60_0 : a60 (z + 14 + n) 0 = 263 := by
            rw [ha60]
            exact (updC_nt (by omega)).trans <| F59_0
          have F60_1 : a60 (z + 14 + n) 1 = ((i55 : Nat) : Int) := by
            rw [ha60]
            exact (updC_nt (by omega)).trans <| F59_1
          have F60_2 : a60 (z + 14 + n) 2 = ((i57 : Nat) : Int) := by
            rw [ha60]
            exact (updC_nt (by omega)).trans <| F59_2
          have F60_3 : a60 (z + 14 + n) 3 = (-1) := by
            rw [ha60]
            exact (updC_nt (by omega)).trans <| F59_3
          have F60_4 : a60 (z + 14 + n) 4 = ((c0 : Nat) : Int) := by
            rw [ha60]
            exact (updC_nt (by omega)).trans <| F59_4
          have F60_5 : a60 (z + 14 + n) 5 = ((c0 : Nat) : Int) := by
            rw [ha60]
            exact updC_sm
          refine Ev.call (k := 1) (pc1 := 162) (L1 := [Vr 114, Vr ((z + 14 + n : Nat) : Int)]) (S1 := [Vr 114]) (h1 := ((SHv st dr (z : Int)), (ovl a60 s b))) (m' := 52) (as := [Vr 114]) (S' := []) (L0 := [Vr 114, Vx, Vx]) (fun _ => rfl) rfl rfl rfl rfl rfl rfl (c_tstT hz 8 _ _ _ _ (by omega) X60 (by omega)) (fun r h' hq => ?_)
          obtain ⟨rfl, a62, rfl, hq⟩ := hq
          rcases hq with ⟨⟨l62, p62⟩, hx62, c62, X62, g62, o62, h62⟩ | ⟨e62, hx62, hb62⟩
          · dsimp only at h62 X62 o62
            have L62 := o62.lt
            have G62 := G60.tr g62 (by omega)
            have Q62 := X62.le
            have F62_0 : a62 (z + 14 + n) 0 = 263 := (congrFun (g62.1 _ (by omega) (by omega) (by omega)) 0).trans F60_0
            have F62_1 : a62 (z + 14 + n) 1 = ((i55 : Nat) : Int) := (congrFun (g62.1 _ (by omega) (by omega) (by omega)) 1).trans F60_1
            have F62_2 : a62 (z + 14 + n) 2 = ((i57 : Nat) : Int) := (congrFun (g62.1 _ (by omega) (by omega) (by omega)) 2).trans F60_2
            have F62_3 : a62 (z + 14 + n) 3 = (-1) := (congrFun (g62.1 _ (by omega) (by omega) (by omega)) 3).trans F60_3
            have F62_4 : a62 (z + 14 + n) 4 = ((c0 : Nat) : Int) := (congrFun (g62.1 _ (by omega) (by omega) (by omega)) 4).trans F60_4
            have F62_5 : a62 (z + 14 + n) 5 = ((c0 : Nat) : Int) := (congrFun (g62.1 _ (by omega) (by omega) (by omega)) 5).trans F60_5
            show Ev X _ _ 165 [Vr 114, Vr ((z + 14 + n : Nat) : Int)] [] ((SHv st dr (z : Int)), (ovl a62 s b)) _
            refine Ev.steps (k := 3) (pc' := 170) (L' := [Vr 114, Vr ((z + 14 + n : Nat) : Int)]) (S' := [Vr (z : Int), Vr ((z + 14 + n : Nat) : Int)]) (h' := ((SHv st dr (z : Int)), (ovl a62 s b))) (fun _ => rfl) ?_
            refine Ev.getf (v := ((c62 : Nat) : Int)) rfl rfl (by omega) (shY_0 hz) rfl rfl ((ovl_rc (by omega)).trans (X62.2.2.1)) ?_
            refine Ev.putf (c' := (ovl (updC a62 (z + 14 + n) 6 ((c62 : Nat) : Int)) s b)) rfl (by omega) (shRu hz (by omega)) rfl rfl (ovl_wc (by omega)) ?_
            refine Ev.fin (k := 1) (r := none) (h' := ((SHv st dr (z : Int)), (ovl (updC a62 (z + 14 + n) 6 ((c62 : Nat) : Int)) s b))) (fun _ => rfl) ?_
            obtain ⟨a63, ha63⟩ : ∃ x : C3, x = (updC a62 (z + 14 + n) 6 ((c62 : Nat) : Int)) := ⟨_, rfl⟩
            rw [← ha63]
            have X63 := (X62.up (o := (z + 14 + n)) (i := 6) (v := ((c62 : Nat) : Int)) (by omega))
            have G63 := (G62.up (o := (z + 14 + n)) (i := 6) (v := ((c62 : Nat) : Int)) (by omega))
            rw [← ha63] at X63 G63
            have Q63 := X63.le
            have F63_0 : a63 (z + 14 + n) 0 = 263 := by
              rw [ha63]
              exact (updC_nt (by omega)).trans <| F62_0
            have F63_1 : a63 (z + 14 + n) 1 = ((i55 : Nat) : Int) := by
              rw [ha63]
              exact (updC_nt (by omega)).trans <| F62_1
            have F63_2 : a63 (z + 14 + n) 2 = ((i57 : Nat) : Int) := by
              rw [ha63]
              exact (updC_nt (by omega)).trans <| F62_2
            have F63_3 : a63 (z + 14 + n) 3 = (-1) := by
              rw [ha63]
              exact (updC_nt (by omega)).trans <| F62_3
            have F63_4 : a63 (z + 14 + n) 4 = ((c0 : Nat) : Int) := by
              rw [ha63]
              exact (updC_nt (by omega)).trans <| F62_4
            have F63_5 : a63 (z + 14 + n) 5 = ((c0 : Nat) : Int) := by
              rw [ha63]
              exact (updC_nt (by omega)).trans <| F62_5
            have F63_6 : a63 (z + 14 + n) 6 = ((c62 : Nat) : Int) := by
              rw [ha63]
              exact updC_sm
            refine ⟨rfl, _, rfl, ?_⟩
            unfold rulT
            rw [hx54, bnX_o, hx55, bnX_o]
            have eA : argT W S.1 (tC W p0) i55 p55 = bnX (askT W S.1 2 (-1) p55) (fun r => .ok ((((r.1 : Nat) : Int), ((r.1 : Nat) : Int), []), r.2)) := by rw [hlit]; rfl
            try dsimp only
            rw [eA, hx57, bnX_o]
            rw [bnX_o]
            try dsimp only
            rw [hx59, bnX_o, hx62, bnX_o]
            refine Or.inl ⟨_, rfl, c62, X63, by dsimp only; omega, G63.fs, fun a2 h1 h2 => ?_⟩
            dsimp only
            have hq := h1 (z + 14 + n) (by omega) (by omega) (by omega)
            have h11 := h1 (z + 11) (by omega) (by omega) (by omega)
            have ekd : tC W p0 - 262 = 1 := by omega
            refine P0.rule (k0 := (c0)) (k1 := (c0)) hn0 h8 hC (by omega) (fun o o1 o2 o3 o4 o5 => (h1 o o1 o2 o3).trans (G63.2.2.1 o (by omega) (by omega) o4 o5 o5)) (fun j hj => (congrFun h11 j).trans (G63.2.2.2 j hj)) (fun i => ?_) ?_ ?_ ?_ ?_ ?_ ?_ ?_ (by omega) ?_ ?_
            · rw [h2, congrFun (G63.2.2.1 (z + 1) (by omega) (by omega) (by omega) (by omega) (by omega)) i]
            · rw [hq, F63_0, ekd]; rfl
            · rw [hq, F63_1]
            · intro g; rw [hq, F63_2]
            · intro g; omega
            · rw [hq, F63_4]
            · rw [hq, F63_5]
            · rw [hq, F63_6]
            · rw [h11, show a63 (z + 11) = a62 (z + 11) by rw [ha63, updC_row (by omega)]]
              exact o62.mo (by omega)
            · intro g; omega
          · have B62 := G60.bz hb62
            show Ev X _ _ 165 [Vr 114, Vr ((z + 14 + n : Nat) : Int)] [] ((SHv st dr (z : Int)), (ovl a62 s b)) _
            refine Ev.steps (k := 3) (pc' := 170) (L' := [Vr 114, Vr ((z + 14 + n : Nat) : Int)]) (S' := [Vr (z : Int), Vr ((z + 14 + n : Nat) : Int)]) (h' := ((SHv st dr (z : Int)), (ovl a62 s b))) (fun _ => rfl) ?_
            refine Ev.getf (v := (a62 z 9)) rfl rfl (by omega) (shY_0 hz) rfl rfl (ovl_rc (by omega)) ?_
            refine Ev.putf (c' := (ovl (updC a62 (z + 14 + n) 6 (a62 z 9)) s b)) rfl (by omega) (shRu hz (by omega)) rfl rfl (ovl_wc (by omega)) ?_
            refine Ev.fin (k := 1) (r := none) (h' := ((SHv st dr (z : Int)), (ovl (updC a62 (z + 14 + n) 6 (a62 z 9)) s b))) (fun _ => rfl) ?_
            obtain ⟨a64, ha64⟩ : ∃ x : C3, x = (updC a62 (z + 14 + n) 6 (a62 z 9)) := ⟨_, rfl⟩
            rw [← ha64]
            have B64 := (B62.up (o := (z + 14 + n)) (i := 6) (v := (a62 z 9)) hz (by omega))
            rw [← ha64] at B64
            refine ⟨rfl, _, rfl, ?_⟩
            unfold rulT
            rw [hx54, bnX_o, hx55, bnX_o]
            have eA : argT W S.1 (tC W p0) i55 p55 = bnX (askT W S.1 2 (-1) p55) (fun r => .ok ((((r.1 : Nat) : Int), ((r.1 : Nat) : Int), []), r.2)) := by rw [hlit]; rfl
            try dsimp only
            rw [eA, hx57, bnX_o]
            rw [bnX_o]
            try dsimp only
            rw [hx59, bnX_o, hx62, bnX_e]
            exact Or.inr ⟨_, rfl, B64⟩
        · have B59 := G58.bd X58 (by omega) hb59
          show Ev X _ _ 150 [Vr 114, Vr ((z + 14 + n : Nat) : Int)] [] ((SHv st dr (z : Int)), (ovl a59 s b)) _
          refine Ev.steps (k := 3) (pc' := 155) (L' := [Vr 114, Vr ((z + 14 + n : Nat) : Int)]) (S' := [Vr (z : Int), Vr ((z + 14 + n : Nat) : Int)]) (h' := ((SHv st dr (z : Int)), (ovl a59 s b))) (fun _ => rfl) ?_
          refine Ev.getf (v := (a59 z 9)) rfl rfl (by omega) (shY_0 hz) rfl rfl (ovl_rc (by omega)) ?_
          refine Ev.putf (c' := (ovl (updC a59 (z + 14 + n) 5 (a59 z 9)) s b)) rfl (by omega) (shRu hz (by omega)) rfl rfl (ovl_wc (by omega)) ?_
          obtain ⟨a65, ha65⟩ : ∃ x : C3, x = (updC a59 (z + 14 + n) 5 (a59 z 9)) := ⟨_, rfl⟩
          rw [← ha65]
          have B65 := (B59.up (o := (z + 14 + n)) (i := 5) (v := (a59 z 9)) hz (by omega))
          rw [← ha65] at B65
          refine Ev.call (k := 1) (pc1 := 162) (L1 := [Vr 114, Vr ((z + 14 + n : Nat) : Int)]) (S1 := [Vr 114]) (h1 := ((SHv st dr (z : Int)), (ovl a65 s b))) (m' := 52) (as := [Vr 114]) (S' := []) (L0 := [Vr 114, Vx, Vx]) (fun _ => rfl) rfl rfl rfl rfl rfl rfl (c_test_br hz B65.z) (fun r h' hq => ?_)
          obtain ⟨rfl, a66, rfl, hb66⟩ := hq
          have B66 := B65.tz hb66
          show Ev X _ _ 165 [Vr 114, Vr ((z + 14 + n : Nat) : Int)] [] ((SHv st dr (z : Int)), (ovl a66 s b)) _
          refine Ev.steps (k := 3) (pc' := 170) (L' := [Vr 114, Vr ((z + 14 + n : Nat) : Int)]) (S' := [Vr (z : Int), Vr ((z + 14 + n : Nat) : Int)]) (h' := ((SHv st dr (z : Int)), (ovl a66 s b))) (fun _ => rfl) ?_
          refine Ev.getf (v := (a66 z 9)) rfl rfl (by omega) (shY_0 hz) rfl rfl (ovl_rc (by omega)) ?_
          refine Ev.putf (c' := (ovl (updC a66 (z + 14 + n) 6 (a66 z 9)) s b)) rfl (by omega) (shRu hz (by omega)) rfl rfl (ovl_wc (by omega)) ?_
          refine Ev.fin (k := 1) (r := none) (h' := ((SHv st dr (z : Int)), (ovl (updC a66 (z + 14 + n) 6 (a66 z 9)) s b))) (fun _ => rfl) ?_
          obtain ⟨a67, ha67⟩ : ∃ x : C3, x = (updC a66 (z + 14 + n) 6 (a66 z 9)) := ⟨_, rfl⟩
          rw [← ha67]
          have B67 := (B66.up (o := (z + 14 + n)) (i := 6) (v := (a66 z 9)) hz (by omega))
          rw [← ha67] at B67
          refine ⟨rfl, _, rfl, ?_⟩
          unfold rulT
          rw [hx54, bnX_o, hx55, bnX_o]
          have eA : argT W S.1 (tC W p0) i55 p55 = bnX (askT W S.1 2 (-1) p55) (fun r => .ok ((((r.1 : Nat) : Int), ((r.1 : Nat) : Int), []), r.2)) := by rw [hlit]; rfl
          try dsimp only
          rw [eA, hx57, bnX_o]
          rw [bnX_o]
          try dsimp only
          rw [hx59, bnX_e]
          exact Or.inr ⟨_, rfl, B67⟩
      · have B57 := G56.bd X56 (by omega) hb57
        have F57_0 : a57 (z + 14 + n) 0 = 263 := (congrFun (hb57.1 _ (by omega)) 0).trans F56_0
        show Ev X _ _ 104 [Vr 114, Vr ((z + 14 + n : Nat) : Int)] [Vi v57, Vr ((z + 14 + n : Nat) : Int)] ((SHv st dr (z : Int)), (ovl a57 s b)) _
        refine Ev.putf (c' := (ovl (updC a57 (z + 14 + n) 2 v57) s b)) rfl (by omega) (shRu hz (by omega)) rfl rfl (ovl_wc (by omega)) ?_
        obtain ⟨a68, ha68⟩ : ∃ x : C3, x = (updC a57 (z + 14 + n) 2 v57) := ⟨_, rfl⟩
        rw [← ha68]
        have B68 := (B57.up (o := (z + 14 + n)) (i := 2) (v := v57) hz (by omega))
        rw [← ha68] at B68
        have F68_0 : a68 (z + 14 + n) 0 = 263 := by
          rw [ha68]
          exact (updC_nt (by omega)).trans <| F57_0
        refine Ev.call (k := 3) (pc1 := 147) (L1 := [Vr 114, Vr ((z + 14 + n : Nat) : Int)]) (S1 := [Vi 268, Vr 114]) (h1 := ((SHv st dr (z : Int)), (ovl a68 s b))) (m' := 42) (as := [Vr 114, Vi 268]) (S' := []) (L0 := [Vr 114, Vi 268]) (fun _ => rfl) rfl rfl rfl rfl rfl rfl (c_expect_br B68.2.2.1 268 (by decide)) (fun r h' hq => ?_)
        obtain ⟨rfl, rfl⟩ := hq
        show Ev X _ _ 150 [Vr 114, Vr ((z + 14 + n : Nat) : Int)] [] ((SHv st dr (z : Int)), (ovl a68 s b)) _
        refine Ev.steps (k := 3) (pc' := 155) (L' := [Vr 114, Vr ((z + 14 + n : Nat) : Int)]) (S' := [Vr (z : Int), Vr ((z + 14 + n : Nat) : Int)]) (h' := ((SHv st dr (z : Int)), (ovl a68 s b))) (fun _ => rfl) ?_
        refine Ev.getf (v := (a68 z 9)) rfl rfl (by omega) (shY_0 hz) rfl rfl (ovl_rc (by omega)) ?_
        refine Ev.putf (c' := (ovl (updC a68 (z + 14 + n) 5 (a68 z 9)) s b)) rfl (by omega) (shRu hz (by omega)) rfl rfl (ovl_wc (by omega)) ?_
        obtain ⟨a69, ha69⟩ : ∃ x : C3, x = (updC a68 (z + 14 + n) 5 (a68 z 9)) := ⟨_, rfl⟩
        rw [← ha69]
        have B69 := (B68.up (o := (z + 14 + n)) (i := 5) (v := (a68 z 9)) hz (by omega))
        rw [← ha69] at B69
        have F69_0 : a69 (z + 14 + n) 0 = 263 := by
          rw [ha69]
          exact (updC_nt (by omega)).trans <| F68_0
        refine Ev.call (k := 1) (pc1 := 162) (L1 := [Vr 114, Vr ((z + 14 + n : Nat) : Int)]) (S1 := [Vr 114]) (h1 := ((SHv st dr (z : Int)), (ovl a69 s b))) (m' := 52) (as := [Vr 114]) (S' := []) (L0 := [Vr 114, Vx, Vx]) (fun _ => rfl) rfl rfl rfl rfl rfl rfl (c_test_br hz B69.z) (fun r h' hq => ?_)
        obtain ⟨rfl, a70, rfl, hb70⟩ := hq
        have B70 := B69.tz hb70
        show Ev X _ _ 165 [Vr 114, Vr ((z + 14 + n : Nat) : Int)] [] ((SHv st dr (z : Int)), (ovl a70 s b)) _
        refine Ev.steps (k := 3) (pc' := 170) (L' := [Vr 114, Vr ((z + 14 + n : Nat) : Int)]) (S' := [Vr (z : Int), Vr ((z + 14 + n : Nat) : Int)]) (h' := ((SHv st dr (z : Int)), (ovl a70 s b))) (fun _ => rfl) ?_
        refine Ev.getf (v := (a70 z 9)) rfl rfl (by omega) (shY_0 hz) rfl rfl (ovl_rc (by omega)) ?_
        refine Ev.putf (c' := (ovl (updC a70 (z + 14 + n) 6 (a70 z 9)) s b)) rfl (by omega) (shRu hz (by omega)) rfl rfl (ovl_wc (by omega)) ?_
        refine Ev.fin (k := 1) (r := none) (h' := ((SHv st dr (z : Int)), (ovl (updC a70 (z + 14 + n) 6 (a70 z 9)) s b))) (fun _ => rfl) ?_
        obtain ⟨a71, ha71⟩ : ∃ x : C3, x = (updC a70 (z + 14 + n) 6 (a70 z 9)) := ⟨_, rfl⟩
        rw [← ha71]
        have B71 := (B70.up (o := (z + 14 + n)) (i := 6) (v := (a70 z 9)) hz (by omega))
        rw [← ha71] at B71
        refine ⟨rfl, _, rfl, ?_⟩
        unfold rulT
        rw [hx54, bnX_o, hx55, bnX_o]
        have eA : argT W S.1 (tC W p0) i55 p55 = bnX (askT W S.1 2 (-1) p55) (fun r => .ok ((((r.1 : Nat) : Int), ((r.1 : Nat) : Int), []), r.2)) := by rw [hlit]; rfl
        try dsimp only
        rw [eA, hx57, bnX_e]
        rw [bnX_e]
        exact Or.inr ⟨_, rfl, B71⟩
    · have B55 := G54.bd X54 (by omega) hb55
      have F55_0 : a55 (z + 14 + n) 0 = 263 := (congrFun (hb55.1 _ (by omega)) 0).trans F54_0
      show Ev X _ _ 19 [Vr 114, Vr ((z + 14 + n : Nat) : Int)] [Vi v55, Vr ((z + 14 + n : Nat) : Int)] ((SHv st dr (z : Int)), (ovl a55 s b)) _
      refine Ev.putf (c' := (ovl (updC a55 (z + 14 + n) 1 v55) s b)) rfl (by omega) (shRu hz (by omega)) rfl rfl (ovl_wc (by omega)) ?_
      refine Ev.steps (k := 2) (pc' := 24) (L' := [Vr 114, Vr ((z + 14 + n : Nat) : Int)]) (S' := [Vi (-1), Vr ((z + 14 + n : Nat) : Int)]) (h' := ((SHv st dr (z : Int)), (ovl (updC a55 (z + 14 + n) 1 v55) s b))) (fun _ => rfl) ?_
      refine Ev.putf (c' := (ovl (updC (updC a55 (z + 14 + n) 1 v55) (z + 14 + n) 2 (-1)) s b)) rfl (by omega) (shRu hz (by omega)) rfl rfl (ovl_wc (by omega)) ?_
      refine Ev.steps (k := 2) (pc' := 29) (L' := [Vr 114, Vr ((z + 14 + n : Nat) : Int)]) (S' := [Vi (-1), Vr ((z + 14 + n : Nat) : Int)]) (h' := ((SHv st dr (z : Int)), (ovl (updC (updC a55 (z + 14 + n) 1 v55) (z + 14 + n) 2 (-1)) s b))) (fun _ => rfl) ?_
      refine Ev.putf (c' := (ovl (updC (updC (updC a55 (z + 14 + n) 1 v55) (z + 14 + n) 2 (-1)) (z + 14 + n) 3 (-1)) s b)) rfl (by omega) (shRu hz (by omega)) rfl rfl (ovl_wc (by omega)) ?_
      refine Ev.steps (k := 3) (pc' := 37) (L' := [Vr 114, Vr ((z + 14 + n : Nat) : Int)]) (S' := [Vr (z : Int), Vr ((z + 14 + n : Nat) : Int)]) (h' := ((SHv st dr (z : Int)), (ovl (updC (updC (updC a55 (z + 14 + n) 1 v55) (z + 14 + n) 2 (-1)) (z + 14 + n) 3 (-1)) s b))) (fun _ => rfl) ?_
      refine Ev.getf (v := (a55 z 9)) rfl rfl (by omega) (shY_0 hz) rfl rfl ((ovl_rc (by omega)).trans (by show (updC (updC (updC a55 (z + 14 + n) 1 v55) (z + 14 + n) 2 (-1)) (z + 14 + n) 3 (-1)) z 9 = _; rw [updC_nt (by omega), updC_nt (by omega), updC_nt (by omega)])) ?_
      refine Ev.putf (c' := (ovl (updC (updC (updC (updC a55 (z + 14 + n) 1 v55) (z + 14 + n) 2 (-1)) (z + 14 + n) 3 (-1)) (z + 14 + n) 4 (a55 z 9)) s b)) rfl (by omega) (shRu hz (by omega)) rfl rfl (ovl_wc (by omega)) ?_
      refine Ev.steps (k := 1) (pc' := 44) (L' := [Vr 114, Vr ((z + 14 + n : Nat) : Int)]) (S' := [Vr ((z + 14 + n : Nat) : Int)]) (h' := ((SHv st dr (z : Int)), (ovl (updC (updC (updC (updC a55 (z + 14 + n) 1 v55) (z + 14 + n) 2 (-1)) (z + 14 + n) 3 (-1)) (z + 14 + n) 4 (a55 z 9)) s b))) (fun _ => rfl) ?_
      refine Ev.getf (v := 263) rfl rfl (by omega) (shRu hz (by omega)) rfl rfl (((ovl_rc (by omega)).trans (by show (updC (updC (updC (updC a55 (z + 14 + n) 1 v55) (z + 14 + n) 2 (-1)) (z + 14 + n) 3 (-1)) (z + 14 + n) 4 (a55 z 9)) (z + 14 + n) 0 = _; rw [updC_nt (by omega), updC_nt (by omega), updC_nt (by omega), updC_nt (by omega)])).trans (F55_0)) ?_
      obtain ⟨a72, ha72⟩ : ∃ x : C3, x = (updC (updC (updC (updC a55 (z + 14 + n) 1 v55) (z + 14 + n) 2 (-1)) (z + 14 + n) 3 (-1)) (z + 14 + n) 4 (a55 z 9)) := ⟨_, rfl⟩
      rw [← ha72]
      have B72 := ((((B55.up (o := (z + 14 + n)) (i := 1) (v := v55) hz (by omega)).up (o := (z + 14 + n)) (i := 2) (v := (-1)) hz (by omega)).up (o := (z + 14 + n)) (i := 3) (v := (-1)) hz (by omega)).up (o := (z + 14 + n)) (i := 4) (v := (a55 z 9)) hz (by omega))
      rw [← ha72] at B72
      have F72_0 : a72 (z + 14 + n) 0 = 263 := by
        rw [ha72]
        exact (updC_nt (by omega)).trans <| (updC_nt (by omega)).trans <| (updC_nt (by omega)).trans <| (updC_nt (by omega)).trans <| F55_0
      refine Ev.call (k := 5) (pc1 := 101) (L1 := [Vr 114, Vr ((z + 14 + n : Nat) : Int)]) (S1 := [Vi (-1), Vi 3, Vr 114, Vr ((z + 14 + n : Nat) : Int)]) (h1 := ((SHv st dr (z : Int)), (ovl a72 s b))) (m' := 38) (as := [Vr 114, Vi 3, Vi (-1)]) (S' := [Vr ((z + 14 + n : Nat) : Int)]) (L0 := [Vr 114, Vi 3, Vi (-1), Vx]) (fun _ => rfl) rfl rfl rfl rfl rfl rfl (c_asked_br B72.2.2.1 3 (-1)) (fun r h' hq => ?_)
      obtain ⟨rfl, rfl⟩ := hq
      show Ev X _ _ 104 [Vr 114, Vr ((z + 14 + n : Nat) : Int)] [Vi (-1), Vr ((z + 14 + n : Nat) : Int)] ((SHv st dr (z : Int)), (ovl a72 s b)) _
      refine Ev.putf (c' := (ovl (updC a72 (z + 14 + n) 2 (-1)) s b)) rfl (by omega) (shRu hz (by omega)) rfl rfl (ovl_wc (by omega)) ?_
      obtain ⟨a73, ha73⟩ : ∃ x : C3, x = (updC a72 (z + 14 + n) 2 (-1)) := ⟨_, rfl⟩
      rw [← ha73]
      have B73 := (B72.up (o := (z + 14 + n)) (i := 2) (v := (-1)) hz (by omega))
      rw [← ha73] at B73
      have F73_0 : a73 (z + 14 + n) 0 = 263 := by
        rw [ha73]
        exact (updC_nt (by omega)).trans <| F72_0
      refine Ev.call (k := 3) (pc1 := 147) (L1 := [Vr 114, Vr ((z + 14 + n : Nat) : Int)]) (S1 := [Vi 268, Vr 114]) (h1 := ((SHv st dr (z : Int)), (ovl a73 s b))) (m' := 42) (as := [Vr 114, Vi 268]) (S' := []) (L0 := [Vr 114, Vi 268]) (fun _ => rfl) rfl rfl rfl rfl rfl rfl (c_expect_br B73.2.2.1 268 (by decide)) (fun r h' hq => ?_)
      obtain ⟨rfl, rfl⟩ := hq
      show Ev X _ _ 150 [Vr 114, Vr ((z + 14 + n : Nat) : Int)] [] ((SHv st dr (z : Int)), (ovl a73 s b)) _
      refine Ev.steps (k := 3) (pc' := 155) (L' := [Vr 114, Vr ((z + 14 + n : Nat) : Int)]) (S' := [Vr (z : Int), Vr ((z + 14 + n : Nat) : Int)]) (h' := ((SHv st dr (z : Int)), (ovl a73 s b))) (fun _ => rfl) ?_
      refine Ev.getf (v := (a73 z 9)) rfl rfl (by omega) (shY_0 hz) rfl rfl (ovl_rc (by omega)) ?_
      refine Ev.putf (c' := (ovl (updC a73 (z + 14 + n) 5 (a73 z 9)) s b)) rfl (by omega) (shRu hz (by omega)) rfl rfl (ovl_wc (by omega)) ?_
      obtain ⟨a74, ha74⟩ : ∃ x : C3, x = (updC a73 (z + 14 + n) 5 (a73 z 9)) := ⟨_, rfl⟩
      rw [← ha74]
      have B74 := (B73.up (o := (z + 14 + n)) (i := 5) (v := (a73 z 9)) hz (by omega))
      rw [← ha74] at B74
      have F74_0 : a74 (z + 14 + n) 0 = 263 := by
        rw [ha74]
        exact (updC_nt (by omega)).trans <| F73_0
      refine Ev.call (k := 1) (pc1 := 162) (L1 := [Vr 114, Vr ((z + 14 + n : Nat) : Int)]) (S1 := [Vr 114]) (h1 := ((SHv st dr (z : Int)), (ovl a74 s b))) (m' := 52) (as := [Vr 114]) (S' := []) (L0 := [Vr 114, Vx, Vx]) (fun _ => rfl) rfl rfl rfl rfl rfl rfl (c_test_br hz B74.z) (fun r h' hq => ?_)
      obtain ⟨rfl, a75, rfl, hb75⟩ := hq
      have B75 := B74.tz hb75
      show Ev X _ _ 165 [Vr 114, Vr ((z + 14 + n : Nat) : Int)] [] ((SHv st dr (z : Int)), (ovl a75 s b)) _
      refine Ev.steps (k := 3) (pc' := 170) (L' := [Vr 114, Vr ((z + 14 + n : Nat) : Int)]) (S' := [Vr (z : Int), Vr ((z + 14 + n : Nat) : Int)]) (h' := ((SHv st dr (z : Int)), (ovl a75 s b))) (fun _ => rfl) ?_
      refine Ev.getf (v := (a75 z 9)) rfl rfl (by omega) (shY_0 hz) rfl rfl (ovl_rc (by omega)) ?_
      refine Ev.putf (c' := (ovl (updC a75 (z + 14 + n) 6 (a75 z 9)) s b)) rfl (by omega) (shRu hz (by omega)) rfl rfl (ovl_wc (by omega)) ?_
      refine Ev.fin (k := 1) (r := none) (h' := ((SHv st dr (z : Int)), (ovl (updC a75 (z + 14 + n) 6 (a75 z 9)) s b))) (fun _ => rfl) ?_
      obtain ⟨a76, ha76⟩ : ∃ x : C3, x = (updC a75 (z + 14 + n) 6 (a75 z 9)) := ⟨_, rfl⟩
      rw [← ha76]
      have B76 := (B75.up (o := (z + 14 + n)) (i := 6) (v := (a75 z 9)) hz (by omega))
      rw [← ha76] at B76
      refine ⟨rfl, _, rfl, ?_⟩
      unfold rulT
      rw [hx54, bnX_o, hx55, bnX_e]
      exact Or.inr ⟨_, rfl, B76⟩
  · have B54 := G53.bd X53 (by omega) hb54
    have F54_0 : a54 (z + 14 + n) 0 = 263 := (congrFun (hb54.1 _ (by omega)) 0).trans F53_0
    show Ev X _ _ 12 [Vr 114, Vr ((z + 14 + n : Nat) : Int)] [] ((SHv st dr (z : Int)), (ovl a54 s b)) _
    refine Ev.call (k := 4) (pc1 := 16) (L1 := [Vr 114, Vr ((z + 14 + n : Nat) : Int)]) (S1 := [Vi (-1), Vi 2, Vr 114, Vr ((z + 14 + n : Nat) : Int)]) (h1 := ((SHv st dr (z : Int)), (ovl a54 s b))) (m' := 38) (as := [Vr 114, Vi 2, Vi (-1)]) (S' := [Vr ((z + 14 + n : Nat) : Int)]) (L0 := [Vr 114, Vi 2, Vi (-1), Vx]) (fun _ => rfl) rfl rfl rfl rfl rfl rfl (c_asked_br B54.2.2.1 2 (-1)) (fun r h' hq => ?_)
    obtain ⟨rfl, rfl⟩ := hq
    show Ev X _ _ 19 [Vr 114, Vr ((z + 14 + n : Nat) : Int)] [Vi (-1), Vr ((z + 14 + n : Nat) : Int)] ((SHv st dr (z : Int)), (ovl a54 s b)) _
    refine Ev.putf (c' := (ovl (updC a54 (z + 14 + n) 1 (-1)) s b)) rfl (by omega) (shRu hz (by omega)) rfl rfl (ovl_wc (by omega)) ?_
    refine Ev.steps (k := 2) (pc' := 24) (L' := [Vr 114, Vr ((z + 14 + n : Nat) : Int)]) (S' := [Vi (-1), Vr ((z + 14 + n : Nat) : Int)]) (h' := ((SHv st dr (z : Int)), (ovl (updC a54 (z + 14 + n) 1 (-1)) s b))) (fun _ => rfl) ?_
    refine Ev.putf (c' := (ovl (updC (updC a54 (z + 14 + n) 1 (-1)) (z + 14 + n) 2 (-1)) s b)) rfl (by omega) (shRu hz (by omega)) rfl rfl (ovl_wc (by omega)) ?_
    refine Ev.steps (k := 2) (pc' := 29) (L' := [Vr 114, Vr ((z + 14 + n : Nat) : Int)]) (S' := [Vi (-1), Vr ((z + 14 + n : Nat) : Int)]) (h' := ((SHv st dr (z : Int)), (ovl (updC (updC a54 (z + 14 + n) 1 (-1)) (z + 14 + n) 2 (-1)) s b))) (fun _ => rfl) ?_
    refine Ev.putf (c' := (ovl (updC (updC (updC a54 (z + 14 + n) 1 (-1)) (z + 14 + n) 2 (-1)) (z + 14 + n) 3 (-1)) s b)) rfl (by omega) (shRu hz (by omega)) rfl rfl (ovl_wc (by omega)) ?_
    refine Ev.steps (k := 3) (pc' := 37) (L' := [Vr 114, Vr ((z + 14 + n : Nat) : Int)]) (S' := [Vr (z : Int), Vr ((z + 14 + n : Nat) : Int)]) (h' := ((SHv st dr (z : Int)), (ovl (updC (updC (updC a54 (z + 14 + n) 1 (-1)) (z + 14 + n) 2 (-1)) (z + 14 + n) 3 (-1)) s b))) (fun _ => rfl) ?_
    refine Ev.getf (v := (a54 z 9)) rfl rfl (by omega) (shY_0 hz) rfl rfl ((ovl_rc (by omega)).trans (by show (updC (updC (updC a54 (z + 14 + n) 1 (-1)) (z + 14 + n) 2 (-1)) (z + 14 + n) 3 (-1)) z 9 = _; rw [updC_nt (by omega), updC_nt (by omega), updC_nt (by omega)])) ?_
    refine Ev.putf (c' := (ovl (updC (updC (updC (updC a54 (z + 14 + n) 1 (-1)) (z + 14 + n) 2 (-1)) (z + 14 + n) 3 (-1)) (z + 14 + n) 4 (a54 z 9)) s b)) rfl (by omega) (shRu hz (by omega)) rfl rfl (ovl_wc (by omega)) ?_
    refine Ev.steps (k := 1) (pc' := 44) (L' := [Vr 114, Vr ((z + 14 + n : Nat) : Int)]) (S' := [Vr ((z + 14 + n : Nat) : Int)]) (h' := ((SHv st dr (z : Int)), (ovl (updC (updC (updC (updC a54 (z + 14 + n) 1 (-1)) (z + 14 + n) 2 (-1)) (z + 14 + n) 3 (-1)) (z + 14 + n) 4 (a54 z 9)) s b))) (fun _ => rfl) ?_
    refine Ev.getf (v := 263) rfl rfl (by omega) (shRu hz (by omega)) rfl rfl (((ovl_rc (by omega)).trans (by show (updC (updC (updC (updC a54 (z + 14 + n) 1 (-1)) (z + 14 + n) 2 (-1)) (z + 14 + n) 3 (-1)) (z + 14 + n) 4 (a54 z 9)) (z + 14 + n) 0 = _; rw [updC_nt (by omega), updC_nt (by omega), updC_nt (by omega), updC_nt (by omega)])).trans (F54_0)) ?_
    obtain ⟨a77, ha77⟩ : ∃ x : C3, x = (updC (updC (updC (updC a54 (z + 14 + n) 1 (-1)) (z + 14 + n) 2 (-1)) (z + 14 + n) 3 (-1)) (z + 14 + n) 4 (a54 z 9)) := ⟨_, rfl⟩
    rw [← ha77]
    have B77 := ((((B54.up (o := (z + 14 + n)) (i := 1) (v := (-1)) hz (by omega)).up (o := (z + 14 + n)) (i := 2) (v := (-1)) hz (by omega)).up (o := (z + 14 + n)) (i := 3) (v := (-1)) hz (by omega)).up (o := (z + 14 + n)) (i := 4) (v := (a54 z 9)) hz (by omega))
    rw [← ha77] at B77
    have F77_0 : a77 (z + 14 + n) 0 = 263 := by
      rw [ha77]
      exact (updC_nt (by omega)).trans <| (updC_nt (by omega)).trans <| (updC_nt (by omega)).trans <| (updC_nt (by omega)).trans <| F54_0
    refine Ev.call (k := 5) (pc1 := 101) (L1 := [Vr 114, Vr ((z + 14 + n : Nat) : Int)]) (S1 := [Vi (-1), Vi 3, Vr 114, Vr ((z + 14 + n : Nat) : Int)]) (h1 := ((SHv st dr (z : Int)), (ovl a77 s b))) (m' := 38) (as := [Vr 114, Vi 3, Vi (-1)]) (S' := [Vr ((z + 14 + n : Nat) : Int)]) (L0 := [Vr 114, Vi 3, Vi (-1), Vx]) (fun _ => rfl) rfl rfl rfl rfl rfl rfl (c_asked_br B77.2.2.1 3 (-1)) (fun r h' hq => ?_)
    obtain ⟨rfl, rfl⟩ := hq
    show Ev X _ _ 104 [Vr 114, Vr ((z + 14 + n : Nat) : Int)] [Vi (-1), Vr ((z + 14 + n : Nat) : Int)] ((SHv st dr (z : Int)), (ovl a77 s b)) _
    refine Ev.putf (c' := (ovl (updC a77 (z + 14 + n) 2 (-1)) s b)) rfl (by omega) (shRu hz (by omega)) rfl rfl (ovl_wc (by omega)) ?_
    obtain ⟨a78, ha78⟩ : ∃ x : C3, x = (updC a77 (z + 14 + n) 2 (-1)) := ⟨_, rfl⟩
    rw [← ha78]
    have B78 := (B77.up (o := (z + 14 + n)) (i := 2) (v := (-1)) hz (by omega))
    rw [← ha78] at B78
    have F78_0 : a78 (z + 14 + n) 0 = 263 := by
      rw [ha78]
      exact (updC_nt (by omega)).trans <| F77_0
    refine Ev.call (k := 3) (pc1 := 147) (L1 := [Vr 114, Vr ((z + 14 + n : Nat) : Int)]) (S1 := [Vi 268, Vr 114]) (h1 := ((SHv st dr (z : Int)), (ovl a78 s b))) (m' := 42) (as := [Vr 114, Vi 268]) (S' := []) (L0 := [Vr 114, Vi 268]) (fun _ => rfl) rfl rfl rfl rfl rfl rfl (c_expect_br B78.2.2.1 268 (by decide)) (fun r h' hq => ?_)
    obtain ⟨rfl, rfl⟩ := hq
    show Ev X _ _ 150 [Vr 114, Vr ((z + 14 + n : Nat) : Int)] [] ((SHv st dr (z : Int)), (ovl a78 s b)) _
    refine Ev.steps (k := 3) (pc' := 155) (L' := [Vr 114, Vr ((z + 14 + n : Nat) : Int)]) (S' := [Vr (z : Int), Vr ((z + 14 + n : Nat) : Int)]) (h' := ((SHv st dr (z : Int)), (ovl a78 s b))) (fun _ => rfl) ?_
    refine Ev.getf (v := (a78 z 9)) rfl rfl (by omega) (shY_0 hz) rfl rfl (ovl_rc (by omega)) ?_
    refine Ev.putf (c' := (ovl (updC a78 (z + 14 + n) 5 (a78 z 9)) s b)) rfl (by omega) (shRu hz (by omega)) rfl rfl (ovl_wc (by omega)) ?_
    obtain ⟨a79, ha79⟩ : ∃ x : C3, x = (updC a78 (z + 14 + n) 5 (a78 z 9)) := ⟨_, rfl⟩
    rw [← ha79]
    have B79 := (B78.up (o := (z + 14 + n)) (i := 5) (v := (a78 z 9)) hz (by omega))
    rw [← ha79] at B79
    have F79_0 : a79 (z + 14 + n) 0 = 263 := by
      rw [ha79]
      exact (updC_nt (by omega)).trans <| F78_0
    refine Ev.call (k := 1) (pc1 := 162) (L1 := [Vr 114, Vr ((z + 14 + n : Nat) : Int)]) (S1 := [Vr 114]) (h1 := ((SHv st dr (z : Int)), (ovl a79 s b))) (m' := 52) (as := [Vr 114]) (S' := []) (L0 := [Vr 114, Vx, Vx]) (fun _ => rfl) rfl rfl rfl rfl rfl rfl (c_test_br hz B79.z) (fun r h' hq => ?_)
    obtain ⟨rfl, a80, rfl, hb80⟩ := hq
    have B80 := B79.tz hb80
    show Ev X _ _ 165 [Vr 114, Vr ((z + 14 + n : Nat) : Int)] [] ((SHv st dr (z : Int)), (ovl a80 s b)) _
    refine Ev.steps (k := 3) (pc' := 170) (L' := [Vr 114, Vr ((z + 14 + n : Nat) : Int)]) (S' := [Vr (z : Int), Vr ((z + 14 + n : Nat) : Int)]) (h' := ((SHv st dr (z : Int)), (ovl a80 s b))) (fun _ => rfl) ?_
    refine Ev.getf (v := (a80 z 9)) rfl rfl (by omega) (shY_0 hz) rfl rfl (ovl_rc (by omega)) ?_
    refine Ev.putf (c' := (ovl (updC a80 (z + 14 + n) 6 (a80 z 9)) s b)) rfl (by omega) (shRu hz (by omega)) rfl rfl (ovl_wc (by omega)) ?_
    refine Ev.fin (k := 1) (r := none) (h' := ((SHv st dr (z : Int)), (ovl (updC a80 (z + 14 + n) 6 (a80 z 9)) s b))) (fun _ => rfl) ?_
    obtain ⟨a81, ha81⟩ : ∃ x : C3, x = (updC a80 (z + 14 + n) 6 (a80 z 9)) := ⟨_, rfl⟩
    rw [← ha81]
    have B81 := (B80.up (o := (z + 14 + n)) (i := 6) (v := (a80 z 9)) hz (by omega))
    rw [← ha81] at B81
    refine ⟨rfl, _, rfl, ?_⟩
    unfold rulT
    rw [hx54, bnX_e]
    exact Or.inr ⟨_, rfl, B81⟩
theorem c_ruled_264 {X : List Int} {st dr : Int} {s b : C3} {W : TXT} {S : STY} {z : Nat} (hz : hyS z) {n : Nat} (d : Nat) (a0 : C3) (p0 c0 : Nat) (hd : 400 ≤ d) (X0 : XoC W S.1 z p0 c0 8 a0) (P0 : PaC S a0 z c0) (hC : nC S ≤ 12) (hc0 : c0 ≤ p0) (hlit : tC W p0 = 264) (hn0 : S.1 0 4 = (n : Int)) (h8 : n < 30) : Ev X d 45 0 [Vr 114, Vr ((z + 14 + n : Nat) : Int)] [] (SHv st dr (z : Int), ovl a0 s b) (PoB st dr s b W S z 4 n a0 (rulT W S p0)) := by
  have hz1 := z11 hz
  have hz0 : z = 2 ∨ z = 58 := hz
  obtain ⟨d, rfl⟩ : ∃ d1, d = d1 + 400 := ⟨d - 400, by omega⟩
  have Q0 := X0.le
  have G0 : Gq z (z + 14 + n) (z + 14 + n) c0 a0 a0 := ⟨by omega, by omega, fun _ _ _ _ _ _ => rfl, fun _ _ => rfl⟩
  refine Ev.steps (k := 3) (pc' := 5) (L' := [Vr 114, Vr ((z + 14 + n : Nat) : Int)]) (S' := [Vi (a0 114 5), Vr ((z + 14 + n : Nat) : Int)]) (h' := ((SHv st dr (z : Int)), (ovl a0 s b))) (fun _ => rfl) ?_
  rw [(X0.t5.trans (show ((tC W p0 : Nat) : Int) = 264 by omega))]
  refine Ev.putf (c' := (ovl (updC a0 (z + 14 + n) 0 264) s b)) rfl (by omega) (shRu hz (by omega)) rfl rfl (ovl_wc (by omega)) ?_
  obtain ⟨a82, ha82⟩ : ∃ x : C3, x = (updC a0 (z + 14 + n) 0 264) := ⟨_, rfl⟩
  rw [← ha82]
  have X82 := (X0.up (o := (z + 14 + n)) (i := 0) (v := 264) (by omega))
  have G82 := (G0.up (o := (z + 14 + n)) (i := 0) (v := 264) (by omega))
  rw [← ha82] at X82 G82
  have Q82 := X82.le
  have F82_0 : a82 (z + 14 + n) 0 = 264 := by
    rw [ha82]
    exact updC_sm
  refine Ev.call (k := 1) (pc1 := 9) (L1 := [Vr 114, Vr ((z + 14 + n : Nat) : Int)]) (S1 := [Vr 114]) (h1 := ((SHv st dr (z : Int)), (ovl a82 s b))) (m' := 27) (as := [Vr 114]) (S' := []) (L0 := [Vr 114, Vx, Vx, Vx, Vx]) (fun _ => rfl) rfl rfl rfl rfl rfl rfl (c_next X82.1) (fun r h' hq => ?_)
  obtain ⟨rfl, a83, rfl, hq⟩ := hq
  rcases hq with ⟨p83, hx83, ho83⟩ | ⟨e83, hx83, hb83⟩
  · have X83 := X82.nx ho83
    have L83 : p0 < p83 := X82.lt (by omega) hx83
    have G83 := G82.tr (ho83.1.gz (c := c0) X82.hz) (by omega)
    have R83 : a83 (z + 11) = a82 (z + 11) := ho83.1 _ (by omega)
    have Q83 := X83.le
    have F83_0 : a83 (z + 14 + n) 0 = 264 := (congrFun (ho83.1 _ (by omega)) 0).trans F82_0
    show Ev X _ _ 12 [Vr 114, Vr ((z + 14 + n : Nat) : Int)] [] ((SHv st dr (z : Int)), (ovl a83 s b)) _
    refine Ev.call (k := 4) (pc1 := 16) (L1 := [Vr 114, Vr ((z + 14 + n : Nat) : Int)]) (S1 := [Vi (-1), Vi 2, Vr 114, Vr ((z + 14 + n : Nat) : Int)]) (h1 := ((SHv st dr (z : Int)), (ovl a83 s b))) (m' := 38) (as := [Vr 114, Vi 2, Vi (-1)]) (S' := [Vr ((z + 14 + n : Nat) : Int)]) (L0 := [Vr 114, Vi 2, Vi (-1), Vx]) (fun _ => rfl) rfl rfl rfl rfl rfl rfl (c_asked X83.hz X83.1 (kd := 1) (q := 2) X83.2.1 (by decide) rfl (-1) rfl) (fun r h' hq => ?_)
    obtain ⟨a84, rfl, hq⟩ := hq
    rcases hq with ⟨⟨i84, p84⟩, hx84, rfl, ho84⟩ | ⟨e84, hx84, ⟨v84, rfl, hv84⟩, hb84⟩
    · have K84 := ask_ok hx84
      dsimp only at K84 ho84
      have X84 := X83.nx ho84
      have L84 : p83 < p84 := by
        rw [show p84 = tE W p83 from K84.2.2.2.2.1]
        exact tok_lt X83.le.1 X83.1.1.1 (by omega) (by omega)
      have I84 := K84.2.2.1
      have J84 := (X83.2.1 1 (by decide)).1
      have G84 := G83.tr (ho84.1.gz (c := c0) X83.hz) (by omega)
      have R84 : a84 (z + 11) = a83 (z + 11) := ho84.1 _ (by omega)
      have Q84 := X84.le
      clear K84
      have F84_0 : a84 (z + 14 + n) 0 = 264 := (congrFun (ho84.1 _ (by omega)) 0).trans F83_0
      show Ev X _ _ 19 [Vr 114, Vr ((z + 14 + n : Nat) : Int)] [Vi ((i84 : Nat) : Int), Vr ((z + 14 + n : Nat) : Int)] ((SHv st dr (z : Int)), (ovl a84 s b)) _
      refine Ev.putf (c' := (ovl (updC a84 (z + 14 + n) 1 ((i84 : Nat) : Int)) s b)) rfl (by omega) (shRu hz (by omega)) rfl rfl (ovl_wc (by omega)) ?_
      refine Ev.steps (k := 2) (pc' := 24) (L' := [Vr 114, Vr ((z + 14 + n : Nat) : Int)]) (S' := [Vi (-1), Vr ((z + 14 + n : Nat) : Int)]) (h' := ((SHv st dr (z : Int)), (ovl (updC a84 (z + 14 + n) 1 ((i84 : Nat) : Int)) s b))) (fun _ => rfl) ?_
      refine Ev.putf (c' := (ovl (updC (updC a84 (z + 14 + n) 1 ((i84 : Nat) : Int)) (z + 14 + n) 2 (-1)) s b)) rfl (by omega) (shRu hz (by omega)) rfl rfl (ovl_wc (by omega)) ?_
      refine Ev.steps (k := 2) (pc' := 29) (L' := [Vr 114, Vr ((z + 14 + n : Nat) : Int)]) (S' := [Vi (-1), Vr ((z + 14 + n : Nat) : Int)]) (h' := ((SHv st dr (z : Int)), (ovl (updC (updC a84 (z + 14 + n) 1 ((i84 : Nat) : Int)) (z + 14 + n) 2 (-1)) s b))) (fun _ => rfl) ?_
      refine Ev.putf (c' := (ovl (updC (updC (updC a84 (z + 14 + n) 1 ((i84 : Nat) : Int)) (z + 14 + n) 2 (-1)) (z + 14 + n) 3 (-1)) s b)) rfl (by omega) (shRu hz (by omega)) rfl rfl (ovl_wc (by omega)) ?_
      refine Ev.steps (k := 3) (pc' := 37) (L' := [Vr 114, Vr ((z + 14 + n : Nat) : Int)]) (S' := [Vr (z : Int), Vr ((z + 14 + n : Nat) : Int)]) (h' := ((SHv st dr (z : Int)), (ovl (updC (updC (updC a84 (z + 14 + n) 1 ((i84 : Nat) : Int)) (z + 14 + n) 2 (-1)) (z + 14 + n) 3 (-1)) s b))) (fun _ => rfl) ?_
      refine Ev.getf (v := ((c0 : Nat) : Int)) rfl rfl (by omega) (shY_0 hz) rfl rfl (((ovl_rc (by omega)).trans (by show (updC (updC (updC a84 (z + 14 + n) 1 ((i84 : Nat) : Int)) (z + 14 + n) 2 (-1)) (z + 14 + n) 3 (-1)) z 9 = _; rw [updC_nt (by omega), updC_nt (by omega), updC_nt (by omega)])).trans (X84.2.2.1)) ?_
      refine Ev.putf (c' := (ovl (updC (updC (updC (updC a84 (z + 14 + n) 1 ((i84 : Nat) : Int)) (z + 14 + n) 2 (-1)) (z + 14 + n) 3 (-1)) (z + 14 + n) 4 ((c0 : Nat) : Int)) s b)) rfl (by omega) (shRu hz (by omega)) rfl rfl (ovl_wc (by omega)) ?_
      refine Ev.steps (k := 1) (pc' := 44) (L' := [Vr 114, Vr ((z + 14 + n : Nat) : Int)]) (S' := [Vr ((z + 14 + n : Nat) : Int)]) (h' := ((SHv st dr (z : Int)), (ovl (updC (updC (updC (updC a84 (z + 14 + n) 1 ((i84 : Nat) : Int)) (z + 14 + n) 2 (-1)) (z + 14 + n) 3 (-1)) (z + 14 + n) 4 ((c0 : Nat) : Int)) s b))) (fun _ => rfl) ?_
      refine Ev.getf (v := 264) rfl rfl (by omega) (shRu hz (by omega)) rfl rfl (((ovl_rc (by omega)).trans (by show (updC (updC (updC (updC a84 (z + 14 + n) 1 ((i84 : Nat) : Int)) (z + 14 + n) 2 (-1)) (z + 14 + n) 3 (-1)) (z + 14 + n) 4 ((c0 : Nat) : Int)) (z + 14 + n) 0 = _; rw [updC_nt (by omega), updC_nt (by omega), updC_nt (by omega), updC_nt (by omega)])).trans (F84_0)) ?_
      obtain ⟨a85, ha85⟩ : ∃ x : C3, x = (updC (updC (updC (updC a84 (z + 14 + n) 1 ((i84 : Nat) : Int)) (z + 14 + n) 2 (-1)) (z + 14 + n) 3 (-1)) (z + 14 + n) 4 ((c0 : Nat) : Int)) := ⟨_, rfl⟩
      rw [← ha85]
      have X85 := ((((X84.up (o := (z + 14 + n)) (i := 1) (v := ((i84 : Nat) : Int)) (by omega)).up (o := (z + 14 + n)) (i := 2) (v := (-1)) (by omega)).up (o := (z + 14 + n)) (i := 3) (v := (-1)) (by omega)).up (o := (z + 14 + n)) (i := 4) (v := ((c0 : Nat) : Int)) (by omega))
      have G85 := ((((G84.up (o := (z + 14 + n)) (i := 1) (v := ((i84 : Nat) : Int)) (by omega)).up (o := (z + 14 + n)) (i := 2) (v := (-1)) (by omega)).up (o := (z + 14 + n)) (i := 3) (v := (-1)) (by omega)).up (o := (z + 14 + n)) (i := 4) (v := ((c0 : Nat) : Int)) (by omega))
      rw [← ha85] at X85 G85
      have Q85 := X85.le
      have F85_0 : a85 (z + 14 + n) 0 = 264 := by
        rw [ha85]
        exact (updC_nt (by omega)).trans <| (updC_nt (by omega)).trans <| (updC_nt (by omega)).trans <| (updC_nt (by omega)).trans <| F84_0
      have F85_1 : a85 (z + 14 + n) 1 = ((i84 : Nat) : Int) := by
        rw [ha85]
        exact (updC_nt (by omega)).trans <| (updC_nt (by omega)).trans <| (updC_nt (by omega)).trans <| updC_sm
      have F85_2 : a85 (z + 14 + n) 2 = (-1) := by
        rw [ha85]
        exact (updC_nt (by omega)).trans <| (updC_nt (by omega)).trans <| updC_sm
      have F85_3 : a85 (z + 14 + n) 3 = (-1) := by
        rw [ha85]
        exact (updC_nt (by omega)).trans <| updC_sm
      have F85_4 : a85 (z + 14 + n) 4 = ((c0 : Nat) : Int) := by
        rw [ha85]
        exact updC_sm
      refine Ev.call (k := 5) (pc1 := 101) (L1 := [Vr 114, Vr ((z + 14 + n : Nat) : Int)]) (S1 := [Vi (-1), Vi 3, Vr 114, Vr ((z + 14 + n : Nat) : Int)]) (h1 := ((SHv st dr (z : Int)), (ovl a85 s b))) (m' := 38) (as := [Vr 114, Vi 3, Vi (-1)]) (S' := [Vr ((z + 14 + n : Nat) : Int)]) (L0 := [Vr 114, Vi 3, Vi (-1), Vx]) (fun _ => rfl) rfl rfl rfl rfl rfl rfl (c_asked X85.hz X85.1 (kd := 2) (q := 3) X85.2.1 (by decide) rfl (-1) rfl) (fun r h' hq => ?_)
      obtain ⟨a86, rfl, hq⟩ := hq
      rcases hq with ⟨⟨i86, p86⟩, hx86, rfl, ho86⟩ | ⟨e86, hx86, ⟨v86, rfl, hv86⟩, hb86⟩
      · have K86 := ask_ok hx86
        dsimp only at K86 ho86
        have X86 := X85.nx ho86
        have L86 : p84 < p86 := by
          rw [show p86 = tE W p84 from K86.2.2.2.2.1]
          exact tok_lt X85.le.1 X85.1.1.1 (by omega) (by omega)
        have I86 := K86.2.2.1
        have J86 := (X85.2.1 2 (by decide)).1
        have G86 := G85.tr (ho86.1.gz (c := c0) X85.hz) (by omega)
        have R86 : a86 (z + 11) = a85 (z + 11) := ho86.1 _ (by omega)
        have Q86 := X86.le
        clear K86
        have F86_0 : a86 (z + 14 + n) 0 = 264 := (congrFun (ho86.1 _ (by omega)) 0).trans F85_0
        have F86_1 : a86 (z + 14 + n) 1 = ((i84 : Nat) : Int) := (congrFun (ho86.1 _ (by omega)) 1).trans F85_1
        have F86_2 : a86 (z + 14 + n) 2 = (-1) := (congrFun (ho86.1 _ (by omega)) 2).trans F85_2
        have F86_3 : a86 (z + 14 + n) 3 = (-1) := (congrFun (ho86.1 _ (by omega)) 3).trans F85_3
        have F86_4 : a86 (z + 14 + n) 4 = ((c0 : Nat) : Int) := (congrFun (ho86.1 _ (by omega)) 4).trans F85_4
        show Ev X _ _ 104 [Vr 114, Vr ((z + 14 + n : Nat) : Int)] [Vi ((i86 : Nat) : Int), Vr ((z + 14 + n : Nat) : Int)] ((SHv st dr (z : Int)), (ovl a86 s b)) _
        refine Ev.putf (c' := (ovl (updC a86 (z + 14 + n) 2 ((i86 : Nat) : Int)) s b)) rfl (by omega) (shRu hz (by omega)) rfl rfl (ovl_wc (by omega)) ?_
        obtain ⟨a87, ha87⟩ : ∃ x : C3, x = (updC a86 (z + 14 + n) 2 ((i86 : Nat) : Int)) := ⟨_, rfl⟩
        rw [← ha87]
        have X87 := (X86.up (o := (z + 14 + n)) (i := 2) (v := ((i86 : Nat) : Int)) (by omega))
        have G87 := (G86.up (o := (z + 14 + n)) (i := 2) (v := ((i86 : Nat) : Int)) (by omega))
        rw [← ha87] at X87 G87
        have Q87 := X87.le
        have F87_0 : a87 (z + 14 + n) 0 = 264 := by
          rw [ha87]
          exact (updC_nt (by omega)).trans <| F86_0
        have F87_1 : a87 (z + 14 + n) 1 = ((i84 : Nat) : Int) := by
          rw [ha87]
          exact (updC_nt (by omega)).trans <| F86_1
        have F87_2 : a87 (z + 14 + n) 2 = ((i86 : Nat) : Int) := by
          rw [ha87]
          exact updC_sm
        have F87_3 : a87 (z + 14 + n) 3 = (-1) := by
          rw [ha87]
          exact (updC_nt (by omega)).trans <| F86_3
        have F87_4 : a87 (z + 14 + n) 4 = ((c0 : Nat) : Int) := by
          rw [ha87]
          exact (updC_nt (by omega)).trans <| F86_4
        refine Ev.call (k := 3) (pc1 := 147) (L1 := [Vr 114, Vr ((z + 14 + n : Nat) : Int)]) (S1 := [Vi 268, Vr 114]) (h1 := ((SHv st dr (z : Int)), (ovl a87 s b))) (m' := 42) (as := [Vr 114, Vi 268]) (S' := []) (L0 := [Vr 114, Vi 268]) (fun _ => rfl) rfl rfl rfl rfl rfl rfl (c_expect X87.1 268) (fun r h' hq => ?_)
        obtain ⟨rfl, a88, rfl, hq⟩ := hq
        rcases hq with ⟨p88, hx88, ho88⟩ | ⟨e88, hx88, hb88⟩
        · have X88 := X87.nx ho88
          have L88 : p86 < p88 := by
            obtain ⟨h1, h2⟩ := exp_ok hx88
            exact X87.lt (by omega) (by unfold expT at hx88; rwa [if_neg (by omega)] at hx88)
          have G88 := G87.tr (ho88.1.gz (c := c0) X87.hz) (by omega)
          have R88 : a88 (z + 11) = a87 (z + 11) := ho88.1 _ (by omega)
          have Q88 := X88.le
          have F88_0 : a88 (z + 14 + n) 0 = 264 := (congrFun (ho88.1 _ (by omega)) 0).trans F87_0
          have F88_1 : a88 (z + 14 + n) 1 = ((i84 : Nat) : Int) := (congrFun (ho88.1 _ (by omega)) 1).trans F87_1
          have F88_2 : a88 (z + 14 + n) 2 = ((i86 : Nat) : Int) := (congrFun (ho88.1 _ (by omega)) 2).trans F87_2
          have F88_3 : a88 (z + 14 + n) 3 = (-1) := (congrFun (ho88.1 _ (by omega)) 3).trans F87_3
          have F88_4 : a88 (z + 14 + n) 4 = ((c0 : Nat) : Int) := (congrFun (ho88.1 _ (by omega)) 4).trans F87_4
          show Ev X _ _ 150 [Vr 114, Vr ((z + 14 + n : Nat) : Int)] [] ((SHv st dr (z : Int)), (ovl a88 s b)) _
          refine Ev.steps (k := 3) (pc' := 155) (L' := [Vr 114, Vr ((z + 14 + n : Nat) : Int)]) (S' := [Vr (z : Int), Vr ((z + 14 + n : Nat) : Int)]) (h' := ((SHv st dr (z : Int)), (ovl a88 s b))) (fun _ => rfl) ?_
          refine Ev.getf (v := ((c0 : Nat) : Int)) rfl rfl (by omega) (shY_0 hz) rfl rfl ((ovl_rc (by omega)).trans (X88.2.2.1)) ?_
          refine Ev.putf (c' := (ovl (updC a88 (z + 14 + n) 5 ((c0 : Nat) : Int)) s b)) rfl (by omega) (shRu hz (by omega)) rfl rfl (ovl_wc (by omega)) ?_
          obtain ⟨a89, ha89⟩ : ∃ x : C3, x = (updC a88 (z + 14 + n) 5 ((c0 : Nat) : Int)) := ⟨_, rfl⟩
          rw [← ha89]
          have X89 := (X88.up (o := (z + 14 + n)) (i := 5) (v := ((c0 : Nat) : Int)) (by omega))
          have G89 := (G88.up (o := (z + 14 + n)) (i := 5) (v := ((c0 : Nat) : Int)) (by omega))
          rw [← ha89] at X89 G89
          have Q89 := X89.le
          have F89_0 : a89 (z + 14 + n) 0 = 264 := by
            rw [ha89]
            exact (updC_nt (by omega)).trans <| F88_0
          have F89_1 : a89 (z + 14 + n) 1 = ((i84 : Nat) : Int) := by
            rw [ha89]
            exact (updC_nt (by omega)).trans <| F88_1
          have F89_2 : a89 (z + 14 + n) 2 = ((i86 : Nat) : Int) := by
            rw [ha89]
            exact (updC_nt (by omega)).trans <| F88_2
          have F89_3 : a89 (z + 14 + n) 3 = (-1) := by
            rw [ha89]
            exact (updC_nt (by omega)).trans <| F88_3
          have F89_4 : a89 (z + 14 + n) 4 = ((c0 : Nat) : Int) := by
            rw [ha89]
            exact (updC_nt (by omega)).trans <| F88_4
          have F89_5 : a89 (z + 14 + n) 5 = ((c0 : Nat) : Int) := by
            rw [ha89]
            exact updC_sm
          refine Ev.call (k := 1) (pc1 := 162) (L1 := [Vr 114, Vr ((z + 14 + n : Nat) : Int)]) (S1 := [Vr 114]) (h1 := ((SHv st dr (z : Int)), (ovl a89 s b))) (m' := 52) (as := [Vr 114]) (S' := []) (L0 := [Vr 114, Vx, Vx]) (fun _ => rfl) rfl rfl rfl rfl rfl rfl (c_tstT hz 8 _ _ _ _ (by omega) X89 (by omega)) (fun r h' hq => ?_)
          obtain ⟨rfl, a91, rfl, hq⟩ := hq
          rcases hq with ⟨⟨l91, p91⟩, hx91, c91, X91, g91, o91, h91⟩ | ⟨e91, hx91, hb91⟩
          · dsimp only at h91 X91 o91
            have L91 := o91.lt
            have G91 := G89.tr g91 (by omega)
            have Q91 := X91.le
            have F91_0 : a91 (z + 14 + n) 0 = 264 := (congrFun (g91.1 _ (by omega) (by omega) (by omega)) 0).trans F89_0
            have F91_1 : a91 (z + 14 + n) 1 = ((i84 : Nat) : Int) := (congrFun (g91.1 _ (by omega) (by omega) (by omega)) 1).trans F89_1
            have F91_2 : a91 (z + 14 + n) 2 = ((i86 : Nat) : Int) := (congrFun (g91.1 _ (by omega) (by omega) (by omega)) 2).trans F89_2
            have F91_3 : a91 (z + 14 + n) 3 = (-1) := (congrFun (g91.1 _ (by omega) (by omega) (by omega)) 3).trans F89_3
            have F91_4 : a91 (z + 14 + n) 4 = ((c0 : Nat) : Int) := (congrFun (g91.1 _ (by omega) (by omega) (by omega)) 4).trans F89_4
            have F91_5 : a91 (z + 14 + n) 5 = ((c0 : Nat) : Int) := (congrFun (g91.1 _ (by omega) (by omega) (by omega)) 5).trans F89_5
            show Ev X _ _ 165 [Vr 114, Vr ((z + 14 + n : Nat) : Int)] [] ((SHv st dr (z : Int)), (ovl a91 s b)) _
            refine Ev.steps (k := 3) (pc' := 170) (L' := [Vr 114, Vr ((z + 14 + n : Nat) : Int)]) (S' := [Vr (z : Int), Vr ((z + 14 + n : Nat) : Int)]) (h' := ((SHv st dr (z : Int)), (ovl a91 s b))) (fun _ => rfl) ?_
            refine Ev.getf (v := ((c91 : Nat) : Int)) rfl rfl (by omega) (shY_0 hz) rfl rfl ((ovl_rc (by omega)).trans (X91.2.2.1)) ?_
            refine Ev.putf (c' := (ovl (updC a91 (z + 14 + n) 6 ((c91 : Nat) : Int)) s b)) rfl (by omega) (shRu hz (by omega)) rfl rfl (ovl_wc (by omega)) ?_
            refine Ev.fin (k := 1) (r := none) (h' := ((SHv st dr (z : Int)), (ovl (updC a91 (z + 14 + n) 6 ((c91 : Nat) : Int)) s b))) (fun _ => rfl) ?_
            obtain ⟨a92, ha92⟩ : ∃ x : C3, x = (updC a91 (z + 14 + n) 6 ((c91 : Nat) : Int)) := ⟨_, rfl⟩
            rw [← ha92]
            have X92 := (X91.up (o := (z + 14 + n)) (i := 6) (v := ((c91 : Nat) : Int)) (by omega))
            have G92 := (G91.up (o := (z + 14 + n)) (i := 6) (v := ((c91 : Nat) : Int)) (by omega))
            rw [← ha92] at X92 G92
            have Q92 := X92.le
            have F92_0 : a92 (z + 14 + n) 0 = 264 := by
              rw [ha92]
              exact (updC_nt (by omega)).trans <| F91_0
            have F92_1 : a92 (z + 14 + n) 1 = ((i84 : Nat) : Int) := by
              rw [ha92]
              exact (updC_nt (by omega)).trans <| F91_1
            have F92_2 : a92 (z + 14 + n) 2 = ((i86 : Nat) : Int) := by
              rw [ha92]
              exact (updC_nt (by omega)).trans <| F91_2
            have F92_3 : a92 (z + 14 + n) 3 = (-1) := by
              rw [ha92]
              exact (updC_nt (by omega)).trans <| F91_3
            have F92_4 : a92 (z + 14 + n) 4 = ((c0 : Nat) : Int) := by
              rw [ha92]
              exact (updC_nt (by omega)).trans <| F91_4
            have F92_5 : a92 (z + 14 + n) 5 = ((c0 : Nat) : Int) := by
              rw [ha92]
              exact (updC_nt (by omega)).trans <| F91_5
            have F92_6 : a92 (z + 14 + n) 6 = ((c91 : Nat) : Int) := by
              rw [ha92]
              exact updC_sm
            refine ⟨rfl, _, rfl, ?_⟩
            unfold rulT
            rw [hx83, bnX_o, hx84, bnX_o]
            have eA : argT W S.1 (tC W p0) i84 p84 = bnX (askT W S.1 2 (-1) p84) (fun r => .ok ((((r.1 : Nat) : Int), ((r.1 : Nat) : Int), []), r.2)) := by rw [hlit]; rfl
            try dsimp only
            rw [eA, hx86, bnX_o]
            rw [bnX_o]
            try dsimp only
            rw [hx88, bnX_o, hx91, bnX_o]
            refine Or.inl ⟨_, rfl, c91, X92, by dsimp only; omega, G92.fs, fun a2 h1 h2 => ?_⟩
            dsimp only
            have hq := h1 (z + 14 + n) (by omega) (by omega) (by omega)
            have h11 := h1 (z + 11) (by omega) (by omega) (by omega)
            have ekd : tC W p0 - 262 = 2 := by omega
            refine P0.rule (k0 := (c0)) (k1 := (c0)) hn0 h8 hC (by omega) (fun o o1 o2 o3 o4 o5 => (h1 o o1 o2 o3).trans (G92.2.2.1 o (by omega) (by omega) o4 o5 o5)) (fun j hj => (congrFun h11 j).trans (G92.2.2.2 j hj)) (fun i => ?_) ?_ ?_ ?_ ?_ ?_ ?_ ?_ (by omega) ?_ ?_
            · rw [h2, congrFun (G92.2.2.1 (z + 1) (by omega) (by omega) (by omega) (by omega) (by omega)) i]
            · rw [hq, F92_0, ekd]; rfl
            · rw [hq, F92_1]
            · intro g; rw [hq, F92_2]
            · intro g; omega
            · rw [hq, F92_4]
            · rw [hq, F92_5]
            · rw [hq, F92_6]
            · rw [h11, show a92 (z + 11) = a91 (z + 11) by rw [ha92, updC_row (by omega)]]
              exact o91.mo (by omega)
            · intro g; omega
          · have B91 := G89.bz hb91
            show Ev X _ _ 165 [Vr 114, Vr ((z + 14 + n : Nat) : Int)] [] ((SHv st dr (z : Int)), (ovl a91 s b)) _
            refine Ev.steps (k := 3) (pc' := 170) (L' := [Vr 114, Vr ((z + 14 + n : Nat) : Int)]) (S' := [Vr (z : Int), Vr ((z + 14 + n : Nat) : Int)]) (h' := ((SHv st dr (z : Int)), (ovl a91 s b))) (fun _ => rfl) ?_
            refine Ev.getf (v := (a91 z 9)) rfl rfl (by omega) (shY_0 hz) rfl rfl (ovl_rc (by omega)) ?_
            refine Ev.putf (c' := (ovl (updC a91 (z + 14 + n) 6 (a91 z 9)) s b)) rfl (by omega) (shRu hz (by omega)) rfl rfl (ovl_wc (by omega)) ?_
            refine Ev.fin (k := 1) (r := none) (h' := ((SHv st dr (z : Int)), (ovl (updC a91 (z + 14 + n) 6 (a91 z 9)) s b))) (fun _ => rfl) ?_
            obtain ⟨a93, ha93⟩ : ∃ x : C3, x = (updC a91 (z + 14 + n) 6 (a91 z 9)) := ⟨_, rfl⟩
            rw [← ha93]
            have B93 := (B91.up (o := (z + 14 + n)) (i := 6) (v := (a91 z 9)) hz (by omega))
            rw [← ha93] at B93
            refine ⟨rfl, _, rfl, ?_⟩
            unfold rulT
            rw [hx83, bnX_o, hx84, bnX_o]
            have eA : argT W S.1 (tC W p0) i84 p84 = bnX (askT W S.1 2 (-1) p84) (fun r => .ok ((((r.1 : Nat) : Int), ((r.1 : Nat) : Int), []), r.2)) := by rw [hlit]; rfl
            try dsimp only
            rw [eA, hx86, bnX_o]
            rw [bnX_o]
            try dsimp only
            rw [hx88, bnX_o, hx91, bnX_e]
            exact Or.inr ⟨_, rfl, B93⟩
        · have B88 := G87.bd X87 (by omega) hb88
          show Ev X _ _ 150 [Vr 114, Vr ((z + 14 + n : Nat) : Int)] [] ((SHv st dr (z : Int)), (ovl a88 s b)) _
          refine Ev.steps (k := 3) (pc' := 155) (L' := [Vr 114, Vr ((z + 14 + n : Nat) : Int)]) (S' := [Vr (z : Int), Vr ((z + 14 + n : Nat) : Int)]) (h' := ((SHv st dr (z : Int)), (ovl a88 s b))) (fun _ => rfl) ?_
          refine Ev.getf (v := (a88 z 9)) rfl rfl (by omega) (shY_0 hz) rfl rfl (ovl_rc (by omega)) ?_
          refine Ev.putf (c' := (ovl (updC a88 (z + 14 + n) 5 (a88 z 9)) s b)) rfl (by omega) (shRu hz (by omega)) rfl rfl (ovl_wc (by omega)) ?_
          obtain ⟨a94, ha94⟩ : ∃ x : C3, x = (updC a88 (z + 14 + n) 5 (a88 z 9)) := ⟨_, rfl⟩
          rw [← ha94]
          have B94 := (B88.up (o := (z + 14 + n)) (i := 5) (v := (a88 z 9)) hz (by omega))
          rw [← ha94] at B94
          refine Ev.call (k := 1) (pc1 := 162) (L1 := [Vr 114, Vr ((z + 14 + n : Nat) : Int)]) (S1 := [Vr 114]) (h1 := ((SHv st dr (z : Int)), (ovl a94 s b))) (m' := 52) (as := [Vr 114]) (S' := []) (L0 := [Vr 114, Vx, Vx]) (fun _ => rfl) rfl rfl rfl rfl rfl rfl (c_test_br hz B94.z) (fun r h' hq => ?_)
          obtain ⟨rfl, a95, rfl, hb95⟩ := hq
          have B95 := B94.tz hb95
          show Ev X _ _ 165 [Vr 114, Vr ((z + 14 + n : Nat) : Int)] [] ((SHv st dr (z : Int)), (ovl a95 s b)) _
          refine Ev.steps (k := 3) (pc' := 170) (L' := [Vr 114, Vr ((z + 14 + n : Nat) : Int)]) (S' := [Vr (z : Int), Vr ((z + 14 + n : Nat) : Int)]) (h' := ((SHv st dr (z : Int)), (ovl a95 s b))) (fun _ => rfl) ?_
          refine Ev.getf (v := (a95 z 9)) rfl rfl (by omega) (shY_0 hz) rfl rfl (ovl_rc (by omega)) ?_
          refine Ev.putf (c' := (ovl (updC a95 (z + 14 + n) 6 (a95 z 9)) s b)) rfl (by omega) (shRu hz (by omega)) rfl rfl (ovl_wc (by omega)) ?_
          refine Ev.fin (k := 1) (r := none) (h' := ((SHv st dr (z : Int)), (ovl (updC a95 (z + 14 + n) 6 (a95 z 9)) s b))) (fun _ => rfl) ?_
          obtain ⟨a96, ha96⟩ : ∃ x : C3, x = (updC a95 (z + 14 + n) 6 (a95 z 9)) := ⟨_, rfl⟩
          rw [← ha96]
          have B96 := (B95.up (o := (z + 14 + n)) (i := 6) (v := (a95 z 9)) hz (by omega))
          rw [← ha96] at B96
          refine ⟨rfl, _, rfl, ?_⟩
          unfold rulT
          rw [hx83, bnX_o, hx84, bnX_o]
          have eA : argT W S.1 (tC W p0) i84 p84 = bnX (askT W S.1 2 (-1) p84) (fun r => .ok ((((r.1 : Nat) : Int), ((r.1 : Nat) : Int), []), r.2)) := by rw [hlit]; rfl
          try dsimp only
          rw [eA, hx86, bnX_o]
          rw [bnX_o]
          try dsimp only
          rw [hx88, bnX_e]
          exact Or.inr ⟨_, rfl, B96⟩
      · have B86 := G85.bd X85 (by omega) hb86
        have F86_0 : a86 (z + 14 + n) 0 = 264 := (congrFun (hb86.1 _ (by omega)) 0).trans F85_0
        show Ev X _ _ 104 [Vr 114, Vr ((z + 14 + n : Nat) : Int)] [Vi v86, Vr ((z + 14 + n : Nat) : Int)] ((SHv st dr (z : Int)), (ovl a86 s b)) _
        refine Ev.putf (c' := (ovl (updC a86 (z + 14 + n) 2 v86) s b)) rfl (by omega) (shRu hz (by omega)) rfl rfl (ovl_wc (by omega)) ?_
        obtain ⟨a97, ha97⟩ : ∃ x : C3, x = (updC a86 (z + 14 + n) 2 v86) := ⟨_, rfl⟩
        rw [← ha97]
        have B97 := (B86.up (o := (z + 14 + n)) (i := 2) (v := v86) hz (by omega))
        rw [← ha97] at B97
        have F97_0 : a97 (z + 14 + n) 0 = 264 := by
          rw [ha97]
          exact (updC_nt (by omega)).trans <| F86_0
        refine Ev.call (k := 3) (pc1 := 147) (L1 := [Vr 114, Vr ((z + 14 + n : Nat) : Int)]) (S1 := [Vi 268, Vr 114]) (h1 := ((SHv st dr (z : Int)), (ovl a97 s b))) (m' := 42) (as := [Vr 114, Vi 268]) (S' := []) (L0 := [Vr 114, Vi 268]) (fun _ => rfl) rfl rfl rfl rfl rfl rfl (c_expect_br B97.2.2.1 268 (by decide)) (fun r h' hq => ?_)
        obtain ⟨rfl, rfl⟩ := hq
        show Ev X _ _ 150 [Vr 114, Vr ((z + 14 + n : Nat) : Int)] [] ((SHv st dr (z : Int)), (ovl a97 s b)) _
        refine Ev.steps (k := 3) (pc' := 155) (L' := [Vr 114, Vr ((z + 14 + n : Nat) : Int)]) (S' := [Vr (z : Int), Vr ((z + 14 + n : Nat) : Int)]) (h' := ((SHv st dr (z : Int)), (ovl a97 s b))) (fun _ => rfl) ?_
        refine Ev.getf (v := (a97 z 9)) rfl rfl (by omega) (shY_0 hz) rfl rfl (ovl_rc (by omega)) ?_
        refine Ev.putf (c' := (ovl (updC a97 (z + 14 + n) 5 (a97 z 9)) s b)) rfl (by omega) (shRu hz (by omega)) rfl rfl (ovl_wc (by omega)) ?_
        obtain ⟨a98, ha98⟩ : ∃ x : C3, x = (updC a97 (z + 14 + n) 5 (a97 z 9)) := ⟨_, rfl⟩
        rw [← ha98]
        have B98 := (B97.up (o := (z + 14 + n)) (i := 5) (v := (a97 z 9)) hz (by omega))
        rw [← ha98] at B98
        have F98_0 : a98 (z + 14 + n) 0 = 264 := by
          rw [ha98]
          exact (updC_nt (by omega)).trans <| F97_0
        refine Ev.call (k := 1) (pc1 := 162) (L1 := [Vr 114, Vr ((z + 14 + n : Nat) : Int)]) (S1 := [Vr 114]) (h1 := ((SHv st dr (z : Int)), (ovl a98 s b))) (m' := 52) (as := [Vr 114]) (S' := []) (L0 := [Vr 114, Vx, Vx]) (fun _ => rfl) rfl rfl rfl rfl rfl rfl (c_test_br hz B98.z) (fun r h' hq => ?_)
        obtain ⟨rfl, a99, rfl, hb99⟩ := hq
        have B99 := B98.tz hb99
        show Ev X _ _ 165 [Vr 114, Vr ((z + 14 + n : Nat) : Int)] [] ((SHv st dr (z : Int)), (ovl a99 s b)) _
        refine Ev.steps (k := 3) (pc' := 170) (L' := [Vr 114, Vr ((z + 14 + n : Nat) : Int)]) (S' := [Vr (z : Int), Vr ((z + 14 + n : Nat) : Int)]) (h' := ((SHv st dr (z : Int)), (ovl a99 s b))) (fun _ => rfl) ?_
        refine Ev.getf (v := (a99 z 9)) rfl rfl (by omega) (shY_0 hz) rfl rfl (ovl_rc (by omega)) ?_
        refine Ev.putf (c' := (ovl (updC a99 (z + 14 + n) 6 (a99 z 9)) s b)) rfl (by omega) (shRu hz (by omega)) rfl rfl (ovl_wc (by omega)) ?_
        refine Ev.fin (k := 1) (r := none) (h' := ((SHv st dr (z : Int)), (ovl (updC a99 (z + 14 + n) 6 (a99 z 9)) s b))) (fun _ => rfl) ?_
        obtain ⟨a100, ha100⟩ : ∃ x : C3, x = (updC a99 (z + 14 + n) 6 (a99 z 9)) := ⟨_, rfl⟩
        rw [← ha100]
        have B100 := (B99.up (o := (z + 14 + n)) (i := 6) (v := (a99 z 9)) hz (by omega))
        rw [← ha100] at B100
        refine ⟨rfl, _, rfl, ?_⟩
        unfold rulT
        rw [hx83, bnX_o, hx84, bnX_o]
        have eA : argT W S.1 (tC W p0) i84 p84 = bnX (askT W S.1 2 (-1) p84) (fun r => .ok ((((r.1 : Nat) : Int), ((r.1 : Nat) : Int), []), r.2)) := by rw [hlit]; rfl
        try dsimp only
        rw [eA, hx86, bnX_e]
        rw [bnX_e]
        exact Or.inr ⟨_, rfl, B100⟩
    · have B84 := G83.bd X83 (by omega) hb84
      have F84_0 : a84 (z + 14 + n) 0 = 264 := (congrFun (hb84.1 _ (by omega)) 0).trans F83_0
      show Ev X _ _ 19 [Vr 114, Vr ((z + 14 + n : Nat) : Int)] [Vi v84, Vr ((z + 14 + n : Nat) : Int)] ((SHv st dr (z : Int)), (ovl a84 s b)) _
      refine Ev.putf (c' := (ovl (updC a84 (z + 14 + n) 1 v84) s b)) rfl (by omega) (shRu hz (by omega)) rfl rfl (ovl_wc (by omega)) ?_
      refine Ev.steps (k := 2) (pc' := 24) (L' := [Vr 114, Vr ((z + 14 + n : Nat) : Int)]) (S' := [Vi (-1), Vr ((z + 14 + n : Nat) : Int)]) (h' := ((SHv st dr (z : Int)), (ovl (updC a84 (z + 14 + n) 1 v84) s b))) (fun _ => rfl) ?_
      refine Ev.putf (c' := (ovl (updC (updC a84 (z + 14 + n) 1 v84) (z + 14 + n) 2 (-1)) s b)) rfl (by omega) (shRu hz (by omega)) rfl rfl (ovl_wc (by omega)) ?_
      refine Ev.steps (k := 2) (pc' := 29) (L' := [Vr 114, Vr ((z + 14 + n : Nat) : Int)]) (S' := [Vi (-1), Vr ((z + 14 + n : Nat) : Int)]) (h' := ((SHv st dr (z : Int)), (ovl (updC (updC a84 (z + 14 + n) 1 v84) (z + 14 + n) 2 (-1)) s b))) (fun _ => rfl) ?_
      refine Ev.putf (c' := (ovl (updC (updC (updC a84 (z + 14 + n) 1 v84) (z + 14 + n) 2 (-1)) (z + 14 + n) 3 (-1)) s b)) rfl (by omega) (shRu hz (by omega)) rfl rfl (ovl_wc (by omega)) ?_
      refine Ev.steps (k := 3) (pc' := 37) (L' := [Vr 114, Vr ((z + 14 + n : Nat) : Int)]) (S' := [Vr (z : Int), Vr ((z + 14 + n : Nat) : Int)]) (h' := ((SHv st dr (z : Int)), (ovl (updC (updC (updC a84 (z + 14 + n) 1 v84) (z + 14 + n) 2 (-1)) (z + 14 + n) 3 (-1)) s b))) (fun _ => rfl) ?_
      refine Ev.getf (v := (a84 z 9)) rfl rfl (by omega) (shY_0 hz) rfl rfl ((ovl_rc (by omega)).trans (by show (updC (updC (updC a84 (z + 14 + n) 1 v84) (z + 14 + n) 2 (-1)) (z + 14 + n) 3 (-1)) z 9 = _; rw [updC_nt (by omega), updC_nt (by omega), updC_nt (by omega)])) ?_
      refine Ev.putf (c' := (ovl (updC (updC (updC (updC a84 (z + 14 + n) 1 v84) (z + 14 + n) 2 (-1)) (z + 14 + n) 3 (-1)) (z + 14 + n) 4 (a84 z 9)) s b)) rfl (by omega) (shRu hz (by omega)) rfl rfl (ovl_wc (by omega)) ?_
      refine Ev.steps (k := 1) (pc' := 44) (L' := [Vr 114, Vr ((z + 14 + n : Nat) : Int)]) (S' := [Vr ((z + 14 + n : Nat) : Int)]) (h' := ((SHv st dr (z : Int)), (ovl (updC (updC (updC (updC a84 (z + 14 + n) 1 v84) (z + 14 + n) 2 (-1)) (z + 14 + n) 3 (-1)) (z + 14 + n) 4 (a84 z 9)) s b))) (fun _ => rfl) ?_
      refine Ev.getf (v := 264) rfl rfl (by omega) (shRu hz (by omega)) rfl rfl (((ovl_rc (by omega)).trans (by show (updC (updC (updC (updC a84 (z + 14 + n) 1 v84) (z + 14 + n) 2 (-1)) (z + 14 + n) 3 (-1)) (z + 14 + n) 4 (a84 z 9)) (z + 14 + n) 0 = _; rw [updC_nt (by omega), updC_nt (by omega), updC_nt (by omega), updC_nt (by omega)])).trans (F84_0)) ?_
      obtain ⟨a101, ha101⟩ : ∃ x : C3, x = (updC (updC (updC (updC a84 (z + 14 + n) 1 v84) (z + 14 + n) 2 (-1)) (z + 14 + n) 3 (-1)) (z + 14 + n) 4 (a84 z 9)) := ⟨_, rfl⟩
      rw [← ha101]
      have B101 := ((((B84.up (o := (z + 14 + n)) (i := 1) (v := v84) hz (by omega)).up (o := (z + 14 + n)) (i := 2) (v := (-1)) hz (by omega)).up (o := (z + 14 + n)) (i := 3) (v := (-1)) hz (by omega)).up (o := (z + 14 + n)) (i := 4) (v := (a84 z 9)) hz (by omega))
      rw [← ha101] at B101
      have F101_0 : a101 (z + 14 + n) 0 = 264 := by
        rw [ha101]
        exact (updC_nt (by omega)).trans <| (updC_nt (by omega)).trans <| (updC_nt (by omega)).trans <| (updC_nt (by omega)).trans <| F84_0
      refine Ev.call (k := 5) (pc1 := 101) (L1 := [Vr 114, Vr ((z + 14 + n : Nat) : Int)]) (S1 := [Vi (-1), Vi 3, Vr 114, Vr ((z + 14 + n : Nat) : Int)]) (h1 := ((SHv st dr (z : Int)), (ovl a101 s b))) (m' := 38) (as := [Vr 114, Vi 3, Vi (-1)]) (S' := [Vr ((z + 14 + n : Nat) : Int)]) (L0 := [Vr 114, Vi 3, Vi (-1), Vx]) (fun _ => rfl) rfl rfl rfl rfl rfl rfl (c_asked_br B101.2.2.1 3 (-1)) (fun r h' hq => ?_)
      obtain ⟨rfl, rfl⟩ := hq
      show Ev X _ _ 104 [Vr 114, Vr ((z + 14 + n : Nat) : Int)] [Vi (-1), Vr ((z + 14 + n : Nat) : Int)] ((SHv st dr (z : Int)), (ovl a101 s b)) _
      refine Ev.putf (c' := (ovl (updC a101 (z + 14 + n) 2 (-1)) s b)) rfl (by omega) (shRu hz (by omega)) rfl rfl (ovl_wc (by omega)) ?_
      obtain ⟨a102, ha102⟩ : ∃ x : C3, x = (updC a101 (z + 14 + n) 2 (-1)) := ⟨_, rfl⟩
      rw [← ha102]
      have B102 := (B101.up (o := (z + 14 + n)) (i := 2) (v := (-1)) hz (by omega))
      rw [← ha102] at B102
      have F102_0 : a102 (z + 14 + n) 0 = 264 := by
        rw [ha102]
        exact (updC_nt (by omega)).trans <| F101_0
      refine Ev.call (k := 3) (pc1 := 147) (L1 := [Vr 114, Vr ((z + 14 + n : Nat) : Int)]) (S1 := [Vi 268, Vr 114]) (h1 := ((SHv st dr (z : Int)), (ovl a102 s b))) (m' := 42) (as := [Vr 114, Vi 268]) (S' := []) (L0 := [Vr 114, Vi 268]) (fun _ => rfl) rfl rfl rfl rfl rfl rfl (c_expect_br B102.2.2.1 268 (by decide)) (fun r h' hq => ?_)
      obtain ⟨rfl, rfl⟩ := hq
      show Ev X _ _ 150 [Vr 114, Vr ((z + 14 + n : Nat) : Int)] [] ((SHv st dr (z : Int)), (ovl a102 s b)) _
      refine Ev.steps (k := 3) (pc' := 155) (L' := [Vr 114, Vr ((z + 14 + n : Nat) : Int)]) (S' := [Vr (z : Int), Vr ((z + 14 + n : Nat) : Int)]) (h' := ((SHv st dr (z : Int)), (ovl a102 s b))) (fun _ => rfl) ?_
      refine Ev.getf (v := (a102 z 9)) rfl rfl (by omega) (shY_0 hz) rfl rfl (ovl_rc (by omega)) ?_
      refine Ev.putf (c' := (ovl (updC a102 (z + 14 + n) 5 (a102 z 9)) s b)) rfl (by omega) (shRu hz (by omega)) rfl rfl (ovl_wc (by omega)) ?_
      obtain ⟨a103, ha103⟩ : ∃ x : C3, x = (updC a102 (z + 14 + n) 5 (a102 z 9)) := ⟨_, rfl⟩
      rw [← ha103]
      have B103 := (B102.up (o := (z + 14 + n)) (i := 5) (v := (a102 z 9)) hz (by omega))
      rw [← ha103] at B103
      have F103_0 : a103 (z + 14 + n) 0 = 264 := by
        rw [ha103]
        exact (updC_nt (by omega)).trans <| F102_0
      refine Ev.call (k := 1) (pc1 := 162) (L1 := [Vr 114, Vr ((z + 14 + n : Nat) : Int)]) (S1 := [Vr 114]) (h1 := ((SHv st dr (z : Int)), (ovl a103 s b))) (m' := 52) (as := [Vr 114]) (S' := []) (L0 := [Vr 114, Vx, Vx]) (fun _ => rfl) rfl rfl rfl rfl rfl rfl (c_test_br hz B103.z) (fun r h' hq => ?_)
      obtain ⟨rfl, a104, rfl, hb104⟩ := hq
      have B104 := B103.tz hb104
      show Ev X _ _ 165 [Vr 114, Vr ((z + 14 + n : Nat) : Int)] [] ((SHv st dr (z : Int)), (ovl a104 s b)) _
      refine Ev.steps (k := 3) (pc' := 170) (L' := [Vr 114, Vr ((z + 14 + n : Nat) : Int)]) (S' := [Vr (z : Int), Vr ((z + 14 + n : Nat) : Int)]) (h' := ((SHv st dr (z : Int)), (ovl a104 s b))) (fun _ => rfl) ?_
      refine Ev.getf (v := (a104 z 9)) rfl rfl (by omega) (shY_0 hz) rfl rfl (ovl_rc (by omega)) ?_
      refine Ev.putf (c' := (ovl (updC a104 (z + 14 + n) 6 (a104 z 9)) s b)) rfl (by omega) (shRu hz (by omega)) rfl rfl (ovl_wc (by omega)) ?_
      refine Ev.fin (k := 1) (r := none) (h' := ((SHv st dr (z : Int)), (ovl (updC a104 (z + 14 + n) 6 (a104 z 9)) s b))) (fun _ => rfl) ?_
      obtain ⟨a105, ha105⟩ : ∃ x : C3, x = (updC a104 (z + 14 + n) 6 (a104 z 9)) := ⟨_, rfl⟩
      rw [← ha105]
      have B105 := (B104.up (o := (z + 14 + n)) (i := 6) (v := (a104 z 9)) hz (by omega))
      rw [← ha105] at B105
      refine ⟨rfl, _, rfl, ?_⟩
      unfold rulT
      rw [hx83, bnX_o, hx84, bnX_e]
      exact Or.inr ⟨_, rfl, B105⟩
  · have B83 := G82.bd X82 (by omega) hb83
    have F83_0 : a83 (z + 14 + n) 0 = 264 := (congrFun (hb83.1 _ (by omega)) 0).trans F82_0
    show Ev X _ _ 12 [Vr 114, Vr ((z + 14 + n : Nat) : Int)] [] ((SHv st dr (z : Int)), (ovl a83 s b)) _
    refine Ev.call (k := 4) (pc1 := 16) (L1 := [Vr 114, Vr ((z + 14 + n : Nat) : Int)]) (S1 := [Vi (-1), Vi 2, Vr 114, Vr ((z + 14 + n : Nat) : Int)]) (h1 := ((SHv st dr (z : Int)), (ovl a83 s b))) (m' := 38) (as := [Vr 114, Vi 2, Vi (-1)]) (S' := [Vr ((z + 14 + n : Nat) : Int)]) (L0 := [Vr 114, Vi 2, Vi (-1), Vx]) (fun _ => rfl) rfl rfl rfl rfl rfl rfl (c_asked_br B83.2.2.1 2 (-1)) (fun r h' hq => ?_)
    obtain ⟨rfl, rfl⟩ := hq
    show Ev X _ _ 19 [Vr 114, Vr ((z + 14 + n : Nat) : Int)] [Vi (-1), Vr ((z + 14 + n : Nat) : Int)] ((SHv st dr (z : Int)), (ovl a83 s b)) _
    refine Ev.putf (c' := (ovl (updC a83 (z + 14 + n) 1 (-1)) s b)) rfl (by omega) (shRu hz (by omega)) rfl rfl (ovl_wc (by omega)) ?_
    refine Ev.steps (k := 2) (pc' := 24) (L' := [Vr 114, Vr ((z + 14 + n : Nat) : Int)]) (S' := [Vi (-1), Vr ((z + 14 + n : Nat) : Int)]) (h' := ((SHv st dr (z : Int)), (ovl (updC a83 (z + 14 + n) 1 (-1)) s b))) (fun _ => rfl) ?_
    refine Ev.putf (c' := (ovl (updC (updC a83 (z + 14 + n) 1 (-1)) (z + 14 + n) 2 (-1)) s b)) rfl (by omega) (shRu hz (by omega)) rfl rfl (ovl_wc (by omega)) ?_
    refine Ev.steps (k := 2) (pc' := 29) (L' := [Vr 114, Vr ((z + 14 + n : Nat) : Int)]) (S' := [Vi (-1), Vr ((z + 14 + n : Nat) : Int)]) (h' := ((SHv st dr (z : Int)), (ovl (updC (updC a83 (z + 14 + n) 1 (-1)) (z + 14 + n) 2 (-1)) s b))) (fun _ => rfl) ?_
    refine Ev.putf (c' := (ovl (updC (updC (updC a83 (z + 14 + n) 1 (-1)) (z + 14 + n) 2 (-1)) (z + 14 + n) 3 (-1)) s b)) rfl (by omega) (shRu hz (by omega)) rfl rfl (ovl_wc (by omega)) ?_
    refine Ev.steps (k := 3) (pc' := 37) (L' := [Vr 114, Vr ((z + 14 + n : Nat) : Int)]) (S' := [Vr (z : Int), Vr ((z + 14 + n : Nat) : Int)]) (h' := ((SHv st dr (z : Int)), (ovl (updC (updC (updC a83 (z + 14 + n) 1 (-1)) (z + 14 + n) 2 (-1)) (z + 14 + n) 3 (-1)) s b))) (fun _ => rfl) ?_
    refine Ev.getf (v := (a83 z 9)) rfl rfl (by omega) (shY_0 hz) rfl rfl ((ovl_rc (by omega)).trans (by show (updC (updC (updC a83 (z + 14 + n) 1 (-1)) (z + 14 + n) 2 (-1)) (z + 14 + n) 3 (-1)) z 9 = _; rw [updC_nt (by omega), updC_nt (by omega), updC_nt (by omega)])) ?_
    refine Ev.putf (c' := (ovl (updC (updC (updC (updC a83 (z + 14 + n) 1 (-1)) (z + 14 + n) 2 (-1)) (z + 14 + n) 3 (-1)) (z + 14 + n) 4 (a83 z 9)) s b)) rfl (by omega) (shRu hz (by omega)) rfl rfl (ovl_wc (by omega)) ?_
    refine Ev.steps (k := 1) (pc' := 44) (L' := [Vr 114, Vr ((z + 14 + n : Nat) : Int)]) (S' := [Vr ((z + 14 + n : Nat) : Int)]) (h' := ((SHv st dr (z : Int)), (ovl (updC (updC (updC (updC a83 (z + 14 + n) 1 (-1)) (z + 14 + n) 2 (-1)) (z + 14 + n) 3 (-1)) (z + 14 + n) 4 (a83 z 9)) s b))) (fun _ => rfl) ?_
    refine Ev.getf (v := 264) rfl rfl (by omega) (shRu hz (by omega)) rfl rfl (((ovl_rc (by omega)).trans (by show (updC (updC (updC (updC a83 (z + 14 + n) 1 (-1)) (z + 14 + n) 2 (-1)) (z + 14 + n) 3 (-1)) (z + 14 + n) 4 (a83 z 9)) (z + 14 + n) 0 = _; rw [updC_nt (by omega), updC_nt (by omega), updC_nt (by omega), updC_nt (by omega)])).trans (F83_0)) ?_
    obtain ⟨a106, ha106⟩ : ∃ x : C3, x = (updC (updC (updC (updC a83 (z + 14 + n) 1 (-1)) (z + 14 + n) 2 (-1)) (z + 14 + n) 3 (-1)) (z + 14 + n) 4 (a83 z 9)) := ⟨_, rfl⟩
    rw [← ha106]
    have B106 := ((((B83.up (o := (z + 14 + n)) (i := 1) (v := (-1)) hz (by omega)).up (o := (z + 14 + n)) (i := 2) (v := (-1)) hz (by omega)).up (o := (z + 14 + n)) (i := 3) (v := (-1)) hz (by omega)).up (o := (z + 14 + n)) (i := 4) (v := (a83 z 9)) hz (by omega))
    rw [← ha106] at B106
    have F106_0 : a106 (z + 14 + n) 0 = 264 := by
      rw [ha106]
      exact (updC_nt (by omega)).trans <| (updC_nt (by omega)).trans <| (updC_nt (by omega)).trans <| (updC_nt (by omega)).trans <| F83_0
    refine Ev.call (k := 5) (pc1 := 101) (L1 := [Vr 114, Vr ((z + 14 + n : Nat) : Int)]) (S1 := [Vi (-1), Vi 3, Vr 114, Vr ((z + 14 + n : Nat) : Int)]) (h1 := ((SHv st dr (z : Int)), (ovl a106 s b))) (m' := 38) (as := [Vr 114, Vi 3, Vi (-1)]) (S' := [Vr ((z + 14 + n : Nat) : Int)]) (L0 := [Vr 114, Vi 3, Vi (-1), Vx]) (fun _ => rfl) rfl rfl rfl rfl rfl rfl (c_asked_br B106.2.2.1 3 (-1)) (fun r h' hq => ?_)
    obtain ⟨rfl, rfl⟩ := hq
    show Ev X _ _ 104 [Vr 114, Vr ((z + 14 + n : Nat) : Int)] [Vi (-1), Vr ((z + 14 + n : Nat) : Int)] ((SHv st dr (z : Int)), (ovl a106 s b)) _
    refine Ev.putf (c' := (ovl (updC a106 (z + 14 + n) 2 (-1)) s b)) rfl (by omega) (shRu hz (by omega)) rfl rfl (ovl_wc (by omega)) ?_
    obtain ⟨a107, ha107⟩ : ∃ x : C3, x = (updC a106 (z + 14 + n) 2 (-1)) := ⟨_, rfl⟩
    rw [← ha107]
    have B107 := (B106.up (o := (z + 14 + n)) (i := 2) (v := (-1)) hz (by omega))
    rw [← ha107] at B107
    have F107_0 : a107 (z + 14 + n) 0 = 264 := by
      rw [ha107]
      exact (updC_nt (by omega)).trans <| F106_0
    refine Ev.call (k := 3) (pc1 := 147) (L1 := [Vr 114, Vr ((z + 14 + n : Nat) : Int)]) (S1 := [Vi 268, Vr 114]) (h1 := ((SHv st dr (z : Int)), (ovl a107 s b))) (m' := 42) (as := [Vr 114, Vi 268]) (S' := []) (L0 := [Vr 114, Vi 268]) (fun _ => rfl) rfl rfl rfl rfl rfl rfl (c_expect_br B107.2.2.1 268 (by decide)) (fun r h' hq => ?_)
    obtain ⟨rfl, rfl⟩ := hq
    show Ev X _ _ 150 [Vr 114, Vr ((z + 14 + n : Nat) : Int)] [] ((SHv st dr (z : Int)), (ovl a107 s b)) _
    refine Ev.steps (k := 3) (pc' := 155) (L' := [Vr 114, Vr ((z + 14 + n : Nat) : Int)]) (S' := [Vr (z : Int), Vr ((z + 14 + n : Nat) : Int)]) (h' := ((SHv st dr (z : Int)), (ovl a107 s b))) (fun _ => rfl) ?_
    refine Ev.getf (v := (a107 z 9)) rfl rfl (by omega) (shY_0 hz) rfl rfl (ovl_rc (by omega)) ?_
    refine Ev.putf (c' := (ovl (updC a107 (z + 14 + n) 5 (a107 z 9)) s b)) rfl (by omega) (shRu hz (by omega)) rfl rfl (ovl_wc (by omega)) ?_
    obtain ⟨a108, ha108⟩ : ∃ x : C3, x = (updC a107 (z + 14 + n) 5 (a107 z 9)) := ⟨_, rfl⟩
    rw [← ha108]
    have B108 := (B107.up (o := (z + 14 + n)) (i := 5) (v := (a107 z 9)) hz (by omega))
    rw [← ha108] at B108
    have F108_0 : a108 (z + 14 + n) 0 = 264 := by
      rw [ha108]
      exact (updC_nt (by omega)).trans <| F107_0
    refine Ev.call (k := 1) (pc1 := 162) (L1 := [Vr 114, Vr ((z + 14 + n : Nat) : Int)]) (S1 := [Vr 114]) (h1 := ((SHv st dr (z : Int)), (ovl a108 s b))) (m' := 52) (as := [Vr 114]) (S' := []) (L0 := [Vr 114, Vx, Vx]) (fun _ => rfl) rfl rfl rfl rfl rfl rfl (c_test_br hz B108.z) (fun r h' hq => ?_)
    obtain ⟨rfl, a109, rfl, hb109⟩ := hq
    have B109 := B108.tz hb109
    show Ev X _ _ 165 [Vr 114, Vr ((z + 14 + n : Nat) : Int)] [] ((SHv st dr (z : Int)), (ovl a109 s b)) _
    refine Ev.steps (k := 3) (pc' := 170) (L' := [Vr 114, Vr ((z + 14 + n : Nat) : Int)]) (S' := [Vr (z : Int), Vr ((z + 14 + n : Nat) : Int)]) (h' := ((SHv st dr (z : Int)), (ovl a109 s b))) (fun _ => rfl) ?_
    refine Ev.getf (v := (a109 z 9)) rfl rfl (by omega) (shY_0 hz) rfl rfl (ovl_rc (by omega)) ?_
    refine Ev.putf (c' := (ovl (updC a109 (z + 14 + n) 6 (a109 z 9)) s b)) rfl (by omega) (shRu hz (by omega)) rfl rfl (ovl_wc (by omega)) ?_
    refine Ev.fin (k := 1) (r := none) (h' := ((SHv st dr (z : Int)), (ovl (updC a109 (z + 14 + n) 6 (a109 z 9)) s b))) (fun _ => rfl) ?_
    obtain ⟨a110, ha110⟩ : ∃ x : C3, x = (updC a109 (z + 14 + n) 6 (a109 z 9)) := ⟨_, rfl⟩
    rw [← ha110]
    have B110 := (B109.up (o := (z + 14 + n)) (i := 6) (v := (a109 z 9)) hz (by omega))
    rw [← ha110] at B110
    refine ⟨rfl, _, rfl, ?_⟩
    unfold rulT
    rw [hx83, bnX_e]
    exact Or.inr ⟨_, rfl, B110⟩
theorem c_ruled_265 {X : List Int} {st dr : Int} {s b : C3} {W : TXT} {S : STY} {z : Nat} (hz : hyS z) {n : Nat} (d : Nat) (a0 : C3) (p0 c0 : Nat) (hd : 400 ≤ d) (X0 : XoC W S.1 z p0 c0 8 a0) (P0 : PaC S a0 z c0) (hC : nC S ≤ 12) (hc0 : c0 ≤ p0) (hlit : tC W p0 = 265) (hn0 : S.1 0 4 = (n : Int)) (h8 : n < 30) : Ev X d 45 0 [Vr 114, Vr ((z + 14 + n : Nat) : Int)] [] (SHv st dr (z : Int), ovl a0 s b) (PoB st dr s b W S z 4 n a0 (rulT W S p0)) := by
  have hz1 := z11 hz
  have hz0 : z = 2 ∨ z = 58 := hz
  obtain ⟨d, rfl⟩ : ∃ d1, d = d1 + 400 := ⟨d - 400, by omega⟩
  have Q0 := X0.le
  have G0 : Gq z (z + 14 + n) (z + 14 + n) c0 a0 a0 := ⟨by omega, by omega, fun _ _ _ _ _ _ => rfl, fun _ _ => rfl⟩
  refine Ev.steps (k := 3) (pc' := 5) (L' := [Vr 114, Vr ((z + 14 + n : Nat) : Int)]) (S' := [Vi (a0 114 5), Vr ((z + 14 + n : Nat) : Int)]) (h' := ((SHv st dr (z : Int)), (ovl a0 s b))) (fun _ => rfl) ?_
  rw [(X0.t5.trans (show ((tC W p0 : Nat) : Int) = 265 by omega))]
  refine Ev.putf (c' := (ovl (updC a0 (z + 14 + n) 0 265) s b)) rfl (by omega) (shRu hz (by omega)) rfl rfl (ovl_wc (by omega)) ?_
  obtain ⟨a111, ha111⟩ : ∃ x : C3, x = (updC a0 (z + 14 + n) 0 265) := ⟨_, rfl⟩
  rw [← ha111]
  have X111 := (X0.up (o := (z + 14 + n)) (i := 0) (v := 265) (by omega))
  have G111 := (G0.up (o := (z + 14 + n)) (i := 0) (v := 265) (by omega))
  rw [← ha111] at X111 G111
  have Q111 := X111.le
  have F111_0 : a111 (z + 14 + n) 0 = 265 := by
    rw [ha111]
    exact updC_sm
  refine Ev.call (k := 1) (pc1 := 9) (L1 := [Vr 114, Vr ((z + 14 + n : Nat) : Int)]) (S1 := [Vr 114]) (h1 := ((SHv st dr (z : Int)), (ovl a111 s b))) (m' := 27) (as := [Vr 114]) (S' := []) (L0 := [Vr 114, Vx, Vx, Vx, Vx]) (fun _ => rfl) rfl rfl rfl rfl rfl rfl (c_next X111.1) (fun r h' hq => ?_)
  obtain ⟨rfl, a112, rfl, hq⟩ := hq
  rcases hq with ⟨p112, hx112, ho112⟩ | ⟨e112, hx112, hb112⟩
  · have X112 := X111.nx ho112
    have L112 : p0 < p112 := X111.lt (by omega) hx112
    have G112 := G111.tr (ho112.1.gz (c := c0) X111.hz) (by omega)
    have R112 : a112 (z + 11) = a111 (z + 11) := ho112.1 _ (by omega)
    have Q112 := X112.le
    have F112_0 : a112 (z + 14 + n) 0 = 265 := (congrFun (ho112.1 _ (by omega)) 0).trans F111_0
    show Ev X _ _ 12 [Vr 114, Vr ((z + 14 + n : Nat) : Int)] [] ((SHv st dr (z : Int)), (ovl a112 s b)) _
    refine Ev.call (k := 4) (pc1 := 16) (L1 := [Vr 114, Vr ((z + 14 + n : Nat) : Int)]) (S1 := [Vi (-1), Vi 2, Vr 114, Vr ((z + 14 + n : Nat) : Int)]) (h1 := ((SHv st dr (z : Int)), (ovl a112 s b))) (m' := 38) (as := [Vr 114, Vi 2, Vi (-1)]) (S' := [Vr ((z + 14 + n : Nat) : Int)]) (L0 := [Vr 114, Vi 2, Vi (-1), Vx]) (fun _ => rfl) rfl rfl rfl rfl rfl rfl (c_asked X112.hz X112.1 (kd := 1) (q := 2) X112.2.1 (by decide) rfl (-1) rfl) (fun r h' hq => ?_)
    obtain ⟨a113, rfl, hq⟩ := hq
    rcases hq with ⟨⟨i113, p113⟩, hx113, rfl, ho113⟩ | ⟨e113, hx113, ⟨v113, rfl, hv113⟩, hb113⟩
    · have K113 := ask_ok hx113
      dsimp only at K113 ho113
      have X113 := X112.nx ho113
      have L113 : p112 < p113 := by
        rw [show p113 = tE W p112 from K113.2.2.2.2.1]
        exact tok_lt X112.le.1 X112.1.1.1 (by omega) (by omega)
      have I113 := K113.2.2.1
      have J113 := (X112.2.1 1 (by decide)).1
      have G113 := G112.tr (ho113.1.gz (c := c0) X112.hz) (by omega)
      have R113 : a113 (z + 11) = a112 (z + 11) := ho113.1 _ (by omega)
      have Q113 := X113.le
      clear K113
      have F113_0 : a113 (z + 14 + n) 0 = 265 := (congrFun (ho113.1 _ (by omega)) 0).trans F112_0
      show Ev X _ _ 19 [Vr 114, Vr ((z + 14 + n : Nat) : Int)] [Vi ((i113 : Nat) : Int), Vr ((z + 14 + n : Nat) : Int)] ((SHv st dr (z : Int)), (ovl a113 s b)) _
      refine Ev.putf (c' := (ovl (updC a113 (z + 14 + n) 1 ((i113 : Nat) : Int)) s b)) rfl (by omega) (shRu hz (by omega)) rfl rfl (ovl_wc (by omega)) ?_
      refine Ev.steps (k := 2) (pc' := 24) (L' := [Vr 114, Vr ((z + 14 + n : Nat) : Int)]) (S' := [Vi (-1), Vr ((z + 14 + n : Nat) : Int)]) (h' := ((SHv st dr (z : Int)), (ovl (updC a113 (z + 14 + n) 1 ((i113 : Nat) : Int)) s b))) (fun _ => rfl) ?_
      refine Ev.putf (c' := (ovl (updC (updC a113 (z + 14 + n) 1 ((i113 : Nat) : Int)) (z + 14 + n) 2 (-1)) s b)) rfl (by omega) (shRu hz (by omega)) rfl rfl (ovl_wc (by omega)) ?_
      refine Ev.steps (k := 2) (pc' := 29) (L' := [Vr 114, Vr ((z + 14 + n : Nat) : Int)]) (S' := [Vi (-1), Vr ((z + 14 + n : Nat) : Int)]) (h' := ((SHv st dr (z : Int)), (ovl (updC (updC a113 (z + 14 + n) 1 ((i113 : Nat) : Int)) (z + 14 + n) 2 (-1)) s b))) (fun _ => rfl) ?_
      refine Ev.putf (c' := (ovl (updC (updC (updC a113 (z + 14 + n) 1 ((i113 : Nat) : Int)) (z + 14 + n) 2 (-1)) (z + 14 + n) 3 (-1)) s b)) rfl (by omega) (shRu hz (by omega)) rfl rfl (ovl_wc (by omega)) ?_
      refine Ev.steps (k := 3) (pc' := 37) (L' := [Vr 114, Vr ((z + 14 + n : Nat) : Int)]) (S' := [Vr (z : Int), Vr ((z + 14 + n : Nat) : Int)]) (h' := ((SHv st dr (z : Int)), (ovl (updC (updC (updC a113 (z + 14 + n) 1 ((i113 : Nat) : Int)) (z + 14 + n) 2 (-1)) (z + 14 + n) 3 (-1)) s b))) (fun _ => rfl) ?_
      refine Ev.getf (v := ((c0 : Nat) : Int)) rfl rfl (by omega) (shY_0 hz) rfl rfl (((ovl_rc (by omega)).trans (by show (updC (updC (updC a113 (z + 14 + n) 1 ((i113 : Nat) : Int)) (z + 14 + n) 2 (-1)) (z + 14 + n) 3 (-1)) z 9 = _; rw [updC_nt (by omega), updC_nt (by omega), updC_nt (by omega)])).trans (X113.2.2.1)) ?_
      refine Ev.putf (c' := (ovl (updC (updC (updC (updC a113 (z + 14 + n) 1 ((i113 : Nat) : Int)) (z + 14 + n) 2 (-1)) (z + 14 + n) 3 (-1)) (z + 14 + n) 4 ((c0 : Nat) : Int)) s b)) rfl (by omega) (shRu hz (by omega)) rfl rfl (ovl_wc (by omega)) ?_
      refine Ev.steps (k := 1) (pc' := 44) (L' := [Vr 114, Vr ((z + 14 + n : Nat) : Int)]) (S' := [Vr ((z + 14 + n : Nat) : Int)]) (h' := ((SHv st dr (z : Int)), (ovl (updC (updC (updC (updC a113 (z + 14 + n) 1 ((i113 : Nat) : Int)) (z + 14 + n) 2 (-1)) (z + 14 + n) 3 (-1)) (z + 14 + n) 4 ((c0 : Nat) : Int)) s b))) (fun _ => rfl) ?_
      refine Ev.getf (v := 265) rfl rfl (by omega) (shRu hz (by omega)) rfl rfl (((ovl_rc (by omega)).trans (by show (updC (updC (updC (updC a113 (z + 14 + n) 1 ((i113 : Nat) : Int)) (z + 14 + n) 2 (-1)) (z + 14 + n) 3 (-1)) (z + 14 + n) 4 ((c0 : Nat) : Int)) (z + 14 + n) 0 = _; rw [updC_nt (by omega), updC_nt (by omega), updC_nt (by omega), updC_nt (by omega)])).trans (F113_0)) ?_
      obtain ⟨a114, ha114⟩ : ∃ x : C3, x = (updC (updC (updC (updC a113 (z + 14 + n) 1 ((i113 : Nat) : Int)) (z + 14 + n) 2 (-1)) (z + 14 + n) 3 (-1)) (z + 14 + n) 4 ((c0 : Nat) : Int)) := ⟨_, rfl⟩
      rw [← ha114]
      have X114 := ((((X113.up (o := (z + 14 + n)) (i := 1) (v := ((i113 : Nat) : Int)) (by omega)).up (o := (z + 14 + n)) (i := 2) (v := (-1)) (by omega)).up (o := (z + 14 + n)) (i := 3) (v := (-1)) (by omega)).up (o := (z + 14 + n)) (i := 4) (v := ((c0 : Nat) : Int)) (by omega))
      have G114 := ((((G113.up (o := (z + 14 + n)) (i := 1) (v := ((i113 : Nat) : Int)) (by omega)).up (o := (z + 14 + n)) (i := 2) (v := (-1)) (by omega)).up (o := (z + 14 + n)) (i := 3) (v := (-1)) (by omega)).up (o := (z + 14 + n)) (i := 4) (v := ((c0 : Nat) : Int)) (by omega))
      rw [← ha114] at X114 G114
      have Q114 := X114.le
      have F114_0 : a114 (z + 14 + n) 0 = 265 := by
        rw [ha114]
        exact (updC_nt (by omega)).trans <| (updC_nt (by omega)).trans <| (updC_nt (by omega)).trans <| (updC_nt (by omega)).trans <| F113_0
      have F114_1 : a114 (z + 14 + n) 1 = ((i113 : Nat) : Int) := by
        rw [ha114]
        exact (updC_nt (by omega)).trans <| (updC_nt (by omega)).trans <| (updC_nt (by omega)).trans <| updC_sm
      have F114_2 : a114 (z + 14 + n) 2 = (-1) := by
        rw [ha114]
        exact (updC_nt (by omega)).trans <| (updC_nt (by omega)).trans <| updC_sm
      have F114_3 : a114 (z + 14 + n) 3 = (-1) := by
        rw [ha114]
        exact (updC_nt (by omega)).trans <| updC_sm
      have F114_4 : a114 (z + 14 + n) 4 = ((c0 : Nat) : Int) := by
        rw [ha114]
        exact updC_sm
      refine Ev.call (k := 3) (pc1 := 147) (L1 := [Vr 114, Vr ((z + 14 + n : Nat) : Int)]) (S1 := [Vi 268, Vr 114]) (h1 := ((SHv st dr (z : Int)), (ovl a114 s b))) (m' := 42) (as := [Vr 114, Vi 268]) (S' := []) (L0 := [Vr 114, Vi 268]) (fun _ => rfl) rfl rfl rfl rfl rfl rfl (c_expect X114.1 268) (fun r h' hq => ?_)
      obtain ⟨rfl, a115, rfl, hq⟩ := hq
      rcases hq with ⟨p115, hx115, ho115⟩ | ⟨e115, hx115, hb115⟩
      · have X115 := X114.nx ho115
        have L115 : p113 < p115 := by
          obtain ⟨h1, h2⟩ := exp_ok hx115
          exact X114.lt (by omega) (by unfold expT at hx115; rwa [if_neg (by omega)] at hx115)
        have G115 := G114.tr (ho115.1.gz (c := c0) X114.hz) (by omega)
        have R115 : a115 (z + 11) = a114 (z + 11) := ho115.1 _ (by omega)
        have Q115 := X115.le
        have F115_0 : a115 (z + 14 + n) 0 = 265 := (congrFun (ho115.1 _ (by omega)) 0).trans F114_0
        have F115_1 : a115 (z + 14 + n) 1 = ((i113 : Nat) : Int) := (congrFun (ho115.1 _ (by omega)) 1).trans F114_1
        have F115_2 : a115 (z + 14 + n) 2 = (-1) := (congrFun (ho115.1 _ (by omega)) 2).trans F114_2
        have F115_3 : a115 (z + 14 + n) 3 = (-1) := (congrFun (ho115.1 _ (by omega)) 3).trans F114_3
        have F115_4 : a115 (z + 14 + n) 4 = ((c0 : Nat) : Int) := (congrFun (ho115.1 _ (by omega)) 4).trans F114_4
        show Ev X _ _ 150 [Vr 114, Vr ((z + 14 + n : Nat) : Int)] [] ((SHv st dr (z : Int)), (ovl a115 s b)) _
        refine Ev.steps (k := 3) (pc' := 155) (L' := [Vr 114, Vr ((z + 14 + n : Nat) : Int)]) (S' := [Vr (z : Int), Vr ((z + 14 + n : Nat) : Int)]) (h' := ((SHv st dr (z : Int)), (ovl a115 s b))) (fun _ => rfl) ?_
        refine Ev.getf (v := ((c0 : Nat) : Int)) rfl rfl (by omega) (shY_0 hz) rfl rfl ((ovl_rc (by omega)).trans (X115.2.2.1)) ?_
        refine Ev.putf (c' := (ovl (updC a115 (z + 14 + n) 5 ((c0 : Nat) : Int)) s b)) rfl (by omega) (shRu hz (by omega)) rfl rfl (ovl_wc (by omega)) ?_
        obtain ⟨a116, ha116⟩ : ∃ x : C3, x = (updC a115 (z + 14 + n) 5 ((c0 : Nat) : Int)) := ⟨_, rfl⟩
        rw [← ha116]
        have X116 := (X115.up (o := (z + 14 + n)) (i := 5) (v := ((c0 : Nat) : Int)) (by omega))
        have G116 := (G115.up (o := (z + 14 + n)) (i := 5) (v := ((c0 : Nat) : Int)) (by omega))
        rw [← ha116] at X116 G116
        have Q116 := X116.le
        have F116_0 : a116 (z + 14 + n) 0 = 265 := by
          rw [ha116]
          exact (updC_nt (by omega)).trans <| F115_0
        have F116_1 : a116 (z + 14 + n) 1 = ((i113 : Nat) : Int) := by
          rw [ha116]
          exact (updC_nt (by omega)).trans <| F115_1
        have F116_2 : a116 (z + 14 + n) 2 = (-1) := by
          rw [ha116]
          exact (updC_nt (by omega)).trans <| F115_2
        have F116_3 : a116 (z + 14 + n) 3 = (-1) := by
          rw [ha116]
          exact (updC_nt (by omega)).trans <| F115_3
        have F116_4 : a116 (z + 14 + n) 4 = ((c0 : Nat) : Int) := by
          rw [ha116]
          exact (updC_nt (by omega)).trans <| F115_4
        have F116_5 : a116 (z + 14 + n) 5 = ((c0 : Nat) : Int) := by
          rw [ha116]
          exact updC_sm
        refine Ev.call (k := 1) (pc1 := 162) (L1 := [Vr 114, Vr ((z + 14 + n : Nat) : Int)]) (S1 := [Vr 114]) (h1 := ((SHv st dr (z : Int)), (ovl a116 s b))) (m' := 52) (as := [Vr 114]) (S' := []) (L0 := [Vr 114, Vx, Vx]) (fun _ => rfl) rfl rfl rfl rfl rfl rfl (c_tstT hz 8 _ _ _ _ (by omega) X116 (by omega)) (fun r h' hq => ?_)
        obtain ⟨rfl, a118, rfl, hq⟩ := hq
        rcases hq with ⟨⟨l118, p118⟩, hx118, c118, X118, g118, o118, h118⟩ | ⟨e118, hx118, hb118⟩
        · dsimp only at h118 X118 o118
          have L118 := o118.lt
          have G118 := G116.tr g118 (by omega)
          have Q118 := X118.le
          have F118_0 : a118 (z + 14 + n) 0 = 265 := (congrFun (g118.1 _ (by omega) (by omega) (by omega)) 0).trans F116_0
          have F118_1 : a118 (z + 14 + n) 1 = ((i113 : Nat) : Int) := (congrFun (g118.1 _ (by omega) (by omega) (by omega)) 1).trans F116_1
          have F118_2 : a118 (z + 14 + n) 2 = (-1) := (congrFun (g118.1 _ (by omega) (by omega) (by omega)) 2).trans F116_2
          have F118_3 : a118 (z + 14 + n) 3 = (-1) := (congrFun (g118.1 _ (by omega) (by omega) (by omega)) 3).trans F116_3
          have F118_4 : a118 (z + 14 + n) 4 = ((c0 : Nat) : Int) := (congrFun (g118.1 _ (by omega) (by omega) (by omega)) 4).trans F116_4
          have F118_5 : a118 (z + 14 + n) 5 = ((c0 : Nat) : Int) := (congrFun (g118.1 _ (by omega) (by omega) (by omega)) 5).trans F116_5
          show Ev X _ _ 165 [Vr 114, Vr ((z + 14 + n : Nat) : Int)] [] ((SHv st dr (z : Int)), (ovl a118 s b)) _
          refine Ev.steps (k := 3) (pc' := 170) (L' := [Vr 114, Vr ((z + 14 + n : Nat) : Int)]) (S' := [Vr (z : Int), Vr ((z + 14 + n : Nat) : Int)]) (h' := ((SHv st dr (z : Int)), (ovl a118 s b))) (fun _ => rfl) ?_
          refine Ev.getf (v := ((c118 : Nat) : Int)) rfl rfl (by omega) (shY_0 hz) rfl rfl ((ovl_rc (by omega)).trans (X118.2.2.1)) ?_
          refine Ev.putf (c' := (ovl (updC a118 (z + 14 + n) 6 ((c118 : Nat) : Int)) s b)) rfl (by omega) (shRu hz (by omega)) rfl rfl (ovl_wc (by omega)) ?_
          refine Ev.fin (k := 1) (r := none) (h' := ((SHv st dr (z : Int)), (ovl (updC a118 (z + 14 + n) 6 ((c118 : Nat) : Int)) s b))) (fun _ => rfl) ?_
          obtain ⟨a119, ha119⟩ : ∃ x : C3, x = (updC a118 (z + 14 + n) 6 ((c118 : Nat) : Int)) := ⟨_, rfl⟩
          rw [← ha119]
          have X119 := (X118.up (o := (z + 14 + n)) (i := 6) (v := ((c118 : Nat) : Int)) (by omega))
          have G119 := (G118.up (o := (z + 14 + n)) (i := 6) (v := ((c118 : Nat) : Int)) (by omega))
          rw [← ha119] at X119 G119
          have Q119 := X119.le
          have F119_0 : a119 (z + 14 + n) 0 = 265 := by
            rw [ha119]
            exact (updC_nt (by omega)).trans <| F118_0
          have F119_1 : a119 (z + 14 + n) 1 = ((i113 : Nat) : Int) := by
            rw [ha119]
            exact (updC_nt (by omega)).trans <| F118_1
          have F119_2 : a119 (z + 14 + n) 2 = (-1) := by
            rw [ha119]
            exact (updC_nt (by omega)).trans <| F118_2
          have F119_3 : a119 (z + 14 + n) 3 = (-1) := by
            rw [ha119]
            exact (updC_nt (by omega)).trans <| F118_3
          have F119_4 : a119 (z + 14 + n) 4 = ((c0 : Nat) : Int) := by
            rw [ha119]
            exact (updC_nt (by omega)).trans <| F118_4
          have F119_5 : a119 (z + 14 + n) 5 = ((c0 : Nat) : Int) := by
            rw [ha119]
            exact (updC_nt (by omega)).trans <| F118_5
          have F119_6 : a119 (z + 14 + n) 6 = ((c118 : Nat) : Int) := by
            rw [ha119]
            exact updC_sm
          refine ⟨rfl, _, rfl, ?_⟩
          unfold rulT
          rw [hx112, bnX_o, hx113, bnX_o]
          have eA : argT W S.1 (tC W p0) i113 p113 = .ok ((-1, -1, []), p113) := by rw [hlit]; rfl
          try dsimp only
          rw [eA]
          rw [bnX_o]
          try dsimp only
          rw [hx115, bnX_o, hx118, bnX_o]
          refine Or.inl ⟨_, rfl, c118, X119, by dsimp only; omega, G119.fs, fun a2 h1 h2 => ?_⟩
          dsimp only
          have hq := h1 (z + 14 + n) (by omega) (by omega) (by omega)
          have h11 := h1 (z + 11) (by omega) (by omega) (by omega)
          have ekd : tC W p0 - 262 = 3 := by omega
          refine P0.rule (k0 := (c0)) (k1 := (c0)) hn0 h8 hC (by omega) (fun o o1 o2 o3 o4 o5 => (h1 o o1 o2 o3).trans (G119.2.2.1 o (by omega) (by omega) o4 o5 o5)) (fun j hj => (congrFun h11 j).trans (G119.2.2.2 j hj)) (fun i => ?_) ?_ ?_ ?_ ?_ ?_ ?_ ?_ (by omega) ?_ ?_
          · rw [h2, congrFun (G119.2.2.1 (z + 1) (by omega) (by omega) (by omega) (by omega) (by omega)) i]
          · rw [hq, F119_0, ekd]; rfl
          · rw [hq, F119_1]
          · intro g; rw [hq, F119_2]
          · intro g; omega
          · rw [hq, F119_4]
          · rw [hq, F119_5]
          · rw [hq, F119_6]
          · rw [h11, show a119 (z + 11) = a118 (z + 11) by rw [ha119, updC_row (by omega)]]
            exact o118.mo (by omega)
          · intro g; omega
        · have B118 := G116.bz hb118
          show Ev X _ _ 165 [Vr 114, Vr ((z + 14 + n : Nat) : Int)] [] ((SHv st dr (z : Int)), (ovl a118 s b)) _
          refine Ev.steps (k := 3) (pc' := 170) (L' := [Vr 114, Vr ((z + 14 + n : Nat) : Int)]) (S' := [Vr (z : Int), Vr ((z + 14 + n : Nat) : Int)]) (h' := ((SHv st dr (z : Int)), (ovl a118 s b))) (fun _ => rfl) ?_
          refine Ev.getf (v := (a118 z 9)) rfl rfl (by omega) (shY_0 hz) rfl rfl (ovl_rc (by omega)) ?_
          refine Ev.putf (c' := (ovl (updC a118 (z + 14 + n) 6 (a118 z 9)) s b)) rfl (by omega) (shRu hz (by omega)) rfl rfl (ovl_wc (by omega)) ?_
          refine Ev.fin (k := 1) (r := none) (h' := ((SHv st dr (z : Int)), (ovl (updC a118 (z + 14 + n) 6 (a118 z 9)) s b))) (fun _ => rfl) ?_
          obtain ⟨a120, ha120⟩ : ∃ x : C3, x = (updC a118 (z + 14 + n) 6 (a118 z 9)) := ⟨_, rfl⟩
          rw [← ha120]
          have B120 := (B118.up (o := (z + 14 + n)) (i := 6) (v := (a118 z 9)) hz (by omega))
          rw [← ha120] at B120
          refine ⟨rfl, _, rfl, ?_⟩
          unfold rulT
          rw [hx112, bnX_o, hx113, bnX_o]
          have eA : argT W S.1 (tC W p0) i113 p113 = .ok ((-1, -1, []), p113) := by rw [hlit]; rfl
          try dsimp only
          rw [eA]
          rw [bnX_o]
          try dsimp only
          rw [hx115, bnX_o, hx118, bnX_e]
          exact Or.inr ⟨_, rfl, B120⟩
      · have B115 := G114.bd X114 (by omega) hb115
        show Ev X _ _ 150 [Vr 114, Vr ((z + 14 + n : Nat) : Int)] [] ((SHv st dr (z : Int)), (ovl a115 s b)) _
        refine Ev.steps (k := 3) (pc' := 155) (L' := [Vr 114, Vr ((z + 14 + n : Nat) : Int)]) (S' := [Vr (z : Int), Vr ((z + 14 + n : Nat) : Int)]) (h' := ((SHv st dr (z : Int)), (ovl a115 s b))) (fun _ => rfl) ?_
        refine Ev.getf (v := (a115 z 9)) rfl rfl (by omega) (shY_0 hz) rfl rfl (ovl_rc (by omega)) ?_
        refine Ev.putf (c' := (ovl (updC a115 (z + 14 + n) 5 (a115 z 9)) s b)) rfl (by omega) (shRu hz (by omega)) rfl rfl (ovl_wc (by omega)) ?_
        obtain ⟨a121, ha121⟩ : ∃ x : C3, x = (updC a115 (z + 14 + n) 5 (a115 z 9)) := ⟨_, rfl⟩
        rw [← ha121]
        have B121 := (B115.up (o := (z + 14 + n)) (i := 5) (v := (a115 z 9)) hz (by omega))
        rw [← ha121] at B121
        refine Ev.call (k := 1) (pc1 := 162) (L1 := [Vr 114, Vr ((z + 14 + n : Nat) : Int)]) (S1 := [Vr 114]) (h1 := ((SHv st dr (z : Int)), (ovl a121 s b))) (m' := 52) (as := [Vr 114]) (S' := []) (L0 := [Vr 114, Vx, Vx]) (fun _ => rfl) rfl rfl rfl rfl rfl rfl (c_test_br hz B121.z) (fun r h' hq => ?_)
        obtain ⟨rfl, a122, rfl, hb122⟩ := hq
        have B122 := B121.tz hb122
        show Ev X _ _ 165 [Vr 114, Vr ((z + 14 + n : Nat) : Int)] [] ((SHv st dr (z : Int)), (ovl a122 s b)) _
        refine Ev.steps (k := 3) (pc' := 170) (L' := [Vr 114, Vr ((z + 14 + n : Nat) : Int)]) (S' := [Vr (z : Int), Vr ((z + 14 + n : Nat) : Int)]) (h' := ((SHv st dr (z : Int)), (ovl a122 s b))) (fun _ => rfl) ?_
        refine Ev.getf (v := (a122 z 9)) rfl rfl (by omega) (shY_0 hz) rfl rfl (ovl_rc (by omega)) ?_
        refine Ev.putf (c' := (ovl (updC a122 (z + 14 + n) 6 (a122 z 9)) s b)) rfl (by omega) (shRu hz (by omega)) rfl rfl (ovl_wc (by omega)) ?_
        refine Ev.fin (k := 1) (r := none) (h' := ((SHv st dr (z : Int)), (ovl (updC a122 (z + 14 + n) 6 (a122 z 9)) s b))) (fun _ => rfl) ?_
        obtain ⟨a123, ha123⟩ : ∃ x : C3, x = (updC a122 (z + 14 + n) 6 (a122 z 9)) := ⟨_, rfl⟩
        rw [← ha123]
        have B123 := (B122.up (o := (z + 14 + n)) (i := 6) (v := (a122 z 9)) hz (by omega))
        rw [← ha123] at B123
        refine ⟨rfl, _, rfl, ?_⟩
        unfold rulT
        rw [hx112, bnX_o, hx113, bnX_o]
        have eA : argT W S.1 (tC W p0) i113 p113 = .ok ((-1, -1, []), p113) := by rw [hlit]; rfl
        try dsimp only
        rw [eA]
        rw [bnX_o]
        try dsimp only
        rw [hx115, bnX_e]
        exact Or.inr ⟨_, rfl, B123⟩
    · have B113 := G112.bd X112 (by omega) hb113
      have F113_0 : a113 (z + 14 + n) 0 = 265 := (congrFun (hb113.1 _ (by omega)) 0).trans F112_0
      show Ev X _ _ 19 [Vr 114, Vr ((z + 14 + n : Nat) : Int)] [Vi v113, Vr ((z + 14 + n : Nat) : Int)] ((SHv st dr (z : Int)), (ovl a113 s b)) _
      refine Ev.putf (c' := (ovl (updC a113 (z + 14 + n) 1 v113) s b)) rfl (by omega) (shRu hz (by omega)) rfl rfl (ovl_wc (by omega)) ?_
      refine Ev.steps (k := 2) (pc' := 24) (L' := [Vr 114, Vr ((z + 14 + n : Nat) : Int)]) (S' := [Vi (-1), Vr ((z + 14 + n : Nat) : Int)]) (h' := ((SHv st dr (z : Int)), (ovl (updC a113 (z + 14 + n) 1 v113) s b))) (fun _ => rfl) ?_
      refine Ev.putf (c' := (ovl (updC (updC a113 (z + 14 + n) 1 v113) (z + 14 + n) 2 (-1)) s b)) rfl (by omega) (shRu hz (by omega)) rfl rfl (ovl_wc (by omega)) ?_
      refine Ev.steps (k := 2) (pc' := 29) (L' := [Vr 114, Vr ((z + 14 + n : Nat) : Int)]) (S' := [Vi (-1), Vr ((z + 14 + n : Nat) : Int)]) (h' := ((SHv st dr (z : Int)), (ovl (updC (updC a113 (z + 14 + n) 1 v113) (z + 14 + n) 2 (-1)) s b))) (fun _ => rfl) ?_
      refine Ev.putf (c' := (ovl (updC (updC (updC a113 (z + 14 + n) 1 v113) (z + 14 + n) 2 (-1)) (z + 14 + n) 3 (-1)) s b)) rfl (by omega) (shRu hz (by omega)) rfl rfl (ovl_wc (by omega)) ?_
      refine Ev.steps (k := 3) (pc' := 37) (L' := [Vr 114, Vr ((z + 14 + n : Nat) : Int)]) (S' := [Vr (z : Int), Vr ((z + 14 + n : Nat) : Int)]) (h' := ((SHv st dr (z : Int)), (ovl (updC (updC (updC a113 (z + 14 + n) 1 v113) (z + 14 + n) 2 (-1)) (z + 14 + n) 3 (-1)) s b))) (fun _ => rfl) ?_
      refine Ev.getf (v := (a113 z 9)) rfl rfl (by omega) (shY_0 hz) rfl rfl ((ovl_rc (by omega)).trans (by show (updC (updC (updC a113 (z + 14 + n) 1 v113) (z + 14 + n) 2 (-1)) (z + 14 + n) 3 (-1)) z 9 = _; rw [updC_nt (by omega), updC_nt (by omega), updC_nt (by omega)])) ?_
      refine Ev.putf (c' := (ovl (updC (updC (updC (updC a113 (z + 14 + n) 1 v113) (z + 14 + n) 2 (-1)) (z + 14 + n) 3 (-1)) (z + 14 + n) 4 (a113 z 9)) s b)) rfl (by omega) (shRu hz (by omega)) rfl rfl (ovl_wc (by omega)) ?_
      refine Ev.steps (k := 1) (pc' := 44) (L' := [Vr 114, Vr ((z + 14 + n : Nat) : Int)]) (S' := [Vr ((z + 14 + n : Nat) : Int)]) (h' := ((SHv st dr (z : Int)), (ovl (updC (updC (updC (updC a113 (z + 14 + n) 1 v113) (z + 14 + n) 2 (-1)) (z + 14 + n) 3 (-1)) (z + 14 + n) 4 (a113 z 9)) s b))) (fun _ => rfl) ?_
      refine Ev.getf (v := 265) rfl rfl (by omega) (shRu hz (by omega)) rfl rfl (((ovl_rc (by omega)).trans (by show (updC (updC (updC (updC a113 (z + 14 + n) 1 v113) (z + 14 + n) 2 (-1)) (z + 14 + n) 3 (-1)) (z + 14 + n) 4 (a113 z 9)) (z + 14 + n) 0 = _; rw [updC_nt (by omega), updC_nt (by omega), updC_nt (by omega), updC_nt (by omega)])).trans (F113_0)) ?_
      obtain ⟨a124, ha124⟩ : ∃ x : C3, x = (updC (updC (updC (updC a113 (z + 14 + n) 1 v113) (z + 14 + n) 2 (-1)) (z + 14 + n) 3 (-1)) (z + 14 + n) 4 (a113 z 9)) := ⟨_, rfl⟩
      rw [← ha124]
      have B124 := ((((B113.up (o := (z + 14 + n)) (i := 1) (v := v113) hz (by omega)).up (o := (z + 14 + n)) (i := 2) (v := (-1)) hz (by omega)).up (o := (z + 14 + n)) (i := 3) (v := (-1)) hz (by omega)).up (o := (z + 14 + n)) (i := 4) (v := (a113 z 9)) hz (by omega))
      rw [← ha124] at B124
      have F124_0 : a124 (z + 14 + n) 0 = 265 := by
        rw [ha124]
        exact (updC_nt (by omega)).trans <| (updC_nt (by omega)).trans <| (updC_nt (by omega)).trans <| (updC_nt (by omega)).trans <| F113_0
      refine Ev.call (k := 3) (pc1 := 147) (L1 := [Vr 114, Vr ((z + 14 + n : Nat) : Int)]) (S1 := [Vi 268, Vr 114]) (h1 := ((SHv st dr (z : Int)), (ovl a124 s b))) (m' := 42) (as := [Vr 114, Vi 268]) (S' := []) (L0 := [Vr 114, Vi 268]) (fun _ => rfl) rfl rfl rfl rfl rfl rfl (c_expect_br B124.2.2.1 268 (by decide)) (fun r h' hq => ?_)
      obtain ⟨rfl, rfl⟩ := hq
      show Ev X _ _ 150 [Vr 114, Vr ((z + 14 + n : Nat) : Int)] [] ((SHv st dr (z : Int)), (ovl a124 s b)) _
      refine Ev.steps (k := 3) (pc' := 155) (L' := [Vr 114, Vr ((z + 14 + n : Nat) : Int)]) (S' := [Vr (z : Int), Vr ((z + 14 + n : Nat) : Int)]) (h' := ((SHv st dr (z : Int)), (ovl a124 s b))) (fun _ => rfl) ?_
      refine Ev.getf (v := (a124 z 9)) rfl rfl (by omega) (shY_0 hz) rfl rfl (ovl_rc (by omega)) ?_
      refine Ev.putf (c' := (ovl (updC a124 (z + 14 + n) 5 (a124 z 9)) s b)) rfl (by omega) (shRu hz (by omega)) rfl rfl (ovl_wc (by omega)) ?_
      obtain ⟨a125, ha125⟩ : ∃ x : C3, x = (updC a124 (z + 14 + n) 5 (a124 z 9)) := ⟨_, rfl⟩
      rw [← ha125]
      have B125 := (B124.up (o := (z + 14 + n)) (i := 5) (v := (a124 z 9)) hz (by omega))
      rw [← ha125] at B125
      have F125_0 : a125 (z + 14 + n) 0 = 265 := by
        rw [ha125]
        exact (updC_nt (by omega)).trans <| F124_0
      refine Ev.call (k := 1) (pc1 := 162) (L1 := [Vr 114, Vr ((z + 14 + n : Nat) : Int)]) (S1 := [Vr 114]) (h1 := ((SHv st dr (z : Int)), (ovl a125 s b))) (m' := 52) (as := [Vr 114]) (S' := []) (L0 := [Vr 114, Vx, Vx]) (fun _ => rfl) rfl rfl rfl rfl rfl rfl (c_test_br hz B125.z) (fun r h' hq => ?_)
      obtain ⟨rfl, a126, rfl, hb126⟩ := hq
      have B126 := B125.tz hb126
      show Ev X _ _ 165 [Vr 114, Vr ((z + 14 + n : Nat) : Int)] [] ((SHv st dr (z : Int)), (ovl a126 s b)) _
      refine Ev.steps (k := 3) (pc' := 170) (L' := [Vr 114, Vr ((z + 14 + n : Nat) : Int)]) (S' := [Vr (z : Int), Vr ((z + 14 + n : Nat) : Int)]) (h' := ((SHv st dr (z : Int)), (ovl a126 s b))) (fun _ => rfl) ?_
      refine Ev.getf (v := (a126 z 9)) rfl rfl (by omega) (shY_0 hz) rfl rfl (ovl_rc (by omega)) ?_
      refine Ev.putf (c' := (ovl (updC a126 (z + 14 + n) 6 (a126 z 9)) s b)) rfl (by omega) (shRu hz (by omega)) rfl rfl (ovl_wc (by omega)) ?_
      refine Ev.fin (k := 1) (r := none) (h' := ((SHv st dr (z : Int)), (ovl (updC a126 (z + 14 + n) 6 (a126 z 9)) s b))) (fun _ => rfl) ?_
      obtain ⟨a127, ha127⟩ : ∃ x : C3, x = (updC a126 (z + 14 + n) 6 (a126 z 9)) := ⟨_, rfl⟩
      rw [← ha127]
      have B127 := (B126.up (o := (z + 14 + n)) (i := 6) (v := (a126 z 9)) hz (by omega))
      rw [← ha127] at B127
      refine ⟨rfl, _, rfl, ?_⟩
      unfold rulT
      rw [hx112, bnX_o, hx113, bnX_e]
      exact Or.inr ⟨_, rfl, B127⟩
  · have B112 := G111.bd X111 (by omega) hb112
    have F112_0 : a112 (z + 14 + n) 0 = 265 := (congrFun (hb112.1 _ (by omega)) 0).trans F111_0
    show Ev X _ _ 12 [Vr 114, Vr ((z + 14 + n : Nat) : Int)] [] ((SHv st dr (z : Int)), (ovl a112 s b)) _
    refine Ev.call (k := 4) (pc1 := 16) (L1 := [Vr 114, Vr ((z + 14 + n : Nat) : Int)]) (S1 := [Vi (-1), Vi 2, Vr 114, Vr ((z + 14 + n : Nat) : Int)]) (h1 := ((SHv st dr (z : Int)), (ovl a112 s b))) (m' := 38) (as := [Vr 114, Vi 2, Vi (-1)]) (S' := [Vr ((z + 14 + n : Nat) : Int)]) (L0 := [Vr 114, Vi 2, Vi (-1), Vx]) (fun _ => rfl) rfl rfl rfl rfl rfl rfl (c_asked_br B112.2.2.1 2 (-1)) (fun r h' hq => ?_)
    obtain ⟨rfl, rfl⟩ := hq
    show Ev X _ _ 19 [Vr 114, Vr ((z + 14 + n : Nat) : Int)] [Vi (-1), Vr ((z + 14 + n : Nat) : Int)] ((SHv st dr (z : Int)), (ovl a112 s b)) _
    refine Ev.putf (c' := (ovl (updC a112 (z + 14 + n) 1 (-1)) s b)) rfl (by omega) (shRu hz (by omega)) rfl rfl (ovl_wc (by omega)) ?_
    refine Ev.steps (k := 2) (pc' := 24) (L' := [Vr 114, Vr ((z + 14 + n : Nat) : Int)]) (S' := [Vi (-1), Vr ((z + 14 + n : Nat) : Int)]) (h' := ((SHv st dr (z : Int)), (ovl (updC a112 (z + 14 + n) 1 (-1)) s b))) (fun _ => rfl) ?_
    refine Ev.putf (c' := (ovl (updC (updC a112 (z + 14 + n) 1 (-1)) (z + 14 + n) 2 (-1)) s b)) rfl (by omega) (shRu hz (by omega)) rfl rfl (ovl_wc (by omega)) ?_
    refine Ev.steps (k := 2) (pc' := 29) (L' := [Vr 114, Vr ((z + 14 + n : Nat) : Int)]) (S' := [Vi (-1), Vr ((z + 14 + n : Nat) : Int)]) (h' := ((SHv st dr (z : Int)), (ovl (updC (updC a112 (z + 14 + n) 1 (-1)) (z + 14 + n) 2 (-1)) s b))) (fun _ => rfl) ?_
    refine Ev.putf (c' := (ovl (updC (updC (updC a112 (z + 14 + n) 1 (-1)) (z + 14 + n) 2 (-1)) (z + 14 + n) 3 (-1)) s b)) rfl (by omega) (shRu hz (by omega)) rfl rfl (ovl_wc (by omega)) ?_
    refine Ev.steps (k := 3) (pc' := 37) (L' := [Vr 114, Vr ((z + 14 + n : Nat) : Int)]) (S' := [Vr (z : Int), Vr ((z + 14 + n : Nat) : Int)]) (h' := ((SHv st dr (z : Int)), (ovl (updC (updC (updC a112 (z + 14 + n) 1 (-1)) (z + 14 + n) 2 (-1)) (z + 14 + n) 3 (-1)) s b))) (fun _ => rfl) ?_
    refine Ev.getf (v := (a112 z 9)) rfl rfl (by omega) (shY_0 hz) rfl rfl ((ovl_rc (by omega)).trans (by show (updC (updC (updC a112 (z + 14 + n) 1 (-1)) (z + 14 + n) 2 (-1)) (z + 14 + n) 3 (-1)) z 9 = _; rw [updC_nt (by omega), updC_nt (by omega), updC_nt (by omega)])) ?_
    refine Ev.putf (c' := (ovl (updC (updC (updC (updC a112 (z + 14 + n) 1 (-1)) (z + 14 + n) 2 (-1)) (z + 14 + n) 3 (-1)) (z + 14 + n) 4 (a112 z 9)) s b)) rfl (by omega) (shRu hz (by omega)) rfl rfl (ovl_wc (by omega)) ?_
    refine Ev.steps (k := 1) (pc' := 44) (L' := [Vr 114, Vr ((z + 14 + n : Nat) : Int)]) (S' := [Vr ((z + 14 + n : Nat) : Int)]) (h' := ((SHv st dr (z : Int)), (ovl (updC (updC (updC (updC a112 (z + 14 + n) 1 (-1)) (z + 14 + n) 2 (-1)) (z + 14 + n) 3 (-1)) (z + 14 + n) 4 (a112 z 9)) s b))) (fun _ => rfl) ?_
    refine Ev.getf (v := 265) rfl rfl (by omega) (shRu hz (by omega)) rfl rfl (((ovl_rc (by omega)).trans (by show (updC (updC (updC (updC a112 (z + 14 + n) 1 (-1)) (z + 14 + n) 2 (-1)) (z + 14 + n) 3 (-1)) (z + 14 + n) 4 (a112 z 9)) (z + 14 + n) 0 = _; rw [updC_nt (by omega), updC_nt (by omega), updC_nt (by omega), updC_nt (by omega)])).trans (F112_0)) ?_
    obtain ⟨a128, ha128⟩ : ∃ x : C3, x = (updC (updC (updC (updC a112 (z + 14 + n) 1 (-1)) (z + 14 + n) 2 (-1)) (z + 14 + n) 3 (-1)) (z + 14 + n) 4 (a112 z 9)) := ⟨_, rfl⟩
    rw [← ha128]
    have B128 := ((((B112.up (o := (z + 14 + n)) (i := 1) (v := (-1)) hz (by omega)).up (o := (z + 14 + n)) (i := 2) (v := (-1)) hz (by omega)).up (o := (z + 14 + n)) (i := 3) (v := (-1)) hz (by omega)).up (o := (z + 14 + n)) (i := 4) (v := (a112 z 9)) hz (by omega))
    rw [← ha128] at B128
    have F128_0 : a128 (z + 14 + n) 0 = 265 := by
      rw [ha128]
      exact (updC_nt (by omega)).trans <| (updC_nt (by omega)).trans <| (updC_nt (by omega)).trans <| (updC_nt (by omega)).trans <| F112_0
    refine Ev.call (k := 3) (pc1 := 147) (L1 := [Vr 114, Vr ((z + 14 + n : Nat) : Int)]) (S1 := [Vi 268, Vr 114]) (h1 := ((SHv st dr (z : Int)), (ovl a128 s b))) (m' := 42) (as := [Vr 114, Vi 268]) (S' := []) (L0 := [Vr 114, Vi 268]) (fun _ => rfl) rfl rfl rfl rfl rfl rfl (c_expect_br B128.2.2.1 268 (by decide)) (fun r h' hq => ?_)
    obtain ⟨rfl, rfl⟩ := hq
    show Ev X _ _ 150 [Vr 114, Vr ((z + 14 + n : Nat) : Int)] [] ((SHv st dr (z : Int)), (ovl a128 s b)) _
    refine Ev.steps (k := 3) (pc' := 155) (L' := [Vr 114, Vr ((z + 14 + n : Nat) : Int)]) (S' := [Vr (z : Int), Vr ((z + 14 + n : Nat) : Int)]) (h' := ((SHv st dr (z : Int)), (ovl a128 s b))) (fun _ => rfl) ?_
    refine Ev.getf (v := (a128 z 9)) rfl rfl (by omega) (shY_0 hz) rfl rfl (ovl_rc (by omega)) ?_
    refine Ev.putf (c' := (ovl (updC a128 (z + 14 + n) 5 (a128 z 9)) s b)) rfl (by omega) (shRu hz (by omega)) rfl rfl (ovl_wc (by omega)) ?_
    obtain ⟨a129, ha129⟩ : ∃ x : C3, x = (updC a128 (z + 14 + n) 5 (a128 z 9)) := ⟨_, rfl⟩
    rw [← ha129]
    have B129 := (B128.up (o := (z + 14 + n)) (i := 5) (v := (a128 z 9)) hz (by omega))
    rw [← ha129] at B129
    have F129_0 : a129 (z + 14 + n) 0 = 265 := by
      rw [ha129]
      exact (updC_nt (by omega)).trans <| F128_0
    refine Ev.call (k := 1) (pc1 := 162) (L1 := [Vr 114, Vr ((z + 14 + n : Nat) : Int)]) (S1 := [Vr 114]) (h1 := ((SHv st dr (z : Int)), (ovl a129 s b))) (m' := 52) (as := [Vr 114]) (S' := []) (L0 := [Vr 114, Vx, Vx]) (fun _ => rfl) rfl rfl rfl rfl rfl rfl (c_test_br hz B129.z) (fun r h' hq => ?_)
    obtain ⟨rfl, a130, rfl, hb130⟩ := hq
    have B130 := B129.tz hb130
    show Ev X _ _ 165 [Vr 114, Vr ((z + 14 + n : Nat) : Int)] [] ((SHv st dr (z : Int)), (ovl a130 s b)) _
    refine Ev.steps (k := 3) (pc' := 170) (L' := [Vr 114, Vr ((z + 14 + n : Nat) : Int)]) (S' := [Vr (z : Int), Vr ((z + 14 + n : Nat) : Int)]) (h' := ((SHv st dr (z : Int)), (ovl a130 s b))) (fun _ => rfl) ?_
    refine Ev.getf (v := (a130 z 9)) rfl rfl (by omega) (shY_0 hz) rfl rfl (ovl_rc (by omega)) ?_
    refine Ev.putf (c' := (ovl (updC a130 (z + 14 + n) 6 (a130 z 9)) s b)) rfl (by omega) (shRu hz (by omega)) rfl rfl (ovl_wc (by omega)) ?_
    refine Ev.fin (k := 1) (r := none) (h' := ((SHv st dr (z : Int)), (ovl (updC a130 (z + 14 + n) 6 (a130 z 9)) s b))) (fun _ => rfl) ?_
    obtain ⟨a131, ha131⟩ : ∃ x : C3, x = (updC a130 (z + 14 + n) 6 (a130 z 9)) := ⟨_, rfl⟩
    rw [← ha131]
    have B131 := (B130.up (o := (z + 14 + n)) (i := 6) (v := (a130 z 9)) hz (by omega))
    rw [← ha131] at B131
    refine ⟨rfl, _, rfl, ?_⟩
    unfold rulT
    rw [hx112, bnX_e]
    exact Or.inr ⟨_, rfl, B131⟩
theorem c_ruled_266 {X : List Int} {st dr : Int} {s b : C3} {W : TXT} {S : STY} {z : Nat} (hz : hyS z) {n : Nat} (d : Nat) (a0 : C3) (p0 c0 : Nat) (hd : 400 ≤ d) (X0 : XoC W S.1 z p0 c0 8 a0) (P0 : PaC S a0 z c0) (hC : nC S ≤ 12) (hc0 : c0 ≤ p0) (hlit : tC W p0 = 266) (hn0 : S.1 0 4 = (n : Int)) (h8 : n < 30) : Ev X d 45 0 [Vr 114, Vr ((z + 14 + n : Nat) : Int)] [] (SHv st dr (z : Int), ovl a0 s b) (PoB st dr s b W S z 4 n a0 (rulT W S p0)) := by
  have hz1 := z11 hz
  have hz0 : z = 2 ∨ z = 58 := hz
  obtain ⟨d, rfl⟩ : ∃ d1, d = d1 + 400 := ⟨d - 400, by omega⟩
  have Q0 := X0.le
  have G0 : Gq z (z + 14 + n) (z + 14 + n) c0 a0 a0 := ⟨by omega, by omega, fun _ _ _ _ _ _ => rfl, fun _ _ => rfl⟩
  refine Ev.steps (k := 3) (pc' := 5) (L' := [Vr 114, Vr ((z + 14 + n : Nat) : Int)]) (S' := [Vi (a0 114 5), Vr ((z + 14 + n : Nat) : Int)]) (h' := ((SHv st dr (z : Int)), (ovl a0 s b))) (fun _ => rfl) ?_
  rw [(X0.t5.trans (show ((tC W p0 : Nat) : Int) = 266 by omega))]
  refine Ev.putf (c' := (ovl (updC a0 (z + 14 + n) 0 266) s b)) rfl (by omega) (shRu hz (by omega)) rfl rfl (ovl_wc (by omega)) ?_
  obtain ⟨a132, ha132⟩ : ∃ x : C3, x = (updC a0 (z + 14 + n) 0 266) := ⟨_, rfl⟩
  rw [← ha132]
  have X132 := (X0.up (o := (z + 14 + n)) (i := 0) (v := 266) (by omega))
  have G132 := (G0.up (o := (z + 14 + n)) (i := 0) (v := 266) (by omega))
  rw [← ha132] at X132 G132
  have Q132 := X132.le
  have F132_0 : a132 (z + 14 + n) 0 = 266 := by
    rw [ha132]
    exact updC_sm
  refine Ev.call (k := 1) (pc1 := 9) (L1 := [Vr 114, Vr ((z + 14 + n : Nat) : Int)]) (S1 := [Vr 114]) (h1 := ((SHv st dr (z : Int)), (ovl a132 s b))) (m' := 27) (as := [Vr 114]) (S' := []) (L0 := [Vr 114, Vx, Vx, Vx, Vx]) (fun _ => rfl) rfl rfl rfl rfl rfl rfl (c_next X132.1) (fun r h' hq => ?_)
  obtain ⟨rfl, a133, rfl, hq⟩ := hq
  rcases hq with ⟨p133, hx133, ho133⟩ | ⟨e133, hx133, hb133⟩
  · have X133 := X132.nx ho133
    have L133 : p0 < p133 := X132.lt (by omega) hx133
    have G133 := G132.tr (ho133.1.gz (c := c0) X132.hz) (by omega)
    have R133 : a133 (z + 11) = a132 (z + 11) := ho133.1 _ (by omega)
    have Q133 := X133.le
    have F133_0 : a133 (z + 14 + n) 0 = 266 := (congrFun (ho133.1 _ (by omega)) 0).trans F132_0
    show Ev X _ _ 12 [Vr 114, Vr ((z + 14 + n : Nat) : Int)] [] ((SHv st dr (z : Int)), (ovl a133 s b)) _
    refine Ev.call (k := 4) (pc1 := 16) (L1 := [Vr 114, Vr ((z + 14 + n : Nat) : Int)]) (S1 := [Vi (-1), Vi 2, Vr 114, Vr ((z + 14 + n : Nat) : Int)]) (h1 := ((SHv st dr (z : Int)), (ovl a133 s b))) (m' := 38) (as := [Vr 114, Vi 2, Vi (-1)]) (S' := [Vr ((z + 14 + n : Nat) : Int)]) (L0 := [Vr 114, Vi 2, Vi (-1), Vx]) (fun _ => rfl) rfl rfl rfl rfl rfl rfl (c_asked X133.hz X133.1 (kd := 1) (q := 2) X133.2.1 (by decide) rfl (-1) rfl) (fun r h' hq => ?_)
    obtain ⟨a134, rfl, hq⟩ := hq
    rcases hq with ⟨⟨i134, p134⟩, hx134, rfl, ho134⟩ | ⟨e134, hx134, ⟨v134, rfl, hv134⟩, hb134⟩
    · have K134 := ask_ok hx134
      dsimp only at K134 ho134
      have X134 := X133.nx ho134
      have L134 : p133 < p134 := by
        rw [show p134 = tE W p133 from K134.2.2.2.2.1]
        exact tok_lt X133.le.1 X133.1.1.1 (by omega) (by omega)
      have I134 := K134.2.2.1
      have J134 := (X133.2.1 1 (by decide)).1
      have G134 := G133.tr (ho134.1.gz (c := c0) X133.hz) (by omega)
      have R134 : a134 (z + 11) = a133 (z + 11) := ho134.1 _ (by omega)
      have Q134 := X134.le
      clear K134
      have F134_0 : a134 (z + 14 + n) 0 = 266 := (congrFun (ho134.1 _ (by omega)) 0).trans F133_0
      show Ev X _ _ 19 [Vr 114, Vr ((z + 14 + n : Nat) : Int)] [Vi ((i134 : Nat) : Int), Vr ((z + 14 + n : Nat) : Int)] ((SHv st dr (z : Int)), (ovl a134 s b)) _
      refine Ev.putf (c' := (ovl (updC a134 (z + 14 + n) 1 ((i134 : Nat) : Int)) s b)) rfl (by omega) (shRu hz (by omega)) rfl rfl (ovl_wc (by omega)) ?_
      refine Ev.steps (k := 2) (pc' := 24) (L' := [Vr 114, Vr ((z + 14 + n : Nat) : Int)]) (S' := [Vi (-1), Vr ((z + 14 + n : Nat) : Int)]) (h' := ((SHv st dr (z : Int)), (ovl (updC a134 (z + 14 + n) 1 ((i134 : Nat) : Int)) s b))) (fun _ => rfl) ?_
      refine Ev.putf (c' := (ovl (updC (updC a134 (z + 14 + n) 1 ((i134 : Nat) : Int)) (z + 14 + n) 2 (-1)) s b)) rfl (by omega) (shRu hz (by omega)) rfl rfl (ovl_wc (by omega)) ?_
      refine Ev.steps (k := 2) (pc' := 29) (L' := [Vr 114, Vr ((z + 14 + n : Nat) : Int)]) (S' := [Vi (-1), Vr ((z + 14 + n : Nat) : Int)]) (h' := ((SHv st dr (z : Int)), (ovl (updC (updC a134 (z + 14 + n) 1 ((i134 : Nat) : Int)) (z + 14 + n) 2 (-1)) s b))) (fun _ => rfl) ?_
      refine Ev.putf (c' := (ovl (updC (updC (updC a134 (z + 14 + n) 1 ((i134 : Nat) : Int)) (z + 14 + n) 2 (-1)) (z + 14 + n) 3 (-1)) s b)) rfl (by omega) (shRu hz (by omega)) rfl rfl (ovl_wc (by omega)) ?_
      refine Ev.steps (k := 3) (pc' := 37) (L' := [Vr 114, Vr ((z + 14 + n : Nat) : Int)]) (S' := [Vr (z : Int), Vr ((z + 14 + n : Nat) : Int)]) (h' := ((SHv st dr (z : Int)), (ovl (updC (updC (updC a134 (z + 14 + n) 1 ((i134 : Nat) : Int)) (z + 14 + n) 2 (-1)) (z + 14 + n) 3 (-1)) s b))) (fun _ => rfl) ?_
      refine Ev.getf (v := ((c0 : Nat) : Int)) rfl rfl (by omega) (shY_0 hz) rfl rfl (((ovl_rc (by omega)).trans (by show (updC (updC (updC a134 (z + 14 + n) 1 ((i134 : Nat) : Int)) (z + 14 + n) 2 (-1)) (z + 14 + n) 3 (-1)) z 9 = _; rw [updC_nt (by omega), updC_nt (by omega), updC_nt (by omega)])).trans (X134.2.2.1)) ?_
      refine Ev.putf (c' := (ovl (updC (updC (updC (updC a134 (z + 14 + n) 1 ((i134 : Nat) : Int)) (z + 14 + n) 2 (-1)) (z + 14 + n) 3 (-1)) (z + 14 + n) 4 ((c0 : Nat) : Int)) s b)) rfl (by omega) (shRu hz (by omega)) rfl rfl (ovl_wc (by omega)) ?_
      refine Ev.steps (k := 1) (pc' := 44) (L' := [Vr 114, Vr ((z + 14 + n : Nat) : Int)]) (S' := [Vr ((z + 14 + n : Nat) : Int)]) (h' := ((SHv st dr (z : Int)), (ovl (updC (updC (updC (updC a134 (z + 14 + n) 1 ((i134 : Nat) : Int)) (z + 14 + n) 2 (-1)) (z + 14 + n) 3 (-1)) (z + 14 + n) 4 ((c0 : Nat) : Int)) s b))) (fun _ => rfl) ?_
      refine Ev.getf (v := 266) rfl rfl (by omega) (shRu hz (by omega)) rfl rfl (((ovl_rc (by omega)).trans (by show (updC (updC (updC (updC a134 (z + 14 + n) 1 ((i134 : Nat) : Int)) (z + 14 + n) 2 (-1)) (z + 14 + n) 3 (-1)) (z + 14 + n) 4 ((c0 : Nat) : Int)) (z + 14 + n) 0 = _; rw [updC_nt (by omega), updC_nt (by omega), updC_nt (by omega), updC_nt (by omega)])).trans (F134_0)) ?_
      obtain ⟨a135, ha135⟩ : ∃ x : C3, x = (updC (updC (updC (updC a134 (z + 14 + n) 1 ((i134 : Nat) : Int)) (z + 14 + n) 2 (-1)) (z + 14 + n) 3 (-1)) (z + 14 + n) 4 ((c0 : Nat) : Int)) := ⟨_, rfl⟩
      rw [← ha135]
      have X135 := ((((X134.up (o := (z + 14 + n)) (i := 1) (v := ((i134 : Nat) : Int)) (by omega)).up (o := (z + 14 + n)) (i := 2) (v := (-1)) (by omega)).up (o := (z + 14 + n)) (i := 3) (v := (-1)) (by omega)).up (o := (z + 14 + n)) (i := 4) (v := ((c0 : Nat) : Int)) (by omega))
      have G135 := ((((G134.up (o := (z + 14 + n)) (i := 1) (v := ((i134 : Nat) : Int)) (by omega)).up (o := (z + 14 + n)) (i := 2) (v := (-1)) (by omega)).up (o := (z + 14 + n)) (i := 3) (v := (-1)) (by omega)).up (o := (z + 14 + n)) (i := 4) (v := ((c0 : Nat) : Int)) (by omega))
      rw [← ha135] at X135 G135
      have Q135 := X135.le
      have F135_0 : a135 (z + 14 + n) 0 = 266 := by
        rw [ha135]
        exact (updC_nt (by omega)).trans <| (updC_nt (by omega)).trans <| (updC_nt (by omega)).trans <| (updC_nt (by omega)).trans <| F134_0
      have F135_1 : a135 (z + 14 + n) 1 = ((i134 : Nat) : Int) := by
        rw [ha135]
        exact (updC_nt (by omega)).trans <| (updC_nt (by omega)).trans <| (updC_nt (by omega)).trans <| updC_sm
      have F135_2 : a135 (z + 14 + n) 2 = (-1) := by
        rw [ha135]
        exact (updC_nt (by omega)).trans <| (updC_nt (by omega)).trans <| updC_sm
      have F135_3 : a135 (z + 14 + n) 3 = (-1) := by
        rw [ha135]
        exact (updC_nt (by omega)).trans <| updC_sm
      have F135_4 : a135 (z + 14 + n) 4 = ((c0 : Nat) : Int) := by
        rw [ha135]
        exact updC_sm
      refine Ev.call (k := 2) (pc1 := 111) (L1 := [Vr 114, Vr ((z + 14 + n : Nat) : Int)]) (S1 := [Vr 114]) (h1 := ((SHv st dr (z : Int)), (ovl a135 s b))) (m' := 46) (as := [Vr 114]) (S' := []) (L0 := [Vr 114, Vx, Vx]) (fun _ => rfl) rfl rfl rfl rfl rfl rfl (c_sumT hz 8 _ _ _ _ (by omega) X135 (by omega)) (fun r h' hq => ?_)
      obtain ⟨rfl, a136, rfl, hq⟩ := hq
      rcases hq with ⟨⟨l136, p136⟩, hx136, c136, X136, g136, o136, h136⟩ | ⟨e136, hx136, hb136⟩
      · dsimp only at h136 X136 o136
        have L136 := o136.lt
        have G136 := G135.tr g136 (by omega)
        have Q136 := X136.le
        have F136_0 : a136 (z + 14 + n) 0 = 266 := (congrFun (g136.1 _ (by omega) (by omega) (by omega)) 0).trans F135_0
        have F136_1 : a136 (z + 14 + n) 1 = ((i134 : Nat) : Int) := (congrFun (g136.1 _ (by omega) (by omega) (by omega)) 1).trans F135_1
        have F136_2 : a136 (z + 14 + n) 2 = (-1) := (congrFun (g136.1 _ (by omega) (by omega) (by omega)) 2).trans F135_2
        have F136_3 : a136 (z + 14 + n) 3 = (-1) := (congrFun (g136.1 _ (by omega) (by omega) (by omega)) 3).trans F135_3
        have F136_4 : a136 (z + 14 + n) 4 = ((c0 : Nat) : Int) := (congrFun (g136.1 _ (by omega) (by omega) (by omega)) 4).trans F135_4
        show Ev X _ _ 114 [Vr 114, Vr ((z + 14 + n : Nat) : Int)] [] ((SHv st dr (z : Int)), (ovl a136 s b)) _
        refine Ev.call (k := 3) (pc1 := 147) (L1 := [Vr 114, Vr ((z + 14 + n : Nat) : Int)]) (S1 := [Vi 268, Vr 114]) (h1 := ((SHv st dr (z : Int)), (ovl a136 s b))) (m' := 42) (as := [Vr 114, Vi 268]) (S' := []) (L0 := [Vr 114, Vi 268]) (fun _ => rfl) rfl rfl rfl rfl rfl rfl (c_expect X136.1 268) (fun r h' hq => ?_)
        obtain ⟨rfl, a137, rfl, hq⟩ := hq
        rcases hq with ⟨p137, hx137, ho137⟩ | ⟨e137, hx137, hb137⟩
        · have X137 := X136.nx ho137
          have L137 : p136 < p137 := by
            obtain ⟨h1, h2⟩ := exp_ok hx137
            exact X136.lt (by omega) (by unfold expT at hx137; rwa [if_neg (by omega)] at hx137)
          have G137 := G136.tr (ho137.1.gz (c := c136) X136.hz) (by omega)
          have R137 : a137 (z + 11) = a136 (z + 11) := ho137.1 _ (by omega)
          have Q137 := X137.le
          have F137_0 : a137 (z + 14 + n) 0 = 266 := (congrFun (ho137.1 _ (by omega)) 0).trans F136_0
          have F137_1 : a137 (z + 14 + n) 1 = ((i134 : Nat) : Int) := (congrFun (ho137.1 _ (by omega)) 1).trans F136_1
          have F137_2 : a137 (z + 14 + n) 2 = (-1) := (congrFun (ho137.1 _ (by omega)) 2).trans F136_2
          have F137_3 : a137 (z + 14 + n) 3 = (-1) := (congrFun (ho137.1 _ (by omega)) 3).trans F136_3
          have F137_4 : a137 (z + 14 + n) 4 = ((c0 : Nat) : Int) := (congrFun (ho137.1 _ (by omega)) 4).trans F136_4
          show Ev X _ _ 150 [Vr 114, Vr ((z + 14 + n : Nat) : Int)] [] ((SHv st dr (z : Int)), (ovl a137 s b)) _
          refine Ev.steps (k := 3) (pc' := 155) (L' := [Vr 114, Vr ((z + 14 + n : Nat) : Int)]) (S' := [Vr (z : Int), Vr ((z + 14 + n : Nat) : Int)]) (h' := ((SHv st dr (z : Int)), (ovl a137 s b))) (fun _ => rfl) ?_
          refine Ev.getf (v := ((c136 : Nat) : Int)) rfl rfl (by omega) (shY_0 hz) rfl rfl ((ovl_rc (by omega)).trans (X137.2.2.1)) ?_
          refine Ev.putf (c' := (ovl (updC a137 (z + 14 + n) 5 ((c136 : Nat) : Int)) s b)) rfl (by omega) (shRu hz (by omega)) rfl rfl (ovl_wc (by omega)) ?_
          obtain ⟨a138, ha138⟩ : ∃ x : C3, x = (updC a137 (z + 14 + n) 5 ((c136 : Nat) : Int)) := ⟨_, rfl⟩
          rw [← ha138]
          have X138 := (X137.up (o := (z + 14 + n)) (i := 5) (v := ((c136 : Nat) : Int)) (by omega))
          have G138 := (G137.up (o := (z + 14 + n)) (i := 5) (v := ((c136 : Nat) : Int)) (by omega))
          rw [← ha138] at X138 G138
          have Q138 := X138.le
          have F138_0 : a138 (z + 14 + n) 0 = 266 := by
            rw [ha138]
            exact (updC_nt (by omega)).trans <| F137_0
          have F138_1 : a138 (z + 14 + n) 1 = ((i134 : Nat) : Int) := by
            rw [ha138]
            exact (updC_nt (by omega)).trans <| F137_1
          have F138_2 : a138 (z + 14 + n) 2 = (-1) := by
            rw [ha138]
            exact (updC_nt (by omega)).trans <| F137_2
          have F138_3 : a138 (z + 14 + n) 3 = (-1) := by
            rw [ha138]
            exact (updC_nt (by omega)).trans <| F137_3
          have F138_4 : a138 (z + 14 + n) 4 = ((c0 : Nat) : Int) := by
            rw [ha138]
            exact (updC_nt (by omega)).trans <| F137_4
          have F138_5 : a138 (z + 14 + n) 5 = ((c136 : Nat) : Int) := by
            rw [ha138]
            exact updC_sm
          refine Ev.call (k := 1) (pc1 := 162) (L1 := [Vr 114, Vr ((z + 14 + n : Nat) : Int)]) (S1 := [Vr 114]) (h1 := ((SHv st dr (z : Int)), (ovl a138 s b))) (m' := 52) (as := [Vr 114]) (S' := []) (L0 := [Vr 114, Vx, Vx]) (fun _ => rfl) rfl rfl rfl rfl rfl rfl (c_tstT hz 8 _ _ _ _ (by omega) X138 (by omega)) (fun r h' hq => ?_)
          obtain ⟨rfl, a140, rfl, hq⟩ := hq
          rcases hq with ⟨⟨l140, p140⟩, hx140, c140, X140, g140, o140, h140⟩ | ⟨e140, hx140, hb140⟩
          · dsimp only at h140 X140 o140
            have L140 := o140.lt
            have G140 := G138.tr g140 (by omega)
            have Q140 := X140.le
            have F140_0 : a140 (z + 14 + n) 0 = 266 := (congrFun (g140.1 _ (by omega) (by omega) (by omega)) 0).trans F138_0
            have F140_1 : a140 (z + 14 + n) 1 = ((i134 : Nat) : Int) := (congrFun (g140.1 _ (by omega) (by omega) (by omega)) 1).trans F138_1
            have F140_2 : a140 (z + 14 + n) 2 = (-1) := (congrFun (g140.1 _ (by omega) (by omega) (by omega)) 2).trans F138_2
            have F140_3 : a140 (z + 14 + n) 3 = (-1) := (congrFun (g140.1 _ (by omega) (by omega) (by omega)) 3).trans F138_3
            have F140_4 : a140 (z + 14 + n) 4 = ((c0 : Nat) : Int) := (congrFun (g140.1 _ (by omega) (by omega) (by omega)) 4).trans F138_4
            have F140_5 : a140 (z + 14 + n) 5 = ((c136 : Nat) : Int) := (congrFun (g140.1 _ (by omega) (by omega) (by omega)) 5).trans F138_5
            show Ev X _ _ 165 [Vr 114, Vr ((z + 14 + n : Nat) : Int)] [] ((SHv st dr (z : Int)), (ovl a140 s b)) _
            refine Ev.steps (k := 3) (pc' := 170) (L' := [Vr 114, Vr ((z + 14 + n : Nat) : Int)]) (S' := [Vr (z : Int), Vr ((z + 14 + n : Nat) : Int)]) (h' := ((SHv st dr (z : Int)), (ovl a140 s b))) (fun _ => rfl) ?_
            refine Ev.getf (v := ((c140 : Nat) : Int)) rfl rfl (by omega) (shY_0 hz) rfl rfl ((ovl_rc (by omega)).trans (X140.2.2.1)) ?_
            refine Ev.putf (c' := (ovl (updC a140 (z + 14 + n) 6 ((c140 : Nat) : Int)) s b)) rfl (by omega) (shRu hz (by omega)) rfl rfl (ovl_wc (by omega)) ?_
            refine Ev.fin (k := 1) (r := none) (h' := ((SHv st dr (z : Int)), (ovl (updC a140 (z + 14 + n) 6 ((c140 : Nat) : Int)) s b))) (fun _ => rfl) ?_
            obtain ⟨a141, ha141⟩ : ∃ x : C3, x = (updC a140 (z + 14 + n) 6 ((c140 : Nat) : Int)) := ⟨_, rfl⟩
            rw [← ha141]
            have X141 := (X140.up (o := (z + 14 + n)) (i := 6) (v := ((c140 : Nat) : Int)) (by omega))
            have G141 := (G140.up (o := (z + 14 + n)) (i := 6) (v := ((c140 : Nat) : Int)) (by omega))
            rw [← ha141] at X141 G141
            have Q141 := X141.le
            have F141_0 : a141 (z + 14 + n) 0 = 266 := by
              rw [ha141]
              exact (updC_nt (by omega)).trans <| F140_0
            have F141_1 : a141 (z + 14 + n) 1 = ((i134 : Nat) : Int) := by
              rw [ha141]
              exact (updC_nt (by omega)).trans <| F140_1
            have F141_2 : a141 (z + 14 + n) 2 = (-1) := by
              rw [ha141]
              exact (updC_nt (by omega)).trans <| F140_2
            have F141_3 : a141 (z + 14 + n) 3 = (-1) := by
              rw [ha141]
              exact (updC_nt (by omega)).trans <| F140_3
            have F141_4 : a141 (z + 14 + n) 4 = ((c0 : Nat) : Int) := by
              rw [ha141]
              exact (updC_nt (by omega)).trans <| F140_4
            have F141_5 : a141 (z + 14 + n) 5 = ((c136 : Nat) : Int) := by
              rw [ha141]
              exact (updC_nt (by omega)).trans <| F140_5
            have F141_6 : a141 (z + 14 + n) 6 = ((c140 : Nat) : Int) := by
              rw [ha141]
              exact updC_sm
            refine ⟨rfl, _, rfl, ?_⟩
            unfold rulT
            rw [hx133, bnX_o, hx134, bnX_o]
            have eA : argT W S.1 (tC W p0) i134 p134 = bnX (sumT W S.1 8 p134) (fun r => .ok ((-1, -1, r.1), r.2)) := by rw [hlit]; rfl
            try dsimp only
            rw [eA, hx136, bnX_o]
            rw [bnX_o]
            try dsimp only
            rw [hx137, bnX_o, hx140, bnX_o]
            refine Or.inl ⟨_, rfl, c140, X141, by dsimp only; omega, G141.fs, fun a2 h1 h2 => ?_⟩
            dsimp only
            have hq := h1 (z + 14 + n) (by omega) (by omega) (by omega)
            have h11 := h1 (z + 11) (by omega) (by omega) (by omega)
            have ekd : tC W p0 - 262 = 4 := by omega
            refine P0.rule (k0 := (c0)) (k1 := (c136)) hn0 h8 hC (by omega) (fun o o1 o2 o3 o4 o5 => (h1 o o1 o2 o3).trans (G141.2.2.1 o (by omega) (by omega) o4 o5 o5)) (fun j hj => (congrFun h11 j).trans (G141.2.2.2 j hj)) (fun i => ?_) ?_ ?_ ?_ ?_ ?_ ?_ ?_ (by omega) ?_ ?_
            · rw [h2, congrFun (G141.2.2.1 (z + 1) (by omega) (by omega) (by omega) (by omega) (by omega)) i]
            · rw [hq, F141_0, ekd]; rfl
            · rw [hq, F141_1]
            · intro g; rw [hq, F141_2]
            · intro g; omega
            · rw [hq, F141_4]
            · rw [hq, F141_5]
            · rw [hq, F141_6]
            · rw [h11, show a141 (z + 11) = a140 (z + 11) by rw [ha141, updC_row (by omega)]]
              exact o140.mo (by omega)
            · intro _
              rw [h11, show a141 (z + 11) = a140 (z + 11) by rw [ha141, updC_row (by omega)]]
              exact (o136.cg (fun j _ hj => (g140.2 j hj).trans (by rw [show a138 (z + 11) = a137 (z + 11) by rw [ha138, updC_row (by omega)], R137]))).mo (by omega)
          · have B140 := G138.bz hb140
            show Ev X _ _ 165 [Vr 114, Vr ((z + 14 + n : Nat) : Int)] [] ((SHv st dr (z : Int)), (ovl a140 s b)) _
            refine Ev.steps (k := 3) (pc' := 170) (L' := [Vr 114, Vr ((z + 14 + n : Nat) : Int)]) (S' := [Vr (z : Int), Vr ((z + 14 + n : Nat) : Int)]) (h' := ((SHv st dr (z : Int)), (ovl a140 s b))) (fun _ => rfl) ?_
            refine Ev.getf (v := (a140 z 9)) rfl rfl (by omega) (shY_0 hz) rfl rfl (ovl_rc (by omega)) ?_
            refine Ev.putf (c' := (ovl (updC a140 (z + 14 + n) 6 (a140 z 9)) s b)) rfl (by omega) (shRu hz (by omega)) rfl rfl (ovl_wc (by omega)) ?_
            refine Ev.fin (k := 1) (r := none) (h' := ((SHv st dr (z : Int)), (ovl (updC a140 (z + 14 + n) 6 (a140 z 9)) s b))) (fun _ => rfl) ?_
            obtain ⟨a142, ha142⟩ : ∃ x : C3, x = (updC a140 (z + 14 + n) 6 (a140 z 9)) := ⟨_, rfl⟩
            rw [← ha142]
            have B142 := (B140.up (o := (z + 14 + n)) (i := 6) (v := (a140 z 9)) hz (by omega))
            rw [← ha142] at B142
            refine ⟨rfl, _, rfl, ?_⟩
            unfold rulT
            rw [hx133, bnX_o, hx134, bnX_o]
            have eA : argT W S.1 (tC W p0) i134 p134 = bnX (sumT W S.1 8 p134) (fun r => .ok ((-1, -1, r.1), r.2)) := by rw [hlit]; rfl
            try dsimp only
            rw [eA, hx136, bnX_o]
            rw [bnX_o]
            try dsimp only
            rw [hx137, bnX_o, hx140, bnX_e]
            exact Or.inr ⟨_, rfl, B142⟩
        · have B137 := G136.bd X136 (by omega) hb137
          show Ev X _ _ 150 [Vr 114, Vr ((z + 14 + n : Nat) : Int)] [] ((SHv st dr (z : Int)), (ovl a137 s b)) _
          refine Ev.steps (k := 3) (pc' := 155) (L' := [Vr 114, Vr ((z + 14 + n : Nat) : Int)]) (S' := [Vr (z : Int), Vr ((z + 14 + n : Nat) : Int)]) (h' := ((SHv st dr (z : Int)), (ovl a137 s b))) (fun _ => rfl) ?_
          refine Ev.getf (v := (a137 z 9)) rfl rfl (by omega) (shY_0 hz) rfl rfl (ovl_rc (by omega)) ?_
          refine Ev.putf (c' := (ovl (updC a137 (z + 14 + n) 5 (a137 z 9)) s b)) rfl (by omega) (shRu hz (by omega)) rfl rfl (ovl_wc (by omega)) ?_
          obtain ⟨a143, ha143⟩ : ∃ x : C3, x = (updC a137 (z + 14 + n) 5 (a137 z 9)) := ⟨_, rfl⟩
          rw [← ha143]
          have B143 := (B137.up (o := (z + 14 + n)) (i := 5) (v := (a137 z 9)) hz (by omega))
          rw [← ha143] at B143
          refine Ev.call (k := 1) (pc1 := 162) (L1 := [Vr 114, Vr ((z + 14 + n : Nat) : Int)]) (S1 := [Vr 114]) (h1 := ((SHv st dr (z : Int)), (ovl a143 s b))) (m' := 52) (as := [Vr 114]) (S' := []) (L0 := [Vr 114, Vx, Vx]) (fun _ => rfl) rfl rfl rfl rfl rfl rfl (c_test_br hz B143.z) (fun r h' hq => ?_)
          obtain ⟨rfl, a144, rfl, hb144⟩ := hq
          have B144 := B143.tz hb144
          show Ev X _ _ 165 [Vr 114, Vr ((z + 14 + n : Nat) : Int)] [] ((SHv st dr (z : Int)), (ovl a144 s b)) _
          refine Ev.steps (k := 3) (pc' := 170) (L' := [Vr 114, Vr ((z + 14 + n : Nat) : Int)]) (S' := [Vr (z : Int), Vr ((z + 14 + n : Nat) : Int)]) (h' := ((SHv st dr (z : Int)), (ovl a144 s b))) (fun _ => rfl) ?_
          refine Ev.getf (v := (a144 z 9)) rfl rfl (by omega) (shY_0 hz) rfl rfl (ovl_rc (by omega)) ?_
          refine Ev.putf (c' := (ovl (updC a144 (z + 14 + n) 6 (a144 z 9)) s b)) rfl (by omega) (shRu hz (by omega)) rfl rfl (ovl_wc (by omega)) ?_
          refine Ev.fin (k := 1) (r := none) (h' := ((SHv st dr (z : Int)), (ovl (updC a144 (z + 14 + n) 6 (a144 z 9)) s b))) (fun _ => rfl) ?_
          obtain ⟨a145, ha145⟩ : ∃ x : C3, x = (updC a144 (z + 14 + n) 6 (a144 z 9)) := ⟨_, rfl⟩
          rw [← ha145]
          have B145 := (B144.up (o := (z + 14 + n)) (i := 6) (v := (a144 z 9)) hz (by omega))
          rw [← ha145] at B145
          refine ⟨rfl, _, rfl, ?_⟩
          unfold rulT
          rw [hx133, bnX_o, hx134, bnX_o]
          have eA : argT W S.1 (tC W p0) i134 p134 = bnX (sumT W S.1 8 p134) (fun r => .ok ((-1, -1, r.1), r.2)) := by rw [hlit]; rfl
          try dsimp only
          rw [eA, hx136, bnX_o]
          rw [bnX_o]
          try dsimp only
          rw [hx137, bnX_e]
          exact Or.inr ⟨_, rfl, B145⟩
      · have B136 := G135.bz hb136
        show Ev X _ _ 114 [Vr 114, Vr ((z + 14 + n : Nat) : Int)] [] ((SHv st dr (z : Int)), (ovl a136 s b)) _
        refine Ev.call (k := 3) (pc1 := 147) (L1 := [Vr 114, Vr ((z + 14 + n : Nat) : Int)]) (S1 := [Vi 268, Vr 114]) (h1 := ((SHv st dr (z : Int)), (ovl a136 s b))) (m' := 42) (as := [Vr 114, Vi 268]) (S' := []) (L0 := [Vr 114, Vi 268]) (fun _ => rfl) rfl rfl rfl rfl rfl rfl (c_expect_br B136.2.2.1 268 (by decide)) (fun r h' hq => ?_)
        obtain ⟨rfl, rfl⟩ := hq
        show Ev X _ _ 150 [Vr 114, Vr ((z + 14 + n : Nat) : Int)] [] ((SHv st dr (z : Int)), (ovl a136 s b)) _
        refine Ev.steps (k := 3) (pc' := 155) (L' := [Vr 114, Vr ((z + 14 + n : Nat) : Int)]) (S' := [Vr (z : Int), Vr ((z + 14 + n : Nat) : Int)]) (h' := ((SHv st dr (z : Int)), (ovl a136 s b))) (fun _ => rfl) ?_
        refine Ev.getf (v := (a136 z 9)) rfl rfl (by omega) (shY_0 hz) rfl rfl (ovl_rc (by omega)) ?_
        refine Ev.putf (c' := (ovl (updC a136 (z + 14 + n) 5 (a136 z 9)) s b)) rfl (by omega) (shRu hz (by omega)) rfl rfl (ovl_wc (by omega)) ?_
        obtain ⟨a146, ha146⟩ : ∃ x : C3, x = (updC a136 (z + 14 + n) 5 (a136 z 9)) := ⟨_, rfl⟩
        rw [← ha146]
        have B146 := (B136.up (o := (z + 14 + n)) (i := 5) (v := (a136 z 9)) hz (by omega))
        rw [← ha146] at B146
        refine Ev.call (k := 1) (pc1 := 162) (L1 := [Vr 114, Vr ((z + 14 + n : Nat) : Int)]) (S1 := [Vr 114]) (h1 := ((SHv st dr (z : Int)), (ovl a146 s b))) (m' := 52) (as := [Vr 114]) (S' := []) (L0 := [Vr 114, Vx, Vx]) (fun _ => rfl) rfl rfl rfl rfl rfl rfl (c_test_br hz B146.z) (fun r h' hq => ?_)
        obtain ⟨rfl, a147, rfl, hb147⟩ := hq
        have B147 := B146.tz hb147
        show Ev X _ _ 165 [Vr 114, Vr ((z + 14 + n : Nat) : Int)] [] ((SHv st dr (z : Int)), (ovl a147 s b)) _
        refine Ev.steps (k := 3) (pc' := 170) (L' := [Vr 114, Vr ((z + 14 + n : Nat) : Int)]) (S' := [Vr (z : Int), Vr ((z + 14 + n : Nat) : Int)]) (h' := ((SHv st dr (z : Int)), (ovl a147 s b))) (fun _ => rfl) ?_
        refine Ev.getf (v := (a147 z 9)) rfl rfl (by omega) (shY_0 hz) rfl rfl (ovl_rc (by omega)) ?_
        refine Ev.putf (c' := (ovl (updC a147 (z + 14 + n) 6 (a147 z 9)) s b)) rfl (by omega) (shRu hz (by omega)) rfl rfl (ovl_wc (by omega)) ?_
        refine Ev.fin (k := 1) (r := none) (h' := ((SHv st dr (z : Int)), (ovl (updC a147 (z + 14 + n) 6 (a147 z 9)) s b))) (fun _ => rfl) ?_
        obtain ⟨a148, ha148⟩ : ∃ x : C3, x = (updC a147 (z + 14 + n) 6 (a147 z 9)) := ⟨_, rfl⟩
        rw [← ha148]
        have B148 := (B147.up (o := (z + 14 + n)) (i := 6) (v := (a147 z 9)) hz (by omega))
        rw [← ha148] at B148
        refine ⟨rfl, _, rfl, ?_⟩
        unfold rulT
        rw [hx133, bnX_o, hx134, bnX_o]
        have eA : argT W S.1 (tC W p0) i134 p134 = bnX (sumT W S.1 8 p134) (fun r => .ok ((-1, -1, r.1), r.2)) := by rw [hlit]; rfl
        try dsimp only
        rw [eA, hx136, bnX_e]
        rw [bnX_e]
        exact Or.inr ⟨_, rfl, B148⟩
    · have B134 := G133.bd X133 (by omega) hb134
      have F134_0 : a134 (z + 14 + n) 0 = 266 := (congrFun (hb134.1 _ (by omega)) 0).trans F133_0
      show Ev X _ _ 19 [Vr 114, Vr ((z + 14 + n : Nat) : Int)] [Vi v134, Vr ((z + 14 + n : Nat) : Int)] ((SHv st dr (z : Int)), (ovl a134 s b)) _
      refine Ev.putf (c' := (ovl (updC a134 (z + 14 + n) 1 v134) s b)) rfl (by omega) (shRu hz (by omega)) rfl rfl (ovl_wc (by omega)) ?_
      refine Ev.steps (k := 2) (pc' := 24) (L' := [Vr 114, Vr ((z + 14 + n : Nat) : Int)]) (S' := [Vi (-1), Vr ((z + 14 + n : Nat) : Int)]) (h' := ((SHv st dr (z : Int)), (ovl (updC a134 (z + 14 + n) 1 v134) s b))) (fun _ => rfl) ?_
      refine Ev.putf (c' := (ovl (updC (updC a134 (z + 14 + n) 1 v134) (z + 14 + n) 2 (-1)) s b)) rfl (by omega) (shRu hz (by omega)) rfl rfl (ovl_wc (by omega)) ?_
      refine Ev.steps (k := 2) (pc' := 29) (L' := [Vr 114, Vr ((z + 14 + n : Nat) : Int)]) (S' := [Vi (-1), Vr ((z + 14 + n : Nat) : Int)]) (h' := ((SHv st dr (z : Int)), (ovl (updC (updC a134 (z + 14 + n) 1 v134) (z + 14 + n) 2 (-1)) s b))) (fun _ => rfl) ?_
      refine Ev.putf (c' := (ovl (updC (updC (updC a134 (z + 14 + n) 1 v134) (z + 14 + n) 2 (-1)) (z + 14 + n) 3 (-1)) s b)) rfl (by omega) (shRu hz (by omega)) rfl rfl (ovl_wc (by omega)) ?_
      refine Ev.steps (k := 3) (pc' := 37) (L' := [Vr 114, Vr ((z + 14 + n : Nat) : Int)]) (S' := [Vr (z : Int), Vr ((z + 14 + n : Nat) : Int)]) (h' := ((SHv st dr (z : Int)), (ovl (updC (updC (updC a134 (z + 14 + n) 1 v134) (z + 14 + n) 2 (-1)) (z + 14 + n) 3 (-1)) s b))) (fun _ => rfl) ?_
      refine Ev.getf (v := (a134 z 9)) rfl rfl (by omega) (shY_0 hz) rfl rfl ((ovl_rc (by omega)).trans (by show (updC (updC (updC a134 (z + 14 + n) 1 v134) (z + 14 + n) 2 (-1)) (z + 14 + n) 3 (-1)) z 9 = _; rw [updC_nt (by omega), updC_nt (by omega), updC_nt (by omega)])) ?_
      refine Ev.putf (c' := (ovl (updC (updC (updC (updC a134 (z + 14 + n) 1 v134) (z + 14 + n) 2 (-1)) (z + 14 + n) 3 (-1)) (z + 14 + n) 4 (a134 z 9)) s b)) rfl (by omega) (shRu hz (by omega)) rfl rfl (ovl_wc (by omega)) ?_
      refine Ev.steps (k := 1) (pc' := 44) (L' := [Vr 114, Vr ((z + 14 + n : Nat) : Int)]) (S' := [Vr ((z + 14 + n : Nat) : Int)]) (h' := ((SHv st dr (z : Int)), (ovl (updC (updC (updC (updC a134 (z + 14 + n) 1 v134) (z + 14 + n) 2 (-1)) (z + 14 + n) 3 (-1)) (z + 14 + n) 4 (a134 z 9)) s b))) (fun _ => rfl) ?_
      refine Ev.getf (v := 266) rfl rfl (by omega) (shRu hz (by omega)) rfl rfl (((ovl_rc (by omega)).trans (by show (updC (updC (updC (updC a134 (z + 14 + n) 1 v134) (z + 14 + n) 2 (-1)) (z + 14 + n) 3 (-1)) (z + 14 + n) 4 (a134 z 9)) (z + 14 + n) 0 = _; rw [updC_nt (by omega), updC_nt (by omega), updC_nt (by omega), updC_nt (by omega)])).trans (F134_0)) ?_
      obtain ⟨a149, ha149⟩ : ∃ x : C3, x = (updC (updC (updC (updC a134 (z + 14 + n) 1 v134) (z + 14 + n) 2 (-1)) (z + 14 + n) 3 (-1)) (z + 14 + n) 4 (a134 z 9)) := ⟨_, rfl⟩
      rw [← ha149]
      have B149 := ((((B134.up (o := (z + 14 + n)) (i := 1) (v := v134) hz (by omega)).up (o := (z + 14 + n)) (i := 2) (v := (-1)) hz (by omega)).up (o := (z + 14 + n)) (i := 3) (v := (-1)) hz (by omega)).up (o := (z + 14 + n)) (i := 4) (v := (a134 z 9)) hz (by omega))
      rw [← ha149] at B149
      have F149_0 : a149 (z + 14 + n) 0 = 266 := by
        rw [ha149]
        exact (updC_nt (by omega)).trans <| (updC_nt (by omega)).trans <| (updC_nt (by omega)).trans <| (updC_nt (by omega)).trans <| F134_0
      refine Ev.call (k := 2) (pc1 := 111) (L1 := [Vr 114, Vr ((z + 14 + n : Nat) : Int)]) (S1 := [Vr 114]) (h1 := ((SHv st dr (z : Int)), (ovl a149 s b))) (m' := 46) (as := [Vr 114]) (S' := []) (L0 := [Vr 114, Vx, Vx]) (fun _ => rfl) rfl rfl rfl rfl rfl rfl (c_sum_br B149.2.2.1) (fun r h' hq => ?_)
      obtain ⟨rfl, rfl⟩ := hq
      show Ev X _ _ 114 [Vr 114, Vr ((z + 14 + n : Nat) : Int)] [] ((SHv st dr (z : Int)), (ovl a149 s b)) _
      refine Ev.call (k := 3) (pc1 := 147) (L1 := [Vr 114, Vr ((z + 14 + n : Nat) : Int)]) (S1 := [Vi 268, Vr 114]) (h1 := ((SHv st dr (z : Int)), (ovl a149 s b))) (m' := 42) (as := [Vr 114, Vi 268]) (S' := []) (L0 := [Vr 114, Vi 268]) (fun _ => rfl) rfl rfl rfl rfl rfl rfl (c_expect_br B149.2.2.1 268 (by decide)) (fun r h' hq => ?_)
      obtain ⟨rfl, rfl⟩ := hq
      show Ev X _ _ 150 [Vr 114, Vr ((z + 14 + n : Nat) : Int)] [] ((SHv st dr (z : Int)), (ovl a149 s b)) _
      refine Ev.steps (k := 3) (pc' := 155) (L' := [Vr 114, Vr ((z + 14 + n : Nat) : Int)]) (S' := [Vr (z : Int), Vr ((z + 14 + n : Nat) : Int)]) (h' := ((SHv st dr (z : Int)), (ovl a149 s b))) (fun _ => rfl) ?_
      refine Ev.getf (v := (a149 z 9)) rfl rfl (by omega) (shY_0 hz) rfl rfl (ovl_rc (by omega)) ?_
      refine Ev.putf (c' := (ovl (updC a149 (z + 14 + n) 5 (a149 z 9)) s b)) rfl (by omega) (shRu hz (by omega)) rfl rfl (ovl_wc (by omega)) ?_
      obtain ⟨a151, ha151⟩ : ∃ x : C3, x = (updC a149 (z + 14 + n) 5 (a149 z 9)) := ⟨_, rfl⟩
      rw [← ha151]
      have B151 := (B149.up (o := (z + 14 + n)) (i := 5) (v := (a149 z 9)) hz (by omega))
      rw [← ha151] at B151
      have F151_0 : a151 (z + 14 + n) 0 = 266 := by
        rw [ha151]
        exact (updC_nt (by omega)).trans <| F149_0
      refine Ev.call (k := 1) (pc1 := 162) (L1 := [Vr 114, Vr ((z + 14 + n : Nat) : Int)]) (S1 := [Vr 114]) (h1 := ((SHv st dr (z : Int)), (ovl a151 s b))) (m' := 52) (as := [Vr 114]) (S' := []) (L0 := [Vr 114, Vx, Vx]) (fun _ => rfl) rfl rfl rfl rfl rfl rfl (c_test_br hz B151.z) (fun r h' hq => ?_)
      obtain ⟨rfl, a152, rfl, hb152⟩ := hq
      have B152 := B151.tz hb152
      show Ev X _ _ 165 [Vr 114, Vr ((z + 14 + n : Nat) : Int)] [] ((SHv st dr (z : Int)), (ovl a152 s b)) _
      refine Ev.steps (k := 3) (pc' := 170) (L' := [Vr 114, Vr ((z + 14 + n : Nat) : Int)]) (S' := [Vr (z : Int), Vr ((z + 14 + n : Nat) : Int)]) (h' := ((SHv st dr (z : Int)), (ovl a152 s b))) (fun _ => rfl) ?_
      refine Ev.getf (v := (a152 z 9)) rfl rfl (by omega) (shY_0 hz) rfl rfl (ovl_rc (by omega)) ?_
      refine Ev.putf (c' := (ovl (updC a152 (z + 14 + n) 6 (a152 z 9)) s b)) rfl (by omega) (shRu hz (by omega)) rfl rfl (ovl_wc (by omega)) ?_
      refine Ev.fin (k := 1) (r := none) (h' := ((SHv st dr (z : Int)), (ovl (updC a152 (z + 14 + n) 6 (a152 z 9)) s b))) (fun _ => rfl) ?_
      obtain ⟨a153, ha153⟩ : ∃ x : C3, x = (updC a152 (z + 14 + n) 6 (a152 z 9)) := ⟨_, rfl⟩
      rw [← ha153]
      have B153 := (B152.up (o := (z + 14 + n)) (i := 6) (v := (a152 z 9)) hz (by omega))
      rw [← ha153] at B153
      refine ⟨rfl, _, rfl, ?_⟩
      unfold rulT
      rw [hx133, bnX_o, hx134, bnX_e]
      exact Or.inr ⟨_, rfl, B153⟩
  · have B133 := G132.bd X132 (by omega) hb133
    have F133_0 : a133 (z + 14 + n) 0 = 266 := (congrFun (hb133.1 _ (by omega)) 0).trans F132_0
    show Ev X _ _ 12 [Vr 114, Vr ((z + 14 + n : Nat) : Int)] [] ((SHv st dr (z : Int)), (ovl a133 s b)) _
    refine Ev.call (k := 4) (pc1 := 16) (L1 := [Vr 114, Vr ((z + 14 + n : Nat) : Int)]) (S1 := [Vi (-1), Vi 2, Vr 114, Vr ((z + 14 + n : Nat) : Int)]) (h1 := ((SHv st dr (z : Int)), (ovl a133 s b))) (m' := 38) (as := [Vr 114, Vi 2, Vi (-1)]) (S' := [Vr ((z + 14 + n : Nat) : Int)]) (L0 := [Vr 114, Vi 2, Vi (-1), Vx]) (fun _ => rfl) rfl rfl rfl rfl rfl rfl (c_asked_br B133.2.2.1 2 (-1)) (fun r h' hq => ?_)
    obtain ⟨rfl, rfl⟩ := hq
    show Ev X _ _ 19 [Vr 114, Vr ((z + 14 + n : Nat) : Int)] [Vi (-1), Vr ((z + 14 + n : Nat) : Int)] ((SHv st dr (z : Int)), (ovl a133 s b)) _
    refine Ev.putf (c' := (ovl (updC a133 (z + 14 + n) 1 (-1)) s b)) rfl (by omega) (shRu hz (by omega)) rfl rfl (ovl_wc (by omega)) ?_
    refine Ev.steps (k := 2) (pc' := 24) (L' := [Vr 114, Vr ((z + 14 + n : Nat) : Int)]) (S' := [Vi (-1), Vr ((z + 14 + n : Nat) : Int)]) (h' := ((SHv st dr (z : Int)), (ovl (updC a133 (z + 14 + n) 1 (-1)) s b))) (fun _ => rfl) ?_
    refine Ev.putf (c' := (ovl (updC (updC a133 (z + 14 + n) 1 (-1)) (z + 14 + n) 2 (-1)) s b)) rfl (by omega) (shRu hz (by omega)) rfl rfl (ovl_wc (by omega)) ?_
    refine Ev.steps (k := 2) (pc' := 29) (L' := [Vr 114, Vr ((z + 14 + n : Nat) : Int)]) (S' := [Vi (-1), Vr ((z + 14 + n : Nat) : Int)]) (h' := ((SHv st dr (z : Int)), (ovl (updC (updC a133 (z + 14 + n) 1 (-1)) (z + 14 + n) 2 (-1)) s b))) (fun _ => rfl) ?_
    refine Ev.putf (c' := (ovl (updC (updC (updC a133 (z + 14 + n) 1 (-1)) (z + 14 + n) 2 (-1)) (z + 14 + n) 3 (-1)) s b)) rfl (by omega) (shRu hz (by omega)) rfl rfl (ovl_wc (by omega)) ?_
    refine Ev.steps (k := 3) (pc' := 37) (L' := [Vr 114, Vr ((z + 14 + n : Nat) : Int)]) (S' := [Vr (z : Int), Vr ((z + 14 + n : Nat) : Int)]) (h' := ((SHv st dr (z : Int)), (ovl (updC (updC (updC a133 (z + 14 + n) 1 (-1)) (z + 14 + n) 2 (-1)) (z + 14 + n) 3 (-1)) s b))) (fun _ => rfl) ?_
    refine Ev.getf (v := (a133 z 9)) rfl rfl (by omega) (shY_0 hz) rfl rfl ((ovl_rc (by omega)).trans (by show (updC (updC (updC a133 (z + 14 + n) 1 (-1)) (z + 14 + n) 2 (-1)) (z + 14 + n) 3 (-1)) z 9 = _; rw [updC_nt (by omega), updC_nt (by omega), updC_nt (by omega)])) ?_
    refine Ev.putf (c' := (ovl (updC (updC (updC (updC a133 (z + 14 + n) 1 (-1)) (z + 14 + n) 2 (-1)) (z + 14 + n) 3 (-1)) (z + 14 + n) 4 (a133 z 9)) s b)) rfl (by omega) (shRu hz (by omega)) rfl rfl (ovl_wc (by omega)) ?_
    refine Ev.steps (k := 1) (pc' := 44) (L' := [Vr 114, Vr ((z + 14 + n : Nat) : Int)]) (S' := [Vr ((z + 14 + n : Nat) : Int)]) (h' := ((SHv st dr (z : Int)), (ovl (updC (updC (updC (updC a133 (z + 14 + n) 1 (-1)) (z + 14 + n) 2 (-1)) (z + 14 + n) 3 (-1)) (z + 14 + n) 4 (a133 z 9)) s b))) (fun _ => rfl) ?_
    refine Ev.getf (v := 266) rfl rfl (by omega) (shRu hz (by omega)) rfl rfl (((ovl_rc (by omega)).trans (by show (updC (updC (updC (updC a133 (z + 14 + n) 1 (-1)) (z + 14 + n) 2 (-1)) (z + 14 + n) 3 (-1)) (z + 14 + n) 4 (a133 z 9)) (z + 14 + n) 0 = _; rw [updC_nt (by omega), updC_nt (by omega), updC_nt (by omega), updC_nt (by omega)])).trans (F133_0)) ?_
    obtain ⟨a154, ha154⟩ : ∃ x : C3, x = (updC (updC (updC (updC a133 (z + 14 + n) 1 (-1)) (z + 14 + n) 2 (-1)) (z + 14 + n) 3 (-1)) (z + 14 + n) 4 (a133 z 9)) := ⟨_, rfl⟩
    rw [← ha154]
    have B154 := ((((B133.up (o := (z + 14 + n)) (i := 1) (v := (-1)) hz (by omega)).up (o := (z + 14 + n)) (i := 2) (v := (-1)) hz (by omega)).up (o := (z + 14 + n)) (i := 3) (v := (-1)) hz (by omega)).up (o := (z + 14 + n)) (i := 4) (v := (a133 z 9)) hz (by omega))
    rw [← ha154] at B154
    have F154_0 : a154 (z + 14 + n) 0 = 266 := by
      rw [ha154]
      exact (updC_nt (by omega)).trans <| (updC_nt (by omega)).trans <| (updC_nt (by omega)).trans <| (updC_nt (by omega)).trans <| F133_0
    refine Ev.call (k := 2) (pc1 := 111) (L1 := [Vr 114, Vr ((z + 14 + n : Nat) : Int)]) (S1 := [Vr 114]) (h1 := ((SHv st dr (z : Int)), (ovl a154 s b))) (m' := 46) (as := [Vr 114]) (S' := []) (L0 := [Vr 114, Vx, Vx]) (fun _ => rfl) rfl rfl rfl rfl rfl rfl (c_sum_br B154.2.2.1) (fun r h' hq => ?_)
    obtain ⟨rfl, rfl⟩ := hq
    show Ev X _ _ 114 [Vr 114, Vr ((z + 14 + n : Nat) : Int)] [] ((SHv st dr (z : Int)), (ovl a154 s b)) _
    refine Ev.call (k := 3) (pc1 := 147) (L1 := [Vr 114, Vr ((z + 14 + n : Nat) : Int)]) (S1 := [Vi 268, Vr 114]) (h1 := ((SHv st dr (z : Int)), (ovl a154 s b))) (m' := 42) (as := [Vr 114, Vi 268]) (S' := []) (L0 := [Vr 114, Vi 268]) (fun _ => rfl) rfl rfl rfl rfl rfl rfl (c_expect_br B154.2.2.1 268 (by decide)) (fun r h' hq => ?_)
    obtain ⟨rfl, rfl⟩ := hq
    show Ev X _ _ 150 [Vr 114, Vr ((z + 14 + n : Nat) : Int)] [] ((SHv st dr (z : Int)), (ovl a154 s b)) _
    refine Ev.steps (k := 3) (pc' := 155) (L' := [Vr 114, Vr ((z + 14 + n : Nat) : Int)]) (S' := [Vr (z : Int), Vr ((z + 14 + n : Nat) : Int)]) (h' := ((SHv st dr (z : Int)), (ovl a154 s b))) (fun _ => rfl) ?_
    refine Ev.getf (v := (a154 z 9)) rfl rfl (by omega) (shY_0 hz) rfl rfl (ovl_rc (by omega)) ?_
    refine Ev.putf (c' := (ovl (updC a154 (z + 14 + n) 5 (a154 z 9)) s b)) rfl (by omega) (shRu hz (by omega)) rfl rfl (ovl_wc (by omega)) ?_
    obtain ⟨a156, ha156⟩ : ∃ x : C3, x = (updC a154 (z + 14 + n) 5 (a154 z 9)) := ⟨_, rfl⟩
    rw [← ha156]
    have B156 := (B154.up (o := (z + 14 + n)) (i := 5) (v := (a154 z 9)) hz (by omega))
    rw [← ha156] at B156
    have F156_0 : a156 (z + 14 + n) 0 = 266 := by
      rw [ha156]
      exact (updC_nt (by omega)).trans <| F154_0
    refine Ev.call (k := 1) (pc1 := 162) (L1 := [Vr 114, Vr ((z + 14 + n : Nat) : Int)]) (S1 := [Vr 114]) (h1 := ((SHv st dr (z : Int)), (ovl a156 s b))) (m' := 52) (as := [Vr 114]) (S' := []) (L0 := [Vr 114, Vx, Vx]) (fun _ => rfl) rfl rfl rfl rfl rfl rfl (c_test_br hz B156.z) (fun r h' hq => ?_)
    obtain ⟨rfl, a157, rfl, hb157⟩ := hq
    have B157 := B156.tz hb157
    show Ev X _ _ 165 [Vr 114, Vr ((z + 14 + n : Nat) : Int)] [] ((SHv st dr (z : Int)), (ovl a157 s b)) _
    refine Ev.steps (k := 3) (pc' := 170) (L' := [Vr 114, Vr ((z + 14 + n : Nat) : Int)]) (S' := [Vr (z : Int), Vr ((z + 14 + n : Nat) : Int)]) (h' := ((SHv st dr (z : Int)), (ovl a157 s b))) (fun _ => rfl) ?_
    refine Ev.getf (v := (a157 z 9)) rfl rfl (by omega) (shY_0 hz) rfl rfl (ovl_rc (by omega)) ?_
    refine Ev.putf (c' := (ovl (updC a157 (z + 14 + n) 6 (a157 z 9)) s b)) rfl (by omega) (shRu hz (by omega)) rfl rfl (ovl_wc (by omega)) ?_
    refine Ev.fin (k := 1) (r := none) (h' := ((SHv st dr (z : Int)), (ovl (updC a157 (z + 14 + n) 6 (a157 z 9)) s b))) (fun _ => rfl) ?_
    obtain ⟨a158, ha158⟩ : ∃ x : C3, x = (updC a157 (z + 14 + n) 6 (a157 z 9)) := ⟨_, rfl⟩
    rw [← ha158]
    have B158 := (B157.up (o := (z + 14 + n)) (i := 6) (v := (a157 z 9)) hz (by omega))
    rw [← ha158] at B158
    refine ⟨rfl, _, rfl, ?_⟩
    unfold rulT
    rw [hx133, bnX_e]
    exact Or.inr ⟨_, rfl, B158⟩
theorem c_ruled_267 {X : List Int} {st dr : Int} {s b : C3} {W : TXT} {S : STY} {z : Nat} (hz : hyS z) {n : Nat} (d : Nat) (a0 : C3) (p0 c0 : Nat) (hd : 400 ≤ d) (X0 : XoC W S.1 z p0 c0 8 a0) (P0 : PaC S a0 z c0) (hC : nC S ≤ 12) (hc0 : c0 ≤ p0) (hlit : tC W p0 = 267) (hn0 : S.1 0 4 = (n : Int)) (h8 : n < 30) : Ev X d 45 0 [Vr 114, Vr ((z + 14 + n : Nat) : Int)] [] (SHv st dr (z : Int), ovl a0 s b) (PoB st dr s b W S z 4 n a0 (rulT W S p0)) := by
  have hz1 := z11 hz
  have hz0 : z = 2 ∨ z = 58 := hz
  obtain ⟨d, rfl⟩ : ∃ d1, d = d1 + 400 := ⟨d - 400, by omega⟩
  have Q0 := X0.le
  have G0 : Gq z (z + 14 + n) (z + 14 + n) c0 a0 a0 := ⟨by omega, by omega, fun _ _ _ _ _ _ => rfl, fun _ _ => rfl⟩
  refine Ev.steps (k := 3) (pc' := 5) (L' := [Vr 114, Vr ((z + 14 + n : Nat) : Int)]) (S' := [Vi (a0 114 5), Vr ((z + 14 + n : Nat) : Int)]) (h' := ((SHv st dr (z : Int)), (ovl a0 s b))) (fun _ => rfl) ?_
  rw [(X0.t5.trans (show ((tC W p0 : Nat) : Int) = 267 by omega))]
  refine Ev.putf (c' := (ovl (updC a0 (z + 14 + n) 0 267) s b)) rfl (by omega) (shRu hz (by omega)) rfl rfl (ovl_wc (by omega)) ?_
  obtain ⟨a159, ha159⟩ : ∃ x : C3, x = (updC a0 (z + 14 + n) 0 267) := ⟨_, rfl⟩
  rw [← ha159]
  have X159 := (X0.up (o := (z + 14 + n)) (i := 0) (v := 267) (by omega))
  have G159 := (G0.up (o := (z + 14 + n)) (i := 0) (v := 267) (by omega))
  rw [← ha159] at X159 G159
  have Q159 := X159.le
  have F159_0 : a159 (z + 14 + n) 0 = 267 := by
    rw [ha159]
    exact updC_sm
  refine Ev.call (k := 1) (pc1 := 9) (L1 := [Vr 114, Vr ((z + 14 + n : Nat) : Int)]) (S1 := [Vr 114]) (h1 := ((SHv st dr (z : Int)), (ovl a159 s b))) (m' := 27) (as := [Vr 114]) (S' := []) (L0 := [Vr 114, Vx, Vx, Vx, Vx]) (fun _ => rfl) rfl rfl rfl rfl rfl rfl (c_next X159.1) (fun r h' hq => ?_)
  obtain ⟨rfl, a160, rfl, hq⟩ := hq
  rcases hq with ⟨p160, hx160, ho160⟩ | ⟨e160, hx160, hb160⟩
  · have X160 := X159.nx ho160
    have L160 : p0 < p160 := X159.lt (by omega) hx160
    have G160 := G159.tr (ho160.1.gz (c := c0) X159.hz) (by omega)
    have R160 : a160 (z + 11) = a159 (z + 11) := ho160.1 _ (by omega)
    have Q160 := X160.le
    have F160_0 : a160 (z + 14 + n) 0 = 267 := (congrFun (ho160.1 _ (by omega)) 0).trans F159_0
    show Ev X _ _ 12 [Vr 114, Vr ((z + 14 + n : Nat) : Int)] [] ((SHv st dr (z : Int)), (ovl a160 s b)) _
    refine Ev.call (k := 4) (pc1 := 16) (L1 := [Vr 114, Vr ((z + 14 + n : Nat) : Int)]) (S1 := [Vi (-1), Vi 2, Vr 114, Vr ((z + 14 + n : Nat) : Int)]) (h1 := ((SHv st dr (z : Int)), (ovl a160 s b))) (m' := 38) (as := [Vr 114, Vi 2, Vi (-1)]) (S' := [Vr ((z + 14 + n : Nat) : Int)]) (L0 := [Vr 114, Vi 2, Vi (-1), Vx]) (fun _ => rfl) rfl rfl rfl rfl rfl rfl (c_asked X160.hz X160.1 (kd := 1) (q := 2) X160.2.1 (by decide) rfl (-1) rfl) (fun r h' hq => ?_)
    obtain ⟨a161, rfl, hq⟩ := hq
    rcases hq with ⟨⟨i161, p161⟩, hx161, rfl, ho161⟩ | ⟨e161, hx161, ⟨v161, rfl, hv161⟩, hb161⟩
    · have K161 := ask_ok hx161
      dsimp only at K161 ho161
      have X161 := X160.nx ho161
      have L161 : p160 < p161 := by
        rw [show p161 = tE W p160 from K161.2.2.2.2.1]
        exact tok_lt X160.le.1 X160.1.1.1 (by omega) (by omega)
      have I161 := K161.2.2.1
      have J161 := (X160.2.1 1 (by decide)).1
      have G161 := G160.tr (ho161.1.gz (c := c0) X160.hz) (by omega)
      have R161 : a161 (z + 11) = a160 (z + 11) := ho161.1 _ (by omega)
      have Q161 := X161.le
      clear K161
      have F161_0 : a161 (z + 14 + n) 0 = 267 := (congrFun (ho161.1 _ (by omega)) 0).trans F160_0
      show Ev X _ _ 19 [Vr 114, Vr ((z + 14 + n : Nat) : Int)] [Vi ((i161 : Nat) : Int), Vr ((z + 14 + n : Nat) : Int)] ((SHv st dr (z : Int)), (ovl a161 s b)) _
      refine Ev.putf (c' := (ovl (updC a161 (z + 14 + n) 1 ((i161 : Nat) : Int)) s b)) rfl (by omega) (shRu hz (by omega)) rfl rfl (ovl_wc (by omega)) ?_
      refine Ev.steps (k := 2) (pc' := 24) (L' := [Vr 114, Vr ((z + 14 + n : Nat) : Int)]) (S' := [Vi (-1), Vr ((z + 14 + n : Nat) : Int)]) (h' := ((SHv st dr (z : Int)), (ovl (updC a161 (z + 14 + n) 1 ((i161 : Nat) : Int)) s b))) (fun _ => rfl) ?_
      refine Ev.putf (c' := (ovl (updC (updC a161 (z + 14 + n) 1 ((i161 : Nat) : Int)) (z + 14 + n) 2 (-1)) s b)) rfl (by omega) (shRu hz (by omega)) rfl rfl (ovl_wc (by omega)) ?_
      refine Ev.steps (k := 2) (pc' := 29) (L' := [Vr 114, Vr ((z + 14 + n : Nat) : Int)]) (S' := [Vi (-1), Vr ((z + 14 + n : Nat) : Int)]) (h' := ((SHv st dr (z : Int)), (ovl (updC (updC a161 (z + 14 + n) 1 ((i161 : Nat) : Int)) (z + 14 + n) 2 (-1)) s b))) (fun _ => rfl) ?_
      refine Ev.putf (c' := (ovl (updC (updC (updC a161 (z + 14 + n) 1 ((i161 : Nat) : Int)) (z + 14 + n) 2 (-1)) (z + 14 + n) 3 (-1)) s b)) rfl (by omega) (shRu hz (by omega)) rfl rfl (ovl_wc (by omega)) ?_
      refine Ev.steps (k := 3) (pc' := 37) (L' := [Vr 114, Vr ((z + 14 + n : Nat) : Int)]) (S' := [Vr (z : Int), Vr ((z + 14 + n : Nat) : Int)]) (h' := ((SHv st dr (z : Int)), (ovl (updC (updC (updC a161 (z + 14 + n) 1 ((i161 : Nat) : Int)) (z + 14 + n) 2 (-1)) (z + 14 + n) 3 (-1)) s b))) (fun _ => rfl) ?_
      refine Ev.getf (v := ((c0 : Nat) : Int)) rfl rfl (by omega) (shY_0 hz) rfl rfl (((ovl_rc (by omega)).trans (by show (updC (updC (updC a161 (z + 14 + n) 1 ((i161 : Nat) : Int)) (z + 14 + n) 2 (-1)) (z + 14 + n) 3 (-1)) z 9 = _; rw [updC_nt (by omega), updC_nt (by omega), updC_nt (by omega)])).trans (X161.2.2.1)) ?_
      refine Ev.putf (c' := (ovl (updC (updC (updC (updC a161 (z + 14 + n) 1 ((i161 : Nat) : Int)) (z + 14 + n) 2 (-1)) (z + 14 + n) 3 (-1)) (z + 14 + n) 4 ((c0 : Nat) : Int)) s b)) rfl (by omega) (shRu hz (by omega)) rfl rfl (ovl_wc (by omega)) ?_
      refine Ev.steps (k := 1) (pc' := 44) (L' := [Vr 114, Vr ((z + 14 + n : Nat) : Int)]) (S' := [Vr ((z + 14 + n : Nat) : Int)]) (h' := ((SHv st dr (z : Int)), (ovl (updC (updC (updC (updC a161 (z + 14 + n) 1 ((i161 : Nat) : Int)) (z + 14 + n) 2 (-1)) (z + 14 + n) 3 (-1)) (z + 14 + n) 4 ((c0 : Nat) : Int)) s b))) (fun _ => rfl) ?_
      refine Ev.getf (v := 267) rfl rfl (by omega) (shRu hz (by omega)) rfl rfl (((ovl_rc (by omega)).trans (by show (updC (updC (updC (updC a161 (z + 14 + n) 1 ((i161 : Nat) : Int)) (z + 14 + n) 2 (-1)) (z + 14 + n) 3 (-1)) (z + 14 + n) 4 ((c0 : Nat) : Int)) (z + 14 + n) 0 = _; rw [updC_nt (by omega), updC_nt (by omega), updC_nt (by omega), updC_nt (by omega)])).trans (F161_0)) ?_
      refine Ev.steps (k := 5) (pc' := 121) (L' := [Vr 114, Vr ((z + 14 + n : Nat) : Int)]) (S' := [Vr ((z + 14 + n : Nat) : Int), Vi 2, Vr 114, Vr ((z + 14 + n : Nat) : Int)]) (h' := ((SHv st dr (z : Int)), (ovl (updC (updC (updC (updC a161 (z + 14 + n) 1 ((i161 : Nat) : Int)) (z + 14 + n) 2 (-1)) (z + 14 + n) 3 (-1)) (z + 14 + n) 4 ((c0 : Nat) : Int)) s b))) (fun _ => rfl) ?_
      refine Ev.getf (v := ((i161 : Nat) : Int)) rfl rfl (by omega) (shRu hz (by omega)) rfl rfl ((ovl_rc (by omega)).trans (by show (updC (updC (updC (updC a161 (z + 14 + n) 1 ((i161 : Nat) : Int)) (z + 14 + n) 2 (-1)) (z + 14 + n) 3 (-1)) (z + 14 + n) 4 ((c0 : Nat) : Int)) (z + 14 + n) 1 = _; rw [updC_nt (by omega), updC_nt (by omega), updC_nt (by omega), updC_sm])) ?_
      obtain ⟨a162, ha162⟩ : ∃ x : C3, x = (updC (updC (updC (updC a161 (z + 14 + n) 1 ((i161 : Nat) : Int)) (z + 14 + n) 2 (-1)) (z + 14 + n) 3 (-1)) (z + 14 + n) 4 ((c0 : Nat) : Int)) := ⟨_, rfl⟩
      rw [← ha162]
      have X162 := ((((X161.up (o := (z + 14 + n)) (i := 1) (v := ((i161 : Nat) : Int)) (by omega)).up (o := (z + 14 + n)) (i := 2) (v := (-1)) (by omega)).up (o := (z + 14 + n)) (i := 3) (v := (-1)) (by omega)).up (o := (z + 14 + n)) (i := 4) (v := ((c0 : Nat) : Int)) (by omega))
      have G162 := ((((G161.up (o := (z + 14 + n)) (i := 1) (v := ((i161 : Nat) : Int)) (by omega)).up (o := (z + 14 + n)) (i := 2) (v := (-1)) (by omega)).up (o := (z + 14 + n)) (i := 3) (v := (-1)) (by omega)).up (o := (z + 14 + n)) (i := 4) (v := ((c0 : Nat) : Int)) (by omega))
      rw [← ha162] at X162 G162
      have Q162 := X162.le
      have F162_0 : a162 (z + 14 + n) 0 = 267 := by
        rw [ha162]
        exact (updC_nt (by omega)).trans <| (updC_nt (by omega)).trans <| (updC_nt (by omega)).trans <| (updC_nt (by omega)).trans <| F161_0
      have F162_1 : a162 (z + 14 + n) 1 = ((i161 : Nat) : Int) := by
        rw [ha162]
        exact (updC_nt (by omega)).trans <| (updC_nt (by omega)).trans <| (updC_nt (by omega)).trans <| updC_sm
      have F162_2 : a162 (z + 14 + n) 2 = (-1) := by
        rw [ha162]
        exact (updC_nt (by omega)).trans <| (updC_nt (by omega)).trans <| updC_sm
      have F162_3 : a162 (z + 14 + n) 3 = (-1) := by
        rw [ha162]
        exact (updC_nt (by omega)).trans <| updC_sm
      have F162_4 : a162 (z + 14 + n) 4 = ((c0 : Nat) : Int) := by
        rw [ha162]
        exact updC_sm
      refine Ev.call (k := 0) (pc1 := 124) (L1 := [Vr 114, Vr ((z + 14 + n : Nat) : Int)]) (S1 := [Vi ((i161 : Nat) : Int), Vi 2, Vr 114, Vr ((z + 14 + n : Nat) : Int)]) (h1 := ((SHv st dr (z : Int)), (ovl a162 s b))) (m' := 38) (as := [Vr 114, Vi 2, Vi ((i161 : Nat) : Int)]) (S' := [Vr ((z + 14 + n : Nat) : Int)]) (L0 := [Vr 114, Vi 2, Vi ((i161 : Nat) : Int), Vx]) (fun _ => rfl) rfl rfl rfl rfl rfl rfl (c_asked X162.hz X162.1 (kd := 1) (q := 2) X162.2.1 (by decide) rfl ((i161 : Nat) : Int) rfl) (fun r h' hq => ?_)
      obtain ⟨a163, rfl, hq⟩ := hq
      rcases hq with ⟨⟨i163, p163⟩, hx163, rfl, ho163⟩ | ⟨e163, hx163, ⟨v163, rfl, hv163⟩, hb163⟩
      · have K163 := ask_ok hx163
        dsimp only at K163 ho163
        have X163 := X162.nx ho163
        have L163 : p161 < p163 := by
          rw [show p163 = tE W p161 from K163.2.2.2.2.1]
          exact tok_lt X162.le.1 X162.1.1.1 (by omega) (by omega)
        have I163 := K163.2.2.1
        have J163 := (X162.2.1 1 (by decide)).1
        have G163 := G162.tr (ho163.1.gz (c := c0) X162.hz) (by omega)
        have R163 : a163 (z + 11) = a162 (z + 11) := ho163.1 _ (by omega)
        have Q163 := X163.le
        clear K163
        have F163_0 : a163 (z + 14 + n) 0 = 267 := (congrFun (ho163.1 _ (by omega)) 0).trans F162_0
        have F163_1 : a163 (z + 14 + n) 1 = ((i161 : Nat) : Int) := (congrFun (ho163.1 _ (by omega)) 1).trans F162_1
        have F163_2 : a163 (z + 14 + n) 2 = (-1) := (congrFun (ho163.1 _ (by omega)) 2).trans F162_2
        have F163_3 : a163 (z + 14 + n) 3 = (-1) := (congrFun (ho163.1 _ (by omega)) 3).trans F162_3
        have F163_4 : a163 (z + 14 + n) 4 = ((c0 : Nat) : Int) := (congrFun (ho163.1 _ (by omega)) 4).trans F162_4
        show Ev X _ _ 127 [Vr 114, Vr ((z + 14 + n : Nat) : Int)] [Vi ((i163 : Nat) : Int), Vr ((z + 14 + n : Nat) : Int)] ((SHv st dr (z : Int)), (ovl a163 s b)) _
        refine Ev.putf (c' := (ovl (updC a163 (z + 14 + n) 3 ((i163 : Nat) : Int)) s b)) rfl (by omega) (shRu hz (by omega)) rfl rfl (ovl_wc (by omega)) ?_
        obtain ⟨a164, ha164⟩ : ∃ x : C3, x = (updC a163 (z + 14 + n) 3 ((i163 : Nat) : Int)) := ⟨_, rfl⟩
        rw [← ha164]
        have X164 := (X163.up (o := (z + 14 + n)) (i := 3) (v := ((i163 : Nat) : Int)) (by omega))
        have G164 := (G163.up (o := (z + 14 + n)) (i := 3) (v := ((i163 : Nat) : Int)) (by omega))
        rw [← ha164] at X164 G164
        have Q164 := X164.le
        have F164_0 : a164 (z + 14 + n) 0 = 267 := by
          rw [ha164]
          exact (updC_nt (by omega)).trans <| F163_0
        have F164_1 : a164 (z + 14 + n) 1 = ((i161 : Nat) : Int) := by
          rw [ha164]
          exact (updC_nt (by omega)).trans <| F163_1
        have F164_2 : a164 (z + 14 + n) 2 = (-1) := by
          rw [ha164]
          exact (updC_nt (by omega)).trans <| F163_2
        have F164_3 : a164 (z + 14 + n) 3 = ((i163 : Nat) : Int) := by
          rw [ha164]
          exact updC_sm
        have F164_4 : a164 (z + 14 + n) 4 = ((c0 : Nat) : Int) := by
          rw [ha164]
          exact (updC_nt (by omega)).trans <| F163_4
        refine Ev.call (k := 4) (pc1 := 134) (L1 := [Vr 114, Vr ((z + 14 + n : Nat) : Int)]) (S1 := [Vi (-1), Vi 3, Vr 114, Vr ((z + 14 + n : Nat) : Int)]) (h1 := ((SHv st dr (z : Int)), (ovl a164 s b))) (m' := 38) (as := [Vr 114, Vi 3, Vi (-1)]) (S' := [Vr ((z + 14 + n : Nat) : Int)]) (L0 := [Vr 114, Vi 3, Vi (-1), Vx]) (fun _ => rfl) rfl rfl rfl rfl rfl rfl (c_asked X164.hz X164.1 (kd := 2) (q := 3) X164.2.1 (by decide) rfl (-1) rfl) (fun r h' hq => ?_)
        obtain ⟨a165, rfl, hq⟩ := hq
        rcases hq with ⟨⟨i165, p165⟩, hx165, rfl, ho165⟩ | ⟨e165, hx165, ⟨v165, rfl, hv165⟩, hb165⟩
        · have K165 := ask_ok hx165
          dsimp only at K165 ho165
          have X165 := X164.nx ho165
          have L165 : p163 < p165 := by
            rw [show p165 = tE W p163 from K165.2.2.2.2.1]
            exact tok_lt X164.le.1 X164.1.1.1 (by omega) (by omega)
          have I165 := K165.2.2.1
          have J165 := (X164.2.1 2 (by decide)).1
          have G165 := G164.tr (ho165.1.gz (c := c0) X164.hz) (by omega)
          have R165 : a165 (z + 11) = a164 (z + 11) := ho165.1 _ (by omega)
          have Q165 := X165.le
          clear K165
          have F165_0 : a165 (z + 14 + n) 0 = 267 := (congrFun (ho165.1 _ (by omega)) 0).trans F164_0
          have F165_1 : a165 (z + 14 + n) 1 = ((i161 : Nat) : Int) := (congrFun (ho165.1 _ (by omega)) 1).trans F164_1
          have F165_2 : a165 (z + 14 + n) 2 = (-1) := (congrFun (ho165.1 _ (by omega)) 2).trans F164_2
          have F165_3 : a165 (z + 14 + n) 3 = ((i163 : Nat) : Int) := (congrFun (ho165.1 _ (by omega)) 3).trans F164_3
          have F165_4 : a165 (z + 14 + n) 4 = ((c0 : Nat) : Int) := (congrFun (ho165.1 _ (by omega)) 4).trans F164_4
          show Ev X _ _ 137 [Vr 114, Vr ((z + 14 + n : Nat) : Int)] [Vi ((i165 : Nat) : Int), Vr ((z + 14 + n : Nat) : Int)] ((SHv st dr (z : Int)), (ovl a165 s b)) _
          refine Ev.putf (c' := (ovl (updC a165 (z + 14 + n) 2 ((i165 : Nat) : Int)) s b)) rfl (by omega) (shRu hz (by omega)) rfl rfl (ovl_wc (by omega)) ?_
          obtain ⟨a166, ha166⟩ : ∃ x : C3, x = (updC a165 (z + 14 + n) 2 ((i165 : Nat) : Int)) := ⟨_, rfl⟩
          rw [← ha166]
          have X166 := (X165.up (o := (z + 14 + n)) (i := 2) (v := ((i165 : Nat) : Int)) (by omega))
          have G166 := (G165.up (o := (z + 14 + n)) (i := 2) (v := ((i165 : Nat) : Int)) (by omega))
          rw [← ha166] at X166 G166
          have Q166 := X166.le
          have F166_0 : a166 (z + 14 + n) 0 = 267 := by
            rw [ha166]
            exact (updC_nt (by omega)).trans <| F165_0
          have F166_1 : a166 (z + 14 + n) 1 = ((i161 : Nat) : Int) := by
            rw [ha166]
            exact (updC_nt (by omega)).trans <| F165_1
          have F166_2 : a166 (z + 14 + n) 2 = ((i165 : Nat) : Int) := by
            rw [ha166]
            exact updC_sm
          have F166_3 : a166 (z + 14 + n) 3 = ((i163 : Nat) : Int) := by
            rw [ha166]
            exact (updC_nt (by omega)).trans <| F165_3
          have F166_4 : a166 (z + 14 + n) 4 = ((c0 : Nat) : Int) := by
            rw [ha166]
            exact (updC_nt (by omega)).trans <| F165_4
          refine Ev.call (k := 3) (pc1 := 147) (L1 := [Vr 114, Vr ((z + 14 + n : Nat) : Int)]) (S1 := [Vi 268, Vr 114]) (h1 := ((SHv st dr (z : Int)), (ovl a166 s b))) (m' := 42) (as := [Vr 114, Vi 268]) (S' := []) (L0 := [Vr 114, Vi 268]) (fun _ => rfl) rfl rfl rfl rfl rfl rfl (c_expect X166.1 268) (fun r h' hq => ?_)
          obtain ⟨rfl, a167, rfl, hq⟩ := hq
          rcases hq with ⟨p167, hx167, ho167⟩ | ⟨e167, hx167, hb167⟩
          · have X167 := X166.nx ho167
            have L167 : p165 < p167 := by
              obtain ⟨h1, h2⟩ := exp_ok hx167
              exact X166.lt (by omega) (by unfold expT at hx167; rwa [if_neg (by omega)] at hx167)
            have G167 := G166.tr (ho167.1.gz (c := c0) X166.hz) (by omega)
            have R167 : a167 (z + 11) = a166 (z + 11) := ho167.1 _ (by omega)
            have Q167 := X167.le
            have F167_0 : a167 (z + 14 + n) 0 = 267 := (congrFun (ho167.1 _ (by omega)) 0).trans F166_0
            have F167_1 : a167 (z + 14 + n) 1 = ((i161 : Nat) : Int) := (congrFun (ho167.1 _ (by omega)) 1).trans F166_1
            have F167_2 : a167 (z + 14 + n) 2 = ((i165 : Nat) : Int) := (congrFun (ho167.1 _ (by omega)) 2).trans F166_2
            have F167_3 : a167 (z + 14 + n) 3 = ((i163 : Nat) : Int) := (congrFun (ho167.1 _ (by omega)) 3).trans F166_3
            have F167_4 : a167 (z + 14 + n) 4 = ((c0 : Nat) : Int) := (congrFun (ho167.1 _ (by omega)) 4).trans F166_4
            show Ev X _ _ 150 [Vr 114, Vr ((z + 14 + n : Nat) : Int)] [] ((SHv st dr (z : Int)), (ovl a167 s b)) _
            refine Ev.steps (k := 3) (pc' := 155) (L' := [Vr 114, Vr ((z + 14 + n : Nat) : Int)]) (S' := [Vr (z : Int), Vr ((z + 14 + n : Nat) : Int)]) (h' := ((SHv st dr (z : Int)), (ovl a167 s b))) (fun _ => rfl) ?_
            refine Ev.getf (v := ((c0 : Nat) : Int)) rfl rfl (by omega) (shY_0 hz) rfl rfl ((ovl_rc (by omega)).trans (X167.2.2.1)) ?_
            refine Ev.putf (c' := (ovl (updC a167 (z + 14 + n) 5 ((c0 : Nat) : Int)) s b)) rfl (by omega) (shRu hz (by omega)) rfl rfl (ovl_wc (by omega)) ?_
            obtain ⟨a168, ha168⟩ : ∃ x : C3, x = (updC a167 (z + 14 + n) 5 ((c0 : Nat) : Int)) := ⟨_, rfl⟩
            rw [← ha168]
            have X168 := (X167.up (o := (z + 14 + n)) (i := 5) (v := ((c0 : Nat) : Int)) (by omega))
            have G168 := (G167.up (o := (z + 14 + n)) (i := 5) (v := ((c0 : Nat) : Int)) (by omega))
            rw [← ha168] at X168 G168
            have Q168 := X168.le
            have F168_0 : a168 (z + 14 + n) 0 = 267 := by
              rw [ha168]
              exact (updC_nt (by omega)).trans <| F167_0
            have F168_1 : a168 (z + 14 + n) 1 = ((i161 : Nat) : Int) := by
              rw [ha168]
              exact (updC_nt (by omega)).trans <| F167_1
            have F168_2 : a168 (z + 14 + n) 2 = ((i165 : Nat) : Int) := by
              rw [ha168]
              exact (updC_nt (by omega)).trans <| F167_2
            have F168_3 : a168 (z + 14 + n) 3 = ((i163 : Nat) : Int) := by
              rw [ha168]
              exact (updC_nt (by omega)).trans <| F167_3
            have F168_4 : a168 (z + 14 + n) 4 = ((c0 : Nat) : Int) := by
              rw [ha168]
              exact (updC_nt (by omega)).trans <| F167_4
            have F168_5 : a168 (z + 14 + n) 5 = ((c0 : Nat) : Int) := by
              rw [ha168]
              exact updC_sm
            refine Ev.call (k := 1) (pc1 := 162) (L1 := [Vr 114, Vr ((z + 14 + n : Nat) : Int)]) (S1 := [Vr 114]) (h1 := ((SHv st dr (z : Int)), (ovl a168 s b))) (m' := 52) (as := [Vr 114]) (S' := []) (L0 := [Vr 114, Vx, Vx]) (fun _ => rfl) rfl rfl rfl rfl rfl rfl (c_tstT hz 8 _ _ _ _ (by omega) X168 (by omega)) (fun r h' hq => ?_)
            obtain ⟨rfl, a170, rfl, hq⟩ := hq
            rcases hq with ⟨⟨l170, p170⟩, hx170, c170, X170, g170, o170, h170⟩ | ⟨e170, hx170, hb170⟩
            · dsimp only at h170 X170 o170
              have L170 := o170.lt
              have G170 := G168.tr g170 (by omega)
              have Q170 := X170.le
              have F170_0 : a170 (z + 14 + n) 0 = 267 := (congrFun (g170.1 _ (by omega) (by omega) (by omega)) 0).trans F168_0
              have F170_1 : a170 (z + 14 + n) 1 = ((i161 : Nat) : Int) := (congrFun (g170.1 _ (by omega) (by omega) (by omega)) 1).trans F168_1
              have F170_2 : a170 (z + 14 + n) 2 = ((i165 : Nat) : Int) := (congrFun (g170.1 _ (by omega) (by omega) (by omega)) 2).trans F168_2
              have F170_3 : a170 (z + 14 + n) 3 = ((i163 : Nat) : Int) := (congrFun (g170.1 _ (by omega) (by omega) (by omega)) 3).trans F168_3
              have F170_4 : a170 (z + 14 + n) 4 = ((c0 : Nat) : Int) := (congrFun (g170.1 _ (by omega) (by omega) (by omega)) 4).trans F168_4
              have F170_5 : a170 (z + 14 + n) 5 = ((c0 : Nat) : Int) := (congrFun (g170.1 _ (by omega) (by omega) (by omega)) 5).trans F168_5
              show Ev X _ _ 165 [Vr 114, Vr ((z + 14 + n : Nat) : Int)] [] ((SHv st dr (z : Int)), (ovl a170 s b)) _
              refine Ev.steps (k := 3) (pc' := 170) (L' := [Vr 114, Vr ((z + 14 + n : Nat) : Int)]) (S' := [Vr (z : Int), Vr ((z + 14 + n : Nat) : Int)]) (h' := ((SHv st dr (z : Int)), (ovl a170 s b))) (fun _ => rfl) ?_
              refine Ev.getf (v := ((c170 : Nat) : Int)) rfl rfl (by omega) (shY_0 hz) rfl rfl ((ovl_rc (by omega)).trans (X170.2.2.1)) ?_
              refine Ev.putf (c' := (ovl (updC a170 (z + 14 + n) 6 ((c170 : Nat) : Int)) s b)) rfl (by omega) (shRu hz (by omega)) rfl rfl (ovl_wc (by omega)) ?_
              refine Ev.fin (k := 1) (r := none) (h' := ((SHv st dr (z : Int)), (ovl (updC a170 (z + 14 + n) 6 ((c170 : Nat) : Int)) s b))) (fun _ => rfl) ?_
              obtain ⟨a171, ha171⟩ : ∃ x : C3, x = (updC a170 (z + 14 + n) 6 ((c170 : Nat) : Int)) := ⟨_, rfl⟩
              rw [← ha171]
              have X171 := (X170.up (o := (z + 14 + n)) (i := 6) (v := ((c170 : Nat) : Int)) (by omega))
              have G171 := (G170.up (o := (z + 14 + n)) (i := 6) (v := ((c170 : Nat) : Int)) (by omega))
              rw [← ha171] at X171 G171
              have Q171 := X171.le
              have F171_0 : a171 (z + 14 + n) 0 = 267 := by
                rw [ha171]
                exact (updC_nt (by omega)).trans <| F170_0
              have F171_1 : a171 (z + 14 + n) 1 = ((i161 : Nat) : Int) := by
                rw [ha171]
                exact (updC_nt (by omega)).trans <| F170_1
              have F171_2 : a171 (z + 14 + n) 2 = ((i165 : Nat) : Int) := by
                rw [ha171]
                exact (updC_nt (by omega)).trans <| F170_2
              have F171_3 : a171 (z + 14 + n) 3 = ((i163 : Nat) : Int) := by
                rw [ha171]
                exact (updC_nt (by omega)).trans <| F170_3
              have F171_4 : a171 (z + 14 + n) 4 = ((c0 : Nat) : Int) := by
                rw [ha171]
                exact (updC_nt (by omega)).trans <| F170_4
              have F171_5 : a171 (z + 14 + n) 5 = ((c0 : Nat) : Int) := by
                rw [ha171]
                exact (updC_nt (by omega)).trans <| F170_5
              have F171_6 : a171 (z + 14 + n) 6 = ((c170 : Nat) : Int) := by
                rw [ha171]
                exact updC_sm
              refine ⟨rfl, _, rfl, ?_⟩
              unfold rulT
              rw [hx160, bnX_o, hx161, bnX_o]
              have eA : argT W S.1 (tC W p0) i161 p161 = bnX (askT W S.1 1 ((i161 : Nat) : Int) p161) (fun r => bnX (askT W S.1 2 (-1) r.2) (fun r1 => .ok ((((r.1 : Nat) : Int), ((r1.1 : Nat) : Int), []), r1.2))) := by rw [hlit]; rfl
              try dsimp only
              rw [eA, hx163, bnX_o, hx165, bnX_o]
              rw [bnX_o]
              try dsimp only
              rw [hx167, bnX_o, hx170, bnX_o]
              refine Or.inl ⟨_, rfl, c170, X171, by dsimp only; omega, G171.fs, fun a2 h1 h2 => ?_⟩
              dsimp only
              have hq := h1 (z + 14 + n) (by omega) (by omega) (by omega)
              have h11 := h1 (z + 11) (by omega) (by omega) (by omega)
              have ekd : tC W p0 - 262 = 5 := by omega
              refine P0.rule (k0 := (c0)) (k1 := (c0)) hn0 h8 hC (by omega) (fun o o1 o2 o3 o4 o5 => (h1 o o1 o2 o3).trans (G171.2.2.1 o (by omega) (by omega) o4 o5 o5)) (fun j hj => (congrFun h11 j).trans (G171.2.2.2 j hj)) (fun i => ?_) ?_ ?_ ?_ ?_ ?_ ?_ ?_ (by omega) ?_ ?_
              · rw [h2, congrFun (G171.2.2.1 (z + 1) (by omega) (by omega) (by omega) (by omega) (by omega)) i]
              · rw [hq, F171_0, ekd]; rfl
              · rw [hq, F171_1]
              · intro g; omega
              · intro _; rw [hq]; exact ⟨F171_3, F171_2⟩
              · rw [hq, F171_4]
              · rw [hq, F171_5]
              · rw [hq, F171_6]
              · rw [h11, show a171 (z + 11) = a170 (z + 11) by rw [ha171, updC_row (by omega)]]
                exact o170.mo (by omega)
              · intro g; omega
            · have B170 := G168.bz hb170
              show Ev X _ _ 165 [Vr 114, Vr ((z + 14 + n : Nat) : Int)] [] ((SHv st dr (z : Int)), (ovl a170 s b)) _
              refine Ev.steps (k := 3) (pc' := 170) (L' := [Vr 114, Vr ((z + 14 + n : Nat) : Int)]) (S' := [Vr (z : Int), Vr ((z + 14 + n : Nat) : Int)]) (h' := ((SHv st dr (z : Int)), (ovl a170 s b))) (fun _ => rfl) ?_
              refine Ev.getf (v := (a170 z 9)) rfl rfl (by omega) (shY_0 hz) rfl rfl (ovl_rc (by omega)) ?_
              refine Ev.putf (c' := (ovl (updC a170 (z + 14 + n) 6 (a170 z 9)) s b)) rfl (by omega) (shRu hz (by omega)) rfl rfl (ovl_wc (by omega)) ?_
              refine Ev.fin (k := 1) (r := none) (h' := ((SHv st dr (z : Int)), (ovl (updC a170 (z + 14 + n) 6 (a170 z 9)) s b))) (fun _ => rfl) ?_
              obtain ⟨a172, ha172⟩ : ∃ x : C3, x = (updC a170 (z + 14 + n) 6 (a170 z 9)) := ⟨_, rfl⟩
              rw [← ha172]
              have B172 := (B170.up (o := (z + 14 + n)) (i := 6) (v := (a170 z 9)) hz (by omega))
              rw [← ha172] at B172
              refine ⟨rfl, _, rfl, ?_⟩
              unfold rulT
              rw [hx160, bnX_o, hx161, bnX_o]
              have eA : argT W S.1 (tC W p0) i161 p161 = bnX (askT W S.1 1 ((i161 : Nat) : Int) p161) (fun r => bnX (askT W S.1 2 (-1) r.2) (fun r1 => .ok ((((r.1 : Nat) : Int), ((r1.1 : Nat) : Int), []), r1.2))) := by rw [hlit]; rfl
              try dsimp only
              rw [eA, hx163, bnX_o, hx165, bnX_o]
              rw [bnX_o]
              try dsimp only
              rw [hx167, bnX_o, hx170, bnX_e]
              exact Or.inr ⟨_, rfl, B172⟩
          · have B167 := G166.bd X166 (by omega) hb167
            show Ev X _ _ 150 [Vr 114, Vr ((z + 14 + n : Nat) : Int)] [] ((SHv st dr (z : Int)), (ovl a167 s b)) _
            refine Ev.steps (k := 3) (pc' := 155) (L' := [Vr 114, Vr ((z + 14 + n : Nat) : Int)]) (S' := [Vr (z : Int), Vr ((z + 14 + n : Nat) : Int)]) (h' := ((SHv st dr (z : Int)), (ovl a167 s b))) (fun _ => rfl) ?_
            refine Ev.getf (v := (a167 z 9)) rfl rfl (by omega) (shY_0 hz) rfl rfl (ovl_rc (by omega)) ?_
            refine Ev.putf (c' := (ovl (updC a167 (z + 14 + n) 5 (a167 z 9)) s b)) rfl (by omega) (shRu hz (by omega)) rfl rfl (ovl_wc (by omega)) ?_
            obtain ⟨a173, ha173⟩ : ∃ x : C3, x = (updC a167 (z + 14 + n) 5 (a167 z 9)) := ⟨_, rfl⟩
            rw [← ha173]
            have B173 := (B167.up (o := (z + 14 + n)) (i := 5) (v := (a167 z 9)) hz (by omega))
            rw [← ha173] at B173
            refine Ev.call (k := 1) (pc1 := 162) (L1 := [Vr 114, Vr ((z + 14 + n : Nat) : Int)]) (S1 := [Vr 114]) (h1 := ((SHv st dr (z : Int)), (ovl a173 s b))) (m' := 52) (as := [Vr 114]) (S' := []) (L0 := [Vr 114, Vx, Vx]) (fun _ => rfl) rfl rfl rfl rfl rfl rfl (c_test_br hz B173.z) (fun r h' hq => ?_)
            obtain ⟨rfl, a174, rfl, hb174⟩ := hq
            have B174 := B173.tz hb174
            show Ev X _ _ 165 [Vr 114, Vr ((z + 14 + n : Nat) : Int)] [] ((SHv st dr (z : Int)), (ovl a174 s b)) _
            refine Ev.steps (k := 3) (pc' := 170) (L' := [Vr 114, Vr ((z + 14 + n : Nat) : Int)]) (S' := [Vr (z : Int), Vr ((z + 14 + n : Nat) : Int)]) (h' := ((SHv st dr (z : Int)), (ovl a174 s b))) (fun _ => rfl) ?_
            refine Ev.getf (v := (a174 z 9)) rfl rfl (by omega) (shY_0 hz) rfl rfl (ovl_rc (by omega)) ?_
            refine Ev.putf (c' := (ovl (updC a174 (z + 14 + n) 6 (a174 z 9)) s b)) rfl (by omega) (shRu hz (by omega)) rfl rfl (ovl_wc (by omega)) ?_
            refine Ev.fin (k := 1) (r := none) (h' := ((SHv st dr (z : Int)), (ovl (updC a174 (z + 14 + n) 6 (a174 z 9)) s b))) (fun _ => rfl) ?_
            obtain ⟨a175, ha175⟩ : ∃ x : C3, x = (updC a174 (z + 14 + n) 6 (a174 z 9)) := ⟨_, rfl⟩
            rw [← ha175]
            have B175 := (B174.up (o := (z + 14 + n)) (i := 6) (v := (a174 z 9)) hz (by omega))
            rw [← ha175] at B175
            refine ⟨rfl, _, rfl, ?_⟩
            unfold rulT
            rw [hx160, bnX_o, hx161, bnX_o]
            have eA : argT W S.1 (tC W p0) i161 p161 = bnX (askT W S.1 1 ((i161 : Nat) : Int) p161) (fun r => bnX (askT W S.1 2 (-1) r.2) (fun r1 => .ok ((((r.1 : Nat) : Int), ((r1.1 : Nat) : Int), []), r1.2))) := by rw [hlit]; rfl
            try dsimp only
            rw [eA, hx163, bnX_o, hx165, bnX_o]
            rw [bnX_o]
            try dsimp only
            rw [hx167, bnX_e]
            exact Or.inr ⟨_, rfl, B175⟩
        · have B165 := G164.bd X164 (by omega) hb165
          have F165_0 : a165 (z + 14 + n) 0 = 267 := (congrFun (hb165.1 _ (by omega)) 0).trans F164_0
          show Ev X _ _ 137 [Vr 114, Vr ((z + 14 + n : Nat) : Int)] [Vi v165, Vr ((z + 14 + n : Nat) : Int)] ((SHv st dr (z : Int)), (ovl a165 s b)) _
          refine Ev.putf (c' := (ovl (updC a165 (z + 14 + n) 2 v165) s b)) rfl (by omega) (shRu hz (by omega)) rfl rfl (ovl_wc (by omega)) ?_
          obtain ⟨a176, ha176⟩ : ∃ x : C3, x = (updC a165 (z + 14 + n) 2 v165) := ⟨_, rfl⟩
          rw [← ha176]
          have B176 := (B165.up (o := (z + 14 + n)) (i := 2) (v := v165) hz (by omega))
          rw [← ha176] at B176
          have F176_0 : a176 (z + 14 + n) 0 = 267 := by
            rw [ha176]
            exact (updC_nt (by omega)).trans <| F165_0
          refine Ev.call (k := 3) (pc1 := 147) (L1 := [Vr 114, Vr ((z + 14 + n : Nat) : Int)]) (S1 := [Vi 268, Vr 114]) (h1 := ((SHv st dr (z : Int)), (ovl a176 s b))) (m' := 42) (as := [Vr 114, Vi 268]) (S' := []) (L0 := [Vr 114, Vi 268]) (fun _ => rfl) rfl rfl rfl rfl rfl rfl (c_expect_br B176.2.2.1 268 (by decide)) (fun r h' hq => ?_)
          obtain ⟨rfl, rfl⟩ := hq
          show Ev X _ _ 150 [Vr 114, Vr ((z + 14 + n : Nat) : Int)] [] ((SHv st dr (z : Int)), (ovl a176 s b)) _
          refine Ev.steps (k := 3) (pc' := 155) (L' := [Vr 114, Vr ((z + 14 + n : Nat) : Int)]) (S' := [Vr (z : Int), Vr ((z + 14 + n : Nat) : Int)]) (h' := ((SHv st dr (z : Int)), (ovl a176 s b))) (fun _ => rfl) ?_
          refine Ev.getf (v := (a176 z 9)) rfl rfl (by omega) (shY_0 hz) rfl rfl (ovl_rc (by omega)) ?_
          refine Ev.putf (c' := (ovl (updC a176 (z + 14 + n) 5 (a176 z 9)) s b)) rfl (by omega) (shRu hz (by omega)) rfl rfl (ovl_wc (by omega)) ?_
          obtain ⟨a177, ha177⟩ : ∃ x : C3, x = (updC a176 (z + 14 + n) 5 (a176 z 9)) := ⟨_, rfl⟩
          rw [← ha177]
          have B177 := (B176.up (o := (z + 14 + n)) (i := 5) (v := (a176 z 9)) hz (by omega))
          rw [← ha177] at B177
          have F177_0 : a177 (z + 14 + n) 0 = 267 := by
            rw [ha177]
            exact (updC_nt (by omega)).trans <| F176_0
          refine Ev.call (k := 1) (pc1 := 162) (L1 := [Vr 114, Vr ((z + 14 + n : Nat) : Int)]) (S1 := [Vr 114]) (h1 := ((SHv st dr (z : Int)), (ovl a177 s b))) (m' := 52) (as := [Vr 114]) (S' := []) (L0 := [Vr 114, Vx, Vx]) (fun _ => rfl) rfl rfl rfl rfl rfl rfl (c_test_br hz B177.z) (fun r h' hq => ?_)
          obtain ⟨rfl, a178, rfl, hb178⟩ := hq
          have B178 := B177.tz hb178
          show Ev X _ _ 165 [Vr 114, Vr ((z + 14 + n : Nat) : Int)] [] ((SHv st dr (z : Int)), (ovl a178 s b)) _
          refine Ev.steps (k := 3) (pc' := 170) (L' := [Vr 114, Vr ((z + 14 + n : Nat) : Int)]) (S' := [Vr (z : Int), Vr ((z + 14 + n : Nat) : Int)]) (h' := ((SHv st dr (z : Int)), (ovl a178 s b))) (fun _ => rfl) ?_
          refine Ev.getf (v := (a178 z 9)) rfl rfl (by omega) (shY_0 hz) rfl rfl (ovl_rc (by omega)) ?_
          refine Ev.putf (c' := (ovl (updC a178 (z + 14 + n) 6 (a178 z 9)) s b)) rfl (by omega) (shRu hz (by omega)) rfl rfl (ovl_wc (by omega)) ?_
          refine Ev.fin (k := 1) (r := none) (h' := ((SHv st dr (z : Int)), (ovl (updC a178 (z + 14 + n) 6 (a178 z 9)) s b))) (fun _ => rfl) ?_
          obtain ⟨a179, ha179⟩ : ∃ x : C3, x = (updC a178 (z + 14 + n) 6 (a178 z 9)) := ⟨_, rfl⟩
          rw [← ha179]
          have B179 := (B178.up (o := (z + 14 + n)) (i := 6) (v := (a178 z 9)) hz (by omega))
          rw [← ha179] at B179
          refine ⟨rfl, _, rfl, ?_⟩
          unfold rulT
          rw [hx160, bnX_o, hx161, bnX_o]
          have eA : argT W S.1 (tC W p0) i161 p161 = bnX (askT W S.1 1 ((i161 : Nat) : Int) p161) (fun r => bnX (askT W S.1 2 (-1) r.2) (fun r1 => .ok ((((r.1 : Nat) : Int), ((r1.1 : Nat) : Int), []), r1.2))) := by rw [hlit]; rfl
          try dsimp only
          rw [eA, hx163, bnX_o, hx165, bnX_e]
          rw [bnX_e]
          exact Or.inr ⟨_, rfl, B179⟩
      · have B163 := G162.bd X162 (by omega) hb163
        have F163_0 : a163 (z + 14 + n) 0 = 267 := (congrFun (hb163.1 _ (by omega)) 0).trans F162_0
        show Ev X _ _ 127 [Vr 114, Vr ((z + 14 + n : Nat) : Int)] [Vi v163, Vr ((z + 14 + n : Nat) : Int)] ((SHv st dr (z : Int)), (ovl a163 s b)) _
        refine Ev.putf (c' := (ovl (updC a163 (z + 14 + n) 3 v163) s b)) rfl (by omega) (shRu hz (by omega)) rfl rfl (ovl_wc (by omega)) ?_
        obtain ⟨a180, ha180⟩ : ∃ x : C3, x = (updC a163 (z + 14 + n) 3 v163) := ⟨_, rfl⟩
        rw [← ha180]
        have B180 := (B163.up (o := (z + 14 + n)) (i := 3) (v := v163) hz (by omega))
        rw [← ha180] at B180
        have F180_0 : a180 (z + 14 + n) 0 = 267 := by
          rw [ha180]
          exact (updC_nt (by omega)).trans <| F163_0
        refine Ev.call (k := 4) (pc1 := 134) (L1 := [Vr 114, Vr ((z + 14 + n : Nat) : Int)]) (S1 := [Vi (-1), Vi 3, Vr 114, Vr ((z + 14 + n : Nat) : Int)]) (h1 := ((SHv st dr (z : Int)), (ovl a180 s b))) (m' := 38) (as := [Vr 114, Vi 3, Vi (-1)]) (S' := [Vr ((z + 14 + n : Nat) : Int)]) (L0 := [Vr 114, Vi 3, Vi (-1), Vx]) (fun _ => rfl) rfl rfl rfl rfl rfl rfl (c_asked_br B180.2.2.1 3 (-1)) (fun r h' hq => ?_)
        obtain ⟨rfl, rfl⟩ := hq
        show Ev X _ _ 137 [Vr 114, Vr ((z + 14 + n : Nat) : Int)] [Vi (-1), Vr ((z + 14 + n : Nat) : Int)] ((SHv st dr (z : Int)), (ovl a180 s b)) _
        refine Ev.putf (c' := (ovl (updC a180 (z + 14 + n) 2 (-1)) s b)) rfl (by omega) (shRu hz (by omega)) rfl rfl (ovl_wc (by omega)) ?_
        obtain ⟨a181, ha181⟩ : ∃ x : C3, x = (updC a180 (z + 14 + n) 2 (-1)) := ⟨_, rfl⟩
        rw [← ha181]
        have B181 := (B180.up (o := (z + 14 + n)) (i := 2) (v := (-1)) hz (by omega))
        rw [← ha181] at B181
        have F181_0 : a181 (z + 14 + n) 0 = 267 := by
          rw [ha181]
          exact (updC_nt (by omega)).trans <| F180_0
        refine Ev.call (k := 3) (pc1 := 147) (L1 := [Vr 114, Vr ((z + 14 + n : Nat) : Int)]) (S1 := [Vi 268, Vr 114]) (h1 := ((SHv st dr (z : Int)), (ovl a181 s b))) (m' := 42) (as := [Vr 114, Vi 268]) (S' := []) (L0 := [Vr 114, Vi 268]) (fun _ => rfl) rfl rfl rfl rfl rfl rfl (c_expect_br B181.2.2.1 268 (by decide)) (fun r h' hq => ?_)
        obtain ⟨rfl, rfl⟩ := hq
        show Ev X _ _ 150 [Vr 114, Vr ((z + 14 + n : Nat) : Int)] [] ((SHv st dr (z : Int)), (ovl a181 s b)) _
        refine Ev.steps (k := 3) (pc' := 155) (L' := [Vr 114, Vr ((z + 14 + n : Nat) : Int)]) (S' := [Vr (z : Int), Vr ((z + 14 + n : Nat) : Int)]) (h' := ((SHv st dr (z : Int)), (ovl a181 s b))) (fun _ => rfl) ?_
        refine Ev.getf (v := (a181 z 9)) rfl rfl (by omega) (shY_0 hz) rfl rfl (ovl_rc (by omega)) ?_
        refine Ev.putf (c' := (ovl (updC a181 (z + 14 + n) 5 (a181 z 9)) s b)) rfl (by omega) (shRu hz (by omega)) rfl rfl (ovl_wc (by omega)) ?_
        obtain ⟨a182, ha182⟩ : ∃ x : C3, x = (updC a181 (z + 14 + n) 5 (a181 z 9)) := ⟨_, rfl⟩
        rw [← ha182]
        have B182 := (B181.up (o := (z + 14 + n)) (i := 5) (v := (a181 z 9)) hz (by omega))
        rw [← ha182] at B182
        have F182_0 : a182 (z + 14 + n) 0 = 267 := by
          rw [ha182]
          exact (updC_nt (by omega)).trans <| F181_0
        refine Ev.call (k := 1) (pc1 := 162) (L1 := [Vr 114, Vr ((z + 14 + n : Nat) : Int)]) (S1 := [Vr 114]) (h1 := ((SHv st dr (z : Int)), (ovl a182 s b))) (m' := 52) (as := [Vr 114]) (S' := []) (L0 := [Vr 114, Vx, Vx]) (fun _ => rfl) rfl rfl rfl rfl rfl rfl (c_test_br hz B182.z) (fun r h' hq => ?_)
        obtain ⟨rfl, a183, rfl, hb183⟩ := hq
        have B183 := B182.tz hb183
        show Ev X _ _ 165 [Vr 114, Vr ((z + 14 + n : Nat) : Int)] [] ((SHv st dr (z : Int)), (ovl a183 s b)) _
        refine Ev.steps (k := 3) (pc' := 170) (L' := [Vr 114, Vr ((z + 14 + n : Nat) : Int)]) (S' := [Vr (z : Int), Vr ((z + 14 + n : Nat) : Int)]) (h' := ((SHv st dr (z : Int)), (ovl a183 s b))) (fun _ => rfl) ?_
        refine Ev.getf (v := (a183 z 9)) rfl rfl (by omega) (shY_0 hz) rfl rfl (ovl_rc (by omega)) ?_
        refine Ev.putf (c' := (ovl (updC a183 (z + 14 + n) 6 (a183 z 9)) s b)) rfl (by omega) (shRu hz (by omega)) rfl rfl (ovl_wc (by omega)) ?_
        refine Ev.fin (k := 1) (r := none) (h' := ((SHv st dr (z : Int)), (ovl (updC a183 (z + 14 + n) 6 (a183 z 9)) s b))) (fun _ => rfl) ?_
        obtain ⟨a184, ha184⟩ : ∃ x : C3, x = (updC a183 (z + 14 + n) 6 (a183 z 9)) := ⟨_, rfl⟩
        rw [← ha184]
        have B184 := (B183.up (o := (z + 14 + n)) (i := 6) (v := (a183 z 9)) hz (by omega))
        rw [← ha184] at B184
        refine ⟨rfl, _, rfl, ?_⟩
        unfold rulT
        rw [hx160, bnX_o, hx161, bnX_o]
        have eA : argT W S.1 (tC W p0) i161 p161 = bnX (askT W S.1 1 ((i161 : Nat) : Int) p161) (fun r => bnX (askT W S.1 2 (-1) r.2) (fun r1 => .ok ((((r.1 : Nat) : Int), ((r1.1 : Nat) : Int), []), r1.2))) := by rw [hlit]; rfl
        try dsimp only
        rw [eA, hx163, bnX_e]
        rw [bnX_e]
        exact Or.inr ⟨_, rfl, B184⟩
    · have B161 := G160.bd X160 (by omega) hb161
      have F161_0 : a161 (z + 14 + n) 0 = 267 := (congrFun (hb161.1 _ (by omega)) 0).trans F160_0
      show Ev X _ _ 19 [Vr 114, Vr ((z + 14 + n : Nat) : Int)] [Vi v161, Vr ((z + 14 + n : Nat) : Int)] ((SHv st dr (z : Int)), (ovl a161 s b)) _
      refine Ev.putf (c' := (ovl (updC a161 (z + 14 + n) 1 v161) s b)) rfl (by omega) (shRu hz (by omega)) rfl rfl (ovl_wc (by omega)) ?_
      refine Ev.steps (k := 2) (pc' := 24) (L' := [Vr 114, Vr ((z + 14 + n : Nat) : Int)]) (S' := [Vi (-1), Vr ((z + 14 + n : Nat) : Int)]) (h' := ((SHv st dr (z : Int)), (ovl (updC a161 (z + 14 + n) 1 v161) s b))) (fun _ => rfl) ?_
      refine Ev.putf (c' := (ovl (updC (updC a161 (z + 14 + n) 1 v161) (z + 14 + n) 2 (-1)) s b)) rfl (by omega) (shRu hz (by omega)) rfl rfl (ovl_wc (by omega)) ?_
      refine Ev.steps (k := 2) (pc' := 29) (L' := [Vr 114, Vr ((z + 14 + n : Nat) : Int)]) (S' := [Vi (-1), Vr ((z + 14 + n : Nat) : Int)]) (h' := ((SHv st dr (z : Int)), (ovl (updC (updC a161 (z + 14 + n) 1 v161) (z + 14 + n) 2 (-1)) s b))) (fun _ => rfl) ?_
      refine Ev.putf (c' := (ovl (updC (updC (updC a161 (z + 14 + n) 1 v161) (z + 14 + n) 2 (-1)) (z + 14 + n) 3 (-1)) s b)) rfl (by omega) (shRu hz (by omega)) rfl rfl (ovl_wc (by omega)) ?_
      refine Ev.steps (k := 3) (pc' := 37) (L' := [Vr 114, Vr ((z + 14 + n : Nat) : Int)]) (S' := [Vr (z : Int), Vr ((z + 14 + n : Nat) : Int)]) (h' := ((SHv st dr (z : Int)), (ovl (updC (updC (updC a161 (z + 14 + n) 1 v161) (z + 14 + n) 2 (-1)) (z + 14 + n) 3 (-1)) s b))) (fun _ => rfl) ?_
      refine Ev.getf (v := (a161 z 9)) rfl rfl (by omega) (shY_0 hz) rfl rfl ((ovl_rc (by omega)).trans (by show (updC (updC (updC a161 (z + 14 + n) 1 v161) (z + 14 + n) 2 (-1)) (z + 14 + n) 3 (-1)) z 9 = _; rw [updC_nt (by omega), updC_nt (by omega), updC_nt (by omega)])) ?_
      refine Ev.putf (c' := (ovl (updC (updC (updC (updC a161 (z + 14 + n) 1 v161) (z + 14 + n) 2 (-1)) (z + 14 + n) 3 (-1)) (z + 14 + n) 4 (a161 z 9)) s b)) rfl (by omega) (shRu hz (by omega)) rfl rfl (ovl_wc (by omega)) ?_
      refine Ev.steps (k := 1) (pc' := 44) (L' := [Vr 114, Vr ((z + 14 + n : Nat) : Int)]) (S' := [Vr ((z + 14 + n : Nat) : Int)]) (h' := ((SHv st dr (z : Int)), (ovl (updC (updC (updC (updC a161 (z + 14 + n) 1 v161) (z + 14 + n) 2 (-1)) (z + 14 + n) 3 (-1)) (z + 14 + n) 4 (a161 z 9)) s b))) (fun _ => rfl) ?_
      refine Ev.getf (v := 267) rfl rfl (by omega) (shRu hz (by omega)) rfl rfl (((ovl_rc (by omega)).trans (by show (updC (updC (updC (updC a161 (z + 14 + n) 1 v161) (z + 14 + n) 2 (-1)) (z + 14 + n) 3 (-1)) (z + 14 + n) 4 (a161 z 9)) (z + 14 + n) 0 = _; rw [updC_nt (by omega), updC_nt (by omega), updC_nt (by omega), updC_nt (by omega)])).trans (F161_0)) ?_
      refine Ev.steps (k := 5) (pc' := 121) (L' := [Vr 114, Vr ((z + 14 + n : Nat) : Int)]) (S' := [Vr ((z + 14 + n : Nat) : Int), Vi 2, Vr 114, Vr ((z + 14 + n : Nat) : Int)]) (h' := ((SHv st dr (z : Int)), (ovl (updC (updC (updC (updC a161 (z + 14 + n) 1 v161) (z + 14 + n) 2 (-1)) (z + 14 + n) 3 (-1)) (z + 14 + n) 4 (a161 z 9)) s b))) (fun _ => rfl) ?_
      refine Ev.getf (v := v161) rfl rfl (by omega) (shRu hz (by omega)) rfl rfl ((ovl_rc (by omega)).trans (by show (updC (updC (updC (updC a161 (z + 14 + n) 1 v161) (z + 14 + n) 2 (-1)) (z + 14 + n) 3 (-1)) (z + 14 + n) 4 (a161 z 9)) (z + 14 + n) 1 = _; rw [updC_nt (by omega), updC_nt (by omega), updC_nt (by omega), updC_sm])) ?_
      obtain ⟨a185, ha185⟩ : ∃ x : C3, x = (updC (updC (updC (updC a161 (z + 14 + n) 1 v161) (z + 14 + n) 2 (-1)) (z + 14 + n) 3 (-1)) (z + 14 + n) 4 (a161 z 9)) := ⟨_, rfl⟩
      rw [← ha185]
      have B185 := ((((B161.up (o := (z + 14 + n)) (i := 1) (v := v161) hz (by omega)).up (o := (z + 14 + n)) (i := 2) (v := (-1)) hz (by omega)).up (o := (z + 14 + n)) (i := 3) (v := (-1)) hz (by omega)).up (o := (z + 14 + n)) (i := 4) (v := (a161 z 9)) hz (by omega))
      rw [← ha185] at B185
      have F185_0 : a185 (z + 14 + n) 0 = 267 := by
        rw [ha185]
        exact (updC_nt (by omega)).trans <| (updC_nt (by omega)).trans <| (updC_nt (by omega)).trans <| (updC_nt (by omega)).trans <| F161_0
      refine Ev.call (k := 0) (pc1 := 124) (L1 := [Vr 114, Vr ((z + 14 + n : Nat) : Int)]) (S1 := [Vi v161, Vi 2, Vr 114, Vr ((z + 14 + n : Nat) : Int)]) (h1 := ((SHv st dr (z : Int)), (ovl a185 s b))) (m' := 38) (as := [Vr 114, Vi 2, Vi v161]) (S' := [Vr ((z + 14 + n : Nat) : Int)]) (L0 := [Vr 114, Vi 2, Vi v161, Vx]) (fun _ => rfl) rfl rfl rfl rfl rfl rfl (c_asked_br B185.2.2.1 2 v161) (fun r h' hq => ?_)
      obtain ⟨rfl, rfl⟩ := hq
      show Ev X _ _ 127 [Vr 114, Vr ((z + 14 + n : Nat) : Int)] [Vi (-1), Vr ((z + 14 + n : Nat) : Int)] ((SHv st dr (z : Int)), (ovl a185 s b)) _
      refine Ev.putf (c' := (ovl (updC a185 (z + 14 + n) 3 (-1)) s b)) rfl (by omega) (shRu hz (by omega)) rfl rfl (ovl_wc (by omega)) ?_
      obtain ⟨a186, ha186⟩ : ∃ x : C3, x = (updC a185 (z + 14 + n) 3 (-1)) := ⟨_, rfl⟩
      rw [← ha186]
      have B186 := (B185.up (o := (z + 14 + n)) (i := 3) (v := (-1)) hz (by omega))
      rw [← ha186] at B186
      have F186_0 : a186 (z + 14 + n) 0 = 267 := by
        rw [ha186]
        exact (updC_nt (by omega)).trans <| F185_0
      refine Ev.call (k := 4) (pc1 := 134) (L1 := [Vr 114, Vr ((z + 14 + n : Nat) : Int)]) (S1 := [Vi (-1), Vi 3, Vr 114, Vr ((z + 14 + n : Nat) : Int)]) (h1 := ((SHv st dr (z : Int)), (ovl a186 s b))) (m' := 38) (as := [Vr 114, Vi 3, Vi (-1)]) (S' := [Vr ((z + 14 + n : Nat) : Int)]) (L0 := [Vr 114, Vi 3, Vi (-1), Vx]) (fun _ => rfl) rfl rfl rfl rfl rfl rfl (c_asked_br B186.2.2.1 3 (-1)) (fun r h' hq => ?_)
      obtain ⟨rfl, rfl⟩ := hq
      show Ev X _ _ 137 [Vr 114, Vr ((z + 14 + n : Nat) : Int)] [Vi (-1), Vr ((z + 14 + n : Nat) : Int)] ((SHv st dr (z : Int)), (ovl a186 s b)) _
      refine Ev.putf (c' := (ovl (updC a186 (z + 14 + n) 2 (-1)) s b)) rfl (by omega) (shRu hz (by omega)) rfl rfl (ovl_wc (by omega)) ?_
      obtain ⟨a187, ha187⟩ : ∃ x : C3, x = (updC a186 (z + 14 + n) 2 (-1)) := ⟨_, rfl⟩
      rw [← ha187]
      have B187 := (B186.up (o := (z + 14 + n)) (i := 2) (v := (-1)) hz (by omega))
      rw [← ha187] at B187
      have F187_0 : a187 (z + 14 + n) 0 = 267 := by
        rw [ha187]
        exact (updC_nt (by omega)).trans <| F186_0
      refine Ev.call (k := 3) (pc1 := 147) (L1 := [Vr 114, Vr ((z + 14 + n : Nat) : Int)]) (S1 := [Vi 268, Vr 114]) (h1 := ((SHv st dr (z : Int)), (ovl a187 s b))) (m' := 42) (as := [Vr 114, Vi 268]) (S' := []) (L0 := [Vr 114, Vi 268]) (fun _ => rfl) rfl rfl rfl rfl rfl rfl (c_expect_br B187.2.2.1 268 (by decide)) (fun r h' hq => ?_)
      obtain ⟨rfl, rfl⟩ := hq
      show Ev X _ _ 150 [Vr 114, Vr ((z + 14 + n : Nat) : Int)] [] ((SHv st dr (z : Int)), (ovl a187 s b)) _
      refine Ev.steps (k := 3) (pc' := 155) (L' := [Vr 114, Vr ((z + 14 + n : Nat) : Int)]) (S' := [Vr (z : Int), Vr ((z + 14 + n : Nat) : Int)]) (h' := ((SHv st dr (z : Int)), (ovl a187 s b))) (fun _ => rfl) ?_
      refine Ev.getf (v := (a187 z 9)) rfl rfl (by omega) (shY_0 hz) rfl rfl (ovl_rc (by omega)) ?_
      refine Ev.putf (c' := (ovl (updC a187 (z + 14 + n) 5 (a187 z 9)) s b)) rfl (by omega) (shRu hz (by omega)) rfl rfl (ovl_wc (by omega)) ?_
      obtain ⟨a188, ha188⟩ : ∃ x : C3, x = (updC a187 (z + 14 + n) 5 (a187 z 9)) := ⟨_, rfl⟩
      rw [← ha188]
      have B188 := (B187.up (o := (z + 14 + n)) (i := 5) (v := (a187 z 9)) hz (by omega))
      rw [← ha188] at B188
      have F188_0 : a188 (z + 14 + n) 0 = 267 := by
        rw [ha188]
        exact (updC_nt (by omega)).trans <| F187_0
      refine Ev.call (k := 1) (pc1 := 162) (L1 := [Vr 114, Vr ((z + 14 + n : Nat) : Int)]) (S1 := [Vr 114]) (h1 := ((SHv st dr (z : Int)), (ovl a188 s b))) (m' := 52) (as := [Vr 114]) (S' := []) (L0 := [Vr 114, Vx, Vx]) (fun _ => rfl) rfl rfl rfl rfl rfl rfl (c_test_br hz B188.z) (fun r h' hq => ?_)
      obtain ⟨rfl, a189, rfl, hb189⟩ := hq
      have B189 := B188.tz hb189
      show Ev X _ _ 165 [Vr 114, Vr ((z + 14 + n : Nat) : Int)] [] ((SHv st dr (z : Int)), (ovl a189 s b)) _
      refine Ev.steps (k := 3) (pc' := 170) (L' := [Vr 114, Vr ((z + 14 + n : Nat) : Int)]) (S' := [Vr (z : Int), Vr ((z + 14 + n : Nat) : Int)]) (h' := ((SHv st dr (z : Int)), (ovl a189 s b))) (fun _ => rfl) ?_
      refine Ev.getf (v := (a189 z 9)) rfl rfl (by omega) (shY_0 hz) rfl rfl (ovl_rc (by omega)) ?_
      refine Ev.putf (c' := (ovl (updC a189 (z + 14 + n) 6 (a189 z 9)) s b)) rfl (by omega) (shRu hz (by omega)) rfl rfl (ovl_wc (by omega)) ?_
      refine Ev.fin (k := 1) (r := none) (h' := ((SHv st dr (z : Int)), (ovl (updC a189 (z + 14 + n) 6 (a189 z 9)) s b))) (fun _ => rfl) ?_
      obtain ⟨a190, ha190⟩ : ∃ x : C3, x = (updC a189 (z + 14 + n) 6 (a189 z 9)) := ⟨_, rfl⟩
      rw [← ha190]
      have B190 := (B189.up (o := (z + 14 + n)) (i := 6) (v := (a189 z 9)) hz (by omega))
      rw [← ha190] at B190
      refine ⟨rfl, _, rfl, ?_⟩
      unfold rulT
      rw [hx160, bnX_o, hx161, bnX_e]
      exact Or.inr ⟨_, rfl, B190⟩
  · have B160 := G159.bd X159 (by omega) hb160
    have F160_0 : a160 (z + 14 + n) 0 = 267 := (congrFun (hb160.1 _ (by omega)) 0).trans F159_0
    show Ev X _ _ 12 [Vr 114, Vr ((z + 14 + n : Nat) : Int)] [] ((SHv st dr (z : Int)), (ovl a160 s b)) _
    refine Ev.call (k := 4) (pc1 := 16) (L1 := [Vr 114, Vr ((z + 14 + n : Nat) : Int)]) (S1 := [Vi (-1), Vi 2, Vr 114, Vr ((z + 14 + n : Nat) : Int)]) (h1 := ((SHv st dr (z : Int)), (ovl a160 s b))) (m' := 38) (as := [Vr 114, Vi 2, Vi (-1)]) (S' := [Vr ((z + 14 + n : Nat) : Int)]) (L0 := [Vr 114, Vi 2, Vi (-1), Vx]) (fun _ => rfl) rfl rfl rfl rfl rfl rfl (c_asked_br B160.2.2.1 2 (-1)) (fun r h' hq => ?_)
    obtain ⟨rfl, rfl⟩ := hq
    show Ev X _ _ 19 [Vr 114, Vr ((z + 14 + n : Nat) : Int)] [Vi (-1), Vr ((z + 14 + n : Nat) : Int)] ((SHv st dr (z : Int)), (ovl a160 s b)) _
    refine Ev.putf (c' := (ovl (updC a160 (z + 14 + n) 1 (-1)) s b)) rfl (by omega) (shRu hz (by omega)) rfl rfl (ovl_wc (by omega)) ?_
    refine Ev.steps (k := 2) (pc' := 24) (L' := [Vr 114, Vr ((z + 14 + n : Nat) : Int)]) (S' := [Vi (-1), Vr ((z + 14 + n : Nat) : Int)]) (h' := ((SHv st dr (z : Int)), (ovl (updC a160 (z + 14 + n) 1 (-1)) s b))) (fun _ => rfl) ?_
    refine Ev.putf (c' := (ovl (updC (updC a160 (z + 14 + n) 1 (-1)) (z + 14 + n) 2 (-1)) s b)) rfl (by omega) (shRu hz (by omega)) rfl rfl (ovl_wc (by omega)) ?_
    refine Ev.steps (k := 2) (pc' := 29) (L' := [Vr 114, Vr ((z + 14 + n : Nat) : Int)]) (S' := [Vi (-1), Vr ((z + 14 + n : Nat) : Int)]) (h' := ((SHv st dr (z : Int)), (ovl (updC (updC a160 (z + 14 + n) 1 (-1)) (z + 14 + n) 2 (-1)) s b))) (fun _ => rfl) ?_
    refine Ev.putf (c' := (ovl (updC (updC (updC a160 (z + 14 + n) 1 (-1)) (z + 14 + n) 2 (-1)) (z + 14 + n) 3 (-1)) s b)) rfl (by omega) (shRu hz (by omega)) rfl rfl (ovl_wc (by omega)) ?_
    refine Ev.steps (k := 3) (pc' := 37) (L' := [Vr 114, Vr ((z + 14 + n : Nat) : Int)]) (S' := [Vr (z : Int), Vr ((z + 14 + n : Nat) : Int)]) (h' := ((SHv st dr (z : Int)), (ovl (updC (updC (updC a160 (z + 14 + n) 1 (-1)) (z + 14 + n) 2 (-1)) (z + 14 + n) 3 (-1)) s b))) (fun _ => rfl) ?_
    refine Ev.getf (v := (a160 z 9)) rfl rfl (by omega) (shY_0 hz) rfl rfl ((ovl_rc (by omega)).trans (by show (updC (updC (updC a160 (z + 14 + n) 1 (-1)) (z + 14 + n) 2 (-1)) (z + 14 + n) 3 (-1)) z 9 = _; rw [updC_nt (by omega), updC_nt (by omega), updC_nt (by omega)])) ?_
    refine Ev.putf (c' := (ovl (updC (updC (updC (updC a160 (z + 14 + n) 1 (-1)) (z + 14 + n) 2 (-1)) (z + 14 + n) 3 (-1)) (z + 14 + n) 4 (a160 z 9)) s b)) rfl (by omega) (shRu hz (by omega)) rfl rfl (ovl_wc (by omega)) ?_
    refine Ev.steps (k := 1) (pc' := 44) (L' := [Vr 114, Vr ((z + 14 + n : Nat) : Int)]) (S' := [Vr ((z + 14 + n : Nat) : Int)]) (h' := ((SHv st dr (z : Int)), (ovl (updC (updC (updC (updC a160 (z + 14 + n) 1 (-1)) (z + 14 + n) 2 (-1)) (z + 14 + n) 3 (-1)) (z + 14 + n) 4 (a160 z 9)) s b))) (fun _ => rfl) ?_
    refine Ev.getf (v := 267) rfl rfl (by omega) (shRu hz (by omega)) rfl rfl (((ovl_rc (by omega)).trans (by show (updC (updC (updC (updC a160 (z + 14 + n) 1 (-1)) (z + 14 + n) 2 (-1)) (z + 14 + n) 3 (-1)) (z + 14 + n) 4 (a160 z 9)) (z + 14 + n) 0 = _; rw [updC_nt (by omega), updC_nt (by omega), updC_nt (by omega), updC_nt (by omega)])).trans (F160_0)) ?_
    refine Ev.steps (k := 5) (pc' := 121) (L' := [Vr 114, Vr ((z + 14 + n : Nat) : Int)]) (S' := [Vr ((z + 14 + n : Nat) : Int), Vi 2, Vr 114, Vr ((z + 14 + n : Nat) : Int)]) (h' := ((SHv st dr (z : Int)), (ovl (updC (updC (updC (updC a160 (z + 14 + n) 1 (-1)) (z + 14 + n) 2 (-1)) (z + 14 + n) 3 (-1)) (z + 14 + n) 4 (a160 z 9)) s b))) (fun _ => rfl) ?_
    refine Ev.getf (v := (-1)) rfl rfl (by omega) (shRu hz (by omega)) rfl rfl ((ovl_rc (by omega)).trans (by show (updC (updC (updC (updC a160 (z + 14 + n) 1 (-1)) (z + 14 + n) 2 (-1)) (z + 14 + n) 3 (-1)) (z + 14 + n) 4 (a160 z 9)) (z + 14 + n) 1 = _; rw [updC_nt (by omega), updC_nt (by omega), updC_nt (by omega), updC_sm])) ?_
    obtain ⟨a191, ha191⟩ : ∃ x : C3, x = (updC (updC (updC (updC a160 (z + 14 + n) 1 (-1)) (z + 14 + n) 2 (-1)) (z + 14 + n) 3 (-1)) (z + 14 + n) 4 (a160 z 9)) := ⟨_, rfl⟩
    rw [← ha191]
    have B191 := ((((B160.up (o := (z + 14 + n)) (i := 1) (v := (-1)) hz (by omega)).up (o := (z + 14 + n)) (i := 2) (v := (-1)) hz (by omega)).up (o := (z + 14 + n)) (i := 3) (v := (-1)) hz (by omega)).up (o := (z + 14 + n)) (i := 4) (v := (a160 z 9)) hz (by omega))
    rw [← ha191] at B191
    have F191_0 : a191 (z + 14 + n) 0 = 267 := by
      rw [ha191]
      exact (updC_nt (by omega)).trans <| (updC_nt (by omega)).trans <| (updC_nt (by omega)).trans <| (updC_nt (by omega)).trans <| F160_0
    refine Ev.call (k := 0) (pc1 := 124) (L1 := [Vr 114, Vr ((z + 14 + n : Nat) : Int)]) (S1 := [Vi (-1), Vi 2, Vr 114, Vr ((z + 14 + n : Nat) : Int)]) (h1 := ((SHv st dr (z : Int)), (ovl a191 s b))) (m' := 38) (as := [Vr 114, Vi 2, Vi (-1)]) (S' := [Vr ((z + 14 + n : Nat) : Int)]) (L0 := [Vr 114, Vi 2, Vi (-1), Vx]) (fun _ => rfl) rfl rfl rfl rfl rfl rfl (c_asked_br B191.2.2.1 2 (-1)) (fun r h' hq => ?_)
    obtain ⟨rfl, rfl⟩ := hq
    show Ev X _ _ 127 [Vr 114, Vr ((z + 14 + n : Nat) : Int)] [Vi (-1), Vr ((z + 14 + n : Nat) : Int)] ((SHv st dr (z : Int)), (ovl a191 s b)) _
    refine Ev.putf (c' := (ovl (updC a191 (z + 14 + n) 3 (-1)) s b)) rfl (by omega) (shRu hz (by omega)) rfl rfl (ovl_wc (by omega)) ?_
    obtain ⟨a192, ha192⟩ : ∃ x : C3, x = (updC a191 (z + 14 + n) 3 (-1)) := ⟨_, rfl⟩
    rw [← ha192]
    have B192 := (B191.up (o := (z + 14 + n)) (i := 3) (v := (-1)) hz (by omega))
    rw [← ha192] at B192
    have F192_0 : a192 (z + 14 + n) 0 = 267 := by
      rw [ha192]
      exact (updC_nt (by omega)).trans <| F191_0
    refine Ev.call (k := 4) (pc1 := 134) (L1 := [Vr 114, Vr ((z + 14 + n : Nat) : Int)]) (S1 := [Vi (-1), Vi 3, Vr 114, Vr ((z + 14 + n : Nat) : Int)]) (h1 := ((SHv st dr (z : Int)), (ovl a192 s b))) (m' := 38) (as := [Vr 114, Vi 3, Vi (-1)]) (S' := [Vr ((z + 14 + n : Nat) : Int)]) (L0 := [Vr 114, Vi 3, Vi (-1), Vx]) (fun _ => rfl) rfl rfl rfl rfl rfl rfl (c_asked_br B192.2.2.1 3 (-1)) (fun r h' hq => ?_)
    obtain ⟨rfl, rfl⟩ := hq
    show Ev X _ _ 137 [Vr 114, Vr ((z + 14 + n : Nat) : Int)] [Vi (-1), Vr ((z + 14 + n : Nat) : Int)] ((SHv st dr (z : Int)), (ovl a192 s b)) _
    refine Ev.putf (c' := (ovl (updC a192 (z + 14 + n) 2 (-1)) s b)) rfl (by omega) (shRu hz (by omega)) rfl rfl (ovl_wc (by omega)) ?_
    obtain ⟨a193, ha193⟩ : ∃ x : C3, x = (updC a192 (z + 14 + n) 2 (-1)) := ⟨_, rfl⟩
    rw [← ha193]
    have B193 := (B192.up (o := (z + 14 + n)) (i := 2) (v := (-1)) hz (by omega))
    rw [← ha193] at B193
    have F193_0 : a193 (z + 14 + n) 0 = 267 := by
      rw [ha193]
      exact (updC_nt (by omega)).trans <| F192_0
    refine Ev.call (k := 3) (pc1 := 147) (L1 := [Vr 114, Vr ((z + 14 + n : Nat) : Int)]) (S1 := [Vi 268, Vr 114]) (h1 := ((SHv st dr (z : Int)), (ovl a193 s b))) (m' := 42) (as := [Vr 114, Vi 268]) (S' := []) (L0 := [Vr 114, Vi 268]) (fun _ => rfl) rfl rfl rfl rfl rfl rfl (c_expect_br B193.2.2.1 268 (by decide)) (fun r h' hq => ?_)
    obtain ⟨rfl, rfl⟩ := hq
    show Ev X _ _ 150 [Vr 114, Vr ((z + 14 + n : Nat) : Int)] [] ((SHv st dr (z : Int)), (ovl a193 s b)) _
    refine Ev.steps (k := 3) (pc' := 155) (L' := [Vr 114, Vr ((z + 14 + n : Nat) : Int)]) (S' := [Vr (z : Int), Vr ((z + 14 + n : Nat) : Int)]) (h' := ((SHv st dr (z : Int)), (ovl a193 s b))) (fun _ => rfl) ?_
    refine Ev.getf (v := (a193 z 9)) rfl rfl (by omega) (shY_0 hz) rfl rfl (ovl_rc (by omega)) ?_
    refine Ev.putf (c' := (ovl (updC a193 (z + 14 + n) 5 (a193 z 9)) s b)) rfl (by omega) (shRu hz (by omega)) rfl rfl (ovl_wc (by omega)) ?_
    obtain ⟨a194, ha194⟩ : ∃ x : C3, x = (updC a193 (z + 14 + n) 5 (a193 z 9)) := ⟨_, rfl⟩
    rw [← ha194]
    have B194 := (B193.up (o := (z + 14 + n)) (i := 5) (v := (a193 z 9)) hz (by omega))
    rw [← ha194] at B194
    have F194_0 : a194 (z + 14 + n) 0 = 267 := by
      rw [ha194]
      exact (updC_nt (by omega)).trans <| F193_0
    refine Ev.call (k := 1) (pc1 := 162) (L1 := [Vr 114, Vr ((z + 14 + n : Nat) : Int)]) (S1 := [Vr 114]) (h1 := ((SHv st dr (z : Int)), (ovl a194 s b))) (m' := 52) (as := [Vr 114]) (S' := []) (L0 := [Vr 114, Vx, Vx]) (fun _ => rfl) rfl rfl rfl rfl rfl rfl (c_test_br hz B194.z) (fun r h' hq => ?_)
    obtain ⟨rfl, a195, rfl, hb195⟩ := hq
    have B195 := B194.tz hb195
    show Ev X _ _ 165 [Vr 114, Vr ((z + 14 + n : Nat) : Int)] [] ((SHv st dr (z : Int)), (ovl a195 s b)) _
    refine Ev.steps (k := 3) (pc' := 170) (L' := [Vr 114, Vr ((z + 14 + n : Nat) : Int)]) (S' := [Vr (z : Int), Vr ((z + 14 + n : Nat) : Int)]) (h' := ((SHv st dr (z : Int)), (ovl a195 s b))) (fun _ => rfl) ?_
    refine Ev.getf (v := (a195 z 9)) rfl rfl (by omega) (shY_0 hz) rfl rfl (ovl_rc (by omega)) ?_
    refine Ev.putf (c' := (ovl (updC a195 (z + 14 + n) 6 (a195 z 9)) s b)) rfl (by omega) (shRu hz (by omega)) rfl rfl (ovl_wc (by omega)) ?_
    refine Ev.fin (k := 1) (r := none) (h' := ((SHv st dr (z : Int)), (ovl (updC a195 (z + 14 + n) 6 (a195 z 9)) s b))) (fun _ => rfl) ?_
    obtain ⟨a196, ha196⟩ : ∃ x : C3, x = (updC a195 (z + 14 + n) 6 (a195 z 9)) := ⟨_, rfl⟩
    rw [← ha196]
    have B196 := (B195.up (o := (z + 14 + n)) (i := 6) (v := (a195 z 9)) hz (by omega))
    rw [← ha196] at B196
    refine ⟨rfl, _, rfl, ?_⟩
    unfold rulT
    rw [hx160, bnX_e]
    exact Or.inr ⟨_, rfl, B196⟩
