/-! THE REFERENCE READS: rooms, persons, things, doors, claims -/
theorem m_room_l {X : List Int} {d : Nat} {st dr rd : Int} {a s b : C3} {j n : Nat} (hj : j < 2) (hn8 : n < 8) {b0 : C3} (k : Nat) (hk8 : k ≤ 8) (e39 : b 166 39 = (j : Int)) (e168 : b 168 j = (n : Int)) (hF : ∀ o i, ¬ (o = 175 ∧ 64 * j ≤ i ∧ i < 64 * j + 64 ∧ ((i - 64 * j) / 8 = n ∨ (i - 64 * j) % 8 = n)) → b o i = b0 o i) (hZ : ∀ q, q < k → b 175 (64 * j + 8 * n + q) = 0 ∧ b 175 (64 * j + 8 * q + n) = 0) : Ev X (d + 3) 182 55 [Vr 166, Vi (k : Int)] [] (SHv st dr rd, ovl a s b) (fun rr hh => rr = none ∧ ∃ b2 : C3, (∀ o i, ¬ (o = 175 ∧ 64 * j ≤ i ∧ i < 64 * j + 64 ∧ ((i - 64 * j) / 8 = n ∨ (i - 64 * j) % 8 = n)) → b2 o i = b0 o i) ∧ (∀ q, q < 8 → b2 175 (64 * j + 8 * n + q) = 0 ∧ b2 175 (64 * j + 8 * q + n) = 0) ∧ hh = (SHv st dr rd, ovl a s (if b0 166 8 = 0 then updC b2 168 j ((n : Int) + 1) else b2))) := by
  induction hkk : (8 - k) using Nat.strongRecOn generalizing k b with
  | ind kk ih =>
    have h8 : b 166 8 = b0 166 8 := hF 166 8 (by omega)
    refine Ev.ite (P := 8 ≤ (k : Int)) (k := 3) (a := 123) (b := 61) (L' := [Vr 166, Vi (k : Int)]) (S' := []) (h' := ((SHv st dr rd), (ovl a s b))) (fun _ => rfl) (fun b58 => ?_) (fun b58 => ?_)
    · refine Ev.ite (P := (b 166 8) ≠ 0) (k := 3) (a := 143) (b := 130) (L' := [Vr 166, Vi (k : Int)]) (S' := []) (h' := ((SHv st dr rd), (ovl a s b))) (fun _ => rfl) (fun b127 => ?_) (fun b127 => ?_)
      · refine Ev.fin (k := 1) (r := none) (h' := ((SHv st dr rd), (ovl a s b))) (fun _ => rfl) ?_
        refine ⟨rfl, b, hF, fun q hq => hZ q (by omega), ?_⟩
        first
          | (rw [if_pos (by omega)]; done)
          | (rw [if_neg (by omega)]; done)
      · refine Ev.steps (k := 4) (pc' := 138) (L' := [Vr 166, Vi (k : Int)]) (S' := [Vi (b 166 39), Vr 168]) (h' := ((SHv st dr rd), (ovl a s b))) (fun _ => rfl) ?_
        rw [e39]
        refine Ev.steps (k := 1) (pc' := 139) (L' := [Vr 166, Vi (k : Int)]) (S' := [Vi (j : Int), Vr 168, Vi (j : Int), Vr 168]) (h' := ((SHv st dr rd), (ovl a s b))) (fun _ => rfl) ?_
        refine Ev.iald (v := (n : Int)) rfl (by decide) rfl (by omega) (by omega) (e168) ?_
        refine Ev.steps (k := 2) (pc' := 142) (L' := [Vr 166, Vi (k : Int)]) (S' := [Vi (w32 ((n : Int) + 1)), Vi (j : Int), Vr 168]) (h' := ((SHv st dr rd), (ovl a s b))) (fun _ => rfl) ?_
        rw [show (w32 ((n : Int) + 1)) = ((n : Int) + 1) from w32_id (by unfold R32; omega)]
        refine Ev.iast (c' := (ovl a s (updC b 168 j ((n : Int) + 1)))) rfl (by decide) rfl (by omega) (by omega) (ovl_wm (by decide)) ?_
        refine Ev.fin (k := 1) (r := none) (h' := ((SHv st dr rd), (ovl a s (updC b 168 j ((n : Int) + 1))))) (fun _ => rfl) ?_
        refine ⟨rfl, b, hF, fun q hq => hZ q (by omega), ?_⟩
        first
          | (rw [if_pos (by omega)]; done)
          | (rw [if_neg (by omega)]; done)
    · refine Ev.steps (k := 5) (pc' := 71) (L' := [Vr 166, Vi (k : Int)]) (S' := [Vi (b 166 39), Vi 64, Vr 175]) (h' := ((SHv st dr rd), (ovl a s b))) (fun _ => rfl) ?_
      rw [e39]
      refine Ev.steps (k := 1) (pc' := 72) (L' := [Vr 166, Vi (k : Int)]) (S' := [Vi (w32 (64 * (j : Int))), Vr 175]) (h' := ((SHv st dr rd), (ovl a s b))) (fun _ => rfl) ?_
      rw [show (w32 (64 * (j : Int))) = (64 * (j : Int)) from w32_id (by unfold R32; omega)]
      refine Ev.steps (k := 5) (pc' := 82) (L' := [Vr 166, Vi (k : Int)]) (S' := [Vi (b 166 39), Vr 168, Vi 8, Vi (64 * (j : Int)), Vr 175]) (h' := ((SHv st dr rd), (ovl a s b))) (fun _ => rfl) ?_
      rw [e39]
      refine Ev.iald (v := (n : Int)) rfl (by decide) rfl (by omega) (by omega) (e168) ?_
      refine Ev.steps (k := 1) (pc' := 84) (L' := [Vr 166, Vi (k : Int)]) (S' := [Vi (w32 (8 * (n : Int))), Vi (64 * (j : Int)), Vr 175]) (h' := ((SHv st dr rd), (ovl a s b))) (fun _ => rfl) ?_
      rw [show (w32 (8 * (n : Int))) = (8 * (n : Int)) from w32_id (by unfold R32; omega)]
      refine Ev.steps (k := 1) (pc' := 85) (L' := [Vr 166, Vi (k : Int)]) (S' := [Vi (w32 ((64 * (j : Int)) + (8 * (n : Int)))), Vr 175]) (h' := ((SHv st dr rd), (ovl a s b))) (fun _ => rfl) ?_
      rw [show (w32 ((64 * (j : Int)) + (8 * (n : Int)))) = ((64 * (j : Int)) + (8 * (n : Int))) from w32_id (by unfold R32; omega)]
      refine Ev.steps (k := 2) (pc' := 87) (L' := [Vr 166, Vi (k : Int)]) (S' := [Vi (w32 (((64 * (j : Int)) + (8 * (n : Int))) + (k : Int))), Vr 175]) (h' := ((SHv st dr rd), (ovl a s b))) (fun _ => rfl) ?_
      rw [show (w32 (((64 * (j : Int)) + (8 * (n : Int))) + (k : Int))) = (((64 * (j : Int)) + (8 * (n : Int))) + (k : Int)) from w32_id (by unfold R32; omega)]
      refine Ev.steps (k := 1) (pc' := 88) (L' := [Vr 166, Vi (k : Int)]) (S' := [Vi 0, Vi (((64 * (j : Int)) + (8 * (n : Int))) + (k : Int)), Vr 175]) (h' := ((SHv st dr rd), (ovl a s b))) (fun _ => rfl) ?_
      refine Ev.zast (c' := (ovl a s (updC b 175 (((64 * j + 8 * n) + k)) 0))) rfl (by decide) rfl (by omega) (by omega) (by omega) (ovl_wm (by decide)) ?_
      refine Ev.steps (k := 5) (pc' := 99) (L' := [Vr 166, Vi (k : Int)]) (S' := [Vi (b 166 39), Vi 64, Vr 175]) (h' := ((SHv st dr rd), (ovl a s (updC b 175 (((64 * j + 8 * n) + k)) 0)))) (fun _ => rfl) ?_
      rw [e39]
      refine Ev.steps (k := 1) (pc' := 100) (L' := [Vr 166, Vi (k : Int)]) (S' := [Vi (w32 (64 * (j : Int))), Vr 175]) (h' := ((SHv st dr rd), (ovl a s (updC b 175 (((64 * j + 8 * n) + k)) 0)))) (fun _ => rfl) ?_
      rw [show (w32 (64 * (j : Int))) = (64 * (j : Int)) from w32_id (by unfold R32; omega)]
      refine Ev.steps (k := 3) (pc' := 104) (L' := [Vr 166, Vi (k : Int)]) (S' := [Vi (w32 (8 * (k : Int))), Vi (64 * (j : Int)), Vr 175]) (h' := ((SHv st dr rd), (ovl a s (updC b 175 (((64 * j + 8 * n) + k)) 0)))) (fun _ => rfl) ?_
      rw [show (w32 (8 * (k : Int))) = (8 * (k : Int)) from w32_id (by unfold R32; omega)]
      refine Ev.steps (k := 1) (pc' := 105) (L' := [Vr 166, Vi (k : Int)]) (S' := [Vi (w32 ((64 * (j : Int)) + (8 * (k : Int)))), Vr 175]) (h' := ((SHv st dr rd), (ovl a s (updC b 175 (((64 * j + 8 * n) + k)) 0)))) (fun _ => rfl) ?_
      rw [show (w32 ((64 * (j : Int)) + (8 * (k : Int)))) = ((64 * (j : Int)) + (8 * (k : Int))) from w32_id (by unfold R32; omega)]
      refine Ev.steps (k := 4) (pc' := 113) (L' := [Vr 166, Vi (k : Int)]) (S' := [Vi (b 166 39), Vr 168, Vi ((64 * (j : Int)) + (8 * (k : Int))), Vr 175]) (h' := ((SHv st dr rd), (ovl a s (updC b 175 (((64 * j + 8 * n) + k)) 0)))) (fun _ => rfl) ?_
      rw [e39]
      refine Ev.iald (v := (n : Int)) rfl (by decide) rfl (by omega) (by omega) (e168) ?_
      refine Ev.steps (k := 1) (pc' := 115) (L' := [Vr 166, Vi (k : Int)]) (S' := [Vi (w32 (((64 * (j : Int)) + (8 * (k : Int))) + (n : Int))), Vr 175]) (h' := ((SHv st dr rd), (ovl a s (updC b 175 (((64 * j + 8 * n) + k)) 0)))) (fun _ => rfl) ?_
      rw [show (w32 (((64 * (j : Int)) + (8 * (k : Int))) + (n : Int))) = (((64 * (j : Int)) + (8 * (k : Int))) + (n : Int)) from w32_id (by unfold R32; omega)]
      refine Ev.steps (k := 1) (pc' := 116) (L' := [Vr 166, Vi (k : Int)]) (S' := [Vi 0, Vi (((64 * (j : Int)) + (8 * (k : Int))) + (n : Int)), Vr 175]) (h' := ((SHv st dr rd), (ovl a s (updC b 175 (((64 * j + 8 * n) + k)) 0)))) (fun _ => rfl) ?_
      refine Ev.zast (c' := (ovl a s (updC (updC b 175 (((64 * j + 8 * n) + k)) 0) 175 (((64 * j + 8 * k) + n)) 0))) rfl (by decide) rfl (by omega) (by omega) (by omega) (ovl_wm (by decide)) ?_
      refine Ev.steps (k := 1) (pc' := 120) (L' := [Vr 166, Vi (w32 ((k : Int) + 1))]) (S' := []) (h' := ((SHv st dr rd), (ovl a s (updC (updC b 175 (((64 * j + 8 * n) + k)) 0) 175 (((64 * j + 8 * k) + n)) 0)))) (fun _ => rfl) ?_
      rw [show (w32 ((k : Int) + 1)) = ((k : Int) + 1) from w32_id (by unfold R32; omega)]
      refine Ev.steps (k := 1) (pc' := 55) (L' := [Vr 166, Vi ((k : Int) + 1)]) (S' := []) (h' := ((SHv st dr rd), (ovl a s (updC (updC b 175 (((64 * j + 8 * n) + k)) 0) 175 (((64 * j + 8 * k) + n)) 0)))) (fun _ => rfl) ?_
      refine (ih (8 - (k + 1)) (by omega) (b := (updC (updC b 175 (((64 * j + 8 * n) + k)) 0) 175 (((64 * j + 8 * k) + n)) 0)) (k + 1) (by omega) ?_ ?_ ?_ ?_ rfl)
      · rw [updC_nt (by omega), updC_nt (by omega)]; exact e39
      · rw [updC_nt (by omega), updC_nt (by omega)]; exact e168
      · intro o i h
        rw [updC_nt (by omega), updC_nt (by omega)]
        exact hF o i h
      · intro q hq
        refine ⟨?_, ?_⟩
        · rw [updC_if]
          split
          · rfl
          · rw [updC_if]
            split
            · rfl
            · exact (hZ q (by omega)).1
        · rw [updC_if]
          split
          · rfl
          · rw [updC_if]
            split
            · rfl
            · exact (hZ q (by omega)).2
theorem m_room {X : List Int} {d : Nat} {st dr rd : Int} {a s b : C3} {W : TXT} {p : Nat} (hk : TkM W p b) {S : STY} (hW : WfY S) (hD : WfD S) {j c n : Nat} (hR : RqM S b j c) (hn : S.1 0 0 = (n : Int)) (hcn : b 168 j = (n : Int)) (hmx : n ≤ 8) : Ev X (d + 3) 182 0 [Vr 166, Vx] [] (SHv st dr rd, ovl a s b) (fun rr hh => rr = none ∧ ∃ b' : C3, hh = (SHv st dr rd, ovl a s b') ∧ ResC (if (8 : Int) ≤ S.1 0 0 then Except.error (fltT W 5 p) else rooT W S p) (fun r => TkM W r.2 b' ∧ RqM r.1 b' j c ∧ FrJ j b b') (fun e => BjM W j b e b')) := by
  have hN := hR.nm hW
  have hj := hN.1
  have hn0 : cntN S.1 0 = nR S := rfl
  have hn1 : cntN S.1 1 = nW S := rfl
  have hn2 : cntN S.1 2 = nT S := rfl
  have hnn : nR S = n := by show (S.1 0 0).toNat = n; rw [hn]; exact Int.toNat_natCast n
  refine Ev.steps (k := 5) (pc' := 9) (L' := [Vr 166, Vx]) (S' := [Vi (b 166 39), Vr 168, Vr 166]) (h' := ((SHv st dr rd), (ovl a s b))) (fun _ => rfl) ?_
  rw [hR.1.2.1]
  refine Ev.iald (v := (n : Int)) rfl (by decide) rfl (by omega) (by omega) (hcn) ?_
  refine Ev.ite (P := (n : Int) ≠ 8) (k := 2) (a := 19) (b := 15) (L' := [Vr 166, Vx]) (S' := [Vr 166]) (h' := ((SHv st dr rd), (ovl a s b))) (fun _ => rfl) (fun b12 => ?_) (fun b12 => ?_)
  · have hn8 : n < 8 := by omega
    have hP : ∀ o i, chR j n o i → fjM j o i := fun o i h => by unfold fjM; omega
    refine Ev.call (k := 1) (pc1 := 20) (L1 := [Vr 166, Vx]) (S1 := [Vi 0, Vr 166]) (h1 := ((SHv st dr rd), (ovl a s b))) (m' := 164) (as := [Vr 166, Vi 0]) (S' := []) (L0 := [Vr 166, Vi 0]) (fun _ => rfl) rfl rfl rfl rfl rfl rfl (m_counts0 (b := b) hk) (fun r h' hq => ?_)
    obtain ⟨bq1, rfl, hq⟩ := hq
    rcases hq with ⟨pq1, hxq1, rfl, hoq1⟩ | ⟨eq1, hxq1, rfl, hbq1⟩
    · show Ev X _ _ 23 [Vr 166, Vx] [Vi 1] ((SHv st dr rd), (ovl a s bq1)) _
      refine Ev.steps (k := 6) (pc' := 37) (L' := [Vr 166, Vx]) (S' := [Vi (bq1 166 39), Vi 8, Vr 174]) (h' := ((SHv st dr rd), (ovl a s bq1))) (fun _ => rfl) ?_
      rw [((hoq1.1 166 39 (by omega)).trans hR.1.2.1)]
      refine Ev.steps (k := 1) (pc' := 38) (L' := [Vr 166, Vx]) (S' := [Vi (w32 (8 * (j : Int))), Vr 174]) (h' := ((SHv st dr rd), (ovl a s bq1))) (fun _ => rfl) ?_
      rw [show (w32 (8 * (j : Int))) = (8 * (j : Int)) from w32_id (by unfold R32; omega)]
      refine Ev.steps (k := 4) (pc' := 46) (L' := [Vr 166, Vx]) (S' := [Vi (bq1 166 39), Vr 168, Vi (8 * (j : Int)), Vr 174]) (h' := ((SHv st dr rd), (ovl a s bq1))) (fun _ => rfl) ?_
      rw [((hoq1.1 166 39 (by omega)).trans hR.1.2.1)]
      refine Ev.iald (v := (n : Int)) rfl (by decide) rfl (by omega) (by omega) (((hoq1.1 168 j (by omega)).trans hcn)) ?_
      refine Ev.steps (k := 1) (pc' := 48) (L' := [Vr 166, Vx]) (S' := [Vi (w32 ((8 * (j : Int)) + (n : Int))), Vr 174]) (h' := ((SHv st dr rd), (ovl a s bq1))) (fun _ => rfl) ?_
      rw [show (w32 ((8 * (j : Int)) + (n : Int))) = ((8 * (j : Int)) + (n : Int)) from w32_id (by unfold R32; omega)]
      refine Ev.call (k := 1) (pc1 := 49) (L1 := [Vr 166, Vx]) (S1 := [Vr 166, Vi ((8 * (j : Int)) + (n : Int)), Vr 174]) (h1 := ((SHv st dr rd), (ovl a s bq1))) (m' := 183) (as := [Vr 166]) (S' := [Vi ((8 * (j : Int)) + (n : Int)), Vr 174]) (L0 := [Vr 166, Vx, Vx]) (fun _ => rfl) rfl rfl rfl rfl rfl rfl (m_fresh (b := bq1) hoq1.2 (hN.fr hoq1.1)) (fun r h' hq => ?_)
      obtain ⟨bq2, rfl, hq⟩ := hq
      rcases hq with ⟨rq2, hxq2, rfl, hoq2⟩ | ⟨eq2, hxq2, ⟨vq2, rfl⟩, hbq2⟩
      · show Ev X _ _ 52 [Vr 166, Vx] [Vl ((rq2.1 : Nat) : Int), Vi ((8 * (j : Int)) + (n : Int)), Vr 174] ((SHv st dr rd), (ovl a s bq2)) _
        refine Ev.last (c' := (ovl a s (updC bq2 174 ((8 * j + n)) ((rq2.1 : Nat) : Int)))) rfl (by decide) rfl (by omega) (by omega) (ovl_wm (by decide)) ?_
        refine Ev.steps (k := 2) (pc' := 55) (L' := [Vr 166, Vi 0]) (S' := []) (h' := ((SHv st dr rd), (ovl a s (updC bq2 174 ((8 * j + n)) ((rq2.1 : Nat) : Int))))) (fun _ => rfl) ?_
        refine (m_room_l (b0 := (updC bq2 174 ((8 * j + n)) ((rq2.1 : Nat) : Int))) hj hn8 0 (by omega) (by rw [updC_nt (by omega)]; exact ((hoq2.1 166 39 (by omega)).trans ((hoq1.1 166 39 (by omega)).trans hR.1.2.1))) (by rw [updC_nt (by omega)]; exact ((hoq2.1 168 j (by omega)).trans ((hoq1.1 168 j (by omega)).trans hcn))) (fun _ _ _ => rfl) (fun q hq => absurd hq (by omega))).mono ?_
        rintro r' h' ⟨rfl, b2, g1, g2, rfl⟩
        rw [if_pos (hoq2.2.up (by omega)).2.1]
        have hF2 : FrP (chR j n) (updC bq2 174 ((8 * j + n)) ((rq2.1 : Nat) : Int)) b2 := fun o i h1 h2 => g1 o i (fun q => h2 (Or.inr (Or.inr q)))
        have hk2 : TkM W rq2.2 (updC b2 168 j ((n : Int) + 1)) := (((hoq2.2.up (by omega))).cg (fun o i h => g1 o i (by omega))).up (by omega)
        have hb : FrP (chR j n) b (updC b2 168 j ((n : Int) + 1)) := ((((((FrP.rf : FrP (chR j n) b b).fn hoq1.1).fn hoq2.1).up (by omega))).tr hF2).up (by omega)
        refine ⟨rfl, _, rfl, Or.inl ⟨(_, rq2.2), ?_, hk2, hR.room (w := rq2.1) hn hn8 hD updC_sm ?_ (fun k hk8 => ?_) hb ?_, hb.mo hP⟩⟩
        · rw [if_neg (by omega)]
          unfold rooT
          rw [hnn, hxq1, bnX_o, hxq2, bnX_o]
        · rw [updC_nt (by omega), g1 174 _ (by omega), updC_sm]
        · rw [updC_nt (by omega), updC_nt (by omega)]
          exact g2 k hk8
        · rw [updC_nt (by omega), g1 166 38 (by omega), updC_nt (by omega)]
          exact ((hoq2.1 166 38 (by omega)).trans ((hoq1.1 166 38 (by omega)).trans hR.1.2.2))
      · show Ev X _ _ 52 [Vr 166, Vx] [Vl vq2, Vi ((8 * (j : Int)) + (n : Int)), Vr 174] ((SHv st dr rd), (ovl a s bq2)) _
        refine Ev.last (c' := (ovl a s (updC bq2 174 ((8 * j + n)) vq2))) rfl (by decide) rfl (by omega) (by omega) (ovl_wm (by decide)) ?_
        refine Ev.steps (k := 2) (pc' := 55) (L' := [Vr 166, Vi 0]) (S' := []) (h' := ((SHv st dr rd), (ovl a s (updC bq2 174 ((8 * j + n)) vq2)))) (fun _ => rfl) ?_
        refine (m_room_l (b0 := (updC bq2 174 ((8 * j + n)) vq2)) hj hn8 0 (by omega) (by rw [updC_nt (by omega)]; exact ((hbq2.1 166 39 (by omega)).trans ((hoq1.1 166 39 (by omega)).trans hR.1.2.1))) (by rw [updC_nt (by omega)]; exact ((hbq2.1 168 j (by omega)).trans ((hoq1.1 168 j (by omega)).trans hcn))) (fun _ _ _ => rfl) (fun q hq => absurd hq (by omega))).mono ?_
        rintro r' h' ⟨rfl, b2, g1, g2, rfl⟩
        have hBR : BrM eq2 (updC bq2 174 ((8 * j + n)) vq2) := (hbq2.2.2.up (by omega))
        have hBA : BaM W (updC bq2 174 ((8 * j + n)) vq2) := (hbq2.2.1.up (by omega))
        rw [if_neg (by rw [hBR.2.1]; have := hBR.1; omega)]
        have hF2 : FrP (chR j n) (updC bq2 174 ((8 * j + n)) vq2) b2 := fun o i h1 h2 => g1 o i (fun q => h2 (Or.inr (Or.inr q)))
        refine ⟨rfl, b2, rfl, Or.inr ⟨eq2, ?_, ⟨((((((FrP.rf : FrP (chR j n) b b).fn hoq1.1).fn hbq2.1).up (by omega))).tr hF2).mo hP, hBA.fo (by funext x; exact g1 167 x (by omega)) (g1 166 2 (by omega)), ⟨hBR.1, (g1 166 8 (by omega)).trans hBR.2.1, (g1 166 9 (by omega)).trans hBR.2.2⟩⟩⟩⟩
        rw [if_neg (by omega)]
        unfold rooT
        rw [hxq1, bnX_o, hxq2, bnX_e]
    · show Ev X _ _ 23 [Vr 166, Vx] [Vi 0] ((SHv st dr rd), (ovl a s bq1)) _
      refine Ev.fin (k := 2) (r := none) (h' := ((SHv st dr rd), (ovl a s bq1))) (fun _ => rfl) ?_
      refine ⟨rfl, _, rfl, Or.inr ⟨eq1, ?_, ⟨(((FrP.rf : FrP (chR j n) b b).fn hbq1.1)).mo hP, hbq1.2.1, hbq1.2.2⟩⟩⟩
      rw [if_neg (by omega)]
      unfold rooT
      rw [hxq1, bnX_e]
  · refine Ev.call (k := 2) (pc1 := 20) (L1 := [Vr 166, Vx]) (S1 := [Vi 1, Vr 166]) (h1 := ((SHv st dr rd), (ovl a s b))) (m' := 164) (as := [Vr 166, Vi 1]) (S' := []) (L0 := [Vr 166, Vi 1]) (fun _ => rfl) rfl rfl rfl rfl rfl rfl (m_counts1 (b := b) hk) (fun r h' hq => ?_)
    obtain ⟨rfl, bq3, rfl, hbq3⟩ := hq
    show Ev X _ _ 23 [Vr 166, Vx] [Vi 0] ((SHv st dr rd), (ovl a s bq3)) _
    refine Ev.fin (k := 2) (r := none) (h' := ((SHv st dr rd), (ovl a s bq3))) (fun _ => rfl) ?_
    refine ⟨rfl, _, rfl, Or.inr ⟨(fltT W 5 p), if_pos (by omega), (FrP.rf : FrJ j b b).fn hbq3.1, hbq3.2⟩⟩
theorem m_who {X : List Int} {d : Nat} {st dr rd : Int} {a s b : C3} {W : TXT} {p : Nat} (hk : TkM W p b) {S : STY} (hW : WfY S) (hD : WfD S) {j c n : Nat} (hR : RqM S b j c) (hn : S.1 0 2 = (n : Int)) (hcn : b 170 j = (n : Int)) (hmx : n ≤ 8) : Ev X (d + 3) 185 0 [Vr 166, Vx] [] (SHv st dr rd, ovl a s b) (fun rr hh => rr = none ∧ ∃ b' : C3, hh = (SHv st dr rd, ovl a s b') ∧ ResC (if (8 : Int) ≤ S.1 0 2 then Except.error (fltT W 5 p) else whoT W S p) (fun r => TkM W r.2 b' ∧ RqM r.1 b' j c ∧ FrJ j b b') (fun e => BjM W j b e b')) := by
  have hN := hR.nm hW
  have hj := hN.1
  have hn0 : cntN S.1 0 = nR S := rfl
  have hn1 : cntN S.1 1 = nW S := rfl
  have hn2 : cntN S.1 2 = nT S := rfl
  have hnn : nW S = n := by show (S.1 0 2).toNat = n; rw [hn]; exact Int.toNat_natCast n
  refine Ev.steps (k := 5) (pc' := 9) (L' := [Vr 166, Vx]) (S' := [Vi (b 166 39), Vr 170, Vr 166]) (h' := ((SHv st dr rd), (ovl a s b))) (fun _ => rfl) ?_
  rw [hR.1.2.1]
  refine Ev.iald (v := (n : Int)) rfl (by decide) rfl (by omega) (by omega) (hcn) ?_
  refine Ev.ite (P := (n : Int) ≠ 8) (k := 2) (a := 19) (b := 15) (L' := [Vr 166, Vx]) (S' := [Vr 166]) (h' := ((SHv st dr rd), (ovl a s b))) (fun _ => rfl) (fun b12 => ?_) (fun b12 => ?_)
  · have hn8 : n < 8 := by omega
    have hP : ∀ o i, chWho j n o i → fjM j o i := fun o i h => by unfold fjM; omega
    refine Ev.call (k := 1) (pc1 := 20) (L1 := [Vr 166, Vx]) (S1 := [Vi 0, Vr 166]) (h1 := ((SHv st dr rd), (ovl a s b))) (m' := 164) (as := [Vr 166, Vi 0]) (S' := []) (L0 := [Vr 166, Vi 0]) (fun _ => rfl) rfl rfl rfl rfl rfl rfl (m_counts0 (b := b) hk) (fun r h' hq => ?_)
    obtain ⟨bq4, rfl, hq⟩ := hq
    rcases hq with ⟨pq4, hxq4, rfl, hoq4⟩ | ⟨eq4, hxq4, rfl, hbq4⟩
    · show Ev X _ _ 23 [Vr 166, Vx] [Vi 1] ((SHv st dr rd), (ovl a s bq4)) _
      refine Ev.steps (k := 4) (pc' := 33) (L' := [Vr 166, Vx]) (S' := [Vi (bq4 166 39), Vi 8]) (h' := ((SHv st dr rd), (ovl a s bq4))) (fun _ => rfl) ?_
      rw [((hoq4.1 166 39 (by omega)).trans hR.1.2.1)]
      refine Ev.steps (k := 1) (pc' := 34) (L' := [Vr 166, Vx]) (S' := [Vi (w32 (8 * (j : Int)))]) (h' := ((SHv st dr rd), (ovl a s bq4))) (fun _ => rfl) ?_
      rw [show (w32 (8 * (j : Int))) = (8 * (j : Int)) from w32_id (by unfold R32; omega)]
      refine Ev.steps (k := 4) (pc' := 42) (L' := [Vr 166, Vx]) (S' := [Vi (bq4 166 39), Vr 170, Vi (8 * (j : Int))]) (h' := ((SHv st dr rd), (ovl a s bq4))) (fun _ => rfl) ?_
      rw [((hoq4.1 166 39 (by omega)).trans hR.1.2.1)]
      refine Ev.iald (v := (n : Int)) rfl (by decide) rfl (by omega) (by omega) (((hoq4.1 170 j (by omega)).trans hcn)) ?_
      refine Ev.steps (k := 1) (pc' := 44) (L' := [Vr 166, Vx]) (S' := [Vi (w32 ((8 * (j : Int)) + (n : Int)))]) (h' := ((SHv st dr rd), (ovl a s bq4))) (fun _ => rfl) ?_
      rw [show (w32 ((8 * (j : Int)) + (n : Int))) = ((8 * (j : Int)) + (n : Int)) from w32_id (by unfold R32; omega)]
      refine Ev.call (k := 5) (pc1 := 51) (L1 := [Vr 166, Vi ((8 * (j : Int)) + (n : Int))]) (S1 := [Vr 166, Vi ((8 * (j : Int)) + (n : Int)), Vr 176]) (h1 := ((SHv st dr rd), (ovl a s bq4))) (m' := 183) (as := [Vr 166]) (S' := [Vi ((8 * (j : Int)) + (n : Int)), Vr 176]) (L0 := [Vr 166, Vx, Vx]) (fun _ => rfl) rfl rfl rfl rfl rfl rfl (m_fresh (b := bq4) hoq4.2 (hN.fr hoq4.1)) (fun r h' hq => ?_)
      obtain ⟨bq5, rfl, hq⟩ := hq
      rcases hq with ⟨rq5, hxq5, rfl, hoq5⟩ | ⟨eq5, hxq5, ⟨vq5, rfl⟩, hbq5⟩
      · show Ev X _ _ 54 [Vr 166, Vi ((8 * (j : Int)) + (n : Int))] [Vl ((rq5.1 : Nat) : Int), Vi ((8 * (j : Int)) + (n : Int)), Vr 176] ((SHv st dr rd), (ovl a s bq5)) _
        refine Ev.last (c' := (ovl a s (updC bq5 176 ((8 * j + n)) ((rq5.1 : Nat) : Int)))) rfl (by decide) rfl (by omega) (by omega) (ovl_wm (by decide)) ?_
        refine Ev.call (k := 2) (pc1 := 59) (L1 := [Vr 166, Vi ((8 * (j : Int)) + (n : Int))]) (S1 := [Vl 26990, Vr 166]) (h1 := ((SHv st dr rd), (ovl a s (updC bq5 176 ((8 * j + n)) ((rq5.1 : Nat) : Int))))) (m' := 181) (as := [Vr 166, Vl 26990]) (S' := []) (L0 := [Vr 166, Vl 26990, Vx]) (fun _ => rfl) rfl rfl rfl rfl rfl rfl (m_mustW (b := (updC bq5 176 ((8 * j + n)) ((rq5.1 : Nat) : Int))) (hoq5.2.up (by omega)) 3 (by decide) 26990 (by decide)) (fun r h' hq => ?_)
        obtain ⟨rfl, bq6, rfl, hq⟩ := hq
        rcases hq with ⟨pq6, hxq6, hoq6⟩ | ⟨eq6, hxq6, hbq6⟩
        · show Ev X _ _ 62 [Vr 166, Vi ((8 * (j : Int)) + (n : Int))] [] ((SHv st dr rd), (ovl a s bq6)) _
          refine Ev.call (k := 6) (pc1 := 70) (L1 := [Vr 166, Vi ((8 * (j : Int)) + (n : Int))]) (S1 := [Vi (-1), Vi 0, Vr 166, Vi ((8 * (j : Int)) + (n : Int)), Vr 177]) (h1 := ((SHv st dr rd), (ovl a s bq6))) (m' := 165) (as := [Vr 166, Vi 0, Vi (-1)]) (S' := [Vi ((8 * (j : Int)) + (n : Int)), Vr 177]) (L0 := [Vr 166, Vi 0, Vi (-1), Vx]) (fun _ => rfl) rfl rfl rfl rfl rfl rfl (m_asked_0 (b := bq6) hoq6.2 ((((hN.fr hoq4.1).fr hoq5.1).up (by omega) (by omega) (by omega) (by omega) (by omega)).fr hoq6.1) (-1)) (fun r h' hq => ?_)
          obtain ⟨bq7, rfl, hq⟩ := hq
          rcases hq with ⟨rq7, hxq7, rfl, hoq7⟩ | ⟨eq7, hxq7, ⟨vq7, rfl, wq7⟩, hbq7⟩
          · have lq7 := (ask_ok hxq7).2.2.1
            have nq7 := (hN.2.2 0 (by decide)).1
            show Ev X _ _ 73 [Vr 166, Vi ((8 * (j : Int)) + (n : Int))] [Vi ((rq7.1 : Nat) : Int), Vi ((8 * (j : Int)) + (n : Int)), Vr 177] ((SHv st dr rd), (ovl a s bq7)) _
            refine Ev.iast (c' := (ovl a s (updC bq7 177 ((8 * j + n)) ((rq7.1 : Nat) : Int)))) rfl (by decide) rfl (by omega) (by omega) (ovl_wm (by decide)) ?_
            refine Ev.steps (k := 2) (pc' := 78) (L' := [Vr 166, Vi ((8 * (j : Int)) + (n : Int))]) (S' := [Vi (bq7 166 8)]) (h' := ((SHv st dr rd), (ovl a s (updC bq7 177 ((8 * j + n)) ((rq7.1 : Nat) : Int))))) (fun _ => rfl) ?_
            rw [hoq7.2.2.1]
            refine Ev.steps (k := 5) (pc' := 89) (L' := [Vr 166, Vi ((8 * (j : Int)) + (n : Int))]) (S' := [Vi (bq7 166 39), Vr 170]) (h' := ((SHv st dr rd), (ovl a s (updC bq7 177 ((8 * j + n)) ((rq7.1 : Nat) : Int))))) (fun _ => rfl) ?_
            rw [((hoq7.1 166 39 (by omega)).trans ((hoq6.1 166 39 (by omega)).trans ((hoq5.1 166 39 (by omega)).trans ((hoq4.1 166 39 (by omega)).trans hR.1.2.1))))]
            refine Ev.steps (k := 1) (pc' := 90) (L' := [Vr 166, Vi ((8 * (j : Int)) + (n : Int))]) (S' := [Vi (j : Int), Vr 170, Vi (j : Int), Vr 170]) (h' := ((SHv st dr rd), (ovl a s (updC bq7 177 ((8 * j + n)) ((rq7.1 : Nat) : Int))))) (fun _ => rfl) ?_
            refine Ev.iald (v := (n : Int)) rfl (by decide) rfl (by omega) (by omega) (((hoq7.1 170 j (by omega)).trans ((hoq6.1 170 j (by omega)).trans ((hoq5.1 170 j (by omega)).trans ((hoq4.1 170 j (by omega)).trans hcn))))) ?_
            refine Ev.steps (k := 2) (pc' := 93) (L' := [Vr 166, Vi ((8 * (j : Int)) + (n : Int))]) (S' := [Vi (w32 ((n : Int) + 1)), Vi (j : Int), Vr 170]) (h' := ((SHv st dr rd), (ovl a s (updC bq7 177 ((8 * j + n)) ((rq7.1 : Nat) : Int))))) (fun _ => rfl) ?_
            rw [show (w32 ((n : Int) + 1)) = ((n : Int) + 1) from w32_id (by unfold R32; omega)]
            refine Ev.iast (c' := (ovl a s (updC (updC bq7 177 ((8 * j + n)) ((rq7.1 : Nat) : Int)) 170 j ((n : Int) + 1)))) rfl (by decide) rfl (by omega) (by omega) (ovl_wm (by decide)) ?_
            refine Ev.fin (k := 1) (r := none) (h' := ((SHv st dr rd), (ovl a s (updC (updC bq7 177 ((8 * j + n)) ((rq7.1 : Nat) : Int)) 170 j ((n : Int) + 1))))) (fun _ => rfl) ?_
            have hb : FrP (chWho j n) b (updC (updC bq7 177 ((8 * j + n)) ((rq7.1 : Nat) : Int)) 170 j ((n : Int) + 1)) := ((((((((FrP.rf : FrP (chWho j n) b b).fn hoq4.1).fn hoq5.1).up (by omega)).fn hoq6.1).fn hoq7.1).up (by omega)).up (by omega))
            refine ⟨rfl, _, rfl, Or.inl ⟨(_, rq7.2), ?_, ((hoq7.2.up (by omega)).up (by omega)), hR.who (w := rq5.1) (v := rq7.1) hn updC_sm ?_ ?_ hb ?_, hb.mo hP⟩⟩
            · rw [if_neg (by omega)]
              unfold whoT
              rw [hnn, hxq4, bnX_o, hxq5, bnX_o, hxq6, bnX_o, hxq7, bnX_o]
            · rw [updC_nt (by omega), updC_nt (by omega)]
              exact (hoq7.1 176 _ (by omega)).trans ((hoq6.1 176 _ (by omega)).trans updC_sm)
            · rw [updC_nt (by omega), updC_sm]
            · rw [updC_nt (by omega), updC_nt (by omega)]
              exact (hoq7.1 166 38 (by omega)).trans ((hoq6.1 166 38 (by omega)).trans ((updC_nt (by omega)).trans ((hoq5.1 166 38 (by omega)).trans ((hoq4.1 166 38 (by omega)).trans hR.1.2.2))))
          · show Ev X _ _ 73 [Vr 166, Vi ((8 * (j : Int)) + (n : Int))] [Vi vq7, Vi ((8 * (j : Int)) + (n : Int)), Vr 177] ((SHv st dr rd), (ovl a s bq7)) _
            refine Ev.iast (c' := (ovl a s (updC bq7 177 ((8 * j + n)) vq7))) rfl (by decide) rfl (by omega) (by omega) (ovl_wm (by decide)) ?_
            refine Ev.steps (k := 2) (pc' := 78) (L' := [Vr 166, Vi ((8 * (j : Int)) + (n : Int))]) (S' := [Vi (bq7 166 8)]) (h' := ((SHv st dr rd), (ovl a s (updC bq7 177 ((8 * j + n)) vq7)))) (fun _ => rfl) ?_
            rw [hbq7.2.2.2.1]
            refine Ev.ite (P := eq7.1 ≠ 0) (k := 1) (a := 94) (b := 81) (L' := [Vr 166, Vi ((8 * (j : Int)) + (n : Int))]) (S' := []) (h' := ((SHv st dr rd), (ovl a s (updC bq7 177 ((8 * j + n)) vq7)))) (fun _ => rfl) (fun b78 => ?_) (fun b78 => ?_)
            · refine Ev.fin (k := 1) (r := none) (h' := ((SHv st dr rd), (ovl a s (updC bq7 177 ((8 * j + n)) vq7)))) (fun _ => rfl) ?_
              refine ⟨rfl, _, rfl, Or.inr ⟨eq7, ?_, ⟨((((((((FrP.rf : FrP (chWho j n) b b).fn hoq4.1).fn hoq5.1).up (by omega)).fn hoq6.1).fn hbq7.1).up (by omega))).mo hP, (hbq7.2.1.up (by omega)), (hbq7.2.2.up (by omega))⟩⟩⟩
              rw [if_neg (by omega)]
              unfold whoT
              rw [hxq4, bnX_o, hxq5, bnX_o, hxq6, bnX_o, hxq7, bnX_e]
            · have := hbq7.2.2.1; omega
        · show Ev X _ _ 62 [Vr 166, Vi ((8 * (j : Int)) + (n : Int))] [] ((SHv st dr rd), (ovl a s bq6)) _
          refine Ev.call (k := 6) (pc1 := 70) (L1 := [Vr 166, Vi ((8 * (j : Int)) + (n : Int))]) (S1 := [Vi (-1), Vi 0, Vr 166, Vi ((8 * (j : Int)) + (n : Int)), Vr 177]) (h1 := ((SHv st dr rd), (ovl a s bq6))) (m' := 165) (as := [Vr 166, Vi 0, Vi (-1)]) (S' := [Vi ((8 * (j : Int)) + (n : Int)), Vr 177]) (L0 := [Vr 166, Vi 0, Vi (-1), Vx]) (fun _ => rfl) rfl rfl rfl rfl rfl rfl (m_asked_br (b := bq6) hbq6.2.2 0 (-1)) (fun r h' hq => ?_)
          obtain ⟨rfl, rfl⟩ := hq
          show Ev X _ _ 73 [Vr 166, Vi ((8 * (j : Int)) + (n : Int))] [Vi 0, Vi ((8 * (j : Int)) + (n : Int)), Vr 177] ((SHv st dr rd), (ovl a s bq6)) _
          refine Ev.iast (c' := (ovl a s (updC bq6 177 ((8 * j + n)) 0))) rfl (by decide) rfl (by omega) (by omega) (ovl_wm (by decide)) ?_
          refine Ev.steps (k := 2) (pc' := 78) (L' := [Vr 166, Vi ((8 * (j : Int)) + (n : Int))]) (S' := [Vi (bq6 166 8)]) (h' := ((SHv st dr rd), (ovl a s (updC bq6 177 ((8 * j + n)) 0)))) (fun _ => rfl) ?_
          rw [hbq6.2.2.2.1]
          refine Ev.ite (P := eq6.1 ≠ 0) (k := 1) (a := 94) (b := 81) (L' := [Vr 166, Vi ((8 * (j : Int)) + (n : Int))]) (S' := []) (h' := ((SHv st dr rd), (ovl a s (updC bq6 177 ((8 * j + n)) 0)))) (fun _ => rfl) (fun b78 => ?_) (fun b78 => ?_)
          · refine Ev.fin (k := 1) (r := none) (h' := ((SHv st dr rd), (ovl a s (updC bq6 177 ((8 * j + n)) 0)))) (fun _ => rfl) ?_
            refine ⟨rfl, _, rfl, Or.inr ⟨eq6, ?_, ⟨(((((((FrP.rf : FrP (chWho j n) b b).fn hoq4.1).fn hoq5.1).up (by omega)).fn hbq6.1).up (by omega))).mo hP, (hbq6.2.1.up (by omega)), (hbq6.2.2.up (by omega))⟩⟩⟩
            rw [if_neg (by omega)]
            unfold whoT
            rw [hxq4, bnX_o, hxq5, bnX_o, hxq6, bnX_e]
          · have := hbq6.2.2.1; omega
      · show Ev X _ _ 54 [Vr 166, Vi ((8 * (j : Int)) + (n : Int))] [Vl vq5, Vi ((8 * (j : Int)) + (n : Int)), Vr 176] ((SHv st dr rd), (ovl a s bq5)) _
        refine Ev.last (c' := (ovl a s (updC bq5 176 ((8 * j + n)) vq5))) rfl (by decide) rfl (by omega) (by omega) (ovl_wm (by decide)) ?_
        refine Ev.call (k := 2) (pc1 := 59) (L1 := [Vr 166, Vi ((8 * (j : Int)) + (n : Int))]) (S1 := [Vl 26990, Vr 166]) (h1 := ((SHv st dr rd), (ovl a s (updC bq5 176 ((8 * j + n)) vq5)))) (m' := 181) (as := [Vr 166, Vl 26990]) (S' := []) (L0 := [Vr 166, Vl 26990, Vx]) (fun _ => rfl) rfl rfl rfl rfl rfl rfl (m_mustW_br (b := (updC bq5 176 ((8 * j + n)) vq5)) (hbq5.2.2.up (by omega)) 26990) (fun r h' hq => ?_)
        obtain ⟨rfl, rfl⟩ := hq
        show Ev X _ _ 62 [Vr 166, Vi ((8 * (j : Int)) + (n : Int))] [] ((SHv st dr rd), (ovl a s (updC bq5 176 ((8 * j + n)) vq5))) _
        refine Ev.call (k := 6) (pc1 := 70) (L1 := [Vr 166, Vi ((8 * (j : Int)) + (n : Int))]) (S1 := [Vi (-1), Vi 0, Vr 166, Vi ((8 * (j : Int)) + (n : Int)), Vr 177]) (h1 := ((SHv st dr rd), (ovl a s (updC bq5 176 ((8 * j + n)) vq5)))) (m' := 165) (as := [Vr 166, Vi 0, Vi (-1)]) (S' := [Vi ((8 * (j : Int)) + (n : Int)), Vr 177]) (L0 := [Vr 166, Vi 0, Vi (-1), Vx]) (fun _ => rfl) rfl rfl rfl rfl rfl rfl (m_asked_br (b := (updC bq5 176 ((8 * j + n)) vq5)) (hbq5.2.2.up (by omega)) 0 (-1)) (fun r h' hq => ?_)
        obtain ⟨rfl, rfl⟩ := hq
        show Ev X _ _ 73 [Vr 166, Vi ((8 * (j : Int)) + (n : Int))] [Vi 0, Vi ((8 * (j : Int)) + (n : Int)), Vr 177] ((SHv st dr rd), (ovl a s (updC bq5 176 ((8 * j + n)) vq5))) _
        refine Ev.iast (c' := (ovl a s (updC (updC bq5 176 ((8 * j + n)) vq5) 177 ((8 * j + n)) 0))) rfl (by decide) rfl (by omega) (by omega) (ovl_wm (by decide)) ?_
        refine Ev.steps (k := 2) (pc' := 78) (L' := [Vr 166, Vi ((8 * (j : Int)) + (n : Int))]) (S' := [Vi (bq5 166 8)]) (h' := ((SHv st dr rd), (ovl a s (updC (updC bq5 176 ((8 * j + n)) vq5) 177 ((8 * j + n)) 0)))) (fun _ => rfl) ?_
        rw [hbq5.2.2.2.1]
        refine Ev.ite (P := eq5.1 ≠ 0) (k := 1) (a := 94) (b := 81) (L' := [Vr 166, Vi ((8 * (j : Int)) + (n : Int))]) (S' := []) (h' := ((SHv st dr rd), (ovl a s (updC (updC bq5 176 ((8 * j + n)) vq5) 177 ((8 * j + n)) 0)))) (fun _ => rfl) (fun b78 => ?_) (fun b78 => ?_)
        · refine Ev.fin (k := 1) (r := none) (h' := ((SHv st dr rd), (ovl a s (updC (updC bq5 176 ((8 * j + n)) vq5) 177 ((8 * j + n)) 0)))) (fun _ => rfl) ?_
          refine ⟨rfl, _, rfl, Or.inr ⟨eq5, ?_, ⟨((((((FrP.rf : FrP (chWho j n) b b).fn hoq4.1).fn hbq5.1).up (by omega)).up (by omega))).mo hP, ((hbq5.2.1.up (by omega)).up (by omega)), ((hbq5.2.2.up (by omega)).up (by omega))⟩⟩⟩
          rw [if_neg (by omega)]
          unfold whoT
          rw [hxq4, bnX_o, hxq5, bnX_e]
        · have := hbq5.2.2.1; omega
    · show Ev X _ _ 23 [Vr 166, Vx] [Vi 0] ((SHv st dr rd), (ovl a s bq4)) _
      refine Ev.fin (k := 2) (r := none) (h' := ((SHv st dr rd), (ovl a s bq4))) (fun _ => rfl) ?_
      refine ⟨rfl, _, rfl, Or.inr ⟨eq4, ?_, ⟨(((FrP.rf : FrP (chWho j n) b b).fn hbq4.1)).mo hP, hbq4.2.1, hbq4.2.2⟩⟩⟩
      rw [if_neg (by omega)]
      unfold whoT
      rw [hxq4, bnX_e]
  · refine Ev.call (k := 2) (pc1 := 20) (L1 := [Vr 166, Vx]) (S1 := [Vi 1, Vr 166]) (h1 := ((SHv st dr rd), (ovl a s b))) (m' := 164) (as := [Vr 166, Vi 1]) (S' := []) (L0 := [Vr 166, Vi 1]) (fun _ => rfl) rfl rfl rfl rfl rfl rfl (m_counts1 (b := b) hk) (fun r h' hq => ?_)
    obtain ⟨rfl, bq11, rfl, hbq11⟩ := hq
    show Ev X _ _ 23 [Vr 166, Vx] [Vi 0] ((SHv st dr rd), (ovl a s bq11)) _
    refine Ev.fin (k := 2) (r := none) (h' := ((SHv st dr rd), (ovl a s bq11))) (fun _ => rfl) ?_
    refine ⟨rfl, _, rfl, Or.inr ⟨(fltT W 5 p), if_pos (by omega), (FrP.rf : FrJ j b b).fn hbq11.1, hbq11.2⟩⟩
theorem m_thing {X : List Int} {d : Nat} {st dr rd : Int} {a s b : C3} {W : TXT} {p : Nat} (hk : TkM W p b) {S : STY} (hW : WfY S) (hD : WfD S) {j c n : Nat} (hR : RqM S b j c) (hn : S.1 0 3 = (n : Int)) (hcn : b 171 j = (n : Int)) (hmx : n ≤ 8) : Ev X (d + 3) 186 0 [Vr 166, Vx] [] (SHv st dr rd, ovl a s b) (fun rr hh => rr = none ∧ ∃ b' : C3, hh = (SHv st dr rd, ovl a s b') ∧ ResC (if (8 : Int) ≤ S.1 0 3 then Except.error (fltT W 5 p) else thiT W S p) (fun r => TkM W r.2 b' ∧ RqM r.1 b' j c ∧ FrJ j b b') (fun e => BjM W j b e b')) := by
  have hN := hR.nm hW
  have hj := hN.1
  have hn0 : cntN S.1 0 = nR S := rfl
  have hn1 : cntN S.1 1 = nW S := rfl
  have hn2 : cntN S.1 2 = nT S := rfl
  have hnn : nT S = n := by show (S.1 0 3).toNat = n; rw [hn]; exact Int.toNat_natCast n
  refine Ev.steps (k := 5) (pc' := 9) (L' := [Vr 166, Vx]) (S' := [Vi (b 166 39), Vr 171, Vr 166]) (h' := ((SHv st dr rd), (ovl a s b))) (fun _ => rfl) ?_
  rw [hR.1.2.1]
  refine Ev.iald (v := (n : Int)) rfl (by decide) rfl (by omega) (by omega) (hcn) ?_
  refine Ev.ite (P := (n : Int) ≠ 8) (k := 2) (a := 19) (b := 15) (L' := [Vr 166, Vx]) (S' := [Vr 166]) (h' := ((SHv st dr rd), (ovl a s b))) (fun _ => rfl) (fun b12 => ?_) (fun b12 => ?_)
  · have hn8 : n < 8 := by omega
    have hP : ∀ o i, chThing j n o i → fjM j o i := fun o i h => by unfold fjM; omega
    refine Ev.call (k := 1) (pc1 := 20) (L1 := [Vr 166, Vx]) (S1 := [Vi 0, Vr 166]) (h1 := ((SHv st dr rd), (ovl a s b))) (m' := 164) (as := [Vr 166, Vi 0]) (S' := []) (L0 := [Vr 166, Vi 0]) (fun _ => rfl) rfl rfl rfl rfl rfl rfl (m_counts0 (b := b) hk) (fun r h' hq => ?_)
    obtain ⟨bq12, rfl, hq⟩ := hq
    rcases hq with ⟨pq12, hxq12, rfl, hoq12⟩ | ⟨eq12, hxq12, rfl, hbq12⟩
    · show Ev X _ _ 23 [Vr 166, Vx] [Vi 1] ((SHv st dr rd), (ovl a s bq12)) _
      refine Ev.steps (k := 4) (pc' := 33) (L' := [Vr 166, Vx]) (S' := [Vi (bq12 166 39), Vi 8]) (h' := ((SHv st dr rd), (ovl a s bq12))) (fun _ => rfl) ?_
      rw [((hoq12.1 166 39 (by omega)).trans hR.1.2.1)]
      refine Ev.steps (k := 1) (pc' := 34) (L' := [Vr 166, Vx]) (S' := [Vi (w32 (8 * (j : Int)))]) (h' := ((SHv st dr rd), (ovl a s bq12))) (fun _ => rfl) ?_
      rw [show (w32 (8 * (j : Int))) = (8 * (j : Int)) from w32_id (by unfold R32; omega)]
      refine Ev.steps (k := 4) (pc' := 42) (L' := [Vr 166, Vx]) (S' := [Vi (bq12 166 39), Vr 171, Vi (8 * (j : Int))]) (h' := ((SHv st dr rd), (ovl a s bq12))) (fun _ => rfl) ?_
      rw [((hoq12.1 166 39 (by omega)).trans hR.1.2.1)]
      refine Ev.iald (v := (n : Int)) rfl (by decide) rfl (by omega) (by omega) (((hoq12.1 171 j (by omega)).trans hcn)) ?_
      refine Ev.steps (k := 1) (pc' := 44) (L' := [Vr 166, Vx]) (S' := [Vi (w32 ((8 * (j : Int)) + (n : Int)))]) (h' := ((SHv st dr rd), (ovl a s bq12))) (fun _ => rfl) ?_
      rw [show (w32 ((8 * (j : Int)) + (n : Int))) = ((8 * (j : Int)) + (n : Int)) from w32_id (by unfold R32; omega)]
      refine Ev.call (k := 5) (pc1 := 51) (L1 := [Vr 166, Vi ((8 * (j : Int)) + (n : Int))]) (S1 := [Vr 166, Vi ((8 * (j : Int)) + (n : Int)), Vr 178]) (h1 := ((SHv st dr rd), (ovl a s bq12))) (m' := 183) (as := [Vr 166]) (S' := [Vi ((8 * (j : Int)) + (n : Int)), Vr 178]) (L0 := [Vr 166, Vx, Vx]) (fun _ => rfl) rfl rfl rfl rfl rfl rfl (m_fresh (b := bq12) hoq12.2 (hN.fr hoq12.1)) (fun r h' hq => ?_)
      obtain ⟨bq13, rfl, hq⟩ := hq
      rcases hq with ⟨rq13, hxq13, rfl, hoq13⟩ | ⟨eq13, hxq13, ⟨vq13, rfl⟩, hbq13⟩
      · show Ev X _ _ 54 [Vr 166, Vi ((8 * (j : Int)) + (n : Int))] [Vl ((rq13.1 : Nat) : Int), Vi ((8 * (j : Int)) + (n : Int)), Vr 178] ((SHv st dr rd), (ovl a s bq13)) _
        refine Ev.last (c' := (ovl a s (updC bq13 178 ((8 * j + n)) ((rq13.1 : Nat) : Int)))) rfl (by decide) rfl (by omega) (by omega) (ovl_wm (by decide)) ?_
        refine Ev.call (k := 2) (pc1 := 59) (L1 := [Vr 166, Vi ((8 * (j : Int)) + (n : Int))]) (S1 := [Vl 26990, Vr 166]) (h1 := ((SHv st dr rd), (ovl a s (updC bq13 178 ((8 * j + n)) ((rq13.1 : Nat) : Int))))) (m' := 181) (as := [Vr 166, Vl 26990]) (S' := []) (L0 := [Vr 166, Vl 26990, Vx]) (fun _ => rfl) rfl rfl rfl rfl rfl rfl (m_mustW (b := (updC bq13 178 ((8 * j + n)) ((rq13.1 : Nat) : Int))) (hoq13.2.up (by omega)) 3 (by decide) 26990 (by decide)) (fun r h' hq => ?_)
        obtain ⟨rfl, bq14, rfl, hq⟩ := hq
        rcases hq with ⟨pq14, hxq14, hoq14⟩ | ⟨eq14, hxq14, hbq14⟩
        · show Ev X _ _ 62 [Vr 166, Vi ((8 * (j : Int)) + (n : Int))] [] ((SHv st dr rd), (ovl a s bq14)) _
          refine Ev.call (k := 6) (pc1 := 70) (L1 := [Vr 166, Vi ((8 * (j : Int)) + (n : Int))]) (S1 := [Vi (-1), Vi 0, Vr 166, Vi ((8 * (j : Int)) + (n : Int)), Vr 179]) (h1 := ((SHv st dr rd), (ovl a s bq14))) (m' := 165) (as := [Vr 166, Vi 0, Vi (-1)]) (S' := [Vi ((8 * (j : Int)) + (n : Int)), Vr 179]) (L0 := [Vr 166, Vi 0, Vi (-1), Vx]) (fun _ => rfl) rfl rfl rfl rfl rfl rfl (m_asked_0 (b := bq14) hoq14.2 ((((hN.fr hoq12.1).fr hoq13.1).up (by omega) (by omega) (by omega) (by omega) (by omega)).fr hoq14.1) (-1)) (fun r h' hq => ?_)
          obtain ⟨bq15, rfl, hq⟩ := hq
          rcases hq with ⟨rq15, hxq15, rfl, hoq15⟩ | ⟨eq15, hxq15, ⟨vq15, rfl, wq15⟩, hbq15⟩
          · have lq15 := (ask_ok hxq15).2.2.1
            have nq15 := (hN.2.2 0 (by decide)).1
            show Ev X _ _ 73 [Vr 166, Vi ((8 * (j : Int)) + (n : Int))] [Vi ((rq15.1 : Nat) : Int), Vi ((8 * (j : Int)) + (n : Int)), Vr 179] ((SHv st dr rd), (ovl a s bq15)) _
            refine Ev.iast (c' := (ovl a s (updC bq15 179 ((8 * j + n)) ((rq15.1 : Nat) : Int)))) rfl (by decide) rfl (by omega) (by omega) (ovl_wm (by decide)) ?_
            refine Ev.steps (k := 2) (pc' := 78) (L' := [Vr 166, Vi ((8 * (j : Int)) + (n : Int))]) (S' := [Vi (bq15 166 8)]) (h' := ((SHv st dr rd), (ovl a s (updC bq15 179 ((8 * j + n)) ((rq15.1 : Nat) : Int))))) (fun _ => rfl) ?_
            rw [hoq15.2.2.1]
            refine Ev.steps (k := 5) (pc' := 89) (L' := [Vr 166, Vi ((8 * (j : Int)) + (n : Int))]) (S' := [Vi (bq15 166 39), Vr 171]) (h' := ((SHv st dr rd), (ovl a s (updC bq15 179 ((8 * j + n)) ((rq15.1 : Nat) : Int))))) (fun _ => rfl) ?_
            rw [((hoq15.1 166 39 (by omega)).trans ((hoq14.1 166 39 (by omega)).trans ((hoq13.1 166 39 (by omega)).trans ((hoq12.1 166 39 (by omega)).trans hR.1.2.1))))]
            refine Ev.steps (k := 1) (pc' := 90) (L' := [Vr 166, Vi ((8 * (j : Int)) + (n : Int))]) (S' := [Vi (j : Int), Vr 171, Vi (j : Int), Vr 171]) (h' := ((SHv st dr rd), (ovl a s (updC bq15 179 ((8 * j + n)) ((rq15.1 : Nat) : Int))))) (fun _ => rfl) ?_
            refine Ev.iald (v := (n : Int)) rfl (by decide) rfl (by omega) (by omega) (((hoq15.1 171 j (by omega)).trans ((hoq14.1 171 j (by omega)).trans ((hoq13.1 171 j (by omega)).trans ((hoq12.1 171 j (by omega)).trans hcn))))) ?_
            refine Ev.steps (k := 2) (pc' := 93) (L' := [Vr 166, Vi ((8 * (j : Int)) + (n : Int))]) (S' := [Vi (w32 ((n : Int) + 1)), Vi (j : Int), Vr 171]) (h' := ((SHv st dr rd), (ovl a s (updC bq15 179 ((8 * j + n)) ((rq15.1 : Nat) : Int))))) (fun _ => rfl) ?_
            rw [show (w32 ((n : Int) + 1)) = ((n : Int) + 1) from w32_id (by unfold R32; omega)]
            refine Ev.iast (c' := (ovl a s (updC (updC bq15 179 ((8 * j + n)) ((rq15.1 : Nat) : Int)) 171 j ((n : Int) + 1)))) rfl (by decide) rfl (by omega) (by omega) (ovl_wm (by decide)) ?_
            refine Ev.fin (k := 1) (r := none) (h' := ((SHv st dr rd), (ovl a s (updC (updC bq15 179 ((8 * j + n)) ((rq15.1 : Nat) : Int)) 171 j ((n : Int) + 1))))) (fun _ => rfl) ?_
            have hb : FrP (chThing j n) b (updC (updC bq15 179 ((8 * j + n)) ((rq15.1 : Nat) : Int)) 171 j ((n : Int) + 1)) := ((((((((FrP.rf : FrP (chThing j n) b b).fn hoq12.1).fn hoq13.1).up (by omega)).fn hoq14.1).fn hoq15.1).up (by omega)).up (by omega))
            refine ⟨rfl, _, rfl, Or.inl ⟨(_, rq15.2), ?_, ((hoq15.2.up (by omega)).up (by omega)), hR.thing (w := rq13.1) (v := rq15.1) hn updC_sm ?_ ?_ hb ?_, hb.mo hP⟩⟩
            · rw [if_neg (by omega)]
              unfold thiT
              rw [hnn, hxq12, bnX_o, hxq13, bnX_o, hxq14, bnX_o, hxq15, bnX_o]
            · rw [updC_nt (by omega), updC_nt (by omega)]
              exact (hoq15.1 178 _ (by omega)).trans ((hoq14.1 178 _ (by omega)).trans updC_sm)
            · rw [updC_nt (by omega), updC_sm]
            · rw [updC_nt (by omega), updC_nt (by omega)]
              exact (hoq15.1 166 38 (by omega)).trans ((hoq14.1 166 38 (by omega)).trans ((updC_nt (by omega)).trans ((hoq13.1 166 38 (by omega)).trans ((hoq12.1 166 38 (by omega)).trans hR.1.2.2))))
          · show Ev X _ _ 73 [Vr 166, Vi ((8 * (j : Int)) + (n : Int))] [Vi vq15, Vi ((8 * (j : Int)) + (n : Int)), Vr 179] ((SHv st dr rd), (ovl a s bq15)) _
            refine Ev.iast (c' := (ovl a s (updC bq15 179 ((8 * j + n)) vq15))) rfl (by decide) rfl (by omega) (by omega) (ovl_wm (by decide)) ?_
            refine Ev.steps (k := 2) (pc' := 78) (L' := [Vr 166, Vi ((8 * (j : Int)) + (n : Int))]) (S' := [Vi (bq15 166 8)]) (h' := ((SHv st dr rd), (ovl a s (updC bq15 179 ((8 * j + n)) vq15)))) (fun _ => rfl) ?_
            rw [hbq15.2.2.2.1]
            refine Ev.ite (P := eq15.1 ≠ 0) (k := 1) (a := 94) (b := 81) (L' := [Vr 166, Vi ((8 * (j : Int)) + (n : Int))]) (S' := []) (h' := ((SHv st dr rd), (ovl a s (updC bq15 179 ((8 * j + n)) vq15)))) (fun _ => rfl) (fun b78 => ?_) (fun b78 => ?_)
            · refine Ev.fin (k := 1) (r := none) (h' := ((SHv st dr rd), (ovl a s (updC bq15 179 ((8 * j + n)) vq15)))) (fun _ => rfl) ?_
              refine ⟨rfl, _, rfl, Or.inr ⟨eq15, ?_, ⟨((((((((FrP.rf : FrP (chThing j n) b b).fn hoq12.1).fn hoq13.1).up (by omega)).fn hoq14.1).fn hbq15.1).up (by omega))).mo hP, (hbq15.2.1.up (by omega)), (hbq15.2.2.up (by omega))⟩⟩⟩
              rw [if_neg (by omega)]
              unfold thiT
              rw [hxq12, bnX_o, hxq13, bnX_o, hxq14, bnX_o, hxq15, bnX_e]
            · have := hbq15.2.2.1; omega
        · show Ev X _ _ 62 [Vr 166, Vi ((8 * (j : Int)) + (n : Int))] [] ((SHv st dr rd), (ovl a s bq14)) _
          refine Ev.call (k := 6) (pc1 := 70) (L1 := [Vr 166, Vi ((8 * (j : Int)) + (n : Int))]) (S1 := [Vi (-1), Vi 0, Vr 166, Vi ((8 * (j : Int)) + (n : Int)), Vr 179]) (h1 := ((SHv st dr rd), (ovl a s bq14))) (m' := 165) (as := [Vr 166, Vi 0, Vi (-1)]) (S' := [Vi ((8 * (j : Int)) + (n : Int)), Vr 179]) (L0 := [Vr 166, Vi 0, Vi (-1), Vx]) (fun _ => rfl) rfl rfl rfl rfl rfl rfl (m_asked_br (b := bq14) hbq14.2.2 0 (-1)) (fun r h' hq => ?_)
          obtain ⟨rfl, rfl⟩ := hq
          show Ev X _ _ 73 [Vr 166, Vi ((8 * (j : Int)) + (n : Int))] [Vi 0, Vi ((8 * (j : Int)) + (n : Int)), Vr 179] ((SHv st dr rd), (ovl a s bq14)) _
          refine Ev.iast (c' := (ovl a s (updC bq14 179 ((8 * j + n)) 0))) rfl (by decide) rfl (by omega) (by omega) (ovl_wm (by decide)) ?_
          refine Ev.steps (k := 2) (pc' := 78) (L' := [Vr 166, Vi ((8 * (j : Int)) + (n : Int))]) (S' := [Vi (bq14 166 8)]) (h' := ((SHv st dr rd), (ovl a s (updC bq14 179 ((8 * j + n)) 0)))) (fun _ => rfl) ?_
          rw [hbq14.2.2.2.1]
          refine Ev.ite (P := eq14.1 ≠ 0) (k := 1) (a := 94) (b := 81) (L' := [Vr 166, Vi ((8 * (j : Int)) + (n : Int))]) (S' := []) (h' := ((SHv st dr rd), (ovl a s (updC bq14 179 ((8 * j + n)) 0)))) (fun _ => rfl) (fun b78 => ?_) (fun b78 => ?_)
          · refine Ev.fin (k := 1) (r := none) (h' := ((SHv st dr rd), (ovl a s (updC bq14 179 ((8 * j + n)) 0)))) (fun _ => rfl) ?_
            refine ⟨rfl, _, rfl, Or.inr ⟨eq14, ?_, ⟨(((((((FrP.rf : FrP (chThing j n) b b).fn hoq12.1).fn hoq13.1).up (by omega)).fn hbq14.1).up (by omega))).mo hP, (hbq14.2.1.up (by omega)), (hbq14.2.2.up (by omega))⟩⟩⟩
            rw [if_neg (by omega)]
            unfold thiT
            rw [hxq12, bnX_o, hxq13, bnX_o, hxq14, bnX_e]
          · have := hbq14.2.2.1; omega
      · show Ev X _ _ 54 [Vr 166, Vi ((8 * (j : Int)) + (n : Int))] [Vl vq13, Vi ((8 * (j : Int)) + (n : Int)), Vr 178] ((SHv st dr rd), (ovl a s bq13)) _
        refine Ev.last (c' := (ovl a s (updC bq13 178 ((8 * j + n)) vq13))) rfl (by decide) rfl (by omega) (by omega) (ovl_wm (by decide)) ?_
        refine Ev.call (k := 2) (pc1 := 59) (L1 := [Vr 166, Vi ((8 * (j : Int)) + (n : Int))]) (S1 := [Vl 26990, Vr 166]) (h1 := ((SHv st dr rd), (ovl a s (updC bq13 178 ((8 * j + n)) vq13)))) (m' := 181) (as := [Vr 166, Vl 26990]) (S' := []) (L0 := [Vr 166, Vl 26990, Vx]) (fun _ => rfl) rfl rfl rfl rfl rfl rfl (m_mustW_br (b := (updC bq13 178 ((8 * j + n)) vq13)) (hbq13.2.2.up (by omega)) 26990) (fun r h' hq => ?_)
        obtain ⟨rfl, rfl⟩ := hq
        show Ev X _ _ 62 [Vr 166, Vi ((8 * (j : Int)) + (n : Int))] [] ((SHv st dr rd), (ovl a s (updC bq13 178 ((8 * j + n)) vq13))) _
        refine Ev.call (k := 6) (pc1 := 70) (L1 := [Vr 166, Vi ((8 * (j : Int)) + (n : Int))]) (S1 := [Vi (-1), Vi 0, Vr 166, Vi ((8 * (j : Int)) + (n : Int)), Vr 179]) (h1 := ((SHv st dr rd), (ovl a s (updC bq13 178 ((8 * j + n)) vq13)))) (m' := 165) (as := [Vr 166, Vi 0, Vi (-1)]) (S' := [Vi ((8 * (j : Int)) + (n : Int)), Vr 179]) (L0 := [Vr 166, Vi 0, Vi (-1), Vx]) (fun _ => rfl) rfl rfl rfl rfl rfl rfl (m_asked_br (b := (updC bq13 178 ((8 * j + n)) vq13)) (hbq13.2.2.up (by omega)) 0 (-1)) (fun r h' hq => ?_)
        obtain ⟨rfl, rfl⟩ := hq
        show Ev X _ _ 73 [Vr 166, Vi ((8 * (j : Int)) + (n : Int))] [Vi 0, Vi ((8 * (j : Int)) + (n : Int)), Vr 179] ((SHv st dr rd), (ovl a s (updC bq13 178 ((8 * j + n)) vq13))) _
        refine Ev.iast (c' := (ovl a s (updC (updC bq13 178 ((8 * j + n)) vq13) 179 ((8 * j + n)) 0))) rfl (by decide) rfl (by omega) (by omega) (ovl_wm (by decide)) ?_
        refine Ev.steps (k := 2) (pc' := 78) (L' := [Vr 166, Vi ((8 * (j : Int)) + (n : Int))]) (S' := [Vi (bq13 166 8)]) (h' := ((SHv st dr rd), (ovl a s (updC (updC bq13 178 ((8 * j + n)) vq13) 179 ((8 * j + n)) 0)))) (fun _ => rfl) ?_
        rw [hbq13.2.2.2.1]
        refine Ev.ite (P := eq13.1 ≠ 0) (k := 1) (a := 94) (b := 81) (L' := [Vr 166, Vi ((8 * (j : Int)) + (n : Int))]) (S' := []) (h' := ((SHv st dr rd), (ovl a s (updC (updC bq13 178 ((8 * j + n)) vq13) 179 ((8 * j + n)) 0)))) (fun _ => rfl) (fun b78 => ?_) (fun b78 => ?_)
        · refine Ev.fin (k := 1) (r := none) (h' := ((SHv st dr rd), (ovl a s (updC (updC bq13 178 ((8 * j + n)) vq13) 179 ((8 * j + n)) 0)))) (fun _ => rfl) ?_
          refine ⟨rfl, _, rfl, Or.inr ⟨eq13, ?_, ⟨((((((FrP.rf : FrP (chThing j n) b b).fn hoq12.1).fn hbq13.1).up (by omega)).up (by omega))).mo hP, ((hbq13.2.1.up (by omega)).up (by omega)), ((hbq13.2.2.up (by omega)).up (by omega))⟩⟩⟩
          rw [if_neg (by omega)]
          unfold thiT
          rw [hxq12, bnX_o, hxq13, bnX_e]
        · have := hbq13.2.2.1; omega
    · show Ev X _ _ 23 [Vr 166, Vx] [Vi 0] ((SHv st dr rd), (ovl a s bq12)) _
      refine Ev.fin (k := 2) (r := none) (h' := ((SHv st dr rd), (ovl a s bq12))) (fun _ => rfl) ?_
      refine ⟨rfl, _, rfl, Or.inr ⟨eq12, ?_, ⟨(((FrP.rf : FrP (chThing j n) b b).fn hbq12.1)).mo hP, hbq12.2.1, hbq12.2.2⟩⟩⟩
      rw [if_neg (by omega)]
      unfold thiT
      rw [hxq12, bnX_e]
  · refine Ev.call (k := 2) (pc1 := 20) (L1 := [Vr 166, Vx]) (S1 := [Vi 1, Vr 166]) (h1 := ((SHv st dr rd), (ovl a s b))) (m' := 164) (as := [Vr 166, Vi 1]) (S' := []) (L0 := [Vr 166, Vi 1]) (fun _ => rfl) rfl rfl rfl rfl rfl rfl (m_counts1 (b := b) hk) (fun r h' hq => ?_)
    obtain ⟨rfl, bq19, rfl, hbq19⟩ := hq
    show Ev X _ _ 23 [Vr 166, Vx] [Vi 0] ((SHv st dr rd), (ovl a s bq19)) _
    refine Ev.fin (k := 2) (r := none) (h' := ((SHv st dr rd), (ovl a s bq19))) (fun _ => rfl) ?_
    refine ⟨rfl, _, rfl, Or.inr ⟨(fltT W 5 p), if_pos (by omega), (FrP.rf : FrJ j b b).fn hbq19.1, hbq19.2⟩⟩
theorem m_says {X : List Int} {d : Nat} {st dr rd : Int} {a s b : C3} {W : TXT} {p : Nat} (hk : TkM W p b) {S : STY} (hW : WfY S) (hD : WfD S) {j c n : Nat} (hR : RqM S b j c) (hn : S.1 0 5 = (n : Int)) (hcn : b 172 j = (n : Int)) (hmx : n ≤ 12) : Ev X (d + 3) 187 0 [Vr 166, Vx] [] (SHv st dr rd, ovl a s b) (fun rr hh => rr = none ∧ ∃ b' : C3, hh = (SHv st dr rd, ovl a s b') ∧ ResC (if (12 : Int) ≤ S.1 0 5 then Except.error (fltT W 5 p) else sayT W S p) (fun r => TkM W r.2 b' ∧ RqM r.1 b' j c ∧ FrJ j b b') (fun e => BjM W j b e b')) := by
  have hN := hR.nm hW
  have hj := hN.1
  have hn0 : cntN S.1 0 = nR S := rfl
  have hn1 : cntN S.1 1 = nW S := rfl
  have hn2 : cntN S.1 2 = nT S := rfl
  have hnn : nC S = n := by show (S.1 0 5).toNat = n; rw [hn]; exact Int.toNat_natCast n
  refine Ev.steps (k := 5) (pc' := 9) (L' := [Vr 166, Vx]) (S' := [Vi (b 166 39), Vr 172, Vr 166]) (h' := ((SHv st dr rd), (ovl a s b))) (fun _ => rfl) ?_
  rw [hR.1.2.1]
  refine Ev.iald (v := (n : Int)) rfl (by decide) rfl (by omega) (by omega) (hcn) ?_
  refine Ev.ite (P := (n : Int) ≠ 12) (k := 2) (a := 19) (b := 15) (L' := [Vr 166, Vx]) (S' := [Vr 166]) (h' := ((SHv st dr rd), (ovl a s b))) (fun _ => rfl) (fun b12 => ?_) (fun b12 => ?_)
  · have hn8 : n < 12 := by omega
    have hP : ∀ o i, chS j n o i → fjM j o i := fun o i h => by unfold fjM; omega
    refine Ev.call (k := 1) (pc1 := 20) (L1 := [Vr 166, Vx]) (S1 := [Vi 0, Vr 166]) (h1 := ((SHv st dr rd), (ovl a s b))) (m' := 164) (as := [Vr 166, Vi 0]) (S' := []) (L0 := [Vr 166, Vi 0]) (fun _ => rfl) rfl rfl rfl rfl rfl rfl (m_counts0 (b := b) hk) (fun r h' hq => ?_)
    obtain ⟨bq20, rfl, hq⟩ := hq
    rcases hq with ⟨pq20, hxq20, rfl, hoq20⟩ | ⟨eq20, hxq20, rfl, hbq20⟩
    · show Ev X _ _ 23 [Vr 166, Vx] [Vi 1] ((SHv st dr rd), (ovl a s bq20)) _
      refine Ev.steps (k := 4) (pc' := 33) (L' := [Vr 166, Vx]) (S' := [Vi (bq20 166 39), Vi 12]) (h' := ((SHv st dr rd), (ovl a s bq20))) (fun _ => rfl) ?_
      rw [((hoq20.1 166 39 (by omega)).trans hR.1.2.1)]
      refine Ev.steps (k := 1) (pc' := 34) (L' := [Vr 166, Vx]) (S' := [Vi (w32 (12 * (j : Int)))]) (h' := ((SHv st dr rd), (ovl a s bq20))) (fun _ => rfl) ?_
      rw [show (w32 (12 * (j : Int))) = (12 * (j : Int)) from w32_id (by unfold R32; omega)]
      refine Ev.steps (k := 4) (pc' := 42) (L' := [Vr 166, Vx]) (S' := [Vi (bq20 166 39), Vr 172, Vi (12 * (j : Int))]) (h' := ((SHv st dr rd), (ovl a s bq20))) (fun _ => rfl) ?_
      rw [((hoq20.1 166 39 (by omega)).trans hR.1.2.1)]
      refine Ev.iald (v := (n : Int)) rfl (by decide) rfl (by omega) (by omega) (((hoq20.1 172 j (by omega)).trans hcn)) ?_
      refine Ev.steps (k := 1) (pc' := 44) (L' := [Vr 166, Vx]) (S' := [Vi (w32 ((12 * (j : Int)) + (n : Int)))]) (h' := ((SHv st dr rd), (ovl a s bq20))) (fun _ => rfl) ?_
      rw [show (w32 ((12 * (j : Int)) + (n : Int))) = ((12 * (j : Int)) + (n : Int)) from w32_id (by unfold R32; omega)]
      refine Ev.call (k := 7) (pc1 := 53) (L1 := [Vr 166, Vi ((12 * (j : Int)) + (n : Int))]) (S1 := [Vi (-1), Vi 1, Vr 166, Vi ((12 * (j : Int)) + (n : Int)), Vr 180]) (h1 := ((SHv st dr rd), (ovl a s bq20))) (m' := 165) (as := [Vr 166, Vi 1, Vi (-1)]) (S' := [Vi ((12 * (j : Int)) + (n : Int)), Vr 180]) (L0 := [Vr 166, Vi 1, Vi (-1), Vx]) (fun _ => rfl) rfl rfl rfl rfl rfl rfl (m_asked_1 (b := bq20) hoq20.2 (hN.fr hoq20.1) (-1)) (fun r h' hq => ?_)
      obtain ⟨bq21, rfl, hq⟩ := hq
      rcases hq with ⟨rq21, hxq21, rfl, hoq21⟩ | ⟨eq21, hxq21, ⟨vq21, rfl, wq21⟩, hbq21⟩
      · have lq21 := (ask_ok hxq21).2.2.1
        have nq21 := (hN.2.2 1 (by decide)).1
        show Ev X _ _ 56 [Vr 166, Vi ((12 * (j : Int)) + (n : Int))] [Vi ((rq21.1 : Nat) : Int), Vi ((12 * (j : Int)) + (n : Int)), Vr 180] ((SHv st dr rd), (ovl a s bq21)) _
        refine Ev.iast (c' := (ovl a s (updC bq21 180 ((12 * j + n)) ((rq21.1 : Nat) : Int)))) rfl (by decide) rfl (by omega) (by omega) (ovl_wm (by decide)) ?_
        refine Ev.call (k := 6) (pc1 := 65) (L1 := [Vr 166, Vi ((12 * (j : Int)) + (n : Int))]) (S1 := [Vi (-1), Vi 0, Vr 166, Vi ((12 * (j : Int)) + (n : Int)), Vr 181]) (h1 := ((SHv st dr rd), (ovl a s (updC bq21 180 ((12 * j + n)) ((rq21.1 : Nat) : Int))))) (m' := 165) (as := [Vr 166, Vi 0, Vi (-1)]) (S' := [Vi ((12 * (j : Int)) + (n : Int)), Vr 181]) (L0 := [Vr 166, Vi 0, Vi (-1), Vx]) (fun _ => rfl) rfl rfl rfl rfl rfl rfl (m_asked_0 (b := (updC bq21 180 ((12 * j + n)) ((rq21.1 : Nat) : Int))) (hoq21.2.up (by omega)) (((hN.fr hoq20.1).fr hoq21.1).up (by omega) (by omega) (by omega) (by omega) (by omega)) (-1)) (fun r h' hq => ?_)
        obtain ⟨bq22, rfl, hq⟩ := hq
        rcases hq with ⟨rq22, hxq22, rfl, hoq22⟩ | ⟨eq22, hxq22, ⟨vq22, rfl, wq22⟩, hbq22⟩
        · have lq22 := (ask_ok hxq22).2.2.1
          have nq22 := (hN.2.2 0 (by decide)).1
          show Ev X _ _ 68 [Vr 166, Vi ((12 * (j : Int)) + (n : Int))] [Vi ((rq22.1 : Nat) : Int), Vi ((12 * (j : Int)) + (n : Int)), Vr 181] ((SHv st dr rd), (ovl a s bq22)) _
          refine Ev.iast (c' := (ovl a s (updC bq22 181 ((12 * j + n)) ((rq22.1 : Nat) : Int)))) rfl (by decide) rfl (by omega) (by omega) (ovl_wm (by decide)) ?_
          refine Ev.call (k := 6) (pc1 := 79) (L1 := [Vr 166, Vi ((12 * (j : Int)) + (n : Int))]) (S1 := [Vi 179, Vi 0, Vr 166, Vi ((12 * (j : Int)) + (n : Int)), Vr 182]) (h1 := ((SHv st dr rd), (ovl a s (updC bq22 181 ((12 * j + n)) ((rq22.1 : Nat) : Int))))) (m' := 188) (as := [Vr 166, Vi 0, Vi 179]) (S' := [Vi ((12 * (j : Int)) + (n : Int)), Vr 182]) (L0 := [Vr 166, Vi 0, Vi 179, Vx]) (fun _ => rfl) rfl rfl rfl rfl rfl rfl (m_number (b := (updC bq22 181 ((12 * j + n)) ((rq22.1 : Nat) : Int))) (hoq22.2.up (by omega)) 0) (fun r h' hq => ?_)
          obtain ⟨bq23, rfl, hq⟩ := hq
          rcases hq with ⟨rq23, hxq23, rfl, hoq23⟩ | ⟨eq23, hxq23, ⟨vq23, rfl⟩, hbq23⟩
          · show Ev X _ _ 82 [Vr 166, Vi ((12 * (j : Int)) + (n : Int))] [Vi ((rq23.1 : Nat) : Int), Vi ((12 * (j : Int)) + (n : Int)), Vr 182] ((SHv st dr rd), (ovl a s bq23)) _
            refine Ev.iast (c' := (ovl a s (updC bq23 182 ((12 * j + n)) ((rq23.1 : Nat) : Int)))) rfl (by decide) rfl (by omega) (by omega) (ovl_wm (by decide)) ?_
            refine Ev.steps (k := 7) (pc' := 94) (L' := [Vr 166, Vi ((12 * (j : Int)) + (n : Int))]) (S' := [Vi ((12 * (j : Int)) + (n : Int)), Vr 182, Vr 166, Vi ((12 * (j : Int)) + (n : Int)), Vr 183]) (h' := ((SHv st dr rd), (ovl a s (updC bq23 182 ((12 * j + n)) ((rq23.1 : Nat) : Int))))) (fun _ => rfl) ?_
            refine Ev.iald (v := ((rq23.1 : Nat) : Int)) rfl (by decide) rfl (by omega) (by omega) (show (updC bq23 182 ((12 * j + n)) ((rq23.1 : Nat) : Int)) 182 ((12 * j + n)) = ((rq23.1 : Nat) : Int) by rw [updC_sm]) ?_
            refine Ev.call (k := 1) (pc1 := 98) (L1 := [Vr 166, Vi ((12 * (j : Int)) + (n : Int))]) (S1 := [Vi 179, Vi ((rq23.1 : Nat) : Int), Vr 166, Vi ((12 * (j : Int)) + (n : Int)), Vr 183]) (h1 := ((SHv st dr rd), (ovl a s (updC bq23 182 ((12 * j + n)) ((rq23.1 : Nat) : Int))))) (m' := 188) (as := [Vr 166, Vi ((rq23.1 : Nat) : Int), Vi 179]) (S' := [Vi ((12 * (j : Int)) + (n : Int)), Vr 183]) (L0 := [Vr 166, Vi ((rq23.1 : Nat) : Int), Vi 179, Vx]) (fun _ => rfl) rfl rfl rfl rfl rfl rfl (m_number (b := (updC bq23 182 ((12 * j + n)) ((rq23.1 : Nat) : Int))) (hoq23.2.up (by omega)) (rq23.1)) (fun r h' hq => ?_)
            obtain ⟨bq24, rfl, hq⟩ := hq
            rcases hq with ⟨rq24, hxq24, rfl, hoq24⟩ | ⟨eq24, hxq24, ⟨vq24, rfl⟩, hbq24⟩
            · show Ev X _ _ 101 [Vr 166, Vi ((12 * (j : Int)) + (n : Int))] [Vi ((rq24.1 : Nat) : Int), Vi ((12 * (j : Int)) + (n : Int)), Vr 183] ((SHv st dr rd), (ovl a s bq24)) _
              refine Ev.iast (c' := (ovl a s (updC bq24 183 ((12 * j + n)) ((rq24.1 : Nat) : Int)))) rfl (by decide) rfl (by omega) (by omega) (ovl_wm (by decide)) ?_
              refine Ev.steps (k := 2) (pc' := 106) (L' := [Vr 166, Vi ((12 * (j : Int)) + (n : Int))]) (S' := [Vi (bq24 166 8)]) (h' := ((SHv st dr rd), (ovl a s (updC bq24 183 ((12 * j + n)) ((rq24.1 : Nat) : Int))))) (fun _ => rfl) ?_
              rw [hoq24.2.2.1]
              refine Ev.steps (k := 5) (pc' := 117) (L' := [Vr 166, Vi ((12 * (j : Int)) + (n : Int))]) (S' := [Vi (bq24 166 39), Vr 172]) (h' := ((SHv st dr rd), (ovl a s (updC bq24 183 ((12 * j + n)) ((rq24.1 : Nat) : Int))))) (fun _ => rfl) ?_
              rw [((hoq24.1 166 39 (by omega)).trans ((hoq23.1 166 39 (by omega)).trans ((hoq22.1 166 39 (by omega)).trans ((hoq21.1 166 39 (by omega)).trans ((hoq20.1 166 39 (by omega)).trans hR.1.2.1)))))]
              refine Ev.steps (k := 1) (pc' := 118) (L' := [Vr 166, Vi ((12 * (j : Int)) + (n : Int))]) (S' := [Vi (j : Int), Vr 172, Vi (j : Int), Vr 172]) (h' := ((SHv st dr rd), (ovl a s (updC bq24 183 ((12 * j + n)) ((rq24.1 : Nat) : Int))))) (fun _ => rfl) ?_
              refine Ev.iald (v := (n : Int)) rfl (by decide) rfl (by omega) (by omega) (((hoq24.1 172 j (by omega)).trans ((hoq23.1 172 j (by omega)).trans ((hoq22.1 172 j (by omega)).trans ((hoq21.1 172 j (by omega)).trans ((hoq20.1 172 j (by omega)).trans hcn)))))) ?_
              refine Ev.steps (k := 2) (pc' := 121) (L' := [Vr 166, Vi ((12 * (j : Int)) + (n : Int))]) (S' := [Vi (w32 ((n : Int) + 1)), Vi (j : Int), Vr 172]) (h' := ((SHv st dr rd), (ovl a s (updC bq24 183 ((12 * j + n)) ((rq24.1 : Nat) : Int))))) (fun _ => rfl) ?_
              rw [show (w32 ((n : Int) + 1)) = ((n : Int) + 1) from w32_id (by unfold R32; omega)]
              refine Ev.iast (c' := (ovl a s (updC (updC bq24 183 ((12 * j + n)) ((rq24.1 : Nat) : Int)) 172 j ((n : Int) + 1)))) rfl (by decide) rfl (by omega) (by omega) (ovl_wm (by decide)) ?_
              refine Ev.fin (k := 1) (r := none) (h' := ((SHv st dr rd), (ovl a s (updC (updC bq24 183 ((12 * j + n)) ((rq24.1 : Nat) : Int)) 172 j ((n : Int) + 1))))) (fun _ => rfl) ?_
              have hb : FrP (chS j n) b (updC (updC bq24 183 ((12 * j + n)) ((rq24.1 : Nat) : Int)) 172 j ((n : Int) + 1)) := (((((((((((FrP.rf : FrP (chS j n) b b).fn hoq20.1).fn hoq21.1).up (by omega)).fn hoq22.1).up (by omega)).fn hoq23.1).up (by omega)).fn hoq24.1).up (by omega)).up (by omega))
              refine ⟨rfl, _, rfl, Or.inl ⟨(_, rq24.2), ?_, ((hoq24.2.up (by omega)).up (by omega)), hR.say (w := rq21.1) (x := rq22.1) (y := rq23.1) (v := rq24.1) hn updC_sm ?_ ?_ ?_ ?_ hb ?_, hb.mo hP⟩⟩
              · rw [if_neg (by omega)]
                unfold sayT
                rw [hnn, hxq20, bnX_o, hxq21, bnX_o, hxq22, bnX_o, hxq23, bnX_o, hxq24, bnX_o]
              · rw [updC_nt (by omega), updC_nt (by omega)]
                exact ((hoq24.1 180 _ (by omega)).trans ((updC_nt (by omega)).trans ((hoq23.1 180 _ (by omega)).trans ((updC_nt (by omega)).trans ((hoq22.1 180 _ (by omega)).trans updC_sm)))))
              · rw [updC_nt (by omega), updC_nt (by omega)]
                exact ((hoq24.1 181 _ (by omega)).trans ((updC_nt (by omega)).trans ((hoq23.1 181 _ (by omega)).trans updC_sm)))
              · rw [updC_nt (by omega), updC_nt (by omega)]
                exact ((hoq24.1 182 _ (by omega)).trans updC_sm)
              · rw [updC_nt (by omega), updC_sm]
              · rw [updC_nt (by omega), updC_nt (by omega)]
                exact ((hoq24.1 166 38 (by omega)).trans ((updC_nt (by omega)).trans ((hoq23.1 166 38 (by omega)).trans ((updC_nt (by omega)).trans ((hoq22.1 166 38 (by omega)).trans ((updC_nt (by omega)).trans ((hoq21.1 166 38 (by omega)).trans ((hoq20.1 166 38 (by omega)).trans hR.1.2.2))))))))
            · show Ev X _ _ 101 [Vr 166, Vi ((12 * (j : Int)) + (n : Int))] [Vi vq24, Vi ((12 * (j : Int)) + (n : Int)), Vr 183] ((SHv st dr rd), (ovl a s bq24)) _
              refine Ev.iast (c' := (ovl a s (updC bq24 183 ((12 * j + n)) vq24))) rfl (by decide) rfl (by omega) (by omega) (ovl_wm (by decide)) ?_
              refine Ev.steps (k := 2) (pc' := 106) (L' := [Vr 166, Vi ((12 * (j : Int)) + (n : Int))]) (S' := [Vi (bq24 166 8)]) (h' := ((SHv st dr rd), (ovl a s (updC bq24 183 ((12 * j + n)) vq24)))) (fun _ => rfl) ?_
              rw [hbq24.2.2.2.1]
              refine Ev.ite (P := eq24.1 ≠ 0) (k := 1) (a := 122) (b := 109) (L' := [Vr 166, Vi ((12 * (j : Int)) + (n : Int))]) (S' := []) (h' := ((SHv st dr rd), (ovl a s (updC bq24 183 ((12 * j + n)) vq24)))) (fun _ => rfl) (fun b106 => ?_) (fun b106 => ?_)
              · refine Ev.fin (k := 1) (r := none) (h' := ((SHv st dr rd), (ovl a s (updC bq24 183 ((12 * j + n)) vq24)))) (fun _ => rfl) ?_
                refine ⟨rfl, _, rfl, Or.inr ⟨eq24, ?_, ⟨(((((((((((FrP.rf : FrP (chS j n) b b).fn hoq20.1).fn hoq21.1).up (by omega)).fn hoq22.1).up (by omega)).fn hoq23.1).up (by omega)).fn hbq24.1).up (by omega))).mo hP, (hbq24.2.1.up (by omega)), (hbq24.2.2.up (by omega))⟩⟩⟩
                rw [if_neg (by omega)]
                unfold sayT
                rw [hxq20, bnX_o, hxq21, bnX_o, hxq22, bnX_o, hxq23, bnX_o, hxq24, bnX_e]
              · have := hbq24.2.2.1; omega
          · show Ev X _ _ 82 [Vr 166, Vi ((12 * (j : Int)) + (n : Int))] [Vi vq23, Vi ((12 * (j : Int)) + (n : Int)), Vr 182] ((SHv st dr rd), (ovl a s bq23)) _
            refine Ev.iast (c' := (ovl a s (updC bq23 182 ((12 * j + n)) vq23))) rfl (by decide) rfl (by omega) (by omega) (ovl_wm (by decide)) ?_
            refine Ev.steps (k := 7) (pc' := 94) (L' := [Vr 166, Vi ((12 * (j : Int)) + (n : Int))]) (S' := [Vi ((12 * (j : Int)) + (n : Int)), Vr 182, Vr 166, Vi ((12 * (j : Int)) + (n : Int)), Vr 183]) (h' := ((SHv st dr rd), (ovl a s (updC bq23 182 ((12 * j + n)) vq23)))) (fun _ => rfl) ?_
            refine Ev.iald (v := vq23) rfl (by decide) rfl (by omega) (by omega) (show (updC bq23 182 ((12 * j + n)) vq23) 182 ((12 * j + n)) = vq23 by rw [updC_sm]) ?_
            refine Ev.call (k := 1) (pc1 := 98) (L1 := [Vr 166, Vi ((12 * (j : Int)) + (n : Int))]) (S1 := [Vi 179, Vi vq23, Vr 166, Vi ((12 * (j : Int)) + (n : Int)), Vr 183]) (h1 := ((SHv st dr rd), (ovl a s (updC bq23 182 ((12 * j + n)) vq23)))) (m' := 188) (as := [Vr 166, Vi vq23, Vi 179]) (S' := [Vi ((12 * (j : Int)) + (n : Int)), Vr 183]) (L0 := [Vr 166, Vi vq23, Vi 179, Vx]) (fun _ => rfl) rfl rfl rfl rfl rfl rfl (m_number_br (b := (updC bq23 182 ((12 * j + n)) vq23)) (hbq23.2.2.up (by omega)) vq23 179) (fun r h' hq => ?_)
            obtain ⟨rfl, rfl⟩ := hq
            show Ev X _ _ 101 [Vr 166, Vi ((12 * (j : Int)) + (n : Int))] [Vi 0, Vi ((12 * (j : Int)) + (n : Int)), Vr 183] ((SHv st dr rd), (ovl a s (updC bq23 182 ((12 * j + n)) vq23))) _
            refine Ev.iast (c' := (ovl a s (updC (updC bq23 182 ((12 * j + n)) vq23) 183 ((12 * j + n)) 0))) rfl (by decide) rfl (by omega) (by omega) (ovl_wm (by decide)) ?_
            refine Ev.steps (k := 2) (pc' := 106) (L' := [Vr 166, Vi ((12 * (j : Int)) + (n : Int))]) (S' := [Vi (bq23 166 8)]) (h' := ((SHv st dr rd), (ovl a s (updC (updC bq23 182 ((12 * j + n)) vq23) 183 ((12 * j + n)) 0)))) (fun _ => rfl) ?_
            rw [hbq23.2.2.2.1]
            refine Ev.ite (P := eq23.1 ≠ 0) (k := 1) (a := 122) (b := 109) (L' := [Vr 166, Vi ((12 * (j : Int)) + (n : Int))]) (S' := []) (h' := ((SHv st dr rd), (ovl a s (updC (updC bq23 182 ((12 * j + n)) vq23) 183 ((12 * j + n)) 0)))) (fun _ => rfl) (fun b106 => ?_) (fun b106 => ?_)
            · refine Ev.fin (k := 1) (r := none) (h' := ((SHv st dr rd), (ovl a s (updC (updC bq23 182 ((12 * j + n)) vq23) 183 ((12 * j + n)) 0)))) (fun _ => rfl) ?_
              refine ⟨rfl, _, rfl, Or.inr ⟨eq23, ?_, ⟨((((((((((FrP.rf : FrP (chS j n) b b).fn hoq20.1).fn hoq21.1).up (by omega)).fn hoq22.1).up (by omega)).fn hbq23.1).up (by omega)).up (by omega))).mo hP, ((hbq23.2.1.up (by omega)).up (by omega)), ((hbq23.2.2.up (by omega)).up (by omega))⟩⟩⟩
              rw [if_neg (by omega)]
              unfold sayT
              rw [hxq20, bnX_o, hxq21, bnX_o, hxq22, bnX_o, hxq23, bnX_e]
            · have := hbq23.2.2.1; omega
        · show Ev X _ _ 68 [Vr 166, Vi ((12 * (j : Int)) + (n : Int))] [Vi vq22, Vi ((12 * (j : Int)) + (n : Int)), Vr 181] ((SHv st dr rd), (ovl a s bq22)) _
          refine Ev.iast (c' := (ovl a s (updC bq22 181 ((12 * j + n)) vq22))) rfl (by decide) rfl (by omega) (by omega) (ovl_wm (by decide)) ?_
          refine Ev.call (k := 6) (pc1 := 79) (L1 := [Vr 166, Vi ((12 * (j : Int)) + (n : Int))]) (S1 := [Vi 179, Vi 0, Vr 166, Vi ((12 * (j : Int)) + (n : Int)), Vr 182]) (h1 := ((SHv st dr rd), (ovl a s (updC bq22 181 ((12 * j + n)) vq22)))) (m' := 188) (as := [Vr 166, Vi 0, Vi 179]) (S' := [Vi ((12 * (j : Int)) + (n : Int)), Vr 182]) (L0 := [Vr 166, Vi 0, Vi 179, Vx]) (fun _ => rfl) rfl rfl rfl rfl rfl rfl (m_number_br (b := (updC bq22 181 ((12 * j + n)) vq22)) (hbq22.2.2.up (by omega)) 0 179) (fun r h' hq => ?_)
          obtain ⟨rfl, rfl⟩ := hq
          show Ev X _ _ 82 [Vr 166, Vi ((12 * (j : Int)) + (n : Int))] [Vi 0, Vi ((12 * (j : Int)) + (n : Int)), Vr 182] ((SHv st dr rd), (ovl a s (updC bq22 181 ((12 * j + n)) vq22))) _
          refine Ev.iast (c' := (ovl a s (updC (updC bq22 181 ((12 * j + n)) vq22) 182 ((12 * j + n)) 0))) rfl (by decide) rfl (by omega) (by omega) (ovl_wm (by decide)) ?_
          refine Ev.steps (k := 7) (pc' := 94) (L' := [Vr 166, Vi ((12 * (j : Int)) + (n : Int))]) (S' := [Vi ((12 * (j : Int)) + (n : Int)), Vr 182, Vr 166, Vi ((12 * (j : Int)) + (n : Int)), Vr 183]) (h' := ((SHv st dr rd), (ovl a s (updC (updC bq22 181 ((12 * j + n)) vq22) 182 ((12 * j + n)) 0)))) (fun _ => rfl) ?_
          refine Ev.iald (v := 0) rfl (by decide) rfl (by omega) (by omega) (show (updC (updC bq22 181 ((12 * j + n)) vq22) 182 ((12 * j + n)) 0) 182 ((12 * j + n)) = 0 by rw [updC_sm]) ?_
          refine Ev.call (k := 1) (pc1 := 98) (L1 := [Vr 166, Vi ((12 * (j : Int)) + (n : Int))]) (S1 := [Vi 179, Vi 0, Vr 166, Vi ((12 * (j : Int)) + (n : Int)), Vr 183]) (h1 := ((SHv st dr rd), (ovl a s (updC (updC bq22 181 ((12 * j + n)) vq22) 182 ((12 * j + n)) 0)))) (m' := 188) (as := [Vr 166, Vi 0, Vi 179]) (S' := [Vi ((12 * (j : Int)) + (n : Int)), Vr 183]) (L0 := [Vr 166, Vi 0, Vi 179, Vx]) (fun _ => rfl) rfl rfl rfl rfl rfl rfl (m_number_br (b := (updC (updC bq22 181 ((12 * j + n)) vq22) 182 ((12 * j + n)) 0)) ((hbq22.2.2.up (by omega)).up (by omega)) 0 179) (fun r h' hq => ?_)
          obtain ⟨rfl, rfl⟩ := hq
          show Ev X _ _ 101 [Vr 166, Vi ((12 * (j : Int)) + (n : Int))] [Vi 0, Vi ((12 * (j : Int)) + (n : Int)), Vr 183] ((SHv st dr rd), (ovl a s (updC (updC bq22 181 ((12 * j + n)) vq22) 182 ((12 * j + n)) 0))) _
          refine Ev.iast (c' := (ovl a s (updC (updC (updC bq22 181 ((12 * j + n)) vq22) 182 ((12 * j + n)) 0) 183 ((12 * j + n)) 0))) rfl (by decide) rfl (by omega) (by omega) (ovl_wm (by decide)) ?_
          refine Ev.steps (k := 2) (pc' := 106) (L' := [Vr 166, Vi ((12 * (j : Int)) + (n : Int))]) (S' := [Vi (bq22 166 8)]) (h' := ((SHv st dr rd), (ovl a s (updC (updC (updC bq22 181 ((12 * j + n)) vq22) 182 ((12 * j + n)) 0) 183 ((12 * j + n)) 0)))) (fun _ => rfl) ?_
          rw [hbq22.2.2.2.1]
          refine Ev.ite (P := eq22.1 ≠ 0) (k := 1) (a := 122) (b := 109) (L' := [Vr 166, Vi ((12 * (j : Int)) + (n : Int))]) (S' := []) (h' := ((SHv st dr rd), (ovl a s (updC (updC (updC bq22 181 ((12 * j + n)) vq22) 182 ((12 * j + n)) 0) 183 ((12 * j + n)) 0)))) (fun _ => rfl) (fun b106 => ?_) (fun b106 => ?_)
          · refine Ev.fin (k := 1) (r := none) (h' := ((SHv st dr rd), (ovl a s (updC (updC (updC bq22 181 ((12 * j + n)) vq22) 182 ((12 * j + n)) 0) 183 ((12 * j + n)) 0)))) (fun _ => rfl) ?_
            refine ⟨rfl, _, rfl, Or.inr ⟨eq22, ?_, ⟨(((((((((FrP.rf : FrP (chS j n) b b).fn hoq20.1).fn hoq21.1).up (by omega)).fn hbq22.1).up (by omega)).up (by omega)).up (by omega))).mo hP, (((hbq22.2.1.up (by omega)).up (by omega)).up (by omega)), (((hbq22.2.2.up (by omega)).up (by omega)).up (by omega))⟩⟩⟩
            rw [if_neg (by omega)]
            unfold sayT
            rw [hxq20, bnX_o, hxq21, bnX_o, hxq22, bnX_e]
          · have := hbq22.2.2.1; omega
      · show Ev X _ _ 56 [Vr 166, Vi ((12 * (j : Int)) + (n : Int))] [Vi vq21, Vi ((12 * (j : Int)) + (n : Int)), Vr 180] ((SHv st dr rd), (ovl a s bq21)) _
        refine Ev.iast (c' := (ovl a s (updC bq21 180 ((12 * j + n)) vq21))) rfl (by decide) rfl (by omega) (by omega) (ovl_wm (by decide)) ?_
        refine Ev.call (k := 6) (pc1 := 65) (L1 := [Vr 166, Vi ((12 * (j : Int)) + (n : Int))]) (S1 := [Vi (-1), Vi 0, Vr 166, Vi ((12 * (j : Int)) + (n : Int)), Vr 181]) (h1 := ((SHv st dr rd), (ovl a s (updC bq21 180 ((12 * j + n)) vq21)))) (m' := 165) (as := [Vr 166, Vi 0, Vi (-1)]) (S' := [Vi ((12 * (j : Int)) + (n : Int)), Vr 181]) (L0 := [Vr 166, Vi 0, Vi (-1), Vx]) (fun _ => rfl) rfl rfl rfl rfl rfl rfl (m_asked_br (b := (updC bq21 180 ((12 * j + n)) vq21)) (hbq21.2.2.up (by omega)) 0 (-1)) (fun r h' hq => ?_)
        obtain ⟨rfl, rfl⟩ := hq
        show Ev X _ _ 68 [Vr 166, Vi ((12 * (j : Int)) + (n : Int))] [Vi 0, Vi ((12 * (j : Int)) + (n : Int)), Vr 181] ((SHv st dr rd), (ovl a s (updC bq21 180 ((12 * j + n)) vq21))) _
        refine Ev.iast (c' := (ovl a s (updC (updC bq21 180 ((12 * j + n)) vq21) 181 ((12 * j + n)) 0))) rfl (by decide) rfl (by omega) (by omega) (ovl_wm (by decide)) ?_
        refine Ev.call (k := 6) (pc1 := 79) (L1 := [Vr 166, Vi ((12 * (j : Int)) + (n : Int))]) (S1 := [Vi 179, Vi 0, Vr 166, Vi ((12 * (j : Int)) + (n : Int)), Vr 182]) (h1 := ((SHv st dr rd), (ovl a s (updC (updC bq21 180 ((12 * j + n)) vq21) 181 ((12 * j + n)) 0)))) (m' := 188) (as := [Vr 166, Vi 0, Vi 179]) (S' := [Vi ((12 * (j : Int)) + (n : Int)), Vr 182]) (L0 := [Vr 166, Vi 0, Vi 179, Vx]) (fun _ => rfl) rfl rfl rfl rfl rfl rfl (m_number_br (b := (updC (updC bq21 180 ((12 * j + n)) vq21) 181 ((12 * j + n)) 0)) ((hbq21.2.2.up (by omega)).up (by omega)) 0 179) (fun r h' hq => ?_)
        obtain ⟨rfl, rfl⟩ := hq
        show Ev X _ _ 82 [Vr 166, Vi ((12 * (j : Int)) + (n : Int))] [Vi 0, Vi ((12 * (j : Int)) + (n : Int)), Vr 182] ((SHv st dr rd), (ovl a s (updC (updC bq21 180 ((12 * j + n)) vq21) 181 ((12 * j + n)) 0))) _
        refine Ev.iast (c' := (ovl a s (updC (updC (updC bq21 180 ((12 * j + n)) vq21) 181 ((12 * j + n)) 0) 182 ((12 * j + n)) 0))) rfl (by decide) rfl (by omega) (by omega) (ovl_wm (by decide)) ?_
        refine Ev.steps (k := 7) (pc' := 94) (L' := [Vr 166, Vi ((12 * (j : Int)) + (n : Int))]) (S' := [Vi ((12 * (j : Int)) + (n : Int)), Vr 182, Vr 166, Vi ((12 * (j : Int)) + (n : Int)), Vr 183]) (h' := ((SHv st dr rd), (ovl a s (updC (updC (updC bq21 180 ((12 * j + n)) vq21) 181 ((12 * j + n)) 0) 182 ((12 * j + n)) 0)))) (fun _ => rfl) ?_
        refine Ev.iald (v := 0) rfl (by decide) rfl (by omega) (by omega) (show (updC (updC (updC bq21 180 ((12 * j + n)) vq21) 181 ((12 * j + n)) 0) 182 ((12 * j + n)) 0) 182 ((12 * j + n)) = 0 by rw [updC_sm]) ?_
        refine Ev.call (k := 1) (pc1 := 98) (L1 := [Vr 166, Vi ((12 * (j : Int)) + (n : Int))]) (S1 := [Vi 179, Vi 0, Vr 166, Vi ((12 * (j : Int)) + (n : Int)), Vr 183]) (h1 := ((SHv st dr rd), (ovl a s (updC (updC (updC bq21 180 ((12 * j + n)) vq21) 181 ((12 * j + n)) 0) 182 ((12 * j + n)) 0)))) (m' := 188) (as := [Vr 166, Vi 0, Vi 179]) (S' := [Vi ((12 * (j : Int)) + (n : Int)), Vr 183]) (L0 := [Vr 166, Vi 0, Vi 179, Vx]) (fun _ => rfl) rfl rfl rfl rfl rfl rfl (m_number_br (b := (updC (updC (updC bq21 180 ((12 * j + n)) vq21) 181 ((12 * j + n)) 0) 182 ((12 * j + n)) 0)) (((hbq21.2.2.up (by omega)).up (by omega)).up (by omega)) 0 179) (fun r h' hq => ?_)
        obtain ⟨rfl, rfl⟩ := hq
        show Ev X _ _ 101 [Vr 166, Vi ((12 * (j : Int)) + (n : Int))] [Vi 0, Vi ((12 * (j : Int)) + (n : Int)), Vr 183] ((SHv st dr rd), (ovl a s (updC (updC (updC bq21 180 ((12 * j + n)) vq21) 181 ((12 * j + n)) 0) 182 ((12 * j + n)) 0))) _
        refine Ev.iast (c' := (ovl a s (updC (updC (updC (updC bq21 180 ((12 * j + n)) vq21) 181 ((12 * j + n)) 0) 182 ((12 * j + n)) 0) 183 ((12 * j + n)) 0))) rfl (by decide) rfl (by omega) (by omega) (ovl_wm (by decide)) ?_
        refine Ev.steps (k := 2) (pc' := 106) (L' := [Vr 166, Vi ((12 * (j : Int)) + (n : Int))]) (S' := [Vi (bq21 166 8)]) (h' := ((SHv st dr rd), (ovl a s (updC (updC (updC (updC bq21 180 ((12 * j + n)) vq21) 181 ((12 * j + n)) 0) 182 ((12 * j + n)) 0) 183 ((12 * j + n)) 0)))) (fun _ => rfl) ?_
        rw [hbq21.2.2.2.1]
        refine Ev.ite (P := eq21.1 ≠ 0) (k := 1) (a := 122) (b := 109) (L' := [Vr 166, Vi ((12 * (j : Int)) + (n : Int))]) (S' := []) (h' := ((SHv st dr rd), (ovl a s (updC (updC (updC (updC bq21 180 ((12 * j + n)) vq21) 181 ((12 * j + n)) 0) 182 ((12 * j + n)) 0) 183 ((12 * j + n)) 0)))) (fun _ => rfl) (fun b106 => ?_) (fun b106 => ?_)
        · refine Ev.fin (k := 1) (r := none) (h' := ((SHv st dr rd), (ovl a s (updC (updC (updC (updC bq21 180 ((12 * j + n)) vq21) 181 ((12 * j + n)) 0) 182 ((12 * j + n)) 0) 183 ((12 * j + n)) 0)))) (fun _ => rfl) ?_
          refine ⟨rfl, _, rfl, Or.inr ⟨eq21, ?_, ⟨((((((((FrP.rf : FrP (chS j n) b b).fn hoq20.1).fn hbq21.1).up (by omega)).up (by omega)).up (by omega)).up (by omega))).mo hP, ((((hbq21.2.1.up (by omega)).up (by omega)).up (by omega)).up (by omega)), ((((hbq21.2.2.up (by omega)).up (by omega)).up (by omega)).up (by omega))⟩⟩⟩
          rw [if_neg (by omega)]
          unfold sayT
          rw [hxq20, bnX_o, hxq21, bnX_e]
        · have := hbq21.2.2.1; omega
    · show Ev X _ _ 23 [Vr 166, Vx] [Vi 0] ((SHv st dr rd), (ovl a s bq20)) _
      refine Ev.fin (k := 2) (r := none) (h' := ((SHv st dr rd), (ovl a s bq20))) (fun _ => rfl) ?_
      refine ⟨rfl, _, rfl, Or.inr ⟨eq20, ?_, ⟨(((FrP.rf : FrP (chS j n) b b).fn hbq20.1)).mo hP, hbq20.2.1, hbq20.2.2⟩⟩⟩
      rw [if_neg (by omega)]
      unfold sayT
      rw [hxq20, bnX_e]
  · refine Ev.call (k := 2) (pc1 := 20) (L1 := [Vr 166, Vx]) (S1 := [Vi 1, Vr 166]) (h1 := ((SHv st dr rd), (ovl a s b))) (m' := 164) (as := [Vr 166, Vi 1]) (S' := []) (L0 := [Vr 166, Vi 1]) (fun _ => rfl) rfl rfl rfl rfl rfl rfl (m_counts1 (b := b) hk) (fun r h' hq => ?_)
    obtain ⟨rfl, bq31, rfl, hbq31⟩ := hq
    show Ev X _ _ 23 [Vr 166, Vx] [Vi 0] ((SHv st dr rd), (ovl a s bq31)) _
    refine Ev.fin (k := 2) (r := none) (h' := ((SHv st dr rd), (ovl a s bq31))) (fun _ => rfl) ?_
    refine ⟨rfl, _, rfl, Or.inr ⟨(fltT W 5 p), if_pos (by omega), (FrP.rf : FrJ j b b).fn hbq31.1, hbq31.2⟩⟩
