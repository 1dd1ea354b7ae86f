/-! THE REFERENCE READS: what stands for an operand -/
theorem m_opens {X : List Int} {d : Nat} {st dr rd : Int} {a s b : C3} {W : TXT} {p : Nat} (hk : TkM W p b) (j c : Nat) {om f : Nat} (e48 : b 166 48 = (om : Int)) (e45 : b 166 45 = ((f + 1 : Nat) : Int)) (e46 : b 166 46 = (f : Int)) (hf : f ≤ 8) (kd : Int) : Ev X (d + 2) 175 0 [Vr 166, Vi kd] [] (SHv st dr rd, ovl a s b) (fun rr hh => rr = none ∧ ∃ b' : C3, hh = (SHv st dr rd, ovl a s b') ∧ ResC (if f = 8 then Except.error (fltT W 5 p) else gotT W p) (fun p1 => OpM W om f kd p1 b b') (fun e => BkM W j c b e b')) := by
  refine Ev.steps (k := 2) (pc' := 4) (L' := [Vr 166, Vi kd]) (S' := [Vi (b 166 46)]) (h' := ((SHv st dr rd), (ovl a s b))) (fun _ => rfl) ?_
  rw [e46]
  refine Ev.ite (P := (f : Int) ≠ 8) (k := 2) (a := 18) (b := 9) (L' := [Vr 166, Vi kd]) (S' := []) (h' := ((SHv st dr rd), (ovl a s b))) (fun _ => rfl) (fun b6 => ?_) (fun b6 => ?_)
  · refine Ev.steps (k := 2) (pc' := 22) (L' := [Vr 166, Vi kd]) (S' := [Vi (b 166 8)]) (h' := ((SHv st dr rd), (ovl a s b))) (fun _ => rfl) ?_
    rw [hk.2.1]
    refine Ev.steps (k := 4) (pc' := 31) (L' := [Vr 166, Vi kd]) (S' := [Vi (b 166 46), Vr 166]) (h' := ((SHv st dr rd), (ovl a s b))) (fun _ => rfl) ?_
    rw [e46]
    refine Ev.steps (k := 2) (pc' := 33) (L' := [Vr 166, Vi kd]) (S' := [Vi (w32 ((f : Int) + 1)), Vr 166]) (h' := ((SHv st dr rd), (ovl a s b))) (fun _ => rfl) ?_
    rw [show (w32 ((f : Int) + 1)) = ((f : Int) + 1) from w32_id (by unfold R32; omega)]
    refine Ev.putf (c' := (ovl a s (updC b 166 46 ((f : Int) + 1)))) rfl (by decide) rfl rfl rfl (ovl_wm (by decide)) ?_
    refine Ev.call (k := 1) (pc1 := 37) (L1 := [Vr 166, Vi kd]) (S1 := [Vr 166]) (h1 := ((SHv st dr rd), (ovl a s (updC b 166 46 ((f : Int) + 1))))) (m' := 157) (as := [Vr 166]) (S' := []) (L0 := [Vr 166, Vx, Vx, Vx, Vx, Vx]) (fun _ => rfl) rfl rfl rfl rfl rfl rfl (m_nextT (b := (updC b 166 46 ((f : Int) + 1))) (hk.up (by omega))) (fun r h' hq => ?_)
    obtain ⟨rfl, bq1, rfl, hq⟩ := hq
    rcases hq with ⟨pq1, hxq1, hoq1⟩ | ⟨eq1, hxq1, hbq1⟩
    · show Ev X _ _ 40 [Vr 166, Vi kd] [] ((SHv st dr rd), (ovl a s bq1)) _
      refine Ev.call (k := 2) (pc1 := 42) (L1 := [Vr 166, Vi kd]) (S1 := [Vi kd, Vr 166]) (h1 := ((SHv st dr rd), (ovl a s bq1))) (m' := 170) (as := [Vr 166, Vi kd]) (S' := []) (L0 := [Vr 166, Vi kd]) (fun _ => rfl) rfl rfl rfl rfl rfl rfl (m_pushes (b := bq1) ((hoq1.1 166 48 (by omega)).trans e48) ((hoq1.1 166 45 (by omega)).trans e45) (by omega) kd) (fun r h' hq => ?_)
      obtain ⟨rfl, rfl⟩ := hq
      show Ev X _ _ 45 [Vr 166, Vi kd] [] ((SHv st dr rd), (ovl a s (updC (updC (updC (updC (updC bq1 193 ((f + 1)) kd) 194 ((f + 1)) 0) 195 ((f + 1)) 1) 197 ((f + 1)) (om : Int)) 166 45 (((f + 1 : Nat) : Int) + 1)))) _
      refine Ev.fin (k := 1) (r := none) (h' := ((SHv st dr rd), (ovl a s (updC (updC (updC (updC (updC bq1 193 ((f + 1)) kd) 194 ((f + 1)) 0) 195 ((f + 1)) 1) 197 ((f + 1)) (om : Int)) 166 45 (((f + 1 : Nat) : Int) + 1))))) (fun _ => rfl) ?_
      refine ⟨rfl, _, rfl, Or.inl ⟨pq1, by rw [if_neg (by omega)]; exact hxq1, fun o i h1 h2 => ?_, (((((hoq1.2.up (by omega)).up (by omega)).up (by omega)).up (by omega)).up (by omega)), ?_, ?_, ?_, ?_, ?_, ?_⟩⟩
      · rw [updC_nt (by omega), updC_nt (by omega), updC_nt (by omega), updC_nt (by omega), updC_nt (by omega)]
        exact (hoq1.1 o i (by omega)).trans (updC_nt (by omega))
      · rw [updC_sm]; omega
      · rw [updC_nt (by omega), updC_nt (by omega), updC_nt (by omega), updC_nt (by omega), updC_nt (by omega)]
        exact (hoq1.1 166 46 (by omega)).trans (by rw [updC_sm]; omega)
      · rw [updC_nt (by omega), updC_nt (by omega), updC_nt (by omega), updC_nt (by omega), updC_sm]
      · rw [updC_nt (by omega), updC_nt (by omega), updC_nt (by omega), updC_sm]
      · rw [updC_nt (by omega), updC_nt (by omega), updC_sm]
      · rw [updC_nt (by omega), updC_sm]
    · show Ev X _ _ 40 [Vr 166, Vi kd] [] ((SHv st dr rd), (ovl a s bq1)) _
      refine Ev.call (k := 2) (pc1 := 42) (L1 := [Vr 166, Vi kd]) (S1 := [Vi kd, Vr 166]) (h1 := ((SHv st dr rd), (ovl a s bq1))) (m' := 170) (as := [Vr 166, Vi kd]) (S' := []) (L0 := [Vr 166, Vi kd]) (fun _ => rfl) rfl rfl rfl rfl rfl rfl (m_pushes (b := bq1) ((hbq1.1 166 48 (by omega)).trans e48) ((hbq1.1 166 45 (by omega)).trans e45) (by omega) kd) (fun r h' hq => ?_)
      obtain ⟨rfl, rfl⟩ := hq
      show Ev X _ _ 45 [Vr 166, Vi kd] [] ((SHv st dr rd), (ovl a s (updC (updC (updC (updC (updC bq1 193 ((f + 1)) kd) 194 ((f + 1)) 0) 195 ((f + 1)) 1) 197 ((f + 1)) (om : Int)) 166 45 (((f + 1 : Nat) : Int) + 1)))) _
      refine Ev.fin (k := 1) (r := none) (h' := ((SHv st dr rd), (ovl a s (updC (updC (updC (updC (updC bq1 193 ((f + 1)) kd) 194 ((f + 1)) 0) 195 ((f + 1)) 1) 197 ((f + 1)) (om : Int)) 166 45 (((f + 1 : Nat) : Int) + 1))))) (fun _ => rfl) ?_
      refine ⟨rfl, _, rfl, Or.inr ⟨eq1, ?_, ((((((hbq1.bk ((KpM.rf : KpM j c om f b b).up (by omega))).up (by omega)).up (by omega)).up (by omega)).up (by omega)).up (by omega))⟩⟩
      rw [if_neg (by omega)]; exact hxq1
  · refine Ev.steps (k := 4) (pc' := 15) (L' := [Vr 166, Vi kd]) (S' := [Vi (b 166 4), Vi 5, Vr 166]) (h' := ((SHv st dr rd), (ovl a s b))) (fun _ => rfl) ?_
    rw [hk.2.2.2.2.1]
    refine Ev.call (k := 0) (pc1 := 15) (L1 := [Vr 166, Vi kd]) (S1 := [Vi ((tA W p : Nat) : Int), Vi 5, Vr 166]) (h1 := ((SHv st dr rd), (ovl a s b))) (m' := 160) (as := [Vr 166, Vi 5, Vi ((tA W p : Nat) : Int)]) (S' := []) (L0 := [Vr 166, Vi 5, Vi ((tA W p : Nat) : Int)]) (fun _ => rfl) rfl rfl rfl rfl rfl rfl (m_bl (b := b) hk 5 (by decide)) (fun r h' hq => ?_)
    obtain ⟨rfl, bq2, rfl, hbq2⟩ := hq
    show Ev X _ _ 18 [Vr 166, Vi kd] [] ((SHv st dr rd), (ovl a s bq2)) _
    refine Ev.steps (k := 2) (pc' := 22) (L' := [Vr 166, Vi kd]) (S' := [Vi (bq2 166 8)]) (h' := ((SHv st dr rd), (ovl a s bq2))) (fun _ => rfl) ?_
    rw [hbq2.2.2.2.1]
    refine Ev.ite (P := (fltT W 5 p).1 ≤ 0) (k := 1) (a := 26) (b := 25) (L' := [Vr 166, Vi kd]) (S' := []) (h' := ((SHv st dr rd), (ovl a s bq2))) (fun _ => rfl) (fun b22 => ?_) (fun b22 => ?_)
    · have := hbq2.2.2.1; omega
    · refine Ev.fin (k := 1) (r := none) (h' := ((SHv st dr rd), (ovl a s bq2))) (fun _ => rfl) ?_
      refine ⟨rfl, _, rfl, Or.inr ⟨(fltT W 5 p), ?_, (hbq2.bk (KpM.rf : KpM j c om f b b))⟩⟩
      rw [if_pos (by omega)]
theorem m_opens_br {X : List Int} {d : Nat} {st dr rd : Int} {a s b : C3} {e : PF} (hB : BrM e b) (kd : Int) : Ev X (d + 2) 175 0 [Vr 166, Vi kd] [] (SHv st dr rd, ovl a s b) (fun rr hh => rr = none ∧ hh = (SHv st dr rd, ovl a s b)) := by
  refine Ev.ite (P := (b 166 46) ≠ 8) (k := 4) (a := 18) (b := 9) (L' := [Vr 166, Vi kd]) (S' := []) (h' := ((SHv st dr rd), (ovl a s b))) (fun _ => rfl) (fun b6 => ?_) (fun b6 => ?_)
  · refine Ev.steps (k := 2) (pc' := 22) (L' := [Vr 166, Vi kd]) (S' := [Vi (b 166 8)]) (h' := ((SHv st dr rd), (ovl a s b))) (fun _ => rfl) ?_
    rw [hB.2.1]
    refine Ev.ite (P := e.1 ≤ 0) (k := 1) (a := 26) (b := 25) (L' := [Vr 166, Vi kd]) (S' := []) (h' := ((SHv st dr rd), (ovl a s b))) (fun _ => rfl) (fun b22 => ?_) (fun b22 => ?_)
    · have := hB.1; omega
    · refine Ev.fin (k := 1) (r := none) (h' := ((SHv st dr rd), (ovl a s b))) (fun _ => rfl) ?_
      exact ⟨rfl, rfl⟩
  · refine Ev.call (k := 4) (pc1 := 15) (L1 := [Vr 166, Vi kd]) (S1 := [Vi (b 166 4), Vi 5, Vr 166]) (h1 := ((SHv st dr rd), (ovl a s b))) (m' := 160) (as := [Vr 166, Vi 5, Vi (b 166 4)]) (S' := []) (L0 := [Vr 166, Vi 5, Vi (b 166 4)]) (fun _ => rfl) rfl rfl rfl rfl rfl rfl (m_bl_br (b := b) hB 5 (b 166 4)) (fun r h' hq => ?_)
    obtain ⟨rfl, rfl⟩ := hq
    show Ev X _ _ 18 [Vr 166, Vi kd] [] ((SHv st dr rd), (ovl a s b)) _
    refine Ev.steps (k := 2) (pc' := 22) (L' := [Vr 166, Vi kd]) (S' := [Vi (b 166 8)]) (h' := ((SHv st dr rd), (ovl a s b))) (fun _ => rfl) ?_
    rw [hB.2.1]
    refine Ev.ite (P := e.1 ≤ 0) (k := 1) (a := 26) (b := 25) (L' := [Vr 166, Vi kd]) (S' := []) (h' := ((SHv st dr rd), (ovl a s b))) (fun _ => rfl) (fun b22 => ?_) (fun b22 => ?_)
    · have := hB.1; omega
    · refine Ev.fin (k := 1) (r := none) (h' := ((SHv st dr rd), (ovl a s b))) (fun _ => rfl) ?_
      exact ⟨rfl, rfl⟩
theorem m_fact273 {X : List Int} {d : Nat} {st dr rd : Int} {a s b : C3} {W : TXT} {p : Nat} (hk : TkM W p b) {N : SC} {j : Nat} (hN : NmM N b j) {c om f : Nat} (e38 : b 166 38 = (c : Int)) (hc : c < 1200) (hct : tC W p = 273) : Ev X (d + 3) 177 0 [Vr 166, Vx, Vx, Vx] [] (SHv st dr rd, ovl a s b) (fun rr hh => rr = some (Vi 1) ∧ ∃ b' : C3, hh = (SHv st dr rd, ovl a s b') ∧ ResC (simT W N p) (fun r => ∃ b1 : C3, OkM W b r.2 b1 ∧ ∃ q v : Nat, r.1 = [(q, v)] ∧ b' = updC (updC (updC b1 191 (1200 * j + c) (q : Int)) 192 (1200 * j + c) (v : Int)) 166 38 ((c : Int) + 1)) (fun e => BdM W b e b')) := by
  have hj := hN.1
  refine Ev.call (k := 2) (pc1 := 4) (L1 := [Vr 166, Vx, Vx, Vx]) (S1 := [Vl 24948, Vr 166]) (h1 := ((SHv st dr rd), (ovl a s b))) (m' := 162) (as := [Vr 166, Vl 24948]) (S' := []) (L0 := [Vr 166, Vl 24948, Vx]) (fun _ => rfl) rfl rfl rfl rfl rfl rfl (k_isWord (b := b) hk 17 (by decide) 24948 (by decide)) (fun r h' hq => ?_)
  obtain ⟨rfl, rfl⟩ := hq
  rw [if_pos (by omega)]
  show Ev X _ _ 7 [Vr 166, Vx, Vx, Vx] [Vi 1] ((SHv st dr rd), (ovl a s b)) _
  refine Ev.call (k := 8) (pc1 := 98) (L1 := [Vr 166, Vi 4, Vx, Vx]) (S1 := [Vr 166]) (h1 := ((SHv st dr rd), (ovl a s b))) (m' := 157) (as := [Vr 166]) (S' := []) (L0 := [Vr 166, Vx, Vx, Vx, Vx, Vx]) (fun _ => rfl) rfl rfl rfl rfl rfl rfl (m_nextT (b := b) hk) (fun r h' hq => ?_)
  obtain ⟨rfl, bq3, rfl, hq⟩ := hq
  rcases hq with ⟨pq3, hxq3, hoq3⟩ | ⟨eq3, hxq3, hbq3⟩
  · show Ev X _ _ 101 [Vr 166, Vi 4, Vx, Vx] [] ((SHv st dr rd), (ovl a s bq3)) _
    refine Ev.call (k := 3) (pc1 := 104) (L1 := [Vr 166, Vi 4, Vx, Vx]) (S1 := [Vi (-1), Vi 1, Vr 166]) (h1 := ((SHv st dr rd), (ovl a s bq3))) (m' := 165) (as := [Vr 166, Vi 1, Vi (-1)]) (S' := []) (L0 := [Vr 166, Vi 1, Vi (-1), Vx]) (fun _ => rfl) rfl rfl rfl rfl rfl rfl (m_asked_1 (b := bq3) hoq3.2 (hN.fR (((KpM.rf : KpM j c om f b b).fn hoq3.1)).fr) (-1)) (fun r h' hq => ?_)
    obtain ⟨bq4, rfl, hq⟩ := hq
    rcases hq with ⟨rq4, hxq4, rfl, hoq4⟩ | ⟨eq4, hxq4, ⟨vq4, rfl, wq4⟩, hbq4⟩
    · have lq4 := (ask_ok hxq4).2.2.1
      have nq4 := (hN.2.2 1 (by decide)).1
      show Ev X _ _ 107 [Vr 166, Vi 4, Vx, Vx] [Vi ((rq4.1 : Nat) : Int)] ((SHv st dr rd), (ovl a s bq4)) _
      refine Ev.call (k := 9) (pc1 := 118) (L1 := [Vr 166, Vi 4, Vi ((rq4.1 : Nat) : Int), Vi 0]) (S1 := [Vi (-1), Vi 0, Vr 166]) (h1 := ((SHv st dr rd), (ovl a s bq4))) (m' := 165) (as := [Vr 166, Vi 0, Vi (-1)]) (S' := []) (L0 := [Vr 166, Vi 0, Vi (-1), Vx]) (fun _ => rfl) rfl rfl rfl rfl rfl rfl (m_asked_0 (b := bq4) hoq4.2 (hN.fR ((((KpM.rf : KpM j c om f b b).fn hoq3.1).fn hoq4.1)).fr) (-1)) (fun r h' hq => ?_)
      obtain ⟨bq5, rfl, hq⟩ := hq
      rcases hq with ⟨rq5, hxq5, rfl, hoq5⟩ | ⟨eq5, hxq5, ⟨vq5, rfl, wq5⟩, hbq5⟩
      · have lq5 := (ask_ok hxq5).2.2.1
        have nq5 := (hN.2.2 0 (by decide)).1
        show Ev X _ _ 121 [Vr 166, Vi 4, Vi ((rq4.1 : Nat) : Int), Vi 0] [Vi ((rq5.1 : Nat) : Int)] ((SHv st dr rd), (ovl a s bq5)) _
        refine Ev.steps (k := 12) (pc' := 157) (L' := [Vr 166, Vi 4, Vi ((rq4.1 : Nat) : Int), Vi ((rq5.1 : Nat) : Int)]) (S' := [Vi (bq5 166 8)]) (h' := ((SHv st dr rd), (ovl a s bq5))) (fun _ => rfl) ?_
        rw [hoq5.2.2.1]
        refine Ev.steps (k := 6) (pc' := 166) (L' := [Vr 166, Vi 4, Vi ((rq4.1 : Nat) : Int), Vi ((rq5.1 : Nat) : Int)]) (S' := [Vi (w32 (8 * ((rq4.1 : Nat) : Int))), Vi 4, Vr 166]) (h' := ((SHv st dr rd), (ovl a s bq5))) (fun _ => rfl) ?_
        rw [show (w32 (8 * ((rq4.1 : Nat) : Int))) = ((8 * rq4.1 : Nat) : Int) from (by unfold w32; omega)]
        refine Ev.steps (k := 2) (pc' := 168) (L' := [Vr 166, Vi 4, Vi ((rq4.1 : Nat) : Int), Vi ((rq5.1 : Nat) : Int)]) (S' := [Vi (w32 (((8 * rq4.1 : Nat) : Int) + ((rq5.1 : Nat) : Int))), Vi 4, Vr 166]) (h' := ((SHv st dr rd), (ovl a s bq5))) (fun _ => rfl) ?_
        rw [show (w32 (((8 * rq4.1 : Nat) : Int) + ((rq5.1 : Nat) : Int))) = (((8 * rq4.1) + rq5.1 : Nat) : Int) from (by unfold w32; omega)]
        refine Ev.call (k := 0) (pc1 := 168) (L1 := [Vr 166, Vi 4, Vi ((rq4.1 : Nat) : Int), Vi ((rq5.1 : Nat) : Int)]) (S1 := [Vi (((8 * rq4.1) + rq5.1 : Nat) : Int), Vi 4, Vr 166]) (h1 := ((SHv st dr rd), (ovl a s bq5))) (m' := 176) (as := [Vr 166, Vi 4, Vi (((8 * rq4.1) + rq5.1 : Nat) : Int)]) (S' := []) (L0 := [Vr 166, Vi 4, Vi (((8 * rq4.1) + rq5.1 : Nat) : Int)]) (fun _ => rfl) rfl rfl rfl rfl rfl rfl (m_add (b := bq5) hj ((hoq5.1 166 39 (by omega)).trans ((hoq4.1 166 39 (by omega)).trans ((hoq3.1 166 39 (by omega)).trans hN.2.1))) ((hoq5.1 166 38 (by omega)).trans ((hoq4.1 166 38 (by omega)).trans ((hoq3.1 166 38 (by omega)).trans e38))) hc 4 (((8 * rq4.1) + rq5.1 : Nat) : Int)) (fun r h' hq => ?_)
        obtain ⟨rfl, rfl⟩ := hq
        show Ev X _ _ 171 [Vr 166, Vi 4, Vi ((rq4.1 : Nat) : Int), Vi ((rq5.1 : Nat) : Int)] [] ((SHv st dr rd), (ovl a s (updC (updC (updC bq5 191 ((1200 * j + c)) 4) 192 ((1200 * j + c)) (((8 * rq4.1) + rq5.1 : Nat) : Int)) 166 38 ((c : Int) + 1)))) _
        refine Ev.fin (k := 2) (r := (some (Vi 1))) (h' := ((SHv st dr rd), (ovl a s (updC (updC (updC bq5 191 ((1200 * j + c)) 4) 192 ((1200 * j + c)) (((8 * rq4.1) + rq5.1 : Nat) : Int)) 166 38 ((c : Int) + 1))))) (fun _ => rfl) ?_
        refine ⟨rfl, _, rfl, Or.inl ⟨([(4, 8 * rq4.1 + rq5.1)], rq5.2), ?_, bq5, ⟨((hoq3.1.tr hoq4.1).tr hoq5.1), hoq5.2⟩, 4, 8 * rq4.1 + rq5.1, rfl, ?_⟩⟩
        · unfold simT
          rw [hct, hxq3, bnX_o, if_neg (by decide), hxq4, bnX_o, if_neg (by decide), show askT W N (kdF 273) (buF 273 rq4.1) rq4.2 = _ from hxq5, bnX_o]
          first | done | rfl
        · rfl
      · show Ev X _ _ 121 [Vr 166, Vi 4, Vi ((rq4.1 : Nat) : Int), Vi 0] [Vi vq5] ((SHv st dr rd), (ovl a s bq5)) _
        refine Ev.steps (k := 12) (pc' := 157) (L' := [Vr 166, Vi 4, Vi ((rq4.1 : Nat) : Int), Vi vq5]) (S' := [Vi (bq5 166 8)]) (h' := ((SHv st dr rd), (ovl a s bq5))) (fun _ => rfl) ?_
        rw [hbq5.2.2.2.1]
        refine Ev.ite (P := eq5.1 ≠ 0) (k := 1) (a := 171) (b := 160) (L' := [Vr 166, Vi 4, Vi ((rq4.1 : Nat) : Int), Vi vq5]) (S' := []) (h' := ((SHv st dr rd), (ovl a s bq5))) (fun _ => rfl) (fun b157 => ?_) (fun b157 => ?_)
        · refine Ev.fin (k := 2) (r := (some (Vi 1))) (h' := ((SHv st dr rd), (ovl a s bq5))) (fun _ => rfl) ?_
          refine ⟨rfl, _, rfl, Or.inr ⟨eq5, ?_, ⟨((hoq3.1.tr hoq4.1).tr hbq5.1), hbq5.2⟩⟩⟩
          unfold simT
          rw [hct, hxq3, bnX_o, if_neg (by decide), hxq4, bnX_o, if_neg (by decide), show askT W N (kdF 273) (buF 273 rq4.1) rq4.2 = _ from hxq5, bnX_e]
          first | done | rfl
        · have := hbq5.2.2.1; omega
    · show Ev X _ _ 107 [Vr 166, Vi 4, Vx, Vx] [Vi vq4] ((SHv st dr rd), (ovl a s bq4)) _
      refine Ev.call (k := 9) (pc1 := 118) (L1 := [Vr 166, Vi 4, Vi vq4, Vi 0]) (S1 := [Vi (-1), Vi 0, Vr 166]) (h1 := ((SHv st dr rd), (ovl a s bq4))) (m' := 165) (as := [Vr 166, Vi 0, Vi (-1)]) (S' := []) (L0 := [Vr 166, Vi 0, Vi (-1), Vx]) (fun _ => rfl) rfl rfl rfl rfl rfl rfl (m_asked_br (b := bq4) hbq4.2.2 0 (-1)) (fun r h' hq => ?_)
      obtain ⟨rfl, rfl⟩ := hq
      show Ev X _ _ 121 [Vr 166, Vi 4, Vi vq4, Vi 0] [Vi 0] ((SHv st dr rd), (ovl a s bq4)) _
      refine Ev.steps (k := 12) (pc' := 157) (L' := [Vr 166, Vi 4, Vi vq4, Vi 0]) (S' := [Vi (bq4 166 8)]) (h' := ((SHv st dr rd), (ovl a s bq4))) (fun _ => rfl) ?_
      rw [hbq4.2.2.2.1]
      refine Ev.ite (P := eq4.1 ≠ 0) (k := 1) (a := 171) (b := 160) (L' := [Vr 166, Vi 4, Vi vq4, Vi 0]) (S' := []) (h' := ((SHv st dr rd), (ovl a s bq4))) (fun _ => rfl) (fun b157 => ?_) (fun b157 => ?_)
      · refine Ev.fin (k := 2) (r := (some (Vi 1))) (h' := ((SHv st dr rd), (ovl a s bq4))) (fun _ => rfl) ?_
        refine ⟨rfl, _, rfl, Or.inr ⟨eq4, ?_, ⟨(hoq3.1.tr hbq4.1), hbq4.2⟩⟩⟩
        unfold simT
        rw [hct, hxq3, bnX_o, if_neg (by decide), hxq4, bnX_e]
        first | done | rfl
      · have := hbq4.2.2.1; omega
  · show Ev X _ _ 101 [Vr 166, Vi 4, Vx, Vx] [] ((SHv st dr rd), (ovl a s bq3)) _
    refine Ev.call (k := 3) (pc1 := 104) (L1 := [Vr 166, Vi 4, Vx, Vx]) (S1 := [Vi (-1), Vi 1, Vr 166]) (h1 := ((SHv st dr rd), (ovl a s bq3))) (m' := 165) (as := [Vr 166, Vi 1, Vi (-1)]) (S' := []) (L0 := [Vr 166, Vi 1, Vi (-1), Vx]) (fun _ => rfl) rfl rfl rfl rfl rfl rfl (m_asked_br (b := bq3) hbq3.2.2 1 (-1)) (fun r h' hq => ?_)
    obtain ⟨rfl, rfl⟩ := hq
    show Ev X _ _ 107 [Vr 166, Vi 4, Vx, Vx] [Vi 0] ((SHv st dr rd), (ovl a s bq3)) _
    refine Ev.call (k := 9) (pc1 := 118) (L1 := [Vr 166, Vi 4, Vi 0, Vi 0]) (S1 := [Vi (-1), Vi 0, Vr 166]) (h1 := ((SHv st dr rd), (ovl a s bq3))) (m' := 165) (as := [Vr 166, Vi 0, Vi (-1)]) (S' := []) (L0 := [Vr 166, Vi 0, Vi (-1), Vx]) (fun _ => rfl) rfl rfl rfl rfl rfl rfl (m_asked_br (b := bq3) hbq3.2.2 0 (-1)) (fun r h' hq => ?_)
    obtain ⟨rfl, rfl⟩ := hq
    show Ev X _ _ 121 [Vr 166, Vi 4, Vi 0, Vi 0] [Vi 0] ((SHv st dr rd), (ovl a s bq3)) _
    refine Ev.steps (k := 12) (pc' := 157) (L' := [Vr 166, Vi 4, Vi 0, Vi 0]) (S' := [Vi (bq3 166 8)]) (h' := ((SHv st dr rd), (ovl a s bq3))) (fun _ => rfl) ?_
    rw [hbq3.2.2.2.1]
    refine Ev.ite (P := eq3.1 ≠ 0) (k := 1) (a := 171) (b := 160) (L' := [Vr 166, Vi 4, Vi 0, Vi 0]) (S' := []) (h' := ((SHv st dr rd), (ovl a s bq3))) (fun _ => rfl) (fun b157 => ?_) (fun b157 => ?_)
    · refine Ev.fin (k := 2) (r := (some (Vi 1))) (h' := ((SHv st dr rd), (ovl a s bq3))) (fun _ => rfl) ?_
      refine ⟨rfl, _, rfl, Or.inr ⟨eq3, ?_, ⟨hbq3.1, hbq3.2⟩⟩⟩
      unfold simT
      rw [hct, hxq3, bnX_e]
      first | done | rfl
    · have := hbq3.2.2.1; omega
theorem m_fact274 {X : List Int} {d : Nat} {st dr rd : Int} {a s b : C3} {W : TXT} {p : Nat} (hk : TkM W p b) {N : SC} {j : Nat} (hN : NmM N b j) {c om f : Nat} (e38 : b 166 38 = (c : Int)) (hc : c < 1200) (hct : tC W p = 274) : Ev X (d + 3) 177 0 [Vr 166, Vx, Vx, Vx] [] (SHv st dr rd, ovl a s b) (fun rr hh => rr = some (Vi 1) ∧ ∃ b' : C3, hh = (SHv st dr rd, ovl a s b') ∧ ResC (simT W N p) (fun r => ∃ b1 : C3, OkM W b r.2 b1 ∧ ∃ q v : Nat, r.1 = [(q, v)] ∧ b' = updC (updC (updC b1 191 (1200 * j + c) (q : Int)) 192 (1200 * j + c) (v : Int)) 166 38 ((c : Int) + 1)) (fun e => BdM W b e b')) := by
  have hj := hN.1
  refine Ev.call (k := 2) (pc1 := 4) (L1 := [Vr 166, Vx, Vx, Vx]) (S1 := [Vl 24948, Vr 166]) (h1 := ((SHv st dr rd), (ovl a s b))) (m' := 162) (as := [Vr 166, Vl 24948]) (S' := []) (L0 := [Vr 166, Vl 24948, Vx]) (fun _ => rfl) rfl rfl rfl rfl rfl rfl (k_isWord (b := b) hk 17 (by decide) 24948 (by decide)) (fun r h' hq => ?_)
  obtain ⟨rfl, rfl⟩ := hq
  rw [if_neg (by omega)]
  show Ev X _ _ 7 [Vr 166, Vx, Vx, Vx] [Vi 0] ((SHv st dr rd), (ovl a s b)) _
  refine Ev.call (k := 3) (pc1 := 18) (L1 := [Vr 166, Vx, Vx, Vx]) (S1 := [Vl 6840691, Vr 166]) (h1 := ((SHv st dr rd), (ovl a s b))) (m' := 162) (as := [Vr 166, Vl 6840691]) (S' := []) (L0 := [Vr 166, Vl 6840691, Vx]) (fun _ => rfl) rfl rfl rfl rfl rfl rfl (k_isWord (b := b) hk 18 (by decide) 6840691 (by decide)) (fun r h' hq => ?_)
  obtain ⟨rfl, rfl⟩ := hq
  rw [if_pos (by omega)]
  show Ev X _ _ 21 [Vr 166, Vx, Vx, Vx] [Vi 1] ((SHv st dr rd), (ovl a s b)) _
  refine Ev.call (k := 8) (pc1 := 98) (L1 := [Vr 166, Vi 5, Vx, Vx]) (S1 := [Vr 166]) (h1 := ((SHv st dr rd), (ovl a s b))) (m' := 157) (as := [Vr 166]) (S' := []) (L0 := [Vr 166, Vx, Vx, Vx, Vx, Vx]) (fun _ => rfl) rfl rfl rfl rfl rfl rfl (m_nextT (b := b) hk) (fun r h' hq => ?_)
  obtain ⟨rfl, bq6, rfl, hq⟩ := hq
  rcases hq with ⟨pq6, hxq6, hoq6⟩ | ⟨eq6, hxq6, hbq6⟩
  · show Ev X _ _ 101 [Vr 166, Vi 5, Vx, Vx] [] ((SHv st dr rd), (ovl a s bq6)) _
    refine Ev.call (k := 3) (pc1 := 104) (L1 := [Vr 166, Vi 5, Vx, Vx]) (S1 := [Vi (-1), Vi 1, Vr 166]) (h1 := ((SHv st dr rd), (ovl a s bq6))) (m' := 165) (as := [Vr 166, Vi 1, Vi (-1)]) (S' := []) (L0 := [Vr 166, Vi 1, Vi (-1), Vx]) (fun _ => rfl) rfl rfl rfl rfl rfl rfl (m_asked_1 (b := bq6) hoq6.2 (hN.fR (((KpM.rf : KpM j c om f b b).fn hoq6.1)).fr) (-1)) (fun r h' hq => ?_)
    obtain ⟨bq7, rfl, hq⟩ := hq
    rcases hq with ⟨rq7, hxq7, rfl, hoq7⟩ | ⟨eq7, hxq7, ⟨vq7, rfl, wq7⟩, hbq7⟩
    · have lq7 := (ask_ok hxq7).2.2.1
      have nq7 := (hN.2.2 1 (by decide)).1
      show Ev X _ _ 107 [Vr 166, Vi 5, Vx, Vx] [Vi ((rq7.1 : Nat) : Int)] ((SHv st dr rd), (ovl a s bq7)) _
      refine Ev.call (k := 12) (pc1 := 130) (L1 := [Vr 166, Vi 5, Vi ((rq7.1 : Nat) : Int), Vi 0]) (S1 := [Vi (-1), Vi 2, Vr 166]) (h1 := ((SHv st dr rd), (ovl a s bq7))) (m' := 165) (as := [Vr 166, Vi 2, Vi (-1)]) (S' := []) (L0 := [Vr 166, Vi 2, Vi (-1), Vx]) (fun _ => rfl) rfl rfl rfl rfl rfl rfl (m_asked_2 (b := bq7) hoq7.2 (hN.fR ((((KpM.rf : KpM j c om f b b).fn hoq6.1).fn hoq7.1)).fr) (-1)) (fun r h' hq => ?_)
      obtain ⟨bq8, rfl, hq⟩ := hq
      rcases hq with ⟨rq8, hxq8, rfl, hoq8⟩ | ⟨eq8, hxq8, ⟨vq8, rfl, wq8⟩, hbq8⟩
      · have lq8 := (ask_ok hxq8).2.2.1
        have nq8 := (hN.2.2 2 (by decide)).1
        show Ev X _ _ 133 [Vr 166, Vi 5, Vi ((rq7.1 : Nat) : Int), Vi 0] [Vi ((rq8.1 : Nat) : Int)] ((SHv st dr rd), (ovl a s bq8)) _
        refine Ev.steps (k := 9) (pc' := 157) (L' := [Vr 166, Vi 5, Vi ((rq7.1 : Nat) : Int), Vi ((rq8.1 : Nat) : Int)]) (S' := [Vi (bq8 166 8)]) (h' := ((SHv st dr rd), (ovl a s bq8))) (fun _ => rfl) ?_
        rw [hoq8.2.2.1]
        refine Ev.steps (k := 6) (pc' := 166) (L' := [Vr 166, Vi 5, Vi ((rq7.1 : Nat) : Int), Vi ((rq8.1 : Nat) : Int)]) (S' := [Vi (w32 (8 * ((rq7.1 : Nat) : Int))), Vi 5, Vr 166]) (h' := ((SHv st dr rd), (ovl a s bq8))) (fun _ => rfl) ?_
        rw [show (w32 (8 * ((rq7.1 : Nat) : Int))) = ((8 * rq7.1 : Nat) : Int) from (by unfold w32; omega)]
        refine Ev.steps (k := 2) (pc' := 168) (L' := [Vr 166, Vi 5, Vi ((rq7.1 : Nat) : Int), Vi ((rq8.1 : Nat) : Int)]) (S' := [Vi (w32 (((8 * rq7.1 : Nat) : Int) + ((rq8.1 : Nat) : Int))), Vi 5, Vr 166]) (h' := ((SHv st dr rd), (ovl a s bq8))) (fun _ => rfl) ?_
        rw [show (w32 (((8 * rq7.1 : Nat) : Int) + ((rq8.1 : Nat) : Int))) = (((8 * rq7.1) + rq8.1 : Nat) : Int) from (by unfold w32; omega)]
        refine Ev.call (k := 0) (pc1 := 168) (L1 := [Vr 166, Vi 5, Vi ((rq7.1 : Nat) : Int), Vi ((rq8.1 : Nat) : Int)]) (S1 := [Vi (((8 * rq7.1) + rq8.1 : Nat) : Int), Vi 5, Vr 166]) (h1 := ((SHv st dr rd), (ovl a s bq8))) (m' := 176) (as := [Vr 166, Vi 5, Vi (((8 * rq7.1) + rq8.1 : Nat) : Int)]) (S' := []) (L0 := [Vr 166, Vi 5, Vi (((8 * rq7.1) + rq8.1 : Nat) : Int)]) (fun _ => rfl) rfl rfl rfl rfl rfl rfl (m_add (b := bq8) hj ((hoq8.1 166 39 (by omega)).trans ((hoq7.1 166 39 (by omega)).trans ((hoq6.1 166 39 (by omega)).trans hN.2.1))) ((hoq8.1 166 38 (by omega)).trans ((hoq7.1 166 38 (by omega)).trans ((hoq6.1 166 38 (by omega)).trans e38))) hc 5 (((8 * rq7.1) + rq8.1 : Nat) : Int)) (fun r h' hq => ?_)
        obtain ⟨rfl, rfl⟩ := hq
        show Ev X _ _ 171 [Vr 166, Vi 5, Vi ((rq7.1 : Nat) : Int), Vi ((rq8.1 : Nat) : Int)] [] ((SHv st dr rd), (ovl a s (updC (updC (updC bq8 191 ((1200 * j + c)) 5) 192 ((1200 * j + c)) (((8 * rq7.1) + rq8.1 : Nat) : Int)) 166 38 ((c : Int) + 1)))) _
        refine Ev.fin (k := 2) (r := (some (Vi 1))) (h' := ((SHv st dr rd), (ovl a s (updC (updC (updC bq8 191 ((1200 * j + c)) 5) 192 ((1200 * j + c)) (((8 * rq7.1) + rq8.1 : Nat) : Int)) 166 38 ((c : Int) + 1))))) (fun _ => rfl) ?_
        refine ⟨rfl, _, rfl, Or.inl ⟨([(5, 8 * rq7.1 + rq8.1)], rq8.2), ?_, bq8, ⟨((hoq6.1.tr hoq7.1).tr hoq8.1), hoq8.2⟩, 5, 8 * rq7.1 + rq8.1, rfl, ?_⟩⟩
        · unfold simT
          rw [hct, hxq6, bnX_o, if_neg (by decide), hxq7, bnX_o, if_neg (by decide), show askT W N (kdF 274) (buF 274 rq7.1) rq7.2 = _ from hxq8, bnX_o]
          first | done | rfl
        · rfl
      · show Ev X _ _ 133 [Vr 166, Vi 5, Vi ((rq7.1 : Nat) : Int), Vi 0] [Vi vq8] ((SHv st dr rd), (ovl a s bq8)) _
        refine Ev.steps (k := 9) (pc' := 157) (L' := [Vr 166, Vi 5, Vi ((rq7.1 : Nat) : Int), Vi vq8]) (S' := [Vi (bq8 166 8)]) (h' := ((SHv st dr rd), (ovl a s bq8))) (fun _ => rfl) ?_
        rw [hbq8.2.2.2.1]
        refine Ev.ite (P := eq8.1 ≠ 0) (k := 1) (a := 171) (b := 160) (L' := [Vr 166, Vi 5, Vi ((rq7.1 : Nat) : Int), Vi vq8]) (S' := []) (h' := ((SHv st dr rd), (ovl a s bq8))) (fun _ => rfl) (fun b157 => ?_) (fun b157 => ?_)
        · refine Ev.fin (k := 2) (r := (some (Vi 1))) (h' := ((SHv st dr rd), (ovl a s bq8))) (fun _ => rfl) ?_
          refine ⟨rfl, _, rfl, Or.inr ⟨eq8, ?_, ⟨((hoq6.1.tr hoq7.1).tr hbq8.1), hbq8.2⟩⟩⟩
          unfold simT
          rw [hct, hxq6, bnX_o, if_neg (by decide), hxq7, bnX_o, if_neg (by decide), show askT W N (kdF 274) (buF 274 rq7.1) rq7.2 = _ from hxq8, bnX_e]
          first | done | rfl
        · have := hbq8.2.2.1; omega
    · show Ev X _ _ 107 [Vr 166, Vi 5, Vx, Vx] [Vi vq7] ((SHv st dr rd), (ovl a s bq7)) _
      refine Ev.call (k := 12) (pc1 := 130) (L1 := [Vr 166, Vi 5, Vi vq7, Vi 0]) (S1 := [Vi (-1), Vi 2, Vr 166]) (h1 := ((SHv st dr rd), (ovl a s bq7))) (m' := 165) (as := [Vr 166, Vi 2, Vi (-1)]) (S' := []) (L0 := [Vr 166, Vi 2, Vi (-1), Vx]) (fun _ => rfl) rfl rfl rfl rfl rfl rfl (m_asked_br (b := bq7) hbq7.2.2 2 (-1)) (fun r h' hq => ?_)
      obtain ⟨rfl, rfl⟩ := hq
      show Ev X _ _ 133 [Vr 166, Vi 5, Vi vq7, Vi 0] [Vi 0] ((SHv st dr rd), (ovl a s bq7)) _
      refine Ev.steps (k := 9) (pc' := 157) (L' := [Vr 166, Vi 5, Vi vq7, Vi 0]) (S' := [Vi (bq7 166 8)]) (h' := ((SHv st dr rd), (ovl a s bq7))) (fun _ => rfl) ?_
      rw [hbq7.2.2.2.1]
      refine Ev.ite (P := eq7.1 ≠ 0) (k := 1) (a := 171) (b := 160) (L' := [Vr 166, Vi 5, Vi vq7, Vi 0]) (S' := []) (h' := ((SHv st dr rd), (ovl a s bq7))) (fun _ => rfl) (fun b157 => ?_) (fun b157 => ?_)
      · refine Ev.fin (k := 2) (r := (some (Vi 1))) (h' := ((SHv st dr rd), (ovl a s bq7))) (fun _ => rfl) ?_
        refine ⟨rfl, _, rfl, Or.inr ⟨eq7, ?_, ⟨(hoq6.1.tr hbq7.1), hbq7.2⟩⟩⟩
        unfold simT
        rw [hct, hxq6, bnX_o, if_neg (by decide), hxq7, bnX_e]
        first | done | rfl
      · have := hbq7.2.2.1; omega
  · show Ev X _ _ 101 [Vr 166, Vi 5, Vx, Vx] [] ((SHv st dr rd), (ovl a s bq6)) _
    refine Ev.call (k := 3) (pc1 := 104) (L1 := [Vr 166, Vi 5, Vx, Vx]) (S1 := [Vi (-1), Vi 1, Vr 166]) (h1 := ((SHv st dr rd), (ovl a s bq6))) (m' := 165) (as := [Vr 166, Vi 1, Vi (-1)]) (S' := []) (L0 := [Vr 166, Vi 1, Vi (-1), Vx]) (fun _ => rfl) rfl rfl rfl rfl rfl rfl (m_asked_br (b := bq6) hbq6.2.2 1 (-1)) (fun r h' hq => ?_)
    obtain ⟨rfl, rfl⟩ := hq
    show Ev X _ _ 107 [Vr 166, Vi 5, Vx, Vx] [Vi 0] ((SHv st dr rd), (ovl a s bq6)) _
    refine Ev.call (k := 12) (pc1 := 130) (L1 := [Vr 166, Vi 5, Vi 0, Vi 0]) (S1 := [Vi (-1), Vi 2, Vr 166]) (h1 := ((SHv st dr rd), (ovl a s bq6))) (m' := 165) (as := [Vr 166, Vi 2, Vi (-1)]) (S' := []) (L0 := [Vr 166, Vi 2, Vi (-1), Vx]) (fun _ => rfl) rfl rfl rfl rfl rfl rfl (m_asked_br (b := bq6) hbq6.2.2 2 (-1)) (fun r h' hq => ?_)
    obtain ⟨rfl, rfl⟩ := hq
    show Ev X _ _ 133 [Vr 166, Vi 5, Vi 0, Vi 0] [Vi 0] ((SHv st dr rd), (ovl a s bq6)) _
    refine Ev.steps (k := 9) (pc' := 157) (L' := [Vr 166, Vi 5, Vi 0, Vi 0]) (S' := [Vi (bq6 166 8)]) (h' := ((SHv st dr rd), (ovl a s bq6))) (fun _ => rfl) ?_
    rw [hbq6.2.2.2.1]
    refine Ev.ite (P := eq6.1 ≠ 0) (k := 1) (a := 171) (b := 160) (L' := [Vr 166, Vi 5, Vi 0, Vi 0]) (S' := []) (h' := ((SHv st dr rd), (ovl a s bq6))) (fun _ => rfl) (fun b157 => ?_) (fun b157 => ?_)
    · refine Ev.fin (k := 2) (r := (some (Vi 1))) (h' := ((SHv st dr rd), (ovl a s bq6))) (fun _ => rfl) ?_
      refine ⟨rfl, _, rfl, Or.inr ⟨eq6, ?_, ⟨hbq6.1, hbq6.2⟩⟩⟩
      unfold simT
      rw [hct, hxq6, bnX_e]
      first | done | rfl
    · have := hbq6.2.2.1; omega
theorem m_fact275 {X : List Int} {d : Nat} {st dr rd : Int} {a s b : C3} {W : TXT} {p : Nat} (hk : TkM W p b) {N : SC} {j : Nat} (hN : NmM N b j) {c om f : Nat} (e38 : b 166 38 = (c : Int)) (hc : c < 1200) (hct : tC W p = 275) : Ev X (d + 3) 177 0 [Vr 166, Vx, Vx, Vx] [] (SHv st dr rd, ovl a s b) (fun rr hh => rr = some (Vi 1) ∧ ∃ b' : C3, hh = (SHv st dr rd, ovl a s b') ∧ ResC (simT W N p) (fun r => ∃ b1 : C3, OkM W b r.2 b1 ∧ ∃ q v : Nat, r.1 = [(q, v)] ∧ b' = updC (updC (updC b1 191 (1200 * j + c) (q : Int)) 192 (1200 * j + c) (v : Int)) 166 38 ((c : Int) + 1)) (fun e => BdM W b e b')) := by
  have hj := hN.1
  refine Ev.call (k := 2) (pc1 := 4) (L1 := [Vr 166, Vx, Vx, Vx]) (S1 := [Vl 24948, Vr 166]) (h1 := ((SHv st dr rd), (ovl a s b))) (m' := 162) (as := [Vr 166, Vl 24948]) (S' := []) (L0 := [Vr 166, Vl 24948, Vx]) (fun _ => rfl) rfl rfl rfl rfl rfl rfl (k_isWord (b := b) hk 17 (by decide) 24948 (by decide)) (fun r h' hq => ?_)
  obtain ⟨rfl, rfl⟩ := hq
  rw [if_neg (by omega)]
  show Ev X _ _ 7 [Vr 166, Vx, Vx, Vx] [Vi 0] ((SHv st dr rd), (ovl a s b)) _
  refine Ev.call (k := 3) (pc1 := 18) (L1 := [Vr 166, Vx, Vx, Vx]) (S1 := [Vl 6840691, Vr 166]) (h1 := ((SHv st dr rd), (ovl a s b))) (m' := 162) (as := [Vr 166, Vl 6840691]) (S' := []) (L0 := [Vr 166, Vl 6840691, Vx]) (fun _ => rfl) rfl rfl rfl rfl rfl rfl (k_isWord (b := b) hk 18 (by decide) 6840691 (by decide)) (fun r h' hq => ?_)
  obtain ⟨rfl, rfl⟩ := hq
  rw [if_neg (by omega)]
  show Ev X _ _ 21 [Vr 166, Vx, Vx, Vx] [Vi 0] ((SHv st dr rd), (ovl a s b)) _
  refine Ev.call (k := 3) (pc1 := 32) (L1 := [Vr 166, Vx, Vx, Vx]) (S1 := [Vl 1852137842, Vr 166]) (h1 := ((SHv st dr rd), (ovl a s b))) (m' := 162) (as := [Vr 166, Vl 1852137842]) (S' := []) (L0 := [Vr 166, Vl 1852137842, Vx]) (fun _ => rfl) rfl rfl rfl rfl rfl rfl (k_isWord (b := b) hk 19 (by decide) 1852137842 (by decide)) (fun r h' hq => ?_)
  obtain ⟨rfl, rfl⟩ := hq
  rw [if_pos (by omega)]
  show Ev X _ _ 35 [Vr 166, Vx, Vx, Vx] [Vi 1] ((SHv st dr rd), (ovl a s b)) _
  refine Ev.call (k := 8) (pc1 := 98) (L1 := [Vr 166, Vi 6, Vx, Vx]) (S1 := [Vr 166]) (h1 := ((SHv st dr rd), (ovl a s b))) (m' := 157) (as := [Vr 166]) (S' := []) (L0 := [Vr 166, Vx, Vx, Vx, Vx, Vx]) (fun _ => rfl) rfl rfl rfl rfl rfl rfl (m_nextT (b := b) hk) (fun r h' hq => ?_)
  obtain ⟨rfl, bq9, rfl, hq⟩ := hq
  rcases hq with ⟨pq9, hxq9, hoq9⟩ | ⟨eq9, hxq9, hbq9⟩
  · show Ev X _ _ 101 [Vr 166, Vi 6, Vx, Vx] [] ((SHv st dr rd), (ovl a s bq9)) _
    refine Ev.call (k := 3) (pc1 := 104) (L1 := [Vr 166, Vi 6, Vx, Vx]) (S1 := [Vi (-1), Vi 1, Vr 166]) (h1 := ((SHv st dr rd), (ovl a s bq9))) (m' := 165) (as := [Vr 166, Vi 1, Vi (-1)]) (S' := []) (L0 := [Vr 166, Vi 1, Vi (-1), Vx]) (fun _ => rfl) rfl rfl rfl rfl rfl rfl (m_asked_1 (b := bq9) hoq9.2 (hN.fR (((KpM.rf : KpM j c om f b b).fn hoq9.1)).fr) (-1)) (fun r h' hq => ?_)
    obtain ⟨bq10, rfl, hq⟩ := hq
    rcases hq with ⟨rq10, hxq10, rfl, hoq10⟩ | ⟨eq10, hxq10, ⟨vq10, rfl, wq10⟩, hbq10⟩
    · have lq10 := (ask_ok hxq10).2.2.1
      have nq10 := (hN.2.2 1 (by decide)).1
      show Ev X _ _ 107 [Vr 166, Vi 6, Vx, Vx] [Vi ((rq10.1 : Nat) : Int)] ((SHv st dr rd), (ovl a s bq10)) _
      refine Ev.call (k := 15) (pc1 := 149) (L1 := [Vr 166, Vi 6, Vi ((rq10.1 : Nat) : Int), Vi 0]) (S1 := [Vi ((rq10.1 : Nat) : Int), Vi 1, Vr 166]) (h1 := ((SHv st dr rd), (ovl a s bq10))) (m' := 165) (as := [Vr 166, Vi 1, Vi ((rq10.1 : Nat) : Int)]) (S' := []) (L0 := [Vr 166, Vi 1, Vi ((rq10.1 : Nat) : Int), Vx]) (fun _ => rfl) rfl rfl rfl rfl rfl rfl (m_asked_1 (b := bq10) hoq10.2 (hN.fR ((((KpM.rf : KpM j c om f b b).fn hoq9.1).fn hoq10.1)).fr) ((rq10.1 : Nat) : Int)) (fun r h' hq => ?_)
      obtain ⟨bq11, rfl, hq⟩ := hq
      rcases hq with ⟨rq11, hxq11, rfl, hoq11⟩ | ⟨eq11, hxq11, ⟨vq11, rfl, wq11⟩, hbq11⟩
      · have lq11 := (ask_ok hxq11).2.2.1
        have nq11 := (hN.2.2 1 (by decide)).1
        show Ev X _ _ 152 [Vr 166, Vi 6, Vi ((rq10.1 : Nat) : Int), Vi 0] [Vi ((rq11.1 : Nat) : Int)] ((SHv st dr rd), (ovl a s bq11)) _
        refine Ev.steps (k := 3) (pc' := 157) (L' := [Vr 166, Vi 6, Vi ((rq10.1 : Nat) : Int), Vi ((rq11.1 : Nat) : Int)]) (S' := [Vi (bq11 166 8)]) (h' := ((SHv st dr rd), (ovl a s bq11))) (fun _ => rfl) ?_
        rw [hoq11.2.2.1]
        refine Ev.steps (k := 6) (pc' := 166) (L' := [Vr 166, Vi 6, Vi ((rq10.1 : Nat) : Int), Vi ((rq11.1 : Nat) : Int)]) (S' := [Vi (w32 (8 * ((rq10.1 : Nat) : Int))), Vi 6, Vr 166]) (h' := ((SHv st dr rd), (ovl a s bq11))) (fun _ => rfl) ?_
        rw [show (w32 (8 * ((rq10.1 : Nat) : Int))) = ((8 * rq10.1 : Nat) : Int) from (by unfold w32; omega)]
        refine Ev.steps (k := 2) (pc' := 168) (L' := [Vr 166, Vi 6, Vi ((rq10.1 : Nat) : Int), Vi ((rq11.1 : Nat) : Int)]) (S' := [Vi (w32 (((8 * rq10.1 : Nat) : Int) + ((rq11.1 : Nat) : Int))), Vi 6, Vr 166]) (h' := ((SHv st dr rd), (ovl a s bq11))) (fun _ => rfl) ?_
        rw [show (w32 (((8 * rq10.1 : Nat) : Int) + ((rq11.1 : Nat) : Int))) = (((8 * rq10.1) + rq11.1 : Nat) : Int) from (by unfold w32; omega)]
        refine Ev.call (k := 0) (pc1 := 168) (L1 := [Vr 166, Vi 6, Vi ((rq10.1 : Nat) : Int), Vi ((rq11.1 : Nat) : Int)]) (S1 := [Vi (((8 * rq10.1) + rq11.1 : Nat) : Int), Vi 6, Vr 166]) (h1 := ((SHv st dr rd), (ovl a s bq11))) (m' := 176) (as := [Vr 166, Vi 6, Vi (((8 * rq10.1) + rq11.1 : Nat) : Int)]) (S' := []) (L0 := [Vr 166, Vi 6, Vi (((8 * rq10.1) + rq11.1 : Nat) : Int)]) (fun _ => rfl) rfl rfl rfl rfl rfl rfl (m_add (b := bq11) hj ((hoq11.1 166 39 (by omega)).trans ((hoq10.1 166 39 (by omega)).trans ((hoq9.1 166 39 (by omega)).trans hN.2.1))) ((hoq11.1 166 38 (by omega)).trans ((hoq10.1 166 38 (by omega)).trans ((hoq9.1 166 38 (by omega)).trans e38))) hc 6 (((8 * rq10.1) + rq11.1 : Nat) : Int)) (fun r h' hq => ?_)
        obtain ⟨rfl, rfl⟩ := hq
        show Ev X _ _ 171 [Vr 166, Vi 6, Vi ((rq10.1 : Nat) : Int), Vi ((rq11.1 : Nat) : Int)] [] ((SHv st dr rd), (ovl a s (updC (updC (updC bq11 191 ((1200 * j + c)) 6) 192 ((1200 * j + c)) (((8 * rq10.1) + rq11.1 : Nat) : Int)) 166 38 ((c : Int) + 1)))) _
        refine Ev.fin (k := 2) (r := (some (Vi 1))) (h' := ((SHv st dr rd), (ovl a s (updC (updC (updC bq11 191 ((1200 * j + c)) 6) 192 ((1200 * j + c)) (((8 * rq10.1) + rq11.1 : Nat) : Int)) 166 38 ((c : Int) + 1))))) (fun _ => rfl) ?_
        refine ⟨rfl, _, rfl, Or.inl ⟨([(6, 8 * rq10.1 + rq11.1)], rq11.2), ?_, bq11, ⟨((hoq9.1.tr hoq10.1).tr hoq11.1), hoq11.2⟩, 6, 8 * rq10.1 + rq11.1, rfl, ?_⟩⟩
        · unfold simT
          rw [hct, hxq9, bnX_o, if_neg (by decide), hxq10, bnX_o, if_neg (by decide), show askT W N (kdF 275) (buF 275 rq10.1) rq10.2 = _ from hxq11, bnX_o]
          first | done | rfl
        · rfl
      · show Ev X _ _ 152 [Vr 166, Vi 6, Vi ((rq10.1 : Nat) : Int), Vi 0] [Vi vq11] ((SHv st dr rd), (ovl a s bq11)) _
        refine Ev.steps (k := 3) (pc' := 157) (L' := [Vr 166, Vi 6, Vi ((rq10.1 : Nat) : Int), Vi vq11]) (S' := [Vi (bq11 166 8)]) (h' := ((SHv st dr rd), (ovl a s bq11))) (fun _ => rfl) ?_
        rw [hbq11.2.2.2.1]
        refine Ev.ite (P := eq11.1 ≠ 0) (k := 1) (a := 171) (b := 160) (L' := [Vr 166, Vi 6, Vi ((rq10.1 : Nat) : Int), Vi vq11]) (S' := []) (h' := ((SHv st dr rd), (ovl a s bq11))) (fun _ => rfl) (fun b157 => ?_) (fun b157 => ?_)
        · refine Ev.fin (k := 2) (r := (some (Vi 1))) (h' := ((SHv st dr rd), (ovl a s bq11))) (fun _ => rfl) ?_
          refine ⟨rfl, _, rfl, Or.inr ⟨eq11, ?_, ⟨((hoq9.1.tr hoq10.1).tr hbq11.1), hbq11.2⟩⟩⟩
          unfold simT
          rw [hct, hxq9, bnX_o, if_neg (by decide), hxq10, bnX_o, if_neg (by decide), show askT W N (kdF 275) (buF 275 rq10.1) rq10.2 = _ from hxq11, bnX_e]
          first | done | rfl
        · have := hbq11.2.2.1; omega
    · show Ev X _ _ 107 [Vr 166, Vi 6, Vx, Vx] [Vi vq10] ((SHv st dr rd), (ovl a s bq10)) _
      refine Ev.call (k := 15) (pc1 := 149) (L1 := [Vr 166, Vi 6, Vi vq10, Vi 0]) (S1 := [Vi vq10, Vi 1, Vr 166]) (h1 := ((SHv st dr rd), (ovl a s bq10))) (m' := 165) (as := [Vr 166, Vi 1, Vi vq10]) (S' := []) (L0 := [Vr 166, Vi 1, Vi vq10, Vx]) (fun _ => rfl) rfl rfl rfl rfl rfl rfl (m_asked_br (b := bq10) hbq10.2.2 1 vq10) (fun r h' hq => ?_)
      obtain ⟨rfl, rfl⟩ := hq
      show Ev X _ _ 152 [Vr 166, Vi 6, Vi vq10, Vi 0] [Vi 0] ((SHv st dr rd), (ovl a s bq10)) _
      refine Ev.steps (k := 3) (pc' := 157) (L' := [Vr 166, Vi 6, Vi vq10, Vi 0]) (S' := [Vi (bq10 166 8)]) (h' := ((SHv st dr rd), (ovl a s bq10))) (fun _ => rfl) ?_
      rw [hbq10.2.2.2.1]
      refine Ev.ite (P := eq10.1 ≠ 0) (k := 1) (a := 171) (b := 160) (L' := [Vr 166, Vi 6, Vi vq10, Vi 0]) (S' := []) (h' := ((SHv st dr rd), (ovl a s bq10))) (fun _ => rfl) (fun b157 => ?_) (fun b157 => ?_)
      · refine Ev.fin (k := 2) (r := (some (Vi 1))) (h' := ((SHv st dr rd), (ovl a s bq10))) (fun _ => rfl) ?_
        refine ⟨rfl, _, rfl, Or.inr ⟨eq10, ?_, ⟨(hoq9.1.tr hbq10.1), hbq10.2⟩⟩⟩
        unfold simT
        rw [hct, hxq9, bnX_o, if_neg (by decide), hxq10, bnX_e]
        first | done | rfl
      · have := hbq10.2.2.1; omega
  · show Ev X _ _ 101 [Vr 166, Vi 6, Vx, Vx] [] ((SHv st dr rd), (ovl a s bq9)) _
    refine Ev.call (k := 3) (pc1 := 104) (L1 := [Vr 166, Vi 6, Vx, Vx]) (S1 := [Vi (-1), Vi 1, Vr 166]) (h1 := ((SHv st dr rd), (ovl a s bq9))) (m' := 165) (as := [Vr 166, Vi 1, Vi (-1)]) (S' := []) (L0 := [Vr 166, Vi 1, Vi (-1), Vx]) (fun _ => rfl) rfl rfl rfl rfl rfl rfl (m_asked_br (b := bq9) hbq9.2.2 1 (-1)) (fun r h' hq => ?_)
    obtain ⟨rfl, rfl⟩ := hq
    show Ev X _ _ 107 [Vr 166, Vi 6, Vx, Vx] [Vi 0] ((SHv st dr rd), (ovl a s bq9)) _
    refine Ev.call (k := 15) (pc1 := 149) (L1 := [Vr 166, Vi 6, Vi 0, Vi 0]) (S1 := [Vi 0, Vi 1, Vr 166]) (h1 := ((SHv st dr rd), (ovl a s bq9))) (m' := 165) (as := [Vr 166, Vi 1, Vi 0]) (S' := []) (L0 := [Vr 166, Vi 1, Vi 0, Vx]) (fun _ => rfl) rfl rfl rfl rfl rfl rfl (m_asked_br (b := bq9) hbq9.2.2 1 0) (fun r h' hq => ?_)
    obtain ⟨rfl, rfl⟩ := hq
    show Ev X _ _ 152 [Vr 166, Vi 6, Vi 0, Vi 0] [Vi 0] ((SHv st dr rd), (ovl a s bq9)) _
    refine Ev.steps (k := 3) (pc' := 157) (L' := [Vr 166, Vi 6, Vi 0, Vi 0]) (S' := [Vi (bq9 166 8)]) (h' := ((SHv st dr rd), (ovl a s bq9))) (fun _ => rfl) ?_
    rw [hbq9.2.2.2.1]
    refine Ev.ite (P := eq9.1 ≠ 0) (k := 1) (a := 171) (b := 160) (L' := [Vr 166, Vi 6, Vi 0, Vi 0]) (S' := []) (h' := ((SHv st dr rd), (ovl a s bq9))) (fun _ => rfl) (fun b157 => ?_) (fun b157 => ?_)
    · refine Ev.fin (k := 2) (r := (some (Vi 1))) (h' := ((SHv st dr rd), (ovl a s bq9))) (fun _ => rfl) ?_
      refine ⟨rfl, _, rfl, Or.inr ⟨eq9, ?_, ⟨hbq9.1, hbq9.2⟩⟩⟩
      unfold simT
      rw [hct, hxq9, bnX_e]
      first | done | rfl
    · have := hbq9.2.2.1; omega
theorem m_fact276 {X : List Int} {d : Nat} {st dr rd : Int} {a s b : C3} {W : TXT} {p : Nat} (hk : TkM W p b) {N : SC} {j : Nat} (hN : NmM N b j) {c om f : Nat} (e38 : b 166 38 = (c : Int)) (hc : c < 1200) (hct : tC W p = 276) : Ev X (d + 3) 177 0 [Vr 166, Vx, Vx, Vx] [] (SHv st dr rd, ovl a s b) (fun rr hh => rr = some (Vi 1) ∧ ∃ b' : C3, hh = (SHv st dr rd, ovl a s b') ∧ ResC (simT W N p) (fun r => ∃ b1 : C3, OkM W b r.2 b1 ∧ ∃ q v : Nat, r.1 = [(q, v)] ∧ b' = updC (updC (updC b1 191 (1200 * j + c) (q : Int)) 192 (1200 * j + c) (v : Int)) 166 38 ((c : Int) + 1)) (fun e => BdM W b e b')) := by
  have hj := hN.1
  refine Ev.call (k := 2) (pc1 := 4) (L1 := [Vr 166, Vx, Vx, Vx]) (S1 := [Vl 24948, Vr 166]) (h1 := ((SHv st dr rd), (ovl a s b))) (m' := 162) (as := [Vr 166, Vl 24948]) (S' := []) (L0 := [Vr 166, Vl 24948, Vx]) (fun _ => rfl) rfl rfl rfl rfl rfl rfl (k_isWord (b := b) hk 17 (by decide) 24948 (by decide)) (fun r h' hq => ?_)
  obtain ⟨rfl, rfl⟩ := hq
  rw [if_neg (by omega)]
  show Ev X _ _ 7 [Vr 166, Vx, Vx, Vx] [Vi 0] ((SHv st dr rd), (ovl a s b)) _
  refine Ev.call (k := 3) (pc1 := 18) (L1 := [Vr 166, Vx, Vx, Vx]) (S1 := [Vl 6840691, Vr 166]) (h1 := ((SHv st dr rd), (ovl a s b))) (m' := 162) (as := [Vr 166, Vl 6840691]) (S' := []) (L0 := [Vr 166, Vl 6840691, Vx]) (fun _ => rfl) rfl rfl rfl rfl rfl rfl (k_isWord (b := b) hk 18 (by decide) 6840691 (by decide)) (fun r h' hq => ?_)
  obtain ⟨rfl, rfl⟩ := hq
  rw [if_neg (by omega)]
  show Ev X _ _ 21 [Vr 166, Vx, Vx, Vx] [Vi 0] ((SHv st dr rd), (ovl a s b)) _
  refine Ev.call (k := 3) (pc1 := 32) (L1 := [Vr 166, Vx, Vx, Vx]) (S1 := [Vl 1852137842, Vr 166]) (h1 := ((SHv st dr rd), (ovl a s b))) (m' := 162) (as := [Vr 166, Vl 1852137842]) (S' := []) (L0 := [Vr 166, Vl 1852137842, Vx]) (fun _ => rfl) rfl rfl rfl rfl rfl rfl (k_isWord (b := b) hk 19 (by decide) 1852137842 (by decide)) (fun r h' hq => ?_)
  obtain ⟨rfl, rfl⟩ := hq
  rw [if_neg (by omega)]
  show Ev X _ _ 35 [Vr 166, Vx, Vx, Vx] [Vi 0] ((SHv st dr rd), (ovl a s b)) _
  refine Ev.call (k := 3) (pc1 := 47) (L1 := [Vr 166, Vx, Vx, Vx]) (S1 := [Vl 418431069797, Vr 166]) (h1 := ((SHv st dr rd), (ovl a s b))) (m' := 162) (as := [Vr 166, Vl 418431069797]) (S' := []) (L0 := [Vr 166, Vl 418431069797, Vx]) (fun _ => rfl) rfl rfl rfl rfl rfl rfl (k_isWord (b := b) hk 20 (by decide) 418431069797 (by decide)) (fun r h' hq => ?_)
  obtain ⟨rfl, rfl⟩ := hq
  rw [if_pos (by omega)]
  show Ev X _ _ 50 [Vr 166, Vx, Vx, Vx] [Vi 1] ((SHv st dr rd), (ovl a s b)) _
  refine Ev.call (k := 8) (pc1 := 98) (L1 := [Vr 166, Vi 7, Vx, Vx]) (S1 := [Vr 166]) (h1 := ((SHv st dr rd), (ovl a s b))) (m' := 157) (as := [Vr 166]) (S' := []) (L0 := [Vr 166, Vx, Vx, Vx, Vx, Vx]) (fun _ => rfl) rfl rfl rfl rfl rfl rfl (m_nextT (b := b) hk) (fun r h' hq => ?_)
  obtain ⟨rfl, bq12, rfl, hq⟩ := hq
  rcases hq with ⟨pq12, hxq12, hoq12⟩ | ⟨eq12, hxq12, hbq12⟩
  · show Ev X _ _ 101 [Vr 166, Vi 7, Vx, Vx] [] ((SHv st dr rd), (ovl a s bq12)) _
    refine Ev.call (k := 3) (pc1 := 104) (L1 := [Vr 166, Vi 7, Vx, Vx]) (S1 := [Vi (-1), Vi 1, Vr 166]) (h1 := ((SHv st dr rd), (ovl a s bq12))) (m' := 165) (as := [Vr 166, Vi 1, Vi (-1)]) (S' := []) (L0 := [Vr 166, Vi 1, Vi (-1), Vx]) (fun _ => rfl) rfl rfl rfl rfl rfl rfl (m_asked_1 (b := bq12) hoq12.2 (hN.fR (((KpM.rf : KpM j c om f b b).fn hoq12.1)).fr) (-1)) (fun r h' hq => ?_)
    obtain ⟨bq13, rfl, hq⟩ := hq
    rcases hq with ⟨rq13, hxq13, rfl, hoq13⟩ | ⟨eq13, hxq13, ⟨vq13, rfl, wq13⟩, hbq13⟩
    · have lq13 := (ask_ok hxq13).2.2.1
      have nq13 := (hN.2.2 1 (by decide)).1
      show Ev X _ _ 107 [Vr 166, Vi 7, Vx, Vx] [Vi ((rq13.1 : Nat) : Int)] ((SHv st dr rd), (ovl a s bq13)) _
      refine Ev.steps (k := 17) (pc' := 157) (L' := [Vr 166, Vi 7, Vi ((rq13.1 : Nat) : Int), Vi 0]) (S' := [Vi (bq13 166 8)]) (h' := ((SHv st dr rd), (ovl a s bq13))) (fun _ => rfl) ?_
      rw [hoq13.2.2.1]
      refine Ev.steps (k := 6) (pc' := 166) (L' := [Vr 166, Vi 7, Vi ((rq13.1 : Nat) : Int), Vi 0]) (S' := [Vi (w32 (8 * ((rq13.1 : Nat) : Int))), Vi 7, Vr 166]) (h' := ((SHv st dr rd), (ovl a s bq13))) (fun _ => rfl) ?_
      rw [show (w32 (8 * ((rq13.1 : Nat) : Int))) = ((8 * rq13.1 : Nat) : Int) from (by unfold w32; omega)]
      refine Ev.steps (k := 2) (pc' := 168) (L' := [Vr 166, Vi 7, Vi ((rq13.1 : Nat) : Int), Vi 0]) (S' := [Vi (w32 (((8 * rq13.1 : Nat) : Int) + 0)), Vi 7, Vr 166]) (h' := ((SHv st dr rd), (ovl a s bq13))) (fun _ => rfl) ?_
      rw [show (w32 (((8 * rq13.1 : Nat) : Int) + 0)) = (((8 * rq13.1) + 0 : Nat) : Int) from (by unfold w32; omega)]
      refine Ev.call (k := 0) (pc1 := 168) (L1 := [Vr 166, Vi 7, Vi ((rq13.1 : Nat) : Int), Vi 0]) (S1 := [Vi (((8 * rq13.1) + 0 : Nat) : Int), Vi 7, Vr 166]) (h1 := ((SHv st dr rd), (ovl a s bq13))) (m' := 176) (as := [Vr 166, Vi 7, Vi (((8 * rq13.1) + 0 : Nat) : Int)]) (S' := []) (L0 := [Vr 166, Vi 7, Vi (((8 * rq13.1) + 0 : Nat) : Int)]) (fun _ => rfl) rfl rfl rfl rfl rfl rfl (m_add (b := bq13) hj ((hoq13.1 166 39 (by omega)).trans ((hoq12.1 166 39 (by omega)).trans hN.2.1)) ((hoq13.1 166 38 (by omega)).trans ((hoq12.1 166 38 (by omega)).trans e38)) hc 7 (((8 * rq13.1) + 0 : Nat) : Int)) (fun r h' hq => ?_)
      obtain ⟨rfl, rfl⟩ := hq
      show Ev X _ _ 171 [Vr 166, Vi 7, Vi ((rq13.1 : Nat) : Int), Vi 0] [] ((SHv st dr rd), (ovl a s (updC (updC (updC bq13 191 ((1200 * j + c)) 7) 192 ((1200 * j + c)) (((8 * rq13.1) + 0 : Nat) : Int)) 166 38 ((c : Int) + 1)))) _
      refine Ev.fin (k := 2) (r := (some (Vi 1))) (h' := ((SHv st dr rd), (ovl a s (updC (updC (updC bq13 191 ((1200 * j + c)) 7) 192 ((1200 * j + c)) (((8 * rq13.1) + 0 : Nat) : Int)) 166 38 ((c : Int) + 1))))) (fun _ => rfl) ?_
      refine ⟨rfl, _, rfl, Or.inl ⟨([(7, 8 * rq13.1)], rq13.2), ?_, bq13, ⟨(hoq12.1.tr hoq13.1), hoq13.2⟩, 7, 8 * rq13.1, rfl, ?_⟩⟩
      · unfold simT
        rw [hct, hxq12, bnX_o, if_neg (by decide), hxq13, bnX_o, if_pos (by decide)]
        first | done | rfl
      · rfl
    · show Ev X _ _ 107 [Vr 166, Vi 7, Vx, Vx] [Vi vq13] ((SHv st dr rd), (ovl a s bq13)) _
      refine Ev.steps (k := 17) (pc' := 157) (L' := [Vr 166, Vi 7, Vi vq13, Vi 0]) (S' := [Vi (bq13 166 8)]) (h' := ((SHv st dr rd), (ovl a s bq13))) (fun _ => rfl) ?_
      rw [hbq13.2.2.2.1]
      refine Ev.ite (P := eq13.1 ≠ 0) (k := 1) (a := 171) (b := 160) (L' := [Vr 166, Vi 7, Vi vq13, Vi 0]) (S' := []) (h' := ((SHv st dr rd), (ovl a s bq13))) (fun _ => rfl) (fun b157 => ?_) (fun b157 => ?_)
      · refine Ev.fin (k := 2) (r := (some (Vi 1))) (h' := ((SHv st dr rd), (ovl a s bq13))) (fun _ => rfl) ?_
        refine ⟨rfl, _, rfl, Or.inr ⟨eq13, ?_, ⟨(hoq12.1.tr hbq13.1), hbq13.2⟩⟩⟩
        unfold simT
        rw [hct, hxq12, bnX_o, if_neg (by decide), hxq13, bnX_e]
        first | done | rfl
      · have := hbq13.2.2.1; omega
  · show Ev X _ _ 101 [Vr 166, Vi 7, Vx, Vx] [] ((SHv st dr rd), (ovl a s bq12)) _
    refine Ev.call (k := 3) (pc1 := 104) (L1 := [Vr 166, Vi 7, Vx, Vx]) (S1 := [Vi (-1), Vi 1, Vr 166]) (h1 := ((SHv st dr rd), (ovl a s bq12))) (m' := 165) (as := [Vr 166, Vi 1, Vi (-1)]) (S' := []) (L0 := [Vr 166, Vi 1, Vi (-1), Vx]) (fun _ => rfl) rfl rfl rfl rfl rfl rfl (m_asked_br (b := bq12) hbq12.2.2 1 (-1)) (fun r h' hq => ?_)
    obtain ⟨rfl, rfl⟩ := hq
    show Ev X _ _ 107 [Vr 166, Vi 7, Vx, Vx] [Vi 0] ((SHv st dr rd), (ovl a s bq12)) _
    refine Ev.steps (k := 17) (pc' := 157) (L' := [Vr 166, Vi 7, Vi 0, Vi 0]) (S' := [Vi (bq12 166 8)]) (h' := ((SHv st dr rd), (ovl a s bq12))) (fun _ => rfl) ?_
    rw [hbq12.2.2.2.1]
    refine Ev.ite (P := eq12.1 ≠ 0) (k := 1) (a := 171) (b := 160) (L' := [Vr 166, Vi 7, Vi 0, Vi 0]) (S' := []) (h' := ((SHv st dr rd), (ovl a s bq12))) (fun _ => rfl) (fun b157 => ?_) (fun b157 => ?_)
    · refine Ev.fin (k := 2) (r := (some (Vi 1))) (h' := ((SHv st dr rd), (ovl a s bq12))) (fun _ => rfl) ?_
      refine ⟨rfl, _, rfl, Or.inr ⟨eq12, ?_, ⟨hbq12.1, hbq12.2⟩⟩⟩
      unfold simT
      rw [hct, hxq12, bnX_e]
      first | done | rfl
    · have := hbq12.2.2.1; omega
theorem m_fact277 {X : List Int} {d : Nat} {st dr rd : Int} {a s b : C3} {W : TXT} {p : Nat} (hk : TkM W p b) {N : SC} {j : Nat} (hN : NmM N b j) {c om f : Nat} (e38 : b 166 38 = (c : Int)) (hc : c < 1200) (hct : tC W p = 277) : Ev X (d + 3) 177 0 [Vr 166, Vx, Vx, Vx] [] (SHv st dr rd, ovl a s b) (fun rr hh => rr = some (Vi 1) ∧ ∃ b' : C3, hh = (SHv st dr rd, ovl a s b') ∧ ResC (simT W N p) (fun r => ∃ b1 : C3, OkM W b r.2 b1 ∧ ∃ q v : Nat, r.1 = [(q, v)] ∧ b' = updC (updC (updC b1 191 (1200 * j + c) (q : Int)) 192 (1200 * j + c) (v : Int)) 166 38 ((c : Int) + 1)) (fun e => BdM W b e b')) := by
  have hj := hN.1
  refine Ev.call (k := 2) (pc1 := 4) (L1 := [Vr 166, Vx, Vx, Vx]) (S1 := [Vl 24948, Vr 166]) (h1 := ((SHv st dr rd), (ovl a s b))) (m' := 162) (as := [Vr 166, Vl 24948]) (S' := []) (L0 := [Vr 166, Vl 24948, Vx]) (fun _ => rfl) rfl rfl rfl rfl rfl rfl (k_isWord (b := b) hk 17 (by decide) 24948 (by decide)) (fun r h' hq => ?_)
  obtain ⟨rfl, rfl⟩ := hq
  rw [if_neg (by omega)]
  show Ev X _ _ 7 [Vr 166, Vx, Vx, Vx] [Vi 0] ((SHv st dr rd), (ovl a s b)) _
  refine Ev.call (k := 3) (pc1 := 18) (L1 := [Vr 166, Vx, Vx, Vx]) (S1 := [Vl 6840691, Vr 166]) (h1 := ((SHv st dr rd), (ovl a s b))) (m' := 162) (as := [Vr 166, Vl 6840691]) (S' := []) (L0 := [Vr 166, Vl 6840691, Vx]) (fun _ => rfl) rfl rfl rfl rfl rfl rfl (k_isWord (b := b) hk 18 (by decide) 6840691 (by decide)) (fun r h' hq => ?_)
  obtain ⟨rfl, rfl⟩ := hq
  rw [if_neg (by omega)]
  show Ev X _ _ 21 [Vr 166, Vx, Vx, Vx] [Vi 0] ((SHv st dr rd), (ovl a s b)) _
  refine Ev.call (k := 3) (pc1 := 32) (L1 := [Vr 166, Vx, Vx, Vx]) (S1 := [Vl 1852137842, Vr 166]) (h1 := ((SHv st dr rd), (ovl a s b))) (m' := 162) (as := [Vr 166, Vl 1852137842]) (S' := []) (L0 := [Vr 166, Vl 1852137842, Vx]) (fun _ => rfl) rfl rfl rfl rfl rfl rfl (k_isWord (b := b) hk 19 (by decide) 1852137842 (by decide)) (fun r h' hq => ?_)
  obtain ⟨rfl, rfl⟩ := hq
  rw [if_neg (by omega)]
  show Ev X _ _ 35 [Vr 166, Vx, Vx, Vx] [Vi 0] ((SHv st dr rd), (ovl a s b)) _
  refine Ev.call (k := 3) (pc1 := 47) (L1 := [Vr 166, Vx, Vx, Vx]) (S1 := [Vl 418431069797, Vr 166]) (h1 := ((SHv st dr rd), (ovl a s b))) (m' := 162) (as := [Vr 166, Vl 418431069797]) (S' := []) (L0 := [Vr 166, Vl 418431069797, Vx]) (fun _ => rfl) rfl rfl rfl rfl rfl rfl (k_isWord (b := b) hk 20 (by decide) 418431069797 (by decide)) (fun r h' hq => ?_)
  obtain ⟨rfl, rfl⟩ := hq
  rw [if_neg (by omega)]
  show Ev X _ _ 50 [Vr 166, Vx, Vx, Vx] [Vi 0] ((SHv st dr rd), (ovl a s b)) _
  refine Ev.call (k := 3) (pc1 := 62) (L1 := [Vr 166, Vx, Vx, Vx]) (S1 := [Vl 1684365668, Vr 166]) (h1 := ((SHv st dr rd), (ovl a s b))) (m' := 162) (as := [Vr 166, Vl 1684365668]) (S' := []) (L0 := [Vr 166, Vl 1684365668, Vx]) (fun _ => rfl) rfl rfl rfl rfl rfl rfl (k_isWord (b := b) hk 21 (by decide) 1684365668 (by decide)) (fun r h' hq => ?_)
  obtain ⟨rfl, rfl⟩ := hq
  rw [if_pos (by omega)]
  show Ev X _ _ 65 [Vr 166, Vx, Vx, Vx] [Vi 1] ((SHv st dr rd), (ovl a s b)) _
  refine Ev.call (k := 8) (pc1 := 98) (L1 := [Vr 166, Vi 8, Vx, Vx]) (S1 := [Vr 166]) (h1 := ((SHv st dr rd), (ovl a s b))) (m' := 157) (as := [Vr 166]) (S' := []) (L0 := [Vr 166, Vx, Vx, Vx, Vx, Vx]) (fun _ => rfl) rfl rfl rfl rfl rfl rfl (m_nextT (b := b) hk) (fun r h' hq => ?_)
  obtain ⟨rfl, bq14, rfl, hq⟩ := hq
  rcases hq with ⟨pq14, hxq14, hoq14⟩ | ⟨eq14, hxq14, hbq14⟩
  · show Ev X _ _ 101 [Vr 166, Vi 8, Vx, Vx] [] ((SHv st dr rd), (ovl a s bq14)) _
    refine Ev.call (k := 3) (pc1 := 104) (L1 := [Vr 166, Vi 8, Vx, Vx]) (S1 := [Vi (-1), Vi 1, Vr 166]) (h1 := ((SHv st dr rd), (ovl a s bq14))) (m' := 165) (as := [Vr 166, Vi 1, Vi (-1)]) (S' := []) (L0 := [Vr 166, Vi 1, Vi (-1), Vx]) (fun _ => rfl) rfl rfl rfl rfl rfl rfl (m_asked_1 (b := bq14) hoq14.2 (hN.fR (((KpM.rf : KpM j c om f b b).fn hoq14.1)).fr) (-1)) (fun r h' hq => ?_)
    obtain ⟨bq15, rfl, hq⟩ := hq
    rcases hq with ⟨rq15, hxq15, rfl, hoq15⟩ | ⟨eq15, hxq15, ⟨vq15, rfl, wq15⟩, hbq15⟩
    · have lq15 := (ask_ok hxq15).2.2.1
      have nq15 := (hN.2.2 1 (by decide)).1
      show Ev X _ _ 107 [Vr 166, Vi 8, Vx, Vx] [Vi ((rq15.1 : Nat) : Int)] ((SHv st dr rd), (ovl a s bq15)) _
      refine Ev.steps (k := 17) (pc' := 157) (L' := [Vr 166, Vi 8, Vi ((rq15.1 : Nat) : Int), Vi 0]) (S' := [Vi (bq15 166 8)]) (h' := ((SHv st dr rd), (ovl a s bq15))) (fun _ => rfl) ?_
      rw [hoq15.2.2.1]
      refine Ev.steps (k := 6) (pc' := 166) (L' := [Vr 166, Vi 8, Vi ((rq15.1 : Nat) : Int), Vi 0]) (S' := [Vi (w32 (8 * ((rq15.1 : Nat) : Int))), Vi 8, Vr 166]) (h' := ((SHv st dr rd), (ovl a s bq15))) (fun _ => rfl) ?_
      rw [show (w32 (8 * ((rq15.1 : Nat) : Int))) = ((8 * rq15.1 : Nat) : Int) from (by unfold w32; omega)]
      refine Ev.steps (k := 2) (pc' := 168) (L' := [Vr 166, Vi 8, Vi ((rq15.1 : Nat) : Int), Vi 0]) (S' := [Vi (w32 (((8 * rq15.1 : Nat) : Int) + 0)), Vi 8, Vr 166]) (h' := ((SHv st dr rd), (ovl a s bq15))) (fun _ => rfl) ?_
      rw [show (w32 (((8 * rq15.1 : Nat) : Int) + 0)) = (((8 * rq15.1) + 0 : Nat) : Int) from (by unfold w32; omega)]
      refine Ev.call (k := 0) (pc1 := 168) (L1 := [Vr 166, Vi 8, Vi ((rq15.1 : Nat) : Int), Vi 0]) (S1 := [Vi (((8 * rq15.1) + 0 : Nat) : Int), Vi 8, Vr 166]) (h1 := ((SHv st dr rd), (ovl a s bq15))) (m' := 176) (as := [Vr 166, Vi 8, Vi (((8 * rq15.1) + 0 : Nat) : Int)]) (S' := []) (L0 := [Vr 166, Vi 8, Vi (((8 * rq15.1) + 0 : Nat) : Int)]) (fun _ => rfl) rfl rfl rfl rfl rfl rfl (m_add (b := bq15) hj ((hoq15.1 166 39 (by omega)).trans ((hoq14.1 166 39 (by omega)).trans hN.2.1)) ((hoq15.1 166 38 (by omega)).trans ((hoq14.1 166 38 (by omega)).trans e38)) hc 8 (((8 * rq15.1) + 0 : Nat) : Int)) (fun r h' hq => ?_)
      obtain ⟨rfl, rfl⟩ := hq
      show Ev X _ _ 171 [Vr 166, Vi 8, Vi ((rq15.1 : Nat) : Int), Vi 0] [] ((SHv st dr rd), (ovl a s (updC (updC (updC bq15 191 ((1200 * j + c)) 8) 192 ((1200 * j + c)) (((8 * rq15.1) + 0 : Nat) : Int)) 166 38 ((c : Int) + 1)))) _
      refine Ev.fin (k := 2) (r := (some (Vi 1))) (h' := ((SHv st dr rd), (ovl a s (updC (updC (updC bq15 191 ((1200 * j + c)) 8) 192 ((1200 * j + c)) (((8 * rq15.1) + 0 : Nat) : Int)) 166 38 ((c : Int) + 1))))) (fun _ => rfl) ?_
      refine ⟨rfl, _, rfl, Or.inl ⟨([(8, 8 * rq15.1)], rq15.2), ?_, bq15, ⟨(hoq14.1.tr hoq15.1), hoq15.2⟩, 8, 8 * rq15.1, rfl, ?_⟩⟩
      · unfold simT
        rw [hct, hxq14, bnX_o, if_neg (by decide), hxq15, bnX_o, if_pos (by decide)]
        first | done | rfl
      · rfl
    · show Ev X _ _ 107 [Vr 166, Vi 8, Vx, Vx] [Vi vq15] ((SHv st dr rd), (ovl a s bq15)) _
      refine Ev.steps (k := 17) (pc' := 157) (L' := [Vr 166, Vi 8, Vi vq15, Vi 0]) (S' := [Vi (bq15 166 8)]) (h' := ((SHv st dr rd), (ovl a s bq15))) (fun _ => rfl) ?_
      rw [hbq15.2.2.2.1]
      refine Ev.ite (P := eq15.1 ≠ 0) (k := 1) (a := 171) (b := 160) (L' := [Vr 166, Vi 8, Vi vq15, Vi 0]) (S' := []) (h' := ((SHv st dr rd), (ovl a s bq15))) (fun _ => rfl) (fun b157 => ?_) (fun b157 => ?_)
      · refine Ev.fin (k := 2) (r := (some (Vi 1))) (h' := ((SHv st dr rd), (ovl a s bq15))) (fun _ => rfl) ?_
        refine ⟨rfl, _, rfl, Or.inr ⟨eq15, ?_, ⟨(hoq14.1.tr hbq15.1), hbq15.2⟩⟩⟩
        unfold simT
        rw [hct, hxq14, bnX_o, if_neg (by decide), hxq15, bnX_e]
        first | done | rfl
      · have := hbq15.2.2.1; omega
  · show Ev X _ _ 101 [Vr 166, Vi 8, Vx, Vx] [] ((SHv st dr rd), (ovl a s bq14)) _
    refine Ev.call (k := 3) (pc1 := 104) (L1 := [Vr 166, Vi 8, Vx, Vx]) (S1 := [Vi (-1), Vi 1, Vr 166]) (h1 := ((SHv st dr rd), (ovl a s bq14))) (m' := 165) (as := [Vr 166, Vi 1, Vi (-1)]) (S' := []) (L0 := [Vr 166, Vi 1, Vi (-1), Vx]) (fun _ => rfl) rfl rfl rfl rfl rfl rfl (m_asked_br (b := bq14) hbq14.2.2 1 (-1)) (fun r h' hq => ?_)
    obtain ⟨rfl, rfl⟩ := hq
    show Ev X _ _ 107 [Vr 166, Vi 8, Vx, Vx] [Vi 0] ((SHv st dr rd), (ovl a s bq14)) _
    refine Ev.steps (k := 17) (pc' := 157) (L' := [Vr 166, Vi 8, Vi 0, Vi 0]) (S' := [Vi (bq14 166 8)]) (h' := ((SHv st dr rd), (ovl a s bq14))) (fun _ => rfl) ?_
    rw [hbq14.2.2.2.1]
    refine Ev.ite (P := eq14.1 ≠ 0) (k := 1) (a := 171) (b := 160) (L' := [Vr 166, Vi 8, Vi 0, Vi 0]) (S' := []) (h' := ((SHv st dr rd), (ovl a s bq14))) (fun _ => rfl) (fun b157 => ?_) (fun b157 => ?_)
    · refine Ev.fin (k := 2) (r := (some (Vi 1))) (h' := ((SHv st dr rd), (ovl a s bq14))) (fun _ => rfl) ?_
      refine ⟨rfl, _, rfl, Or.inr ⟨eq14, ?_, ⟨hbq14.1, hbq14.2⟩⟩⟩
      unfold simT
      rw [hct, hxq14, bnX_e]
      first | done | rfl
    · have := hbq14.2.2.1; omega
theorem m_fact278 {X : List Int} {d : Nat} {st dr rd : Int} {a s b : C3} {W : TXT} {p : Nat} (hk : TkM W p b) {N : SC} {j : Nat} (hN : NmM N b j) {c om f : Nat} (e38 : b 166 38 = (c : Int)) (hc : c < 1200) (hct : tC W p = 278) : Ev X (d + 3) 177 0 [Vr 166, Vx, Vx, Vx] [] (SHv st dr rd, ovl a s b) (fun rr hh => rr = some (Vi 1) ∧ ∃ b' : C3, hh = (SHv st dr rd, ovl a s b') ∧ ResC (simT W N p) (fun r => ∃ b1 : C3, OkM W b r.2 b1 ∧ ∃ q v : Nat, r.1 = [(q, v)] ∧ b' = updC (updC (updC b1 191 (1200 * j + c) (q : Int)) 192 (1200 * j + c) (v : Int)) 166 38 ((c : Int) + 1)) (fun e => BdM W b e b')) := by
  have hj := hN.1
  refine Ev.call (k := 2) (pc1 := 4) (L1 := [Vr 166, Vx, Vx, Vx]) (S1 := [Vl 24948, Vr 166]) (h1 := ((SHv st dr rd), (ovl a s b))) (m' := 162) (as := [Vr 166, Vl 24948]) (S' := []) (L0 := [Vr 166, Vl 24948, Vx]) (fun _ => rfl) rfl rfl rfl rfl rfl rfl (k_isWord (b := b) hk 17 (by decide) 24948 (by decide)) (fun r h' hq => ?_)
  obtain ⟨rfl, rfl⟩ := hq
  rw [if_neg (by omega)]
  show Ev X _ _ 7 [Vr 166, Vx, Vx, Vx] [Vi 0] ((SHv st dr rd), (ovl a s b)) _
  refine Ev.call (k := 3) (pc1 := 18) (L1 := [Vr 166, Vx, Vx, Vx]) (S1 := [Vl 6840691, Vr 166]) (h1 := ((SHv st dr rd), (ovl a s b))) (m' := 162) (as := [Vr 166, Vl 6840691]) (S' := []) (L0 := [Vr 166, Vl 6840691, Vx]) (fun _ => rfl) rfl rfl rfl rfl rfl rfl (k_isWord (b := b) hk 18 (by decide) 6840691 (by decide)) (fun r h' hq => ?_)
  obtain ⟨rfl, rfl⟩ := hq
  rw [if_neg (by omega)]
  show Ev X _ _ 21 [Vr 166, Vx, Vx, Vx] [Vi 0] ((SHv st dr rd), (ovl a s b)) _
  refine Ev.call (k := 3) (pc1 := 32) (L1 := [Vr 166, Vx, Vx, Vx]) (S1 := [Vl 1852137842, Vr 166]) (h1 := ((SHv st dr rd), (ovl a s b))) (m' := 162) (as := [Vr 166, Vl 1852137842]) (S' := []) (L0 := [Vr 166, Vl 1852137842, Vx]) (fun _ => rfl) rfl rfl rfl rfl rfl rfl (k_isWord (b := b) hk 19 (by decide) 1852137842 (by decide)) (fun r h' hq => ?_)
  obtain ⟨rfl, rfl⟩ := hq
  rw [if_neg (by omega)]
  show Ev X _ _ 35 [Vr 166, Vx, Vx, Vx] [Vi 0] ((SHv st dr rd), (ovl a s b)) _
  refine Ev.call (k := 3) (pc1 := 47) (L1 := [Vr 166, Vx, Vx, Vx]) (S1 := [Vl 418431069797, Vr 166]) (h1 := ((SHv st dr rd), (ovl a s b))) (m' := 162) (as := [Vr 166, Vl 418431069797]) (S' := []) (L0 := [Vr 166, Vl 418431069797, Vx]) (fun _ => rfl) rfl rfl rfl rfl rfl rfl (k_isWord (b := b) hk 20 (by decide) 418431069797 (by decide)) (fun r h' hq => ?_)
  obtain ⟨rfl, rfl⟩ := hq
  rw [if_neg (by omega)]
  show Ev X _ _ 50 [Vr 166, Vx, Vx, Vx] [Vi 0] ((SHv st dr rd), (ovl a s b)) _
  refine Ev.call (k := 3) (pc1 := 62) (L1 := [Vr 166, Vx, Vx, Vx]) (S1 := [Vl 1684365668, Vr 166]) (h1 := ((SHv st dr rd), (ovl a s b))) (m' := 162) (as := [Vr 166, Vl 1684365668]) (S' := []) (L0 := [Vr 166, Vl 1684365668, Vx]) (fun _ => rfl) rfl rfl rfl rfl rfl rfl (k_isWord (b := b) hk 21 (by decide) 1684365668 (by decide)) (fun r h' hq => ?_)
  obtain ⟨rfl, rfl⟩ := hq
  rw [if_neg (by omega)]
  show Ev X _ _ 65 [Vr 166, Vx, Vx, Vx] [Vi 0] ((SHv st dr rd), (ovl a s b)) _
  refine Ev.call (k := 3) (pc1 := 77) (L1 := [Vr 166, Vx, Vx, Vx]) (S1 := [Vl 461414299507, Vr 166]) (h1 := ((SHv st dr rd), (ovl a s b))) (m' := 162) (as := [Vr 166, Vl 461414299507]) (S' := []) (L0 := [Vr 166, Vl 461414299507, Vx]) (fun _ => rfl) rfl rfl rfl rfl rfl rfl (k_isWord (b := b) hk 22 (by decide) 461414299507 (by decide)) (fun r h' hq => ?_)
  obtain ⟨rfl, rfl⟩ := hq
  rw [if_pos (by omega)]
  show Ev X _ _ 80 [Vr 166, Vx, Vx, Vx] [Vi 1] ((SHv st dr rd), (ovl a s b)) _
  refine Ev.call (k := 8) (pc1 := 98) (L1 := [Vr 166, Vi 9, Vx, Vx]) (S1 := [Vr 166]) (h1 := ((SHv st dr rd), (ovl a s b))) (m' := 157) (as := [Vr 166]) (S' := []) (L0 := [Vr 166, Vx, Vx, Vx, Vx, Vx]) (fun _ => rfl) rfl rfl rfl rfl rfl rfl (m_nextT (b := b) hk) (fun r h' hq => ?_)
  obtain ⟨rfl, bq16, rfl, hq⟩ := hq
  rcases hq with ⟨pq16, hxq16, hoq16⟩ | ⟨eq16, hxq16, hbq16⟩
  · show Ev X _ _ 101 [Vr 166, Vi 9, Vx, Vx] [] ((SHv st dr rd), (ovl a s bq16)) _
    refine Ev.call (k := 3) (pc1 := 104) (L1 := [Vr 166, Vi 9, Vx, Vx]) (S1 := [Vi (-1), Vi 1, Vr 166]) (h1 := ((SHv st dr rd), (ovl a s bq16))) (m' := 165) (as := [Vr 166, Vi 1, Vi (-1)]) (S' := []) (L0 := [Vr 166, Vi 1, Vi (-1), Vx]) (fun _ => rfl) rfl rfl rfl rfl rfl rfl (m_asked_1 (b := bq16) hoq16.2 (hN.fR (((KpM.rf : KpM j c om f b b).fn hoq16.1)).fr) (-1)) (fun r h' hq => ?_)
    obtain ⟨bq17, rfl, hq⟩ := hq
    rcases hq with ⟨rq17, hxq17, rfl, hoq17⟩ | ⟨eq17, hxq17, ⟨vq17, rfl, wq17⟩, hbq17⟩
    · have lq17 := (ask_ok hxq17).2.2.1
      have nq17 := (hN.2.2 1 (by decide)).1
      show Ev X _ _ 107 [Vr 166, Vi 9, Vx, Vx] [Vi ((rq17.1 : Nat) : Int)] ((SHv st dr rd), (ovl a s bq17)) _
      refine Ev.call (k := 18) (pc1 := 149) (L1 := [Vr 166, Vi 9, Vi ((rq17.1 : Nat) : Int), Vi 0]) (S1 := [Vi ((rq17.1 : Nat) : Int), Vi 1, Vr 166]) (h1 := ((SHv st dr rd), (ovl a s bq17))) (m' := 165) (as := [Vr 166, Vi 1, Vi ((rq17.1 : Nat) : Int)]) (S' := []) (L0 := [Vr 166, Vi 1, Vi ((rq17.1 : Nat) : Int), Vx]) (fun _ => rfl) rfl rfl rfl rfl rfl rfl (m_asked_1 (b := bq17) hoq17.2 (hN.fR ((((KpM.rf : KpM j c om f b b).fn hoq16.1).fn hoq17.1)).fr) ((rq17.1 : Nat) : Int)) (fun r h' hq => ?_)
      obtain ⟨bq18, rfl, hq⟩ := hq
      rcases hq with ⟨rq18, hxq18, rfl, hoq18⟩ | ⟨eq18, hxq18, ⟨vq18, rfl, wq18⟩, hbq18⟩
      · have lq18 := (ask_ok hxq18).2.2.1
        have nq18 := (hN.2.2 1 (by decide)).1
        show Ev X _ _ 152 [Vr 166, Vi 9, Vi ((rq17.1 : Nat) : Int), Vi 0] [Vi ((rq18.1 : Nat) : Int)] ((SHv st dr rd), (ovl a s bq18)) _
        refine Ev.steps (k := 3) (pc' := 157) (L' := [Vr 166, Vi 9, Vi ((rq17.1 : Nat) : Int), Vi ((rq18.1 : Nat) : Int)]) (S' := [Vi (bq18 166 8)]) (h' := ((SHv st dr rd), (ovl a s bq18))) (fun _ => rfl) ?_
        rw [hoq18.2.2.1]
        refine Ev.steps (k := 6) (pc' := 166) (L' := [Vr 166, Vi 9, Vi ((rq17.1 : Nat) : Int), Vi ((rq18.1 : Nat) : Int)]) (S' := [Vi (w32 (8 * ((rq17.1 : Nat) : Int))), Vi 9, Vr 166]) (h' := ((SHv st dr rd), (ovl a s bq18))) (fun _ => rfl) ?_
        rw [show (w32 (8 * ((rq17.1 : Nat) : Int))) = ((8 * rq17.1 : Nat) : Int) from (by unfold w32; omega)]
        refine Ev.steps (k := 2) (pc' := 168) (L' := [Vr 166, Vi 9, Vi ((rq17.1 : Nat) : Int), Vi ((rq18.1 : Nat) : Int)]) (S' := [Vi (w32 (((8 * rq17.1 : Nat) : Int) + ((rq18.1 : Nat) : Int))), Vi 9, Vr 166]) (h' := ((SHv st dr rd), (ovl a s bq18))) (fun _ => rfl) ?_
        rw [show (w32 (((8 * rq17.1 : Nat) : Int) + ((rq18.1 : Nat) : Int))) = (((8 * rq17.1) + rq18.1 : Nat) : Int) from (by unfold w32; omega)]
        refine Ev.call (k := 0) (pc1 := 168) (L1 := [Vr 166, Vi 9, Vi ((rq17.1 : Nat) : Int), Vi ((rq18.1 : Nat) : Int)]) (S1 := [Vi (((8 * rq17.1) + rq18.1 : Nat) : Int), Vi 9, Vr 166]) (h1 := ((SHv st dr rd), (ovl a s bq18))) (m' := 176) (as := [Vr 166, Vi 9, Vi (((8 * rq17.1) + rq18.1 : Nat) : Int)]) (S' := []) (L0 := [Vr 166, Vi 9, Vi (((8 * rq17.1) + rq18.1 : Nat) : Int)]) (fun _ => rfl) rfl rfl rfl rfl rfl rfl (m_add (b := bq18) hj ((hoq18.1 166 39 (by omega)).trans ((hoq17.1 166 39 (by omega)).trans ((hoq16.1 166 39 (by omega)).trans hN.2.1))) ((hoq18.1 166 38 (by omega)).trans ((hoq17.1 166 38 (by omega)).trans ((hoq16.1 166 38 (by omega)).trans e38))) hc 9 (((8 * rq17.1) + rq18.1 : Nat) : Int)) (fun r h' hq => ?_)
        obtain ⟨rfl, rfl⟩ := hq
        show Ev X _ _ 171 [Vr 166, Vi 9, Vi ((rq17.1 : Nat) : Int), Vi ((rq18.1 : Nat) : Int)] [] ((SHv st dr rd), (ovl a s (updC (updC (updC bq18 191 ((1200 * j + c)) 9) 192 ((1200 * j + c)) (((8 * rq17.1) + rq18.1 : Nat) : Int)) 166 38 ((c : Int) + 1)))) _
        refine Ev.fin (k := 2) (r := (some (Vi 1))) (h' := ((SHv st dr rd), (ovl a s (updC (updC (updC bq18 191 ((1200 * j + c)) 9) 192 ((1200 * j + c)) (((8 * rq17.1) + rq18.1 : Nat) : Int)) 166 38 ((c : Int) + 1))))) (fun _ => rfl) ?_
        refine ⟨rfl, _, rfl, Or.inl ⟨([(9, 8 * rq17.1 + rq18.1)], rq18.2), ?_, bq18, ⟨((hoq16.1.tr hoq17.1).tr hoq18.1), hoq18.2⟩, 9, 8 * rq17.1 + rq18.1, rfl, ?_⟩⟩
        · unfold simT
          rw [hct, hxq16, bnX_o, if_neg (by decide), hxq17, bnX_o, if_neg (by decide), show askT W N (kdF 278) (buF 278 rq17.1) rq17.2 = _ from hxq18, bnX_o]
          first | done | rfl
        · rfl
      · show Ev X _ _ 152 [Vr 166, Vi 9, Vi ((rq17.1 : Nat) : Int), Vi 0] [Vi vq18] ((SHv st dr rd), (ovl a s bq18)) _
        refine Ev.steps (k := 3) (pc' := 157) (L' := [Vr 166, Vi 9, Vi ((rq17.1 : Nat) : Int), Vi vq18]) (S' := [Vi (bq18 166 8)]) (h' := ((SHv st dr rd), (ovl a s bq18))) (fun _ => rfl) ?_
        rw [hbq18.2.2.2.1]
        refine Ev.ite (P := eq18.1 ≠ 0) (k := 1) (a := 171) (b := 160) (L' := [Vr 166, Vi 9, Vi ((rq17.1 : Nat) : Int), Vi vq18]) (S' := []) (h' := ((SHv st dr rd), (ovl a s bq18))) (fun _ => rfl) (fun b157 => ?_) (fun b157 => ?_)
        · refine Ev.fin (k := 2) (r := (some (Vi 1))) (h' := ((SHv st dr rd), (ovl a s bq18))) (fun _ => rfl) ?_
          refine ⟨rfl, _, rfl, Or.inr ⟨eq18, ?_, ⟨((hoq16.1.tr hoq17.1).tr hbq18.1), hbq18.2⟩⟩⟩
          unfold simT
          rw [hct, hxq16, bnX_o, if_neg (by decide), hxq17, bnX_o, if_neg (by decide), show askT W N (kdF 278) (buF 278 rq17.1) rq17.2 = _ from hxq18, bnX_e]
          first | done | rfl
        · have := hbq18.2.2.1; omega
    · show Ev X _ _ 107 [Vr 166, Vi 9, Vx, Vx] [Vi vq17] ((SHv st dr rd), (ovl a s bq17)) _
      refine Ev.call (k := 18) (pc1 := 149) (L1 := [Vr 166, Vi 9, Vi vq17, Vi 0]) (S1 := [Vi vq17, Vi 1, Vr 166]) (h1 := ((SHv st dr rd), (ovl a s bq17))) (m' := 165) (as := [Vr 166, Vi 1, Vi vq17]) (S' := []) (L0 := [Vr 166, Vi 1, Vi vq17, Vx]) (fun _ => rfl) rfl rfl rfl rfl rfl rfl (m_asked_br (b := bq17) hbq17.2.2 1 vq17) (fun r h' hq => ?_)
      obtain ⟨rfl, rfl⟩ := hq
      show Ev X _ _ 152 [Vr 166, Vi 9, Vi vq17, Vi 0] [Vi 0] ((SHv st dr rd), (ovl a s bq17)) _
      refine Ev.steps (k := 3) (pc' := 157) (L' := [Vr 166, Vi 9, Vi vq17, Vi 0]) (S' := [Vi (bq17 166 8)]) (h' := ((SHv st dr rd), (ovl a s bq17))) (fun _ => rfl) ?_
      rw [hbq17.2.2.2.1]
      refine Ev.ite (P := eq17.1 ≠ 0) (k := 1) (a := 171) (b := 160) (L' := [Vr 166, Vi 9, Vi vq17, Vi 0]) (S' := []) (h' := ((SHv st dr rd), (ovl a s bq17))) (fun _ => rfl) (fun b157 => ?_) (fun b157 => ?_)
      · refine Ev.fin (k := 2) (r := (some (Vi 1))) (h' := ((SHv st dr rd), (ovl a s bq17))) (fun _ => rfl) ?_
        refine ⟨rfl, _, rfl, Or.inr ⟨eq17, ?_, ⟨(hoq16.1.tr hbq17.1), hbq17.2⟩⟩⟩
        unfold simT
        rw [hct, hxq16, bnX_o, if_neg (by decide), hxq17, bnX_e]
        first | done | rfl
      · have := hbq17.2.2.1; omega
  · show Ev X _ _ 101 [Vr 166, Vi 9, Vx, Vx] [] ((SHv st dr rd), (ovl a s bq16)) _
    refine Ev.call (k := 3) (pc1 := 104) (L1 := [Vr 166, Vi 9, Vx, Vx]) (S1 := [Vi (-1), Vi 1, Vr 166]) (h1 := ((SHv st dr rd), (ovl a s bq16))) (m' := 165) (as := [Vr 166, Vi 1, Vi (-1)]) (S' := []) (L0 := [Vr 166, Vi 1, Vi (-1), Vx]) (fun _ => rfl) rfl rfl rfl rfl rfl rfl (m_asked_br (b := bq16) hbq16.2.2 1 (-1)) (fun r h' hq => ?_)
    obtain ⟨rfl, rfl⟩ := hq
    show Ev X _ _ 107 [Vr 166, Vi 9, Vx, Vx] [Vi 0] ((SHv st dr rd), (ovl a s bq16)) _
    refine Ev.call (k := 18) (pc1 := 149) (L1 := [Vr 166, Vi 9, Vi 0, Vi 0]) (S1 := [Vi 0, Vi 1, Vr 166]) (h1 := ((SHv st dr rd), (ovl a s bq16))) (m' := 165) (as := [Vr 166, Vi 1, Vi 0]) (S' := []) (L0 := [Vr 166, Vi 1, Vi 0, Vx]) (fun _ => rfl) rfl rfl rfl rfl rfl rfl (m_asked_br (b := bq16) hbq16.2.2 1 0) (fun r h' hq => ?_)
    obtain ⟨rfl, rfl⟩ := hq
    show Ev X _ _ 152 [Vr 166, Vi 9, Vi 0, Vi 0] [Vi 0] ((SHv st dr rd), (ovl a s bq16)) _
    refine Ev.steps (k := 3) (pc' := 157) (L' := [Vr 166, Vi 9, Vi 0, Vi 0]) (S' := [Vi (bq16 166 8)]) (h' := ((SHv st dr rd), (ovl a s bq16))) (fun _ => rfl) ?_
    rw [hbq16.2.2.2.1]
    refine Ev.ite (P := eq16.1 ≠ 0) (k := 1) (a := 171) (b := 160) (L' := [Vr 166, Vi 9, Vi 0, Vi 0]) (S' := []) (h' := ((SHv st dr rd), (ovl a s bq16))) (fun _ => rfl) (fun b157 => ?_) (fun b157 => ?_)
    · refine Ev.fin (k := 2) (r := (some (Vi 1))) (h' := ((SHv st dr rd), (ovl a s bq16))) (fun _ => rfl) ?_
      refine ⟨rfl, _, rfl, Or.inr ⟨eq16, ?_, ⟨hbq16.1, hbq16.2⟩⟩⟩
      unfold simT
      rw [hct, hxq16, bnX_e]
      first | done | rfl
    · have := hbq16.2.2.1; omega
theorem m_fact {X : List Int} {d : Nat} {st dr rd : Int} {a s b : C3} {W : TXT} {p : Nat} (hk : TkM W p b) {N : SC} {j : Nat} (hN : NmM N b j) {c om f : Nat} (e38 : b 166 38 = (c : Int)) (hc : c < 1200) (hct : 273 ≤ tC W p ∧ tC W p ≤ 278) : Ev X (d + 3) 177 0 [Vr 166, Vx, Vx, Vx] [] (SHv st dr rd, ovl a s b) (fun rr hh => rr = some (Vi 1) ∧ ∃ b' : C3, hh = (SHv st dr rd, ovl a s b') ∧ ResC (simT W N p) (fun r => ∃ b1 : C3, OkM W b r.2 b1 ∧ ∃ q v : Nat, r.1 = [(q, v)] ∧ b' = updC (updC (updC b1 191 (1200 * j + c) (q : Int)) 192 (1200 * j + c) (v : Int)) 166 38 ((c : Int) + 1)) (fun e => BdM W b e b')) := by
  rcases (show tC W p = 273 ∨ tC W p = 274 ∨ tC W p = 275 ∨ tC W p = 276 ∨ tC W p = 277 ∨ tC W p = 278 by omega) with h | h | h | h | h | h
  · exact m_fact273 hk hN (om := om) (f := f) e38 hc h
  · exact m_fact274 hk hN (om := om) (f := f) e38 hc h
  · exact m_fact275 hk hN (om := om) (f := f) e38 hc h
  · exact m_fact276 hk hN (om := om) (f := f) e38 hc h
  · exact m_fact277 hk hN (om := om) (f := f) e38 hc h
  · exact m_fact278 hk hN (om := om) (f := f) e38 hc h
theorem m_fact_no {X : List Int} {d : Nat} {st dr rd : Int} {a s b : C3} {W : TXT} {p : Nat} (hk : TkM W p b) (hct : tC W p < 273 ∨ 278 < tC W p) : Ev X (d + 3) 177 0 [Vr 166, Vx, Vx, Vx] [] (SHv st dr rd, ovl a s b) (fun rr hh => rr = some (Vi 0) ∧ hh = (SHv st dr rd, ovl a s b)) := by
  refine Ev.call (k := 2) (pc1 := 4) (L1 := [Vr 166, Vx, Vx, Vx]) (S1 := [Vl 24948, Vr 166]) (h1 := ((SHv st dr rd), (ovl a s b))) (m' := 162) (as := [Vr 166, Vl 24948]) (S' := []) (L0 := [Vr 166, Vl 24948, Vx]) (fun _ => rfl) rfl rfl rfl rfl rfl rfl (k_isWord (b := b) hk 17 (by decide) 24948 (by decide)) (fun r h' hq => ?_)
  obtain ⟨rfl, rfl⟩ := hq
  rw [if_neg (by omega)]
  show Ev X _ _ 7 [Vr 166, Vx, Vx, Vx] [Vi 0] ((SHv st dr rd), (ovl a s b)) _
  refine Ev.call (k := 3) (pc1 := 18) (L1 := [Vr 166, Vx, Vx, Vx]) (S1 := [Vl 6840691, Vr 166]) (h1 := ((SHv st dr rd), (ovl a s b))) (m' := 162) (as := [Vr 166, Vl 6840691]) (S' := []) (L0 := [Vr 166, Vl 6840691, Vx]) (fun _ => rfl) rfl rfl rfl rfl rfl rfl (k_isWord (b := b) hk 18 (by decide) 6840691 (by decide)) (fun r h' hq => ?_)
  obtain ⟨rfl, rfl⟩ := hq
  rw [if_neg (by omega)]
  show Ev X _ _ 21 [Vr 166, Vx, Vx, Vx] [Vi 0] ((SHv st dr rd), (ovl a s b)) _
  refine Ev.call (k := 3) (pc1 := 32) (L1 := [Vr 166, Vx, Vx, Vx]) (S1 := [Vl 1852137842, Vr 166]) (h1 := ((SHv st dr rd), (ovl a s b))) (m' := 162) (as := [Vr 166, Vl 1852137842]) (S' := []) (L0 := [Vr 166, Vl 1852137842, Vx]) (fun _ => rfl) rfl rfl rfl rfl rfl rfl (k_isWord (b := b) hk 19 (by decide) 1852137842 (by decide)) (fun r h' hq => ?_)
  obtain ⟨rfl, rfl⟩ := hq
  rw [if_neg (by omega)]
  show Ev X _ _ 35 [Vr 166, Vx, Vx, Vx] [Vi 0] ((SHv st dr rd), (ovl a s b)) _
  refine Ev.call (k := 3) (pc1 := 47) (L1 := [Vr 166, Vx, Vx, Vx]) (S1 := [Vl 418431069797, Vr 166]) (h1 := ((SHv st dr rd), (ovl a s b))) (m' := 162) (as := [Vr 166, Vl 418431069797]) (S' := []) (L0 := [Vr 166, Vl 418431069797, Vx]) (fun _ => rfl) rfl rfl rfl rfl rfl rfl (k_isWord (b := b) hk 20 (by decide) 418431069797 (by decide)) (fun r h' hq => ?_)
  obtain ⟨rfl, rfl⟩ := hq
  rw [if_neg (by omega)]
  show Ev X _ _ 50 [Vr 166, Vx, Vx, Vx] [Vi 0] ((SHv st dr rd), (ovl a s b)) _
  refine Ev.call (k := 3) (pc1 := 62) (L1 := [Vr 166, Vx, Vx, Vx]) (S1 := [Vl 1684365668, Vr 166]) (h1 := ((SHv st dr rd), (ovl a s b))) (m' := 162) (as := [Vr 166, Vl 1684365668]) (S' := []) (L0 := [Vr 166, Vl 1684365668, Vx]) (fun _ => rfl) rfl rfl rfl rfl rfl rfl (k_isWord (b := b) hk 21 (by decide) 1684365668 (by decide)) (fun r h' hq => ?_)
  obtain ⟨rfl, rfl⟩ := hq
  rw [if_neg (by omega)]
  show Ev X _ _ 65 [Vr 166, Vx, Vx, Vx] [Vi 0] ((SHv st dr rd), (ovl a s b)) _
  refine Ev.call (k := 3) (pc1 := 77) (L1 := [Vr 166, Vx, Vx, Vx]) (S1 := [Vl 461414299507, Vr 166]) (h1 := ((SHv st dr rd), (ovl a s b))) (m' := 162) (as := [Vr 166, Vl 461414299507]) (S' := []) (L0 := [Vr 166, Vl 461414299507, Vx]) (fun _ => rfl) rfl rfl rfl rfl rfl rfl (k_isWord (b := b) hk 22 (by decide) 461414299507 (by decide)) (fun r h' hq => ?_)
  obtain ⟨rfl, rfl⟩ := hq
  rw [if_neg (by omega)]
  show Ev X _ _ 80 [Vr 166, Vx, Vx, Vx] [Vi 0] ((SHv st dr rd), (ovl a s b)) _
  refine Ev.fin (k := 8) (r := (some (Vi 0))) (h' := ((SHv st dr rd), (ovl a s b))) (fun _ => rfl) ?_
  exact ⟨rfl, rfl⟩
theorem m_opP {X : List Int} {d : Nat} {st dr rd : Int} {a s b : C3} {f : Nat} {Q : Option pm_V → pm_H → Prop} (e45 : b 166 45 = ((f + 1 : Nat) : Int)) (hf : f ≤ 8) (H0 : ((b 193 f ≠ 1 ∧ b 193 f ≠ 5) ∨ b 195 f = 0) → Ev X (d + 4) 171 33 [Vr 166, Vi (f : Int), Vx, Vx] [Vi 0] (SHv st dr rd, ovl a s b) Q) (H1 : (b 193 f = 1 ∨ b 193 f = 5) → b 195 f ≠ 0 → Ev X (d + 4) 171 33 [Vr 166, Vi (f : Int), Vx, Vx] [Vi 1] (SHv st dr rd, ovl a s b) Q) : Ev X (d + 4) 171 0 [Vr 166, Vx, Vx, Vx] [] (SHv st dr rd, ovl a s b) Q := by
  refine Ev.steps (k := 2) (pc' := 4) (L' := [Vr 166, Vx, Vx, Vx]) (S' := [Vi (b 166 45)]) (h' := ((SHv st dr rd), (ovl a s b))) (fun _ => rfl) ?_
  rw [e45]
  refine Ev.steps (k := 2) (pc' := 6) (L' := [Vr 166, Vx, Vx, Vx]) (S' := [Vi (w32 (((f + 1 : Nat) : Int) - 1))]) (h' := ((SHv st dr rd), (ovl a s b))) (fun _ => rfl) ?_
  rw [show (w32 (((f + 1 : Nat) : Int) - 1)) = (f : Int) from (by unfold w32; omega)]
  refine Ev.steps (k := 4) (pc' := 12) (L' := [Vr 166, Vi (f : Int), Vx, Vx]) (S' := [Vi (f : Int), Vr 193]) (h' := ((SHv st dr rd), (ovl a s b))) (fun _ => rfl) ?_
  refine Ev.iald (v := (b 193 f)) rfl (by decide) rfl (by omega) (by omega) (rfl) ?_
  refine Ev.call (k := 0) (pc1 := 13) (L1 := [Vr 166, Vi (f : Int), Vx, Vx]) (S1 := [Vi (b 193 f)]) (h1 := ((SHv st dr rd), (ovl a s b))) (m' := 172) (as := [Vi (b 193 f)]) (S' := []) (L0 := [Vi (b 193 f)]) (fun _ => rfl) rfl rfl rfl rfl rfl rfl (m_isTest (b := b) (b 193 f)) (fun r h' hq => ?_)
  obtain ⟨rfl, rfl⟩ := hq
  by_cases c13 : (b 193 f) = 1 ∨ (b 193 f) = 5
  · rw [if_pos c13]
    show Ev X _ _ 16 [Vr 166, Vi (f : Int), Vx, Vx] [Vi 1] ((SHv st dr rd), (ovl a s b)) _
    refine Ev.steps (k := 4) (pc' := 24) (L' := [Vr 166, Vi (f : Int), Vx, Vx]) (S' := [Vi (f : Int), Vr 195]) (h' := ((SHv st dr rd), (ovl a s b))) (fun _ => rfl) ?_
    refine Ev.zald (v := (b 195 f)) rfl (by decide) rfl (by omega) (by omega) (rfl) ?_
    refine Ev.ite (P := (b 195 f) = 0) (k := 1) (a := 32) (b := 28) (L' := [Vr 166, Vi (f : Int), Vx, Vx]) (S' := []) (h' := ((SHv st dr rd), (ovl a s b))) (fun _ => rfl) (fun b25 => ?_) (fun b25 => ?_)
    · refine Ev.steps (k := 1) (pc' := 33) (L' := [Vr 166, Vi (f : Int), Vx, Vx]) (S' := [Vi 0]) (h' := ((SHv st dr rd), (ovl a s b))) (fun _ => rfl) ?_
      first
        | exact H1 c13 b25
        | exact H0 (Or.inr b25)
        | exact H0 (Or.inl (by omega))
    · refine Ev.steps (k := 2) (pc' := 33) (L' := [Vr 166, Vi (f : Int), Vx, Vx]) (S' := [Vi 1]) (h' := ((SHv st dr rd), (ovl a s b))) (fun _ => rfl) ?_
      first
        | exact H1 c13 b25
        | exact H0 (Or.inr b25)
        | exact H0 (Or.inl (by omega))
  · rw [if_neg c13]
    show Ev X _ _ 16 [Vr 166, Vi (f : Int), Vx, Vx] [Vi 0] ((SHv st dr rd), (ovl a s b)) _
    refine Ev.steps (k := 2) (pc' := 33) (L' := [Vr 166, Vi (f : Int), Vx, Vx]) (S' := [Vi 0]) (h' := ((SHv st dr rd), (ovl a s b))) (fun _ => rfl) ?_
    first
      | exact H1 c13 b25
      | exact H0 (Or.inr b25)
      | exact H0 (Or.inl (by omega))
theorem m_op_not {X : List Int} {d : Nat} {st dr rd : Int} {a s b : C3} {W : TXT} {p : Nat} (hk : TkM W p b) {N : SC} {j : Nat} (hN : NmM N b j) {c om f : Nat} (e38 : b 166 38 = (c : Int)) (e48 : b 166 48 = (om : Int)) (e45 : b 166 45 = ((f + 1 : Nat) : Int)) (e46 : b 166 46 = (f : Int)) (hf : f ≤ 8) (hc : c < 1200) (ho : om < 500) (h193 : b 193 f = 1 ∨ b 193 f = 5) (h195 : b 195 f = 1) (hct : tC W p = 271) : Ev X (d + 4) 171 0 [Vr 166, Vx, Vx, Vx] [] (SHv st dr rd, ovl a s b) (fun rr hh => ∃ (v : Int) (b' : C3), rr = some (Vi v) ∧ (v = 0 ∨ v = 1) ∧ hh = (SHv st dr rd, ovl a s b') ∧ ResC (gotT W p) (fun r => v = 0 ∧ OkM W (updC (updC b 198 om 27) 166 48 ((om : Int) + 1)) r b') (fun e => BkM W j c b e b')) := by
  have hj := hN.1
  refine m_opP e45 hf (fun g0 => ?_) (fun g0 g1 => ?_)
  · exfalso; omega
  · refine Ev.call (k := 5) (pc1 := 42) (L1 := [Vr 166, Vi (f : Int), Vi 1, Vx]) (S1 := [Vl 7237492, Vr 166]) (h1 := ((SHv st dr rd), (ovl a s b))) (m' := 162) (as := [Vr 166, Vl 7237492]) (S' := []) (L0 := [Vr 166, Vl 7237492, Vx]) (fun _ => rfl) rfl rfl rfl rfl rfl rfl (k_isWord (b := b) hk 15 (by decide) 7237492 (by decide)) (fun r h' hq => ?_)
    obtain ⟨rfl, rfl⟩ := hq
    rw [if_pos (by omega)]
    show Ev X _ _ 45 [Vr 166, Vi (f : Int), Vi 1, Vx] [Vi 1] ((SHv st dr rd), (ovl a s b)) _
    refine Ev.call (k := 3) (pc1 := 51) (L1 := [Vr 166, Vi (f : Int), Vi 1, Vx]) (S1 := [Vi 27, Vr 166]) (h1 := ((SHv st dr rd), (ovl a s b))) (m' := 173) (as := [Vr 166, Vi 27]) (S' := []) (L0 := [Vr 166, Vi 27]) (fun _ => rfl) rfl rfl rfl rfl rfl rfl (m_holdsBack (b := b) e48 ho 27) (fun r h' hq => ?_)
    obtain ⟨rfl, rfl⟩ := hq
    show Ev X _ _ 54 [Vr 166, Vi (f : Int), Vi 1, Vx] [] ((SHv st dr rd), (ovl a s (updC (updC b 198 om 27) 166 48 ((om : Int) + 1)))) _
    refine Ev.call (k := 1) (pc1 := 55) (L1 := [Vr 166, Vi (f : Int), Vi 1, Vx]) (S1 := [Vr 166]) (h1 := ((SHv st dr rd), (ovl a s (updC (updC b 198 om 27) 166 48 ((om : Int) + 1))))) (m' := 157) (as := [Vr 166]) (S' := []) (L0 := [Vr 166, Vx, Vx, Vx, Vx, Vx]) (fun _ => rfl) rfl rfl rfl rfl rfl rfl (m_nextT (b := (updC (updC b 198 om 27) 166 48 ((om : Int) + 1))) ((hk.up (by omega)).up (by omega))) (fun r h' hq => ?_)
    obtain ⟨rfl, bq19, rfl, hq⟩ := hq
    rcases hq with ⟨pq19, hxq19, hoq19⟩ | ⟨eq19, hxq19, hbq19⟩
    · show Ev X _ _ 58 [Vr 166, Vi (f : Int), Vi 1, Vx] [] ((SHv st dr rd), (ovl a s bq19)) _
      refine Ev.fin (k := 2) (r := (some (Vi 0))) (h' := ((SHv st dr rd), (ovl a s bq19))) (fun _ => rfl) ?_
      exact ⟨0, _, rfl, Or.inl rfl, rfl, Or.inl ⟨pq19, hxq19, rfl, hoq19⟩⟩
    · show Ev X _ _ 58 [Vr 166, Vi (f : Int), Vi 1, Vx] [] ((SHv st dr rd), (ovl a s bq19)) _
      refine Ev.fin (k := 2) (r := (some (Vi 0))) (h' := ((SHv st dr rd), (ovl a s bq19))) (fun _ => rfl) ?_
      exact ⟨0, _, rfl, Or.inl rfl, rfl, Or.inr ⟨eq19, hxq19, (hbq19.bk (((KpM.rf : KpM j c om f b b).up (by omega)).up (by omega)))⟩⟩
theorem m_op_brk {X : List Int} {d : Nat} {st dr rd : Int} {a s b : C3} {W : TXT} {p : Nat} (hk : TkM W p b) {N : SC} {j : Nat} (hN : NmM N b j) {c om f : Nat} (e38 : b 166 38 = (c : Int)) (e48 : b 166 48 = (om : Int)) (e45 : b 166 45 = ((f + 1 : Nat) : Int)) (e46 : b 166 46 = (f : Int)) (hf : f ≤ 8) (hc : c < 1200) (ho : om < 500) (h193 : b 193 f = 1 ∨ b 193 f = 5) (h195 : b 195 f = 1) {K : Nat} (hK : f + K = 8) (hct : tC W p = 91) : Ev X (d + 4) 171 0 [Vr 166, Vx, Vx, Vx] [] (SHv st dr rd, ovl a s b) (fun rr hh => ∃ (v : Int) (b' : C3), rr = some (Vi v) ∧ (v = 0 ∨ v = 1) ∧ hh = (SHv st dr rd, ovl a s b') ∧ ResC (opnT W 91 K p) (fun r => v = 0 ∧ OpM W om f 5 r (updC b 195 f 0) b') (fun e => BkM W j c b e b')) := by
  have hj := hN.1
  refine m_opP e45 hf (fun g0 => ?_) (fun g0 g1 => ?_)
  · exfalso; omega
  · refine Ev.call (k := 5) (pc1 := 42) (L1 := [Vr 166, Vi (f : Int), Vi 1, Vx]) (S1 := [Vl 7237492, Vr 166]) (h1 := ((SHv st dr rd), (ovl a s b))) (m' := 162) (as := [Vr 166, Vl 7237492]) (S' := []) (L0 := [Vr 166, Vl 7237492, Vx]) (fun _ => rfl) rfl rfl rfl rfl rfl rfl (k_isWord (b := b) hk 15 (by decide) 7237492 (by decide)) (fun r h' hq => ?_)
    obtain ⟨rfl, rfl⟩ := hq
    rw [if_neg (by omega)]
    show Ev X _ _ 45 [Vr 166, Vi (f : Int), Vi 1, Vx] [Vi 0] ((SHv st dr rd), (ovl a s b)) _
    refine Ev.steps (k := 5) (pc' := 66) (L' := [Vr 166, Vi (f : Int), Vi 1, Vx]) (S' := [Vi 0, Vi (f : Int), Vr 195]) (h' := ((SHv st dr rd), (ovl a s b))) (fun _ => rfl) ?_
    refine Ev.zast (c' := (ovl a s (updC b 195 f 0))) rfl (by decide) rfl (by omega) (by omega) (by omega) (ovl_wm (by decide)) ?_
    refine Ev.call (k := 4) (pc1 := 74) (L1 := [Vr 166, Vi (f : Int), Vi 1, Vx]) (S1 := [Vi 91, Vr 166]) (h1 := ((SHv st dr rd), (ovl a s (updC b 195 f 0)))) (m' := 174) (as := [Vr 166, Vi 91]) (S' := []) (L0 := [Vr 166, Vi 91]) (fun _ => rfl) rfl rfl rfl rfl rfl rfl (k_isSign (b := (updC b 195 f 0)) (hk.up (by omega)) 91 (by decide)) (fun r h' hq => ?_)
    obtain ⟨rfl, rfl⟩ := hq
    rw [if_pos (by omega)]
    show Ev X _ _ 77 [Vr 166, Vi (f : Int), Vi 1, Vx] [Vi 1] ((SHv st dr rd), (ovl a s (updC b 195 f 0))) _
    refine Ev.call (k := 3) (pc1 := 82) (L1 := [Vr 166, Vi (f : Int), Vi 1, Vx]) (S1 := [Vi 5, Vr 166]) (h1 := ((SHv st dr rd), (ovl a s (updC b 195 f 0)))) (m' := 175) (as := [Vr 166, Vi 5]) (S' := []) (L0 := [Vr 166, Vi 5]) (fun _ => rfl) rfl rfl rfl rfl rfl rfl (m_opens (b := (updC b 195 f 0)) (hk.up (by omega)) j c e48 e45 e46 hf 5) (fun r h' hq => ?_)
    obtain ⟨rfl, bq20, rfl, hq⟩ := hq
    rcases hq with ⟨pq20, hxq20, hoq20⟩ | ⟨eq20, hxq20, hbq20⟩
    · show Ev X _ _ 85 [Vr 166, Vi (f : Int), Vi 1, Vx] [] ((SHv st dr rd), (ovl a s bq20)) _
      refine Ev.fin (k := 2) (r := (some (Vi 0))) (h' := ((SHv st dr rd), (ovl a s bq20))) (fun _ => rfl) ?_
      refine ⟨0, bq20, rfl, Or.inl rfl, rfl, Or.inl ⟨pq20, ?_, rfl, hoq20⟩⟩
      unfold opnT
      rw [if_neg (by omega)]
      by_cases h8 : f = 8
      · rw [if_pos h8] at hxq20; cases hxq20
      · rw [if_neg h8] at hxq20; rw [if_neg (by omega)]; exact hxq20
    · show Ev X _ _ 85 [Vr 166, Vi (f : Int), Vi 1, Vx] [] ((SHv st dr rd), (ovl a s bq20)) _
      refine Ev.fin (k := 2) (r := (some (Vi 0))) (h' := ((SHv st dr rd), (ovl a s bq20))) (fun _ => rfl) ?_
      refine ⟨0, bq20, rfl, Or.inl rfl, rfl, Or.inr ⟨eq20, ?_, ((hbq20.wk (((KpM.rf : KpM j c om f b b).up (by omega))).fr (Nat.le_refl _)))⟩⟩
      unfold opnT
      rw [if_neg (by omega)]
      by_cases h8 : f = 8
      · rw [if_pos h8] at hxq20; rw [if_pos (by omega)]; exact hxq20
      · rw [if_neg h8] at hxq20; rw [if_neg (by omega)]; exact hxq20
theorem m_op_par {X : List Int} {d : Nat} {st dr rd : Int} {a s b : C3} {W : TXT} {p : Nat} (hk : TkM W p b) {N : SC} {j : Nat} (hN : NmM N b j) {c om f : Nat} (e38 : b 166 38 = (c : Int)) (e48 : b 166 48 = (om : Int)) (e45 : b 166 45 = ((f + 1 : Nat) : Int)) (e46 : b 166 46 = (f : Int)) (hf : f ≤ 8) (hc : c < 1200) (ho : om < 500) {K : Nat} (hK : f + K = 8) (hct : tC W p = 40) : Ev X (d + 4) 171 0 [Vr 166, Vx, Vx, Vx] [] (SHv st dr rd, ovl a s b) (fun rr hh => ∃ (v : Int) (b' : C3), rr = some (Vi v) ∧ (v = 0 ∨ v = 1) ∧ hh = (SHv st dr rd, ovl a s b') ∧ ResC (opnT W 40 K p) (fun r => v = 0 ∧ OpM W om f 2 r (updC b 195 f 0) b') (fun e => BkM W j c b e b')) := by
  have hj := hN.1
  refine m_opP e45 hf (fun g0 => ?_) (fun g0 g1 => ?_)
  · refine Ev.steps (k := 7) (pc' := 66) (L' := [Vr 166, Vi (f : Int), Vi 0, Vx]) (S' := [Vi 0, Vi (f : Int), Vr 195]) (h' := ((SHv st dr rd), (ovl a s b))) (fun _ => rfl) ?_
    refine Ev.zast (c' := (ovl a s (updC b 195 f 0))) rfl (by decide) rfl (by omega) (by omega) (by omega) (ovl_wm (by decide)) ?_
    refine Ev.call (k := 8) (pc1 := 143) (L1 := [Vr 166, Vi (f : Int), Vi 0, Vx]) (S1 := [Vi 40, Vr 166]) (h1 := ((SHv st dr rd), (ovl a s (updC b 195 f 0)))) (m' := 174) (as := [Vr 166, Vi 40]) (S' := []) (L0 := [Vr 166, Vi 40]) (fun _ => rfl) rfl rfl rfl rfl rfl rfl (k_isSign (b := (updC b 195 f 0)) (hk.up (by omega)) 40 (by decide)) (fun r h' hq => ?_)
    obtain ⟨rfl, rfl⟩ := hq
    rw [if_pos (by omega)]
    show Ev X _ _ 146 [Vr 166, Vi (f : Int), Vi 0, Vx] [Vi 1] ((SHv st dr rd), (ovl a s (updC b 195 f 0))) _
    refine Ev.call (k := 3) (pc1 := 151) (L1 := [Vr 166, Vi (f : Int), Vi 0, Vx]) (S1 := [Vi 2, Vr 166]) (h1 := ((SHv st dr rd), (ovl a s (updC b 195 f 0)))) (m' := 175) (as := [Vr 166, Vi 2]) (S' := []) (L0 := [Vr 166, Vi 2]) (fun _ => rfl) rfl rfl rfl rfl rfl rfl (m_opens (b := (updC b 195 f 0)) (hk.up (by omega)) j c e48 e45 e46 hf 2) (fun r h' hq => ?_)
    obtain ⟨rfl, bq21, rfl, hq⟩ := hq
    rcases hq with ⟨pq21, hxq21, hoq21⟩ | ⟨eq21, hxq21, hbq21⟩
    · show Ev X _ _ 154 [Vr 166, Vi (f : Int), Vi 0, Vx] [] ((SHv st dr rd), (ovl a s bq21)) _
      refine Ev.fin (k := 2) (r := (some (Vi 0))) (h' := ((SHv st dr rd), (ovl a s bq21))) (fun _ => rfl) ?_
      refine ⟨0, bq21, rfl, Or.inl rfl, rfl, Or.inl ⟨pq21, ?_, rfl, hoq21⟩⟩
      unfold opnT
      rw [if_neg (by omega)]
      by_cases h8 : f = 8
      · rw [if_pos h8] at hxq21; cases hxq21
      · rw [if_neg h8] at hxq21; rw [if_neg (by omega)]; exact hxq21
    · show Ev X _ _ 154 [Vr 166, Vi (f : Int), Vi 0, Vx] [] ((SHv st dr rd), (ovl a s bq21)) _
      refine Ev.fin (k := 2) (r := (some (Vi 0))) (h' := ((SHv st dr rd), (ovl a s bq21))) (fun _ => rfl) ?_
      refine ⟨0, bq21, rfl, Or.inl rfl, rfl, Or.inr ⟨eq21, ?_, ((hbq21.wk (((KpM.rf : KpM j c om f b b).up (by omega))).fr (Nat.le_refl _)))⟩⟩
      unfold opnT
      rw [if_neg (by omega)]
      by_cases h8 : f = 8
      · rw [if_pos h8] at hxq21; rw [if_pos (by omega)]; exact hxq21
      · rw [if_neg h8] at hxq21; rw [if_neg (by omega)]; exact hxq21
  · refine Ev.call (k := 5) (pc1 := 42) (L1 := [Vr 166, Vi (f : Int), Vi 1, Vx]) (S1 := [Vl 7237492, Vr 166]) (h1 := ((SHv st dr rd), (ovl a s b))) (m' := 162) (as := [Vr 166, Vl 7237492]) (S' := []) (L0 := [Vr 166, Vl 7237492, Vx]) (fun _ => rfl) rfl rfl rfl rfl rfl rfl (k_isWord (b := b) hk 15 (by decide) 7237492 (by decide)) (fun r h' hq => ?_)
    obtain ⟨rfl, rfl⟩ := hq
    rw [if_neg (by omega)]
    show Ev X _ _ 45 [Vr 166, Vi (f : Int), Vi 1, Vx] [Vi 0] ((SHv st dr rd), (ovl a s b)) _
    refine Ev.steps (k := 5) (pc' := 66) (L' := [Vr 166, Vi (f : Int), Vi 1, Vx]) (S' := [Vi 0, Vi (f : Int), Vr 195]) (h' := ((SHv st dr rd), (ovl a s b))) (fun _ => rfl) ?_
    refine Ev.zast (c' := (ovl a s (updC b 195 f 0))) rfl (by decide) rfl (by omega) (by omega) (by omega) (ovl_wm (by decide)) ?_
    refine Ev.call (k := 4) (pc1 := 74) (L1 := [Vr 166, Vi (f : Int), Vi 1, Vx]) (S1 := [Vi 91, Vr 166]) (h1 := ((SHv st dr rd), (ovl a s (updC b 195 f 0)))) (m' := 174) (as := [Vr 166, Vi 91]) (S' := []) (L0 := [Vr 166, Vi 91]) (fun _ => rfl) rfl rfl rfl rfl rfl rfl (k_isSign (b := (updC b 195 f 0)) (hk.up (by omega)) 91 (by decide)) (fun r h' hq => ?_)
    obtain ⟨rfl, rfl⟩ := hq
    rw [if_neg (by omega)]
    show Ev X _ _ 77 [Vr 166, Vi (f : Int), Vi 1, Vx] [Vi 0] ((SHv st dr rd), (ovl a s (updC b 195 f 0))) _
    refine Ev.call (k := 5) (pc1 := 95) (L1 := [Vr 166, Vi (f : Int), Vi 1, Vx]) (S1 := [Vl 6384748, Vr 166]) (h1 := ((SHv st dr rd), (ovl a s (updC b 195 f 0)))) (m' := 162) (as := [Vr 166, Vl 6384748]) (S' := []) (L0 := [Vr 166, Vl 6384748, Vx]) (fun _ => rfl) rfl rfl rfl rfl rfl rfl (k_isWord (b := (updC b 195 f 0)) (hk.up (by omega)) 16 (by decide) 6384748 (by decide)) (fun r h' hq => ?_)
    obtain ⟨rfl, rfl⟩ := hq
    rw [if_neg (by omega)]
    show Ev X _ _ 98 [Vr 166, Vi (f : Int), Vi 1, Vx] [Vi 0] ((SHv st dr rd), (ovl a s (updC b 195 f 0))) _
    refine Ev.call (k := 4) (pc1 := 125) (L1 := [Vr 166, Vi (f : Int), Vi 1, Vx]) (S1 := [Vr 166]) (h1 := ((SHv st dr rd), (ovl a s (updC b 195 f 0)))) (m' := 177) (as := [Vr 166]) (S' := []) (L0 := [Vr 166, Vx, Vx, Vx]) (fun _ => rfl) rfl rfl rfl rfl rfl rfl (m_fact_no (b := (updC b 195 f 0)) (hk.up (by omega)) (by omega)) (fun r h' hq => ?_)
    obtain ⟨rfl, rfl⟩ := hq
    show Ev X _ _ 128 [Vr 166, Vi (f : Int), Vi 1, Vx] [Vi 0] ((SHv st dr rd), (ovl a s (updC b 195 f 0))) _
    refine Ev.call (k := 3) (pc1 := 143) (L1 := [Vr 166, Vi (f : Int), Vi 1, Vx]) (S1 := [Vi 40, Vr 166]) (h1 := ((SHv st dr rd), (ovl a s (updC b 195 f 0)))) (m' := 174) (as := [Vr 166, Vi 40]) (S' := []) (L0 := [Vr 166, Vi 40]) (fun _ => rfl) rfl rfl rfl rfl rfl rfl (k_isSign (b := (updC b 195 f 0)) (hk.up (by omega)) 40 (by decide)) (fun r h' hq => ?_)
    obtain ⟨rfl, rfl⟩ := hq
    rw [if_pos (by omega)]
    show Ev X _ _ 146 [Vr 166, Vi (f : Int), Vi 1, Vx] [Vi 1] ((SHv st dr rd), (ovl a s (updC b 195 f 0))) _
    refine Ev.call (k := 3) (pc1 := 151) (L1 := [Vr 166, Vi (f : Int), Vi 1, Vx]) (S1 := [Vi 2, Vr 166]) (h1 := ((SHv st dr rd), (ovl a s (updC b 195 f 0)))) (m' := 175) (as := [Vr 166, Vi 2]) (S' := []) (L0 := [Vr 166, Vi 2]) (fun _ => rfl) rfl rfl rfl rfl rfl rfl (m_opens (b := (updC b 195 f 0)) (hk.up (by omega)) j c e48 e45 e46 hf 2) (fun r h' hq => ?_)
    obtain ⟨rfl, bq22, rfl, hq⟩ := hq
    rcases hq with ⟨pq22, hxq22, hoq22⟩ | ⟨eq22, hxq22, hbq22⟩
    · show Ev X _ _ 154 [Vr 166, Vi (f : Int), Vi 1, Vx] [] ((SHv st dr rd), (ovl a s bq22)) _
      refine Ev.fin (k := 2) (r := (some (Vi 0))) (h' := ((SHv st dr rd), (ovl a s bq22))) (fun _ => rfl) ?_
      refine ⟨0, bq22, rfl, Or.inl rfl, rfl, Or.inl ⟨pq22, ?_, rfl, hoq22⟩⟩
      unfold opnT
      rw [if_neg (by omega)]
      by_cases h8 : f = 8
      · rw [if_pos h8] at hxq22; cases hxq22
      · rw [if_neg h8] at hxq22; rw [if_neg (by omega)]; exact hxq22
    · show Ev X _ _ 154 [Vr 166, Vi (f : Int), Vi 1, Vx] [] ((SHv st dr rd), (ovl a s bq22)) _
      refine Ev.fin (k := 2) (r := (some (Vi 0))) (h' := ((SHv st dr rd), (ovl a s bq22))) (fun _ => rfl) ?_
      refine ⟨0, bq22, rfl, Or.inl rfl, rfl, Or.inr ⟨eq22, ?_, ((hbq22.wk (((KpM.rf : KpM j c om f b b).up (by omega))).fr (Nat.le_refl _)))⟩⟩
      unfold opnT
      rw [if_neg (by omega)]
      by_cases h8 : f = 8
      · rw [if_pos h8] at hxq22; rw [if_pos (by omega)]; exact hxq22
      · rw [if_neg h8] at hxq22; rw [if_neg (by omega)]; exact hxq22
theorem m_op_num {X : List Int} {d : Nat} {st dr rd : Int} {a s b : C3} {W : TXT} {p : Nat} (hk : TkM W p b) {N : SC} {j : Nat} (hN : NmM N b j) {c om f : Nat} (e38 : b 166 38 = (c : Int)) (e48 : b 166 48 = (om : Int)) (e45 : b 166 45 = ((f + 1 : Nat) : Int)) (e46 : b 166 46 = (f : Int)) (hf : f ≤ 8) (hc : c < 1200) (ho : om < 500) {K : Nat} {I : PRS} (hct : tC W p = 301) (e3 : b 166 3 = 2) (e6 : b 166 6 = ((tV W p : Nat) : Int)) : Ev X (d + 4) 171 0 [Vr 166, Vx, Vx, Vx] [] (SHv st dr rd, ovl a s b) (fun rr hh => ∃ (v : Int) (b' : C3), rr = some (Vi v) ∧ (v = 0 ∨ v = 1) ∧ hh = (SHv st dr rd, ovl a s b') ∧ ResC (prtT W N K I p) (fun r => v = 1 ∧ (LfM W j c om f false r.1 r.2 b b')) (fun e => BkM W j c b e b')) := by
  have hj := hN.1
  refine m_opP e45 hf (fun g0 => ?_) (fun g0 g1 => ?_)
  · refine Ev.steps (k := 7) (pc' := 66) (L' := [Vr 166, Vi (f : Int), Vi 0, Vx]) (S' := [Vi 0, Vi (f : Int), Vr 195]) (h' := ((SHv st dr rd), (ovl a s b))) (fun _ => rfl) ?_
    refine Ev.zast (c' := (ovl a s (updC b 195 f 0))) rfl (by decide) rfl (by omega) (by omega) (by omega) (ovl_wm (by decide)) ?_
    refine Ev.call (k := 8) (pc1 := 143) (L1 := [Vr 166, Vi (f : Int), Vi 0, Vx]) (S1 := [Vi 40, Vr 166]) (h1 := ((SHv st dr rd), (ovl a s (updC b 195 f 0)))) (m' := 174) (as := [Vr 166, Vi 40]) (S' := []) (L0 := [Vr 166, Vi 40]) (fun _ => rfl) rfl rfl rfl rfl rfl rfl (k_isSign (b := (updC b 195 f 0)) (hk.up (by omega)) 40 (by decide)) (fun r h' hq => ?_)
    obtain ⟨rfl, rfl⟩ := hq
    rw [if_neg (by omega)]
    show Ev X _ _ 146 [Vr 166, Vi (f : Int), Vi 0, Vx] [Vi 0] ((SHv st dr rd), (ovl a s (updC b 195 f 0))) _
    refine Ev.call (k := 3) (pc1 := 160) (L1 := [Vr 166, Vi (f : Int), Vi 0, Vx]) (S1 := [Vl 7170414, Vr 166]) (h1 := ((SHv st dr rd), (ovl a s (updC b 195 f 0)))) (m' := 162) (as := [Vr 166, Vl 7170414]) (S' := []) (L0 := [Vr 166, Vl 7170414, Vx]) (fun _ => rfl) rfl rfl rfl rfl rfl rfl (k_isWord (b := (updC b 195 f 0)) (hk.up (by omega)) 25 (by decide) 7170414 (by decide)) (fun r h' hq => ?_)
    obtain ⟨rfl, rfl⟩ := hq
    rw [if_neg (by omega)]
    show Ev X _ _ 163 [Vr 166, Vi (f : Int), Vi 0, Vx] [Vi 0] ((SHv st dr rd), (ovl a s (updC b 195 f 0))) _
    refine Ev.call (k := 3) (pc1 := 170) (L1 := [Vr 166, Vi (f : Int), Vi 0, Vx]) (S1 := [Vl 7168376, Vr 166]) (h1 := ((SHv st dr rd), (ovl a s (updC b 195 f 0)))) (m' := 162) (as := [Vr 166, Vl 7168376]) (S' := []) (L0 := [Vr 166, Vl 7168376, Vx]) (fun _ => rfl) rfl rfl rfl rfl rfl rfl (k_isWord (b := (updC b 195 f 0)) (hk.up (by omega)) 26 (by decide) 7168376 (by decide)) (fun r h' hq => ?_)
    obtain ⟨rfl, rfl⟩ := hq
    rw [if_neg (by omega)]
    show Ev X _ _ 173 [Vr 166, Vi (f : Int), Vi 0, Vx] [Vi 0] ((SHv st dr rd), (ovl a s (updC b 195 f 0))) _
    refine Ev.call (k := 3) (pc1 := 246) (L1 := [Vr 166, Vi (f : Int), Vi 0, Vx]) (S1 := [Vl 1836019556, Vr 166]) (h1 := ((SHv st dr rd), (ovl a s (updC b 195 f 0)))) (m' := 162) (as := [Vr 166, Vl 1836019556]) (S' := []) (L0 := [Vr 166, Vl 1836019556, Vx]) (fun _ => rfl) rfl rfl rfl rfl rfl rfl (k_isWord (b := (updC b 195 f 0)) (hk.up (by omega)) 24 (by decide) 1836019556 (by decide)) (fun r h' hq => ?_)
    obtain ⟨rfl, rfl⟩ := hq
    rw [if_neg (by omega)]
    show Ev X _ _ 249 [Vr 166, Vi (f : Int), Vi 0, Vx] [Vi 0] ((SHv st dr rd), (ovl a s (updC b 195 f 0))) _
    refine Ev.steps (k := 3) (pc' := 282) (L' := [Vr 166, Vi (f : Int), Vi 0, Vx]) (S' := [Vi (b 166 3)]) (h' := ((SHv st dr rd), (ovl a s (updC b 195 f 0)))) (fun _ => rfl) ?_
    rw [e3]
    refine Ev.steps (k := 6) (pc' := 292) (L' := [Vr 166, Vi (f : Int), Vi 0, Vx]) (S' := [Vi (b 166 6), Vi 0, Vr 166]) (h' := ((SHv st dr rd), (ovl a s (updC b 195 f 0)))) (fun _ => rfl) ?_
    rw [e6]
    refine Ev.call (k := 0) (pc1 := 292) (L1 := [Vr 166, Vi (f : Int), Vi 0, Vx]) (S1 := [Vi ((tV W p : Nat) : Int), Vi 0, Vr 166]) (h1 := ((SHv st dr rd), (ovl a s (updC b 195 f 0)))) (m' := 176) (as := [Vr 166, Vi 0, Vi ((tV W p : Nat) : Int)]) (S' := []) (L0 := [Vr 166, Vi 0, Vi ((tV W p : Nat) : Int)]) (fun _ => rfl) rfl rfl rfl rfl rfl rfl (m_add (b := (updC b 195 f 0)) hj hN.2.1 e38 hc 0 ((tV W p : Nat) : Int)) (fun r h' hq => ?_)
    obtain ⟨rfl, rfl⟩ := hq
    show Ev X _ _ 295 [Vr 166, Vi (f : Int), Vi 0, Vx] [] ((SHv st dr rd), (ovl a s (updC (updC (updC (updC b 195 f 0) 191 ((1200 * j + c)) 0) 192 ((1200 * j + c)) ((tV W p : Nat) : Int)) 166 38 ((c : Int) + 1)))) _
    refine Ev.steps (k := 3) (pc' := 330) (L' := [Vr 166, Vi (f : Int), Vi 0, Vx]) (S' := [Vi (b 166 8)]) (h' := ((SHv st dr rd), (ovl a s (updC (updC (updC (updC b 195 f 0) 191 ((1200 * j + c)) 0) 192 ((1200 * j + c)) ((tV W p : Nat) : Int)) 166 38 ((c : Int) + 1))))) (fun _ => rfl) ?_
    rw [hk.2.1]
    refine Ev.call (k := 2) (pc1 := 334) (L1 := [Vr 166, Vi (f : Int), Vi 0, Vx]) (S1 := [Vr 166]) (h1 := ((SHv st dr rd), (ovl a s (updC (updC (updC (updC b 195 f 0) 191 ((1200 * j + c)) 0) 192 ((1200 * j + c)) ((tV W p : Nat) : Int)) 166 38 ((c : Int) + 1))))) (m' := 157) (as := [Vr 166]) (S' := []) (L0 := [Vr 166, Vx, Vx, Vx, Vx, Vx]) (fun _ => rfl) rfl rfl rfl rfl rfl rfl (m_nextT (b := (updC (updC (updC (updC b 195 f 0) 191 ((1200 * j + c)) 0) 192 ((1200 * j + c)) ((tV W p : Nat) : Int)) 166 38 ((c : Int) + 1))) ((((hk.up (by omega)).up (by omega)).up (by omega)).up (by omega))) (fun r h' hq => ?_)
    obtain ⟨rfl, bq23, rfl, hq⟩ := hq
    rcases hq with ⟨pq23, hxq23, hoq23⟩ | ⟨eq23, hxq23, hbq23⟩
    · show Ev X _ _ 337 [Vr 166, Vi (f : Int), Vi 0, Vx] [] ((SHv st dr rd), (ovl a s bq23)) _
      refine Ev.fin (k := 2) (r := (some (Vi 1))) (h' := ((SHv st dr rd), (ovl a s bq23))) (fun _ => rfl) ?_
      refine ⟨1, _, rfl, Or.inr rfl, rfl, Or.inl ⟨([(0, tV W p)], pq23), ?_, rfl, (LfM.nx hoq23 (((((KpM.rf : KpM j c om f b b).up (by omega)).up (by omega)).up (by omega)).up (by omega)) e45 e46 ⟨by rw [updC_nt (by omega), updC_nt (by omega), updC_nt (by omega), updC_nt (by omega)], by rw [updC_nt (by omega), updC_nt (by omega), updC_nt (by omega), updC_sm]⟩ (codM_add rfl rfl) rfl e48)⟩⟩
      unfold prtT
      rw [if_pos hct, hxq23, bnX_o]
    · show Ev X _ _ 337 [Vr 166, Vi (f : Int), Vi 0, Vx] [] ((SHv st dr rd), (ovl a s bq23)) _
      refine Ev.fin (k := 2) (r := (some (Vi 1))) (h' := ((SHv st dr rd), (ovl a s bq23))) (fun _ => rfl) ?_
      refine ⟨1, _, rfl, Or.inr rfl, rfl, Or.inr ⟨eq23, ?_, (hbq23.bk (((((KpM.rf : KpM j c om f b b).up (by omega)).up (by omega)).up (by omega)).up (by omega)))⟩⟩
      unfold prtT
      rw [if_pos hct, hxq23, bnX_e]
  · refine Ev.call (k := 5) (pc1 := 42) (L1 := [Vr 166, Vi (f : Int), Vi 1, Vx]) (S1 := [Vl 7237492, Vr 166]) (h1 := ((SHv st dr rd), (ovl a s b))) (m' := 162) (as := [Vr 166, Vl 7237492]) (S' := []) (L0 := [Vr 166, Vl 7237492, Vx]) (fun _ => rfl) rfl rfl rfl rfl rfl rfl (k_isWord (b := b) hk 15 (by decide) 7237492 (by decide)) (fun r h' hq => ?_)
    obtain ⟨rfl, rfl⟩ := hq
    rw [if_neg (by omega)]
    show Ev X _ _ 45 [Vr 166, Vi (f : Int), Vi 1, Vx] [Vi 0] ((SHv st dr rd), (ovl a s b)) _
    refine Ev.steps (k := 5) (pc' := 66) (L' := [Vr 166, Vi (f : Int), Vi 1, Vx]) (S' := [Vi 0, Vi (f : Int), Vr 195]) (h' := ((SHv st dr rd), (ovl a s b))) (fun _ => rfl) ?_
    refine Ev.zast (c' := (ovl a s (updC b 195 f 0))) rfl (by decide) rfl (by omega) (by omega) (by omega) (ovl_wm (by decide)) ?_
    refine Ev.call (k := 4) (pc1 := 74) (L1 := [Vr 166, Vi (f : Int), Vi 1, Vx]) (S1 := [Vi 91, Vr 166]) (h1 := ((SHv st dr rd), (ovl a s (updC b 195 f 0)))) (m' := 174) (as := [Vr 166, Vi 91]) (S' := []) (L0 := [Vr 166, Vi 91]) (fun _ => rfl) rfl rfl rfl rfl rfl rfl (k_isSign (b := (updC b 195 f 0)) (hk.up (by omega)) 91 (by decide)) (fun r h' hq => ?_)
    obtain ⟨rfl, rfl⟩ := hq
    rw [if_neg (by omega)]
    show Ev X _ _ 77 [Vr 166, Vi (f : Int), Vi 1, Vx] [Vi 0] ((SHv st dr rd), (ovl a s (updC b 195 f 0))) _
    refine Ev.call (k := 5) (pc1 := 95) (L1 := [Vr 166, Vi (f : Int), Vi 1, Vx]) (S1 := [Vl 6384748, Vr 166]) (h1 := ((SHv st dr rd), (ovl a s (updC b 195 f 0)))) (m' := 162) (as := [Vr 166, Vl 6384748]) (S' := []) (L0 := [Vr 166, Vl 6384748, Vx]) (fun _ => rfl) rfl rfl rfl rfl rfl rfl (k_isWord (b := (updC b 195 f 0)) (hk.up (by omega)) 16 (by decide) 6384748 (by decide)) (fun r h' hq => ?_)
    obtain ⟨rfl, rfl⟩ := hq
    rw [if_neg (by omega)]
    show Ev X _ _ 98 [Vr 166, Vi (f : Int), Vi 1, Vx] [Vi 0] ((SHv st dr rd), (ovl a s (updC b 195 f 0))) _
    refine Ev.call (k := 4) (pc1 := 125) (L1 := [Vr 166, Vi (f : Int), Vi 1, Vx]) (S1 := [Vr 166]) (h1 := ((SHv st dr rd), (ovl a s (updC b 195 f 0)))) (m' := 177) (as := [Vr 166]) (S' := []) (L0 := [Vr 166, Vx, Vx, Vx]) (fun _ => rfl) rfl rfl rfl rfl rfl rfl (m_fact_no (b := (updC b 195 f 0)) (hk.up (by omega)) (by omega)) (fun r h' hq => ?_)
    obtain ⟨rfl, rfl⟩ := hq
    show Ev X _ _ 128 [Vr 166, Vi (f : Int), Vi 1, Vx] [Vi 0] ((SHv st dr rd), (ovl a s (updC b 195 f 0))) _
    refine Ev.call (k := 3) (pc1 := 143) (L1 := [Vr 166, Vi (f : Int), Vi 1, Vx]) (S1 := [Vi 40, Vr 166]) (h1 := ((SHv st dr rd), (ovl a s (updC b 195 f 0)))) (m' := 174) (as := [Vr 166, Vi 40]) (S' := []) (L0 := [Vr 166, Vi 40]) (fun _ => rfl) rfl rfl rfl rfl rfl rfl (k_isSign (b := (updC b 195 f 0)) (hk.up (by omega)) 40 (by decide)) (fun r h' hq => ?_)
    obtain ⟨rfl, rfl⟩ := hq
    rw [if_neg (by omega)]
    show Ev X _ _ 146 [Vr 166, Vi (f : Int), Vi 1, Vx] [Vi 0] ((SHv st dr rd), (ovl a s (updC b 195 f 0))) _
    refine Ev.call (k := 3) (pc1 := 160) (L1 := [Vr 166, Vi (f : Int), Vi 1, Vx]) (S1 := [Vl 7170414, Vr 166]) (h1 := ((SHv st dr rd), (ovl a s (updC b 195 f 0)))) (m' := 162) (as := [Vr 166, Vl 7170414]) (S' := []) (L0 := [Vr 166, Vl 7170414, Vx]) (fun _ => rfl) rfl rfl rfl rfl rfl rfl (k_isWord (b := (updC b 195 f 0)) (hk.up (by omega)) 25 (by decide) 7170414 (by decide)) (fun r h' hq => ?_)
    obtain ⟨rfl, rfl⟩ := hq
    rw [if_neg (by omega)]
    show Ev X _ _ 163 [Vr 166, Vi (f : Int), Vi 1, Vx] [Vi 0] ((SHv st dr rd), (ovl a s (updC b 195 f 0))) _
    refine Ev.call (k := 3) (pc1 := 170) (L1 := [Vr 166, Vi (f : Int), Vi 1, Vx]) (S1 := [Vl 7168376, Vr 166]) (h1 := ((SHv st dr rd), (ovl a s (updC b 195 f 0)))) (m' := 162) (as := [Vr 166, Vl 7168376]) (S' := []) (L0 := [Vr 166, Vl 7168376, Vx]) (fun _ => rfl) rfl rfl rfl rfl rfl rfl (k_isWord (b := (updC b 195 f 0)) (hk.up (by omega)) 26 (by decide) 7168376 (by decide)) (fun r h' hq => ?_)
    obtain ⟨rfl, rfl⟩ := hq
    rw [if_neg (by omega)]
    show Ev X _ _ 173 [Vr 166, Vi (f : Int), Vi 1, Vx] [Vi 0] ((SHv st dr rd), (ovl a s (updC b 195 f 0))) _
    refine Ev.call (k := 3) (pc1 := 246) (L1 := [Vr 166, Vi (f : Int), Vi 1, Vx]) (S1 := [Vl 1836019556, Vr 166]) (h1 := ((SHv st dr rd), (ovl a s (updC b 195 f 0)))) (m' := 162) (as := [Vr 166, Vl 1836019556]) (S' := []) (L0 := [Vr 166, Vl 1836019556, Vx]) (fun _ => rfl) rfl rfl rfl rfl rfl rfl (k_isWord (b := (updC b 195 f 0)) (hk.up (by omega)) 24 (by decide) 1836019556 (by decide)) (fun r h' hq => ?_)
    obtain ⟨rfl, rfl⟩ := hq
    rw [if_neg (by omega)]
    show Ev X _ _ 249 [Vr 166, Vi (f : Int), Vi 1, Vx] [Vi 0] ((SHv st dr rd), (ovl a s (updC b 195 f 0))) _
    refine Ev.steps (k := 3) (pc' := 282) (L' := [Vr 166, Vi (f : Int), Vi 1, Vx]) (S' := [Vi (b 166 3)]) (h' := ((SHv st dr rd), (ovl a s (updC b 195 f 0)))) (fun _ => rfl) ?_
    rw [e3]
    refine Ev.steps (k := 6) (pc' := 292) (L' := [Vr 166, Vi (f : Int), Vi 1, Vx]) (S' := [Vi (b 166 6), Vi 0, Vr 166]) (h' := ((SHv st dr rd), (ovl a s (updC b 195 f 0)))) (fun _ => rfl) ?_
    rw [e6]
    refine Ev.call (k := 0) (pc1 := 292) (L1 := [Vr 166, Vi (f : Int), Vi 1, Vx]) (S1 := [Vi ((tV W p : Nat) : Int), Vi 0, Vr 166]) (h1 := ((SHv st dr rd), (ovl a s (updC b 195 f 0)))) (m' := 176) (as := [Vr 166, Vi 0, Vi ((tV W p : Nat) : Int)]) (S' := []) (L0 := [Vr 166, Vi 0, Vi ((tV W p : Nat) : Int)]) (fun _ => rfl) rfl rfl rfl rfl rfl rfl (m_add (b := (updC b 195 f 0)) hj hN.2.1 e38 hc 0 ((tV W p : Nat) : Int)) (fun r h' hq => ?_)
    obtain ⟨rfl, rfl⟩ := hq
    show Ev X _ _ 295 [Vr 166, Vi (f : Int), Vi 1, Vx] [] ((SHv st dr rd), (ovl a s (updC (updC (updC (updC b 195 f 0) 191 ((1200 * j + c)) 0) 192 ((1200 * j + c)) ((tV W p : Nat) : Int)) 166 38 ((c : Int) + 1)))) _
    refine Ev.steps (k := 3) (pc' := 330) (L' := [Vr 166, Vi (f : Int), Vi 1, Vx]) (S' := [Vi (b 166 8)]) (h' := ((SHv st dr rd), (ovl a s (updC (updC (updC (updC b 195 f 0) 191 ((1200 * j + c)) 0) 192 ((1200 * j + c)) ((tV W p : Nat) : Int)) 166 38 ((c : Int) + 1))))) (fun _ => rfl) ?_
    rw [hk.2.1]
    refine Ev.call (k := 2) (pc1 := 334) (L1 := [Vr 166, Vi (f : Int), Vi 1, Vx]) (S1 := [Vr 166]) (h1 := ((SHv st dr rd), (ovl a s (updC (updC (updC (updC b 195 f 0) 191 ((1200 * j + c)) 0) 192 ((1200 * j + c)) ((tV W p : Nat) : Int)) 166 38 ((c : Int) + 1))))) (m' := 157) (as := [Vr 166]) (S' := []) (L0 := [Vr 166, Vx, Vx, Vx, Vx, Vx]) (fun _ => rfl) rfl rfl rfl rfl rfl rfl (m_nextT (b := (updC (updC (updC (updC b 195 f 0) 191 ((1200 * j + c)) 0) 192 ((1200 * j + c)) ((tV W p : Nat) : Int)) 166 38 ((c : Int) + 1))) ((((hk.up (by omega)).up (by omega)).up (by omega)).up (by omega))) (fun r h' hq => ?_)
    obtain ⟨rfl, bq24, rfl, hq⟩ := hq
    rcases hq with ⟨pq24, hxq24, hoq24⟩ | ⟨eq24, hxq24, hbq24⟩
    · show Ev X _ _ 337 [Vr 166, Vi (f : Int), Vi 1, Vx] [] ((SHv st dr rd), (ovl a s bq24)) _
      refine Ev.fin (k := 2) (r := (some (Vi 1))) (h' := ((SHv st dr rd), (ovl a s bq24))) (fun _ => rfl) ?_
      refine ⟨1, _, rfl, Or.inr rfl, rfl, Or.inl ⟨([(0, tV W p)], pq24), ?_, rfl, (LfM.nx hoq24 (((((KpM.rf : KpM j c om f b b).up (by omega)).up (by omega)).up (by omega)).up (by omega)) e45 e46 ⟨by rw [updC_nt (by omega), updC_nt (by omega), updC_nt (by omega), updC_nt (by omega)], by rw [updC_nt (by omega), updC_nt (by omega), updC_nt (by omega), updC_sm]⟩ (codM_add rfl rfl) rfl e48)⟩⟩
      unfold prtT
      rw [if_pos hct, hxq24, bnX_o]
    · show Ev X _ _ 337 [Vr 166, Vi (f : Int), Vi 1, Vx] [] ((SHv st dr rd), (ovl a s bq24)) _
      refine Ev.fin (k := 2) (r := (some (Vi 1))) (h' := ((SHv st dr rd), (ovl a s bq24))) (fun _ => rfl) ?_
      refine ⟨1, _, rfl, Or.inr rfl, rfl, Or.inr ⟨eq24, ?_, (hbq24.bk (((((KpM.rf : KpM j c om f b b).up (by omega)).up (by omega)).up (by omega)).up (by omega)))⟩⟩
      unfold prtT
      rw [if_pos hct, hxq24, bnX_e]
theorem m_op_min {X : List Int} {d : Nat} {st dr rd : Int} {a s b : C3} {W : TXT} {p : Nat} (hk : TkM W p b) {N : SC} {j : Nat} (hN : NmM N b j) {c om f : Nat} (e38 : b 166 38 = (c : Int)) (e48 : b 166 48 = (om : Int)) (e45 : b 166 45 = ((f + 1 : Nat) : Int)) (e46 : b 166 46 = (f : Int)) (hf : f ≤ 8) (hc : c < 1200) (ho : om < 500) {K : Nat} {I : PRS} (hct : tC W p = 279) (h3 : b 166 3 ≠ 2) : Ev X (d + 4) 171 0 [Vr 166, Vx, Vx, Vx] [] (SHv st dr rd, ovl a s b) (fun rr hh => ∃ (v : Int) (b' : C3), rr = some (Vi v) ∧ (v = 0 ∨ v = 1) ∧ hh = (SHv st dr rd, ovl a s b') ∧ ResC (prtT W N K I p) (fun r => v = 1 ∧ (LfM W j c om f false r.1 r.2 b b')) (fun e => BkM W j c b e b')) := by
  have hj := hN.1
  refine m_opP e45 hf (fun g0 => ?_) (fun g0 g1 => ?_)
  · refine Ev.steps (k := 7) (pc' := 66) (L' := [Vr 166, Vi (f : Int), Vi 0, Vx]) (S' := [Vi 0, Vi (f : Int), Vr 195]) (h' := ((SHv st dr rd), (ovl a s b))) (fun _ => rfl) ?_
    refine Ev.zast (c' := (ovl a s (updC b 195 f 0))) rfl (by decide) rfl (by omega) (by omega) (by omega) (ovl_wm (by decide)) ?_
    refine Ev.call (k := 8) (pc1 := 143) (L1 := [Vr 166, Vi (f : Int), Vi 0, Vx]) (S1 := [Vi 40, Vr 166]) (h1 := ((SHv st dr rd), (ovl a s (updC b 195 f 0)))) (m' := 174) (as := [Vr 166, Vi 40]) (S' := []) (L0 := [Vr 166, Vi 40]) (fun _ => rfl) rfl rfl rfl rfl rfl rfl (k_isSign (b := (updC b 195 f 0)) (hk.up (by omega)) 40 (by decide)) (fun r h' hq => ?_)
    obtain ⟨rfl, rfl⟩ := hq
    rw [if_neg (by omega)]
    show Ev X _ _ 146 [Vr 166, Vi (f : Int), Vi 0, Vx] [Vi 0] ((SHv st dr rd), (ovl a s (updC b 195 f 0))) _
    refine Ev.call (k := 3) (pc1 := 160) (L1 := [Vr 166, Vi (f : Int), Vi 0, Vx]) (S1 := [Vl 7170414, Vr 166]) (h1 := ((SHv st dr rd), (ovl a s (updC b 195 f 0)))) (m' := 162) (as := [Vr 166, Vl 7170414]) (S' := []) (L0 := [Vr 166, Vl 7170414, Vx]) (fun _ => rfl) rfl rfl rfl rfl rfl rfl (k_isWord (b := (updC b 195 f 0)) (hk.up (by omega)) 25 (by decide) 7170414 (by decide)) (fun r h' hq => ?_)
    obtain ⟨rfl, rfl⟩ := hq
    rw [if_neg (by omega)]
    show Ev X _ _ 163 [Vr 166, Vi (f : Int), Vi 0, Vx] [Vi 0] ((SHv st dr rd), (ovl a s (updC b 195 f 0))) _
    refine Ev.call (k := 3) (pc1 := 170) (L1 := [Vr 166, Vi (f : Int), Vi 0, Vx]) (S1 := [Vl 7168376, Vr 166]) (h1 := ((SHv st dr rd), (ovl a s (updC b 195 f 0)))) (m' := 162) (as := [Vr 166, Vl 7168376]) (S' := []) (L0 := [Vr 166, Vl 7168376, Vx]) (fun _ => rfl) rfl rfl rfl rfl rfl rfl (k_isWord (b := (updC b 195 f 0)) (hk.up (by omega)) 26 (by decide) 7168376 (by decide)) (fun r h' hq => ?_)
    obtain ⟨rfl, rfl⟩ := hq
    rw [if_neg (by omega)]
    show Ev X _ _ 173 [Vr 166, Vi (f : Int), Vi 0, Vx] [Vi 0] ((SHv st dr rd), (ovl a s (updC b 195 f 0))) _
    refine Ev.call (k := 3) (pc1 := 246) (L1 := [Vr 166, Vi (f : Int), Vi 0, Vx]) (S1 := [Vl 1836019556, Vr 166]) (h1 := ((SHv st dr rd), (ovl a s (updC b 195 f 0)))) (m' := 162) (as := [Vr 166, Vl 1836019556]) (S' := []) (L0 := [Vr 166, Vl 1836019556, Vx]) (fun _ => rfl) rfl rfl rfl rfl rfl rfl (k_isWord (b := (updC b 195 f 0)) (hk.up (by omega)) 24 (by decide) 1836019556 (by decide)) (fun r h' hq => ?_)
    obtain ⟨rfl, rfl⟩ := hq
    rw [if_neg (by omega)]
    show Ev X _ _ 249 [Vr 166, Vi (f : Int), Vi 0, Vx] [Vi 0] ((SHv st dr rd), (ovl a s (updC b 195 f 0))) _
    refine Ev.ite (P := (b 166 3) ≠ 2) (k := 5) (a := 298) (b := 286) (L' := [Vr 166, Vi (f : Int), Vi 0, Vx]) (S' := []) (h' := ((SHv st dr rd), (ovl a s (updC b 195 f 0)))) (fun _ => rfl) (fun b283 => ?_) (fun b283 => ?_)
    · refine Ev.call (k := 2) (pc1 := 302) (L1 := [Vr 166, Vi (f : Int), Vi 0, Vx]) (S1 := [Vl 120299592184933, Vr 166]) (h1 := ((SHv st dr rd), (ovl a s (updC b 195 f 0)))) (m' := 162) (as := [Vr 166, Vl 120299592184933]) (S' := []) (L0 := [Vr 166, Vl 120299592184933, Vx]) (fun _ => rfl) rfl rfl rfl rfl rfl rfl (k_isWord (b := (updC b 195 f 0)) (hk.up (by omega)) 23 (by decide) 120299592184933 (by decide)) (fun r h' hq => ?_)
      obtain ⟨rfl, rfl⟩ := hq
      rw [if_pos (by omega)]
      show Ev X _ _ 305 [Vr 166, Vi (f : Int), Vi 0, Vx] [Vi 1] ((SHv st dr rd), (ovl a s (updC b 195 f 0))) _
      refine Ev.call (k := 4) (pc1 := 311) (L1 := [Vr 166, Vi (f : Int), Vi 0, Vx]) (S1 := [Vi 0, Vi 1, Vr 166]) (h1 := ((SHv st dr rd), (ovl a s (updC b 195 f 0)))) (m' := 176) (as := [Vr 166, Vi 1, Vi 0]) (S' := []) (L0 := [Vr 166, Vi 1, Vi 0]) (fun _ => rfl) rfl rfl rfl rfl rfl rfl (m_add (b := (updC b 195 f 0)) hj hN.2.1 e38 hc 1 0) (fun r h' hq => ?_)
      obtain ⟨rfl, rfl⟩ := hq
      show Ev X _ _ 314 [Vr 166, Vi (f : Int), Vi 0, Vx] [] ((SHv st dr rd), (ovl a s (updC (updC (updC (updC b 195 f 0) 191 ((1200 * j + c)) 1) 192 ((1200 * j + c)) 0) 166 38 ((c : Int) + 1)))) _
      refine Ev.steps (k := 3) (pc' := 330) (L' := [Vr 166, Vi (f : Int), Vi 0, Vx]) (S' := [Vi (b 166 8)]) (h' := ((SHv st dr rd), (ovl a s (updC (updC (updC (updC b 195 f 0) 191 ((1200 * j + c)) 1) 192 ((1200 * j + c)) 0) 166 38 ((c : Int) + 1))))) (fun _ => rfl) ?_
      rw [hk.2.1]
      refine Ev.call (k := 2) (pc1 := 334) (L1 := [Vr 166, Vi (f : Int), Vi 0, Vx]) (S1 := [Vr 166]) (h1 := ((SHv st dr rd), (ovl a s (updC (updC (updC (updC b 195 f 0) 191 ((1200 * j + c)) 1) 192 ((1200 * j + c)) 0) 166 38 ((c : Int) + 1))))) (m' := 157) (as := [Vr 166]) (S' := []) (L0 := [Vr 166, Vx, Vx, Vx, Vx, Vx]) (fun _ => rfl) rfl rfl rfl rfl rfl rfl (m_nextT (b := (updC (updC (updC (updC b 195 f 0) 191 ((1200 * j + c)) 1) 192 ((1200 * j + c)) 0) 166 38 ((c : Int) + 1))) ((((hk.up (by omega)).up (by omega)).up (by omega)).up (by omega))) (fun r h' hq => ?_)
      obtain ⟨rfl, bq25, rfl, hq⟩ := hq
      rcases hq with ⟨pq25, hxq25, hoq25⟩ | ⟨eq25, hxq25, hbq25⟩
      · show Ev X _ _ 337 [Vr 166, Vi (f : Int), Vi 0, Vx] [] ((SHv st dr rd), (ovl a s bq25)) _
        refine Ev.fin (k := 2) (r := (some (Vi 1))) (h' := ((SHv st dr rd), (ovl a s bq25))) (fun _ => rfl) ?_
        refine ⟨1, _, rfl, Or.inr rfl, rfl, Or.inl ⟨([(1, 0)], pq25), ?_, rfl, (LfM.nx hoq25 (((((KpM.rf : KpM j c om f b b).up (by omega)).up (by omega)).up (by omega)).up (by omega)) e45 e46 ⟨by rw [updC_nt (by omega), updC_nt (by omega), updC_nt (by omega), updC_nt (by omega)], by rw [updC_nt (by omega), updC_nt (by omega), updC_nt (by omega), updC_sm]⟩ (codM_add rfl rfl) rfl e48)⟩⟩
        unfold prtT
        rw [if_neg (by omega), if_pos hct, hxq25, bnX_o]
      · show Ev X _ _ 337 [Vr 166, Vi (f : Int), Vi 0, Vx] [] ((SHv st dr rd), (ovl a s bq25)) _
        refine Ev.fin (k := 2) (r := (some (Vi 1))) (h' := ((SHv st dr rd), (ovl a s bq25))) (fun _ => rfl) ?_
        refine ⟨1, _, rfl, Or.inr rfl, rfl, Or.inr ⟨eq25, ?_, (hbq25.bk (((((KpM.rf : KpM j c om f b b).up (by omega)).up (by omega)).up (by omega)).up (by omega)))⟩⟩
        unfold prtT
        rw [if_neg (by omega), if_pos hct, hxq25, bnX_e]
    · exact absurd (Classical.not_not.mp b283) h3
  · refine Ev.call (k := 5) (pc1 := 42) (L1 := [Vr 166, Vi (f : Int), Vi 1, Vx]) (S1 := [Vl 7237492, Vr 166]) (h1 := ((SHv st dr rd), (ovl a s b))) (m' := 162) (as := [Vr 166, Vl 7237492]) (S' := []) (L0 := [Vr 166, Vl 7237492, Vx]) (fun _ => rfl) rfl rfl rfl rfl rfl rfl (k_isWord (b := b) hk 15 (by decide) 7237492 (by decide)) (fun r h' hq => ?_)
    obtain ⟨rfl, rfl⟩ := hq
    rw [if_neg (by omega)]
    show Ev X _ _ 45 [Vr 166, Vi (f : Int), Vi 1, Vx] [Vi 0] ((SHv st dr rd), (ovl a s b)) _
    refine Ev.steps (k := 5) (pc' := 66) (L' := [Vr 166, Vi (f : Int), Vi 1, Vx]) (S' := [Vi 0, Vi (f : Int), Vr 195]) (h' := ((SHv st dr rd), (ovl a s b))) (fun _ => rfl) ?_
    refine Ev.zast (c' := (ovl a s (updC b 195 f 0))) rfl (by decide) rfl (by omega) (by omega) (by omega) (ovl_wm (by decide)) ?_
    refine Ev.call (k := 4) (pc1 := 74) (L1 := [Vr 166, Vi (f : Int), Vi 1, Vx]) (S1 := [Vi 91, Vr 166]) (h1 := ((SHv st dr rd), (ovl a s (updC b 195 f 0)))) (m' := 174) (as := [Vr 166, Vi 91]) (S' := []) (L0 := [Vr 166, Vi 91]) (fun _ => rfl) rfl rfl rfl rfl rfl rfl (k_isSign (b := (updC b 195 f 0)) (hk.up (by omega)) 91 (by decide)) (fun r h' hq => ?_)
    obtain ⟨rfl, rfl⟩ := hq
    rw [if_neg (by omega)]
    show Ev X _ _ 77 [Vr 166, Vi (f : Int), Vi 1, Vx] [Vi 0] ((SHv st dr rd), (ovl a s (updC b 195 f 0))) _
    refine Ev.call (k := 5) (pc1 := 95) (L1 := [Vr 166, Vi (f : Int), Vi 1, Vx]) (S1 := [Vl 6384748, Vr 166]) (h1 := ((SHv st dr rd), (ovl a s (updC b 195 f 0)))) (m' := 162) (as := [Vr 166, Vl 6384748]) (S' := []) (L0 := [Vr 166, Vl 6384748, Vx]) (fun _ => rfl) rfl rfl rfl rfl rfl rfl (k_isWord (b := (updC b 195 f 0)) (hk.up (by omega)) 16 (by decide) 6384748 (by decide)) (fun r h' hq => ?_)
    obtain ⟨rfl, rfl⟩ := hq
    rw [if_neg (by omega)]
    show Ev X _ _ 98 [Vr 166, Vi (f : Int), Vi 1, Vx] [Vi 0] ((SHv st dr rd), (ovl a s (updC b 195 f 0))) _
    refine Ev.call (k := 4) (pc1 := 125) (L1 := [Vr 166, Vi (f : Int), Vi 1, Vx]) (S1 := [Vr 166]) (h1 := ((SHv st dr rd), (ovl a s (updC b 195 f 0)))) (m' := 177) (as := [Vr 166]) (S' := []) (L0 := [Vr 166, Vx, Vx, Vx]) (fun _ => rfl) rfl rfl rfl rfl rfl rfl (m_fact_no (b := (updC b 195 f 0)) (hk.up (by omega)) (by omega)) (fun r h' hq => ?_)
    obtain ⟨rfl, rfl⟩ := hq
    show Ev X _ _ 128 [Vr 166, Vi (f : Int), Vi 1, Vx] [Vi 0] ((SHv st dr rd), (ovl a s (updC b 195 f 0))) _
    refine Ev.call (k := 3) (pc1 := 143) (L1 := [Vr 166, Vi (f : Int), Vi 1, Vx]) (S1 := [Vi 40, Vr 166]) (h1 := ((SHv st dr rd), (ovl a s (updC b 195 f 0)))) (m' := 174) (as := [Vr 166, Vi 40]) (S' := []) (L0 := [Vr 166, Vi 40]) (fun _ => rfl) rfl rfl rfl rfl rfl rfl (k_isSign (b := (updC b 195 f 0)) (hk.up (by omega)) 40 (by decide)) (fun r h' hq => ?_)
    obtain ⟨rfl, rfl⟩ := hq
    rw [if_neg (by omega)]
    show Ev X _ _ 146 [Vr 166, Vi (f : Int), Vi 1, Vx] [Vi 0] ((SHv st dr rd), (ovl a s (updC b 195 f 0))) _
    refine Ev.call (k := 3) (pc1 := 160) (L1 := [Vr 166, Vi (f : Int), Vi 1, Vx]) (S1 := [Vl 7170414, Vr 166]) (h1 := ((SHv st dr rd), (ovl a s (updC b 195 f 0)))) (m' := 162) (as := [Vr 166, Vl 7170414]) (S' := []) (L0 := [Vr 166, Vl 7170414, Vx]) (fun _ => rfl) rfl rfl rfl rfl rfl rfl (k_isWord (b := (updC b 195 f 0)) (hk.up (by omega)) 25 (by decide) 7170414 (by decide)) (fun r h' hq => ?_)
    obtain ⟨rfl, rfl⟩ := hq
    rw [if_neg (by omega)]
    show Ev X _ _ 163 [Vr 166, Vi (f : Int), Vi 1, Vx] [Vi 0] ((SHv st dr rd), (ovl a s (updC b 195 f 0))) _
    refine Ev.call (k := 3) (pc1 := 170) (L1 := [Vr 166, Vi (f : Int), Vi 1, Vx]) (S1 := [Vl 7168376, Vr 166]) (h1 := ((SHv st dr rd), (ovl a s (updC b 195 f 0)))) (m' := 162) (as := [Vr 166, Vl 7168376]) (S' := []) (L0 := [Vr 166, Vl 7168376, Vx]) (fun _ => rfl) rfl rfl rfl rfl rfl rfl (k_isWord (b := (updC b 195 f 0)) (hk.up (by omega)) 26 (by decide) 7168376 (by decide)) (fun r h' hq => ?_)
    obtain ⟨rfl, rfl⟩ := hq
    rw [if_neg (by omega)]
    show Ev X _ _ 173 [Vr 166, Vi (f : Int), Vi 1, Vx] [Vi 0] ((SHv st dr rd), (ovl a s (updC b 195 f 0))) _
    refine Ev.call (k := 3) (pc1 := 246) (L1 := [Vr 166, Vi (f : Int), Vi 1, Vx]) (S1 := [Vl 1836019556, Vr 166]) (h1 := ((SHv st dr rd), (ovl a s (updC b 195 f 0)))) (m' := 162) (as := [Vr 166, Vl 1836019556]) (S' := []) (L0 := [Vr 166, Vl 1836019556, Vx]) (fun _ => rfl) rfl rfl rfl rfl rfl rfl (k_isWord (b := (updC b 195 f 0)) (hk.up (by omega)) 24 (by decide) 1836019556 (by decide)) (fun r h' hq => ?_)
    obtain ⟨rfl, rfl⟩ := hq
    rw [if_neg (by omega)]
    show Ev X _ _ 249 [Vr 166, Vi (f : Int), Vi 1, Vx] [Vi 0] ((SHv st dr rd), (ovl a s (updC b 195 f 0))) _
    refine Ev.ite (P := (b 166 3) ≠ 2) (k := 5) (a := 298) (b := 286) (L' := [Vr 166, Vi (f : Int), Vi 1, Vx]) (S' := []) (h' := ((SHv st dr rd), (ovl a s (updC b 195 f 0)))) (fun _ => rfl) (fun b283 => ?_) (fun b283 => ?_)
    · refine Ev.call (k := 2) (pc1 := 302) (L1 := [Vr 166, Vi (f : Int), Vi 1, Vx]) (S1 := [Vl 120299592184933, Vr 166]) (h1 := ((SHv st dr rd), (ovl a s (updC b 195 f 0)))) (m' := 162) (as := [Vr 166, Vl 120299592184933]) (S' := []) (L0 := [Vr 166, Vl 120299592184933, Vx]) (fun _ => rfl) rfl rfl rfl rfl rfl rfl (k_isWord (b := (updC b 195 f 0)) (hk.up (by omega)) 23 (by decide) 120299592184933 (by decide)) (fun r h' hq => ?_)
      obtain ⟨rfl, rfl⟩ := hq
      rw [if_pos (by omega)]
      show Ev X _ _ 305 [Vr 166, Vi (f : Int), Vi 1, Vx] [Vi 1] ((SHv st dr rd), (ovl a s (updC b 195 f 0))) _
      refine Ev.call (k := 4) (pc1 := 311) (L1 := [Vr 166, Vi (f : Int), Vi 1, Vx]) (S1 := [Vi 0, Vi 1, Vr 166]) (h1 := ((SHv st dr rd), (ovl a s (updC b 195 f 0)))) (m' := 176) (as := [Vr 166, Vi 1, Vi 0]) (S' := []) (L0 := [Vr 166, Vi 1, Vi 0]) (fun _ => rfl) rfl rfl rfl rfl rfl rfl (m_add (b := (updC b 195 f 0)) hj hN.2.1 e38 hc 1 0) (fun r h' hq => ?_)
      obtain ⟨rfl, rfl⟩ := hq
      show Ev X _ _ 314 [Vr 166, Vi (f : Int), Vi 1, Vx] [] ((SHv st dr rd), (ovl a s (updC (updC (updC (updC b 195 f 0) 191 ((1200 * j + c)) 1) 192 ((1200 * j + c)) 0) 166 38 ((c : Int) + 1)))) _
      refine Ev.steps (k := 3) (pc' := 330) (L' := [Vr 166, Vi (f : Int), Vi 1, Vx]) (S' := [Vi (b 166 8)]) (h' := ((SHv st dr rd), (ovl a s (updC (updC (updC (updC b 195 f 0) 191 ((1200 * j + c)) 1) 192 ((1200 * j + c)) 0) 166 38 ((c : Int) + 1))))) (fun _ => rfl) ?_
      rw [hk.2.1]
      refine Ev.call (k := 2) (pc1 := 334) (L1 := [Vr 166, Vi (f : Int), Vi 1, Vx]) (S1 := [Vr 166]) (h1 := ((SHv st dr rd), (ovl a s (updC (updC (updC (updC b 195 f 0) 191 ((1200 * j + c)) 1) 192 ((1200 * j + c)) 0) 166 38 ((c : Int) + 1))))) (m' := 157) (as := [Vr 166]) (S' := []) (L0 := [Vr 166, Vx, Vx, Vx, Vx, Vx]) (fun _ => rfl) rfl rfl rfl rfl rfl rfl (m_nextT (b := (updC (updC (updC (updC b 195 f 0) 191 ((1200 * j + c)) 1) 192 ((1200 * j + c)) 0) 166 38 ((c : Int) + 1))) ((((hk.up (by omega)).up (by omega)).up (by omega)).up (by omega))) (fun r h' hq => ?_)
      obtain ⟨rfl, bq26, rfl, hq⟩ := hq
      rcases hq with ⟨pq26, hxq26, hoq26⟩ | ⟨eq26, hxq26, hbq26⟩
      · show Ev X _ _ 337 [Vr 166, Vi (f : Int), Vi 1, Vx] [] ((SHv st dr rd), (ovl a s bq26)) _
        refine Ev.fin (k := 2) (r := (some (Vi 1))) (h' := ((SHv st dr rd), (ovl a s bq26))) (fun _ => rfl) ?_
        refine ⟨1, _, rfl, Or.inr rfl, rfl, Or.inl ⟨([(1, 0)], pq26), ?_, rfl, (LfM.nx hoq26 (((((KpM.rf : KpM j c om f b b).up (by omega)).up (by omega)).up (by omega)).up (by omega)) e45 e46 ⟨by rw [updC_nt (by omega), updC_nt (by omega), updC_nt (by omega), updC_nt (by omega)], by rw [updC_nt (by omega), updC_nt (by omega), updC_nt (by omega), updC_sm]⟩ (codM_add rfl rfl) rfl e48)⟩⟩
        unfold prtT
        rw [if_neg (by omega), if_pos hct, hxq26, bnX_o]
      · show Ev X _ _ 337 [Vr 166, Vi (f : Int), Vi 1, Vx] [] ((SHv st dr rd), (ovl a s bq26)) _
        refine Ev.fin (k := 2) (r := (some (Vi 1))) (h' := ((SHv st dr rd), (ovl a s bq26))) (fun _ => rfl) ?_
        refine ⟨1, _, rfl, Or.inr rfl, rfl, Or.inr ⟨eq26, ?_, (hbq26.bk (((((KpM.rf : KpM j c om f b b).up (by omega)).up (by omega)).up (by omega)).up (by omega)))⟩⟩
        unfold prtT
        rw [if_neg (by omega), if_pos hct, hxq26, bnX_e]
    · exact absurd (Classical.not_not.mp b283) h3
theorem m_op_all {X : List Int} {d : Nat} {st dr rd : Int} {a s b : C3} {W : TXT} {p : Nat} (hk : TkM W p b) {N : SC} {j : Nat} (hN : NmM N b j) {c om f : Nat} (e38 : b 166 38 = (c : Int)) (e48 : b 166 48 = (om : Int)) (e45 : b 166 45 = ((f + 1 : Nat) : Int)) (e46 : b 166 46 = (f : Int)) (hf : f ≤ 8) (hc : c < 1200) (ho : om < 500) (h193 : b 193 f = 1 ∨ b 193 f = 5) (h195 : b 195 f = 1) (hct : tC W p = 272) : Ev X (d + 4) 171 0 [Vr 166, Vx, Vx, Vx] [] (SHv st dr rd, ovl a s b) (fun rr hh => ∃ (v : Int) (b' : C3), rr = some (Vi v) ∧ (v = 0 ∨ v = 1) ∧ hh = (SHv st dr rd, ovl a s b') ∧ ResC (simT W N p) (fun r => v = 1 ∧ (LfM W j c om f true r.1 r.2 b b')) (fun e => BkM W j c b e b')) := by
  have hj := hN.1
  refine m_opP e45 hf (fun g0 => ?_) (fun g0 g1 => ?_)
  · exfalso; omega
  · refine Ev.call (k := 5) (pc1 := 42) (L1 := [Vr 166, Vi (f : Int), Vi 1, Vx]) (S1 := [Vl 7237492, Vr 166]) (h1 := ((SHv st dr rd), (ovl a s b))) (m' := 162) (as := [Vr 166, Vl 7237492]) (S' := []) (L0 := [Vr 166, Vl 7237492, Vx]) (fun _ => rfl) rfl rfl rfl rfl rfl rfl (k_isWord (b := b) hk 15 (by decide) 7237492 (by decide)) (fun r h' hq => ?_)
    obtain ⟨rfl, rfl⟩ := hq
    rw [if_neg (by omega)]
    show Ev X _ _ 45 [Vr 166, Vi (f : Int), Vi 1, Vx] [Vi 0] ((SHv st dr rd), (ovl a s b)) _
    refine Ev.steps (k := 5) (pc' := 66) (L' := [Vr 166, Vi (f : Int), Vi 1, Vx]) (S' := [Vi 0, Vi (f : Int), Vr 195]) (h' := ((SHv st dr rd), (ovl a s b))) (fun _ => rfl) ?_
    refine Ev.zast (c' := (ovl a s (updC b 195 f 0))) rfl (by decide) rfl (by omega) (by omega) (by omega) (ovl_wm (by decide)) ?_
    refine Ev.call (k := 4) (pc1 := 74) (L1 := [Vr 166, Vi (f : Int), Vi 1, Vx]) (S1 := [Vi 91, Vr 166]) (h1 := ((SHv st dr rd), (ovl a s (updC b 195 f 0)))) (m' := 174) (as := [Vr 166, Vi 91]) (S' := []) (L0 := [Vr 166, Vi 91]) (fun _ => rfl) rfl rfl rfl rfl rfl rfl (k_isSign (b := (updC b 195 f 0)) (hk.up (by omega)) 91 (by decide)) (fun r h' hq => ?_)
    obtain ⟨rfl, rfl⟩ := hq
    rw [if_neg (by omega)]
    show Ev X _ _ 77 [Vr 166, Vi (f : Int), Vi 1, Vx] [Vi 0] ((SHv st dr rd), (ovl a s (updC b 195 f 0))) _
    refine Ev.call (k := 5) (pc1 := 95) (L1 := [Vr 166, Vi (f : Int), Vi 1, Vx]) (S1 := [Vl 6384748, Vr 166]) (h1 := ((SHv st dr rd), (ovl a s (updC b 195 f 0)))) (m' := 162) (as := [Vr 166, Vl 6384748]) (S' := []) (L0 := [Vr 166, Vl 6384748, Vx]) (fun _ => rfl) rfl rfl rfl rfl rfl rfl (k_isWord (b := (updC b 195 f 0)) (hk.up (by omega)) 16 (by decide) 6384748 (by decide)) (fun r h' hq => ?_)
    obtain ⟨rfl, rfl⟩ := hq
    rw [if_pos (by omega)]
    show Ev X _ _ 98 [Vr 166, Vi (f : Int), Vi 1, Vx] [Vi 1] ((SHv st dr rd), (ovl a s (updC b 195 f 0))) _
    refine Ev.call (k := 4) (pc1 := 104) (L1 := [Vr 166, Vi (f : Int), Vi 1, Vx]) (S1 := [Vi 0, Vi 3, Vr 166]) (h1 := ((SHv st dr rd), (ovl a s (updC b 195 f 0)))) (m' := 176) (as := [Vr 166, Vi 3, Vi 0]) (S' := []) (L0 := [Vr 166, Vi 3, Vi 0]) (fun _ => rfl) rfl rfl rfl rfl rfl rfl (m_add (b := (updC b 195 f 0)) hj hN.2.1 e38 hc 3 0) (fun r h' hq => ?_)
    obtain ⟨rfl, rfl⟩ := hq
    show Ev X _ _ 107 [Vr 166, Vi (f : Int), Vi 1, Vx] [] ((SHv st dr rd), (ovl a s (updC (updC (updC (updC b 195 f 0) 191 ((1200 * j + c)) 3) 192 ((1200 * j + c)) 0) 166 38 ((c : Int) + 1)))) _
    refine Ev.steps (k := 4) (pc' := 113) (L' := [Vr 166, Vi (f : Int), Vi 1, Vx]) (S' := [Vi 2, Vi (f : Int), Vr 194]) (h' := ((SHv st dr rd), (ovl a s (updC (updC (updC (updC b 195 f 0) 191 ((1200 * j + c)) 3) 192 ((1200 * j + c)) 0) 166 38 ((c : Int) + 1))))) (fun _ => rfl) ?_
    refine Ev.iast (c' := (ovl a s (updC (updC (updC (updC (updC b 195 f 0) 191 ((1200 * j + c)) 3) 192 ((1200 * j + c)) 0) 166 38 ((c : Int) + 1)) 194 f 2))) rfl (by decide) rfl (by omega) (by omega) (ovl_wm (by decide)) ?_
    refine Ev.call (k := 1) (pc1 := 115) (L1 := [Vr 166, Vi (f : Int), Vi 1, Vx]) (S1 := [Vr 166]) (h1 := ((SHv st dr rd), (ovl a s (updC (updC (updC (updC (updC b 195 f 0) 191 ((1200 * j + c)) 3) 192 ((1200 * j + c)) 0) 166 38 ((c : Int) + 1)) 194 f 2)))) (m' := 157) (as := [Vr 166]) (S' := []) (L0 := [Vr 166, Vx, Vx, Vx, Vx, Vx]) (fun _ => rfl) rfl rfl rfl rfl rfl rfl (m_nextT (b := (updC (updC (updC (updC (updC b 195 f 0) 191 ((1200 * j + c)) 3) 192 ((1200 * j + c)) 0) 166 38 ((c : Int) + 1)) 194 f 2)) (((((hk.up (by omega)).up (by omega)).up (by omega)).up (by omega)).up (by omega))) (fun r h' hq => ?_)
    obtain ⟨rfl, bq27, rfl, hq⟩ := hq
    rcases hq with ⟨pq27, hxq27, hoq27⟩ | ⟨eq27, hxq27, hbq27⟩
    · show Ev X _ _ 118 [Vr 166, Vi (f : Int), Vi 1, Vx] [] ((SHv st dr rd), (ovl a s bq27)) _
      refine Ev.fin (k := 2) (r := (some (Vi 1))) (h' := ((SHv st dr rd), (ovl a s bq27))) (fun _ => rfl) ?_
      refine ⟨1, _, rfl, Or.inr rfl, rfl, Or.inl ⟨([(3, 0)], pq27), ?_, rfl, (LfM.nx hoq27 ((((((KpM.rf : KpM j c om f b b).up (by omega)).up (by omega)).up (by omega)).up (by omega)).up (by omega)) e45 e46 (show _ = (2 : Int) from updC_sm) (codM_u (codM_add rfl rfl) (by omega)) rfl e48)⟩⟩
      unfold simT
      rw [hxq27, bnX_o, if_pos hct]
    · show Ev X _ _ 118 [Vr 166, Vi (f : Int), Vi 1, Vx] [] ((SHv st dr rd), (ovl a s bq27)) _
      refine Ev.fin (k := 2) (r := (some (Vi 1))) (h' := ((SHv st dr rd), (ovl a s bq27))) (fun _ => rfl) ?_
      refine ⟨1, _, rfl, Or.inr rfl, rfl, Or.inr ⟨eq27, ?_, (hbq27.bk ((((((KpM.rf : KpM j c om f b b).up (by omega)).up (by omega)).up (by omega)).up (by omega)).up (by omega)))⟩⟩
      unfold simT
      rw [hxq27, bnX_e]
theorem m_op_moo {X : List Int} {d : Nat} {st dr rd : Int} {a s b : C3} {W : TXT} {p : Nat} (hk : TkM W p b) {N : SC} {j : Nat} (hN : NmM N b j) {c om f : Nat} (e38 : b 166 38 = (c : Int)) (e48 : b 166 48 = (om : Int)) (e45 : b 166 45 = ((f + 1 : Nat) : Int)) (e46 : b 166 46 = (f : Int)) (hf : f ≤ 8) (hc : c < 1200) (ho : om < 500) {K : Nat} {I : PRS} (hct : tC W p = 280) : Ev X (d + 4) 171 0 [Vr 166, Vx, Vx, Vx] [] (SHv st dr rd, ovl a s b) (fun rr hh => ∃ (v : Int) (b' : C3), rr = some (Vi v) ∧ (v = 0 ∨ v = 1) ∧ hh = (SHv st dr rd, ovl a s b') ∧ ResC (prtT W N K I p) (fun r => v = 1 ∧ (LfM W j c om f false r.1 r.2 b b')) (fun e => BkM W j c b e b')) := by
  have hj := hN.1
  refine m_opP e45 hf (fun g0 => ?_) (fun g0 g1 => ?_)
  · refine Ev.steps (k := 7) (pc' := 66) (L' := [Vr 166, Vi (f : Int), Vi 0, Vx]) (S' := [Vi 0, Vi (f : Int), Vr 195]) (h' := ((SHv st dr rd), (ovl a s b))) (fun _ => rfl) ?_
    refine Ev.zast (c' := (ovl a s (updC b 195 f 0))) rfl (by decide) rfl (by omega) (by omega) (by omega) (ovl_wm (by decide)) ?_
    refine Ev.call (k := 8) (pc1 := 143) (L1 := [Vr 166, Vi (f : Int), Vi 0, Vx]) (S1 := [Vi 40, Vr 166]) (h1 := ((SHv st dr rd), (ovl a s (updC b 195 f 0)))) (m' := 174) (as := [Vr 166, Vi 40]) (S' := []) (L0 := [Vr 166, Vi 40]) (fun _ => rfl) rfl rfl rfl rfl rfl rfl (k_isSign (b := (updC b 195 f 0)) (hk.up (by omega)) 40 (by decide)) (fun r h' hq => ?_)
    obtain ⟨rfl, rfl⟩ := hq
    rw [if_neg (by omega)]
    show Ev X _ _ 146 [Vr 166, Vi (f : Int), Vi 0, Vx] [Vi 0] ((SHv st dr rd), (ovl a s (updC b 195 f 0))) _
    refine Ev.call (k := 3) (pc1 := 160) (L1 := [Vr 166, Vi (f : Int), Vi 0, Vx]) (S1 := [Vl 7170414, Vr 166]) (h1 := ((SHv st dr rd), (ovl a s (updC b 195 f 0)))) (m' := 162) (as := [Vr 166, Vl 7170414]) (S' := []) (L0 := [Vr 166, Vl 7170414, Vx]) (fun _ => rfl) rfl rfl rfl rfl rfl rfl (k_isWord (b := (updC b 195 f 0)) (hk.up (by omega)) 25 (by decide) 7170414 (by decide)) (fun r h' hq => ?_)
    obtain ⟨rfl, rfl⟩ := hq
    rw [if_neg (by omega)]
    show Ev X _ _ 163 [Vr 166, Vi (f : Int), Vi 0, Vx] [Vi 0] ((SHv st dr rd), (ovl a s (updC b 195 f 0))) _
    refine Ev.call (k := 3) (pc1 := 170) (L1 := [Vr 166, Vi (f : Int), Vi 0, Vx]) (S1 := [Vl 7168376, Vr 166]) (h1 := ((SHv st dr rd), (ovl a s (updC b 195 f 0)))) (m' := 162) (as := [Vr 166, Vl 7168376]) (S' := []) (L0 := [Vr 166, Vl 7168376, Vx]) (fun _ => rfl) rfl rfl rfl rfl rfl rfl (k_isWord (b := (updC b 195 f 0)) (hk.up (by omega)) 26 (by decide) 7168376 (by decide)) (fun r h' hq => ?_)
    obtain ⟨rfl, rfl⟩ := hq
    rw [if_neg (by omega)]
    show Ev X _ _ 173 [Vr 166, Vi (f : Int), Vi 0, Vx] [Vi 0] ((SHv st dr rd), (ovl a s (updC b 195 f 0))) _
    refine Ev.call (k := 3) (pc1 := 246) (L1 := [Vr 166, Vi (f : Int), Vi 0, Vx]) (S1 := [Vl 1836019556, Vr 166]) (h1 := ((SHv st dr rd), (ovl a s (updC b 195 f 0)))) (m' := 162) (as := [Vr 166, Vl 1836019556]) (S' := []) (L0 := [Vr 166, Vl 1836019556, Vx]) (fun _ => rfl) rfl rfl rfl rfl rfl rfl (k_isWord (b := (updC b 195 f 0)) (hk.up (by omega)) 24 (by decide) 1836019556 (by decide)) (fun r h' hq => ?_)
    obtain ⟨rfl, rfl⟩ := hq
    rw [if_pos (by omega)]
    show Ev X _ _ 249 [Vr 166, Vi (f : Int), Vi 0, Vx] [Vi 1] ((SHv st dr rd), (ovl a s (updC b 195 f 0))) _
    refine Ev.call (k := 2) (pc1 := 253) (L1 := [Vr 166, Vi (f : Int), Vi 0, Vx]) (S1 := [Vr 166]) (h1 := ((SHv st dr rd), (ovl a s (updC b 195 f 0)))) (m' := 157) (as := [Vr 166]) (S' := []) (L0 := [Vr 166, Vx, Vx, Vx, Vx, Vx]) (fun _ => rfl) rfl rfl rfl rfl rfl rfl (m_nextT (b := (updC b 195 f 0)) (hk.up (by omega))) (fun r h' hq => ?_)
    obtain ⟨rfl, bq28, rfl, hq⟩ := hq
    rcases hq with ⟨pq28, hxq28, hoq28⟩ | ⟨eq28, hxq28, hbq28⟩
    · show Ev X _ _ 256 [Vr 166, Vi (f : Int), Vi 0, Vx] [] ((SHv st dr rd), (ovl a s bq28)) _
      refine Ev.call (k := 3) (pc1 := 259) (L1 := [Vr 166, Vi (f : Int), Vi 0, Vx]) (S1 := [Vi (-1), Vi 1, Vr 166]) (h1 := ((SHv st dr rd), (ovl a s bq28))) (m' := 165) (as := [Vr 166, Vi 1, Vi (-1)]) (S' := []) (L0 := [Vr 166, Vi 1, Vi (-1), Vx]) (fun _ => rfl) rfl rfl rfl rfl rfl rfl (m_asked_1 (b := bq28) hoq28.2 (hN.fR ((((KpM.rf : KpM j c om f b b).up (by omega)).fn hoq28.1)).fr) (-1)) (fun r h' hq => ?_)
      obtain ⟨bq29, rfl, hq⟩ := hq
      rcases hq with ⟨rq29, hxq29, rfl, hoq29⟩ | ⟨eq29, hxq29, ⟨vq29, rfl, wq29⟩, hbq29⟩
      · have lq29 := (ask_ok hxq29).2.2.1
        have nq29 := (hN.2.2 1 (by decide)).1
        show Ev X _ _ 262 [Vr 166, Vi (f : Int), Vi 0, Vx] [Vi ((rq29.1 : Nat) : Int)] ((SHv st dr rd), (ovl a s bq29)) _
        refine Ev.steps (k := 3) (pc' := 267) (L' := [Vr 166, Vi (f : Int), Vi 0, Vi ((rq29.1 : Nat) : Int)]) (S' := [Vi (bq29 166 8)]) (h' := ((SHv st dr rd), (ovl a s bq29))) (fun _ => rfl) ?_
        rw [hoq29.2.2.1]
        refine Ev.call (k := 4) (pc1 := 273) (L1 := [Vr 166, Vi (f : Int), Vi 0, Vi ((rq29.1 : Nat) : Int)]) (S1 := [Vi ((rq29.1 : Nat) : Int), Vi 2, Vr 166]) (h1 := ((SHv st dr rd), (ovl a s bq29))) (m' := 176) (as := [Vr 166, Vi 2, Vi ((rq29.1 : Nat) : Int)]) (S' := []) (L0 := [Vr 166, Vi 2, Vi ((rq29.1 : Nat) : Int)]) (fun _ => rfl) rfl rfl rfl rfl rfl rfl (m_add (b := bq29) hj ((hoq29.1 166 39 (by omega)).trans ((hoq28.1 166 39 (by omega)).trans hN.2.1)) ((hoq29.1 166 38 (by omega)).trans ((hoq28.1 166 38 (by omega)).trans e38)) hc 2 ((rq29.1 : Nat) : Int)) (fun r h' hq => ?_)
        obtain ⟨rfl, rfl⟩ := hq
        show Ev X _ _ 276 [Vr 166, Vi (f : Int), Vi 0, Vi ((rq29.1 : Nat) : Int)] [] ((SHv st dr rd), (ovl a s (updC (updC (updC bq29 191 ((1200 * j + c)) 2) 192 ((1200 * j + c)) ((rq29.1 : Nat) : Int)) 166 38 ((c : Int) + 1)))) _
        refine Ev.fin (k := 2) (r := (some (Vi 1))) (h' := ((SHv st dr rd), (ovl a s (updC (updC (updC bq29 191 ((1200 * j + c)) 2) 192 ((1200 * j + c)) ((rq29.1 : Nat) : Int)) 166 38 ((c : Int) + 1))))) (fun _ => rfl) ?_
        refine ⟨1, _, rfl, Or.inr rfl, rfl, Or.inl ⟨([(2, rq29.1)], rq29.2), ?_, rfl, (((((((KpM.rf : KpM j c om f b b).up (by omega)).fn hoq28.1).fn hoq29.1).up (by omega)).up (by omega)).up (by omega)), (((hoq29.2.up (by omega)).up (by omega)).up (by omega)), ((hoq29.1 166 45 (by omega)).trans ((hoq28.1 166 45 (by omega)).trans e45)), ((hoq29.1 166 46 (by omega)).trans ((hoq28.1 166 46 (by omega)).trans e46)), ⟨?_, ?_⟩, codM_add rfl rfl, rfl, ((hoq29.1 166 48 (by omega)).trans ((hoq28.1 166 48 (by omega)).trans e48))⟩⟩
        · unfold prtT
          rw [if_neg (by omega), if_neg (by omega), if_pos hct, hxq28, bnX_o, hxq29, bnX_o]
        · rw [updC_nt (by omega), updC_nt (by omega), updC_nt (by omega)]
          exact ((hoq28.1.tr hoq29.1) 194 f (by omega)).trans (updC_nt (by omega))
        · rw [updC_nt (by omega), updC_nt (by omega), updC_nt (by omega)]
          exact ((hoq28.1.tr hoq29.1) 195 f (by omega)).trans updC_sm
      · show Ev X _ _ 262 [Vr 166, Vi (f : Int), Vi 0, Vx] [Vi vq29] ((SHv st dr rd), (ovl a s bq29)) _
        refine Ev.steps (k := 3) (pc' := 267) (L' := [Vr 166, Vi (f : Int), Vi 0, Vi vq29]) (S' := [Vi (bq29 166 8)]) (h' := ((SHv st dr rd), (ovl a s bq29))) (fun _ => rfl) ?_
        rw [hbq29.2.2.2.1]
        refine Ev.ite (P := eq29.1 ≠ 0) (k := 1) (a := 276) (b := 270) (L' := [Vr 166, Vi (f : Int), Vi 0, Vi vq29]) (S' := []) (h' := ((SHv st dr rd), (ovl a s bq29))) (fun _ => rfl) (fun b267 => ?_) (fun b267 => ?_)
        · refine Ev.fin (k := 2) (r := (some (Vi 1))) (h' := ((SHv st dr rd), (ovl a s bq29))) (fun _ => rfl) ?_
          refine ⟨1, _, rfl, Or.inr rfl, rfl, Or.inr ⟨eq29, ?_, (hbq29.bk (((KpM.rf : KpM j c om f b b).up (by omega)).fn hoq28.1))⟩⟩
          unfold prtT
          rw [if_neg (by omega), if_neg (by omega), if_pos hct, hxq28, bnX_o, hxq29, bnX_e]
        · have := hbq29.2.2.1; omega
    · show Ev X _ _ 256 [Vr 166, Vi (f : Int), Vi 0, Vx] [] ((SHv st dr rd), (ovl a s bq28)) _
      refine Ev.call (k := 3) (pc1 := 259) (L1 := [Vr 166, Vi (f : Int), Vi 0, Vx]) (S1 := [Vi (-1), Vi 1, Vr 166]) (h1 := ((SHv st dr rd), (ovl a s bq28))) (m' := 165) (as := [Vr 166, Vi 1, Vi (-1)]) (S' := []) (L0 := [Vr 166, Vi 1, Vi (-1), Vx]) (fun _ => rfl) rfl rfl rfl rfl rfl rfl (m_asked_br (b := bq28) hbq28.2.2 1 (-1)) (fun r h' hq => ?_)
      obtain ⟨rfl, rfl⟩ := hq
      show Ev X _ _ 262 [Vr 166, Vi (f : Int), Vi 0, Vx] [Vi 0] ((SHv st dr rd), (ovl a s bq28)) _
      refine Ev.steps (k := 3) (pc' := 267) (L' := [Vr 166, Vi (f : Int), Vi 0, Vi 0]) (S' := [Vi (bq28 166 8)]) (h' := ((SHv st dr rd), (ovl a s bq28))) (fun _ => rfl) ?_
      rw [hbq28.2.2.2.1]
      refine Ev.ite (P := eq28.1 ≠ 0) (k := 1) (a := 276) (b := 270) (L' := [Vr 166, Vi (f : Int), Vi 0, Vi 0]) (S' := []) (h' := ((SHv st dr rd), (ovl a s bq28))) (fun _ => rfl) (fun b267 => ?_) (fun b267 => ?_)
      · refine Ev.fin (k := 2) (r := (some (Vi 1))) (h' := ((SHv st dr rd), (ovl a s bq28))) (fun _ => rfl) ?_
        refine ⟨1, _, rfl, Or.inr rfl, rfl, Or.inr ⟨eq28, ?_, (hbq28.bk ((KpM.rf : KpM j c om f b b).up (by omega)))⟩⟩
        unfold prtT
        rw [if_neg (by omega), if_neg (by omega), if_pos hct, hxq28, bnX_e]
      · have := hbq28.2.2.1; omega
  · refine Ev.call (k := 5) (pc1 := 42) (L1 := [Vr 166, Vi (f : Int), Vi 1, Vx]) (S1 := [Vl 7237492, Vr 166]) (h1 := ((SHv st dr rd), (ovl a s b))) (m' := 162) (as := [Vr 166, Vl 7237492]) (S' := []) (L0 := [Vr 166, Vl 7237492, Vx]) (fun _ => rfl) rfl rfl rfl rfl rfl rfl (k_isWord (b := b) hk 15 (by decide) 7237492 (by decide)) (fun r h' hq => ?_)
    obtain ⟨rfl, rfl⟩ := hq
    rw [if_neg (by omega)]
    show Ev X _ _ 45 [Vr 166, Vi (f : Int), Vi 1, Vx] [Vi 0] ((SHv st dr rd), (ovl a s b)) _
    refine Ev.steps (k := 5) (pc' := 66) (L' := [Vr 166, Vi (f : Int), Vi 1, Vx]) (S' := [Vi 0, Vi (f : Int), Vr 195]) (h' := ((SHv st dr rd), (ovl a s b))) (fun _ => rfl) ?_
    refine Ev.zast (c' := (ovl a s (updC b 195 f 0))) rfl (by decide) rfl (by omega) (by omega) (by omega) (ovl_wm (by decide)) ?_
    refine Ev.call (k := 4) (pc1 := 74) (L1 := [Vr 166, Vi (f : Int), Vi 1, Vx]) (S1 := [Vi 91, Vr 166]) (h1 := ((SHv st dr rd), (ovl a s (updC b 195 f 0)))) (m' := 174) (as := [Vr 166, Vi 91]) (S' := []) (L0 := [Vr 166, Vi 91]) (fun _ => rfl) rfl rfl rfl rfl rfl rfl (k_isSign (b := (updC b 195 f 0)) (hk.up (by omega)) 91 (by decide)) (fun r h' hq => ?_)
    obtain ⟨rfl, rfl⟩ := hq
    rw [if_neg (by omega)]
    show Ev X _ _ 77 [Vr 166, Vi (f : Int), Vi 1, Vx] [Vi 0] ((SHv st dr rd), (ovl a s (updC b 195 f 0))) _
    refine Ev.call (k := 5) (pc1 := 95) (L1 := [Vr 166, Vi (f : Int), Vi 1, Vx]) (S1 := [Vl 6384748, Vr 166]) (h1 := ((SHv st dr rd), (ovl a s (updC b 195 f 0)))) (m' := 162) (as := [Vr 166, Vl 6384748]) (S' := []) (L0 := [Vr 166, Vl 6384748, Vx]) (fun _ => rfl) rfl rfl rfl rfl rfl rfl (k_isWord (b := (updC b 195 f 0)) (hk.up (by omega)) 16 (by decide) 6384748 (by decide)) (fun r h' hq => ?_)
    obtain ⟨rfl, rfl⟩ := hq
    rw [if_neg (by omega)]
    show Ev X _ _ 98 [Vr 166, Vi (f : Int), Vi 1, Vx] [Vi 0] ((SHv st dr rd), (ovl a s (updC b 195 f 0))) _
    refine Ev.call (k := 4) (pc1 := 125) (L1 := [Vr 166, Vi (f : Int), Vi 1, Vx]) (S1 := [Vr 166]) (h1 := ((SHv st dr rd), (ovl a s (updC b 195 f 0)))) (m' := 177) (as := [Vr 166]) (S' := []) (L0 := [Vr 166, Vx, Vx, Vx]) (fun _ => rfl) rfl rfl rfl rfl rfl rfl (m_fact_no (b := (updC b 195 f 0)) (hk.up (by omega)) (by omega)) (fun r h' hq => ?_)
    obtain ⟨rfl, rfl⟩ := hq
    show Ev X _ _ 128 [Vr 166, Vi (f : Int), Vi 1, Vx] [Vi 0] ((SHv st dr rd), (ovl a s (updC b 195 f 0))) _
    refine Ev.call (k := 3) (pc1 := 143) (L1 := [Vr 166, Vi (f : Int), Vi 1, Vx]) (S1 := [Vi 40, Vr 166]) (h1 := ((SHv st dr rd), (ovl a s (updC b 195 f 0)))) (m' := 174) (as := [Vr 166, Vi 40]) (S' := []) (L0 := [Vr 166, Vi 40]) (fun _ => rfl) rfl rfl rfl rfl rfl rfl (k_isSign (b := (updC b 195 f 0)) (hk.up (by omega)) 40 (by decide)) (fun r h' hq => ?_)
    obtain ⟨rfl, rfl⟩ := hq
    rw [if_neg (by omega)]
    show Ev X _ _ 146 [Vr 166, Vi (f : Int), Vi 1, Vx] [Vi 0] ((SHv st dr rd), (ovl a s (updC b 195 f 0))) _
    refine Ev.call (k := 3) (pc1 := 160) (L1 := [Vr 166, Vi (f : Int), Vi 1, Vx]) (S1 := [Vl 7170414, Vr 166]) (h1 := ((SHv st dr rd), (ovl a s (updC b 195 f 0)))) (m' := 162) (as := [Vr 166, Vl 7170414]) (S' := []) (L0 := [Vr 166, Vl 7170414, Vx]) (fun _ => rfl) rfl rfl rfl rfl rfl rfl (k_isWord (b := (updC b 195 f 0)) (hk.up (by omega)) 25 (by decide) 7170414 (by decide)) (fun r h' hq => ?_)
    obtain ⟨rfl, rfl⟩ := hq
    rw [if_neg (by omega)]
    show Ev X _ _ 163 [Vr 166, Vi (f : Int), Vi 1, Vx] [Vi 0] ((SHv st dr rd), (ovl a s (updC b 195 f 0))) _
    refine Ev.call (k := 3) (pc1 := 170) (L1 := [Vr 166, Vi (f : Int), Vi 1, Vx]) (S1 := [Vl 7168376, Vr 166]) (h1 := ((SHv st dr rd), (ovl a s (updC b 195 f 0)))) (m' := 162) (as := [Vr 166, Vl 7168376]) (S' := []) (L0 := [Vr 166, Vl 7168376, Vx]) (fun _ => rfl) rfl rfl rfl rfl rfl rfl (k_isWord (b := (updC b 195 f 0)) (hk.up (by omega)) 26 (by decide) 7168376 (by decide)) (fun r h' hq => ?_)
    obtain ⟨rfl, rfl⟩ := hq
    rw [if_neg (by omega)]
    show Ev X _ _ 173 [Vr 166, Vi (f : Int), Vi 1, Vx] [Vi 0] ((SHv st dr rd), (ovl a s (updC b 195 f 0))) _
    refine Ev.call (k := 3) (pc1 := 246) (L1 := [Vr 166, Vi (f : Int), Vi 1, Vx]) (S1 := [Vl 1836019556, Vr 166]) (h1 := ((SHv st dr rd), (ovl a s (updC b 195 f 0)))) (m' := 162) (as := [Vr 166, Vl 1836019556]) (S' := []) (L0 := [Vr 166, Vl 1836019556, Vx]) (fun _ => rfl) rfl rfl rfl rfl rfl rfl (k_isWord (b := (updC b 195 f 0)) (hk.up (by omega)) 24 (by decide) 1836019556 (by decide)) (fun r h' hq => ?_)
    obtain ⟨rfl, rfl⟩ := hq
    rw [if_pos (by omega)]
    show Ev X _ _ 249 [Vr 166, Vi (f : Int), Vi 1, Vx] [Vi 1] ((SHv st dr rd), (ovl a s (updC b 195 f 0))) _
    refine Ev.call (k := 2) (pc1 := 253) (L1 := [Vr 166, Vi (f : Int), Vi 1, Vx]) (S1 := [Vr 166]) (h1 := ((SHv st dr rd), (ovl a s (updC b 195 f 0)))) (m' := 157) (as := [Vr 166]) (S' := []) (L0 := [Vr 166, Vx, Vx, Vx, Vx, Vx]) (fun _ => rfl) rfl rfl rfl rfl rfl rfl (m_nextT (b := (updC b 195 f 0)) (hk.up (by omega))) (fun r h' hq => ?_)
    obtain ⟨rfl, bq30, rfl, hq⟩ := hq
    rcases hq with ⟨pq30, hxq30, hoq30⟩ | ⟨eq30, hxq30, hbq30⟩
    · show Ev X _ _ 256 [Vr 166, Vi (f : Int), Vi 1, Vx] [] ((SHv st dr rd), (ovl a s bq30)) _
      refine Ev.call (k := 3) (pc1 := 259) (L1 := [Vr 166, Vi (f : Int), Vi 1, Vx]) (S1 := [Vi (-1), Vi 1, Vr 166]) (h1 := ((SHv st dr rd), (ovl a s bq30))) (m' := 165) (as := [Vr 166, Vi 1, Vi (-1)]) (S' := []) (L0 := [Vr 166, Vi 1, Vi (-1), Vx]) (fun _ => rfl) rfl rfl rfl rfl rfl rfl (m_asked_1 (b := bq30) hoq30.2 (hN.fR ((((KpM.rf : KpM j c om f b b).up (by omega)).fn hoq30.1)).fr) (-1)) (fun r h' hq => ?_)
      obtain ⟨bq31, rfl, hq⟩ := hq
      rcases hq with ⟨rq31, hxq31, rfl, hoq31⟩ | ⟨eq31, hxq31, ⟨vq31, rfl, wq31⟩, hbq31⟩
      · have lq31 := (ask_ok hxq31).2.2.1
        have nq31 := (hN.2.2 1 (by decide)).1
        show Ev X _ _ 262 [Vr 166, Vi (f : Int), Vi 1, Vx] [Vi ((rq31.1 : Nat) : Int)] ((SHv st dr rd), (ovl a s bq31)) _
        refine Ev.steps (k := 3) (pc' := 267) (L' := [Vr 166, Vi (f : Int), Vi 1, Vi ((rq31.1 : Nat) : Int)]) (S' := [Vi (bq31 166 8)]) (h' := ((SHv st dr rd), (ovl a s bq31))) (fun _ => rfl) ?_
        rw [hoq31.2.2.1]
        refine Ev.call (k := 4) (pc1 := 273) (L1 := [Vr 166, Vi (f : Int), Vi 1, Vi ((rq31.1 : Nat) : Int)]) (S1 := [Vi ((rq31.1 : Nat) : Int), Vi 2, Vr 166]) (h1 := ((SHv st dr rd), (ovl a s bq31))) (m' := 176) (as := [Vr 166, Vi 2, Vi ((rq31.1 : Nat) : Int)]) (S' := []) (L0 := [Vr 166, Vi 2, Vi ((rq31.1 : Nat) : Int)]) (fun _ => rfl) rfl rfl rfl rfl rfl rfl (m_add (b := bq31) hj ((hoq31.1 166 39 (by omega)).trans ((hoq30.1 166 39 (by omega)).trans hN.2.1)) ((hoq31.1 166 38 (by omega)).trans ((hoq30.1 166 38 (by omega)).trans e38)) hc 2 ((rq31.1 : Nat) : Int)) (fun r h' hq => ?_)
        obtain ⟨rfl, rfl⟩ := hq
        show Ev X _ _ 276 [Vr 166, Vi (f : Int), Vi 1, Vi ((rq31.1 : Nat) : Int)] [] ((SHv st dr rd), (ovl a s (updC (updC (updC bq31 191 ((1200 * j + c)) 2) 192 ((1200 * j + c)) ((rq31.1 : Nat) : Int)) 166 38 ((c : Int) + 1)))) _
        refine Ev.fin (k := 2) (r := (some (Vi 1))) (h' := ((SHv st dr rd), (ovl a s (updC (updC (updC bq31 191 ((1200 * j + c)) 2) 192 ((1200 * j + c)) ((rq31.1 : Nat) : Int)) 166 38 ((c : Int) + 1))))) (fun _ => rfl) ?_
        refine ⟨1, _, rfl, Or.inr rfl, rfl, Or.inl ⟨([(2, rq31.1)], rq31.2), ?_, rfl, (((((((KpM.rf : KpM j c om f b b).up (by omega)).fn hoq30.1).fn hoq31.1).up (by omega)).up (by omega)).up (by omega)), (((hoq31.2.up (by omega)).up (by omega)).up (by omega)), ((hoq31.1 166 45 (by omega)).trans ((hoq30.1 166 45 (by omega)).trans e45)), ((hoq31.1 166 46 (by omega)).trans ((hoq30.1 166 46 (by omega)).trans e46)), ⟨?_, ?_⟩, codM_add rfl rfl, rfl, ((hoq31.1 166 48 (by omega)).trans ((hoq30.1 166 48 (by omega)).trans e48))⟩⟩
        · unfold prtT
          rw [if_neg (by omega), if_neg (by omega), if_pos hct, hxq30, bnX_o, hxq31, bnX_o]
        · rw [updC_nt (by omega), updC_nt (by omega), updC_nt (by omega)]
          exact ((hoq30.1.tr hoq31.1) 194 f (by omega)).trans (updC_nt (by omega))
        · rw [updC_nt (by omega), updC_nt (by omega), updC_nt (by omega)]
          exact ((hoq30.1.tr hoq31.1) 195 f (by omega)).trans updC_sm
      · show Ev X _ _ 262 [Vr 166, Vi (f : Int), Vi 1, Vx] [Vi vq31] ((SHv st dr rd), (ovl a s bq31)) _
        refine Ev.steps (k := 3) (pc' := 267) (L' := [Vr 166, Vi (f : Int), Vi 1, Vi vq31]) (S' := [Vi (bq31 166 8)]) (h' := ((SHv st dr rd), (ovl a s bq31))) (fun _ => rfl) ?_
        rw [hbq31.2.2.2.1]
        refine Ev.ite (P := eq31.1 ≠ 0) (k := 1) (a := 276) (b := 270) (L' := [Vr 166, Vi (f : Int), Vi 1, Vi vq31]) (S' := []) (h' := ((SHv st dr rd), (ovl a s bq31))) (fun _ => rfl) (fun b267 => ?_) (fun b267 => ?_)
        · refine Ev.fin (k := 2) (r := (some (Vi 1))) (h' := ((SHv st dr rd), (ovl a s bq31))) (fun _ => rfl) ?_
          refine ⟨1, _, rfl, Or.inr rfl, rfl, Or.inr ⟨eq31, ?_, (hbq31.bk (((KpM.rf : KpM j c om f b b).up (by omega)).fn hoq30.1))⟩⟩
          unfold prtT
          rw [if_neg (by omega), if_neg (by omega), if_pos hct, hxq30, bnX_o, hxq31, bnX_e]
        · have := hbq31.2.2.1; omega
    · show Ev X _ _ 256 [Vr 166, Vi (f : Int), Vi 1, Vx] [] ((SHv st dr rd), (ovl a s bq30)) _
      refine Ev.call (k := 3) (pc1 := 259) (L1 := [Vr 166, Vi (f : Int), Vi 1, Vx]) (S1 := [Vi (-1), Vi 1, Vr 166]) (h1 := ((SHv st dr rd), (ovl a s bq30))) (m' := 165) (as := [Vr 166, Vi 1, Vi (-1)]) (S' := []) (L0 := [Vr 166, Vi 1, Vi (-1), Vx]) (fun _ => rfl) rfl rfl rfl rfl rfl rfl (m_asked_br (b := bq30) hbq30.2.2 1 (-1)) (fun r h' hq => ?_)
      obtain ⟨rfl, rfl⟩ := hq
      show Ev X _ _ 262 [Vr 166, Vi (f : Int), Vi 1, Vx] [Vi 0] ((SHv st dr rd), (ovl a s bq30)) _
      refine Ev.steps (k := 3) (pc' := 267) (L' := [Vr 166, Vi (f : Int), Vi 1, Vi 0]) (S' := [Vi (bq30 166 8)]) (h' := ((SHv st dr rd), (ovl a s bq30))) (fun _ => rfl) ?_
      rw [hbq30.2.2.2.1]
      refine Ev.ite (P := eq30.1 ≠ 0) (k := 1) (a := 276) (b := 270) (L' := [Vr 166, Vi (f : Int), Vi 1, Vi 0]) (S' := []) (h' := ((SHv st dr rd), (ovl a s bq30))) (fun _ => rfl) (fun b267 => ?_) (fun b267 => ?_)
      · refine Ev.fin (k := 2) (r := (some (Vi 1))) (h' := ((SHv st dr rd), (ovl a s bq30))) (fun _ => rfl) ?_
        refine ⟨1, _, rfl, Or.inr rfl, rfl, Or.inr ⟨eq30, ?_, (hbq30.bk ((KpM.rf : KpM j c om f b b).up (by omega)))⟩⟩
        unfold prtT
        rw [if_neg (by omega), if_neg (by omega), if_pos hct, hxq30, bnX_e]
      · have := hbq30.2.2.1; omega
theorem m_op_fac {X : List Int} {d : Nat} {st dr rd : Int} {a s b : C3} {W : TXT} {p : Nat} (hk : TkM W p b) {N : SC} {j : Nat} (hN : NmM N b j) {c om f : Nat} (e38 : b 166 38 = (c : Int)) (e48 : b 166 48 = (om : Int)) (e45 : b 166 45 = ((f + 1 : Nat) : Int)) (e46 : b 166 46 = (f : Int)) (hf : f ≤ 8) (hc : c < 1200) (ho : om < 500) (h193 : b 193 f = 1 ∨ b 193 f = 5) (h195 : b 195 f = 1) (hct : 273 ≤ tC W p ∧ tC W p ≤ 278) : Ev X (d + 4) 171 0 [Vr 166, Vx, Vx, Vx] [] (SHv st dr rd, ovl a s b) (fun rr hh => ∃ (v : Int) (b' : C3), rr = some (Vi v) ∧ (v = 0 ∨ v = 1) ∧ hh = (SHv st dr rd, ovl a s b') ∧ ResC (simT W N p) (fun r => v = 1 ∧ (LfM W j c om f true r.1 r.2 b b')) (fun e => BkM W j c b e b')) := by
  have hj := hN.1
  refine m_opP e45 hf (fun g0 => ?_) (fun g0 g1 => ?_)
  · exfalso; omega
  · refine Ev.call (k := 5) (pc1 := 42) (L1 := [Vr 166, Vi (f : Int), Vi 1, Vx]) (S1 := [Vl 7237492, Vr 166]) (h1 := ((SHv st dr rd), (ovl a s b))) (m' := 162) (as := [Vr 166, Vl 7237492]) (S' := []) (L0 := [Vr 166, Vl 7237492, Vx]) (fun _ => rfl) rfl rfl rfl rfl rfl rfl (k_isWord (b := b) hk 15 (by decide) 7237492 (by decide)) (fun r h' hq => ?_)
    obtain ⟨rfl, rfl⟩ := hq
    rw [if_neg (by omega)]
    show Ev X _ _ 45 [Vr 166, Vi (f : Int), Vi 1, Vx] [Vi 0] ((SHv st dr rd), (ovl a s b)) _
    refine Ev.steps (k := 5) (pc' := 66) (L' := [Vr 166, Vi (f : Int), Vi 1, Vx]) (S' := [Vi 0, Vi (f : Int), Vr 195]) (h' := ((SHv st dr rd), (ovl a s b))) (fun _ => rfl) ?_
    refine Ev.zast (c' := (ovl a s (updC b 195 f 0))) rfl (by decide) rfl (by omega) (by omega) (by omega) (ovl_wm (by decide)) ?_
    refine Ev.call (k := 4) (pc1 := 74) (L1 := [Vr 166, Vi (f : Int), Vi 1, Vx]) (S1 := [Vi 91, Vr 166]) (h1 := ((SHv st dr rd), (ovl a s (updC b 195 f 0)))) (m' := 174) (as := [Vr 166, Vi 91]) (S' := []) (L0 := [Vr 166, Vi 91]) (fun _ => rfl) rfl rfl rfl rfl rfl rfl (k_isSign (b := (updC b 195 f 0)) (hk.up (by omega)) 91 (by decide)) (fun r h' hq => ?_)
    obtain ⟨rfl, rfl⟩ := hq
    rw [if_neg (by omega)]
    show Ev X _ _ 77 [Vr 166, Vi (f : Int), Vi 1, Vx] [Vi 0] ((SHv st dr rd), (ovl a s (updC b 195 f 0))) _
    refine Ev.call (k := 5) (pc1 := 95) (L1 := [Vr 166, Vi (f : Int), Vi 1, Vx]) (S1 := [Vl 6384748, Vr 166]) (h1 := ((SHv st dr rd), (ovl a s (updC b 195 f 0)))) (m' := 162) (as := [Vr 166, Vl 6384748]) (S' := []) (L0 := [Vr 166, Vl 6384748, Vx]) (fun _ => rfl) rfl rfl rfl rfl rfl rfl (k_isWord (b := (updC b 195 f 0)) (hk.up (by omega)) 16 (by decide) 6384748 (by decide)) (fun r h' hq => ?_)
    obtain ⟨rfl, rfl⟩ := hq
    rw [if_neg (by omega)]
    show Ev X _ _ 98 [Vr 166, Vi (f : Int), Vi 1, Vx] [Vi 0] ((SHv st dr rd), (ovl a s (updC b 195 f 0))) _
    refine Ev.call (k := 4) (pc1 := 125) (L1 := [Vr 166, Vi (f : Int), Vi 1, Vx]) (S1 := [Vr 166]) (h1 := ((SHv st dr rd), (ovl a s (updC b 195 f 0)))) (m' := 177) (as := [Vr 166]) (S' := []) (L0 := [Vr 166, Vx, Vx, Vx]) (fun _ => rfl) rfl rfl rfl rfl rfl rfl (m_fact (b := (updC b 195 f 0)) (hk.up (by omega)) (hN.fR (((KpM.rf : KpM j c om f b b).up (by omega))).fr) (om := om) (f := f) e38 hc hct) (fun r h' hq => ?_)
    obtain ⟨rfl, bq32, rfl, hq⟩ := hq
    rcases hq with ⟨rq32, hxq32, cq32, hoq32, qq32, vq32, hlq32, rfl⟩ | ⟨eq32, hxq32, hbq32⟩
    · show Ev X _ _ 128 [Vr 166, Vi (f : Int), Vi 1, Vx] [Vi 1] ((SHv st dr rd), (ovl a s (updC (updC (updC cq32 191 (1200 * j + c) (qq32 : Int)) 192 (1200 * j + c) (vq32 : Int)) 166 38 ((c : Int) + 1)))) _
      refine Ev.steps (k := 5) (pc' := 137) (L' := [Vr 166, Vi (f : Int), Vi 1, Vx]) (S' := [Vi 2, Vi (f : Int), Vr 194]) (h' := ((SHv st dr rd), (ovl a s (updC (updC (updC cq32 191 (1200 * j + c) (qq32 : Int)) 192 (1200 * j + c) (vq32 : Int)) 166 38 ((c : Int) + 1))))) (fun _ => rfl) ?_
      refine Ev.iast (c' := (ovl a s (updC (updC (updC (updC cq32 191 (1200 * j + c) (qq32 : Int)) 192 (1200 * j + c) (vq32 : Int)) 166 38 ((c : Int) + 1)) 194 f 2))) rfl (by decide) rfl (by omega) (by omega) (ovl_wm (by decide)) ?_
      refine Ev.fin (k := 2) (r := (some (Vi 1))) (h' := ((SHv st dr rd), (ovl a s (updC (updC (updC (updC cq32 191 (1200 * j + c) (qq32 : Int)) 192 (1200 * j + c) (vq32 : Int)) 166 38 ((c : Int) + 1)) 194 f 2)))) (fun _ => rfl) ?_
      refine ⟨1, _, rfl, Or.inr rfl, rfl, Or.inl ⟨rq32, hxq32, rfl, (((((((KpM.rf : KpM j c om f b b).up (by omega)).fn hoq32.1).up (by omega)).up (by omega)).up (by omega)).up (by omega)), ((((hoq32.2.up (by omega)).up (by omega)).up (by omega)).up (by omega)), ((hoq32.1 166 45 (by omega)).trans e45), ((hoq32.1 166 46 (by omega)).trans e46), Or.inl updC_sm, ?_, ?_, ((hoq32.1 166 48 (by omega)).trans e48)⟩⟩
      · rw [hlq32]; exact codM_u (codM_add rfl rfl) (by omega)
      · rw [hlq32]; rfl
    · show Ev X _ _ 128 [Vr 166, Vi (f : Int), Vi 1, Vx] [Vi 1] ((SHv st dr rd), (ovl a s bq32)) _
      refine Ev.steps (k := 5) (pc' := 137) (L' := [Vr 166, Vi (f : Int), Vi 1, Vx]) (S' := [Vi 2, Vi (f : Int), Vr 194]) (h' := ((SHv st dr rd), (ovl a s bq32))) (fun _ => rfl) ?_
      refine Ev.iast (c' := (ovl a s (updC bq32 194 f 2))) rfl (by decide) rfl (by omega) (by omega) (ovl_wm (by decide)) ?_
      refine Ev.fin (k := 2) (r := (some (Vi 1))) (h' := ((SHv st dr rd), (ovl a s (updC bq32 194 f 2)))) (fun _ => rfl) ?_
      exact ⟨1, _, rfl, Or.inr rfl, rfl, Or.inr ⟨eq32, hxq32, (hbq32.bk ((KpM.rf : KpM j c om f b b).up (by omega))).up (by omega)⟩⟩
theorem m_op_p281 {X : List Int} {d : Nat} {st dr rd : Int} {a s b : C3} {W : TXT} {p : Nat} (hk : TkM W p b) {N : SC} {j : Nat} (hN : NmM N b j) {c om f : Nat} (e38 : b 166 38 = (c : Int)) (e48 : b 166 48 = (om : Int)) (e45 : b 166 45 = ((f + 1 : Nat) : Int)) (e46 : b 166 46 = (f : Int)) (hf : f ≤ 8) (hc : c < 1200) (ho : om < 500) {K : Nat} (hK : f + K = 8) (hct : tC W p = 281) : Ev X (d + 4) 171 0 [Vr 166, Vx, Vx, Vx] [] (SHv st dr rd, ovl a s b) (fun rr hh => ∃ (v : Int) (b' : C3), rr = some (Vi v) ∧ (v = 0 ∨ v = 1) ∧ hh = (SHv st dr rd, ovl a s b') ∧ ResC (bnX (gotT W p) (fun p1 => opnT W 40 K p1)) (fun r => v = 0 ∧ OpM W om f 3 r (updC b 195 f 0) b' ∧ b' 196 (f + 1) = 20) (fun e => BkM W j c b e b')) := by
  have hj := hN.1
  refine m_opP e45 hf (fun g0 => ?_) (fun g0 g1 => ?_)
  · refine Ev.steps (k := 7) (pc' := 66) (L' := [Vr 166, Vi (f : Int), Vi 0, Vx]) (S' := [Vi 0, Vi (f : Int), Vr 195]) (h' := ((SHv st dr rd), (ovl a s b))) (fun _ => rfl) ?_
    refine Ev.zast (c' := (ovl a s (updC b 195 f 0))) rfl (by decide) rfl (by omega) (by omega) (by omega) (ovl_wm (by decide)) ?_
    refine Ev.call (k := 8) (pc1 := 143) (L1 := [Vr 166, Vi (f : Int), Vi 0, Vx]) (S1 := [Vi 40, Vr 166]) (h1 := ((SHv st dr rd), (ovl a s (updC b 195 f 0)))) (m' := 174) (as := [Vr 166, Vi 40]) (S' := []) (L0 := [Vr 166, Vi 40]) (fun _ => rfl) rfl rfl rfl rfl rfl rfl (k_isSign (b := (updC b 195 f 0)) (hk.up (by omega)) 40 (by decide)) (fun r h' hq => ?_)
    obtain ⟨rfl, rfl⟩ := hq
    rw [if_neg (by omega)]
    show Ev X _ _ 146 [Vr 166, Vi (f : Int), Vi 0, Vx] [Vi 0] ((SHv st dr rd), (ovl a s (updC b 195 f 0))) _
    refine Ev.call (k := 3) (pc1 := 160) (L1 := [Vr 166, Vi (f : Int), Vi 0, Vx]) (S1 := [Vl 7170414, Vr 166]) (h1 := ((SHv st dr rd), (ovl a s (updC b 195 f 0)))) (m' := 162) (as := [Vr 166, Vl 7170414]) (S' := []) (L0 := [Vr 166, Vl 7170414, Vx]) (fun _ => rfl) rfl rfl rfl rfl rfl rfl (k_isWord (b := (updC b 195 f 0)) (hk.up (by omega)) 25 (by decide) 7170414 (by decide)) (fun r h' hq => ?_)
    obtain ⟨rfl, rfl⟩ := hq
    rw [if_pos (by omega)]
    show Ev X _ _ 163 [Vr 166, Vi (f : Int), Vi 0, Vx] [Vi 1] ((SHv st dr rd), (ovl a s (updC b 195 f 0))) _
    refine Ev.call (k := 3) (pc1 := 180) (L1 := [Vr 166, Vi (f : Int), Vi 0, Vx]) (S1 := [Vl 7170414, Vr 166]) (h1 := ((SHv st dr rd), (ovl a s (updC b 195 f 0)))) (m' := 162) (as := [Vr 166, Vl 7170414]) (S' := []) (L0 := [Vr 166, Vl 7170414, Vx]) (fun _ => rfl) rfl rfl rfl rfl rfl rfl (k_isWord (b := (updC b 195 f 0)) (hk.up (by omega)) 25 (by decide) 7170414 (by decide)) (fun r h' hq => ?_)
    obtain ⟨rfl, rfl⟩ := hq
    rw [if_pos (by omega)]
    show Ev X _ _ 183 [Vr 166, Vi (f : Int), Vi 0, Vx] [Vi 1] ((SHv st dr rd), (ovl a s (updC b 195 f 0))) _
    refine Ev.call (k := 5) (pc1 := 195) (L1 := [Vr 166, Vi (f : Int), Vi 0, Vi 20]) (S1 := [Vr 166]) (h1 := ((SHv st dr rd), (ovl a s (updC b 195 f 0)))) (m' := 157) (as := [Vr 166]) (S' := []) (L0 := [Vr 166, Vx, Vx, Vx, Vx, Vx]) (fun _ => rfl) rfl rfl rfl rfl rfl rfl (m_nextT (b := (updC b 195 f 0)) (hk.up (by omega))) (fun r h' hq => ?_)
    obtain ⟨rfl, bq33, rfl, hq⟩ := hq
    rcases hq with ⟨pq33, hxq33, hoq33⟩ | ⟨eq33, hxq33, hbq33⟩
    · show Ev X _ _ 198 [Vr 166, Vi (f : Int), Vi 0, Vi 20] [] ((SHv st dr rd), (ovl a s bq33)) _
      refine Ev.call (k := 2) (pc1 := 201) (L1 := [Vr 166, Vi (f : Int), Vi 0, Vi 20]) (S1 := [Vi 40, Vr 166]) (h1 := ((SHv st dr rd), (ovl a s bq33))) (m' := 174) (as := [Vr 166, Vi 40]) (S' := []) (L0 := [Vr 166, Vi 40]) (fun _ => rfl) rfl rfl rfl rfl rfl rfl (k_isSign (b := bq33) hoq33.2 40 (by decide)) (fun r h' hq => ?_)
      obtain ⟨rfl, rfl⟩ := hq
      by_cases c201 : tC W pq33 = 40
      · rw [if_pos c201]
        show Ev X _ _ 204 [Vr 166, Vi (f : Int), Vi 0, Vi 20] [Vi 1] ((SHv st dr rd), (ovl a s bq33)) _
        refine Ev.call (k := 3) (pc1 := 218) (L1 := [Vr 166, Vi (f : Int), Vi 0, Vi 20]) (S1 := [Vi 3, Vr 166]) (h1 := ((SHv st dr rd), (ovl a s bq33))) (m' := 175) (as := [Vr 166, Vi 3]) (S' := []) (L0 := [Vr 166, Vi 3]) (fun _ => rfl) rfl rfl rfl rfl rfl rfl (m_opens (b := bq33) hoq33.2 j c ((hoq33.1 166 48 (by omega)).trans e48) ((hoq33.1 166 45 (by omega)).trans e45) ((hoq33.1 166 46 (by omega)).trans e46) hf 3) (fun r h' hq => ?_)
        obtain ⟨rfl, bq34, rfl, hq⟩ := hq
        rcases hq with ⟨pq34, hxq34, hoq34⟩ | ⟨eq34, hxq34, hbq34⟩
        · show Ev X _ _ 221 [Vr 166, Vi (f : Int), Vi 0, Vi 20] [] ((SHv st dr rd), (ovl a s bq34)) _
          refine Ev.steps (k := 2) (pc' := 225) (L' := [Vr 166, Vi (f : Int), Vi 0, Vi 20]) (S' := [Vi (bq34 166 8)]) (h' := ((SHv st dr rd), (ovl a s bq34))) (fun _ => rfl) ?_
          rw [hoq34.2.1.2.1]
          refine Ev.steps (k := 5) (pc' := 236) (L' := [Vr 166, Vi (f : Int), Vi 0, Vi 20]) (S' := [Vi (bq34 166 45), Vr 196]) (h' := ((SHv st dr rd), (ovl a s bq34))) (fun _ => rfl) ?_
          rw [hoq34.2.2.1]
          refine Ev.steps (k := 2) (pc' := 238) (L' := [Vr 166, Vi (f : Int), Vi 0, Vi 20]) (S' := [Vi (w32 (((f + 2 : Nat) : Int) - 1)), Vr 196]) (h' := ((SHv st dr rd), (ovl a s bq34))) (fun _ => rfl) ?_
          rw [show (w32 (((f + 2 : Nat) : Int) - 1)) = ((f + 1 : Nat) : Int) from (by unfold w32; omega)]
          refine Ev.steps (k := 1) (pc' := 239) (L' := [Vr 166, Vi (f : Int), Vi 0, Vi 20]) (S' := [Vi 20, Vi ((f + 1 : Nat) : Int), Vr 196]) (h' := ((SHv st dr rd), (ovl a s bq34))) (fun _ => rfl) ?_
          refine Ev.iast (c' := (ovl a s (updC bq34 196 ((f + 1)) 20))) rfl (by decide) rfl (by omega) (by omega) (ovl_wm (by decide)) ?_
          refine Ev.fin (k := 2) (r := (some (Vi 0))) (h' := ((SHv st dr rd), (ovl a s (updC bq34 196 ((f + 1)) 20)))) (fun _ => rfl) ?_
          refine ⟨0, _, rfl, Or.inl rfl, rfl, Or.inl ⟨pq34, ?_, rfl, ?_, updC_sm⟩⟩
          · rw [hxq33, bnX_o]
            unfold opnT
            rw [if_neg (by omega)]
            by_cases h8 : f = 8
            · rw [if_pos h8] at hxq34; cases hxq34
            · rw [if_neg h8] at hxq34; rw [if_neg (by omega)]; exact hxq34
          · exact (hoq34.pr).fn hoq33.1
        · show Ev X _ _ 221 [Vr 166, Vi (f : Int), Vi 0, Vi 20] [] ((SHv st dr rd), (ovl a s bq34)) _
          refine Ev.steps (k := 2) (pc' := 225) (L' := [Vr 166, Vi (f : Int), Vi 0, Vi 20]) (S' := [Vi (bq34 166 8)]) (h' := ((SHv st dr rd), (ovl a s bq34))) (fun _ => rfl) ?_
          rw [hbq34.2.2.2.1]
          refine Ev.ite (P := eq34.1 ≠ 0) (k := 1) (a := 240) (b := 228) (L' := [Vr 166, Vi (f : Int), Vi 0, Vi 20]) (S' := []) (h' := ((SHv st dr rd), (ovl a s bq34))) (fun _ => rfl) (fun b225 => ?_) (fun b225 => ?_)
          · refine Ev.fin (k := 2) (r := (some (Vi 0))) (h' := ((SHv st dr rd), (ovl a s bq34))) (fun _ => rfl) ?_
            refine ⟨0, _, rfl, Or.inl rfl, rfl, Or.inr ⟨eq34, ?_, ((hbq34.wk ((((KpM.rf : KpM j c om f b b).up (by omega)).fn hoq33.1)).fr (Nat.le_refl _)))⟩⟩
            rw [hxq33, bnX_o]
            unfold opnT
            rw [if_neg (by omega)]
            by_cases h8 : f = 8
            · rw [if_pos h8] at hxq34; rw [if_pos (by omega)]; exact hxq34
            · rw [if_neg h8] at hxq34; rw [if_neg (by omega)]; exact hxq34
          · have := hbq34.2.2.1; omega
      · rw [if_neg c201]
        show Ev X _ _ 204 [Vr 166, Vi (f : Int), Vi 0, Vi 20] [Vi 0] ((SHv st dr rd), (ovl a s bq33)) _
        refine Ev.steps (k := 5) (pc' := 213) (L' := [Vr 166, Vi (f : Int), Vi 0, Vi 20]) (S' := [Vi (bq33 166 4), Vi 1, Vr 166]) (h' := ((SHv st dr rd), (ovl a s bq33))) (fun _ => rfl) ?_
        rw [hoq33.2.2.2.2.2.1]
        refine Ev.call (k := 0) (pc1 := 213) (L1 := [Vr 166, Vi (f : Int), Vi 0, Vi 20]) (S1 := [Vi ((tA W pq33 : Nat) : Int), Vi 1, Vr 166]) (h1 := ((SHv st dr rd), (ovl a s bq33))) (m' := 160) (as := [Vr 166, Vi 1, Vi ((tA W pq33 : Nat) : Int)]) (S' := []) (L0 := [Vr 166, Vi 1, Vi ((tA W pq33 : Nat) : Int)]) (fun _ => rfl) rfl rfl rfl rfl rfl rfl (m_bl (b := bq33) hoq33.2 1 (by decide)) (fun r h' hq => ?_)
        obtain ⟨rfl, bq35, rfl, hbq35⟩ := hq
        show Ev X _ _ 216 [Vr 166, Vi (f : Int), Vi 0, Vi 20] [] ((SHv st dr rd), (ovl a s bq35)) _
        refine Ev.call (k := 2) (pc1 := 218) (L1 := [Vr 166, Vi (f : Int), Vi 0, Vi 20]) (S1 := [Vi 3, Vr 166]) (h1 := ((SHv st dr rd), (ovl a s bq35))) (m' := 175) (as := [Vr 166, Vi 3]) (S' := []) (L0 := [Vr 166, Vi 3]) (fun _ => rfl) rfl rfl rfl rfl rfl rfl (m_opens_br (b := bq35) hbq35.2.2 3) (fun r h' hq => ?_)
        obtain ⟨rfl, rfl⟩ := hq
        show Ev X _ _ 221 [Vr 166, Vi (f : Int), Vi 0, Vi 20] [] ((SHv st dr rd), (ovl a s bq35)) _
        refine Ev.steps (k := 2) (pc' := 225) (L' := [Vr 166, Vi (f : Int), Vi 0, Vi 20]) (S' := [Vi (bq35 166 8)]) (h' := ((SHv st dr rd), (ovl a s bq35))) (fun _ => rfl) ?_
        rw [hbq35.2.2.2.1]
        refine Ev.ite (P := (fltT W 1 pq33).1 ≠ 0) (k := 1) (a := 240) (b := 228) (L' := [Vr 166, Vi (f : Int), Vi 0, Vi 20]) (S' := []) (h' := ((SHv st dr rd), (ovl a s bq35))) (fun _ => rfl) (fun b225 => ?_) (fun b225 => ?_)
        · refine Ev.fin (k := 2) (r := (some (Vi 0))) (h' := ((SHv st dr rd), (ovl a s bq35))) (fun _ => rfl) ?_
          refine ⟨0, _, rfl, Or.inl rfl, rfl, Or.inr ⟨(fltT W 1 pq33), ?_, (hbq35.bk (((KpM.rf : KpM j c om f b b).up (by omega)).fn hoq33.1))⟩⟩
          rw [hxq33, bnX_o]
          unfold opnT
          rw [if_pos (by omega)]
        · have := hbq35.2.2.1; omega
    · show Ev X _ _ 198 [Vr 166, Vi (f : Int), Vi 0, Vi 20] [] ((SHv st dr rd), (ovl a s bq33)) _
      refine Ev.call (k := 2) (pc1 := 201) (L1 := [Vr 166, Vi (f : Int), Vi 0, Vi 20]) (S1 := [Vi 40, Vr 166]) (h1 := ((SHv st dr rd), (ovl a s bq33))) (m' := 174) (as := [Vr 166, Vi 40]) (S' := []) (L0 := [Vr 166, Vi 40]) (fun _ => rfl) rfl rfl rfl rfl rfl rfl (m_isSign (b := bq33) 40) (fun r h' hq => ?_)
      obtain ⟨rfl, rfl⟩ := hq
      by_cases c201 : bq33 166 3 = 3 ∧ bq33 166 6 = 40
      · rw [if_pos c201]
        show Ev X _ _ 204 [Vr 166, Vi (f : Int), Vi 0, Vi 20] [Vi 1] ((SHv st dr rd), (ovl a s bq33)) _
        refine Ev.call (k := 3) (pc1 := 218) (L1 := [Vr 166, Vi (f : Int), Vi 0, Vi 20]) (S1 := [Vi 3, Vr 166]) (h1 := ((SHv st dr rd), (ovl a s bq33))) (m' := 175) (as := [Vr 166, Vi 3]) (S' := []) (L0 := [Vr 166, Vi 3]) (fun _ => rfl) rfl rfl rfl rfl rfl rfl (m_opens_br (b := bq33) hbq33.2.2 3) (fun r h' hq => ?_)
        obtain ⟨rfl, rfl⟩ := hq
        show Ev X _ _ 221 [Vr 166, Vi (f : Int), Vi 0, Vi 20] [] ((SHv st dr rd), (ovl a s bq33)) _
        refine Ev.steps (k := 2) (pc' := 225) (L' := [Vr 166, Vi (f : Int), Vi 0, Vi 20]) (S' := [Vi (bq33 166 8)]) (h' := ((SHv st dr rd), (ovl a s bq33))) (fun _ => rfl) ?_
        rw [hbq33.2.2.2.1]
        refine Ev.ite (P := eq33.1 ≠ 0) (k := 1) (a := 240) (b := 228) (L' := [Vr 166, Vi (f : Int), Vi 0, Vi 20]) (S' := []) (h' := ((SHv st dr rd), (ovl a s bq33))) (fun _ => rfl) (fun b225 => ?_) (fun b225 => ?_)
        · refine Ev.fin (k := 2) (r := (some (Vi 0))) (h' := ((SHv st dr rd), (ovl a s bq33))) (fun _ => rfl) ?_
          refine ⟨0, _, rfl, Or.inl rfl, rfl, Or.inr ⟨eq33, ?_, (hbq33.bk ((KpM.rf : KpM j c om f b b).up (by omega)))⟩⟩
          rw [hxq33, bnX_e]
        · have := hbq33.2.2.1; omega
      · rw [if_neg c201]
        show Ev X _ _ 204 [Vr 166, Vi (f : Int), Vi 0, Vi 20] [Vi 0] ((SHv st dr rd), (ovl a s bq33)) _
        refine Ev.call (k := 5) (pc1 := 213) (L1 := [Vr 166, Vi (f : Int), Vi 0, Vi 20]) (S1 := [Vi (bq33 166 4), Vi 1, Vr 166]) (h1 := ((SHv st dr rd), (ovl a s bq33))) (m' := 160) (as := [Vr 166, Vi 1, Vi (bq33 166 4)]) (S' := []) (L0 := [Vr 166, Vi 1, Vi (bq33 166 4)]) (fun _ => rfl) rfl rfl rfl rfl rfl rfl (m_bl_br (b := bq33) hbq33.2.2 1 (bq33 166 4)) (fun r h' hq => ?_)
        obtain ⟨rfl, rfl⟩ := hq
        show Ev X _ _ 216 [Vr 166, Vi (f : Int), Vi 0, Vi 20] [] ((SHv st dr rd), (ovl a s bq33)) _
        refine Ev.call (k := 2) (pc1 := 218) (L1 := [Vr 166, Vi (f : Int), Vi 0, Vi 20]) (S1 := [Vi 3, Vr 166]) (h1 := ((SHv st dr rd), (ovl a s bq33))) (m' := 175) (as := [Vr 166, Vi 3]) (S' := []) (L0 := [Vr 166, Vi 3]) (fun _ => rfl) rfl rfl rfl rfl rfl rfl (m_opens_br (b := bq33) hbq33.2.2 3) (fun r h' hq => ?_)
        obtain ⟨rfl, rfl⟩ := hq
        show Ev X _ _ 221 [Vr 166, Vi (f : Int), Vi 0, Vi 20] [] ((SHv st dr rd), (ovl a s bq33)) _
        refine Ev.steps (k := 2) (pc' := 225) (L' := [Vr 166, Vi (f : Int), Vi 0, Vi 20]) (S' := [Vi (bq33 166 8)]) (h' := ((SHv st dr rd), (ovl a s bq33))) (fun _ => rfl) ?_
        rw [hbq33.2.2.2.1]
        refine Ev.ite (P := eq33.1 ≠ 0) (k := 1) (a := 240) (b := 228) (L' := [Vr 166, Vi (f : Int), Vi 0, Vi 20]) (S' := []) (h' := ((SHv st dr rd), (ovl a s bq33))) (fun _ => rfl) (fun b225 => ?_) (fun b225 => ?_)
        · refine Ev.fin (k := 2) (r := (some (Vi 0))) (h' := ((SHv st dr rd), (ovl a s bq33))) (fun _ => rfl) ?_
          refine ⟨0, _, rfl, Or.inl rfl, rfl, Or.inr ⟨eq33, ?_, (hbq33.bk ((KpM.rf : KpM j c om f b b).up (by omega)))⟩⟩
          rw [hxq33, bnX_e]
        · have := hbq33.2.2.1; omega
  · refine Ev.call (k := 5) (pc1 := 42) (L1 := [Vr 166, Vi (f : Int), Vi 1, Vx]) (S1 := [Vl 7237492, Vr 166]) (h1 := ((SHv st dr rd), (ovl a s b))) (m' := 162) (as := [Vr 166, Vl 7237492]) (S' := []) (L0 := [Vr 166, Vl 7237492, Vx]) (fun _ => rfl) rfl rfl rfl rfl rfl rfl (k_isWord (b := b) hk 15 (by decide) 7237492 (by decide)) (fun r h' hq => ?_)
    obtain ⟨rfl, rfl⟩ := hq
    rw [if_neg (by omega)]
    show Ev X _ _ 45 [Vr 166, Vi (f : Int), Vi 1, Vx] [Vi 0] ((SHv st dr rd), (ovl a s b)) _
    refine Ev.steps (k := 5) (pc' := 66) (L' := [Vr 166, Vi (f : Int), Vi 1, Vx]) (S' := [Vi 0, Vi (f : Int), Vr 195]) (h' := ((SHv st dr rd), (ovl a s b))) (fun _ => rfl) ?_
    refine Ev.zast (c' := (ovl a s (updC b 195 f 0))) rfl (by decide) rfl (by omega) (by omega) (by omega) (ovl_wm (by decide)) ?_
    refine Ev.call (k := 4) (pc1 := 74) (L1 := [Vr 166, Vi (f : Int), Vi 1, Vx]) (S1 := [Vi 91, Vr 166]) (h1 := ((SHv st dr rd), (ovl a s (updC b 195 f 0)))) (m' := 174) (as := [Vr 166, Vi 91]) (S' := []) (L0 := [Vr 166, Vi 91]) (fun _ => rfl) rfl rfl rfl rfl rfl rfl (k_isSign (b := (updC b 195 f 0)) (hk.up (by omega)) 91 (by decide)) (fun r h' hq => ?_)
    obtain ⟨rfl, rfl⟩ := hq
    rw [if_neg (by omega)]
    show Ev X _ _ 77 [Vr 166, Vi (f : Int), Vi 1, Vx] [Vi 0] ((SHv st dr rd), (ovl a s (updC b 195 f 0))) _
    refine Ev.call (k := 5) (pc1 := 95) (L1 := [Vr 166, Vi (f : Int), Vi 1, Vx]) (S1 := [Vl 6384748, Vr 166]) (h1 := ((SHv st dr rd), (ovl a s (updC b 195 f 0)))) (m' := 162) (as := [Vr 166, Vl 6384748]) (S' := []) (L0 := [Vr 166, Vl 6384748, Vx]) (fun _ => rfl) rfl rfl rfl rfl rfl rfl (k_isWord (b := (updC b 195 f 0)) (hk.up (by omega)) 16 (by decide) 6384748 (by decide)) (fun r h' hq => ?_)
    obtain ⟨rfl, rfl⟩ := hq
    rw [if_neg (by omega)]
    show Ev X _ _ 98 [Vr 166, Vi (f : Int), Vi 1, Vx] [Vi 0] ((SHv st dr rd), (ovl a s (updC b 195 f 0))) _
    refine Ev.call (k := 4) (pc1 := 125) (L1 := [Vr 166, Vi (f : Int), Vi 1, Vx]) (S1 := [Vr 166]) (h1 := ((SHv st dr rd), (ovl a s (updC b 195 f 0)))) (m' := 177) (as := [Vr 166]) (S' := []) (L0 := [Vr 166, Vx, Vx, Vx]) (fun _ => rfl) rfl rfl rfl rfl rfl rfl (m_fact_no (b := (updC b 195 f 0)) (hk.up (by omega)) (by omega)) (fun r h' hq => ?_)
    obtain ⟨rfl, rfl⟩ := hq
    show Ev X _ _ 128 [Vr 166, Vi (f : Int), Vi 1, Vx] [Vi 0] ((SHv st dr rd), (ovl a s (updC b 195 f 0))) _
    refine Ev.call (k := 3) (pc1 := 143) (L1 := [Vr 166, Vi (f : Int), Vi 1, Vx]) (S1 := [Vi 40, Vr 166]) (h1 := ((SHv st dr rd), (ovl a s (updC b 195 f 0)))) (m' := 174) (as := [Vr 166, Vi 40]) (S' := []) (L0 := [Vr 166, Vi 40]) (fun _ => rfl) rfl rfl rfl rfl rfl rfl (k_isSign (b := (updC b 195 f 0)) (hk.up (by omega)) 40 (by decide)) (fun r h' hq => ?_)
    obtain ⟨rfl, rfl⟩ := hq
    rw [if_neg (by omega)]
    show Ev X _ _ 146 [Vr 166, Vi (f : Int), Vi 1, Vx] [Vi 0] ((SHv st dr rd), (ovl a s (updC b 195 f 0))) _
    refine Ev.call (k := 3) (pc1 := 160) (L1 := [Vr 166, Vi (f : Int), Vi 1, Vx]) (S1 := [Vl 7170414, Vr 166]) (h1 := ((SHv st dr rd), (ovl a s (updC b 195 f 0)))) (m' := 162) (as := [Vr 166, Vl 7170414]) (S' := []) (L0 := [Vr 166, Vl 7170414, Vx]) (fun _ => rfl) rfl rfl rfl rfl rfl rfl (k_isWord (b := (updC b 195 f 0)) (hk.up (by omega)) 25 (by decide) 7170414 (by decide)) (fun r h' hq => ?_)
    obtain ⟨rfl, rfl⟩ := hq
    rw [if_pos (by omega)]
    show Ev X _ _ 163 [Vr 166, Vi (f : Int), Vi 1, Vx] [Vi 1] ((SHv st dr rd), (ovl a s (updC b 195 f 0))) _
    refine Ev.call (k := 3) (pc1 := 180) (L1 := [Vr 166, Vi (f : Int), Vi 1, Vx]) (S1 := [Vl 7170414, Vr 166]) (h1 := ((SHv st dr rd), (ovl a s (updC b 195 f 0)))) (m' := 162) (as := [Vr 166, Vl 7170414]) (S' := []) (L0 := [Vr 166, Vl 7170414, Vx]) (fun _ => rfl) rfl rfl rfl rfl rfl rfl (k_isWord (b := (updC b 195 f 0)) (hk.up (by omega)) 25 (by decide) 7170414 (by decide)) (fun r h' hq => ?_)
    obtain ⟨rfl, rfl⟩ := hq
    rw [if_pos (by omega)]
    show Ev X _ _ 183 [Vr 166, Vi (f : Int), Vi 1, Vx] [Vi 1] ((SHv st dr rd), (ovl a s (updC b 195 f 0))) _
    refine Ev.call (k := 5) (pc1 := 195) (L1 := [Vr 166, Vi (f : Int), Vi 1, Vi 20]) (S1 := [Vr 166]) (h1 := ((SHv st dr rd), (ovl a s (updC b 195 f 0)))) (m' := 157) (as := [Vr 166]) (S' := []) (L0 := [Vr 166, Vx, Vx, Vx, Vx, Vx]) (fun _ => rfl) rfl rfl rfl rfl rfl rfl (m_nextT (b := (updC b 195 f 0)) (hk.up (by omega))) (fun r h' hq => ?_)
    obtain ⟨rfl, bq39, rfl, hq⟩ := hq
    rcases hq with ⟨pq39, hxq39, hoq39⟩ | ⟨eq39, hxq39, hbq39⟩
    · show Ev X _ _ 198 [Vr 166, Vi (f : Int), Vi 1, Vi 20] [] ((SHv st dr rd), (ovl a s bq39)) _
      refine Ev.call (k := 2) (pc1 := 201) (L1 := [Vr 166, Vi (f : Int), Vi 1, Vi 20]) (S1 := [Vi 40, Vr 166]) (h1 := ((SHv st dr rd), (ovl a s bq39))) (m' := 174) (as := [Vr 166, Vi 40]) (S' := []) (L0 := [Vr 166, Vi 40]) (fun _ => rfl) rfl rfl rfl rfl rfl rfl (k_isSign (b := bq39) hoq39.2 40 (by decide)) (fun r h' hq => ?_)
      obtain ⟨rfl, rfl⟩ := hq
      by_cases c201 : tC W pq39 = 40
      · rw [if_pos c201]
        show Ev X _ _ 204 [Vr 166, Vi (f : Int), Vi 1, Vi 20] [Vi 1] ((SHv st dr rd), (ovl a s bq39)) _
        refine Ev.call (k := 3) (pc1 := 218) (L1 := [Vr 166, Vi (f : Int), Vi 1, Vi 20]) (S1 := [Vi 3, Vr 166]) (h1 := ((SHv st dr rd), (ovl a s bq39))) (m' := 175) (as := [Vr 166, Vi 3]) (S' := []) (L0 := [Vr 166, Vi 3]) (fun _ => rfl) rfl rfl rfl rfl rfl rfl (m_opens (b := bq39) hoq39.2 j c ((hoq39.1 166 48 (by omega)).trans e48) ((hoq39.1 166 45 (by omega)).trans e45) ((hoq39.1 166 46 (by omega)).trans e46) hf 3) (fun r h' hq => ?_)
        obtain ⟨rfl, bq40, rfl, hq⟩ := hq
        rcases hq with ⟨pq40, hxq40, hoq40⟩ | ⟨eq40, hxq40, hbq40⟩
        · show Ev X _ _ 221 [Vr 166, Vi (f : Int), Vi 1, Vi 20] [] ((SHv st dr rd), (ovl a s bq40)) _
          refine Ev.steps (k := 2) (pc' := 225) (L' := [Vr 166, Vi (f : Int), Vi 1, Vi 20]) (S' := [Vi (bq40 166 8)]) (h' := ((SHv st dr rd), (ovl a s bq40))) (fun _ => rfl) ?_
          rw [hoq40.2.1.2.1]
          refine Ev.steps (k := 5) (pc' := 236) (L' := [Vr 166, Vi (f : Int), Vi 1, Vi 20]) (S' := [Vi (bq40 166 45), Vr 196]) (h' := ((SHv st dr rd), (ovl a s bq40))) (fun _ => rfl) ?_
          rw [hoq40.2.2.1]
          refine Ev.steps (k := 2) (pc' := 238) (L' := [Vr 166, Vi (f : Int), Vi 1, Vi 20]) (S' := [Vi (w32 (((f + 2 : Nat) : Int) - 1)), Vr 196]) (h' := ((SHv st dr rd), (ovl a s bq40))) (fun _ => rfl) ?_
          rw [show (w32 (((f + 2 : Nat) : Int) - 1)) = ((f + 1 : Nat) : Int) from (by unfold w32; omega)]
          refine Ev.steps (k := 1) (pc' := 239) (L' := [Vr 166, Vi (f : Int), Vi 1, Vi 20]) (S' := [Vi 20, Vi ((f + 1 : Nat) : Int), Vr 196]) (h' := ((SHv st dr rd), (ovl a s bq40))) (fun _ => rfl) ?_
          refine Ev.iast (c' := (ovl a s (updC bq40 196 ((f + 1)) 20))) rfl (by decide) rfl (by omega) (by omega) (ovl_wm (by decide)) ?_
          refine Ev.fin (k := 2) (r := (some (Vi 0))) (h' := ((SHv st dr rd), (ovl a s (updC bq40 196 ((f + 1)) 20)))) (fun _ => rfl) ?_
          refine ⟨0, _, rfl, Or.inl rfl, rfl, Or.inl ⟨pq40, ?_, rfl, ?_, updC_sm⟩⟩
          · rw [hxq39, bnX_o]
            unfold opnT
            rw [if_neg (by omega)]
            by_cases h8 : f = 8
            · rw [if_pos h8] at hxq40; cases hxq40
            · rw [if_neg h8] at hxq40; rw [if_neg (by omega)]; exact hxq40
          · exact (hoq40.pr).fn hoq39.1
        · show Ev X _ _ 221 [Vr 166, Vi (f : Int), Vi 1, Vi 20] [] ((SHv st dr rd), (ovl a s bq40)) _
          refine Ev.steps (k := 2) (pc' := 225) (L' := [Vr 166, Vi (f : Int), Vi 1, Vi 20]) (S' := [Vi (bq40 166 8)]) (h' := ((SHv st dr rd), (ovl a s bq40))) (fun _ => rfl) ?_
          rw [hbq40.2.2.2.1]
          refine Ev.ite (P := eq40.1 ≠ 0) (k := 1) (a := 240) (b := 228) (L' := [Vr 166, Vi (f : Int), Vi 1, Vi 20]) (S' := []) (h' := ((SHv st dr rd), (ovl a s bq40))) (fun _ => rfl) (fun b225 => ?_) (fun b225 => ?_)
          · refine Ev.fin (k := 2) (r := (some (Vi 0))) (h' := ((SHv st dr rd), (ovl a s bq40))) (fun _ => rfl) ?_
            refine ⟨0, _, rfl, Or.inl rfl, rfl, Or.inr ⟨eq40, ?_, ((hbq40.wk ((((KpM.rf : KpM j c om f b b).up (by omega)).fn hoq39.1)).fr (Nat.le_refl _)))⟩⟩
            rw [hxq39, bnX_o]
            unfold opnT
            rw [if_neg (by omega)]
            by_cases h8 : f = 8
            · rw [if_pos h8] at hxq40; rw [if_pos (by omega)]; exact hxq40
            · rw [if_neg h8] at hxq40; rw [if_neg (by omega)]; exact hxq40
          · have := hbq40.2.2.1; omega
      · rw [if_neg c201]
        show Ev X _ _ 204 [Vr 166, Vi (f : Int), Vi 1, Vi 20] [Vi 0] ((SHv st dr rd), (ovl a s bq39)) _
        refine Ev.steps (k := 5) (pc' := 213) (L' := [Vr 166, Vi (f : Int), Vi 1, Vi 20]) (S' := [Vi (bq39 166 4), Vi 1, Vr 166]) (h' := ((SHv st dr rd), (ovl a s bq39))) (fun _ => rfl) ?_
        rw [hoq39.2.2.2.2.2.1]
        refine Ev.call (k := 0) (pc1 := 213) (L1 := [Vr 166, Vi (f : Int), Vi 1, Vi 20]) (S1 := [Vi ((tA W pq39 : Nat) : Int), Vi 1, Vr 166]) (h1 := ((SHv st dr rd), (ovl a s bq39))) (m' := 160) (as := [Vr 166, Vi 1, Vi ((tA W pq39 : Nat) : Int)]) (S' := []) (L0 := [Vr 166, Vi 1, Vi ((tA W pq39 : Nat) : Int)]) (fun _ => rfl) rfl rfl rfl rfl rfl rfl (m_bl (b := bq39) hoq39.2 1 (by decide)) (fun r h' hq => ?_)
        obtain ⟨rfl, bq41, rfl, hbq41⟩ := hq
        show Ev X _ _ 216 [Vr 166, Vi (f : Int), Vi 1, Vi 20] [] ((SHv st dr rd), (ovl a s bq41)) _
        refine Ev.call (k := 2) (pc1 := 218) (L1 := [Vr 166, Vi (f : Int), Vi 1, Vi 20]) (S1 := [Vi 3, Vr 166]) (h1 := ((SHv st dr rd), (ovl a s bq41))) (m' := 175) (as := [Vr 166, Vi 3]) (S' := []) (L0 := [Vr 166, Vi 3]) (fun _ => rfl) rfl rfl rfl rfl rfl rfl (m_opens_br (b := bq41) hbq41.2.2 3) (fun r h' hq => ?_)
        obtain ⟨rfl, rfl⟩ := hq
        show Ev X _ _ 221 [Vr 166, Vi (f : Int), Vi 1, Vi 20] [] ((SHv st dr rd), (ovl a s bq41)) _
        refine Ev.steps (k := 2) (pc' := 225) (L' := [Vr 166, Vi (f : Int), Vi 1, Vi 20]) (S' := [Vi (bq41 166 8)]) (h' := ((SHv st dr rd), (ovl a s bq41))) (fun _ => rfl) ?_
        rw [hbq41.2.2.2.1]
        refine Ev.ite (P := (fltT W 1 pq39).1 ≠ 0) (k := 1) (a := 240) (b := 228) (L' := [Vr 166, Vi (f : Int), Vi 1, Vi 20]) (S' := []) (h' := ((SHv st dr rd), (ovl a s bq41))) (fun _ => rfl) (fun b225 => ?_) (fun b225 => ?_)
        · refine Ev.fin (k := 2) (r := (some (Vi 0))) (h' := ((SHv st dr rd), (ovl a s bq41))) (fun _ => rfl) ?_
          refine ⟨0, _, rfl, Or.inl rfl, rfl, Or.inr ⟨(fltT W 1 pq39), ?_, (hbq41.bk (((KpM.rf : KpM j c om f b b).up (by omega)).fn hoq39.1))⟩⟩
          rw [hxq39, bnX_o]
          unfold opnT
          rw [if_pos (by omega)]
        · have := hbq41.2.2.1; omega
    · show Ev X _ _ 198 [Vr 166, Vi (f : Int), Vi 1, Vi 20] [] ((SHv st dr rd), (ovl a s bq39)) _
      refine Ev.call (k := 2) (pc1 := 201) (L1 := [Vr 166, Vi (f : Int), Vi 1, Vi 20]) (S1 := [Vi 40, Vr 166]) (h1 := ((SHv st dr rd), (ovl a s bq39))) (m' := 174) (as := [Vr 166, Vi 40]) (S' := []) (L0 := [Vr 166, Vi 40]) (fun _ => rfl) rfl rfl rfl rfl rfl rfl (m_isSign (b := bq39) 40) (fun r h' hq => ?_)
      obtain ⟨rfl, rfl⟩ := hq
      by_cases c201 : bq39 166 3 = 3 ∧ bq39 166 6 = 40
      · rw [if_pos c201]
        show Ev X _ _ 204 [Vr 166, Vi (f : Int), Vi 1, Vi 20] [Vi 1] ((SHv st dr rd), (ovl a s bq39)) _
        refine Ev.call (k := 3) (pc1 := 218) (L1 := [Vr 166, Vi (f : Int), Vi 1, Vi 20]) (S1 := [Vi 3, Vr 166]) (h1 := ((SHv st dr rd), (ovl a s bq39))) (m' := 175) (as := [Vr 166, Vi 3]) (S' := []) (L0 := [Vr 166, Vi 3]) (fun _ => rfl) rfl rfl rfl rfl rfl rfl (m_opens_br (b := bq39) hbq39.2.2 3) (fun r h' hq => ?_)
        obtain ⟨rfl, rfl⟩ := hq
        show Ev X _ _ 221 [Vr 166, Vi (f : Int), Vi 1, Vi 20] [] ((SHv st dr rd), (ovl a s bq39)) _
        refine Ev.steps (k := 2) (pc' := 225) (L' := [Vr 166, Vi (f : Int), Vi 1, Vi 20]) (S' := [Vi (bq39 166 8)]) (h' := ((SHv st dr rd), (ovl a s bq39))) (fun _ => rfl) ?_
        rw [hbq39.2.2.2.1]
        refine Ev.ite (P := eq39.1 ≠ 0) (k := 1) (a := 240) (b := 228) (L' := [Vr 166, Vi (f : Int), Vi 1, Vi 20]) (S' := []) (h' := ((SHv st dr rd), (ovl a s bq39))) (fun _ => rfl) (fun b225 => ?_) (fun b225 => ?_)
        · refine Ev.fin (k := 2) (r := (some (Vi 0))) (h' := ((SHv st dr rd), (ovl a s bq39))) (fun _ => rfl) ?_
          refine ⟨0, _, rfl, Or.inl rfl, rfl, Or.inr ⟨eq39, ?_, (hbq39.bk ((KpM.rf : KpM j c om f b b).up (by omega)))⟩⟩
          rw [hxq39, bnX_e]
        · have := hbq39.2.2.1; omega
      · rw [if_neg c201]
        show Ev X _ _ 204 [Vr 166, Vi (f : Int), Vi 1, Vi 20] [Vi 0] ((SHv st dr rd), (ovl a s bq39)) _
        refine Ev.call (k := 5) (pc1 := 213) (L1 := [Vr 166, Vi (f : Int), Vi 1, Vi 20]) (S1 := [Vi (bq39 166 4), Vi 1, Vr 166]) (h1 := ((SHv st dr rd), (ovl a s bq39))) (m' := 160) (as := [Vr 166, Vi 1, Vi (bq39 166 4)]) (S' := []) (L0 := [Vr 166, Vi 1, Vi (bq39 166 4)]) (fun _ => rfl) rfl rfl rfl rfl rfl rfl (m_bl_br (b := bq39) hbq39.2.2 1 (bq39 166 4)) (fun r h' hq => ?_)
        obtain ⟨rfl, rfl⟩ := hq
        show Ev X _ _ 216 [Vr 166, Vi (f : Int), Vi 1, Vi 20] [] ((SHv st dr rd), (ovl a s bq39)) _
        refine Ev.call (k := 2) (pc1 := 218) (L1 := [Vr 166, Vi (f : Int), Vi 1, Vi 20]) (S1 := [Vi 3, Vr 166]) (h1 := ((SHv st dr rd), (ovl a s bq39))) (m' := 175) (as := [Vr 166, Vi 3]) (S' := []) (L0 := [Vr 166, Vi 3]) (fun _ => rfl) rfl rfl rfl rfl rfl rfl (m_opens_br (b := bq39) hbq39.2.2 3) (fun r h' hq => ?_)
        obtain ⟨rfl, rfl⟩ := hq
        show Ev X _ _ 221 [Vr 166, Vi (f : Int), Vi 1, Vi 20] [] ((SHv st dr rd), (ovl a s bq39)) _
        refine Ev.steps (k := 2) (pc' := 225) (L' := [Vr 166, Vi (f : Int), Vi 1, Vi 20]) (S' := [Vi (bq39 166 8)]) (h' := ((SHv st dr rd), (ovl a s bq39))) (fun _ => rfl) ?_
        rw [hbq39.2.2.2.1]
        refine Ev.ite (P := eq39.1 ≠ 0) (k := 1) (a := 240) (b := 228) (L' := [Vr 166, Vi (f : Int), Vi 1, Vi 20]) (S' := []) (h' := ((SHv st dr rd), (ovl a s bq39))) (fun _ => rfl) (fun b225 => ?_) (fun b225 => ?_)
        · refine Ev.fin (k := 2) (r := (some (Vi 0))) (h' := ((SHv st dr rd), (ovl a s bq39))) (fun _ => rfl) ?_
          refine ⟨0, _, rfl, Or.inl rfl, rfl, Or.inr ⟨eq39, ?_, (hbq39.bk ((KpM.rf : KpM j c om f b b).up (by omega)))⟩⟩
          rw [hxq39, bnX_e]
        · have := hbq39.2.2.1; omega
theorem m_op_p282 {X : List Int} {d : Nat} {st dr rd : Int} {a s b : C3} {W : TXT} {p : Nat} (hk : TkM W p b) {N : SC} {j : Nat} (hN : NmM N b j) {c om f : Nat} (e38 : b 166 38 = (c : Int)) (e48 : b 166 48 = (om : Int)) (e45 : b 166 45 = ((f + 1 : Nat) : Int)) (e46 : b 166 46 = (f : Int)) (hf : f ≤ 8) (hc : c < 1200) (ho : om < 500) {K : Nat} (hK : f + K = 8) (hct : tC W p = 282) : Ev X (d + 4) 171 0 [Vr 166, Vx, Vx, Vx] [] (SHv st dr rd, ovl a s b) (fun rr hh => ∃ (v : Int) (b' : C3), rr = some (Vi v) ∧ (v = 0 ∨ v = 1) ∧ hh = (SHv st dr rd, ovl a s b') ∧ ResC (bnX (gotT W p) (fun p1 => opnT W 40 K p1)) (fun r => v = 0 ∧ OpM W om f 3 r (updC b 195 f 0) b' ∧ b' 196 (f + 1) = 21) (fun e => BkM W j c b e b')) := by
  have hj := hN.1
  refine m_opP e45 hf (fun g0 => ?_) (fun g0 g1 => ?_)
  · refine Ev.steps (k := 7) (pc' := 66) (L' := [Vr 166, Vi (f : Int), Vi 0, Vx]) (S' := [Vi 0, Vi (f : Int), Vr 195]) (h' := ((SHv st dr rd), (ovl a s b))) (fun _ => rfl) ?_
    refine Ev.zast (c' := (ovl a s (updC b 195 f 0))) rfl (by decide) rfl (by omega) (by omega) (by omega) (ovl_wm (by decide)) ?_
    refine Ev.call (k := 8) (pc1 := 143) (L1 := [Vr 166, Vi (f : Int), Vi 0, Vx]) (S1 := [Vi 40, Vr 166]) (h1 := ((SHv st dr rd), (ovl a s (updC b 195 f 0)))) (m' := 174) (as := [Vr 166, Vi 40]) (S' := []) (L0 := [Vr 166, Vi 40]) (fun _ => rfl) rfl rfl rfl rfl rfl rfl (k_isSign (b := (updC b 195 f 0)) (hk.up (by omega)) 40 (by decide)) (fun r h' hq => ?_)
    obtain ⟨rfl, rfl⟩ := hq
    rw [if_neg (by omega)]
    show Ev X _ _ 146 [Vr 166, Vi (f : Int), Vi 0, Vx] [Vi 0] ((SHv st dr rd), (ovl a s (updC b 195 f 0))) _
    refine Ev.call (k := 3) (pc1 := 160) (L1 := [Vr 166, Vi (f : Int), Vi 0, Vx]) (S1 := [Vl 7170414, Vr 166]) (h1 := ((SHv st dr rd), (ovl a s (updC b 195 f 0)))) (m' := 162) (as := [Vr 166, Vl 7170414]) (S' := []) (L0 := [Vr 166, Vl 7170414, Vx]) (fun _ => rfl) rfl rfl rfl rfl rfl rfl (k_isWord (b := (updC b 195 f 0)) (hk.up (by omega)) 25 (by decide) 7170414 (by decide)) (fun r h' hq => ?_)
    obtain ⟨rfl, rfl⟩ := hq
    rw [if_neg (by omega)]
    show Ev X _ _ 163 [Vr 166, Vi (f : Int), Vi 0, Vx] [Vi 0] ((SHv st dr rd), (ovl a s (updC b 195 f 0))) _
    refine Ev.call (k := 3) (pc1 := 170) (L1 := [Vr 166, Vi (f : Int), Vi 0, Vx]) (S1 := [Vl 7168376, Vr 166]) (h1 := ((SHv st dr rd), (ovl a s (updC b 195 f 0)))) (m' := 162) (as := [Vr 166, Vl 7168376]) (S' := []) (L0 := [Vr 166, Vl 7168376, Vx]) (fun _ => rfl) rfl rfl rfl rfl rfl rfl (k_isWord (b := (updC b 195 f 0)) (hk.up (by omega)) 26 (by decide) 7168376 (by decide)) (fun r h' hq => ?_)
    obtain ⟨rfl, rfl⟩ := hq
    rw [if_pos (by omega)]
    show Ev X _ _ 173 [Vr 166, Vi (f : Int), Vi 0, Vx] [Vi 1] ((SHv st dr rd), (ovl a s (updC b 195 f 0))) _
    refine Ev.call (k := 3) (pc1 := 180) (L1 := [Vr 166, Vi (f : Int), Vi 0, Vx]) (S1 := [Vl 7170414, Vr 166]) (h1 := ((SHv st dr rd), (ovl a s (updC b 195 f 0)))) (m' := 162) (as := [Vr 166, Vl 7170414]) (S' := []) (L0 := [Vr 166, Vl 7170414, Vx]) (fun _ => rfl) rfl rfl rfl rfl rfl rfl (k_isWord (b := (updC b 195 f 0)) (hk.up (by omega)) 25 (by decide) 7170414 (by decide)) (fun r h' hq => ?_)
    obtain ⟨rfl, rfl⟩ := hq
    rw [if_neg (by omega)]
    show Ev X _ _ 183 [Vr 166, Vi (f : Int), Vi 0, Vx] [Vi 0] ((SHv st dr rd), (ovl a s (updC b 195 f 0))) _
    refine Ev.call (k := 4) (pc1 := 195) (L1 := [Vr 166, Vi (f : Int), Vi 0, Vi 21]) (S1 := [Vr 166]) (h1 := ((SHv st dr rd), (ovl a s (updC b 195 f 0)))) (m' := 157) (as := [Vr 166]) (S' := []) (L0 := [Vr 166, Vx, Vx, Vx, Vx, Vx]) (fun _ => rfl) rfl rfl rfl rfl rfl rfl (m_nextT (b := (updC b 195 f 0)) (hk.up (by omega))) (fun r h' hq => ?_)
    obtain ⟨rfl, bq45, rfl, hq⟩ := hq
    rcases hq with ⟨pq45, hxq45, hoq45⟩ | ⟨eq45, hxq45, hbq45⟩
    · show Ev X _ _ 198 [Vr 166, Vi (f : Int), Vi 0, Vi 21] [] ((SHv st dr rd), (ovl a s bq45)) _
      refine Ev.call (k := 2) (pc1 := 201) (L1 := [Vr 166, Vi (f : Int), Vi 0, Vi 21]) (S1 := [Vi 40, Vr 166]) (h1 := ((SHv st dr rd), (ovl a s bq45))) (m' := 174) (as := [Vr 166, Vi 40]) (S' := []) (L0 := [Vr 166, Vi 40]) (fun _ => rfl) rfl rfl rfl rfl rfl rfl (k_isSign (b := bq45) hoq45.2 40 (by decide)) (fun r h' hq => ?_)
      obtain ⟨rfl, rfl⟩ := hq
      by_cases c201 : tC W pq45 = 40
      · rw [if_pos c201]
        show Ev X _ _ 204 [Vr 166, Vi (f : Int), Vi 0, Vi 21] [Vi 1] ((SHv st dr rd), (ovl a s bq45)) _
        refine Ev.call (k := 3) (pc1 := 218) (L1 := [Vr 166, Vi (f : Int), Vi 0, Vi 21]) (S1 := [Vi 3, Vr 166]) (h1 := ((SHv st dr rd), (ovl a s bq45))) (m' := 175) (as := [Vr 166, Vi 3]) (S' := []) (L0 := [Vr 166, Vi 3]) (fun _ => rfl) rfl rfl rfl rfl rfl rfl (m_opens (b := bq45) hoq45.2 j c ((hoq45.1 166 48 (by omega)).trans e48) ((hoq45.1 166 45 (by omega)).trans e45) ((hoq45.1 166 46 (by omega)).trans e46) hf 3) (fun r h' hq => ?_)
        obtain ⟨rfl, bq46, rfl, hq⟩ := hq
        rcases hq with ⟨pq46, hxq46, hoq46⟩ | ⟨eq46, hxq46, hbq46⟩
        · show Ev X _ _ 221 [Vr 166, Vi (f : Int), Vi 0, Vi 21] [] ((SHv st dr rd), (ovl a s bq46)) _
          refine Ev.steps (k := 2) (pc' := 225) (L' := [Vr 166, Vi (f : Int), Vi 0, Vi 21]) (S' := [Vi (bq46 166 8)]) (h' := ((SHv st dr rd), (ovl a s bq46))) (fun _ => rfl) ?_
          rw [hoq46.2.1.2.1]
          refine Ev.steps (k := 5) (pc' := 236) (L' := [Vr 166, Vi (f : Int), Vi 0, Vi 21]) (S' := [Vi (bq46 166 45), Vr 196]) (h' := ((SHv st dr rd), (ovl a s bq46))) (fun _ => rfl) ?_
          rw [hoq46.2.2.1]
          refine Ev.steps (k := 2) (pc' := 238) (L' := [Vr 166, Vi (f : Int), Vi 0, Vi 21]) (S' := [Vi (w32 (((f + 2 : Nat) : Int) - 1)), Vr 196]) (h' := ((SHv st dr rd), (ovl a s bq46))) (fun _ => rfl) ?_
          rw [show (w32 (((f + 2 : Nat) : Int) - 1)) = ((f + 1 : Nat) : Int) from (by unfold w32; omega)]
          refine Ev.steps (k := 1) (pc' := 239) (L' := [Vr 166, Vi (f : Int), Vi 0, Vi 21]) (S' := [Vi 21, Vi ((f + 1 : Nat) : Int), Vr 196]) (h' := ((SHv st dr rd), (ovl a s bq46))) (fun _ => rfl) ?_
          refine Ev.iast (c' := (ovl a s (updC bq46 196 ((f + 1)) 21))) rfl (by decide) rfl (by omega) (by omega) (ovl_wm (by decide)) ?_
          refine Ev.fin (k := 2) (r := (some (Vi 0))) (h' := ((SHv st dr rd), (ovl a s (updC bq46 196 ((f + 1)) 21)))) (fun _ => rfl) ?_
          refine ⟨0, _, rfl, Or.inl rfl, rfl, Or.inl ⟨pq46, ?_, rfl, ?_, updC_sm⟩⟩
          · rw [hxq45, bnX_o]
            unfold opnT
            rw [if_neg (by omega)]
            by_cases h8 : f = 8
            · rw [if_pos h8] at hxq46; cases hxq46
            · rw [if_neg h8] at hxq46; rw [if_neg (by omega)]; exact hxq46
          · exact (hoq46.pr).fn hoq45.1
        · show Ev X _ _ 221 [Vr 166, Vi (f : Int), Vi 0, Vi 21] [] ((SHv st dr rd), (ovl a s bq46)) _
          refine Ev.steps (k := 2) (pc' := 225) (L' := [Vr 166, Vi (f : Int), Vi 0, Vi 21]) (S' := [Vi (bq46 166 8)]) (h' := ((SHv st dr rd), (ovl a s bq46))) (fun _ => rfl) ?_
          rw [hbq46.2.2.2.1]
          refine Ev.ite (P := eq46.1 ≠ 0) (k := 1) (a := 240) (b := 228) (L' := [Vr 166, Vi (f : Int), Vi 0, Vi 21]) (S' := []) (h' := ((SHv st dr rd), (ovl a s bq46))) (fun _ => rfl) (fun b225 => ?_) (fun b225 => ?_)
          · refine Ev.fin (k := 2) (r := (some (Vi 0))) (h' := ((SHv st dr rd), (ovl a s bq46))) (fun _ => rfl) ?_
            refine ⟨0, _, rfl, Or.inl rfl, rfl, Or.inr ⟨eq46, ?_, ((hbq46.wk ((((KpM.rf : KpM j c om f b b).up (by omega)).fn hoq45.1)).fr (Nat.le_refl _)))⟩⟩
            rw [hxq45, bnX_o]
            unfold opnT
            rw [if_neg (by omega)]
            by_cases h8 : f = 8
            · rw [if_pos h8] at hxq46; rw [if_pos (by omega)]; exact hxq46
            · rw [if_neg h8] at hxq46; rw [if_neg (by omega)]; exact hxq46
          · have := hbq46.2.2.1; omega
      · rw [if_neg c201]
        show Ev X _ _ 204 [Vr 166, Vi (f : Int), Vi 0, Vi 21] [Vi 0] ((SHv st dr rd), (ovl a s bq45)) _
        refine Ev.steps (k := 5) (pc' := 213) (L' := [Vr 166, Vi (f : Int), Vi 0, Vi 21]) (S' := [Vi (bq45 166 4), Vi 1, Vr 166]) (h' := ((SHv st dr rd), (ovl a s bq45))) (fun _ => rfl) ?_
        rw [hoq45.2.2.2.2.2.1]
        refine Ev.call (k := 0) (pc1 := 213) (L1 := [Vr 166, Vi (f : Int), Vi 0, Vi 21]) (S1 := [Vi ((tA W pq45 : Nat) : Int), Vi 1, Vr 166]) (h1 := ((SHv st dr rd), (ovl a s bq45))) (m' := 160) (as := [Vr 166, Vi 1, Vi ((tA W pq45 : Nat) : Int)]) (S' := []) (L0 := [Vr 166, Vi 1, Vi ((tA W pq45 : Nat) : Int)]) (fun _ => rfl) rfl rfl rfl rfl rfl rfl (m_bl (b := bq45) hoq45.2 1 (by decide)) (fun r h' hq => ?_)
        obtain ⟨rfl, bq47, rfl, hbq47⟩ := hq
        show Ev X _ _ 216 [Vr 166, Vi (f : Int), Vi 0, Vi 21] [] ((SHv st dr rd), (ovl a s bq47)) _
        refine Ev.call (k := 2) (pc1 := 218) (L1 := [Vr 166, Vi (f : Int), Vi 0, Vi 21]) (S1 := [Vi 3, Vr 166]) (h1 := ((SHv st dr rd), (ovl a s bq47))) (m' := 175) (as := [Vr 166, Vi 3]) (S' := []) (L0 := [Vr 166, Vi 3]) (fun _ => rfl) rfl rfl rfl rfl rfl rfl (m_opens_br (b := bq47) hbq47.2.2 3) (fun r h' hq => ?_)
        obtain ⟨rfl, rfl⟩ := hq
        show Ev X _ _ 221 [Vr 166, Vi (f : Int), Vi 0, Vi 21] [] ((SHv st dr rd), (ovl a s bq47)) _
        refine Ev.steps (k := 2) (pc' := 225) (L' := [Vr 166, Vi (f : Int), Vi 0, Vi 21]) (S' := [Vi (bq47 166 8)]) (h' := ((SHv st dr rd), (ovl a s bq47))) (fun _ => rfl) ?_
        rw [hbq47.2.2.2.1]
        refine Ev.ite (P := (fltT W 1 pq45).1 ≠ 0) (k := 1) (a := 240) (b := 228) (L' := [Vr 166, Vi (f : Int), Vi 0, Vi 21]) (S' := []) (h' := ((SHv st dr rd), (ovl a s bq47))) (fun _ => rfl) (fun b225 => ?_) (fun b225 => ?_)
        · refine Ev.fin (k := 2) (r := (some (Vi 0))) (h' := ((SHv st dr rd), (ovl a s bq47))) (fun _ => rfl) ?_
          refine ⟨0, _, rfl, Or.inl rfl, rfl, Or.inr ⟨(fltT W 1 pq45), ?_, (hbq47.bk (((KpM.rf : KpM j c om f b b).up (by omega)).fn hoq45.1))⟩⟩
          rw [hxq45, bnX_o]
          unfold opnT
          rw [if_pos (by omega)]
        · have := hbq47.2.2.1; omega
    · show Ev X _ _ 198 [Vr 166, Vi (f : Int), Vi 0, Vi 21] [] ((SHv st dr rd), (ovl a s bq45)) _
      refine Ev.call (k := 2) (pc1 := 201) (L1 := [Vr 166, Vi (f : Int), Vi 0, Vi 21]) (S1 := [Vi 40, Vr 166]) (h1 := ((SHv st dr rd), (ovl a s bq45))) (m' := 174) (as := [Vr 166, Vi 40]) (S' := []) (L0 := [Vr 166, Vi 40]) (fun _ => rfl) rfl rfl rfl rfl rfl rfl (m_isSign (b := bq45) 40) (fun r h' hq => ?_)
      obtain ⟨rfl, rfl⟩ := hq
      by_cases c201 : bq45 166 3 = 3 ∧ bq45 166 6 = 40
      · rw [if_pos c201]
        show Ev X _ _ 204 [Vr 166, Vi (f : Int), Vi 0, Vi 21] [Vi 1] ((SHv st dr rd), (ovl a s bq45)) _
        refine Ev.call (k := 3) (pc1 := 218) (L1 := [Vr 166, Vi (f : Int), Vi 0, Vi 21]) (S1 := [Vi 3, Vr 166]) (h1 := ((SHv st dr rd), (ovl a s bq45))) (m' := 175) (as := [Vr 166, Vi 3]) (S' := []) (L0 := [Vr 166, Vi 3]) (fun _ => rfl) rfl rfl rfl rfl rfl rfl (m_opens_br (b := bq45) hbq45.2.2 3) (fun r h' hq => ?_)
        obtain ⟨rfl, rfl⟩ := hq
        show Ev X _ _ 221 [Vr 166, Vi (f : Int), Vi 0, Vi 21] [] ((SHv st dr rd), (ovl a s bq45)) _
        refine Ev.steps (k := 2) (pc' := 225) (L' := [Vr 166, Vi (f : Int), Vi 0, Vi 21]) (S' := [Vi (bq45 166 8)]) (h' := ((SHv st dr rd), (ovl a s bq45))) (fun _ => rfl) ?_
        rw [hbq45.2.2.2.1]
        refine Ev.ite (P := eq45.1 ≠ 0) (k := 1) (a := 240) (b := 228) (L' := [Vr 166, Vi (f : Int), Vi 0, Vi 21]) (S' := []) (h' := ((SHv st dr rd), (ovl a s bq45))) (fun _ => rfl) (fun b225 => ?_) (fun b225 => ?_)
        · refine Ev.fin (k := 2) (r := (some (Vi 0))) (h' := ((SHv st dr rd), (ovl a s bq45))) (fun _ => rfl) ?_
          refine ⟨0, _, rfl, Or.inl rfl, rfl, Or.inr ⟨eq45, ?_, (hbq45.bk ((KpM.rf : KpM j c om f b b).up (by omega)))⟩⟩
          rw [hxq45, bnX_e]
        · have := hbq45.2.2.1; omega
      · rw [if_neg c201]
        show Ev X _ _ 204 [Vr 166, Vi (f : Int), Vi 0, Vi 21] [Vi 0] ((SHv st dr rd), (ovl a s bq45)) _
        refine Ev.call (k := 5) (pc1 := 213) (L1 := [Vr 166, Vi (f : Int), Vi 0, Vi 21]) (S1 := [Vi (bq45 166 4), Vi 1, Vr 166]) (h1 := ((SHv st dr rd), (ovl a s bq45))) (m' := 160) (as := [Vr 166, Vi 1, Vi (bq45 166 4)]) (S' := []) (L0 := [Vr 166, Vi 1, Vi (bq45 166 4)]) (fun _ => rfl) rfl rfl rfl rfl rfl rfl (m_bl_br (b := bq45) hbq45.2.2 1 (bq45 166 4)) (fun r h' hq => ?_)
        obtain ⟨rfl, rfl⟩ := hq
        show Ev X _ _ 216 [Vr 166, Vi (f : Int), Vi 0, Vi 21] [] ((SHv st dr rd), (ovl a s bq45)) _
        refine Ev.call (k := 2) (pc1 := 218) (L1 := [Vr 166, Vi (f : Int), Vi 0, Vi 21]) (S1 := [Vi 3, Vr 166]) (h1 := ((SHv st dr rd), (ovl a s bq45))) (m' := 175) (as := [Vr 166, Vi 3]) (S' := []) (L0 := [Vr 166, Vi 3]) (fun _ => rfl) rfl rfl rfl rfl rfl rfl (m_opens_br (b := bq45) hbq45.2.2 3) (fun r h' hq => ?_)
        obtain ⟨rfl, rfl⟩ := hq
        show Ev X _ _ 221 [Vr 166, Vi (f : Int), Vi 0, Vi 21] [] ((SHv st dr rd), (ovl a s bq45)) _
        refine Ev.steps (k := 2) (pc' := 225) (L' := [Vr 166, Vi (f : Int), Vi 0, Vi 21]) (S' := [Vi (bq45 166 8)]) (h' := ((SHv st dr rd), (ovl a s bq45))) (fun _ => rfl) ?_
        rw [hbq45.2.2.2.1]
        refine Ev.ite (P := eq45.1 ≠ 0) (k := 1) (a := 240) (b := 228) (L' := [Vr 166, Vi (f : Int), Vi 0, Vi 21]) (S' := []) (h' := ((SHv st dr rd), (ovl a s bq45))) (fun _ => rfl) (fun b225 => ?_) (fun b225 => ?_)
        · refine Ev.fin (k := 2) (r := (some (Vi 0))) (h' := ((SHv st dr rd), (ovl a s bq45))) (fun _ => rfl) ?_
          refine ⟨0, _, rfl, Or.inl rfl, rfl, Or.inr ⟨eq45, ?_, (hbq45.bk ((KpM.rf : KpM j c om f b b).up (by omega)))⟩⟩
          rw [hxq45, bnX_e]
        · have := hbq45.2.2.1; omega
  · refine Ev.call (k := 5) (pc1 := 42) (L1 := [Vr 166, Vi (f : Int), Vi 1, Vx]) (S1 := [Vl 7237492, Vr 166]) (h1 := ((SHv st dr rd), (ovl a s b))) (m' := 162) (as := [Vr 166, Vl 7237492]) (S' := []) (L0 := [Vr 166, Vl 7237492, Vx]) (fun _ => rfl) rfl rfl rfl rfl rfl rfl (k_isWord (b := b) hk 15 (by decide) 7237492 (by decide)) (fun r h' hq => ?_)
    obtain ⟨rfl, rfl⟩ := hq
    rw [if_neg (by omega)]
    show Ev X _ _ 45 [Vr 166, Vi (f : Int), Vi 1, Vx] [Vi 0] ((SHv st dr rd), (ovl a s b)) _
    refine Ev.steps (k := 5) (pc' := 66) (L' := [Vr 166, Vi (f : Int), Vi 1, Vx]) (S' := [Vi 0, Vi (f : Int), Vr 195]) (h' := ((SHv st dr rd), (ovl a s b))) (fun _ => rfl) ?_
    refine Ev.zast (c' := (ovl a s (updC b 195 f 0))) rfl (by decide) rfl (by omega) (by omega) (by omega) (ovl_wm (by decide)) ?_
    refine Ev.call (k := 4) (pc1 := 74) (L1 := [Vr 166, Vi (f : Int), Vi 1, Vx]) (S1 := [Vi 91, Vr 166]) (h1 := ((SHv st dr rd), (ovl a s (updC b 195 f 0)))) (m' := 174) (as := [Vr 166, Vi 91]) (S' := []) (L0 := [Vr 166, Vi 91]) (fun _ => rfl) rfl rfl rfl rfl rfl rfl (k_isSign (b := (updC b 195 f 0)) (hk.up (by omega)) 91 (by decide)) (fun r h' hq => ?_)
    obtain ⟨rfl, rfl⟩ := hq
    rw [if_neg (by omega)]
    show Ev X _ _ 77 [Vr 166, Vi (f : Int), Vi 1, Vx] [Vi 0] ((SHv st dr rd), (ovl a s (updC b 195 f 0))) _
    refine Ev.call (k := 5) (pc1 := 95) (L1 := [Vr 166, Vi (f : Int), Vi 1, Vx]) (S1 := [Vl 6384748, Vr 166]) (h1 := ((SHv st dr rd), (ovl a s (updC b 195 f 0)))) (m' := 162) (as := [Vr 166, Vl 6384748]) (S' := []) (L0 := [Vr 166, Vl 6384748, Vx]) (fun _ => rfl) rfl rfl rfl rfl rfl rfl (k_isWord (b := (updC b 195 f 0)) (hk.up (by omega)) 16 (by decide) 6384748 (by decide)) (fun r h' hq => ?_)
    obtain ⟨rfl, rfl⟩ := hq
    rw [if_neg (by omega)]
    show Ev X _ _ 98 [Vr 166, Vi (f : Int), Vi 1, Vx] [Vi 0] ((SHv st dr rd), (ovl a s (updC b 195 f 0))) _
    refine Ev.call (k := 4) (pc1 := 125) (L1 := [Vr 166, Vi (f : Int), Vi 1, Vx]) (S1 := [Vr 166]) (h1 := ((SHv st dr rd), (ovl a s (updC b 195 f 0)))) (m' := 177) (as := [Vr 166]) (S' := []) (L0 := [Vr 166, Vx, Vx, Vx]) (fun _ => rfl) rfl rfl rfl rfl rfl rfl (m_fact_no (b := (updC b 195 f 0)) (hk.up (by omega)) (by omega)) (fun r h' hq => ?_)
    obtain ⟨rfl, rfl⟩ := hq
    show Ev X _ _ 128 [Vr 166, Vi (f : Int), Vi 1, Vx] [Vi 0] ((SHv st dr rd), (ovl a s (updC b 195 f 0))) _
    refine Ev.call (k := 3) (pc1 := 143) (L1 := [Vr 166, Vi (f : Int), Vi 1, Vx]) (S1 := [Vi 40, Vr 166]) (h1 := ((SHv st dr rd), (ovl a s (updC b 195 f 0)))) (m' := 174) (as := [Vr 166, Vi 40]) (S' := []) (L0 := [Vr 166, Vi 40]) (fun _ => rfl) rfl rfl rfl rfl rfl rfl (k_isSign (b := (updC b 195 f 0)) (hk.up (by omega)) 40 (by decide)) (fun r h' hq => ?_)
    obtain ⟨rfl, rfl⟩ := hq
    rw [if_neg (by omega)]
    show Ev X _ _ 146 [Vr 166, Vi (f : Int), Vi 1, Vx] [Vi 0] ((SHv st dr rd), (ovl a s (updC b 195 f 0))) _
    refine Ev.call (k := 3) (pc1 := 160) (L1 := [Vr 166, Vi (f : Int), Vi 1, Vx]) (S1 := [Vl 7170414, Vr 166]) (h1 := ((SHv st dr rd), (ovl a s (updC b 195 f 0)))) (m' := 162) (as := [Vr 166, Vl 7170414]) (S' := []) (L0 := [Vr 166, Vl 7170414, Vx]) (fun _ => rfl) rfl rfl rfl rfl rfl rfl (k_isWord (b := (updC b 195 f 0)) (hk.up (by omega)) 25 (by decide) 7170414 (by decide)) (fun r h' hq => ?_)
    obtain ⟨rfl, rfl⟩ := hq
    rw [if_neg (by omega)]
    show Ev X _ _ 163 [Vr 166, Vi (f : Int), Vi 1, Vx] [Vi 0] ((SHv st dr rd), (ovl a s (updC b 195 f 0))) _
    refine Ev.call (k := 3) (pc1 := 170) (L1 := [Vr 166, Vi (f : Int), Vi 1, Vx]) (S1 := [Vl 7168376, Vr 166]) (h1 := ((SHv st dr rd), (ovl a s (updC b 195 f 0)))) (m' := 162) (as := [Vr 166, Vl 7168376]) (S' := []) (L0 := [Vr 166, Vl 7168376, Vx]) (fun _ => rfl) rfl rfl rfl rfl rfl rfl (k_isWord (b := (updC b 195 f 0)) (hk.up (by omega)) 26 (by decide) 7168376 (by decide)) (fun r h' hq => ?_)
    obtain ⟨rfl, rfl⟩ := hq
    rw [if_pos (by omega)]
    show Ev X _ _ 173 [Vr 166, Vi (f : Int), Vi 1, Vx] [Vi 1] ((SHv st dr rd), (ovl a s (updC b 195 f 0))) _
    refine Ev.call (k := 3) (pc1 := 180) (L1 := [Vr 166, Vi (f : Int), Vi 1, Vx]) (S1 := [Vl 7170414, Vr 166]) (h1 := ((SHv st dr rd), (ovl a s (updC b 195 f 0)))) (m' := 162) (as := [Vr 166, Vl 7170414]) (S' := []) (L0 := [Vr 166, Vl 7170414, Vx]) (fun _ => rfl) rfl rfl rfl rfl rfl rfl (k_isWord (b := (updC b 195 f 0)) (hk.up (by omega)) 25 (by decide) 7170414 (by decide)) (fun r h' hq => ?_)
    obtain ⟨rfl, rfl⟩ := hq
    rw [if_neg (by omega)]
    show Ev X _ _ 183 [Vr 166, Vi (f : Int), Vi 1, Vx] [Vi 0] ((SHv st dr rd), (ovl a s (updC b 195 f 0))) _
    refine Ev.call (k := 4) (pc1 := 195) (L1 := [Vr 166, Vi (f : Int), Vi 1, Vi 21]) (S1 := [Vr 166]) (h1 := ((SHv st dr rd), (ovl a s (updC b 195 f 0)))) (m' := 157) (as := [Vr 166]) (S' := []) (L0 := [Vr 166, Vx, Vx, Vx, Vx, Vx]) (fun _ => rfl) rfl rfl rfl rfl rfl rfl (m_nextT (b := (updC b 195 f 0)) (hk.up (by omega))) (fun r h' hq => ?_)
    obtain ⟨rfl, bq51, rfl, hq⟩ := hq
    rcases hq with ⟨pq51, hxq51, hoq51⟩ | ⟨eq51, hxq51, hbq51⟩
    · show Ev X _ _ 198 [Vr 166, Vi (f : Int), Vi 1, Vi 21] [] ((SHv st dr rd), (ovl a s bq51)) _
      refine Ev.call (k := 2) (pc1 := 201) (L1 := [Vr 166, Vi (f : Int), Vi 1, Vi 21]) (S1 := [Vi 40, Vr 166]) (h1 := ((SHv st dr rd), (ovl a s bq51))) (m' := 174) (as := [Vr 166, Vi 40]) (S' := []) (L0 := [Vr 166, Vi 40]) (fun _ => rfl) rfl rfl rfl rfl rfl rfl (k_isSign (b := bq51) hoq51.2 40 (by decide)) (fun r h' hq => ?_)
      obtain ⟨rfl, rfl⟩ := hq
      by_cases c201 : tC W pq51 = 40
      · rw [if_pos c201]
        show Ev X _ _ 204 [Vr 166, Vi (f : Int), Vi 1, Vi 21] [Vi 1] ((SHv st dr rd), (ovl a s bq51)) _
        refine Ev.call (k := 3) (pc1 := 218) (L1 := [Vr 166, Vi (f : Int), Vi 1, Vi 21]) (S1 := [Vi 3, Vr 166]) (h1 := ((SHv st dr rd), (ovl a s bq51))) (m' := 175) (as := [Vr 166, Vi 3]) (S' := []) (L0 := [Vr 166, Vi 3]) (fun _ => rfl) rfl rfl rfl rfl rfl rfl (m_opens (b := bq51) hoq51.2 j c ((hoq51.1 166 48 (by omega)).trans e48) ((hoq51.1 166 45 (by omega)).trans e45) ((hoq51.1 166 46 (by omega)).trans e46) hf 3) (fun r h' hq => ?_)
        obtain ⟨rfl, bq52, rfl, hq⟩ := hq
        rcases hq with ⟨pq52, hxq52, hoq52⟩ | ⟨eq52, hxq52, hbq52⟩
        · show Ev X _ _ 221 [Vr 166, Vi (f : Int), Vi 1, Vi 21] [] ((SHv st dr rd), (ovl a s bq52)) _
          refine Ev.steps (k := 2) (pc' := 225) (L' := [Vr 166, Vi (f : Int), Vi 1, Vi 21]) (S' := [Vi (bq52 166 8)]) (h' := ((SHv st dr rd), (ovl a s bq52))) (fun _ => rfl) ?_
          rw [hoq52.2.1.2.1]
          refine Ev.steps (k := 5) (pc' := 236) (L' := [Vr 166, Vi (f : Int), Vi 1, Vi 21]) (S' := [Vi (bq52 166 45), Vr 196]) (h' := ((SHv st dr rd), (ovl a s bq52))) (fun _ => rfl) ?_
          rw [hoq52.2.2.1]
          refine Ev.steps (k := 2) (pc' := 238) (L' := [Vr 166, Vi (f : Int), Vi 1, Vi 21]) (S' := [Vi (w32 (((f + 2 : Nat) : Int) - 1)), Vr 196]) (h' := ((SHv st dr rd), (ovl a s bq52))) (fun _ => rfl) ?_
          rw [show (w32 (((f + 2 : Nat) : Int) - 1)) = ((f + 1 : Nat) : Int) from (by unfold w32; omega)]
          refine Ev.steps (k := 1) (pc' := 239) (L' := [Vr 166, Vi (f : Int), Vi 1, Vi 21]) (S' := [Vi 21, Vi ((f + 1 : Nat) : Int), Vr 196]) (h' := ((SHv st dr rd), (ovl a s bq52))) (fun _ => rfl) ?_
          refine Ev.iast (c' := (ovl a s (updC bq52 196 ((f + 1)) 21))) rfl (by decide) rfl (by omega) (by omega) (ovl_wm (by decide)) ?_
          refine Ev.fin (k := 2) (r := (some (Vi 0))) (h' := ((SHv st dr rd), (ovl a s (updC bq52 196 ((f + 1)) 21)))) (fun _ => rfl) ?_
          refine ⟨0, _, rfl, Or.inl rfl, rfl, Or.inl ⟨pq52, ?_, rfl, ?_, updC_sm⟩⟩
          · rw [hxq51, bnX_o]
            unfold opnT
            rw [if_neg (by omega)]
            by_cases h8 : f = 8
            · rw [if_pos h8] at hxq52; cases hxq52
            · rw [if_neg h8] at hxq52; rw [if_neg (by omega)]; exact hxq52
          · exact (hoq52.pr).fn hoq51.1
        · show Ev X _ _ 221 [Vr 166, Vi (f : Int), Vi 1, Vi 21] [] ((SHv st dr rd), (ovl a s bq52)) _
          refine Ev.steps (k := 2) (pc' := 225) (L' := [Vr 166, Vi (f : Int), Vi 1, Vi 21]) (S' := [Vi (bq52 166 8)]) (h' := ((SHv st dr rd), (ovl a s bq52))) (fun _ => rfl) ?_
          rw [hbq52.2.2.2.1]
          refine Ev.ite (P := eq52.1 ≠ 0) (k := 1) (a := 240) (b := 228) (L' := [Vr 166, Vi (f : Int), Vi 1, Vi 21]) (S' := []) (h' := ((SHv st dr rd), (ovl a s bq52))) (fun _ => rfl) (fun b225 => ?_) (fun b225 => ?_)
          · refine Ev.fin (k := 2) (r := (some (Vi 0))) (h' := ((SHv st dr rd), (ovl a s bq52))) (fun _ => rfl) ?_
            refine ⟨0, _, rfl, Or.inl rfl, rfl, Or.inr ⟨eq52, ?_, ((hbq52.wk ((((KpM.rf : KpM j c om f b b).up (by omega)).fn hoq51.1)).fr (Nat.le_refl _)))⟩⟩
            rw [hxq51, bnX_o]
            unfold opnT
            rw [if_neg (by omega)]
            by_cases h8 : f = 8
            · rw [if_pos h8] at hxq52; rw [if_pos (by omega)]; exact hxq52
            · rw [if_neg h8] at hxq52; rw [if_neg (by omega)]; exact hxq52
          · have := hbq52.2.2.1; omega
      · rw [if_neg c201]
        show Ev X _ _ 204 [Vr 166, Vi (f : Int), Vi 1, Vi 21] [Vi 0] ((SHv st dr rd), (ovl a s bq51)) _
        refine Ev.steps (k := 5) (pc' := 213) (L' := [Vr 166, Vi (f : Int), Vi 1, Vi 21]) (S' := [Vi (bq51 166 4), Vi 1, Vr 166]) (h' := ((SHv st dr rd), (ovl a s bq51))) (fun _ => rfl) ?_
        rw [hoq51.2.2.2.2.2.1]
        refine Ev.call (k := 0) (pc1 := 213) (L1 := [Vr 166, Vi (f : Int), Vi 1, Vi 21]) (S1 := [Vi ((tA W pq51 : Nat) : Int), Vi 1, Vr 166]) (h1 := ((SHv st dr rd), (ovl a s bq51))) (m' := 160) (as := [Vr 166, Vi 1, Vi ((tA W pq51 : Nat) : Int)]) (S' := []) (L0 := [Vr 166, Vi 1, Vi ((tA W pq51 : Nat) : Int)]) (fun _ => rfl) rfl rfl rfl rfl rfl rfl (m_bl (b := bq51) hoq51.2 1 (by decide)) (fun r h' hq => ?_)
        obtain ⟨rfl, bq53, rfl, hbq53⟩ := hq
        show Ev X _ _ 216 [Vr 166, Vi (f : Int), Vi 1, Vi 21] [] ((SHv st dr rd), (ovl a s bq53)) _
        refine Ev.call (k := 2) (pc1 := 218) (L1 := [Vr 166, Vi (f : Int), Vi 1, Vi 21]) (S1 := [Vi 3, Vr 166]) (h1 := ((SHv st dr rd), (ovl a s bq53))) (m' := 175) (as := [Vr 166, Vi 3]) (S' := []) (L0 := [Vr 166, Vi 3]) (fun _ => rfl) rfl rfl rfl rfl rfl rfl (m_opens_br (b := bq53) hbq53.2.2 3) (fun r h' hq => ?_)
        obtain ⟨rfl, rfl⟩ := hq
        show Ev X _ _ 221 [Vr 166, Vi (f : Int), Vi 1, Vi 21] [] ((SHv st dr rd), (ovl a s bq53)) _
        refine Ev.steps (k := 2) (pc' := 225) (L' := [Vr 166, Vi (f : Int), Vi 1, Vi 21]) (S' := [Vi (bq53 166 8)]) (h' := ((SHv st dr rd), (ovl a s bq53))) (fun _ => rfl) ?_
        rw [hbq53.2.2.2.1]
        refine Ev.ite (P := (fltT W 1 pq51).1 ≠ 0) (k := 1) (a := 240) (b := 228) (L' := [Vr 166, Vi (f : Int), Vi 1, Vi 21]) (S' := []) (h' := ((SHv st dr rd), (ovl a s bq53))) (fun _ => rfl) (fun b225 => ?_) (fun b225 => ?_)
        · refine Ev.fin (k := 2) (r := (some (Vi 0))) (h' := ((SHv st dr rd), (ovl a s bq53))) (fun _ => rfl) ?_
          refine ⟨0, _, rfl, Or.inl rfl, rfl, Or.inr ⟨(fltT W 1 pq51), ?_, (hbq53.bk (((KpM.rf : KpM j c om f b b).up (by omega)).fn hoq51.1))⟩⟩
          rw [hxq51, bnX_o]
          unfold opnT
          rw [if_pos (by omega)]
        · have := hbq53.2.2.1; omega
    · show Ev X _ _ 198 [Vr 166, Vi (f : Int), Vi 1, Vi 21] [] ((SHv st dr rd), (ovl a s bq51)) _
      refine Ev.call (k := 2) (pc1 := 201) (L1 := [Vr 166, Vi (f : Int), Vi 1, Vi 21]) (S1 := [Vi 40, Vr 166]) (h1 := ((SHv st dr rd), (ovl a s bq51))) (m' := 174) (as := [Vr 166, Vi 40]) (S' := []) (L0 := [Vr 166, Vi 40]) (fun _ => rfl) rfl rfl rfl rfl rfl rfl (m_isSign (b := bq51) 40) (fun r h' hq => ?_)
      obtain ⟨rfl, rfl⟩ := hq
      by_cases c201 : bq51 166 3 = 3 ∧ bq51 166 6 = 40
      · rw [if_pos c201]
        show Ev X _ _ 204 [Vr 166, Vi (f : Int), Vi 1, Vi 21] [Vi 1] ((SHv st dr rd), (ovl a s bq51)) _
        refine Ev.call (k := 3) (pc1 := 218) (L1 := [Vr 166, Vi (f : Int), Vi 1, Vi 21]) (S1 := [Vi 3, Vr 166]) (h1 := ((SHv st dr rd), (ovl a s bq51))) (m' := 175) (as := [Vr 166, Vi 3]) (S' := []) (L0 := [Vr 166, Vi 3]) (fun _ => rfl) rfl rfl rfl rfl rfl rfl (m_opens_br (b := bq51) hbq51.2.2 3) (fun r h' hq => ?_)
        obtain ⟨rfl, rfl⟩ := hq
        show Ev X _ _ 221 [Vr 166, Vi (f : Int), Vi 1, Vi 21] [] ((SHv st dr rd), (ovl a s bq51)) _
        refine Ev.steps (k := 2) (pc' := 225) (L' := [Vr 166, Vi (f : Int), Vi 1, Vi 21]) (S' := [Vi (bq51 166 8)]) (h' := ((SHv st dr rd), (ovl a s bq51))) (fun _ => rfl) ?_
        rw [hbq51.2.2.2.1]
        refine Ev.ite (P := eq51.1 ≠ 0) (k := 1) (a := 240) (b := 228) (L' := [Vr 166, Vi (f : Int), Vi 1, Vi 21]) (S' := []) (h' := ((SHv st dr rd), (ovl a s bq51))) (fun _ => rfl) (fun b225 => ?_) (fun b225 => ?_)
        · refine Ev.fin (k := 2) (r := (some (Vi 0))) (h' := ((SHv st dr rd), (ovl a s bq51))) (fun _ => rfl) ?_
          refine ⟨0, _, rfl, Or.inl rfl, rfl, Or.inr ⟨eq51, ?_, (hbq51.bk ((KpM.rf : KpM j c om f b b).up (by omega)))⟩⟩
          rw [hxq51, bnX_e]
        · have := hbq51.2.2.1; omega
      · rw [if_neg c201]
        show Ev X _ _ 204 [Vr 166, Vi (f : Int), Vi 1, Vi 21] [Vi 0] ((SHv st dr rd), (ovl a s bq51)) _
        refine Ev.call (k := 5) (pc1 := 213) (L1 := [Vr 166, Vi (f : Int), Vi 1, Vi 21]) (S1 := [Vi (bq51 166 4), Vi 1, Vr 166]) (h1 := ((SHv st dr rd), (ovl a s bq51))) (m' := 160) (as := [Vr 166, Vi 1, Vi (bq51 166 4)]) (S' := []) (L0 := [Vr 166, Vi 1, Vi (bq51 166 4)]) (fun _ => rfl) rfl rfl rfl rfl rfl rfl (m_bl_br (b := bq51) hbq51.2.2 1 (bq51 166 4)) (fun r h' hq => ?_)
        obtain ⟨rfl, rfl⟩ := hq
        show Ev X _ _ 216 [Vr 166, Vi (f : Int), Vi 1, Vi 21] [] ((SHv st dr rd), (ovl a s bq51)) _
        refine Ev.call (k := 2) (pc1 := 218) (L1 := [Vr 166, Vi (f : Int), Vi 1, Vi 21]) (S1 := [Vi 3, Vr 166]) (h1 := ((SHv st dr rd), (ovl a s bq51))) (m' := 175) (as := [Vr 166, Vi 3]) (S' := []) (L0 := [Vr 166, Vi 3]) (fun _ => rfl) rfl rfl rfl rfl rfl rfl (m_opens_br (b := bq51) hbq51.2.2 3) (fun r h' hq => ?_)
        obtain ⟨rfl, rfl⟩ := hq
        show Ev X _ _ 221 [Vr 166, Vi (f : Int), Vi 1, Vi 21] [] ((SHv st dr rd), (ovl a s bq51)) _
        refine Ev.steps (k := 2) (pc' := 225) (L' := [Vr 166, Vi (f : Int), Vi 1, Vi 21]) (S' := [Vi (bq51 166 8)]) (h' := ((SHv st dr rd), (ovl a s bq51))) (fun _ => rfl) ?_
        rw [hbq51.2.2.2.1]
        refine Ev.ite (P := eq51.1 ≠ 0) (k := 1) (a := 240) (b := 228) (L' := [Vr 166, Vi (f : Int), Vi 1, Vi 21]) (S' := []) (h' := ((SHv st dr rd), (ovl a s bq51))) (fun _ => rfl) (fun b225 => ?_) (fun b225 => ?_)
        · refine Ev.fin (k := 2) (r := (some (Vi 0))) (h' := ((SHv st dr rd), (ovl a s bq51))) (fun _ => rfl) ?_
          refine ⟨0, _, rfl, Or.inl rfl, rfl, Or.inr ⟨eq51, ?_, (hbq51.bk ((KpM.rf : KpM j c om f b b).up (by omega)))⟩⟩
          rw [hxq51, bnX_e]
        · have := hbq51.2.2.1; omega
theorem m_op_err {X : List Int} {d : Nat} {st dr rd : Int} {a s b : C3} {W : TXT} {p : Nat} (hk : TkM W p b) {N : SC} {j : Nat} (hN : NmM N b j) {c om f : Nat} (e38 : b 166 38 = (c : Int)) (e48 : b 166 48 = (om : Int)) (e45 : b 166 45 = ((f + 1 : Nat) : Int)) (e46 : b 166 46 = (f : Int)) (hf : f ≤ 8) {K : Nat} {I : PRS} (hct : (tC W p < 279 ∨ 282 < tC W p) ∧ tC W p ≠ 301 ∧ tC W p ≠ 40) (h3 : b 166 3 ≠ 2) (hpl : (b 193 f ≠ 1 ∧ b 193 f ≠ 5) ∨ b 195 f = 0 ∨ (tC W p ≠ 91 ∧ (tC W p < 271 ∨ 278 < tC W p))) : Ev X (d + 4) 171 0 [Vr 166, Vx, Vx, Vx] [] (SHv st dr rd, ovl a s b) (fun rr hh => ∃ (v : Int) (b' : C3), rr = some (Vi v) ∧ (v = 0 ∨ v = 1) ∧ hh = (SHv st dr rd, ovl a s b') ∧ ResC (prtT W N K I p) (fun r => False) (fun e => BkM W j c b e b')) := by
  have hj := hN.1
  refine m_opP e45 hf (fun g0 => ?_) (fun g0 g1 => ?_)
  · refine Ev.steps (k := 7) (pc' := 66) (L' := [Vr 166, Vi (f : Int), Vi 0, Vx]) (S' := [Vi 0, Vi (f : Int), Vr 195]) (h' := ((SHv st dr rd), (ovl a s b))) (fun _ => rfl) ?_
    refine Ev.zast (c' := (ovl a s (updC b 195 f 0))) rfl (by decide) rfl (by omega) (by omega) (by omega) (ovl_wm (by decide)) ?_
    refine Ev.call (k := 8) (pc1 := 143) (L1 := [Vr 166, Vi (f : Int), Vi 0, Vx]) (S1 := [Vi 40, Vr 166]) (h1 := ((SHv st dr rd), (ovl a s (updC b 195 f 0)))) (m' := 174) (as := [Vr 166, Vi 40]) (S' := []) (L0 := [Vr 166, Vi 40]) (fun _ => rfl) rfl rfl rfl rfl rfl rfl (k_isSign (b := (updC b 195 f 0)) (hk.up (by omega)) 40 (by decide)) (fun r h' hq => ?_)
    obtain ⟨rfl, rfl⟩ := hq
    rw [if_neg (by omega)]
    show Ev X _ _ 146 [Vr 166, Vi (f : Int), Vi 0, Vx] [Vi 0] ((SHv st dr rd), (ovl a s (updC b 195 f 0))) _
    refine Ev.call (k := 3) (pc1 := 160) (L1 := [Vr 166, Vi (f : Int), Vi 0, Vx]) (S1 := [Vl 7170414, Vr 166]) (h1 := ((SHv st dr rd), (ovl a s (updC b 195 f 0)))) (m' := 162) (as := [Vr 166, Vl 7170414]) (S' := []) (L0 := [Vr 166, Vl 7170414, Vx]) (fun _ => rfl) rfl rfl rfl rfl rfl rfl (k_isWord (b := (updC b 195 f 0)) (hk.up (by omega)) 25 (by decide) 7170414 (by decide)) (fun r h' hq => ?_)
    obtain ⟨rfl, rfl⟩ := hq
    rw [if_neg (by omega)]
    show Ev X _ _ 163 [Vr 166, Vi (f : Int), Vi 0, Vx] [Vi 0] ((SHv st dr rd), (ovl a s (updC b 195 f 0))) _
    refine Ev.call (k := 3) (pc1 := 170) (L1 := [Vr 166, Vi (f : Int), Vi 0, Vx]) (S1 := [Vl 7168376, Vr 166]) (h1 := ((SHv st dr rd), (ovl a s (updC b 195 f 0)))) (m' := 162) (as := [Vr 166, Vl 7168376]) (S' := []) (L0 := [Vr 166, Vl 7168376, Vx]) (fun _ => rfl) rfl rfl rfl rfl rfl rfl (k_isWord (b := (updC b 195 f 0)) (hk.up (by omega)) 26 (by decide) 7168376 (by decide)) (fun r h' hq => ?_)
    obtain ⟨rfl, rfl⟩ := hq
    rw [if_neg (by omega)]
    show Ev X _ _ 173 [Vr 166, Vi (f : Int), Vi 0, Vx] [Vi 0] ((SHv st dr rd), (ovl a s (updC b 195 f 0))) _
    refine Ev.call (k := 3) (pc1 := 246) (L1 := [Vr 166, Vi (f : Int), Vi 0, Vx]) (S1 := [Vl 1836019556, Vr 166]) (h1 := ((SHv st dr rd), (ovl a s (updC b 195 f 0)))) (m' := 162) (as := [Vr 166, Vl 1836019556]) (S' := []) (L0 := [Vr 166, Vl 1836019556, Vx]) (fun _ => rfl) rfl rfl rfl rfl rfl rfl (k_isWord (b := (updC b 195 f 0)) (hk.up (by omega)) 24 (by decide) 1836019556 (by decide)) (fun r h' hq => ?_)
    obtain ⟨rfl, rfl⟩ := hq
    rw [if_neg (by omega)]
    show Ev X _ _ 249 [Vr 166, Vi (f : Int), Vi 0, Vx] [Vi 0] ((SHv st dr rd), (ovl a s (updC b 195 f 0))) _
    refine Ev.ite (P := (b 166 3) ≠ 2) (k := 5) (a := 298) (b := 286) (L' := [Vr 166, Vi (f : Int), Vi 0, Vx]) (S' := []) (h' := ((SHv st dr rd), (ovl a s (updC b 195 f 0)))) (fun _ => rfl) (fun b283 => ?_) (fun b283 => ?_)
    · refine Ev.call (k := 2) (pc1 := 302) (L1 := [Vr 166, Vi (f : Int), Vi 0, Vx]) (S1 := [Vl 120299592184933, Vr 166]) (h1 := ((SHv st dr rd), (ovl a s (updC b 195 f 0)))) (m' := 162) (as := [Vr 166, Vl 120299592184933]) (S' := []) (L0 := [Vr 166, Vl 120299592184933, Vx]) (fun _ => rfl) rfl rfl rfl rfl rfl rfl (k_isWord (b := (updC b 195 f 0)) (hk.up (by omega)) 23 (by decide) 120299592184933 (by decide)) (fun r h' hq => ?_)
      obtain ⟨rfl, rfl⟩ := hq
      rw [if_neg (by omega)]
      show Ev X _ _ 305 [Vr 166, Vi (f : Int), Vi 0, Vx] [Vi 0] ((SHv st dr rd), (ovl a s (updC b 195 f 0))) _
      refine Ev.steps (k := 5) (pc' := 323) (L' := [Vr 166, Vi (f : Int), Vi 0, Vx]) (S' := [Vi (b 166 4), Vi 1, Vr 166]) (h' := ((SHv st dr rd), (ovl a s (updC b 195 f 0)))) (fun _ => rfl) ?_
      rw [hk.2.2.2.2.1]
      refine Ev.call (k := 0) (pc1 := 323) (L1 := [Vr 166, Vi (f : Int), Vi 0, Vx]) (S1 := [Vi ((tA W p : Nat) : Int), Vi 1, Vr 166]) (h1 := ((SHv st dr rd), (ovl a s (updC b 195 f 0)))) (m' := 160) (as := [Vr 166, Vi 1, Vi ((tA W p : Nat) : Int)]) (S' := []) (L0 := [Vr 166, Vi 1, Vi ((tA W p : Nat) : Int)]) (fun _ => rfl) rfl rfl rfl rfl rfl rfl (m_bl (b := (updC b 195 f 0)) (hk.up (by omega)) 1 (by decide)) (fun r h' hq => ?_)
      obtain ⟨rfl, bq57, rfl, hbq57⟩ := hq
      show Ev X _ _ 326 [Vr 166, Vi (f : Int), Vi 0, Vx] [] ((SHv st dr rd), (ovl a s bq57)) _
      refine Ev.steps (k := 2) (pc' := 330) (L' := [Vr 166, Vi (f : Int), Vi 0, Vx]) (S' := [Vi (bq57 166 8)]) (h' := ((SHv st dr rd), (ovl a s bq57))) (fun _ => rfl) ?_
      rw [hbq57.2.2.2.1]
      refine Ev.ite (P := (fltT W 1 p).1 ≠ 0) (k := 1) (a := 337) (b := 333) (L' := [Vr 166, Vi (f : Int), Vi 0, Vx]) (S' := []) (h' := ((SHv st dr rd), (ovl a s bq57))) (fun _ => rfl) (fun b330 => ?_) (fun b330 => ?_)
      · refine Ev.fin (k := 2) (r := (some (Vi 1))) (h' := ((SHv st dr rd), (ovl a s bq57))) (fun _ => rfl) ?_
        refine ⟨1, _, rfl, Or.inr rfl, rfl, Or.inr ⟨(fltT W 1 p), ?_, (hbq57.bk ((KpM.rf : KpM j c om f b b).up (by omega)))⟩⟩
        unfold prtT
        rw [if_neg (by omega), if_neg (by omega), if_neg (by omega), if_neg (by omega)]
        unfold parT opnT
        rw [if_pos (by omega), bnX_e]
      · have := hbq57.2.2.1; omega
    · exact absurd (Classical.not_not.mp b283) h3
  · refine Ev.call (k := 5) (pc1 := 42) (L1 := [Vr 166, Vi (f : Int), Vi 1, Vx]) (S1 := [Vl 7237492, Vr 166]) (h1 := ((SHv st dr rd), (ovl a s b))) (m' := 162) (as := [Vr 166, Vl 7237492]) (S' := []) (L0 := [Vr 166, Vl 7237492, Vx]) (fun _ => rfl) rfl rfl rfl rfl rfl rfl (k_isWord (b := b) hk 15 (by decide) 7237492 (by decide)) (fun r h' hq => ?_)
    obtain ⟨rfl, rfl⟩ := hq
    rw [if_neg (by omega)]
    show Ev X _ _ 45 [Vr 166, Vi (f : Int), Vi 1, Vx] [Vi 0] ((SHv st dr rd), (ovl a s b)) _
    refine Ev.steps (k := 5) (pc' := 66) (L' := [Vr 166, Vi (f : Int), Vi 1, Vx]) (S' := [Vi 0, Vi (f : Int), Vr 195]) (h' := ((SHv st dr rd), (ovl a s b))) (fun _ => rfl) ?_
    refine Ev.zast (c' := (ovl a s (updC b 195 f 0))) rfl (by decide) rfl (by omega) (by omega) (by omega) (ovl_wm (by decide)) ?_
    refine Ev.call (k := 4) (pc1 := 74) (L1 := [Vr 166, Vi (f : Int), Vi 1, Vx]) (S1 := [Vi 91, Vr 166]) (h1 := ((SHv st dr rd), (ovl a s (updC b 195 f 0)))) (m' := 174) (as := [Vr 166, Vi 91]) (S' := []) (L0 := [Vr 166, Vi 91]) (fun _ => rfl) rfl rfl rfl rfl rfl rfl (k_isSign (b := (updC b 195 f 0)) (hk.up (by omega)) 91 (by decide)) (fun r h' hq => ?_)
    obtain ⟨rfl, rfl⟩ := hq
    rw [if_neg (by omega)]
    show Ev X _ _ 77 [Vr 166, Vi (f : Int), Vi 1, Vx] [Vi 0] ((SHv st dr rd), (ovl a s (updC b 195 f 0))) _
    refine Ev.call (k := 5) (pc1 := 95) (L1 := [Vr 166, Vi (f : Int), Vi 1, Vx]) (S1 := [Vl 6384748, Vr 166]) (h1 := ((SHv st dr rd), (ovl a s (updC b 195 f 0)))) (m' := 162) (as := [Vr 166, Vl 6384748]) (S' := []) (L0 := [Vr 166, Vl 6384748, Vx]) (fun _ => rfl) rfl rfl rfl rfl rfl rfl (k_isWord (b := (updC b 195 f 0)) (hk.up (by omega)) 16 (by decide) 6384748 (by decide)) (fun r h' hq => ?_)
    obtain ⟨rfl, rfl⟩ := hq
    rw [if_neg (by omega)]
    show Ev X _ _ 98 [Vr 166, Vi (f : Int), Vi 1, Vx] [Vi 0] ((SHv st dr rd), (ovl a s (updC b 195 f 0))) _
    refine Ev.call (k := 4) (pc1 := 125) (L1 := [Vr 166, Vi (f : Int), Vi 1, Vx]) (S1 := [Vr 166]) (h1 := ((SHv st dr rd), (ovl a s (updC b 195 f 0)))) (m' := 177) (as := [Vr 166]) (S' := []) (L0 := [Vr 166, Vx, Vx, Vx]) (fun _ => rfl) rfl rfl rfl rfl rfl rfl (m_fact_no (b := (updC b 195 f 0)) (hk.up (by omega)) (by omega)) (fun r h' hq => ?_)
    obtain ⟨rfl, rfl⟩ := hq
    show Ev X _ _ 128 [Vr 166, Vi (f : Int), Vi 1, Vx] [Vi 0] ((SHv st dr rd), (ovl a s (updC b 195 f 0))) _
    refine Ev.call (k := 3) (pc1 := 143) (L1 := [Vr 166, Vi (f : Int), Vi 1, Vx]) (S1 := [Vi 40, Vr 166]) (h1 := ((SHv st dr rd), (ovl a s (updC b 195 f 0)))) (m' := 174) (as := [Vr 166, Vi 40]) (S' := []) (L0 := [Vr 166, Vi 40]) (fun _ => rfl) rfl rfl rfl rfl rfl rfl (k_isSign (b := (updC b 195 f 0)) (hk.up (by omega)) 40 (by decide)) (fun r h' hq => ?_)
    obtain ⟨rfl, rfl⟩ := hq
    rw [if_neg (by omega)]
    show Ev X _ _ 146 [Vr 166, Vi (f : Int), Vi 1, Vx] [Vi 0] ((SHv st dr rd), (ovl a s (updC b 195 f 0))) _
    refine Ev.call (k := 3) (pc1 := 160) (L1 := [Vr 166, Vi (f : Int), Vi 1, Vx]) (S1 := [Vl 7170414, Vr 166]) (h1 := ((SHv st dr rd), (ovl a s (updC b 195 f 0)))) (m' := 162) (as := [Vr 166, Vl 7170414]) (S' := []) (L0 := [Vr 166, Vl 7170414, Vx]) (fun _ => rfl) rfl rfl rfl rfl rfl rfl (k_isWord (b := (updC b 195 f 0)) (hk.up (by omega)) 25 (by decide) 7170414 (by decide)) (fun r h' hq => ?_)
    obtain ⟨rfl, rfl⟩ := hq
    rw [if_neg (by omega)]
    show Ev X _ _ 163 [Vr 166, Vi (f : Int), Vi 1, Vx] [Vi 0] ((SHv st dr rd), (ovl a s (updC b 195 f 0))) _
    refine Ev.call (k := 3) (pc1 := 170) (L1 := [Vr 166, Vi (f : Int), Vi 1, Vx]) (S1 := [Vl 7168376, Vr 166]) (h1 := ((SHv st dr rd), (ovl a s (updC b 195 f 0)))) (m' := 162) (as := [Vr 166, Vl 7168376]) (S' := []) (L0 := [Vr 166, Vl 7168376, Vx]) (fun _ => rfl) rfl rfl rfl rfl rfl rfl (k_isWord (b := (updC b 195 f 0)) (hk.up (by omega)) 26 (by decide) 7168376 (by decide)) (fun r h' hq => ?_)
    obtain ⟨rfl, rfl⟩ := hq
    rw [if_neg (by omega)]
    show Ev X _ _ 173 [Vr 166, Vi (f : Int), Vi 1, Vx] [Vi 0] ((SHv st dr rd), (ovl a s (updC b 195 f 0))) _
    refine Ev.call (k := 3) (pc1 := 246) (L1 := [Vr 166, Vi (f : Int), Vi 1, Vx]) (S1 := [Vl 1836019556, Vr 166]) (h1 := ((SHv st dr rd), (ovl a s (updC b 195 f 0)))) (m' := 162) (as := [Vr 166, Vl 1836019556]) (S' := []) (L0 := [Vr 166, Vl 1836019556, Vx]) (fun _ => rfl) rfl rfl rfl rfl rfl rfl (k_isWord (b := (updC b 195 f 0)) (hk.up (by omega)) 24 (by decide) 1836019556 (by decide)) (fun r h' hq => ?_)
    obtain ⟨rfl, rfl⟩ := hq
    rw [if_neg (by omega)]
    show Ev X _ _ 249 [Vr 166, Vi (f : Int), Vi 1, Vx] [Vi 0] ((SHv st dr rd), (ovl a s (updC b 195 f 0))) _
    refine Ev.ite (P := (b 166 3) ≠ 2) (k := 5) (a := 298) (b := 286) (L' := [Vr 166, Vi (f : Int), Vi 1, Vx]) (S' := []) (h' := ((SHv st dr rd), (ovl a s (updC b 195 f 0)))) (fun _ => rfl) (fun b283 => ?_) (fun b283 => ?_)
    · refine Ev.call (k := 2) (pc1 := 302) (L1 := [Vr 166, Vi (f : Int), Vi 1, Vx]) (S1 := [Vl 120299592184933, Vr 166]) (h1 := ((SHv st dr rd), (ovl a s (updC b 195 f 0)))) (m' := 162) (as := [Vr 166, Vl 120299592184933]) (S' := []) (L0 := [Vr 166, Vl 120299592184933, Vx]) (fun _ => rfl) rfl rfl rfl rfl rfl rfl (k_isWord (b := (updC b 195 f 0)) (hk.up (by omega)) 23 (by decide) 120299592184933 (by decide)) (fun r h' hq => ?_)
      obtain ⟨rfl, rfl⟩ := hq
      rw [if_neg (by omega)]
      show Ev X _ _ 305 [Vr 166, Vi (f : Int), Vi 1, Vx] [Vi 0] ((SHv st dr rd), (ovl a s (updC b 195 f 0))) _
      refine Ev.steps (k := 5) (pc' := 323) (L' := [Vr 166, Vi (f : Int), Vi 1, Vx]) (S' := [Vi (b 166 4), Vi 1, Vr 166]) (h' := ((SHv st dr rd), (ovl a s (updC b 195 f 0)))) (fun _ => rfl) ?_
      rw [hk.2.2.2.2.1]
      refine Ev.call (k := 0) (pc1 := 323) (L1 := [Vr 166, Vi (f : Int), Vi 1, Vx]) (S1 := [Vi ((tA W p : Nat) : Int), Vi 1, Vr 166]) (h1 := ((SHv st dr rd), (ovl a s (updC b 195 f 0)))) (m' := 160) (as := [Vr 166, Vi 1, Vi ((tA W p : Nat) : Int)]) (S' := []) (L0 := [Vr 166, Vi 1, Vi ((tA W p : Nat) : Int)]) (fun _ => rfl) rfl rfl rfl rfl rfl rfl (m_bl (b := (updC b 195 f 0)) (hk.up (by omega)) 1 (by decide)) (fun r h' hq => ?_)
      obtain ⟨rfl, bq58, rfl, hbq58⟩ := hq
      show Ev X _ _ 326 [Vr 166, Vi (f : Int), Vi 1, Vx] [] ((SHv st dr rd), (ovl a s bq58)) _
      refine Ev.steps (k := 2) (pc' := 330) (L' := [Vr 166, Vi (f : Int), Vi 1, Vx]) (S' := [Vi (bq58 166 8)]) (h' := ((SHv st dr rd), (ovl a s bq58))) (fun _ => rfl) ?_
      rw [hbq58.2.2.2.1]
      refine Ev.ite (P := (fltT W 1 p).1 ≠ 0) (k := 1) (a := 337) (b := 333) (L' := [Vr 166, Vi (f : Int), Vi 1, Vx]) (S' := []) (h' := ((SHv st dr rd), (ovl a s bq58))) (fun _ => rfl) (fun b330 => ?_) (fun b330 => ?_)
      · refine Ev.fin (k := 2) (r := (some (Vi 1))) (h' := ((SHv st dr rd), (ovl a s bq58))) (fun _ => rfl) ?_
        refine ⟨1, _, rfl, Or.inr rfl, rfl, Or.inr ⟨(fltT W 1 p), ?_, (hbq58.bk ((KpM.rf : KpM j c om f b b).up (by omega)))⟩⟩
        unfold prtT
        rw [if_neg (by omega), if_neg (by omega), if_neg (by omega), if_neg (by omega)]
        unfold parT opnT
        rw [if_pos (by omega), bnX_e]
      · have := hbq58.2.2.1; omega
    · exact absurd (Classical.not_not.mp b283) h3
