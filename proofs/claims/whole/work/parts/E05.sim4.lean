/-! THE REFERENCE READS: sums and tests, whole -/
variable {X : List Int} {d : Nat} {st dr rd t : Int} {a s b : C3} {Q : Option pm_V → pm_H → Prop} {W : TXT} {S : STY} {j f : Nat}
theorem pr_le {P : PRS} {ty : Bool} (h : PrO W S ty P) : ∀ p l p1, p ≤ W.2 → tC W p ≠ 303 → P p = .ok (l, p1) → p ≤ p1 := fun p l p1 h1 h2 h3 => by
  have := (h p l p1 h1 h2 h3).1
  omega
theorem prtT_par {N : SC} {K : Nat} {I : PRS} {p : Nat} (h1 : tC W p ≠ 301) (h2 : tC W p ≠ 279) (h3 : tC W p ≠ 280) (h4 : ¬ (tC W p = 281 ∨ tC W p = 282)) : prtT W N K I p = parT W K I p := by
  unfold prtT
  rw [if_neg h1, if_neg h2, if_neg h3, if_neg h4]
theorem sim_prt {K : Nat} {I : PRS} (hT : TxO W) (hf : f + K = 8) (hI : K ≠ 0 → ∀ p, SimA X d st dr rd t a s Q W S.1 j (f + 1) 5 5 3 false I p) (hPr : K ≠ 0 → PrO W S false I) (hE : K ≠ 0 → EnA W I) (p : Nat) : SimA X d st dr rd t a s Q W S.1 j f 7 7 5 false (prtT W S.1 K I) p := by
  have hP := prtT_pr (W := W) (S := S) hT hPr
  intro c om b hS
  have hk := hS.1
  have hpW := hk.2.2.2.2.2.2.1
  have h302 : tC W p ≠ 302 → p < 1200 := fun h => by
    have := tok_lt hpW hT h hk.2.2.2.2.2.1
    have := tok_rg hpW hT
    have := hT.1
    omega
  by_cases h1 : tC W p = 301
  · exact sim_leaf hP (by omega) (fun c om b hS hc ho => by
      obtain ⟨s1, s2, s3, s4, s5, s6, s7, -, s9, s10, s11⟩ := hS
      have g := s1.2.2.2.2.2.2.2.2.2.2 h1
      exact m_op_num s1 s2 s3 s4 s5 s6 (by omega) hc ho h1 g.1 g.2) (h302 (by omega)) (by omega) c om b hS
  · by_cases h2 : tC W p = 279
    · exact sim_leaf hP (by omega) (fun c om b hS hc ho => by
        obtain ⟨s1, s2, s3, s4, s5, s6, s7, -, s9, s10, s11⟩ := hS
        exact m_op_min s1 s2 s3 s4 s5 s6 (by omega) hc ho h2 (s1.n2 h1)) (h302 (by omega)) (by omega) c om b hS
    · by_cases h3 : tC W p = 280
      · exact sim_leaf hP (by omega) (fun c om b hS hc ho => by
          obtain ⟨s1, s2, s3, s4, s5, s6, s7, -, s9, s10, s11⟩ := hS
          exact m_op_moo s1 s2 s3 s4 s5 s6 (by omega) hc ho h3) (h302 (by omega)) (by omega) c om b hS
      · by_cases h4 : tC W p = 281 ∨ tC W p = 282
        · have e : prtT W S.1 K I p = paiT W K I p := by
            unfold prtT
            rw [if_neg h1, if_neg h2, if_neg h3, if_pos h4]
          rcases h4 with h | h
          · exact ((sim_pai (v := 5) (op := 20) hf (by omega) hI (fun k => pr_le (hPr k)) hE (Or.inl ⟨h, rfl⟩)).cg e) c om b hS
          · exact ((sim_pai (v := 5) (op := 21) hf (by omega) hI (fun k => pr_le (hPr k)) hE (Or.inr ⟨h, rfl⟩)).cg e) c om b hS
        · by_cases h5 : tC W p = 40
          · exact ((sim_par (v := 5) hf (by omega) hI (fun k => pr_le (hPr k)) hE h5).cg (prtT_par h1 h2 h3 h4)) c om b hS
          · intro K1 K2
            obtain ⟨s1, s2, s3, s4, s5, s6, s7, -, s9, s10, s11⟩ := hS
            refine m_rdO s7 (m_op_err (K := K) (I := I) s1 s2 s3 s4 s5 s6 (by omega) ⟨by omega, h1, h5⟩ (s1.n2 h1) s11.2) (fun v' b1 hR => ?_)
            rcases hR with ⟨r, hx, hF⟩ | ⟨e, hx, hb⟩
            · exact hF.elim
            · exact Or.inr ⟨by rw [hb.2.2.2.1]; exact hb.2.2.1, K2 e _ hx (hb.up (by omega))⟩
theorem rk_A (c : Nat) (h : opA c ≠ 0) : rkM ((opA c : Nat) : Int) = ((5 : Nat) : Int) ∧ c ≠ 302 ∧ c ≠ 303 := by
  have := opA_o (S := styO) c h
  refine ⟨?_, this.1, this.2.1⟩
  unfold opA at h ⊢
  by_cases h1 : c = 43
  · rw [if_pos h1]; rfl
  · rw [if_neg h1] at h ⊢
    by_cases h2 : c = 45
    · rw [if_pos h2]; rfl
    · rw [if_neg h2] at h; exact absurd rfl h
theorem rk_M (c : Nat) (h : opM c ≠ 0) : rkM ((opM c : Nat) : Int) = ((6 : Nat) : Int) ∧ c ≠ 302 ∧ c ≠ 303 := by
  have := opM_o (S := styO) c h
  refine ⟨?_, this.1, this.2.1⟩
  unfold opM at h ⊢
  by_cases h1 : c = 42
  · rw [if_pos h1]; rfl
  · rw [if_neg h1] at h ⊢
    by_cases h2 : c = 47
    · rw [if_pos h2]; rfl
    · rw [if_neg h2] at h ⊢
      by_cases h3 : c = 37
      · rw [if_pos h3]; rfl
      · rw [if_neg h3] at h; exact absurd rfl h
theorem rk_B (c : Nat) (h : opB c ≠ 0) : rkM ((opB c : Nat) : Int) = ((2 : Nat) : Int) ∧ c ≠ 302 ∧ c ≠ 303 := by
  have := opB_o (S := styO) c h
  refine ⟨?_, this.1, this.2.1⟩
  unfold opB at h ⊢
  by_cases h1 : c = 270
  · rw [if_pos h1]; rfl
  · rw [if_neg h1] at h; exact absurd rfl h
theorem rk_O (c : Nat) (h : opO c ≠ 0) : rkM ((opO c : Nat) : Int) = ((1 : Nat) : Int) ∧ c ≠ 302 ∧ c ≠ 303 := by
  have := opO_o (S := styO) c h
  refine ⟨?_, this.1, this.2.1⟩
  unfold opO at h ⊢
  by_cases h1 : c = 269
  · rw [if_pos h1]; rfl
  · rw [if_neg h1] at h; exact absurd rfl h
theorem sumG_enA {K : Nat} {I : PRS} (hT : TxO W) (hPr : K ≠ 0 → PrO W S false I) : EnA W (sumG W S.1 K I) := by
  have h1 := prtT_pr (W := W) (S := S) hT hPr
  have h2 := chnT_en hT h1 (opM_o (S := S))
  have h3 := chnT_en hT (chnT_pr hT h1 opM_o) (opA_o (S := S))
  exact ⟨h3.1, h3.2 _ h2.1⟩
theorem sim_sumG {K : Nat} {I : PRS} (hT : TxO W) (hf : f + K = 8) (hI : K ≠ 0 → ∀ p, SimA X d st dr rd t a s Q W S.1 j (f + 1) 5 5 3 false I p) (hPr : K ≠ 0 → PrO W S false I) (hE : K ≠ 0 → EnA W I) (p : Nat) : SimA X d st dr rd t a s Q W S.1 j f 5 5 3 false (sumG W S.1 K I) p := by
  have h1 := prtT_pr (W := W) (S := S) hT hPr
  exact sim_chn rk_A hgo_A (by omega) (by omega) (sim_chn rk_M hgo_M (by omega) (by omega) (sim_prt hT hf hI hPr hE) (pr_le h1)) (pr_le (chnT_pr hT h1 opM_o)) p
theorem sim_sum (hT : TxO W) : ∀ (K f : Nat), f + K = 8 → (∀ p, SimA X d st dr rd t a s Q W S.1 j f 5 5 3 false (sumT W S.1 K) p) ∧ EnA W (sumT W S.1 K)
  | 0, f, hf => ⟨sim_sumG hT hf (fun h => absurd rfl h) (fun h => absurd rfl h) (fun h => absurd rfl h), sumG_enA (S := S) hT (fun h => absurd rfl h)⟩
  | K + 1, f, hf => by
    have ih := sim_sum hT K (f + 1) (by omega)
    exact ⟨sim_sumG hT hf (fun _ => ih.1) (fun _ => sumT_pr hT K) (fun _ => ih.2), sumG_enA (S := S) hT (fun _ => sumT_pr hT K)⟩
/-- a comparison -/
theorem sim_cmp {Sm : PRS} {p : Nat} (hT : TxO W) (hf : f ≤ 8) (hSm : ∀ p, SimA X d st dr rd t a s Q W S.1 j f 5 5 3 false Sm p) (hPr : PrO W S false Sm) (hE : EnA W Sm) (hct : tC W p ≠ 91 ∧ (tC W p < 271 ∨ 278 < tC W p)) : SimA X d st dr rd t a s Q W S.1 j f 4 4 2 true (cmpT W Sm) p := by
  intro c om b hS K1 K2
  obtain ⟨s1, s2, s3, s4, s5, s6, s7, ⟨bs, t1, t2, t3⟩, s9, s10, s11⟩ := hS
  have hT1 := hT.1
  have hpW := s1.2.2.2.2.2.2.1
  have hp3 := s1.2.2.2.2.2.1
  refine hSm p c om b ⟨s1, s2, s3, s4, s5, s6, s7, ⟨bs, t1, t2, by omega⟩, s9, by omega, ⟨Or.inl s11.2.1, Or.inr (Or.inr hct)⟩⟩ (fun l p1 b1 hx hA => ?_) (fun e b1 hx hb => K2 e b1 (by unfold cmpT; rw [hx, bnX_e]) hb)
  have n1 := hE.1 p l p1 hpW hp3 hx
  have n2 := hE.2 p l p1 hpW hp3 hx
  have hle1 := (hPr p l p1 hpW hp3 hx).1
  obtain ⟨a1, a2, a3, a4, a5, a6, a7, l1, pd, q1, q2, q3, q4, q5, q6, q7⟩ := hA
  have a6 : b1 194 f = b 194 f ∧ b1 195 f = 0 := a6
  have p1W := a2.2.2.2.2.2.2.1
  have hlen : l.length = l1.length + pd.length := by rw [q1, List.length_append, opL_len]
  have hN1 := s2.fR a1.fr
  have e193 := a1 193 f (by omega) (by omega) (by omega) (by omega) (by omega)
  have e197 := (a1 197 f (by omega) (by omega) (by omega) (by omega) (by omega)).trans t1
  have hna := op_na n1 n2
  have h194 : b1 194 f = 0 := a6.1.trans s11.2.1
  have hlo : om = bs ∨ rkM (b1 198 (om - 1)) < 5 := by
    by_cases h1 : om = bs
    · exact Or.inl h1
    · refine Or.inr ?_
      rw [a1 198 (om - 1) (by omega) (by omega) (by omega) (by omega) (by omega)]
      rcases t3 with h | h
      · exact absurd h h1
      · omega
  by_cases h0 : opC (tC W p1) = 0
  · have hc0 := opC_0 h0
    have hcs : tC W p1 ≠ 43 ∧ tC W p1 ≠ 45 ∧ tC W p1 ≠ 42 ∧ tC W p1 ≠ 47 ∧ tC W p1 ≠ 37 ∧ tC W p1 ≠ 60 ∧ tC W p1 ≠ 62 ∧ tC W p1 ≠ 61 := ⟨hna.1, hna.2.1, hna.2.2.1, hna.2.2.2.1, hna.2.2.2.2, hc0.1, hc0.2.1, hc0.2.2⟩
    have fin : ∀ (v : Int) (b2 : C3), BkM W j (c + l1.length) b1 (fltT W 1 p1) b2 → (v = 1 ∧ b2 166 8 = 0 ∧ Ev X (d + 5) 169 43 [Vr 166, Vi t, Vi 1] [] (SHv st dr rd, ovl a s b2) Q) ∨ ((v = 0 ∨ 0 < b2 166 8) ∧ Q none (SHv st dr rd, ovl a s b2)) := fun v b2 hb => Or.inr ⟨Or.inr (by rw [hb.2.2.2.1]; exact hb.2.2.1), K2 (fltT W 1 p1) b2 (by unfold cmpT; rw [hx, bnX_o, if_pos h0]) (hb.wk a1.fr (by omega))⟩
    rcases s11.1 with h | h
    · exact m_rdG a5 (m_go_w1 (c := c + l1.length) (om := om) (f := f) (bs := bs) (pd := pd) a2 hN1 q3 q5 a3 a4 hf e197 t2 q4 (by omega) (by omega) (e193.trans h) h194 ⟨n1, n2, h0⟩ hcs) fin
    · exact m_rdG a5 (m_go_w5 (c := c + l1.length) (om := om) (f := f) (bs := bs) (pd := pd) a2 hN1 q3 q5 a3 a4 hf e197 t2 q4 (by omega) (by omega) (e193.trans h) h194 ⟨n1, n2, h0⟩ hcs) fin
  · have hoc := opC_o (S := S) h0
    have hlt := tok_lt p1W hT hoc.1 hoc.2.1
    have hle := (tok_rg p1W hT).2
    have hgo : Ev X (d + 4) 178 0 [Vr 166, Vx, Vx, Vx, Vx] [] (SHv st dr rd, ovl a s b1) (fun rr hh => ∃ (v : Int) (b' : C3), rr = some (Vi v) ∧ (v = 0 ∨ v = 1) ∧ hh = (SHv st dr rd, ovl a s b') ∧ ResC (gotT W p1) (fun r => v = 1 ∧ GoM W j (c + l1.length) om f ((opC (tC W p1) : Nat) : Int) 1 (b1 195 f) pd r b1 b') (fun e => BkM W j (c + l1.length) b1 e b')) := by
      have hkd : b1 193 f = 1 ∨ b1 193 f = 5 := by rw [e193]; exact s11.1
      by_cases h1 : tC W p1 = 60
      · rw [show opC (tC W p1) = 22 by rw [h1]; rfl]
        exact m_go_60 a2 hN1 q3 q5 a3 a4 hf e197 t2 q4 (by omega) (by omega) q7 hlo hkd h194 h1
      · by_cases h2 : tC W p1 = 62
        · rw [show opC (tC W p1) = 23 by rw [h2]; rfl]
          exact m_go_62 a2 hN1 q3 q5 a3 a4 hf e197 t2 q4 (by omega) (by omega) q7 hlo hkd h194 h2
        · by_cases h3 : tC W p1 = 61
          · rw [show opC (tC W p1) = 24 by rw [h3]; rfl]
            exact m_go_61 a2 hN1 q3 q5 a3 a4 hf e197 t2 q4 (by omega) (by omega) q7 hlo hkd h194 h3
          · exact absurd (by unfold opC; rw [if_neg h1, if_neg h2, if_neg h3]) h0
    have hrk : rkM ((opC (tC W p1) : Nat) : Int) = 4 := by
      rcases (show opC (tC W p1) = 22 ∨ opC (tC W p1) = 23 ∨ opC (tC W p1) = 24 by omega) with h | h | h <;> (rw [h]; rfl)
    refine m_rdG a5 hgo (fun v' b2 hR => ?_)
    rcases hR with ⟨p2, hx2, rfl, hg⟩ | ⟨e, hx2, hb⟩
    · have hg0 := hg
      obtain ⟨g1, g2, g3, g4, g5, g6, g7, g8, g9, g10, g11⟩ := hg
      have hp2 := (got_ok hx2).1
      refine Or.inl ⟨rfl, g2.2.1, hSm p2 (c + l1.length + pd.length) (om + 1) b2 ⟨g2, hN1.fR g1.fr, g4, g5, g8, g9, g7, ⟨bs, ?_, by omega, Or.inr ?_⟩, by omega, by omega, ⟨Or.inr g10, Or.inr (Or.inl (g11.trans a6.2))⟩⟩ (fun l' p3 b3 hx3 hA3 => ?_) (fun e b3 hx3 hb3 => K2 e b3 (by unfold cmpT; rw [hx, bnX_o, if_neg h0, hx2, bnX_o, hx3, bnX_e]) (hb3.wk (a1.tr g1 (by omega) (Nat.le_refl _) (Nat.le_refl _)).fr (by omega)))⟩
      · rw [g1 197 f (by omega) (by omega) (by omega) (by omega) (by omega)]
        exact e197
      · rw [show om + 1 - 1 = om by omega, g6, hrk]
        decide
      have p2W := g2.2.2.2.2.2.2.1
      have p2t := g2.2.2.2.2.2.1
      have m1 := hE.1 p2 l' p3 p2W p2t hx3
      have m2 := hE.2 p2 l' p3 p2W p2t hx3
      have h6 : b3 194 f = b2 194 f ∧ b3 195 f = 0 := hA3.2.2.2.2.2.1
      refine K1 (l ++ (l' ++ [(opC (tC W p1), 0)])) p3 b3 (by unfold cmpT; rw [hx, bnX_o, if_neg h0, hx2, bnX_o, hx3, bnX_o]) ?_
      rw [q1]
      exact AftM.ext a1 q2 hg0 hA3 (by omega) (by rw [hrk]; decide) (show b3 194 f = 2 ∨ _ from Or.inr ⟨h6.1.trans g10, m1, m2⟩)
    · exact Or.inr ⟨Or.inr (by rw [hb.2.2.2.1]; exact hb.2.2.1), K2 e b2 (by unfold cmpT; rw [hx, bnX_o, if_neg h0, hx2, bnX_e]) (hb.wk a1.fr (by omega))⟩
theorem fbd_cs {N : SC} {K : Nat} {I Sm : PRS} {p : Nat} (h1 : ¬ (272 ≤ tC W p ∧ tC W p ≤ 278)) (h2 : tC W p ≠ 91) : fbdT W N K I Sm p = cmpT W Sm p := by
  unfold fbdT
  rw [if_neg h1, if_neg h2]
theorem sim_fbd {K : Nat} {I Sm : PRS} (hT : TxO W) (hN : WfN S) (hf : f + K = 8) (hI : K ≠ 0 → ∀ p, SimA X d st dr rd t a s Q W S.1 j (f + 1) 1 1 0 true I p) (hPI : K ≠ 0 → PrO W S true I) (hEI : K ≠ 0 → EnP W opB I ∧ EnP W opO I) (hSm : ∀ p, SimA X d st dr rd t a s Q W S.1 j f 5 5 3 false Sm p) (hPr : PrO W S false Sm) (hE : EnA W Sm) (p : Nat) (hp : tC W p ≠ 271) : SimA X d st dr rd t a s Q W S.1 j f 4 4 2 true (fbdT W S.1 K I Sm) p := by
  by_cases h1 : 272 ≤ tC W p ∧ tC W p ≤ 278
  · have e : fbdT W S.1 K I Sm p = simT W S.1 p := by
      unfold fbdT
      rw [if_pos h1]
    intro c om b hS K1 K2
    obtain ⟨s1, s2, s3, s4, s5, s6, s7, ⟨bs, t1, t2, t3⟩, s9, s10, s11⟩ := hS
    have hT1 := hT.1
    have hpW := s1.2.2.2.2.2.2.1
    have hlt := tok_lt hpW hT (by omega) (by omega)
    have hle := (tok_rg hpW hT).2
    have H : Ev X (d + 4) 171 0 [Vr 166, Vx, Vx, Vx] [] (SHv st dr rd, ovl a s b) (fun rr hh => ∃ (v : Int) (b' : C3), rr = some (Vi v) ∧ (v = 0 ∨ v = 1) ∧ hh = (SHv st dr rd, ovl a s b') ∧ ResC (simT W S.1 p) (fun r => v = 1 ∧ LfM W j c om f true r.1 r.2 b b') (fun e => BkM W j c b e b')) := by
      by_cases h2 : tC W p = 272
      · exact m_op_all s1 s2 s3 s4 s5 s6 (by omega) (by omega) (by omega) s11.1 s11.2.2 h2
      · exact m_op_fac s1 s2 s3 s4 s5 s6 (by omega) (by omega) (by omega) s11.1 s11.2.2 ⟨by omega, h1.2⟩
    refine m_rdO s7 H (fun v b' hR => ?_)
    rcases hR with ⟨⟨l, p1⟩, hx, rfl, hl⟩ | ⟨e', hx, hb⟩
    · have hpr := (simT_pr hT hN p l p1 hpW h1.1 h1.2 hx).1
      exact Or.inl ⟨hl.2.1.2.1, K1 l p1 _ (e.trans hx) (hl.af (by show c + om + l.length ≤ p1; omega) (by show 3 * om ≤ p1 + 15 * f + 15; omega))⟩
    · exact Or.inr ⟨by rw [hb.2.2.2.1]; exact hb.2.2.1, K2 e' _ (e.trans hx) (hb.up (by omega))⟩
  · by_cases h2 : tC W p = 91
    · have e : fbdT W S.1 K I Sm p = brkT W K I p := by
        unfold fbdT
        rw [if_neg h1, if_pos h2]
      exact (sim_brk hf (by omega) hI (fun k => pr_le (hPI k)) hEI h2).cg e
    · exact (sim_cmp hT (by omega) hSm hPr hE ⟨h2, by omega⟩).cg (fbd_cs h1 h2)
/-- nots -/
theorem sim_fct {Bd : PRS} (hT : TxO W) (hf : f ≤ 8) (hB : ∀ p, tC W p ≠ 271 → SimA X d st dr rd t a s Q W S.1 j f 4 4 2 true Bd p) : ∀ (F p : Nat), W.2 ≤ p + F → SimA X d st dr rd t a s Q W S.1 j f 4 3 2 true (fctT W Bd F) p
  | 0, p, hF => by
    intro c om b hS
    have hpW := hS.1.2.2.2.2.2.2.1
    have h3 := hS.1.2.2.2.2.2.1
    have hne : tC W p ≠ 271 := fun h => by
      have := tok_lt hpW hT (by omega) h3
      have := tok_rg hpW hT
      omega
    exact ((hB p hne).wk (Nat.le_refl _) (by omega) (Nat.le_refl _)) c om b hS
  | F + 1, p, hF => by
    have heq : fctT W Bd (F + 1) p = if tC W p = 271 then bnX (gotT W p) (fun p1 => bnX (fctT W Bd F p1) (fun r => .ok (r.1 ++ [(27, 0)], r.2))) else Bd p := rfl
    by_cases h0 : tC W p = 271
    · rw [if_pos h0] at heq
      intro c om b hS K1 K2
      obtain ⟨s1, s2, s3, s4, s5, s6, s7, ⟨bs, t1, t2, t3⟩, s9, s10, s11⟩ := hS
      have hT1 := hT.1
      have hpW := s1.2.2.2.2.2.2.1
      have hlt := tok_lt hpW hT (by omega) (by omega)
      have htk := tok_pr hpW hT
      have h3b := htk.2.2.2.2.1 h0
      refine m_rdO s7 (m_op_not s1 s2 s3 s4 s5 s6 hf (by omega) (by omega) s11.1 s11.2.2 h0) (fun v b1 hR => ?_)
      rcases hR with ⟨p1, hx, rfl, ho⟩ | ⟨e, hx, hb⟩
      · have hp1 := (got_ok hx).1
        have hg : GoM W j c om f ((27 : Nat) : Int) 0 1 [] p1 b (updC b1 166 49 0) := GoM.nx ho (((KpM.rf : KpM j c om f b b).up (by omega)).up (by omega)) trivial ((updC_nt (by omega)).trans ((updC_nt (by omega)).trans s3)) (by rw [updC_sm]; first | done | omega) (by rw [updC_nt (by omega), updC_sm]; first | done | rfl) (by rw [updC_nt (by omega), updC_nt (by omega)]; exact s5) (by rw [updC_nt (by omega), updC_nt (by omega)]; exact s6) (by rw [updC_nt (by omega), updC_nt (by omega)]; exact s11.2.1) (by rw [updC_nt (by omega), updC_nt (by omega)]; exact s11.2.2)
        have hg0 := hg
        obtain ⟨g1, g2, g3, g4, g5, g6, g7, g8, g9, g10, g11⟩ := hg
        refine Or.inl ⟨ho.2.2.1, sim_fct hT hf hB F p1 (by omega) c (om + 1) _ ⟨g2, s2.fR g1.fr, g4, g5, g8, g9, g7, ⟨bs, ?_, by omega, Or.inr ?_⟩, by omega, by omega, ⟨?_, g10, g11⟩⟩ (fun l p2 b2 hx2 hA => ?_) (fun e b2 hx2 hb2 => K2 e b2 (by rw [heq, hx, bnX_o, hx2, bnX_e]) (hb2.wk g1.fr (by omega)))⟩
        · rw [g1 197 f (by omega) (by omega) (by omega) (by omega) (by omega)]
          exact t1
        · rw [show om + 1 - 1 = om by omega, g6]
          decide
        · rw [g1 193 f (by omega) (by omega) (by omega) (by omega) (by omega)]
          exact s11.1
        · exact K1 (l ++ [(27, 0)]) p2 b2 (by rw [heq, hx, bnX_o, hx2, bnX_o]) (AftM.ext (l1 := []) (pd := []) KpM.rf trivial hg0 hA (Nat.le_refl _) (by decide) hA.2.2.2.2.2.1)
      · exact Or.inr ⟨by rw [hb.2.2.2.1]; exact hb.2.2.1, K2 e _ (by rw [heq, hx, bnX_e]) (hb.up (by omega))⟩
    · rw [if_neg h0] at heq
      exact ((hB p h0).wk (Nat.le_refl _) (by omega) (Nat.le_refl _)).cg heq
theorem tstG_enO {K : Nat} {I : PRS} (hT : TxO W) (hN : WfN S) (hI : K ≠ 0 → PrO W S true I) : EnP W opB (tstG W S.1 K I) ∧ EnP W opO (tstG W S.1 K I) := by
  have h1 := fctT_pr (W := W) (S := S) hT (fbdT_pr hT hN hI (sumT_pr hT K)) 1200
  have h2 := chnT_en hT h1 (opB_o (S := S))
  have h3 := chnT_en hT (chnT_pr hT h1 opB_o) (opO_o (S := S))
  exact ⟨h3.2 _ h2.1, h3.1⟩
theorem sim_tstG {K : Nat} {I : PRS} (hT : TxO W) (hN : WfN S) (hf : f + K = 8) (hI : K ≠ 0 → ∀ p, SimA X d st dr rd t a s Q W S.1 j (f + 1) 1 1 0 true I p) (hPr : K ≠ 0 → PrO W S true I) (hE : K ≠ 0 → EnP W opB I ∧ EnP W opO I) (p : Nat) : SimA X d st dr rd t a s Q W S.1 j f 1 1 0 true (tstG W S.1 K I) p := by
  have h0 := fbdT_pr (W := W) (S := S) hT hN hPr (sumT_pr hT K)
  have h1 := fctT_pr (W := W) (S := S) hT h0 1200
  have hs := sim_sum (X := X) (d := d) (st := st) (dr := dr) (rd := rd) (t := t) (a := a) (s := s) (Q := Q) (S := S) (j := j) hT K f hf
  have hT1 := hT.1
  refine sim_chn rk_O hgo_O (by omega) (by omega) (sim_chn rk_B hgo_B (by omega) (by omega) (fun p => ?_) (pr_le h1)) (pr_le (chnT_pr hT h1 opB_o)) p
  exact (sim_fct hT (by omega) (sim_fbd hT hN hf hI hPr hE hs.1 (sumT_pr hT K) hs.2) 1200 p (by omega)).wk (by omega) (Nat.le_refl _) (Nat.le_refl _)
theorem sim_tst (hT : TxO W) (hN : WfN S) : ∀ (K f : Nat), f + K = 8 → (∀ p, SimA X d st dr rd t a s Q W S.1 j f 1 1 0 true (tstT W S.1 K) p) ∧ (EnP W opB (tstT W S.1 K) ∧ EnP W opO (tstT W S.1 K))
  | 0, f, hf => ⟨sim_tstG hT hN hf (fun h => absurd rfl h) (fun h => absurd rfl h) (fun h => absurd rfl h), tstG_enO hT hN (fun h => absurd rfl h)⟩
  | K + 1, f, hf => by
    have ih := sim_tst hT hN K (f + 1) (by omega)
    exact ⟨sim_tstG hT hN hf (fun _ => ih.1) (fun _ => tstT_pr hT hN K) (fun _ => ih.2), tstG_enO hT hN (fun _ => tstT_pr hT hN K)⟩
/-- a sum or a test has been read -/
abbrev RdM (W : TXT) (j c : Nat) (b : SC) (l : List (Nat × Nat)) (p : Nat) (b' : SC) : Prop := FrR j c b b' ∧ TkM W p b' ∧ codM (b' 191) (b' 192) (1200 * j + c) l ∧ b' 166 38 = ((c + l.length : Nat) : Int) ∧ c + l.length ≤ p
theorem FrR.up {c o i : Nat} {b b' : SC} {v : Int} (h : FrR j c b b') (g : (o = 166 ∧ fxM i) ∨ (193 ≤ o ∧ o ≤ 198)) : FrR j c b (updC b' o i v) := fun o' i' g1 g2 g3 => by
  rw [updC_nt (fun q => ?_)]
  · exact h o' i' g1 g2 g3
  · obtain ⟨rfl, rfl⟩ := q
    rcases g with g | g
    · exact g1 g
    · exact g3 g
theorem jn_fr {c n : Nat} {b b' : SC} (h : JnF j c n b b') (hc : c + n ≤ 1200) : FrR j c b b' := (jn_kp (om := 0) (f := 0) h hc).fr
theorem m_reads_sum {c p : Nat} (hk : TkM W p b) (hNm : NmM S.1 b j) (e38 : b 166 38 = (c : Int)) (hc : c ≤ p) : Ev X (d + 5) 169 0 [Vr 166, Vi 0, Vx] [] (SHv st dr rd, ovl a s b) (fun rr hh => rr = none ∧ ∃ b' : C3, hh = (SHv st dr rd, ovl a s b') ∧ ResC (sumT W S.1 8 p) (fun r => RdM W j c b r.1 r.2 b') (fun e => BkM W j c b e b')) := by
  refine Ev.steps (k := 2) (pc' := 4) (L' := [Vr 166, Vi 0, Vx]) (S' := [Vi (b 166 8)]) (h' := ((SHv st dr rd), (ovl a s b))) (fun _ => rfl) ?_
  rw [hk.2.1]
  refine Ev.steps (k := 3) (pc' := 10) (L' := [Vr 166, Vi 0, Vx]) (S' := [Vi 0, Vr 166]) (h' := ((SHv st dr rd), (ovl a s b))) (fun _ => rfl) ?_
  refine Ev.putf (c' := (ovl a s (updC b 166 45 0))) rfl (by decide) rfl rfl rfl (ovl_wm (by decide)) ?_
  refine Ev.steps (k := 2) (pc' := 15) (L' := [Vr 166, Vi 0, Vx]) (S' := [Vi 0, Vr 166]) (h' := ((SHv st dr rd), (ovl a s (updC b 166 45 0)))) (fun _ => rfl) ?_
  refine Ev.putf (c' := (ovl a s (updC (updC b 166 45 0) 166 46 0))) rfl (by decide) rfl rfl rfl (ovl_wm (by decide)) ?_
  refine Ev.steps (k := 2) (pc' := 20) (L' := [Vr 166, Vi 0, Vx]) (S' := [Vi 0, Vr 166]) (h' := ((SHv st dr rd), (ovl a s (updC (updC b 166 45 0) 166 46 0)))) (fun _ => rfl) ?_
  refine Ev.putf (c' := (ovl a s (updC (updC (updC b 166 45 0) 166 46 0) 166 48 0))) rfl (by decide) rfl rfl rfl (ovl_wm (by decide)) ?_
  refine Ev.steps (k := 2) (pc' := 25) (L' := [Vr 166, Vi 0, Vx]) (S' := [Vi 0, Vr 166]) (h' := ((SHv st dr rd), (ovl a s (updC (updC (updC b 166 45 0) 166 46 0) 166 48 0)))) (fun _ => rfl) ?_
  refine Ev.putz (c' := (ovl a s (updC (updC (updC (updC b 166 45 0) 166 46 0) 166 48 0) 166 49 0))) rfl (by decide) rfl rfl rfl (by decide) (ovl_wm (by decide)) ?_
  refine Ev.call (k := 4) (pc1 := 38) (L1 := [Vr 166, Vi 0, Vx]) (S1 := [Vi 0, Vr 166]) (h1 := ((SHv st dr rd), (ovl a s (updC (updC (updC (updC b 166 45 0) 166 46 0) 166 48 0) 166 49 0)))) (m' := 170) (as := [Vr 166, Vi 0]) (S' := []) (L0 := [Vr 166, Vi 0]) (fun _ => rfl) rfl rfl rfl rfl rfl rfl (m_pushes (b := (updC (updC (updC (updC b 166 45 0) 166 46 0) 166 48 0) 166 49 0)) (om := 0) (dp := 0) rfl rfl (by omega) 0) (fun r h' hq => ?_)
  obtain ⟨rfl, rfl⟩ := hq
  show Ev X _ _ 41 [Vr 166, Vi 0, Vx] [] ((SHv st dr rd), (ovl a s (updC (updC (updC (updC (updC (updC (updC (updC (updC b 166 45 0) 166 46 0) 166 48 0) 166 49 0) 193 0 0) 194 0 0) 195 0 1) 197 0 0) 166 45 1))) _
  refine Ev.steps (k := 2) (pc' := 43) (L' := [Vr 166, Vi 0, Vi 1]) (S' := []) (h' := ((SHv st dr rd), (ovl a s (updC (updC (updC (updC (updC (updC (updC (updC (updC b 166 45 0) 166 46 0) 166 48 0) 166 49 0) 193 0 0) 194 0 0) 195 0 1) 197 0 0) 166 45 1)))) (fun _ => rfl) ?_
  obtain ⟨b1, hb1⟩ : ∃ b1, b1 = (updC (updC (updC (updC (updC (updC (updC (updC (updC b 166 45 0) 166 46 0) 166 48 0) 166 49 0) 193 0 0) 194 0 0) 195 0 1) 197 0 0) 166 45 1) := ⟨_, rfl⟩
  rw [← hb1]
  have k1 : FrR j c b b1 := by rw [hb1]; exact ((((((((((FrR.rf : FrR j c b b).up (by omega)).up (by omega)).up (by omega)).up (by omega)).up (by omega)).up (by omega)).up (by omega)).up (by omega)).up (by omega))
  have hk1 : TkM W p b1 := by rw [hb1]; exact (((((((((hk.up (by omega)).up (by omega)).up (by omega)).up (by omega)).up (by omega)).up (by omega)).up (by omega)).up (by omega)).up (by omega))
  have e38' : b1 166 38 = (c : Int) := by rw [hb1]; exact e38
  have e48 : b1 166 48 = ((0 : Nat) : Int) := by rw [hb1]; rfl
  have e45 : b1 166 45 = ((0 + 1 : Nat) : Int) := by rw [hb1]; rfl
  have e46 : b1 166 46 = ((0 : Nat) : Int) := by rw [hb1]; rfl
  have e49 : b1 166 49 = 0 := by rw [hb1]; rfl
  have e193 : b1 193 0 = 0 := by rw [hb1]; rfl
  have e194 : b1 194 0 = 0 := by rw [hb1]; rfl
  have e195 : b1 195 0 = 1 := by rw [hb1]; rfl
  have e197 : b1 197 0 = ((0 : Nat) : Int) := by rw [hb1]; rfl
  have hT := hk.1.1
  have hT1 := hT.1
  have hpW := hk.2.2.2.2.2.2.1
  have hp3 := hk.2.2.2.2.2.1
  have hs := sim_sum (X := X) (d := d) (st := st) (dr := dr) (rd := rd) (t := 0) (a := a) (s := s) (Q := fun rr hh => rr = none ∧ ∃ b' : C3, hh = (SHv st dr rd, ovl a s b') ∧ ResC (sumT W S.1 8 p) (fun r => RdM W j c b r.1 r.2 b') (fun e => BkM W j c b e b')) (S := S) (j := j) hT 8 0 rfl
  refine hs.1 p c 0 b1 ⟨hk1, hNm.fR k1, e38', e48, e45, e46, e49, ⟨0, e197, Nat.le_refl _, Or.inl rfl⟩, by omega, by omega, ⟨Or.inl e194, Or.inl ⟨by omega, by omega⟩⟩⟩ (fun l p1 b2 hx hA => ?_) (fun e b2 hx hb => ⟨rfl, b2, rfl, Or.inr ⟨e, hx, hb.wk k1 (Nat.le_refl _)⟩⟩)
  have n1 := hs.2.1 p l p1 hpW hp3 hx
  have n2 := hs.2.2 p l p1 hpW hp3 hx
  obtain ⟨a1, a2, a3, a4, a5, a6, a7, l1, pd, q1, q2, q3, q4, q5, q6, q7⟩ := hA
  have hlen : l.length = l1.length + pd.length := by rw [q1, List.length_append, opL_len]
  have p1W := a2.2.2.2.2.2.2.1
  have hle1 := (sumT_pr (S := S) hT 8 p l p1 hpW hp3 hx).1
  refine m_rdG a5 ((m_go_e0 (c := c + l1.length) (om := 0) (f := 0) (bs := 0) (pd := pd) a2 ((hNm.fR k1).fR a1.fr) q3 q5 a3 a4 (by omega) ((a1 197 0 (by omega) (by omega) (by omega) (by omega) (by omega)).trans e197) (Nat.le_refl _) q4 (by omega) (by omega) (fun op h => by have := q7 op h; omega) (Or.inl rfl) ((a1 193 0 (by omega) (by omega) (by omega) (by omega) (by omega)).trans e193) ((show b2 194 0 = b1 194 0 ∧ b2 195 0 = 0 from a6).1.trans e194) (op_na n1 n2)).mono (fun r h' hq => ?_)) (R := fun v b' => v = 0 ∧ codM (b' 191) (b' 192) (1200 * j + (c + l1.length)) (opL pd) ∧ b' 166 38 = ((c + l1.length + pd.length : Nat) : Int) ∧ JnF j (c + l1.length) pd.length b2 b') (fun v b3 hR => ?_)
  · obtain ⟨rfl, b3, rfl, h1, h2, h3⟩ := hq
    exact ⟨0, b3, rfl, Or.inl rfl, rfl, rfl, h1, h2, h3⟩
  · obtain ⟨rfl, h1, h2, h3⟩ := hR
    refine Or.inr ⟨Or.inl rfl, rfl, b3, rfl, Or.inl ⟨(l, p1), hx, ?_, jn_tk a2 h3, ?_, ?_, by dsimp only; omega⟩⟩
    · exact (k1.tr a1.fr (Nat.le_refl _)).tr (jn_fr h3 (by omega)) (by omega)
    · dsimp only
      rw [q1]
      refine codM_app _ _ _ (codM_cg l1 _ (fun i h4 h5 => ⟨h3 191 i (by omega) (by omega), h3 192 i (by omega) (by omega)⟩) q2) ?_
      rw [show 1200 * j + c + l1.length = 1200 * j + (c + l1.length) by omega]
      exact h1
    · dsimp only
      rw [h2, hlen]
      omega
theorem m_reads_tst {c p : Nat} (hk : TkM W p b) (hN : WfN S) (hNm : NmM S.1 b j) (e38 : b 166 38 = (c : Int)) (hc : c ≤ p) : Ev X (d + 5) 169 0 [Vr 166, Vi 1, Vx] [] (SHv st dr rd, ovl a s b) (fun rr hh => rr = none ∧ ∃ b' : C3, hh = (SHv st dr rd, ovl a s b') ∧ ResC (tstT W S.1 8 p) (fun r => RdM W j c b r.1 r.2 b') (fun e => BkM W j c b e b')) := by
  refine Ev.steps (k := 2) (pc' := 4) (L' := [Vr 166, Vi 1, Vx]) (S' := [Vi (b 166 8)]) (h' := ((SHv st dr rd), (ovl a s b))) (fun _ => rfl) ?_
  rw [hk.2.1]
  refine Ev.steps (k := 3) (pc' := 10) (L' := [Vr 166, Vi 1, Vx]) (S' := [Vi 0, Vr 166]) (h' := ((SHv st dr rd), (ovl a s b))) (fun _ => rfl) ?_
  refine Ev.putf (c' := (ovl a s (updC b 166 45 0))) rfl (by decide) rfl rfl rfl (ovl_wm (by decide)) ?_
  refine Ev.steps (k := 2) (pc' := 15) (L' := [Vr 166, Vi 1, Vx]) (S' := [Vi 0, Vr 166]) (h' := ((SHv st dr rd), (ovl a s (updC b 166 45 0)))) (fun _ => rfl) ?_
  refine Ev.putf (c' := (ovl a s (updC (updC b 166 45 0) 166 46 0))) rfl (by decide) rfl rfl rfl (ovl_wm (by decide)) ?_
  refine Ev.steps (k := 2) (pc' := 20) (L' := [Vr 166, Vi 1, Vx]) (S' := [Vi 0, Vr 166]) (h' := ((SHv st dr rd), (ovl a s (updC (updC b 166 45 0) 166 46 0)))) (fun _ => rfl) ?_
  refine Ev.putf (c' := (ovl a s (updC (updC (updC b 166 45 0) 166 46 0) 166 48 0))) rfl (by decide) rfl rfl rfl (ovl_wm (by decide)) ?_
  refine Ev.steps (k := 2) (pc' := 25) (L' := [Vr 166, Vi 1, Vx]) (S' := [Vi 0, Vr 166]) (h' := ((SHv st dr rd), (ovl a s (updC (updC (updC b 166 45 0) 166 46 0) 166 48 0)))) (fun _ => rfl) ?_
  refine Ev.putz (c' := (ovl a s (updC (updC (updC (updC b 166 45 0) 166 46 0) 166 48 0) 166 49 0))) rfl (by decide) rfl rfl rfl (by decide) (ovl_wm (by decide)) ?_
  refine Ev.call (k := 5) (pc1 := 38) (L1 := [Vr 166, Vi 1, Vx]) (S1 := [Vi 1, Vr 166]) (h1 := ((SHv st dr rd), (ovl a s (updC (updC (updC (updC b 166 45 0) 166 46 0) 166 48 0) 166 49 0)))) (m' := 170) (as := [Vr 166, Vi 1]) (S' := []) (L0 := [Vr 166, Vi 1]) (fun _ => rfl) rfl rfl rfl rfl rfl rfl (m_pushes (b := (updC (updC (updC (updC b 166 45 0) 166 46 0) 166 48 0) 166 49 0)) (om := 0) (dp := 0) rfl rfl (by omega) 1) (fun r h' hq => ?_)
  obtain ⟨rfl, rfl⟩ := hq
  show Ev X _ _ 41 [Vr 166, Vi 1, Vx] [] ((SHv st dr rd), (ovl a s (updC (updC (updC (updC (updC (updC (updC (updC (updC b 166 45 0) 166 46 0) 166 48 0) 166 49 0) 193 0 1) 194 0 0) 195 0 1) 197 0 0) 166 45 1))) _
  refine Ev.steps (k := 2) (pc' := 43) (L' := [Vr 166, Vi 1, Vi 1]) (S' := []) (h' := ((SHv st dr rd), (ovl a s (updC (updC (updC (updC (updC (updC (updC (updC (updC b 166 45 0) 166 46 0) 166 48 0) 166 49 0) 193 0 1) 194 0 0) 195 0 1) 197 0 0) 166 45 1)))) (fun _ => rfl) ?_
  obtain ⟨b1, hb1⟩ : ∃ b1, b1 = (updC (updC (updC (updC (updC (updC (updC (updC (updC b 166 45 0) 166 46 0) 166 48 0) 166 49 0) 193 0 1) 194 0 0) 195 0 1) 197 0 0) 166 45 1) := ⟨_, rfl⟩
  rw [← hb1]
  have k1 : FrR j c b b1 := by rw [hb1]; exact ((((((((((FrR.rf : FrR j c b b).up (by omega)).up (by omega)).up (by omega)).up (by omega)).up (by omega)).up (by omega)).up (by omega)).up (by omega)).up (by omega))
  have hk1 : TkM W p b1 := by rw [hb1]; exact (((((((((hk.up (by omega)).up (by omega)).up (by omega)).up (by omega)).up (by omega)).up (by omega)).up (by omega)).up (by omega)).up (by omega))
  have e38' : b1 166 38 = (c : Int) := by rw [hb1]; exact e38
  have e48 : b1 166 48 = ((0 : Nat) : Int) := by rw [hb1]; rfl
  have e45 : b1 166 45 = ((0 + 1 : Nat) : Int) := by rw [hb1]; rfl
  have e46 : b1 166 46 = ((0 : Nat) : Int) := by rw [hb1]; rfl
  have e49 : b1 166 49 = 0 := by rw [hb1]; rfl
  have e193 : b1 193 0 = 1 := by rw [hb1]; rfl
  have e194 : b1 194 0 = 0 := by rw [hb1]; rfl
  have e195 : b1 195 0 = 1 := by rw [hb1]; rfl
  have e197 : b1 197 0 = ((0 : Nat) : Int) := by rw [hb1]; rfl
  have hT := hk.1.1
  have hT1 := hT.1
  have hpW := hk.2.2.2.2.2.2.1
  have hp3 := hk.2.2.2.2.2.1
  have hs := sim_tst (X := X) (d := d) (st := st) (dr := dr) (rd := rd) (t := 1) (a := a) (s := s) (Q := fun rr hh => rr = none ∧ ∃ b' : C3, hh = (SHv st dr rd, ovl a s b') ∧ ResC (tstT W S.1 8 p) (fun r => RdM W j c b r.1 r.2 b') (fun e => BkM W j c b e b')) (S := S) (j := j) hT hN 8 0 rfl
  refine hs.1 p c 0 b1 ⟨hk1, hNm.fR k1, e38', e48, e45, e46, e49, ⟨0, e197, Nat.le_refl _, Or.inl rfl⟩, by omega, by omega, ⟨Or.inl e193, e194, e195⟩⟩ (fun l p1 b2 hx hA => ?_) (fun e b2 hx hb => ⟨rfl, b2, rfl, Or.inr ⟨e, hx, hb.wk k1 (Nat.le_refl _)⟩⟩)
  have n1 := hs.2.1 p l p1 hpW hp3 hx
  have n2 := hs.2.2 p l p1 hpW hp3 hx
  obtain ⟨a1, a2, a3, a4, a5, a6, a7, l1, pd, q1, q2, q3, q4, q5, q6, q7⟩ := hA
  have hlen : l.length = l1.length + pd.length := by rw [q1, List.length_append, opL_len]
  have p1W := a2.2.2.2.2.2.2.1
  have hle1 := (tstT_pr (S := S) hT hN 8 p l p1 hpW hp3 hx).1
  refine m_rdG a5 ((m_go_e1 (c := c + l1.length) (om := 0) (f := 0) (bs := 0) (pd := pd) a2 ((hNm.fR k1).fR a1.fr) q3 q5 a3 a4 (by omega) ((a1 197 0 (by omega) (by omega) (by omega) (by omega) (by omega)).trans e197) (Nat.le_refl _) q4 (by omega) (by omega) (fun op h => by have := q7 op h; omega) (Or.inl rfl) ((a1 193 0 (by omega) (by omega) (by omega) (by omega) (by omega)).trans e193) ((show b2 194 0 = 2 ∨ (b2 194 0 = 1 ∧ opA (tC W p1) = 0 ∧ opM (tC W p1) = 0) from a6).imp id (fun h => ⟨h.1, op_na h.2.1 h.2.2⟩)) ⟨opO_0 n2, opB_0 n1⟩).mono (fun r h' hq => ?_)) (R := fun v b' => v = 0 ∧ codM (b' 191) (b' 192) (1200 * j + (c + l1.length)) (opL pd) ∧ b' 166 38 = ((c + l1.length + pd.length : Nat) : Int) ∧ JnF j (c + l1.length) pd.length b2 b') (fun v b3 hR => ?_)
  · obtain ⟨rfl, b3, rfl, h1, h2, h3⟩ := hq
    exact ⟨0, b3, rfl, Or.inl rfl, rfl, rfl, h1, h2, h3⟩
  · obtain ⟨rfl, h1, h2, h3⟩ := hR
    refine Or.inr ⟨Or.inl rfl, rfl, b3, rfl, Or.inl ⟨(l, p1), hx, ?_, jn_tk a2 h3, ?_, ?_, by dsimp only; omega⟩⟩
    · exact (k1.tr a1.fr (Nat.le_refl _)).tr (jn_fr h3 (by omega)) (by omega)
    · dsimp only
      rw [q1]
      refine codM_app _ _ _ (codM_cg l1 _ (fun i h4 h5 => ⟨h3 191 i (by omega) (by omega), h3 192 i (by omega) (by omega)⟩) q2) ?_
      rw [show 1200 * j + c + l1.length = 1200 * j + (c + l1.length) by omega]
      exact h1
    · dsimp only
      rw [h2, hlen]
      omega
