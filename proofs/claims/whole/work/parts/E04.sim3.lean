/-! THE REFERENCE READS: sums and tests, the pieces -/
variable {X : List Int} {d : Nat} {st dr rd t : Int} {a s b : C3} {Q : Option pm_V → pm_H → Prop} {W : TXT} {S : STY} {j f : Nat}
theorem opA_0 {c : Nat} (h : opA c = 0) : c ≠ 43 ∧ c ≠ 45 := by
  refine ⟨?_, ?_⟩ <;> (rintro rfl; exact absurd h (by decide))
theorem opM_0 {c : Nat} (h : opM c = 0) : c ≠ 42 ∧ c ≠ 47 ∧ c ≠ 37 := by
  refine ⟨?_, ?_, ?_⟩ <;> (rintro rfl; exact absurd h (by decide))
theorem opC_0 {c : Nat} (h : opC c = 0) : c ≠ 60 ∧ c ≠ 62 ∧ c ≠ 61 := by
  refine ⟨?_, ?_, ?_⟩ <;> (rintro rfl; exact absurd h (by decide))
theorem opB_0 {c : Nat} (h : opB c = 0) : c ≠ 270 := by rintro rfl; exact absurd h (by decide)
theorem opO_0 {c : Nat} (h : opO c = 0) : c ≠ 269 := by rintro rfl; exact absurd h (by decide)
theorem op_na {c : Nat} (h1 : opA c = 0) (h2 : opM c = 0) : c ≠ 43 ∧ c ≠ 45 ∧ c ≠ 42 ∧ c ≠ 47 ∧ c ≠ 37 := by
  have := opA_0 h1
  have := opM_0 h2
  omega
theorem KpM.op {om c : Nat} {kd : Int} {p : Nat} {b0 b b' : SC} (k : KpM j c om f b0 b) (h : OpM W om f kd p b b') : KpM j c om f b0 b' := fun o i h1 h2 h3 h4 h5 => (h.1 o i (fun g => h1 ⟨g.1, by unfold fxM; omega⟩) (fun g => by omega)).trans (k o i h1 h2 h3 h4 h5)
/-- a frame that is begun: where its piece begins -/
theorem op_st {om c r v : Nat} {ty : Bool} {kd : Int} {p : Nat} {b0 b' : SC} (hN : NmM S.1 b0 j) (e38 : b0 166 38 = (c : Int)) (e48 : b0 166 48 = (om : Int)) (h : OpM W om f kd p (updC b0 195 f 0) b') (hc : c + om ≤ p) (h3 : 3 * om ≤ p + 15 * (f + 1)) (hty : if ty = true then kd = 5 else kd ≠ 1 ∧ kd ≠ 5) : StM W S.1 j (f + 1) r v ty c om p (updC b' 166 49 0) := by
  have kp : KpM j c om f b0 b' := (((KpM.rf : KpM j c om f b0 b0).up (by omega) : KpM j c om f b0 (updC b0 195 f 0))).op h
  obtain ⟨h1, h2, g3, h4, h5, h6, h7, h8⟩ := h
  refine ⟨h2.up (by omega), (hN.fR kp.fr).fR ((KpM.rf.up (by omega) : KpM j c om f b' (updC b' 166 49 0))).fr, ?_, ?_, ?_, ?_, updC_sm, ⟨om, ?_, Nat.le_refl _, Or.inl rfl⟩, hc, by omega, ?_⟩
  · rw [updC_nt (by omega), h1 166 38 (by omega) (by omega), updC_nt (by omega)]; exact e38
  · rw [updC_nt (by omega), h1 166 48 (by omega) (by omega), updC_nt (by omega)]; exact e48
  · rw [updC_nt (by omega)]; exact g3
  · rw [updC_nt (by omega)]; exact h4
  · rw [updC_nt (by omega)]; exact h8
  · cases ty
    · show (updC b' 166 49 0 194 (f + 1) = 0 ∨ _) ∧ _
      rw [updC_nt (by omega), updC_nt (by omega)]
      have hty : kd ≠ 1 ∧ kd ≠ 5 := hty
      exact ⟨Or.inl h6, Or.inl ⟨by omega, by omega⟩⟩
    · show (updC b' 166 49 0 193 (f + 1) = 1 ∨ _) ∧ _ ∧ _
      rw [updC_nt (by omega), updC_nt (by omega), updC_nt (by omega)]
      have hty : kd = 5 := hty
      exact ⟨Or.inr (by omega), h6, h7⟩
theorem clo_aft {c om r : Nat} {ty : Bool} {ph : Int} {l1 lx : List (Nat × Nat)} {p : Nat} {b0 b b' : SC} (k : KpM j c om f b0 b) (cod : codM (b 191) (b 192) (1200 * j + c) l1) (h : CloM W j (c + l1.length) om f ph lx p b b') (e49 : b 166 49 = 1) (hfd : FdM ty b0 b' f (tC W p)) (hlen : c + om + (l1 ++ lx).length ≤ p) (h3 : 3 * om ≤ p + 15 * f + 15) : AftM W j c om f r ty (l1 ++ lx) p b0 b' := by
  obtain ⟨g1, g2, g3, g4, g5, g6, g7, g8, g9, g10⟩ := h
  refine ⟨k.tr g1 (by omega) (Nat.le_refl _) (Nat.le_refl _), g2, g7, g8, g6.trans e49, hfd, hlen, l1 ++ lx, [], (List.append_nil _).symm, ?_, ?_, trivial, g5, h3, fun _ h => absurd h List.not_mem_nil⟩
  · refine codM_app _ _ _ (codM_cg l1 _ (fun i h1 h2 => ⟨g1 191 i (by omega) (by omega) (by omega) (by omega) (by omega), g1 192 i (by omega) (by omega) (by omega) (by omega) (by omega)⟩) cod) ?_
    rw [show 1200 * j + c + l1.length = 1200 * j + (c + l1.length) by omega]
    exact g3
  · rw [g4, List.length_append]
    omega
theorem k_wk {c om f' : Nat} {b0 b : SC} (k : KpM j c om f' b0 b) (h : f ≤ f') : KpM j c om f b0 b := (KpM.rf : KpM j c om f b0 b0).tr k (Nat.le_refl _) (Nat.le_refl _) h
abbrev EnA (W : TXT) (P : PRS) : Prop := EnP W opA P ∧ EnP W opM P
/-- brackets around a sum -/
theorem sim_par {K v : Nat} {I : PRS} {p : Nat} (hK : f + K = 8) (hv : v ≤ 5) (hI : K ≠ 0 → ∀ p, SimA X d st dr rd t a s Q W S.1 j (f + 1) 5 5 3 false I p) (hM : K ≠ 0 → ∀ p l p1, p ≤ W.2 → tC W p ≠ 303 → I p = .ok (l, p1) → p ≤ p1) (hE : K ≠ 0 → EnA W I) (hct : tC W p = 40) : SimA X d st dr rd t a s Q W S.1 j f 7 7 v false (parT W K I) p := by
  intro c om b hS K1 K2
  obtain ⟨s1, s2, s3, s4, s5, s6, s7, ⟨bs, t1, t2, t3⟩, s9, s10, s11⟩ := hS
  have hT := s1.1.1
  have hT1 := hT.1
  have hpW := s1.2.2.2.2.2.2.1
  have hlt := tok_lt hpW hT (by omega) (by omega)
  have hle := (tok_rg hpW hT).2
  refine m_rdO s7 (m_op_par s1 s2 s3 s4 s5 s6 (by omega) (by omega) (by omega) hK hct) (fun v' b1 hR => ?_)
  rcases hR with ⟨p1, hx, rfl, ho⟩ | ⟨e, hx, hb⟩
  · obtain ⟨-, k0, hp1, -⟩ := opn_ok hx
    have kb1 : KpM j c om f b (updC b1 166 49 0) := ((((KpM.rf : KpM j c om f b b).up (by omega) : KpM j c om f b (updC b 195 f 0))).op ho).up (by omega)
    have e193 : updC b1 166 49 0 193 (f + 1) = 2 := by rw [updC_nt (by omega)]; exact ho.2.2.2.2.1
    have e194 : updC b1 166 49 0 194 (f + 1) = 0 := by rw [updC_nt (by omega)]; exact ho.2.2.2.2.2.1
    have e197 : updC b1 166 49 0 197 (f + 1) = (om : Int) := by rw [updC_nt (by omega)]; exact ho.2.2.2.2.2.2.2
    have f194 : updC b1 166 49 0 194 f = b 194 f := by rw [updC_nt (by omega), ho.1 194 f (by omega) (by omega), updC_nt (by omega)]
    have f195 : updC b1 166 49 0 195 f = 0 := by rw [updC_nt (by omega), ho.1 195 f (by omega) (by omega), updC_sm]
    refine Or.inl ⟨ho.2.1.2.1, hI k0 p1 c om _ (op_st s2 s3 s4 ho (by omega) (by omega) (by decide)) (fun l p2 b2 hx2 hA => ?_) (fun e b2 hx2 hb2 => K2 e b2 (by show bnX (opnT W 40 K p) _ = _; rw [hx, bnX_o, hx2, bnX_e]) (hb2.wk kb1.fr (Nat.le_refl _)))⟩
    obtain ⟨en1, en2⟩ := hE k0
    have p1W := ho.2.1.2.2.2.2.2.2.1
    have p1t := ho.2.1.2.2.2.2.2.1
    have hm1 := hM k0 p1 l p2 p1W p1t hx2
    have en1 := en1 p1 l p2 p1W p1t hx2
    have en2 := en2 p1 l p2 p1W p1t hx2
    obtain ⟨a1, a2, a3, a4, a5, a6, a7, l1, pd, q1, q2, q3, q4, q5, q6, q7⟩ := hA
    have a6 : b2 194 (f + 1) = updC b1 166 49 0 194 (f + 1) ∧ b2 195 (f + 1) = 0 := a6
    have p2W := a2.2.2.2.2.2.2.1
    have hlen : l.length = l1.length + pd.length := by rw [q1, List.length_append, opL_len]
    refine m_rdG a5 (m_go_k2 (c := c + l1.length) (om := om) (f := f) (bs := om) a2 ((s2.fR kb1.fr).fR a1.fr) q3 q5 a3 a4 (by omega) ((a1 197 (f + 1) (by omega) (by omega) (by omega) (by omega) (by omega)).trans e197) (Nat.le_refl _) q4 (by omega) (by omega) (fun op h => by have := q7 op h; omega) (Or.inl rfl) ((a1 193 (f + 1) (by omega) (by omega) (by omega) (by omega) (by omega)).trans e193) (a6.1.trans e194) (op_na en1 en2)) (fun v' b3 hR => ?_)
    have k02 : KpM j c om f b b2 := kb1.tr (k_wk a1 (by omega)) (Nat.le_refl _) (Nat.le_refl _) (Nat.le_refl _)
    have g194 : b2 194 f = b 194 f := (a1 194 f (by omega) (by omega) (by omega) (by omega) (by omega)).trans f194
    have g195 : b2 195 f = 0 := (a1 195 f (by omega) (by omega) (by omega) (by omega) (by omega)).trans f195
    rcases hR with ⟨p3, hx3, rfl, hc3⟩ | ⟨e, hx3, hb3⟩
    · have hp3 := (exp_ok hx3).2.1
      have hlt3 := tok_rg p2W hT
      refine Or.inl ⟨rfl, hc3.2.1.2.1, K1 l p3 b3 (by show bnX (opnT W 40 K p) _ = _; rw [hx, bnX_o, hx2, bnX_o, hx3, bnX_o]) ?_⟩
      rw [q1]
      exact clo_aft k02 q2 hc3 a5 (show b3 194 f = b 194 f ∧ b3 195 f = 0 from ⟨hc3.2.2.2.2.2.2.2.2.1.trans g194, hc3.2.2.2.2.2.2.2.2.2.trans g195⟩) (by rw [← q1]; omega) (by omega)
    · exact Or.inr ⟨Or.inr (by rw [hb3.2.2.2.1]; exact hb3.2.2.1), K2 e b3 (by show bnX (opnT W 40 K p) _ = _; rw [hx, bnX_o, hx2, bnX_o, hx3, bnX_e]) (hb3.wk k02.fr (by omega))⟩
  · exact Or.inr ⟨by rw [hb.2.2.2.1]; exact hb.2.2.1, K2 e _ (by show bnX (opnT W 40 K p) _ = _; rw [hx, bnX_e]) (hb.up (by omega))⟩
/-- brackets around a test -/
theorem sim_brk {K v : Nat} {I : PRS} {p : Nat} (hK : f + K = 8) (hv : v ≤ 5) (hI : K ≠ 0 → ∀ p, SimA X d st dr rd t a s Q W S.1 j (f + 1) 1 1 0 true I p) (hM : K ≠ 0 → ∀ p l p1, p ≤ W.2 → tC W p ≠ 303 → I p = .ok (l, p1) → p ≤ p1) (hE : K ≠ 0 → EnP W opB I ∧ EnP W opO I) (hct : tC W p = 91) : SimA X d st dr rd t a s Q W S.1 j f 4 4 v true (brkT W K I) p := by
  intro c om b hS K1 K2
  obtain ⟨s1, s2, s3, s4, s5, s6, s7, ⟨bs, t1, t2, t3⟩, s9, s10, s11⟩ := hS
  have hT := s1.1.1
  have hT1 := hT.1
  have hpW := s1.2.2.2.2.2.2.1
  have hlt := tok_lt hpW hT (by omega) (by omega)
  have hle := (tok_rg hpW hT).2
  refine m_rdO s7 (m_op_brk s1 s2 s3 s4 s5 s6 (by omega) (by omega) (by omega) s11.1 s11.2.2 hK hct) (fun v' b1 hR => ?_)
  rcases hR with ⟨p1, hx, rfl, ho⟩ | ⟨e, hx, hb⟩
  · obtain ⟨-, k0, hp1, -⟩ := opn_ok hx
    have kb1 : KpM j c om f b (updC b1 166 49 0) := ((((KpM.rf : KpM j c om f b b).up (by omega) : KpM j c om f b (updC b 195 f 0))).op ho).up (by omega)
    have e193 : updC b1 166 49 0 193 (f + 1) = 5 := by rw [updC_nt (by omega)]; exact ho.2.2.2.2.1
    have e197 : updC b1 166 49 0 197 (f + 1) = (om : Int) := by rw [updC_nt (by omega)]; exact ho.2.2.2.2.2.2.2
    refine Or.inl ⟨ho.2.1.2.1, hI k0 p1 c om _ (op_st s2 s3 s4 ho (by omega) (by omega) (by decide)) (fun l p2 b2 hx2 hA => ?_) (fun e b2 hx2 hb2 => K2 e b2 (by show bnX (opnT W 91 K p) _ = _; rw [hx, bnX_o, hx2, bnX_e]) (hb2.wk kb1.fr (Nat.le_refl _)))⟩
    obtain ⟨en1, en2⟩ := hE k0
    have p1W := ho.2.1.2.2.2.2.2.2.1
    have p1t := ho.2.1.2.2.2.2.2.1
    have hm1 := hM k0 p1 l p2 p1W p1t hx2
    have en1 := opB_0 (en1 p1 l p2 p1W p1t hx2)
    have en2 := opO_0 (en2 p1 l p2 p1W p1t hx2)
    obtain ⟨a1, a2, a3, a4, a5, a6, a7, l1, pd, q1, q2, q3, q4, q5, q6, q7⟩ := hA
    have a6 : b2 194 (f + 1) = 2 ∨ (b2 194 (f + 1) = 1 ∧ opA (tC W p2) = 0 ∧ opM (tC W p2) = 0) := a6
    have p2W := a2.2.2.2.2.2.2.1
    have hlen : l.length = l1.length + pd.length := by rw [q1, List.length_append, opL_len]
    refine m_rdG a5 (m_go_k5 (c := c + l1.length) (om := om) (f := f) (bs := om) a2 ((s2.fR kb1.fr).fR a1.fr) q3 q5 a3 a4 (by omega) ((a1 197 (f + 1) (by omega) (by omega) (by omega) (by omega) (by omega)).trans e197) (Nat.le_refl _) q4 (by omega) (by omega) (fun op h => by have := q7 op h; omega) (Or.inl rfl) ((a1 193 (f + 1) (by omega) (by omega) (by omega) (by omega) (by omega)).trans e193) (a6.imp id (fun h => ⟨h.1, op_na h.2.1 h.2.2⟩)) ⟨en2, en1⟩) (fun v' b3 hR => ?_)
    have k02 : KpM j c om f b b2 := kb1.tr (k_wk a1 (by omega)) (Nat.le_refl _) (Nat.le_refl _) (Nat.le_refl _)
    rcases hR with ⟨p3, hx3, rfl, hc3⟩ | ⟨e, hx3, hb3⟩
    · have hp3 := (exp_ok hx3).2.1
      have hlt3 := tok_rg p2W hT
      refine Or.inl ⟨rfl, hc3.2.1.2.1, K1 l p3 b3 (by show bnX (opnT W 91 K p) _ = _; rw [hx, bnX_o, hx2, bnX_o, hx3, bnX_o]) ?_⟩
      rw [q1]
      exact clo_aft k02 q2 hc3 a5 (show b3 194 f = 2 ∨ _ from Or.inl hc3.2.2.2.2.2.2.2.2.1) (by rw [← q1]; omega) (by omega)
    · exact Or.inr ⟨Or.inr (by rw [hb3.2.2.2.1]; exact hb3.2.2.1), K2 e b3 (by show bnX (opnT W 91 K p) _ = _; rw [hx, bnX_o, hx2, bnX_o, hx3, bnX_e]) (hb3.wk k02.fr (by omega))⟩
  · exact Or.inr ⟨by rw [hb.2.2.2.1]; exact hb.2.2.1, K2 e _ (by show bnX (opnT W 91 K p) _ = _; rw [hx, bnX_e]) (hb.up (by omega))⟩
/-- min and max -/
theorem sim_pai {K v op : Nat} {I : PRS} {p : Nat} (hK : f + K = 8) (hv : v ≤ 5) (hI : K ≠ 0 → ∀ p, SimA X d st dr rd t a s Q W S.1 j (f + 1) 5 5 3 false I p) (hM : K ≠ 0 → ∀ p l p1, p ≤ W.2 → tC W p ≠ 303 → I p = .ok (l, p1) → p ≤ p1) (hE : K ≠ 0 → EnA W I) (hct : (tC W p = 281 ∧ op = 20) ∨ (tC W p = 282 ∧ op = 21)) : SimA X d st dr rd t a s Q W S.1 j f 7 7 v false (paiT W K I) p := by
  intro c om b hS K1 K2
  obtain ⟨s1, s2, s3, s4, s5, s6, s7, ⟨bs, t1, t2, t3⟩, s9, s10, s11⟩ := hS
  have hT := s1.1.1
  have hT1 := hT.1
  have hpW := s1.2.2.2.2.2.2.1
  have hlt := tok_lt hpW hT (by omega) (by omega)
  have hle := (tok_rg hpW hT).2
  have hop : Ev X (d + 4) 171 0 [Vr 166, Vx, Vx, Vx] [] (SHv st dr rd, ovl a s b) (fun rr hh => ∃ (v : Int) (b' : C3), rr = some (Vi v) ∧ (v = 0 ∨ v = 1) ∧ hh = (SHv st dr rd, ovl a s b') ∧ ResC (bnX (gotT W p) (fun p1 => opnT W 40 K p1)) (fun r => v = 0 ∧ OpM W om f 3 r (updC b 195 f 0) b' ∧ b' 196 (f + 1) = (op : Int)) (fun e => BkM W j c b e b')) := by
    rcases hct with ⟨h1, rfl⟩ | ⟨h1, rfl⟩
    · exact m_op_p281 s1 s2 s3 s4 s5 s6 (by omega) (by omega) (by omega) hK h1
    · exact m_op_p282 s1 s2 s3 s4 s5 s6 (by omega) (by omega) (by omega) hK h1
  have hop2 : (if tC W p = 281 then 20 else 21) = op := by
    rcases hct with ⟨h1, rfl⟩ | ⟨h1, rfl⟩
    · rw [if_pos h1]
    · rw [if_neg (by omega)]
  refine m_rdO s7 hop (fun v' b1 hR => ?_)
  rcases hR with ⟨p1, hx, rfl, ho, hpr⟩ | ⟨e, hx, hb⟩
  · obtain ⟨p0, hx0, hxo⟩ := bnX_ok hx
    obtain ⟨-, k0, hp1, -⟩ := opn_ok hxo
    have hp0 := (got_ok hx0).1
    have hp01 := tok_rg (W := W) (p := p0) (by omega) hT
    have kb1 : KpM j c om f b (updC b1 166 49 0) := ((((KpM.rf : KpM j c om f b b).up (by omega) : KpM j c om f b (updC b 195 f 0))).op ho).up (by omega)
    have e193 : updC b1 166 49 0 193 (f + 1) = 3 := by rw [updC_nt (by omega)]; exact ho.2.2.2.2.1
    have e194 : updC b1 166 49 0 194 (f + 1) = 0 := by rw [updC_nt (by omega)]; exact ho.2.2.2.2.2.1
    have e196 : updC b1 166 49 0 196 (f + 1) = (op : Int) := by rw [updC_nt (by omega)]; exact hpr
    have e197 : updC b1 166 49 0 197 (f + 1) = (om : Int) := by rw [updC_nt (by omega)]; exact ho.2.2.2.2.2.2.2
    have f194 : updC b1 166 49 0 194 f = b 194 f := by rw [updC_nt (by omega), ho.1 194 f (by omega) (by omega), updC_nt (by omega)]
    have f195 : updC b1 166 49 0 195 f = 0 := by rw [updC_nt (by omega), ho.1 195 f (by omega) (by omega), updC_sm]
    refine Or.inl ⟨ho.2.1.2.1, hI k0 p1 c om _ (op_st s2 s3 s4 ho (by omega) (by omega) (by decide)) (fun l p2 b2 hx2 hA => ?_) (fun e b2 hx2 hb2 => K2 e b2 (by unfold paiT; rw [hx0, bnX_o, hxo, bnX_o, hx2, bnX_e]) (hb2.wk kb1.fr (Nat.le_refl _)))⟩
    obtain ⟨en1, en2⟩ := hE k0
    have p1W := ho.2.1.2.2.2.2.2.2.1
    have p1t := ho.2.1.2.2.2.2.2.1
    have hm1 := hM k0 p1 l p2 p1W p1t hx2
    have n1 := en1 p1 l p2 p1W p1t hx2
    have n2 := en2 p1 l p2 p1W p1t hx2
    obtain ⟨a1, a2, a3, a4, a5, a6, a7, l1, pd, q1, q2, q3, q4, q5, q6, q7⟩ := hA
    have a6 : b2 194 (f + 1) = updC b1 166 49 0 194 (f + 1) ∧ b2 195 (f + 1) = 0 := a6
    have p2W := a2.2.2.2.2.2.2.1
    have hlen : l.length = l1.length + pd.length := by rw [q1, List.length_append, opL_len]
    have hN2 : NmM S.1 b2 j := (s2.fR kb1.fr).fR a1.fr
    refine m_rdG a5 (m_go_c (c := c + l1.length) (om := om) (f := f) (bs := om) a2 hN2 q3 q5 a3 a4 (by omega) ((a1 197 (f + 1) (by omega) (by omega) (by omega) (by omega) (by omega)).trans e197) (Nat.le_refl _) q4 (by omega) (by omega) (fun op h => by have := q7 op h; omega) (Or.inl rfl) ((a1 193 (f + 1) (by omega) (by omega) (by omega) (by omega) (by omega)).trans e193) (a6.1.trans e194) (op_na n1 n2)) (fun v' b3 hR => ?_)
    have k02 : KpM j c om f b b2 := kb1.tr (k_wk a1 (by omega)) (Nat.le_refl _) (Nat.le_refl _) (Nat.le_refl _)
    have g194 : b2 194 f = b 194 f := (a1 194 f (by omega) (by omega) (by omega) (by omega) (by omega)).trans f194
    have g195 : b2 195 f = 0 := (a1 195 f (by omega) (by omega) (by omega) (by omega) (by omega)).trans f195
    have hlt2 := tok_rg p2W hT
    rcases hR with ⟨p3, hx3, rfl, hc3⟩ | ⟨e, hx3, hb3⟩
    · obtain ⟨hc44, hp3, -⟩ := exp_ok hx3
      have hlt3 := tok_lt p2W hT (by omega) (by omega)
      obtain ⟨m1, m2, m3, m4, m5, m6, m7, m8, m9, m10, m11, m12, m13, m14, m15⟩ := hc3
      have k03 : KpM j c om f b b3 := k02.tr m1 (by omega) (Nat.le_refl _) (Nat.le_refl _)
      have hN3 : NmM S.1 b3 j := hN2.fR m1.fr
      have cl : codM (b3 191) (b3 192) (1200 * j + c) l := by
        rw [q1]
        refine codM_app _ _ _ (codM_cg l1 _ (fun i h1 h2 => ⟨m1 191 i (by omega) (by omega) (by omega) (by omega) (by omega), m1 192 i (by omega) (by omega) (by omega) (by omega) (by omega)⟩) q2) ?_
        rw [show 1200 * j + c + l1.length = 1200 * j + (c + l1.length) by omega]
        exact m3
      have hp3W := m2.2.2.2.2.2.2.1
      have p3t := m2.2.2.2.2.2.1
      refine Or.inl ⟨rfl, m2.2.1, hI k0 p3 (c + l.length) om b3 ⟨m2, hN3, by rw [m4]; omega, m5, m7, m8, m6, ⟨om, ?_, Nat.le_refl _, Or.inl rfl⟩, by omega, by omega, ?_⟩ (fun l' p4 b4 hx4 hA4 => ?_) (fun e b4 hx4 hb4 => K2 e b4 (by unfold paiT; rw [hx0, bnX_o, hxo, bnX_o, hx2, bnX_o, hx3, bnX_o, hx4, bnX_e]) (hb4.wk k03.fr (by omega)))⟩
      · rw [m13]; exact (a1 197 (f + 1) (by omega) (by omega) (by omega) (by omega) (by omega)).trans e197
      · exact ⟨Or.inl (by rw [m10]; exact a6.1.trans e194), Or.inl ⟨by rw [m9]; decide, by rw [m9]; decide⟩⟩
      have n1 := en1 p3 l' p4 hp3W p3t hx4
      have hm2 := hM k0 p3 l' p4 hp3W p3t hx4
      have n2 := en2 p3 l' p4 hp3W p3t hx4
      obtain ⟨c1, c2, c3, c4, c5, c6, c7, l1', pd', r1, r2, r3, r4, r5, r6, r7⟩ := hA4
      have c6 : b4 194 (f + 1) = b3 194 (f + 1) ∧ b4 195 (f + 1) = 0 := c6
      have p4W := c2.2.2.2.2.2.2.1
      have hlen' : l'.length = l1'.length + pd'.length := by rw [r1, List.length_append, opL_len]
      have k04 : KpM j c om f b b4 := k03.tr (k_wk c1 (by omega)) (by omega) (Nat.le_refl _) (Nat.le_refl _)
      have ee : c + l.length + l1'.length = c + (l ++ l1').length := by rw [List.length_append]; omega
      rw [ee] at r3
      have h197 : b4 197 (f + 1) = (om : Int) := by
        rw [c1 197 (f + 1) (by omega) (by omega) (by omega) (by omega) (by omega), m13]
        exact (a1 197 (f + 1) (by omega) (by omega) (by omega) (by omega) (by omega)).trans e197
      have h196 : b4 196 (f + 1) = (op : Int) := by
        rw [c1 196 (f + 1) (by omega) (by omega) (by omega) (by omega) (by omega), m12]
        exact (a1 196 (f + 1) (by omega) (by omega) (by omega) (by omega) (by omega)).trans e196
      have h193 : b4 193 (f + 1) = 4 := by
        rw [c1 193 (f + 1) (by omega) (by omega) (by omega) (by omega) (by omega)]
        exact m9
      have h194 : b4 194 (f + 1) = 0 := by
        rw [c6.1, m10]
        exact a6.1.trans e194
      refine m_rdG c5 (m_go_k4 (c := c + (l ++ l1').length) (om := om) (f := f) (bs := om) c2 (hN3.fR c1.fr) r3 r5 c3 c4 (by omega) h197 (Nat.le_refl _) r4 (by omega) (by omega) (fun op h => by have := r7 op h; omega) (Or.inl rfl) h193 h194 (op_na n1 n2) h196 (fun h => by have := tok_lt p4W hT (by omega) (by omega); have := tok_rg p4W hT; omega)) (fun v' b5 hR => ?_)
      rcases hR with ⟨p5, hx5, rfl, hc5⟩ | ⟨e, hx5, hb5⟩
      · obtain ⟨hc41, hp5, -⟩ := exp_ok hx5
        have hlt5 := tok_lt p4W hT (by omega) (by omega)
        refine Or.inl ⟨rfl, hc5.2.1.2.1, K1 (l ++ (l' ++ [(op, 0)])) p5 b5 (by unfold paiT; rw [hx0, bnX_o, hxo, bnX_o, hx2, bnX_o, hx3, bnX_o, hx4, bnX_o, hx5, bnX_o, hop2]) ?_⟩
        rw [show l ++ (l' ++ [(op, 0)]) = (l ++ l1') ++ (opL pd' ++ [(op, 0)]) by rw [r1]; simp only [List.append_assoc]]
        refine clo_aft k04 (codM_app _ _ _ ?_ ?_) hc5 c5 (show b5 194 f = b 194 f ∧ b5 195 f = 0 from ⟨?_, ?_⟩) ?_ (by omega)
        · exact codM_cg l _ (fun i h1 h2 => ⟨c1 191 i (by omega) (by omega) (by omega) (by omega) (by omega), c1 192 i (by omega) (by omega) (by omega) (by omega) (by omega)⟩) cl
        · rw [show 1200 * j + c + l.length = 1200 * j + (c + l.length) by omega]
          exact r2
        · rw [hc5.2.2.2.2.2.2.2.2.1, c1 194 f (by omega) (by omega) (by omega) (by omega) (by omega), m14, g194]
        · rw [hc5.2.2.2.2.2.2.2.2.2, c1 195 f (by omega) (by omega) (by omega) (by omega) (by omega), m15, g195]
        · simp only [List.length_append, List.length_cons, List.length_nil, opL_len]
          omega
      · exact Or.inr ⟨Or.inr (by rw [hb5.2.2.2.1]; exact hb5.2.2.1), K2 e b5 (by unfold paiT; rw [hx0, bnX_o, hxo, bnX_o, hx2, bnX_o, hx3, bnX_o, hx4, bnX_o, hx5, bnX_e]) (hb5.wk k04.fr (by omega))⟩
    · exact Or.inr ⟨Or.inr (by rw [hb3.2.2.2.1]; exact hb3.2.2.1), K2 e b3 (by unfold paiT; rw [hx0, bnX_o, hxo, bnX_o, hx2, bnX_o, hx3, bnX_e]) (hb3.wk k02.fr (by omega))⟩
  · refine Or.inr ⟨by rw [hb.2.2.2.1]; exact hb.2.2.1, K2 e _ ?_ (hb.up (by omega))⟩
    unfold paiT
    cases hg : gotT W p with
    | error e1 =>
      rw [hg, bnX_e] at hx
      rw [bnX_e]
      exact congrArg _ (Except.error.inj hx)
    | ok p0 =>
      rw [hg, bnX_o] at hx
      rw [bnX_o, hx, bnX_e]
