/-! THE REFERENCE READS: how it goes on behind an operand -/
theorem m_go_43 {X : List Int} {d : Nat} {st dr rd : Int} {a s b : C3} {W : TXT} {p : Nat} (hk : TkM W p b) {N : SC} {j : Nat} (hN : NmM N b j) {c om f bs : Nat} {pd : List Nat} (e38 : b 166 38 = (c : Int)) (e48 : b 166 48 = ((om + pd.length : Nat) : Int)) (e45 : b 166 45 = ((f + 1 : Nat) : Int)) (e46 : b 166 46 = (f : Int)) (hf : f ≤ 8) (ebs : b 197 f = (bs : Int)) (hbo : bs ≤ om) (hst : stkM (b 198) om pd) (hc : c + pd.length ≤ 1200) (ho : om + pd.length < 500) (hrk : ∀ op, op ∈ pd → 5 ≤ rkM ((op : Nat) : Int)) (hlo : om = bs ∨ rkM (b 198 (om - 1)) < 5) (hph : b 194 f = 0 ∨ b 194 f = 1) (hct : tC W p = 43) : Ev X (d + 2) 178 0 [Vr 166, Vx, Vx, Vx, Vx] [] (SHv st dr rd, ovl a s b) (fun rr hh => ∃ (v : Int) (b' : C3), rr = some (Vi v) ∧ (v = 0 ∨ v = 1) ∧ hh = (SHv st dr rd, ovl a s b') ∧ ResC (gotT W p) (fun r => v = 1 ∧ GoM W j c om f 15 (b 194 f) (b 195 f) pd r b b') (fun e => BkM W j c b e b')) := by
  refine Ev.steps (k := 2) (pc' := 4) (L' := [Vr 166, Vx, Vx, Vx, Vx]) (S' := [Vi (b 166 45)]) (h' := ((SHv st dr rd), (ovl a s b))) (fun _ => rfl) ?_
  rw [e45]
  refine Ev.steps (k := 2) (pc' := 6) (L' := [Vr 166, Vx, Vx, Vx, Vx]) (S' := [Vi (w32 (((f + 1 : Nat) : Int) - 1))]) (h' := ((SHv st dr rd), (ovl a s b))) (fun _ => rfl) ?_
  rw [show (w32 (((f + 1 : Nat) : Int) - 1)) = (f : Int) from (by unfold w32; omega)]
  refine Ev.steps (k := 4) (pc' := 12) (L' := [Vr 166, Vi (f : Int), Vx, Vx, Vx]) (S' := [Vi (f : Int), Vr 193]) (h' := ((SHv st dr rd), (ovl a s b))) (fun _ => rfl) ?_
  refine Ev.iald (v := (b 193 f)) rfl (by decide) rfl (by omega) (by omega) (rfl) ?_
  refine Ev.call (k := 2) (pc1 := 15) (L1 := [Vr 166, Vi (f : Int), Vi (b 193 f), Vx, Vx]) (S1 := [Vi (b 193 f)]) (h1 := ((SHv st dr rd), (ovl a s b))) (m' := 172) (as := [Vi (b 193 f)]) (S' := []) (L0 := [Vi (b 193 f)]) (fun _ => rfl) rfl rfl rfl rfl rfl rfl (m_isTest (b := b) (b 193 f)) (fun r h' hq => ?_)
  obtain ⟨rfl, rfl⟩ := hq
  generalize (if (b 193 f) = 1 ∨ (b 193 f) = 5 then (1 : Int) else 0) = tz
  show Ev X _ _ 18 [Vr 166, Vi (f : Int), Vi (b 193 f), Vx, Vx] [Vi tz] ((SHv st dr rd), (ovl a s b)) _
  refine Ev.steps (k := 4) (pc' := 24) (L' := [Vr 166, Vi (f : Int), Vi (b 193 f), Vi tz, Vx]) (S' := [Vi (f : Int), Vr 194]) (h' := ((SHv st dr rd), (ovl a s b))) (fun _ => rfl) ?_
  refine Ev.iald (v := (b 194 f)) rfl (by decide) rfl (by omega) (by omega) (rfl) ?_
  refine Ev.ite (P := 2 ≤ (b 194 f)) (k := 2) (a := 175) (b := 29) (L' := [Vr 166, Vi (f : Int), Vi (b 193 f), Vi tz, Vx]) (S' := []) (h' := ((SHv st dr rd), (ovl a s b))) (fun _ => rfl) (fun b26 => ?_) (fun b26 => ?_)
  · omega
  · refine Ev.call (k := 2) (pc1 := 32) (L1 := [Vr 166, Vi (f : Int), Vi (b 193 f), Vi tz, Vx]) (S1 := [Vi 43, Vr 166]) (h1 := ((SHv st dr rd), (ovl a s b))) (m' := 174) (as := [Vr 166, Vi 43]) (S' := []) (L0 := [Vr 166, Vi 43]) (fun _ => rfl) rfl rfl rfl rfl rfl rfl (k_isSign (b := b) hk 43 (by decide)) (fun r h' hq => ?_)
    obtain ⟨rfl, rfl⟩ := hq
    rw [if_pos (by omega)]
    show Ev X _ _ 35 [Vr 166, Vi (f : Int), Vi (b 193 f), Vi tz, Vx] [Vi 1] ((SHv st dr rd), (ovl a s b)) _
    refine Ev.call (k := 4) (pc1 := 78) (L1 := [Vr 166, Vi (f : Int), Vi (b 193 f), Vi tz, Vx]) (S1 := [Vi 43, Vr 166, Vr 166]) (h1 := ((SHv st dr rd), (ovl a s b))) (m' := 174) (as := [Vr 166, Vi 43]) (S' := [Vr 166]) (L0 := [Vr 166, Vi 43]) (fun _ => rfl) rfl rfl rfl rfl rfl rfl (k_isSign (b := b) hk 43 (by decide)) (fun r h' hq => ?_)
    obtain ⟨rfl, rfl⟩ := hq
    rw [if_pos (by omega)]
    show Ev X _ _ 81 [Vr 166, Vi (f : Int), Vi (b 193 f), Vi tz, Vx] [Vi 1, Vr 166] ((SHv st dr rd), (ovl a s b)) _
    refine Ev.call (k := 3) (pc1 := 99) (L1 := [Vr 166, Vi (f : Int), Vi (b 193 f), Vi tz, Vx]) (S1 := [Vi 5, Vr 166]) (h1 := ((SHv st dr rd), (ovl a s b))) (m' := 179) (as := [Vr 166, Vi 5]) (S' := []) (L0 := [Vr 166, Vi 5]) (fun _ => rfl) rfl rfl rfl rfl rfl rfl (m_joins (b0 := b) hN.1 ⟨by omega, by omega⟩ 5 hbo pd c hN.2.1 e38 e45 e48 ebs hst hrk hlo (by omega) (by omega)) (fun r h' hq => ?_)
    obtain ⟨rfl, bq1, rfl, hcdq1, h38q1, h48q1, hfrq1⟩ := hq
    have hfrq1 : JnF j c pd.length b bq1 := hfrq1
    show Ev X _ _ 102 [Vr 166, Vi (f : Int), Vi (b 193 f), Vi tz, Vx] [] ((SHv st dr rd), (ovl a s bq1)) _
    refine Ev.call (k := 3) (pc1 := 106) (L1 := [Vr 166, Vi (f : Int), Vi (b 193 f), Vi tz, Vx]) (S1 := [Vi 43, Vr 166, Vr 166]) (h1 := ((SHv st dr rd), (ovl a s bq1))) (m' := 174) (as := [Vr 166, Vi 43]) (S' := [Vr 166]) (L0 := [Vr 166, Vi 43]) (fun _ => rfl) rfl rfl rfl rfl rfl rfl (k_isSign (b := bq1) (jn_tk hk hfrq1) 43 (by decide)) (fun r h' hq => ?_)
    obtain ⟨rfl, rfl⟩ := hq
    rw [if_pos (by omega)]
    show Ev X _ _ 109 [Vr 166, Vi (f : Int), Vi (b 193 f), Vi tz, Vx] [Vi 1, Vr 166] ((SHv st dr rd), (ovl a s bq1)) _
    refine Ev.call (k := 3) (pc1 := 161) (L1 := [Vr 166, Vi (f : Int), Vi (b 193 f), Vi tz, Vx]) (S1 := [Vi 15, Vr 166]) (h1 := ((SHv st dr rd), (ovl a s bq1))) (m' := 173) (as := [Vr 166, Vi 15]) (S' := []) (L0 := [Vr 166, Vi 15]) (fun _ => rfl) rfl rfl rfl rfl rfl rfl (m_holdsBack (b := bq1) h48q1 (by omega) 15) (fun r h' hq => ?_)
    obtain ⟨rfl, rfl⟩ := hq
    show Ev X _ _ 164 [Vr 166, Vi (f : Int), Vi (b 193 f), Vi tz, Vx] [] ((SHv st dr rd), (ovl a s (updC (updC bq1 198 om 15) 166 48 ((om : Int) + 1)))) _
    refine Ev.call (k := 1) (pc1 := 165) (L1 := [Vr 166, Vi (f : Int), Vi (b 193 f), Vi tz, Vx]) (S1 := [Vr 166]) (h1 := ((SHv st dr rd), (ovl a s (updC (updC bq1 198 om 15) 166 48 ((om : Int) + 1))))) (m' := 157) (as := [Vr 166]) (S' := []) (L0 := [Vr 166, Vx, Vx, Vx, Vx, Vx]) (fun _ => rfl) rfl rfl rfl rfl rfl rfl (m_nextT (b := (updC (updC bq1 198 om 15) 166 48 ((om : Int) + 1))) (((jn_tk hk hfrq1).up (by omega)).up (by omega))) (fun r h' hq => ?_)
    obtain ⟨rfl, bq2, rfl, hq⟩ := hq
    rcases hq with ⟨pq2, hxq2, hoq2⟩ | ⟨eq2, hxq2, hbq2⟩
    · show Ev X _ _ 168 [Vr 166, Vi (f : Int), Vi (b 193 f), Vi tz, Vx] [] ((SHv st dr rd), (ovl a s bq2)) _
      refine Ev.steps (k := 2) (pc' := 170) (L' := [Vr 166, Vi (f : Int), Vi (b 193 f), Vi tz, Vx]) (S' := [Vi 0, Vr 166]) (h' := ((SHv st dr rd), (ovl a s bq2))) (fun _ => rfl) ?_
      refine Ev.putz (c' := (ovl a s (updC bq2 166 49 0))) rfl (by decide) rfl rfl rfl (by decide) (ovl_wm (by decide)) ?_
      refine Ev.fin (k := 2) (r := (some (Vi 1))) (h' := ((SHv st dr rd), (ovl a s (updC bq2 166 49 0)))) (fun _ => rfl) ?_
      exact ⟨1, _, rfl, Or.inr rfl, rfl, Or.inl ⟨pq2, hxq2, rfl, (GoM.nx hoq2 (((jn_kp hfrq1 (by omega) : KpM j c om f b bq1).up (by omega)).up (by omega)) (codM_u (codM_u hcdq1 (by omega)) (by omega)) h38q1 (by rw [updC_sm]; first | done | omega) (by rw [updC_nt (by omega), updC_sm]) ((hfrq1 166 45 (by omega) (by omega)).trans e45) ((hfrq1 166 46 (by omega) (by omega)).trans e46) (by rw [updC_nt (by omega), updC_nt (by omega)]; exact hfrq1 194 f (by omega) (by omega)) (by rw [updC_nt (by omega), updC_nt (by omega)]; exact hfrq1 195 f (by omega) (by omega)))⟩⟩
    · show Ev X _ _ 168 [Vr 166, Vi (f : Int), Vi (b 193 f), Vi tz, Vx] [] ((SHv st dr rd), (ovl a s bq2)) _
      refine Ev.steps (k := 2) (pc' := 170) (L' := [Vr 166, Vi (f : Int), Vi (b 193 f), Vi tz, Vx]) (S' := [Vi 0, Vr 166]) (h' := ((SHv st dr rd), (ovl a s bq2))) (fun _ => rfl) ?_
      refine Ev.putz (c' := (ovl a s (updC bq2 166 49 0))) rfl (by decide) rfl rfl rfl (by decide) (ovl_wm (by decide)) ?_
      refine Ev.fin (k := 2) (r := (some (Vi 1))) (h' := ((SHv st dr rd), (ovl a s (updC bq2 166 49 0)))) (fun _ => rfl) ?_
      exact ⟨1, _, rfl, Or.inr rfl, rfl, Or.inr ⟨eq2, hxq2, (hbq2.bk (((jn_kp hfrq1 (by omega) : KpM j c om f b bq1).up (by omega)).up (by omega))).up (by omega)⟩⟩
theorem m_go_45 {X : List Int} {d : Nat} {st dr rd : Int} {a s b : C3} {W : TXT} {p : Nat} (hk : TkM W p b) {N : SC} {j : Nat} (hN : NmM N b j) {c om f bs : Nat} {pd : List Nat} (e38 : b 166 38 = (c : Int)) (e48 : b 166 48 = ((om + pd.length : Nat) : Int)) (e45 : b 166 45 = ((f + 1 : Nat) : Int)) (e46 : b 166 46 = (f : Int)) (hf : f ≤ 8) (ebs : b 197 f = (bs : Int)) (hbo : bs ≤ om) (hst : stkM (b 198) om pd) (hc : c + pd.length ≤ 1200) (ho : om + pd.length < 500) (hrk : ∀ op, op ∈ pd → 5 ≤ rkM ((op : Nat) : Int)) (hlo : om = bs ∨ rkM (b 198 (om - 1)) < 5) (hph : b 194 f = 0 ∨ b 194 f = 1) (hct : tC W p = 45) : Ev X (d + 2) 178 0 [Vr 166, Vx, Vx, Vx, Vx] [] (SHv st dr rd, ovl a s b) (fun rr hh => ∃ (v : Int) (b' : C3), rr = some (Vi v) ∧ (v = 0 ∨ v = 1) ∧ hh = (SHv st dr rd, ovl a s b') ∧ ResC (gotT W p) (fun r => v = 1 ∧ GoM W j c om f 16 (b 194 f) (b 195 f) pd r b b') (fun e => BkM W j c b e b')) := by
  refine Ev.steps (k := 2) (pc' := 4) (L' := [Vr 166, Vx, Vx, Vx, Vx]) (S' := [Vi (b 166 45)]) (h' := ((SHv st dr rd), (ovl a s b))) (fun _ => rfl) ?_
  rw [e45]
  refine Ev.steps (k := 2) (pc' := 6) (L' := [Vr 166, Vx, Vx, Vx, Vx]) (S' := [Vi (w32 (((f + 1 : Nat) : Int) - 1))]) (h' := ((SHv st dr rd), (ovl a s b))) (fun _ => rfl) ?_
  rw [show (w32 (((f + 1 : Nat) : Int) - 1)) = (f : Int) from (by unfold w32; omega)]
  refine Ev.steps (k := 4) (pc' := 12) (L' := [Vr 166, Vi (f : Int), Vx, Vx, Vx]) (S' := [Vi (f : Int), Vr 193]) (h' := ((SHv st dr rd), (ovl a s b))) (fun _ => rfl) ?_
  refine Ev.iald (v := (b 193 f)) rfl (by decide) rfl (by omega) (by omega) (rfl) ?_
  refine Ev.call (k := 2) (pc1 := 15) (L1 := [Vr 166, Vi (f : Int), Vi (b 193 f), Vx, Vx]) (S1 := [Vi (b 193 f)]) (h1 := ((SHv st dr rd), (ovl a s b))) (m' := 172) (as := [Vi (b 193 f)]) (S' := []) (L0 := [Vi (b 193 f)]) (fun _ => rfl) rfl rfl rfl rfl rfl rfl (m_isTest (b := b) (b 193 f)) (fun r h' hq => ?_)
  obtain ⟨rfl, rfl⟩ := hq
  generalize (if (b 193 f) = 1 ∨ (b 193 f) = 5 then (1 : Int) else 0) = tz
  show Ev X _ _ 18 [Vr 166, Vi (f : Int), Vi (b 193 f), Vx, Vx] [Vi tz] ((SHv st dr rd), (ovl a s b)) _
  refine Ev.steps (k := 4) (pc' := 24) (L' := [Vr 166, Vi (f : Int), Vi (b 193 f), Vi tz, Vx]) (S' := [Vi (f : Int), Vr 194]) (h' := ((SHv st dr rd), (ovl a s b))) (fun _ => rfl) ?_
  refine Ev.iald (v := (b 194 f)) rfl (by decide) rfl (by omega) (by omega) (rfl) ?_
  refine Ev.ite (P := 2 ≤ (b 194 f)) (k := 2) (a := 175) (b := 29) (L' := [Vr 166, Vi (f : Int), Vi (b 193 f), Vi tz, Vx]) (S' := []) (h' := ((SHv st dr rd), (ovl a s b))) (fun _ => rfl) (fun b26 => ?_) (fun b26 => ?_)
  · omega
  · refine Ev.call (k := 2) (pc1 := 32) (L1 := [Vr 166, Vi (f : Int), Vi (b 193 f), Vi tz, Vx]) (S1 := [Vi 43, Vr 166]) (h1 := ((SHv st dr rd), (ovl a s b))) (m' := 174) (as := [Vr 166, Vi 43]) (S' := []) (L0 := [Vr 166, Vi 43]) (fun _ => rfl) rfl rfl rfl rfl rfl rfl (k_isSign (b := b) hk 43 (by decide)) (fun r h' hq => ?_)
    obtain ⟨rfl, rfl⟩ := hq
    rw [if_neg (by omega)]
    show Ev X _ _ 35 [Vr 166, Vi (f : Int), Vi (b 193 f), Vi tz, Vx] [Vi 0] ((SHv st dr rd), (ovl a s b)) _
    refine Ev.call (k := 3) (pc1 := 41) (L1 := [Vr 166, Vi (f : Int), Vi (b 193 f), Vi tz, Vx]) (S1 := [Vi 45, Vr 166]) (h1 := ((SHv st dr rd), (ovl a s b))) (m' := 174) (as := [Vr 166, Vi 45]) (S' := []) (L0 := [Vr 166, Vi 45]) (fun _ => rfl) rfl rfl rfl rfl rfl rfl (k_isSign (b := b) hk 45 (by decide)) (fun r h' hq => ?_)
    obtain ⟨rfl, rfl⟩ := hq
    rw [if_pos (by omega)]
    show Ev X _ _ 44 [Vr 166, Vi (f : Int), Vi (b 193 f), Vi tz, Vx] [Vi 1] ((SHv st dr rd), (ovl a s b)) _
    refine Ev.call (k := 4) (pc1 := 78) (L1 := [Vr 166, Vi (f : Int), Vi (b 193 f), Vi tz, Vx]) (S1 := [Vi 43, Vr 166, Vr 166]) (h1 := ((SHv st dr rd), (ovl a s b))) (m' := 174) (as := [Vr 166, Vi 43]) (S' := [Vr 166]) (L0 := [Vr 166, Vi 43]) (fun _ => rfl) rfl rfl rfl rfl rfl rfl (k_isSign (b := b) hk 43 (by decide)) (fun r h' hq => ?_)
    obtain ⟨rfl, rfl⟩ := hq
    rw [if_neg (by omega)]
    show Ev X _ _ 81 [Vr 166, Vi (f : Int), Vi (b 193 f), Vi tz, Vx] [Vi 0, Vr 166] ((SHv st dr rd), (ovl a s b)) _
    refine Ev.call (k := 3) (pc1 := 87) (L1 := [Vr 166, Vi (f : Int), Vi (b 193 f), Vi tz, Vx]) (S1 := [Vi 45, Vr 166, Vr 166]) (h1 := ((SHv st dr rd), (ovl a s b))) (m' := 174) (as := [Vr 166, Vi 45]) (S' := [Vr 166]) (L0 := [Vr 166, Vi 45]) (fun _ => rfl) rfl rfl rfl rfl rfl rfl (k_isSign (b := b) hk 45 (by decide)) (fun r h' hq => ?_)
    obtain ⟨rfl, rfl⟩ := hq
    rw [if_pos (by omega)]
    show Ev X _ _ 90 [Vr 166, Vi (f : Int), Vi (b 193 f), Vi tz, Vx] [Vi 1, Vr 166] ((SHv st dr rd), (ovl a s b)) _
    refine Ev.call (k := 3) (pc1 := 99) (L1 := [Vr 166, Vi (f : Int), Vi (b 193 f), Vi tz, Vx]) (S1 := [Vi 5, Vr 166]) (h1 := ((SHv st dr rd), (ovl a s b))) (m' := 179) (as := [Vr 166, Vi 5]) (S' := []) (L0 := [Vr 166, Vi 5]) (fun _ => rfl) rfl rfl rfl rfl rfl rfl (m_joins (b0 := b) hN.1 ⟨by omega, by omega⟩ 5 hbo pd c hN.2.1 e38 e45 e48 ebs hst hrk hlo (by omega) (by omega)) (fun r h' hq => ?_)
    obtain ⟨rfl, bq3, rfl, hcdq3, h38q3, h48q3, hfrq3⟩ := hq
    have hfrq3 : JnF j c pd.length b bq3 := hfrq3
    show Ev X _ _ 102 [Vr 166, Vi (f : Int), Vi (b 193 f), Vi tz, Vx] [] ((SHv st dr rd), (ovl a s bq3)) _
    refine Ev.call (k := 3) (pc1 := 106) (L1 := [Vr 166, Vi (f : Int), Vi (b 193 f), Vi tz, Vx]) (S1 := [Vi 43, Vr 166, Vr 166]) (h1 := ((SHv st dr rd), (ovl a s bq3))) (m' := 174) (as := [Vr 166, Vi 43]) (S' := [Vr 166]) (L0 := [Vr 166, Vi 43]) (fun _ => rfl) rfl rfl rfl rfl rfl rfl (k_isSign (b := bq3) (jn_tk hk hfrq3) 43 (by decide)) (fun r h' hq => ?_)
    obtain ⟨rfl, rfl⟩ := hq
    rw [if_neg (by omega)]
    show Ev X _ _ 109 [Vr 166, Vi (f : Int), Vi (b 193 f), Vi tz, Vx] [Vi 0, Vr 166] ((SHv st dr rd), (ovl a s bq3)) _
    refine Ev.call (k := 3) (pc1 := 120) (L1 := [Vr 166, Vi (f : Int), Vi (b 193 f), Vi tz, Vx]) (S1 := [Vi 45, Vr 166, Vr 166]) (h1 := ((SHv st dr rd), (ovl a s bq3))) (m' := 174) (as := [Vr 166, Vi 45]) (S' := [Vr 166]) (L0 := [Vr 166, Vi 45]) (fun _ => rfl) rfl rfl rfl rfl rfl rfl (k_isSign (b := bq3) (jn_tk hk hfrq3) 45 (by decide)) (fun r h' hq => ?_)
    obtain ⟨rfl, rfl⟩ := hq
    rw [if_pos (by omega)]
    show Ev X _ _ 123 [Vr 166, Vi (f : Int), Vi (b 193 f), Vi tz, Vx] [Vi 1, Vr 166] ((SHv st dr rd), (ovl a s bq3)) _
    refine Ev.call (k := 3) (pc1 := 161) (L1 := [Vr 166, Vi (f : Int), Vi (b 193 f), Vi tz, Vx]) (S1 := [Vi 16, Vr 166]) (h1 := ((SHv st dr rd), (ovl a s bq3))) (m' := 173) (as := [Vr 166, Vi 16]) (S' := []) (L0 := [Vr 166, Vi 16]) (fun _ => rfl) rfl rfl rfl rfl rfl rfl (m_holdsBack (b := bq3) h48q3 (by omega) 16) (fun r h' hq => ?_)
    obtain ⟨rfl, rfl⟩ := hq
    show Ev X _ _ 164 [Vr 166, Vi (f : Int), Vi (b 193 f), Vi tz, Vx] [] ((SHv st dr rd), (ovl a s (updC (updC bq3 198 om 16) 166 48 ((om : Int) + 1)))) _
    refine Ev.call (k := 1) (pc1 := 165) (L1 := [Vr 166, Vi (f : Int), Vi (b 193 f), Vi tz, Vx]) (S1 := [Vr 166]) (h1 := ((SHv st dr rd), (ovl a s (updC (updC bq3 198 om 16) 166 48 ((om : Int) + 1))))) (m' := 157) (as := [Vr 166]) (S' := []) (L0 := [Vr 166, Vx, Vx, Vx, Vx, Vx]) (fun _ => rfl) rfl rfl rfl rfl rfl rfl (m_nextT (b := (updC (updC bq3 198 om 16) 166 48 ((om : Int) + 1))) (((jn_tk hk hfrq3).up (by omega)).up (by omega))) (fun r h' hq => ?_)
    obtain ⟨rfl, bq4, rfl, hq⟩ := hq
    rcases hq with ⟨pq4, hxq4, hoq4⟩ | ⟨eq4, hxq4, hbq4⟩
    · show Ev X _ _ 168 [Vr 166, Vi (f : Int), Vi (b 193 f), Vi tz, Vx] [] ((SHv st dr rd), (ovl a s bq4)) _
      refine Ev.steps (k := 2) (pc' := 170) (L' := [Vr 166, Vi (f : Int), Vi (b 193 f), Vi tz, Vx]) (S' := [Vi 0, Vr 166]) (h' := ((SHv st dr rd), (ovl a s bq4))) (fun _ => rfl) ?_
      refine Ev.putz (c' := (ovl a s (updC bq4 166 49 0))) rfl (by decide) rfl rfl rfl (by decide) (ovl_wm (by decide)) ?_
      refine Ev.fin (k := 2) (r := (some (Vi 1))) (h' := ((SHv st dr rd), (ovl a s (updC bq4 166 49 0)))) (fun _ => rfl) ?_
      exact ⟨1, _, rfl, Or.inr rfl, rfl, Or.inl ⟨pq4, hxq4, rfl, (GoM.nx hoq4 (((jn_kp hfrq3 (by omega) : KpM j c om f b bq3).up (by omega)).up (by omega)) (codM_u (codM_u hcdq3 (by omega)) (by omega)) h38q3 (by rw [updC_sm]; first | done | omega) (by rw [updC_nt (by omega), updC_sm]) ((hfrq3 166 45 (by omega) (by omega)).trans e45) ((hfrq3 166 46 (by omega) (by omega)).trans e46) (by rw [updC_nt (by omega), updC_nt (by omega)]; exact hfrq3 194 f (by omega) (by omega)) (by rw [updC_nt (by omega), updC_nt (by omega)]; exact hfrq3 195 f (by omega) (by omega)))⟩⟩
    · show Ev X _ _ 168 [Vr 166, Vi (f : Int), Vi (b 193 f), Vi tz, Vx] [] ((SHv st dr rd), (ovl a s bq4)) _
      refine Ev.steps (k := 2) (pc' := 170) (L' := [Vr 166, Vi (f : Int), Vi (b 193 f), Vi tz, Vx]) (S' := [Vi 0, Vr 166]) (h' := ((SHv st dr rd), (ovl a s bq4))) (fun _ => rfl) ?_
      refine Ev.putz (c' := (ovl a s (updC bq4 166 49 0))) rfl (by decide) rfl rfl rfl (by decide) (ovl_wm (by decide)) ?_
      refine Ev.fin (k := 2) (r := (some (Vi 1))) (h' := ((SHv st dr rd), (ovl a s (updC bq4 166 49 0)))) (fun _ => rfl) ?_
      exact ⟨1, _, rfl, Or.inr rfl, rfl, Or.inr ⟨eq4, hxq4, (hbq4.bk (((jn_kp hfrq3 (by omega) : KpM j c om f b bq3).up (by omega)).up (by omega))).up (by omega)⟩⟩
theorem m_go_42 {X : List Int} {d : Nat} {st dr rd : Int} {a s b : C3} {W : TXT} {p : Nat} (hk : TkM W p b) {N : SC} {j : Nat} (hN : NmM N b j) {c om f bs : Nat} {pd : List Nat} (e38 : b 166 38 = (c : Int)) (e48 : b 166 48 = ((om + pd.length : Nat) : Int)) (e45 : b 166 45 = ((f + 1 : Nat) : Int)) (e46 : b 166 46 = (f : Int)) (hf : f ≤ 8) (ebs : b 197 f = (bs : Int)) (hbo : bs ≤ om) (hst : stkM (b 198) om pd) (hc : c + pd.length ≤ 1200) (ho : om + pd.length < 500) (hrk : ∀ op, op ∈ pd → 6 ≤ rkM ((op : Nat) : Int)) (hlo : om = bs ∨ rkM (b 198 (om - 1)) < 6) (hph : b 194 f = 0 ∨ b 194 f = 1) (hct : tC W p = 42) : Ev X (d + 2) 178 0 [Vr 166, Vx, Vx, Vx, Vx] [] (SHv st dr rd, ovl a s b) (fun rr hh => ∃ (v : Int) (b' : C3), rr = some (Vi v) ∧ (v = 0 ∨ v = 1) ∧ hh = (SHv st dr rd, ovl a s b') ∧ ResC (gotT W p) (fun r => v = 1 ∧ GoM W j c om f 17 (b 194 f) (b 195 f) pd r b b') (fun e => BkM W j c b e b')) := by
  refine Ev.steps (k := 2) (pc' := 4) (L' := [Vr 166, Vx, Vx, Vx, Vx]) (S' := [Vi (b 166 45)]) (h' := ((SHv st dr rd), (ovl a s b))) (fun _ => rfl) ?_
  rw [e45]
  refine Ev.steps (k := 2) (pc' := 6) (L' := [Vr 166, Vx, Vx, Vx, Vx]) (S' := [Vi (w32 (((f + 1 : Nat) : Int) - 1))]) (h' := ((SHv st dr rd), (ovl a s b))) (fun _ => rfl) ?_
  rw [show (w32 (((f + 1 : Nat) : Int) - 1)) = (f : Int) from (by unfold w32; omega)]
  refine Ev.steps (k := 4) (pc' := 12) (L' := [Vr 166, Vi (f : Int), Vx, Vx, Vx]) (S' := [Vi (f : Int), Vr 193]) (h' := ((SHv st dr rd), (ovl a s b))) (fun _ => rfl) ?_
  refine Ev.iald (v := (b 193 f)) rfl (by decide) rfl (by omega) (by omega) (rfl) ?_
  refine Ev.call (k := 2) (pc1 := 15) (L1 := [Vr 166, Vi (f : Int), Vi (b 193 f), Vx, Vx]) (S1 := [Vi (b 193 f)]) (h1 := ((SHv st dr rd), (ovl a s b))) (m' := 172) (as := [Vi (b 193 f)]) (S' := []) (L0 := [Vi (b 193 f)]) (fun _ => rfl) rfl rfl rfl rfl rfl rfl (m_isTest (b := b) (b 193 f)) (fun r h' hq => ?_)
  obtain ⟨rfl, rfl⟩ := hq
  generalize (if (b 193 f) = 1 ∨ (b 193 f) = 5 then (1 : Int) else 0) = tz
  show Ev X _ _ 18 [Vr 166, Vi (f : Int), Vi (b 193 f), Vx, Vx] [Vi tz] ((SHv st dr rd), (ovl a s b)) _
  refine Ev.steps (k := 4) (pc' := 24) (L' := [Vr 166, Vi (f : Int), Vi (b 193 f), Vi tz, Vx]) (S' := [Vi (f : Int), Vr 194]) (h' := ((SHv st dr rd), (ovl a s b))) (fun _ => rfl) ?_
  refine Ev.iald (v := (b 194 f)) rfl (by decide) rfl (by omega) (by omega) (rfl) ?_
  refine Ev.ite (P := 2 ≤ (b 194 f)) (k := 2) (a := 175) (b := 29) (L' := [Vr 166, Vi (f : Int), Vi (b 193 f), Vi tz, Vx]) (S' := []) (h' := ((SHv st dr rd), (ovl a s b))) (fun _ => rfl) (fun b26 => ?_) (fun b26 => ?_)
  · omega
  · refine Ev.call (k := 2) (pc1 := 32) (L1 := [Vr 166, Vi (f : Int), Vi (b 193 f), Vi tz, Vx]) (S1 := [Vi 43, Vr 166]) (h1 := ((SHv st dr rd), (ovl a s b))) (m' := 174) (as := [Vr 166, Vi 43]) (S' := []) (L0 := [Vr 166, Vi 43]) (fun _ => rfl) rfl rfl rfl rfl rfl rfl (k_isSign (b := b) hk 43 (by decide)) (fun r h' hq => ?_)
    obtain ⟨rfl, rfl⟩ := hq
    rw [if_neg (by omega)]
    show Ev X _ _ 35 [Vr 166, Vi (f : Int), Vi (b 193 f), Vi tz, Vx] [Vi 0] ((SHv st dr rd), (ovl a s b)) _
    refine Ev.call (k := 3) (pc1 := 41) (L1 := [Vr 166, Vi (f : Int), Vi (b 193 f), Vi tz, Vx]) (S1 := [Vi 45, Vr 166]) (h1 := ((SHv st dr rd), (ovl a s b))) (m' := 174) (as := [Vr 166, Vi 45]) (S' := []) (L0 := [Vr 166, Vi 45]) (fun _ => rfl) rfl rfl rfl rfl rfl rfl (k_isSign (b := b) hk 45 (by decide)) (fun r h' hq => ?_)
    obtain ⟨rfl, rfl⟩ := hq
    rw [if_neg (by omega)]
    show Ev X _ _ 44 [Vr 166, Vi (f : Int), Vi (b 193 f), Vi tz, Vx] [Vi 0] ((SHv st dr rd), (ovl a s b)) _
    refine Ev.call (k := 3) (pc1 := 50) (L1 := [Vr 166, Vi (f : Int), Vi (b 193 f), Vi tz, Vx]) (S1 := [Vi 42, Vr 166]) (h1 := ((SHv st dr rd), (ovl a s b))) (m' := 174) (as := [Vr 166, Vi 42]) (S' := []) (L0 := [Vr 166, Vi 42]) (fun _ => rfl) rfl rfl rfl rfl rfl rfl (k_isSign (b := b) hk 42 (by decide)) (fun r h' hq => ?_)
    obtain ⟨rfl, rfl⟩ := hq
    rw [if_pos (by omega)]
    show Ev X _ _ 53 [Vr 166, Vi (f : Int), Vi (b 193 f), Vi tz, Vx] [Vi 1] ((SHv st dr rd), (ovl a s b)) _
    refine Ev.call (k := 4) (pc1 := 78) (L1 := [Vr 166, Vi (f : Int), Vi (b 193 f), Vi tz, Vx]) (S1 := [Vi 43, Vr 166, Vr 166]) (h1 := ((SHv st dr rd), (ovl a s b))) (m' := 174) (as := [Vr 166, Vi 43]) (S' := [Vr 166]) (L0 := [Vr 166, Vi 43]) (fun _ => rfl) rfl rfl rfl rfl rfl rfl (k_isSign (b := b) hk 43 (by decide)) (fun r h' hq => ?_)
    obtain ⟨rfl, rfl⟩ := hq
    rw [if_neg (by omega)]
    show Ev X _ _ 81 [Vr 166, Vi (f : Int), Vi (b 193 f), Vi tz, Vx] [Vi 0, Vr 166] ((SHv st dr rd), (ovl a s b)) _
    refine Ev.call (k := 3) (pc1 := 87) (L1 := [Vr 166, Vi (f : Int), Vi (b 193 f), Vi tz, Vx]) (S1 := [Vi 45, Vr 166, Vr 166]) (h1 := ((SHv st dr rd), (ovl a s b))) (m' := 174) (as := [Vr 166, Vi 45]) (S' := [Vr 166]) (L0 := [Vr 166, Vi 45]) (fun _ => rfl) rfl rfl rfl rfl rfl rfl (k_isSign (b := b) hk 45 (by decide)) (fun r h' hq => ?_)
    obtain ⟨rfl, rfl⟩ := hq
    rw [if_neg (by omega)]
    show Ev X _ _ 90 [Vr 166, Vi (f : Int), Vi (b 193 f), Vi tz, Vx] [Vi 0, Vr 166] ((SHv st dr rd), (ovl a s b)) _
    refine Ev.call (k := 2) (pc1 := 99) (L1 := [Vr 166, Vi (f : Int), Vi (b 193 f), Vi tz, Vx]) (S1 := [Vi 6, Vr 166]) (h1 := ((SHv st dr rd), (ovl a s b))) (m' := 179) (as := [Vr 166, Vi 6]) (S' := []) (L0 := [Vr 166, Vi 6]) (fun _ => rfl) rfl rfl rfl rfl rfl rfl (m_joins (b0 := b) hN.1 ⟨by omega, by omega⟩ 6 hbo pd c hN.2.1 e38 e45 e48 ebs hst hrk hlo (by omega) (by omega)) (fun r h' hq => ?_)
    obtain ⟨rfl, bq5, rfl, hcdq5, h38q5, h48q5, hfrq5⟩ := hq
    have hfrq5 : JnF j c pd.length b bq5 := hfrq5
    show Ev X _ _ 102 [Vr 166, Vi (f : Int), Vi (b 193 f), Vi tz, Vx] [] ((SHv st dr rd), (ovl a s bq5)) _
    refine Ev.call (k := 3) (pc1 := 106) (L1 := [Vr 166, Vi (f : Int), Vi (b 193 f), Vi tz, Vx]) (S1 := [Vi 43, Vr 166, Vr 166]) (h1 := ((SHv st dr rd), (ovl a s bq5))) (m' := 174) (as := [Vr 166, Vi 43]) (S' := [Vr 166]) (L0 := [Vr 166, Vi 43]) (fun _ => rfl) rfl rfl rfl rfl rfl rfl (k_isSign (b := bq5) (jn_tk hk hfrq5) 43 (by decide)) (fun r h' hq => ?_)
    obtain ⟨rfl, rfl⟩ := hq
    rw [if_neg (by omega)]
    show Ev X _ _ 109 [Vr 166, Vi (f : Int), Vi (b 193 f), Vi tz, Vx] [Vi 0, Vr 166] ((SHv st dr rd), (ovl a s bq5)) _
    refine Ev.call (k := 3) (pc1 := 120) (L1 := [Vr 166, Vi (f : Int), Vi (b 193 f), Vi tz, Vx]) (S1 := [Vi 45, Vr 166, Vr 166]) (h1 := ((SHv st dr rd), (ovl a s bq5))) (m' := 174) (as := [Vr 166, Vi 45]) (S' := [Vr 166]) (L0 := [Vr 166, Vi 45]) (fun _ => rfl) rfl rfl rfl rfl rfl rfl (k_isSign (b := bq5) (jn_tk hk hfrq5) 45 (by decide)) (fun r h' hq => ?_)
    obtain ⟨rfl, rfl⟩ := hq
    rw [if_neg (by omega)]
    show Ev X _ _ 123 [Vr 166, Vi (f : Int), Vi (b 193 f), Vi tz, Vx] [Vi 0, Vr 166] ((SHv st dr rd), (ovl a s bq5)) _
    refine Ev.call (k := 3) (pc1 := 134) (L1 := [Vr 166, Vi (f : Int), Vi (b 193 f), Vi tz, Vx]) (S1 := [Vi 42, Vr 166, Vr 166]) (h1 := ((SHv st dr rd), (ovl a s bq5))) (m' := 174) (as := [Vr 166, Vi 42]) (S' := [Vr 166]) (L0 := [Vr 166, Vi 42]) (fun _ => rfl) rfl rfl rfl rfl rfl rfl (k_isSign (b := bq5) (jn_tk hk hfrq5) 42 (by decide)) (fun r h' hq => ?_)
    obtain ⟨rfl, rfl⟩ := hq
    rw [if_pos (by omega)]
    show Ev X _ _ 137 [Vr 166, Vi (f : Int), Vi (b 193 f), Vi tz, Vx] [Vi 1, Vr 166] ((SHv st dr rd), (ovl a s bq5)) _
    refine Ev.call (k := 3) (pc1 := 161) (L1 := [Vr 166, Vi (f : Int), Vi (b 193 f), Vi tz, Vx]) (S1 := [Vi 17, Vr 166]) (h1 := ((SHv st dr rd), (ovl a s bq5))) (m' := 173) (as := [Vr 166, Vi 17]) (S' := []) (L0 := [Vr 166, Vi 17]) (fun _ => rfl) rfl rfl rfl rfl rfl rfl (m_holdsBack (b := bq5) h48q5 (by omega) 17) (fun r h' hq => ?_)
    obtain ⟨rfl, rfl⟩ := hq
    show Ev X _ _ 164 [Vr 166, Vi (f : Int), Vi (b 193 f), Vi tz, Vx] [] ((SHv st dr rd), (ovl a s (updC (updC bq5 198 om 17) 166 48 ((om : Int) + 1)))) _
    refine Ev.call (k := 1) (pc1 := 165) (L1 := [Vr 166, Vi (f : Int), Vi (b 193 f), Vi tz, Vx]) (S1 := [Vr 166]) (h1 := ((SHv st dr rd), (ovl a s (updC (updC bq5 198 om 17) 166 48 ((om : Int) + 1))))) (m' := 157) (as := [Vr 166]) (S' := []) (L0 := [Vr 166, Vx, Vx, Vx, Vx, Vx]) (fun _ => rfl) rfl rfl rfl rfl rfl rfl (m_nextT (b := (updC (updC bq5 198 om 17) 166 48 ((om : Int) + 1))) (((jn_tk hk hfrq5).up (by omega)).up (by omega))) (fun r h' hq => ?_)
    obtain ⟨rfl, bq6, rfl, hq⟩ := hq
    rcases hq with ⟨pq6, hxq6, hoq6⟩ | ⟨eq6, hxq6, hbq6⟩
    · show Ev X _ _ 168 [Vr 166, Vi (f : Int), Vi (b 193 f), Vi tz, Vx] [] ((SHv st dr rd), (ovl a s bq6)) _
      refine Ev.steps (k := 2) (pc' := 170) (L' := [Vr 166, Vi (f : Int), Vi (b 193 f), Vi tz, Vx]) (S' := [Vi 0, Vr 166]) (h' := ((SHv st dr rd), (ovl a s bq6))) (fun _ => rfl) ?_
      refine Ev.putz (c' := (ovl a s (updC bq6 166 49 0))) rfl (by decide) rfl rfl rfl (by decide) (ovl_wm (by decide)) ?_
      refine Ev.fin (k := 2) (r := (some (Vi 1))) (h' := ((SHv st dr rd), (ovl a s (updC bq6 166 49 0)))) (fun _ => rfl) ?_
      exact ⟨1, _, rfl, Or.inr rfl, rfl, Or.inl ⟨pq6, hxq6, rfl, (GoM.nx hoq6 (((jn_kp hfrq5 (by omega) : KpM j c om f b bq5).up (by omega)).up (by omega)) (codM_u (codM_u hcdq5 (by omega)) (by omega)) h38q5 (by rw [updC_sm]; first | done | omega) (by rw [updC_nt (by omega), updC_sm]) ((hfrq5 166 45 (by omega) (by omega)).trans e45) ((hfrq5 166 46 (by omega) (by omega)).trans e46) (by rw [updC_nt (by omega), updC_nt (by omega)]; exact hfrq5 194 f (by omega) (by omega)) (by rw [updC_nt (by omega), updC_nt (by omega)]; exact hfrq5 195 f (by omega) (by omega)))⟩⟩
    · show Ev X _ _ 168 [Vr 166, Vi (f : Int), Vi (b 193 f), Vi tz, Vx] [] ((SHv st dr rd), (ovl a s bq6)) _
      refine Ev.steps (k := 2) (pc' := 170) (L' := [Vr 166, Vi (f : Int), Vi (b 193 f), Vi tz, Vx]) (S' := [Vi 0, Vr 166]) (h' := ((SHv st dr rd), (ovl a s bq6))) (fun _ => rfl) ?_
      refine Ev.putz (c' := (ovl a s (updC bq6 166 49 0))) rfl (by decide) rfl rfl rfl (by decide) (ovl_wm (by decide)) ?_
      refine Ev.fin (k := 2) (r := (some (Vi 1))) (h' := ((SHv st dr rd), (ovl a s (updC bq6 166 49 0)))) (fun _ => rfl) ?_
      exact ⟨1, _, rfl, Or.inr rfl, rfl, Or.inr ⟨eq6, hxq6, (hbq6.bk (((jn_kp hfrq5 (by omega) : KpM j c om f b bq5).up (by omega)).up (by omega))).up (by omega)⟩⟩
theorem m_go_47 {X : List Int} {d : Nat} {st dr rd : Int} {a s b : C3} {W : TXT} {p : Nat} (hk : TkM W p b) {N : SC} {j : Nat} (hN : NmM N b j) {c om f bs : Nat} {pd : List Nat} (e38 : b 166 38 = (c : Int)) (e48 : b 166 48 = ((om + pd.length : Nat) : Int)) (e45 : b 166 45 = ((f + 1 : Nat) : Int)) (e46 : b 166 46 = (f : Int)) (hf : f ≤ 8) (ebs : b 197 f = (bs : Int)) (hbo : bs ≤ om) (hst : stkM (b 198) om pd) (hc : c + pd.length ≤ 1200) (ho : om + pd.length < 500) (hrk : ∀ op, op ∈ pd → 6 ≤ rkM ((op : Nat) : Int)) (hlo : om = bs ∨ rkM (b 198 (om - 1)) < 6) (hph : b 194 f = 0 ∨ b 194 f = 1) (hct : tC W p = 47) : Ev X (d + 2) 178 0 [Vr 166, Vx, Vx, Vx, Vx] [] (SHv st dr rd, ovl a s b) (fun rr hh => ∃ (v : Int) (b' : C3), rr = some (Vi v) ∧ (v = 0 ∨ v = 1) ∧ hh = (SHv st dr rd, ovl a s b') ∧ ResC (gotT W p) (fun r => v = 1 ∧ GoM W j c om f 18 (b 194 f) (b 195 f) pd r b b') (fun e => BkM W j c b e b')) := by
  refine Ev.steps (k := 2) (pc' := 4) (L' := [Vr 166, Vx, Vx, Vx, Vx]) (S' := [Vi (b 166 45)]) (h' := ((SHv st dr rd), (ovl a s b))) (fun _ => rfl) ?_
  rw [e45]
  refine Ev.steps (k := 2) (pc' := 6) (L' := [Vr 166, Vx, Vx, Vx, Vx]) (S' := [Vi (w32 (((f + 1 : Nat) : Int) - 1))]) (h' := ((SHv st dr rd), (ovl a s b))) (fun _ => rfl) ?_
  rw [show (w32 (((f + 1 : Nat) : Int) - 1)) = (f : Int) from (by unfold w32; omega)]
  refine Ev.steps (k := 4) (pc' := 12) (L' := [Vr 166, Vi (f : Int), Vx, Vx, Vx]) (S' := [Vi (f : Int), Vr 193]) (h' := ((SHv st dr rd), (ovl a s b))) (fun _ => rfl) ?_
  refine Ev.iald (v := (b 193 f)) rfl (by decide) rfl (by omega) (by omega) (rfl) ?_
  refine Ev.call (k := 2) (pc1 := 15) (L1 := [Vr 166, Vi (f : Int), Vi (b 193 f), Vx, Vx]) (S1 := [Vi (b 193 f)]) (h1 := ((SHv st dr rd), (ovl a s b))) (m' := 172) (as := [Vi (b 193 f)]) (S' := []) (L0 := [Vi (b 193 f)]) (fun _ => rfl) rfl rfl rfl rfl rfl rfl (m_isTest (b := b) (b 193 f)) (fun r h' hq => ?_)
  obtain ⟨rfl, rfl⟩ := hq
  generalize (if (b 193 f) = 1 ∨ (b 193 f) = 5 then (1 : Int) else 0) = tz
  show Ev X _ _ 18 [Vr 166, Vi (f : Int), Vi (b 193 f), Vx, Vx] [Vi tz] ((SHv st dr rd), (ovl a s b)) _
  refine Ev.steps (k := 4) (pc' := 24) (L' := [Vr 166, Vi (f : Int), Vi (b 193 f), Vi tz, Vx]) (S' := [Vi (f : Int), Vr 194]) (h' := ((SHv st dr rd), (ovl a s b))) (fun _ => rfl) ?_
  refine Ev.iald (v := (b 194 f)) rfl (by decide) rfl (by omega) (by omega) (rfl) ?_
  refine Ev.ite (P := 2 ≤ (b 194 f)) (k := 2) (a := 175) (b := 29) (L' := [Vr 166, Vi (f : Int), Vi (b 193 f), Vi tz, Vx]) (S' := []) (h' := ((SHv st dr rd), (ovl a s b))) (fun _ => rfl) (fun b26 => ?_) (fun b26 => ?_)
  · omega
  · refine Ev.call (k := 2) (pc1 := 32) (L1 := [Vr 166, Vi (f : Int), Vi (b 193 f), Vi tz, Vx]) (S1 := [Vi 43, Vr 166]) (h1 := ((SHv st dr rd), (ovl a s b))) (m' := 174) (as := [Vr 166, Vi 43]) (S' := []) (L0 := [Vr 166, Vi 43]) (fun _ => rfl) rfl rfl rfl rfl rfl rfl (k_isSign (b := b) hk 43 (by decide)) (fun r h' hq => ?_)
    obtain ⟨rfl, rfl⟩ := hq
    rw [if_neg (by omega)]
    show Ev X _ _ 35 [Vr 166, Vi (f : Int), Vi (b 193 f), Vi tz, Vx] [Vi 0] ((SHv st dr rd), (ovl a s b)) _
    refine Ev.call (k := 3) (pc1 := 41) (L1 := [Vr 166, Vi (f : Int), Vi (b 193 f), Vi tz, Vx]) (S1 := [Vi 45, Vr 166]) (h1 := ((SHv st dr rd), (ovl a s b))) (m' := 174) (as := [Vr 166, Vi 45]) (S' := []) (L0 := [Vr 166, Vi 45]) (fun _ => rfl) rfl rfl rfl rfl rfl rfl (k_isSign (b := b) hk 45 (by decide)) (fun r h' hq => ?_)
    obtain ⟨rfl, rfl⟩ := hq
    rw [if_neg (by omega)]
    show Ev X _ _ 44 [Vr 166, Vi (f : Int), Vi (b 193 f), Vi tz, Vx] [Vi 0] ((SHv st dr rd), (ovl a s b)) _
    refine Ev.call (k := 3) (pc1 := 50) (L1 := [Vr 166, Vi (f : Int), Vi (b 193 f), Vi tz, Vx]) (S1 := [Vi 42, Vr 166]) (h1 := ((SHv st dr rd), (ovl a s b))) (m' := 174) (as := [Vr 166, Vi 42]) (S' := []) (L0 := [Vr 166, Vi 42]) (fun _ => rfl) rfl rfl rfl rfl rfl rfl (k_isSign (b := b) hk 42 (by decide)) (fun r h' hq => ?_)
    obtain ⟨rfl, rfl⟩ := hq
    rw [if_neg (by omega)]
    show Ev X _ _ 53 [Vr 166, Vi (f : Int), Vi (b 193 f), Vi tz, Vx] [Vi 0] ((SHv st dr rd), (ovl a s b)) _
    refine Ev.call (k := 3) (pc1 := 59) (L1 := [Vr 166, Vi (f : Int), Vi (b 193 f), Vi tz, Vx]) (S1 := [Vi 47, Vr 166]) (h1 := ((SHv st dr rd), (ovl a s b))) (m' := 174) (as := [Vr 166, Vi 47]) (S' := []) (L0 := [Vr 166, Vi 47]) (fun _ => rfl) rfl rfl rfl rfl rfl rfl (k_isSign (b := b) hk 47 (by decide)) (fun r h' hq => ?_)
    obtain ⟨rfl, rfl⟩ := hq
    rw [if_pos (by omega)]
    show Ev X _ _ 62 [Vr 166, Vi (f : Int), Vi (b 193 f), Vi tz, Vx] [Vi 1] ((SHv st dr rd), (ovl a s b)) _
    refine Ev.call (k := 4) (pc1 := 78) (L1 := [Vr 166, Vi (f : Int), Vi (b 193 f), Vi tz, Vx]) (S1 := [Vi 43, Vr 166, Vr 166]) (h1 := ((SHv st dr rd), (ovl a s b))) (m' := 174) (as := [Vr 166, Vi 43]) (S' := [Vr 166]) (L0 := [Vr 166, Vi 43]) (fun _ => rfl) rfl rfl rfl rfl rfl rfl (k_isSign (b := b) hk 43 (by decide)) (fun r h' hq => ?_)
    obtain ⟨rfl, rfl⟩ := hq
    rw [if_neg (by omega)]
    show Ev X _ _ 81 [Vr 166, Vi (f : Int), Vi (b 193 f), Vi tz, Vx] [Vi 0, Vr 166] ((SHv st dr rd), (ovl a s b)) _
    refine Ev.call (k := 3) (pc1 := 87) (L1 := [Vr 166, Vi (f : Int), Vi (b 193 f), Vi tz, Vx]) (S1 := [Vi 45, Vr 166, Vr 166]) (h1 := ((SHv st dr rd), (ovl a s b))) (m' := 174) (as := [Vr 166, Vi 45]) (S' := [Vr 166]) (L0 := [Vr 166, Vi 45]) (fun _ => rfl) rfl rfl rfl rfl rfl rfl (k_isSign (b := b) hk 45 (by decide)) (fun r h' hq => ?_)
    obtain ⟨rfl, rfl⟩ := hq
    rw [if_neg (by omega)]
    show Ev X _ _ 90 [Vr 166, Vi (f : Int), Vi (b 193 f), Vi tz, Vx] [Vi 0, Vr 166] ((SHv st dr rd), (ovl a s b)) _
    refine Ev.call (k := 2) (pc1 := 99) (L1 := [Vr 166, Vi (f : Int), Vi (b 193 f), Vi tz, Vx]) (S1 := [Vi 6, Vr 166]) (h1 := ((SHv st dr rd), (ovl a s b))) (m' := 179) (as := [Vr 166, Vi 6]) (S' := []) (L0 := [Vr 166, Vi 6]) (fun _ => rfl) rfl rfl rfl rfl rfl rfl (m_joins (b0 := b) hN.1 ⟨by omega, by omega⟩ 6 hbo pd c hN.2.1 e38 e45 e48 ebs hst hrk hlo (by omega) (by omega)) (fun r h' hq => ?_)
    obtain ⟨rfl, bq7, rfl, hcdq7, h38q7, h48q7, hfrq7⟩ := hq
    have hfrq7 : JnF j c pd.length b bq7 := hfrq7
    show Ev X _ _ 102 [Vr 166, Vi (f : Int), Vi (b 193 f), Vi tz, Vx] [] ((SHv st dr rd), (ovl a s bq7)) _
    refine Ev.call (k := 3) (pc1 := 106) (L1 := [Vr 166, Vi (f : Int), Vi (b 193 f), Vi tz, Vx]) (S1 := [Vi 43, Vr 166, Vr 166]) (h1 := ((SHv st dr rd), (ovl a s bq7))) (m' := 174) (as := [Vr 166, Vi 43]) (S' := [Vr 166]) (L0 := [Vr 166, Vi 43]) (fun _ => rfl) rfl rfl rfl rfl rfl rfl (k_isSign (b := bq7) (jn_tk hk hfrq7) 43 (by decide)) (fun r h' hq => ?_)
    obtain ⟨rfl, rfl⟩ := hq
    rw [if_neg (by omega)]
    show Ev X _ _ 109 [Vr 166, Vi (f : Int), Vi (b 193 f), Vi tz, Vx] [Vi 0, Vr 166] ((SHv st dr rd), (ovl a s bq7)) _
    refine Ev.call (k := 3) (pc1 := 120) (L1 := [Vr 166, Vi (f : Int), Vi (b 193 f), Vi tz, Vx]) (S1 := [Vi 45, Vr 166, Vr 166]) (h1 := ((SHv st dr rd), (ovl a s bq7))) (m' := 174) (as := [Vr 166, Vi 45]) (S' := [Vr 166]) (L0 := [Vr 166, Vi 45]) (fun _ => rfl) rfl rfl rfl rfl rfl rfl (k_isSign (b := bq7) (jn_tk hk hfrq7) 45 (by decide)) (fun r h' hq => ?_)
    obtain ⟨rfl, rfl⟩ := hq
    rw [if_neg (by omega)]
    show Ev X _ _ 123 [Vr 166, Vi (f : Int), Vi (b 193 f), Vi tz, Vx] [Vi 0, Vr 166] ((SHv st dr rd), (ovl a s bq7)) _
    refine Ev.call (k := 3) (pc1 := 134) (L1 := [Vr 166, Vi (f : Int), Vi (b 193 f), Vi tz, Vx]) (S1 := [Vi 42, Vr 166, Vr 166]) (h1 := ((SHv st dr rd), (ovl a s bq7))) (m' := 174) (as := [Vr 166, Vi 42]) (S' := [Vr 166]) (L0 := [Vr 166, Vi 42]) (fun _ => rfl) rfl rfl rfl rfl rfl rfl (k_isSign (b := bq7) (jn_tk hk hfrq7) 42 (by decide)) (fun r h' hq => ?_)
    obtain ⟨rfl, rfl⟩ := hq
    rw [if_neg (by omega)]
    show Ev X _ _ 137 [Vr 166, Vi (f : Int), Vi (b 193 f), Vi tz, Vx] [Vi 0, Vr 166] ((SHv st dr rd), (ovl a s bq7)) _
    refine Ev.call (k := 3) (pc1 := 148) (L1 := [Vr 166, Vi (f : Int), Vi (b 193 f), Vi tz, Vx]) (S1 := [Vi 47, Vr 166, Vr 166]) (h1 := ((SHv st dr rd), (ovl a s bq7))) (m' := 174) (as := [Vr 166, Vi 47]) (S' := [Vr 166]) (L0 := [Vr 166, Vi 47]) (fun _ => rfl) rfl rfl rfl rfl rfl rfl (k_isSign (b := bq7) (jn_tk hk hfrq7) 47 (by decide)) (fun r h' hq => ?_)
    obtain ⟨rfl, rfl⟩ := hq
    rw [if_pos (by omega)]
    show Ev X _ _ 151 [Vr 166, Vi (f : Int), Vi (b 193 f), Vi tz, Vx] [Vi 1, Vr 166] ((SHv st dr rd), (ovl a s bq7)) _
    refine Ev.call (k := 3) (pc1 := 161) (L1 := [Vr 166, Vi (f : Int), Vi (b 193 f), Vi tz, Vx]) (S1 := [Vi 18, Vr 166]) (h1 := ((SHv st dr rd), (ovl a s bq7))) (m' := 173) (as := [Vr 166, Vi 18]) (S' := []) (L0 := [Vr 166, Vi 18]) (fun _ => rfl) rfl rfl rfl rfl rfl rfl (m_holdsBack (b := bq7) h48q7 (by omega) 18) (fun r h' hq => ?_)
    obtain ⟨rfl, rfl⟩ := hq
    show Ev X _ _ 164 [Vr 166, Vi (f : Int), Vi (b 193 f), Vi tz, Vx] [] ((SHv st dr rd), (ovl a s (updC (updC bq7 198 om 18) 166 48 ((om : Int) + 1)))) _
    refine Ev.call (k := 1) (pc1 := 165) (L1 := [Vr 166, Vi (f : Int), Vi (b 193 f), Vi tz, Vx]) (S1 := [Vr 166]) (h1 := ((SHv st dr rd), (ovl a s (updC (updC bq7 198 om 18) 166 48 ((om : Int) + 1))))) (m' := 157) (as := [Vr 166]) (S' := []) (L0 := [Vr 166, Vx, Vx, Vx, Vx, Vx]) (fun _ => rfl) rfl rfl rfl rfl rfl rfl (m_nextT (b := (updC (updC bq7 198 om 18) 166 48 ((om : Int) + 1))) (((jn_tk hk hfrq7).up (by omega)).up (by omega))) (fun r h' hq => ?_)
    obtain ⟨rfl, bq8, rfl, hq⟩ := hq
    rcases hq with ⟨pq8, hxq8, hoq8⟩ | ⟨eq8, hxq8, hbq8⟩
    · show Ev X _ _ 168 [Vr 166, Vi (f : Int), Vi (b 193 f), Vi tz, Vx] [] ((SHv st dr rd), (ovl a s bq8)) _
      refine Ev.steps (k := 2) (pc' := 170) (L' := [Vr 166, Vi (f : Int), Vi (b 193 f), Vi tz, Vx]) (S' := [Vi 0, Vr 166]) (h' := ((SHv st dr rd), (ovl a s bq8))) (fun _ => rfl) ?_
      refine Ev.putz (c' := (ovl a s (updC bq8 166 49 0))) rfl (by decide) rfl rfl rfl (by decide) (ovl_wm (by decide)) ?_
      refine Ev.fin (k := 2) (r := (some (Vi 1))) (h' := ((SHv st dr rd), (ovl a s (updC bq8 166 49 0)))) (fun _ => rfl) ?_
      exact ⟨1, _, rfl, Or.inr rfl, rfl, Or.inl ⟨pq8, hxq8, rfl, (GoM.nx hoq8 (((jn_kp hfrq7 (by omega) : KpM j c om f b bq7).up (by omega)).up (by omega)) (codM_u (codM_u hcdq7 (by omega)) (by omega)) h38q7 (by rw [updC_sm]; first | done | omega) (by rw [updC_nt (by omega), updC_sm]) ((hfrq7 166 45 (by omega) (by omega)).trans e45) ((hfrq7 166 46 (by omega) (by omega)).trans e46) (by rw [updC_nt (by omega), updC_nt (by omega)]; exact hfrq7 194 f (by omega) (by omega)) (by rw [updC_nt (by omega), updC_nt (by omega)]; exact hfrq7 195 f (by omega) (by omega)))⟩⟩
    · show Ev X _ _ 168 [Vr 166, Vi (f : Int), Vi (b 193 f), Vi tz, Vx] [] ((SHv st dr rd), (ovl a s bq8)) _
      refine Ev.steps (k := 2) (pc' := 170) (L' := [Vr 166, Vi (f : Int), Vi (b 193 f), Vi tz, Vx]) (S' := [Vi 0, Vr 166]) (h' := ((SHv st dr rd), (ovl a s bq8))) (fun _ => rfl) ?_
      refine Ev.putz (c' := (ovl a s (updC bq8 166 49 0))) rfl (by decide) rfl rfl rfl (by decide) (ovl_wm (by decide)) ?_
      refine Ev.fin (k := 2) (r := (some (Vi 1))) (h' := ((SHv st dr rd), (ovl a s (updC bq8 166 49 0)))) (fun _ => rfl) ?_
      exact ⟨1, _, rfl, Or.inr rfl, rfl, Or.inr ⟨eq8, hxq8, (hbq8.bk (((jn_kp hfrq7 (by omega) : KpM j c om f b bq7).up (by omega)).up (by omega))).up (by omega)⟩⟩
theorem m_go_37 {X : List Int} {d : Nat} {st dr rd : Int} {a s b : C3} {W : TXT} {p : Nat} (hk : TkM W p b) {N : SC} {j : Nat} (hN : NmM N b j) {c om f bs : Nat} {pd : List Nat} (e38 : b 166 38 = (c : Int)) (e48 : b 166 48 = ((om + pd.length : Nat) : Int)) (e45 : b 166 45 = ((f + 1 : Nat) : Int)) (e46 : b 166 46 = (f : Int)) (hf : f ≤ 8) (ebs : b 197 f = (bs : Int)) (hbo : bs ≤ om) (hst : stkM (b 198) om pd) (hc : c + pd.length ≤ 1200) (ho : om + pd.length < 500) (hrk : ∀ op, op ∈ pd → 6 ≤ rkM ((op : Nat) : Int)) (hlo : om = bs ∨ rkM (b 198 (om - 1)) < 6) (hph : b 194 f = 0 ∨ b 194 f = 1) (hct : tC W p = 37) : Ev X (d + 2) 178 0 [Vr 166, Vx, Vx, Vx, Vx] [] (SHv st dr rd, ovl a s b) (fun rr hh => ∃ (v : Int) (b' : C3), rr = some (Vi v) ∧ (v = 0 ∨ v = 1) ∧ hh = (SHv st dr rd, ovl a s b') ∧ ResC (gotT W p) (fun r => v = 1 ∧ GoM W j c om f 19 (b 194 f) (b 195 f) pd r b b') (fun e => BkM W j c b e b')) := by
  refine Ev.steps (k := 2) (pc' := 4) (L' := [Vr 166, Vx, Vx, Vx, Vx]) (S' := [Vi (b 166 45)]) (h' := ((SHv st dr rd), (ovl a s b))) (fun _ => rfl) ?_
  rw [e45]
  refine Ev.steps (k := 2) (pc' := 6) (L' := [Vr 166, Vx, Vx, Vx, Vx]) (S' := [Vi (w32 (((f + 1 : Nat) : Int) - 1))]) (h' := ((SHv st dr rd), (ovl a s b))) (fun _ => rfl) ?_
  rw [show (w32 (((f + 1 : Nat) : Int) - 1)) = (f : Int) from (by unfold w32; omega)]
  refine Ev.steps (k := 4) (pc' := 12) (L' := [Vr 166, Vi (f : Int), Vx, Vx, Vx]) (S' := [Vi (f : Int), Vr 193]) (h' := ((SHv st dr rd), (ovl a s b))) (fun _ => rfl) ?_
  refine Ev.iald (v := (b 193 f)) rfl (by decide) rfl (by omega) (by omega) (rfl) ?_
  refine Ev.call (k := 2) (pc1 := 15) (L1 := [Vr 166, Vi (f : Int), Vi (b 193 f), Vx, Vx]) (S1 := [Vi (b 193 f)]) (h1 := ((SHv st dr rd), (ovl a s b))) (m' := 172) (as := [Vi (b 193 f)]) (S' := []) (L0 := [Vi (b 193 f)]) (fun _ => rfl) rfl rfl rfl rfl rfl rfl (m_isTest (b := b) (b 193 f)) (fun r h' hq => ?_)
  obtain ⟨rfl, rfl⟩ := hq
  generalize (if (b 193 f) = 1 ∨ (b 193 f) = 5 then (1 : Int) else 0) = tz
  show Ev X _ _ 18 [Vr 166, Vi (f : Int), Vi (b 193 f), Vx, Vx] [Vi tz] ((SHv st dr rd), (ovl a s b)) _
  refine Ev.steps (k := 4) (pc' := 24) (L' := [Vr 166, Vi (f : Int), Vi (b 193 f), Vi tz, Vx]) (S' := [Vi (f : Int), Vr 194]) (h' := ((SHv st dr rd), (ovl a s b))) (fun _ => rfl) ?_
  refine Ev.iald (v := (b 194 f)) rfl (by decide) rfl (by omega) (by omega) (rfl) ?_
  refine Ev.ite (P := 2 ≤ (b 194 f)) (k := 2) (a := 175) (b := 29) (L' := [Vr 166, Vi (f : Int), Vi (b 193 f), Vi tz, Vx]) (S' := []) (h' := ((SHv st dr rd), (ovl a s b))) (fun _ => rfl) (fun b26 => ?_) (fun b26 => ?_)
  · omega
  · refine Ev.call (k := 2) (pc1 := 32) (L1 := [Vr 166, Vi (f : Int), Vi (b 193 f), Vi tz, Vx]) (S1 := [Vi 43, Vr 166]) (h1 := ((SHv st dr rd), (ovl a s b))) (m' := 174) (as := [Vr 166, Vi 43]) (S' := []) (L0 := [Vr 166, Vi 43]) (fun _ => rfl) rfl rfl rfl rfl rfl rfl (k_isSign (b := b) hk 43 (by decide)) (fun r h' hq => ?_)
    obtain ⟨rfl, rfl⟩ := hq
    rw [if_neg (by omega)]
    show Ev X _ _ 35 [Vr 166, Vi (f : Int), Vi (b 193 f), Vi tz, Vx] [Vi 0] ((SHv st dr rd), (ovl a s b)) _
    refine Ev.call (k := 3) (pc1 := 41) (L1 := [Vr 166, Vi (f : Int), Vi (b 193 f), Vi tz, Vx]) (S1 := [Vi 45, Vr 166]) (h1 := ((SHv st dr rd), (ovl a s b))) (m' := 174) (as := [Vr 166, Vi 45]) (S' := []) (L0 := [Vr 166, Vi 45]) (fun _ => rfl) rfl rfl rfl rfl rfl rfl (k_isSign (b := b) hk 45 (by decide)) (fun r h' hq => ?_)
    obtain ⟨rfl, rfl⟩ := hq
    rw [if_neg (by omega)]
    show Ev X _ _ 44 [Vr 166, Vi (f : Int), Vi (b 193 f), Vi tz, Vx] [Vi 0] ((SHv st dr rd), (ovl a s b)) _
    refine Ev.call (k := 3) (pc1 := 50) (L1 := [Vr 166, Vi (f : Int), Vi (b 193 f), Vi tz, Vx]) (S1 := [Vi 42, Vr 166]) (h1 := ((SHv st dr rd), (ovl a s b))) (m' := 174) (as := [Vr 166, Vi 42]) (S' := []) (L0 := [Vr 166, Vi 42]) (fun _ => rfl) rfl rfl rfl rfl rfl rfl (k_isSign (b := b) hk 42 (by decide)) (fun r h' hq => ?_)
    obtain ⟨rfl, rfl⟩ := hq
    rw [if_neg (by omega)]
    show Ev X _ _ 53 [Vr 166, Vi (f : Int), Vi (b 193 f), Vi tz, Vx] [Vi 0] ((SHv st dr rd), (ovl a s b)) _
    refine Ev.call (k := 3) (pc1 := 59) (L1 := [Vr 166, Vi (f : Int), Vi (b 193 f), Vi tz, Vx]) (S1 := [Vi 47, Vr 166]) (h1 := ((SHv st dr rd), (ovl a s b))) (m' := 174) (as := [Vr 166, Vi 47]) (S' := []) (L0 := [Vr 166, Vi 47]) (fun _ => rfl) rfl rfl rfl rfl rfl rfl (k_isSign (b := b) hk 47 (by decide)) (fun r h' hq => ?_)
    obtain ⟨rfl, rfl⟩ := hq
    rw [if_neg (by omega)]
    show Ev X _ _ 62 [Vr 166, Vi (f : Int), Vi (b 193 f), Vi tz, Vx] [Vi 0] ((SHv st dr rd), (ovl a s b)) _
    refine Ev.call (k := 3) (pc1 := 68) (L1 := [Vr 166, Vi (f : Int), Vi (b 193 f), Vi tz, Vx]) (S1 := [Vi 37, Vr 166]) (h1 := ((SHv st dr rd), (ovl a s b))) (m' := 174) (as := [Vr 166, Vi 37]) (S' := []) (L0 := [Vr 166, Vi 37]) (fun _ => rfl) rfl rfl rfl rfl rfl rfl (k_isSign (b := b) hk 37 (by decide)) (fun r h' hq => ?_)
    obtain ⟨rfl, rfl⟩ := hq
    rw [if_pos (by omega)]
    show Ev X _ _ 71 [Vr 166, Vi (f : Int), Vi (b 193 f), Vi tz, Vx] [Vi 1] ((SHv st dr rd), (ovl a s b)) _
    refine Ev.call (k := 4) (pc1 := 78) (L1 := [Vr 166, Vi (f : Int), Vi (b 193 f), Vi tz, Vx]) (S1 := [Vi 43, Vr 166, Vr 166]) (h1 := ((SHv st dr rd), (ovl a s b))) (m' := 174) (as := [Vr 166, Vi 43]) (S' := [Vr 166]) (L0 := [Vr 166, Vi 43]) (fun _ => rfl) rfl rfl rfl rfl rfl rfl (k_isSign (b := b) hk 43 (by decide)) (fun r h' hq => ?_)
    obtain ⟨rfl, rfl⟩ := hq
    rw [if_neg (by omega)]
    show Ev X _ _ 81 [Vr 166, Vi (f : Int), Vi (b 193 f), Vi tz, Vx] [Vi 0, Vr 166] ((SHv st dr rd), (ovl a s b)) _
    refine Ev.call (k := 3) (pc1 := 87) (L1 := [Vr 166, Vi (f : Int), Vi (b 193 f), Vi tz, Vx]) (S1 := [Vi 45, Vr 166, Vr 166]) (h1 := ((SHv st dr rd), (ovl a s b))) (m' := 174) (as := [Vr 166, Vi 45]) (S' := [Vr 166]) (L0 := [Vr 166, Vi 45]) (fun _ => rfl) rfl rfl rfl rfl rfl rfl (k_isSign (b := b) hk 45 (by decide)) (fun r h' hq => ?_)
    obtain ⟨rfl, rfl⟩ := hq
    rw [if_neg (by omega)]
    show Ev X _ _ 90 [Vr 166, Vi (f : Int), Vi (b 193 f), Vi tz, Vx] [Vi 0, Vr 166] ((SHv st dr rd), (ovl a s b)) _
    refine Ev.call (k := 2) (pc1 := 99) (L1 := [Vr 166, Vi (f : Int), Vi (b 193 f), Vi tz, Vx]) (S1 := [Vi 6, Vr 166]) (h1 := ((SHv st dr rd), (ovl a s b))) (m' := 179) (as := [Vr 166, Vi 6]) (S' := []) (L0 := [Vr 166, Vi 6]) (fun _ => rfl) rfl rfl rfl rfl rfl rfl (m_joins (b0 := b) hN.1 ⟨by omega, by omega⟩ 6 hbo pd c hN.2.1 e38 e45 e48 ebs hst hrk hlo (by omega) (by omega)) (fun r h' hq => ?_)
    obtain ⟨rfl, bq9, rfl, hcdq9, h38q9, h48q9, hfrq9⟩ := hq
    have hfrq9 : JnF j c pd.length b bq9 := hfrq9
    show Ev X _ _ 102 [Vr 166, Vi (f : Int), Vi (b 193 f), Vi tz, Vx] [] ((SHv st dr rd), (ovl a s bq9)) _
    refine Ev.call (k := 3) (pc1 := 106) (L1 := [Vr 166, Vi (f : Int), Vi (b 193 f), Vi tz, Vx]) (S1 := [Vi 43, Vr 166, Vr 166]) (h1 := ((SHv st dr rd), (ovl a s bq9))) (m' := 174) (as := [Vr 166, Vi 43]) (S' := [Vr 166]) (L0 := [Vr 166, Vi 43]) (fun _ => rfl) rfl rfl rfl rfl rfl rfl (k_isSign (b := bq9) (jn_tk hk hfrq9) 43 (by decide)) (fun r h' hq => ?_)
    obtain ⟨rfl, rfl⟩ := hq
    rw [if_neg (by omega)]
    show Ev X _ _ 109 [Vr 166, Vi (f : Int), Vi (b 193 f), Vi tz, Vx] [Vi 0, Vr 166] ((SHv st dr rd), (ovl a s bq9)) _
    refine Ev.call (k := 3) (pc1 := 120) (L1 := [Vr 166, Vi (f : Int), Vi (b 193 f), Vi tz, Vx]) (S1 := [Vi 45, Vr 166, Vr 166]) (h1 := ((SHv st dr rd), (ovl a s bq9))) (m' := 174) (as := [Vr 166, Vi 45]) (S' := [Vr 166]) (L0 := [Vr 166, Vi 45]) (fun _ => rfl) rfl rfl rfl rfl rfl rfl (k_isSign (b := bq9) (jn_tk hk hfrq9) 45 (by decide)) (fun r h' hq => ?_)
    obtain ⟨rfl, rfl⟩ := hq
    rw [if_neg (by omega)]
    show Ev X _ _ 123 [Vr 166, Vi (f : Int), Vi (b 193 f), Vi tz, Vx] [Vi 0, Vr 166] ((SHv st dr rd), (ovl a s bq9)) _
    refine Ev.call (k := 3) (pc1 := 134) (L1 := [Vr 166, Vi (f : Int), Vi (b 193 f), Vi tz, Vx]) (S1 := [Vi 42, Vr 166, Vr 166]) (h1 := ((SHv st dr rd), (ovl a s bq9))) (m' := 174) (as := [Vr 166, Vi 42]) (S' := [Vr 166]) (L0 := [Vr 166, Vi 42]) (fun _ => rfl) rfl rfl rfl rfl rfl rfl (k_isSign (b := bq9) (jn_tk hk hfrq9) 42 (by decide)) (fun r h' hq => ?_)
    obtain ⟨rfl, rfl⟩ := hq
    rw [if_neg (by omega)]
    show Ev X _ _ 137 [Vr 166, Vi (f : Int), Vi (b 193 f), Vi tz, Vx] [Vi 0, Vr 166] ((SHv st dr rd), (ovl a s bq9)) _
    refine Ev.call (k := 3) (pc1 := 148) (L1 := [Vr 166, Vi (f : Int), Vi (b 193 f), Vi tz, Vx]) (S1 := [Vi 47, Vr 166, Vr 166]) (h1 := ((SHv st dr rd), (ovl a s bq9))) (m' := 174) (as := [Vr 166, Vi 47]) (S' := [Vr 166]) (L0 := [Vr 166, Vi 47]) (fun _ => rfl) rfl rfl rfl rfl rfl rfl (k_isSign (b := bq9) (jn_tk hk hfrq9) 47 (by decide)) (fun r h' hq => ?_)
    obtain ⟨rfl, rfl⟩ := hq
    rw [if_neg (by omega)]
    show Ev X _ _ 151 [Vr 166, Vi (f : Int), Vi (b 193 f), Vi tz, Vx] [Vi 0, Vr 166] ((SHv st dr rd), (ovl a s bq9)) _
    refine Ev.call (k := 2) (pc1 := 161) (L1 := [Vr 166, Vi (f : Int), Vi (b 193 f), Vi tz, Vx]) (S1 := [Vi 19, Vr 166]) (h1 := ((SHv st dr rd), (ovl a s bq9))) (m' := 173) (as := [Vr 166, Vi 19]) (S' := []) (L0 := [Vr 166, Vi 19]) (fun _ => rfl) rfl rfl rfl rfl rfl rfl (m_holdsBack (b := bq9) h48q9 (by omega) 19) (fun r h' hq => ?_)
    obtain ⟨rfl, rfl⟩ := hq
    show Ev X _ _ 164 [Vr 166, Vi (f : Int), Vi (b 193 f), Vi tz, Vx] [] ((SHv st dr rd), (ovl a s (updC (updC bq9 198 om 19) 166 48 ((om : Int) + 1)))) _
    refine Ev.call (k := 1) (pc1 := 165) (L1 := [Vr 166, Vi (f : Int), Vi (b 193 f), Vi tz, Vx]) (S1 := [Vr 166]) (h1 := ((SHv st dr rd), (ovl a s (updC (updC bq9 198 om 19) 166 48 ((om : Int) + 1))))) (m' := 157) (as := [Vr 166]) (S' := []) (L0 := [Vr 166, Vx, Vx, Vx, Vx, Vx]) (fun _ => rfl) rfl rfl rfl rfl rfl rfl (m_nextT (b := (updC (updC bq9 198 om 19) 166 48 ((om : Int) + 1))) (((jn_tk hk hfrq9).up (by omega)).up (by omega))) (fun r h' hq => ?_)
    obtain ⟨rfl, bq10, rfl, hq⟩ := hq
    rcases hq with ⟨pq10, hxq10, hoq10⟩ | ⟨eq10, hxq10, hbq10⟩
    · show Ev X _ _ 168 [Vr 166, Vi (f : Int), Vi (b 193 f), Vi tz, Vx] [] ((SHv st dr rd), (ovl a s bq10)) _
      refine Ev.steps (k := 2) (pc' := 170) (L' := [Vr 166, Vi (f : Int), Vi (b 193 f), Vi tz, Vx]) (S' := [Vi 0, Vr 166]) (h' := ((SHv st dr rd), (ovl a s bq10))) (fun _ => rfl) ?_
      refine Ev.putz (c' := (ovl a s (updC bq10 166 49 0))) rfl (by decide) rfl rfl rfl (by decide) (ovl_wm (by decide)) ?_
      refine Ev.fin (k := 2) (r := (some (Vi 1))) (h' := ((SHv st dr rd), (ovl a s (updC bq10 166 49 0)))) (fun _ => rfl) ?_
      exact ⟨1, _, rfl, Or.inr rfl, rfl, Or.inl ⟨pq10, hxq10, rfl, (GoM.nx hoq10 (((jn_kp hfrq9 (by omega) : KpM j c om f b bq9).up (by omega)).up (by omega)) (codM_u (codM_u hcdq9 (by omega)) (by omega)) h38q9 (by rw [updC_sm]; first | done | omega) (by rw [updC_nt (by omega), updC_sm]) ((hfrq9 166 45 (by omega) (by omega)).trans e45) ((hfrq9 166 46 (by omega) (by omega)).trans e46) (by rw [updC_nt (by omega), updC_nt (by omega)]; exact hfrq9 194 f (by omega) (by omega)) (by rw [updC_nt (by omega), updC_nt (by omega)]; exact hfrq9 195 f (by omega) (by omega)))⟩⟩
    · show Ev X _ _ 168 [Vr 166, Vi (f : Int), Vi (b 193 f), Vi tz, Vx] [] ((SHv st dr rd), (ovl a s bq10)) _
      refine Ev.steps (k := 2) (pc' := 170) (L' := [Vr 166, Vi (f : Int), Vi (b 193 f), Vi tz, Vx]) (S' := [Vi 0, Vr 166]) (h' := ((SHv st dr rd), (ovl a s bq10))) (fun _ => rfl) ?_
      refine Ev.putz (c' := (ovl a s (updC bq10 166 49 0))) rfl (by decide) rfl rfl rfl (by decide) (ovl_wm (by decide)) ?_
      refine Ev.fin (k := 2) (r := (some (Vi 1))) (h' := ((SHv st dr rd), (ovl a s (updC bq10 166 49 0)))) (fun _ => rfl) ?_
      exact ⟨1, _, rfl, Or.inr rfl, rfl, Or.inr ⟨eq10, hxq10, (hbq10.bk (((jn_kp hfrq9 (by omega) : KpM j c om f b bq9).up (by omega)).up (by omega))).up (by omega)⟩⟩
theorem m_go_60 {X : List Int} {d : Nat} {st dr rd : Int} {a s b : C3} {W : TXT} {p : Nat} (hk : TkM W p b) {N : SC} {j : Nat} (hN : NmM N b j) {c om f bs : Nat} {pd : List Nat} (e38 : b 166 38 = (c : Int)) (e48 : b 166 48 = ((om + pd.length : Nat) : Int)) (e45 : b 166 45 = ((f + 1 : Nat) : Int)) (e46 : b 166 46 = (f : Int)) (hf : f ≤ 8) (ebs : b 197 f = (bs : Int)) (hbo : bs ≤ om) (hst : stkM (b 198) om pd) (hc : c + pd.length ≤ 1200) (ho : om + pd.length < 500) (hrk : ∀ op, op ∈ pd → 5 ≤ rkM ((op : Nat) : Int)) (hlo : om = bs ∨ rkM (b 198 (om - 1)) < 5) (h193 : b 193 f = 1 ∨ b 193 f = 5) (hph : b 194 f = 0) (hct : tC W p = 60) : Ev X (d + 2) 178 0 [Vr 166, Vx, Vx, Vx, Vx] [] (SHv st dr rd, ovl a s b) (fun rr hh => ∃ (v : Int) (b' : C3), rr = some (Vi v) ∧ (v = 0 ∨ v = 1) ∧ hh = (SHv st dr rd, ovl a s b') ∧ ResC (gotT W p) (fun r => v = 1 ∧ GoM W j c om f 22 1 (b 195 f) pd r b b') (fun e => BkM W j c b e b')) := by
  refine Ev.steps (k := 2) (pc' := 4) (L' := [Vr 166, Vx, Vx, Vx, Vx]) (S' := [Vi (b 166 45)]) (h' := ((SHv st dr rd), (ovl a s b))) (fun _ => rfl) ?_
  rw [e45]
  refine Ev.steps (k := 2) (pc' := 6) (L' := [Vr 166, Vx, Vx, Vx, Vx]) (S' := [Vi (w32 (((f + 1 : Nat) : Int) - 1))]) (h' := ((SHv st dr rd), (ovl a s b))) (fun _ => rfl) ?_
  rw [show (w32 (((f + 1 : Nat) : Int) - 1)) = (f : Int) from (by unfold w32; omega)]
  refine Ev.steps (k := 4) (pc' := 12) (L' := [Vr 166, Vi (f : Int), Vx, Vx, Vx]) (S' := [Vi (f : Int), Vr 193]) (h' := ((SHv st dr rd), (ovl a s b))) (fun _ => rfl) ?_
  refine Ev.iald (v := (b 193 f)) rfl (by decide) rfl (by omega) (by omega) (rfl) ?_
  refine Ev.call (k := 2) (pc1 := 15) (L1 := [Vr 166, Vi (f : Int), Vi (b 193 f), Vx, Vx]) (S1 := [Vi (b 193 f)]) (h1 := ((SHv st dr rd), (ovl a s b))) (m' := 172) (as := [Vi (b 193 f)]) (S' := []) (L0 := [Vi (b 193 f)]) (fun _ => rfl) rfl rfl rfl rfl rfl rfl (m_isTest (b := b) (b 193 f)) (fun r h' hq => ?_)
  obtain ⟨rfl, rfl⟩ := hq
  rw [if_pos h193]
  show Ev X _ _ 18 [Vr 166, Vi (f : Int), Vi (b 193 f), Vx, Vx] [Vi 1] ((SHv st dr rd), (ovl a s b)) _
  refine Ev.steps (k := 4) (pc' := 24) (L' := [Vr 166, Vi (f : Int), Vi (b 193 f), Vi 1, Vx]) (S' := [Vi (f : Int), Vr 194]) (h' := ((SHv st dr rd), (ovl a s b))) (fun _ => rfl) ?_
  refine Ev.iald (v := 0) rfl (by decide) rfl (by omega) (by omega) (hph) ?_
  refine Ev.call (k := 4) (pc1 := 32) (L1 := [Vr 166, Vi (f : Int), Vi (b 193 f), Vi 1, Vx]) (S1 := [Vi 43, Vr 166]) (h1 := ((SHv st dr rd), (ovl a s b))) (m' := 174) (as := [Vr 166, Vi 43]) (S' := []) (L0 := [Vr 166, Vi 43]) (fun _ => rfl) rfl rfl rfl rfl rfl rfl (k_isSign (b := b) hk 43 (by decide)) (fun r h' hq => ?_)
  obtain ⟨rfl, rfl⟩ := hq
  rw [if_neg (by omega)]
  show Ev X _ _ 35 [Vr 166, Vi (f : Int), Vi (b 193 f), Vi 1, Vx] [Vi 0] ((SHv st dr rd), (ovl a s b)) _
  refine Ev.call (k := 3) (pc1 := 41) (L1 := [Vr 166, Vi (f : Int), Vi (b 193 f), Vi 1, Vx]) (S1 := [Vi 45, Vr 166]) (h1 := ((SHv st dr rd), (ovl a s b))) (m' := 174) (as := [Vr 166, Vi 45]) (S' := []) (L0 := [Vr 166, Vi 45]) (fun _ => rfl) rfl rfl rfl rfl rfl rfl (k_isSign (b := b) hk 45 (by decide)) (fun r h' hq => ?_)
  obtain ⟨rfl, rfl⟩ := hq
  rw [if_neg (by omega)]
  show Ev X _ _ 44 [Vr 166, Vi (f : Int), Vi (b 193 f), Vi 1, Vx] [Vi 0] ((SHv st dr rd), (ovl a s b)) _
  refine Ev.call (k := 3) (pc1 := 50) (L1 := [Vr 166, Vi (f : Int), Vi (b 193 f), Vi 1, Vx]) (S1 := [Vi 42, Vr 166]) (h1 := ((SHv st dr rd), (ovl a s b))) (m' := 174) (as := [Vr 166, Vi 42]) (S' := []) (L0 := [Vr 166, Vi 42]) (fun _ => rfl) rfl rfl rfl rfl rfl rfl (k_isSign (b := b) hk 42 (by decide)) (fun r h' hq => ?_)
  obtain ⟨rfl, rfl⟩ := hq
  rw [if_neg (by omega)]
  show Ev X _ _ 53 [Vr 166, Vi (f : Int), Vi (b 193 f), Vi 1, Vx] [Vi 0] ((SHv st dr rd), (ovl a s b)) _
  refine Ev.call (k := 3) (pc1 := 59) (L1 := [Vr 166, Vi (f : Int), Vi (b 193 f), Vi 1, Vx]) (S1 := [Vi 47, Vr 166]) (h1 := ((SHv st dr rd), (ovl a s b))) (m' := 174) (as := [Vr 166, Vi 47]) (S' := []) (L0 := [Vr 166, Vi 47]) (fun _ => rfl) rfl rfl rfl rfl rfl rfl (k_isSign (b := b) hk 47 (by decide)) (fun r h' hq => ?_)
  obtain ⟨rfl, rfl⟩ := hq
  rw [if_neg (by omega)]
  show Ev X _ _ 62 [Vr 166, Vi (f : Int), Vi (b 193 f), Vi 1, Vx] [Vi 0] ((SHv st dr rd), (ovl a s b)) _
  refine Ev.call (k := 3) (pc1 := 68) (L1 := [Vr 166, Vi (f : Int), Vi (b 193 f), Vi 1, Vx]) (S1 := [Vi 37, Vr 166]) (h1 := ((SHv st dr rd), (ovl a s b))) (m' := 174) (as := [Vr 166, Vi 37]) (S' := []) (L0 := [Vr 166, Vi 37]) (fun _ => rfl) rfl rfl rfl rfl rfl rfl (k_isSign (b := b) hk 37 (by decide)) (fun r h' hq => ?_)
  obtain ⟨rfl, rfl⟩ := hq
  rw [if_neg (by omega)]
  show Ev X _ _ 71 [Vr 166, Vi (f : Int), Vi (b 193 f), Vi 1, Vx] [Vi 0] ((SHv st dr rd), (ovl a s b)) _
  refine Ev.steps (k := 6) (pc' := 184) (L' := [Vr 166, Vi (f : Int), Vi (b 193 f), Vi 1, Vx]) (S' := [Vi (f : Int), Vr 194]) (h' := ((SHv st dr rd), (ovl a s b))) (fun _ => rfl) ?_
  refine Ev.iald (v := 0) rfl (by decide) rfl (by omega) (by omega) (hph) ?_
  refine Ev.call (k := 3) (pc1 := 191) (L1 := [Vr 166, Vi (f : Int), Vi (b 193 f), Vi 1, Vx]) (S1 := [Vi 60, Vr 166]) (h1 := ((SHv st dr rd), (ovl a s b))) (m' := 174) (as := [Vr 166, Vi 60]) (S' := []) (L0 := [Vr 166, Vi 60]) (fun _ => rfl) rfl rfl rfl rfl rfl rfl (k_isSign (b := b) hk 60 (by decide)) (fun r h' hq => ?_)
  obtain ⟨rfl, rfl⟩ := hq
  rw [if_pos (by omega)]
  show Ev X _ _ 194 [Vr 166, Vi (f : Int), Vi (b 193 f), Vi 1, Vx] [Vi 1] ((SHv st dr rd), (ovl a s b)) _
  refine Ev.call (k := 3) (pc1 := 217) (L1 := [Vr 166, Vi (f : Int), Vi (b 193 f), Vi 1, Vx]) (S1 := [Vi 5, Vr 166]) (h1 := ((SHv st dr rd), (ovl a s b))) (m' := 179) (as := [Vr 166, Vi 5]) (S' := []) (L0 := [Vr 166, Vi 5]) (fun _ => rfl) rfl rfl rfl rfl rfl rfl (m_joins (b0 := b) hN.1 ⟨by omega, by omega⟩ 5 hbo pd c hN.2.1 e38 e45 e48 ebs hst hrk hlo (by omega) (by omega)) (fun r h' hq => ?_)
  obtain ⟨rfl, bq11, rfl, hcdq11, h38q11, h48q11, hfrq11⟩ := hq
  have hfrq11 : JnF j c pd.length b bq11 := hfrq11
  show Ev X _ _ 220 [Vr 166, Vi (f : Int), Vi (b 193 f), Vi 1, Vx] [] ((SHv st dr rd), (ovl a s bq11)) _
  refine Ev.call (k := 3) (pc1 := 224) (L1 := [Vr 166, Vi (f : Int), Vi (b 193 f), Vi 1, Vx]) (S1 := [Vi 60, Vr 166, Vr 166]) (h1 := ((SHv st dr rd), (ovl a s bq11))) (m' := 174) (as := [Vr 166, Vi 60]) (S' := [Vr 166]) (L0 := [Vr 166, Vi 60]) (fun _ => rfl) rfl rfl rfl rfl rfl rfl (k_isSign (b := bq11) (jn_tk hk hfrq11) 60 (by decide)) (fun r h' hq => ?_)
  obtain ⟨rfl, rfl⟩ := hq
  rw [if_pos (by omega)]
  show Ev X _ _ 227 [Vr 166, Vi (f : Int), Vi (b 193 f), Vi 1, Vx] [Vi 1, Vr 166] ((SHv st dr rd), (ovl a s bq11)) _
  refine Ev.call (k := 3) (pc1 := 251) (L1 := [Vr 166, Vi (f : Int), Vi (b 193 f), Vi 1, Vx]) (S1 := [Vi 22, Vr 166]) (h1 := ((SHv st dr rd), (ovl a s bq11))) (m' := 173) (as := [Vr 166, Vi 22]) (S' := []) (L0 := [Vr 166, Vi 22]) (fun _ => rfl) rfl rfl rfl rfl rfl rfl (m_holdsBack (b := bq11) h48q11 (by omega) 22) (fun r h' hq => ?_)
  obtain ⟨rfl, rfl⟩ := hq
  show Ev X _ _ 254 [Vr 166, Vi (f : Int), Vi (b 193 f), Vi 1, Vx] [] ((SHv st dr rd), (ovl a s (updC (updC bq11 198 om 22) 166 48 ((om : Int) + 1)))) _
  refine Ev.steps (k := 4) (pc' := 260) (L' := [Vr 166, Vi (f : Int), Vi (b 193 f), Vi 1, Vx]) (S' := [Vi 1, Vi (f : Int), Vr 194]) (h' := ((SHv st dr rd), (ovl a s (updC (updC bq11 198 om 22) 166 48 ((om : Int) + 1))))) (fun _ => rfl) ?_
  refine Ev.iast (c' := (ovl a s (updC (updC (updC bq11 198 om 22) 166 48 ((om : Int) + 1)) 194 f 1))) rfl (by decide) rfl (by omega) (by omega) (ovl_wm (by decide)) ?_
  refine Ev.call (k := 1) (pc1 := 262) (L1 := [Vr 166, Vi (f : Int), Vi (b 193 f), Vi 1, Vx]) (S1 := [Vr 166]) (h1 := ((SHv st dr rd), (ovl a s (updC (updC (updC bq11 198 om 22) 166 48 ((om : Int) + 1)) 194 f 1)))) (m' := 157) (as := [Vr 166]) (S' := []) (L0 := [Vr 166, Vx, Vx, Vx, Vx, Vx]) (fun _ => rfl) rfl rfl rfl rfl rfl rfl (m_nextT (b := (updC (updC (updC bq11 198 om 22) 166 48 ((om : Int) + 1)) 194 f 1)) ((((jn_tk hk hfrq11).up (by omega)).up (by omega)).up (by omega))) (fun r h' hq => ?_)
  obtain ⟨rfl, bq12, rfl, hq⟩ := hq
  rcases hq with ⟨pq12, hxq12, hoq12⟩ | ⟨eq12, hxq12, hbq12⟩
  · show Ev X _ _ 265 [Vr 166, Vi (f : Int), Vi (b 193 f), Vi 1, Vx] [] ((SHv st dr rd), (ovl a s bq12)) _
    refine Ev.steps (k := 2) (pc' := 267) (L' := [Vr 166, Vi (f : Int), Vi (b 193 f), Vi 1, Vx]) (S' := [Vi 0, Vr 166]) (h' := ((SHv st dr rd), (ovl a s bq12))) (fun _ => rfl) ?_
    refine Ev.putz (c' := (ovl a s (updC bq12 166 49 0))) rfl (by decide) rfl rfl rfl (by decide) (ovl_wm (by decide)) ?_
    refine Ev.fin (k := 2) (r := (some (Vi 1))) (h' := ((SHv st dr rd), (ovl a s (updC bq12 166 49 0)))) (fun _ => rfl) ?_
    exact ⟨1, _, rfl, Or.inr rfl, rfl, Or.inl ⟨pq12, hxq12, rfl, (GoM.nx hoq12 ((((jn_kp hfrq11 (by omega) : KpM j c om f b bq11).up (by omega)).up (by omega)).up (by omega)) (codM_u (codM_u (codM_u hcdq11 (by omega)) (by omega)) (by omega)) h38q11 (by rw [updC_nt (by omega), updC_sm]; first | done | omega) (by rw [updC_nt (by omega), updC_nt (by omega), updC_sm]) ((hfrq11 166 45 (by omega) (by omega)).trans e45) ((hfrq11 166 46 (by omega) (by omega)).trans e46) updC_sm (by rw [updC_nt (by omega), updC_nt (by omega), updC_nt (by omega)]; exact hfrq11 195 f (by omega) (by omega)))⟩⟩
  · show Ev X _ _ 265 [Vr 166, Vi (f : Int), Vi (b 193 f), Vi 1, Vx] [] ((SHv st dr rd), (ovl a s bq12)) _
    refine Ev.steps (k := 2) (pc' := 267) (L' := [Vr 166, Vi (f : Int), Vi (b 193 f), Vi 1, Vx]) (S' := [Vi 0, Vr 166]) (h' := ((SHv st dr rd), (ovl a s bq12))) (fun _ => rfl) ?_
    refine Ev.putz (c' := (ovl a s (updC bq12 166 49 0))) rfl (by decide) rfl rfl rfl (by decide) (ovl_wm (by decide)) ?_
    refine Ev.fin (k := 2) (r := (some (Vi 1))) (h' := ((SHv st dr rd), (ovl a s (updC bq12 166 49 0)))) (fun _ => rfl) ?_
    exact ⟨1, _, rfl, Or.inr rfl, rfl, Or.inr ⟨eq12, hxq12, (hbq12.bk ((((jn_kp hfrq11 (by omega) : KpM j c om f b bq11).up (by omega)).up (by omega)).up (by omega))).up (by omega)⟩⟩
theorem m_go_62 {X : List Int} {d : Nat} {st dr rd : Int} {a s b : C3} {W : TXT} {p : Nat} (hk : TkM W p b) {N : SC} {j : Nat} (hN : NmM N b j) {c om f bs : Nat} {pd : List Nat} (e38 : b 166 38 = (c : Int)) (e48 : b 166 48 = ((om + pd.length : Nat) : Int)) (e45 : b 166 45 = ((f + 1 : Nat) : Int)) (e46 : b 166 46 = (f : Int)) (hf : f ≤ 8) (ebs : b 197 f = (bs : Int)) (hbo : bs ≤ om) (hst : stkM (b 198) om pd) (hc : c + pd.length ≤ 1200) (ho : om + pd.length < 500) (hrk : ∀ op, op ∈ pd → 5 ≤ rkM ((op : Nat) : Int)) (hlo : om = bs ∨ rkM (b 198 (om - 1)) < 5) (h193 : b 193 f = 1 ∨ b 193 f = 5) (hph : b 194 f = 0) (hct : tC W p = 62) : Ev X (d + 2) 178 0 [Vr 166, Vx, Vx, Vx, Vx] [] (SHv st dr rd, ovl a s b) (fun rr hh => ∃ (v : Int) (b' : C3), rr = some (Vi v) ∧ (v = 0 ∨ v = 1) ∧ hh = (SHv st dr rd, ovl a s b') ∧ ResC (gotT W p) (fun r => v = 1 ∧ GoM W j c om f 23 1 (b 195 f) pd r b b') (fun e => BkM W j c b e b')) := by
  refine Ev.steps (k := 2) (pc' := 4) (L' := [Vr 166, Vx, Vx, Vx, Vx]) (S' := [Vi (b 166 45)]) (h' := ((SHv st dr rd), (ovl a s b))) (fun _ => rfl) ?_
  rw [e45]
  refine Ev.steps (k := 2) (pc' := 6) (L' := [Vr 166, Vx, Vx, Vx, Vx]) (S' := [Vi (w32 (((f + 1 : Nat) : Int) - 1))]) (h' := ((SHv st dr rd), (ovl a s b))) (fun _ => rfl) ?_
  rw [show (w32 (((f + 1 : Nat) : Int) - 1)) = (f : Int) from (by unfold w32; omega)]
  refine Ev.steps (k := 4) (pc' := 12) (L' := [Vr 166, Vi (f : Int), Vx, Vx, Vx]) (S' := [Vi (f : Int), Vr 193]) (h' := ((SHv st dr rd), (ovl a s b))) (fun _ => rfl) ?_
  refine Ev.iald (v := (b 193 f)) rfl (by decide) rfl (by omega) (by omega) (rfl) ?_
  refine Ev.call (k := 2) (pc1 := 15) (L1 := [Vr 166, Vi (f : Int), Vi (b 193 f), Vx, Vx]) (S1 := [Vi (b 193 f)]) (h1 := ((SHv st dr rd), (ovl a s b))) (m' := 172) (as := [Vi (b 193 f)]) (S' := []) (L0 := [Vi (b 193 f)]) (fun _ => rfl) rfl rfl rfl rfl rfl rfl (m_isTest (b := b) (b 193 f)) (fun r h' hq => ?_)
  obtain ⟨rfl, rfl⟩ := hq
  rw [if_pos h193]
  show Ev X _ _ 18 [Vr 166, Vi (f : Int), Vi (b 193 f), Vx, Vx] [Vi 1] ((SHv st dr rd), (ovl a s b)) _
  refine Ev.steps (k := 4) (pc' := 24) (L' := [Vr 166, Vi (f : Int), Vi (b 193 f), Vi 1, Vx]) (S' := [Vi (f : Int), Vr 194]) (h' := ((SHv st dr rd), (ovl a s b))) (fun _ => rfl) ?_
  refine Ev.iald (v := 0) rfl (by decide) rfl (by omega) (by omega) (hph) ?_
  refine Ev.call (k := 4) (pc1 := 32) (L1 := [Vr 166, Vi (f : Int), Vi (b 193 f), Vi 1, Vx]) (S1 := [Vi 43, Vr 166]) (h1 := ((SHv st dr rd), (ovl a s b))) (m' := 174) (as := [Vr 166, Vi 43]) (S' := []) (L0 := [Vr 166, Vi 43]) (fun _ => rfl) rfl rfl rfl rfl rfl rfl (k_isSign (b := b) hk 43 (by decide)) (fun r h' hq => ?_)
  obtain ⟨rfl, rfl⟩ := hq
  rw [if_neg (by omega)]
  show Ev X _ _ 35 [Vr 166, Vi (f : Int), Vi (b 193 f), Vi 1, Vx] [Vi 0] ((SHv st dr rd), (ovl a s b)) _
  refine Ev.call (k := 3) (pc1 := 41) (L1 := [Vr 166, Vi (f : Int), Vi (b 193 f), Vi 1, Vx]) (S1 := [Vi 45, Vr 166]) (h1 := ((SHv st dr rd), (ovl a s b))) (m' := 174) (as := [Vr 166, Vi 45]) (S' := []) (L0 := [Vr 166, Vi 45]) (fun _ => rfl) rfl rfl rfl rfl rfl rfl (k_isSign (b := b) hk 45 (by decide)) (fun r h' hq => ?_)
  obtain ⟨rfl, rfl⟩ := hq
  rw [if_neg (by omega)]
  show Ev X _ _ 44 [Vr 166, Vi (f : Int), Vi (b 193 f), Vi 1, Vx] [Vi 0] ((SHv st dr rd), (ovl a s b)) _
  refine Ev.call (k := 3) (pc1 := 50) (L1 := [Vr 166, Vi (f : Int), Vi (b 193 f), Vi 1, Vx]) (S1 := [Vi 42, Vr 166]) (h1 := ((SHv st dr rd), (ovl a s b))) (m' := 174) (as := [Vr 166, Vi 42]) (S' := []) (L0 := [Vr 166, Vi 42]) (fun _ => rfl) rfl rfl rfl rfl rfl rfl (k_isSign (b := b) hk 42 (by decide)) (fun r h' hq => ?_)
  obtain ⟨rfl, rfl⟩ := hq
  rw [if_neg (by omega)]
  show Ev X _ _ 53 [Vr 166, Vi (f : Int), Vi (b 193 f), Vi 1, Vx] [Vi 0] ((SHv st dr rd), (ovl a s b)) _
  refine Ev.call (k := 3) (pc1 := 59) (L1 := [Vr 166, Vi (f : Int), Vi (b 193 f), Vi 1, Vx]) (S1 := [Vi 47, Vr 166]) (h1 := ((SHv st dr rd), (ovl a s b))) (m' := 174) (as := [Vr 166, Vi 47]) (S' := []) (L0 := [Vr 166, Vi 47]) (fun _ => rfl) rfl rfl rfl rfl rfl rfl (k_isSign (b := b) hk 47 (by decide)) (fun r h' hq => ?_)
  obtain ⟨rfl, rfl⟩ := hq
  rw [if_neg (by omega)]
  show Ev X _ _ 62 [Vr 166, Vi (f : Int), Vi (b 193 f), Vi 1, Vx] [Vi 0] ((SHv st dr rd), (ovl a s b)) _
  refine Ev.call (k := 3) (pc1 := 68) (L1 := [Vr 166, Vi (f : Int), Vi (b 193 f), Vi 1, Vx]) (S1 := [Vi 37, Vr 166]) (h1 := ((SHv st dr rd), (ovl a s b))) (m' := 174) (as := [Vr 166, Vi 37]) (S' := []) (L0 := [Vr 166, Vi 37]) (fun _ => rfl) rfl rfl rfl rfl rfl rfl (k_isSign (b := b) hk 37 (by decide)) (fun r h' hq => ?_)
  obtain ⟨rfl, rfl⟩ := hq
  rw [if_neg (by omega)]
  show Ev X _ _ 71 [Vr 166, Vi (f : Int), Vi (b 193 f), Vi 1, Vx] [Vi 0] ((SHv st dr rd), (ovl a s b)) _
  refine Ev.steps (k := 6) (pc' := 184) (L' := [Vr 166, Vi (f : Int), Vi (b 193 f), Vi 1, Vx]) (S' := [Vi (f : Int), Vr 194]) (h' := ((SHv st dr rd), (ovl a s b))) (fun _ => rfl) ?_
  refine Ev.iald (v := 0) rfl (by decide) rfl (by omega) (by omega) (hph) ?_
  refine Ev.call (k := 3) (pc1 := 191) (L1 := [Vr 166, Vi (f : Int), Vi (b 193 f), Vi 1, Vx]) (S1 := [Vi 60, Vr 166]) (h1 := ((SHv st dr rd), (ovl a s b))) (m' := 174) (as := [Vr 166, Vi 60]) (S' := []) (L0 := [Vr 166, Vi 60]) (fun _ => rfl) rfl rfl rfl rfl rfl rfl (k_isSign (b := b) hk 60 (by decide)) (fun r h' hq => ?_)
  obtain ⟨rfl, rfl⟩ := hq
  rw [if_neg (by omega)]
  show Ev X _ _ 194 [Vr 166, Vi (f : Int), Vi (b 193 f), Vi 1, Vx] [Vi 0] ((SHv st dr rd), (ovl a s b)) _
  refine Ev.call (k := 3) (pc1 := 200) (L1 := [Vr 166, Vi (f : Int), Vi (b 193 f), Vi 1, Vx]) (S1 := [Vi 62, Vr 166]) (h1 := ((SHv st dr rd), (ovl a s b))) (m' := 174) (as := [Vr 166, Vi 62]) (S' := []) (L0 := [Vr 166, Vi 62]) (fun _ => rfl) rfl rfl rfl rfl rfl rfl (k_isSign (b := b) hk 62 (by decide)) (fun r h' hq => ?_)
  obtain ⟨rfl, rfl⟩ := hq
  rw [if_pos (by omega)]
  show Ev X _ _ 203 [Vr 166, Vi (f : Int), Vi (b 193 f), Vi 1, Vx] [Vi 1] ((SHv st dr rd), (ovl a s b)) _
  refine Ev.call (k := 3) (pc1 := 217) (L1 := [Vr 166, Vi (f : Int), Vi (b 193 f), Vi 1, Vx]) (S1 := [Vi 5, Vr 166]) (h1 := ((SHv st dr rd), (ovl a s b))) (m' := 179) (as := [Vr 166, Vi 5]) (S' := []) (L0 := [Vr 166, Vi 5]) (fun _ => rfl) rfl rfl rfl rfl rfl rfl (m_joins (b0 := b) hN.1 ⟨by omega, by omega⟩ 5 hbo pd c hN.2.1 e38 e45 e48 ebs hst hrk hlo (by omega) (by omega)) (fun r h' hq => ?_)
  obtain ⟨rfl, bq13, rfl, hcdq13, h38q13, h48q13, hfrq13⟩ := hq
  have hfrq13 : JnF j c pd.length b bq13 := hfrq13
  show Ev X _ _ 220 [Vr 166, Vi (f : Int), Vi (b 193 f), Vi 1, Vx] [] ((SHv st dr rd), (ovl a s bq13)) _
  refine Ev.call (k := 3) (pc1 := 224) (L1 := [Vr 166, Vi (f : Int), Vi (b 193 f), Vi 1, Vx]) (S1 := [Vi 60, Vr 166, Vr 166]) (h1 := ((SHv st dr rd), (ovl a s bq13))) (m' := 174) (as := [Vr 166, Vi 60]) (S' := [Vr 166]) (L0 := [Vr 166, Vi 60]) (fun _ => rfl) rfl rfl rfl rfl rfl rfl (k_isSign (b := bq13) (jn_tk hk hfrq13) 60 (by decide)) (fun r h' hq => ?_)
  obtain ⟨rfl, rfl⟩ := hq
  rw [if_neg (by omega)]
  show Ev X _ _ 227 [Vr 166, Vi (f : Int), Vi (b 193 f), Vi 1, Vx] [Vi 0, Vr 166] ((SHv st dr rd), (ovl a s bq13)) _
  refine Ev.call (k := 3) (pc1 := 238) (L1 := [Vr 166, Vi (f : Int), Vi (b 193 f), Vi 1, Vx]) (S1 := [Vi 62, Vr 166, Vr 166]) (h1 := ((SHv st dr rd), (ovl a s bq13))) (m' := 174) (as := [Vr 166, Vi 62]) (S' := [Vr 166]) (L0 := [Vr 166, Vi 62]) (fun _ => rfl) rfl rfl rfl rfl rfl rfl (k_isSign (b := bq13) (jn_tk hk hfrq13) 62 (by decide)) (fun r h' hq => ?_)
  obtain ⟨rfl, rfl⟩ := hq
  rw [if_pos (by omega)]
  show Ev X _ _ 241 [Vr 166, Vi (f : Int), Vi (b 193 f), Vi 1, Vx] [Vi 1, Vr 166] ((SHv st dr rd), (ovl a s bq13)) _
  refine Ev.call (k := 3) (pc1 := 251) (L1 := [Vr 166, Vi (f : Int), Vi (b 193 f), Vi 1, Vx]) (S1 := [Vi 23, Vr 166]) (h1 := ((SHv st dr rd), (ovl a s bq13))) (m' := 173) (as := [Vr 166, Vi 23]) (S' := []) (L0 := [Vr 166, Vi 23]) (fun _ => rfl) rfl rfl rfl rfl rfl rfl (m_holdsBack (b := bq13) h48q13 (by omega) 23) (fun r h' hq => ?_)
  obtain ⟨rfl, rfl⟩ := hq
  show Ev X _ _ 254 [Vr 166, Vi (f : Int), Vi (b 193 f), Vi 1, Vx] [] ((SHv st dr rd), (ovl a s (updC (updC bq13 198 om 23) 166 48 ((om : Int) + 1)))) _
  refine Ev.steps (k := 4) (pc' := 260) (L' := [Vr 166, Vi (f : Int), Vi (b 193 f), Vi 1, Vx]) (S' := [Vi 1, Vi (f : Int), Vr 194]) (h' := ((SHv st dr rd), (ovl a s (updC (updC bq13 198 om 23) 166 48 ((om : Int) + 1))))) (fun _ => rfl) ?_
  refine Ev.iast (c' := (ovl a s (updC (updC (updC bq13 198 om 23) 166 48 ((om : Int) + 1)) 194 f 1))) rfl (by decide) rfl (by omega) (by omega) (ovl_wm (by decide)) ?_
  refine Ev.call (k := 1) (pc1 := 262) (L1 := [Vr 166, Vi (f : Int), Vi (b 193 f), Vi 1, Vx]) (S1 := [Vr 166]) (h1 := ((SHv st dr rd), (ovl a s (updC (updC (updC bq13 198 om 23) 166 48 ((om : Int) + 1)) 194 f 1)))) (m' := 157) (as := [Vr 166]) (S' := []) (L0 := [Vr 166, Vx, Vx, Vx, Vx, Vx]) (fun _ => rfl) rfl rfl rfl rfl rfl rfl (m_nextT (b := (updC (updC (updC bq13 198 om 23) 166 48 ((om : Int) + 1)) 194 f 1)) ((((jn_tk hk hfrq13).up (by omega)).up (by omega)).up (by omega))) (fun r h' hq => ?_)
  obtain ⟨rfl, bq14, rfl, hq⟩ := hq
  rcases hq with ⟨pq14, hxq14, hoq14⟩ | ⟨eq14, hxq14, hbq14⟩
  · show Ev X _ _ 265 [Vr 166, Vi (f : Int), Vi (b 193 f), Vi 1, Vx] [] ((SHv st dr rd), (ovl a s bq14)) _
    refine Ev.steps (k := 2) (pc' := 267) (L' := [Vr 166, Vi (f : Int), Vi (b 193 f), Vi 1, Vx]) (S' := [Vi 0, Vr 166]) (h' := ((SHv st dr rd), (ovl a s bq14))) (fun _ => rfl) ?_
    refine Ev.putz (c' := (ovl a s (updC bq14 166 49 0))) rfl (by decide) rfl rfl rfl (by decide) (ovl_wm (by decide)) ?_
    refine Ev.fin (k := 2) (r := (some (Vi 1))) (h' := ((SHv st dr rd), (ovl a s (updC bq14 166 49 0)))) (fun _ => rfl) ?_
    exact ⟨1, _, rfl, Or.inr rfl, rfl, Or.inl ⟨pq14, hxq14, rfl, (GoM.nx hoq14 ((((jn_kp hfrq13 (by omega) : KpM j c om f b bq13).up (by omega)).up (by omega)).up (by omega)) (codM_u (codM_u (codM_u hcdq13 (by omega)) (by omega)) (by omega)) h38q13 (by rw [updC_nt (by omega), updC_sm]; first | done | omega) (by rw [updC_nt (by omega), updC_nt (by omega), updC_sm]) ((hfrq13 166 45 (by omega) (by omega)).trans e45) ((hfrq13 166 46 (by omega) (by omega)).trans e46) updC_sm (by rw [updC_nt (by omega), updC_nt (by omega), updC_nt (by omega)]; exact hfrq13 195 f (by omega) (by omega)))⟩⟩
  · show Ev X _ _ 265 [Vr 166, Vi (f : Int), Vi (b 193 f), Vi 1, Vx] [] ((SHv st dr rd), (ovl a s bq14)) _
    refine Ev.steps (k := 2) (pc' := 267) (L' := [Vr 166, Vi (f : Int), Vi (b 193 f), Vi 1, Vx]) (S' := [Vi 0, Vr 166]) (h' := ((SHv st dr rd), (ovl a s bq14))) (fun _ => rfl) ?_
    refine Ev.putz (c' := (ovl a s (updC bq14 166 49 0))) rfl (by decide) rfl rfl rfl (by decide) (ovl_wm (by decide)) ?_
    refine Ev.fin (k := 2) (r := (some (Vi 1))) (h' := ((SHv st dr rd), (ovl a s (updC bq14 166 49 0)))) (fun _ => rfl) ?_
    exact ⟨1, _, rfl, Or.inr rfl, rfl, Or.inr ⟨eq14, hxq14, (hbq14.bk ((((jn_kp hfrq13 (by omega) : KpM j c om f b bq13).up (by omega)).up (by omega)).up (by omega))).up (by omega)⟩⟩
theorem m_go_61 {X : List Int} {d : Nat} {st dr rd : Int} {a s b : C3} {W : TXT} {p : Nat} (hk : TkM W p b) {N : SC} {j : Nat} (hN : NmM N b j) {c om f bs : Nat} {pd : List Nat} (e38 : b 166 38 = (c : Int)) (e48 : b 166 48 = ((om + pd.length : Nat) : Int)) (e45 : b 166 45 = ((f + 1 : Nat) : Int)) (e46 : b 166 46 = (f : Int)) (hf : f ≤ 8) (ebs : b 197 f = (bs : Int)) (hbo : bs ≤ om) (hst : stkM (b 198) om pd) (hc : c + pd.length ≤ 1200) (ho : om + pd.length < 500) (hrk : ∀ op, op ∈ pd → 5 ≤ rkM ((op : Nat) : Int)) (hlo : om = bs ∨ rkM (b 198 (om - 1)) < 5) (h193 : b 193 f = 1 ∨ b 193 f = 5) (hph : b 194 f = 0) (hct : tC W p = 61) : Ev X (d + 2) 178 0 [Vr 166, Vx, Vx, Vx, Vx] [] (SHv st dr rd, ovl a s b) (fun rr hh => ∃ (v : Int) (b' : C3), rr = some (Vi v) ∧ (v = 0 ∨ v = 1) ∧ hh = (SHv st dr rd, ovl a s b') ∧ ResC (gotT W p) (fun r => v = 1 ∧ GoM W j c om f 24 1 (b 195 f) pd r b b') (fun e => BkM W j c b e b')) := by
  refine Ev.steps (k := 2) (pc' := 4) (L' := [Vr 166, Vx, Vx, Vx, Vx]) (S' := [Vi (b 166 45)]) (h' := ((SHv st dr rd), (ovl a s b))) (fun _ => rfl) ?_
  rw [e45]
  refine Ev.steps (k := 2) (pc' := 6) (L' := [Vr 166, Vx, Vx, Vx, Vx]) (S' := [Vi (w32 (((f + 1 : Nat) : Int) - 1))]) (h' := ((SHv st dr rd), (ovl a s b))) (fun _ => rfl) ?_
  rw [show (w32 (((f + 1 : Nat) : Int) - 1)) = (f : Int) from (by unfold w32; omega)]
  refine Ev.steps (k := 4) (pc' := 12) (L' := [Vr 166, Vi (f : Int), Vx, Vx, Vx]) (S' := [Vi (f : Int), Vr 193]) (h' := ((SHv st dr rd), (ovl a s b))) (fun _ => rfl) ?_
  refine Ev.iald (v := (b 193 f)) rfl (by decide) rfl (by omega) (by omega) (rfl) ?_
  refine Ev.call (k := 2) (pc1 := 15) (L1 := [Vr 166, Vi (f : Int), Vi (b 193 f), Vx, Vx]) (S1 := [Vi (b 193 f)]) (h1 := ((SHv st dr rd), (ovl a s b))) (m' := 172) (as := [Vi (b 193 f)]) (S' := []) (L0 := [Vi (b 193 f)]) (fun _ => rfl) rfl rfl rfl rfl rfl rfl (m_isTest (b := b) (b 193 f)) (fun r h' hq => ?_)
  obtain ⟨rfl, rfl⟩ := hq
  rw [if_pos h193]
  show Ev X _ _ 18 [Vr 166, Vi (f : Int), Vi (b 193 f), Vx, Vx] [Vi 1] ((SHv st dr rd), (ovl a s b)) _
  refine Ev.steps (k := 4) (pc' := 24) (L' := [Vr 166, Vi (f : Int), Vi (b 193 f), Vi 1, Vx]) (S' := [Vi (f : Int), Vr 194]) (h' := ((SHv st dr rd), (ovl a s b))) (fun _ => rfl) ?_
  refine Ev.iald (v := 0) rfl (by decide) rfl (by omega) (by omega) (hph) ?_
  refine Ev.call (k := 4) (pc1 := 32) (L1 := [Vr 166, Vi (f : Int), Vi (b 193 f), Vi 1, Vx]) (S1 := [Vi 43, Vr 166]) (h1 := ((SHv st dr rd), (ovl a s b))) (m' := 174) (as := [Vr 166, Vi 43]) (S' := []) (L0 := [Vr 166, Vi 43]) (fun _ => rfl) rfl rfl rfl rfl rfl rfl (k_isSign (b := b) hk 43 (by decide)) (fun r h' hq => ?_)
  obtain ⟨rfl, rfl⟩ := hq
  rw [if_neg (by omega)]
  show Ev X _ _ 35 [Vr 166, Vi (f : Int), Vi (b 193 f), Vi 1, Vx] [Vi 0] ((SHv st dr rd), (ovl a s b)) _
  refine Ev.call (k := 3) (pc1 := 41) (L1 := [Vr 166, Vi (f : Int), Vi (b 193 f), Vi 1, Vx]) (S1 := [Vi 45, Vr 166]) (h1 := ((SHv st dr rd), (ovl a s b))) (m' := 174) (as := [Vr 166, Vi 45]) (S' := []) (L0 := [Vr 166, Vi 45]) (fun _ => rfl) rfl rfl rfl rfl rfl rfl (k_isSign (b := b) hk 45 (by decide)) (fun r h' hq => ?_)
  obtain ⟨rfl, rfl⟩ := hq
  rw [if_neg (by omega)]
  show Ev X _ _ 44 [Vr 166, Vi (f : Int), Vi (b 193 f), Vi 1, Vx] [Vi 0] ((SHv st dr rd), (ovl a s b)) _
  refine Ev.call (k := 3) (pc1 := 50) (L1 := [Vr 166, Vi (f : Int), Vi (b 193 f), Vi 1, Vx]) (S1 := [Vi 42, Vr 166]) (h1 := ((SHv st dr rd), (ovl a s b))) (m' := 174) (as := [Vr 166, Vi 42]) (S' := []) (L0 := [Vr 166, Vi 42]) (fun _ => rfl) rfl rfl rfl rfl rfl rfl (k_isSign (b := b) hk 42 (by decide)) (fun r h' hq => ?_)
  obtain ⟨rfl, rfl⟩ := hq
  rw [if_neg (by omega)]
  show Ev X _ _ 53 [Vr 166, Vi (f : Int), Vi (b 193 f), Vi 1, Vx] [Vi 0] ((SHv st dr rd), (ovl a s b)) _
  refine Ev.call (k := 3) (pc1 := 59) (L1 := [Vr 166, Vi (f : Int), Vi (b 193 f), Vi 1, Vx]) (S1 := [Vi 47, Vr 166]) (h1 := ((SHv st dr rd), (ovl a s b))) (m' := 174) (as := [Vr 166, Vi 47]) (S' := []) (L0 := [Vr 166, Vi 47]) (fun _ => rfl) rfl rfl rfl rfl rfl rfl (k_isSign (b := b) hk 47 (by decide)) (fun r h' hq => ?_)
  obtain ⟨rfl, rfl⟩ := hq
  rw [if_neg (by omega)]
  show Ev X _ _ 62 [Vr 166, Vi (f : Int), Vi (b 193 f), Vi 1, Vx] [Vi 0] ((SHv st dr rd), (ovl a s b)) _
  refine Ev.call (k := 3) (pc1 := 68) (L1 := [Vr 166, Vi (f : Int), Vi (b 193 f), Vi 1, Vx]) (S1 := [Vi 37, Vr 166]) (h1 := ((SHv st dr rd), (ovl a s b))) (m' := 174) (as := [Vr 166, Vi 37]) (S' := []) (L0 := [Vr 166, Vi 37]) (fun _ => rfl) rfl rfl rfl rfl rfl rfl (k_isSign (b := b) hk 37 (by decide)) (fun r h' hq => ?_)
  obtain ⟨rfl, rfl⟩ := hq
  rw [if_neg (by omega)]
  show Ev X _ _ 71 [Vr 166, Vi (f : Int), Vi (b 193 f), Vi 1, Vx] [Vi 0] ((SHv st dr rd), (ovl a s b)) _
  refine Ev.steps (k := 6) (pc' := 184) (L' := [Vr 166, Vi (f : Int), Vi (b 193 f), Vi 1, Vx]) (S' := [Vi (f : Int), Vr 194]) (h' := ((SHv st dr rd), (ovl a s b))) (fun _ => rfl) ?_
  refine Ev.iald (v := 0) rfl (by decide) rfl (by omega) (by omega) (hph) ?_
  refine Ev.call (k := 3) (pc1 := 191) (L1 := [Vr 166, Vi (f : Int), Vi (b 193 f), Vi 1, Vx]) (S1 := [Vi 60, Vr 166]) (h1 := ((SHv st dr rd), (ovl a s b))) (m' := 174) (as := [Vr 166, Vi 60]) (S' := []) (L0 := [Vr 166, Vi 60]) (fun _ => rfl) rfl rfl rfl rfl rfl rfl (k_isSign (b := b) hk 60 (by decide)) (fun r h' hq => ?_)
  obtain ⟨rfl, rfl⟩ := hq
  rw [if_neg (by omega)]
  show Ev X _ _ 194 [Vr 166, Vi (f : Int), Vi (b 193 f), Vi 1, Vx] [Vi 0] ((SHv st dr rd), (ovl a s b)) _
  refine Ev.call (k := 3) (pc1 := 200) (L1 := [Vr 166, Vi (f : Int), Vi (b 193 f), Vi 1, Vx]) (S1 := [Vi 62, Vr 166]) (h1 := ((SHv st dr rd), (ovl a s b))) (m' := 174) (as := [Vr 166, Vi 62]) (S' := []) (L0 := [Vr 166, Vi 62]) (fun _ => rfl) rfl rfl rfl rfl rfl rfl (k_isSign (b := b) hk 62 (by decide)) (fun r h' hq => ?_)
  obtain ⟨rfl, rfl⟩ := hq
  rw [if_neg (by omega)]
  show Ev X _ _ 203 [Vr 166, Vi (f : Int), Vi (b 193 f), Vi 1, Vx] [Vi 0] ((SHv st dr rd), (ovl a s b)) _
  refine Ev.call (k := 3) (pc1 := 209) (L1 := [Vr 166, Vi (f : Int), Vi (b 193 f), Vi 1, Vx]) (S1 := [Vi 61, Vr 166]) (h1 := ((SHv st dr rd), (ovl a s b))) (m' := 174) (as := [Vr 166, Vi 61]) (S' := []) (L0 := [Vr 166, Vi 61]) (fun _ => rfl) rfl rfl rfl rfl rfl rfl (k_isSign (b := b) hk 61 (by decide)) (fun r h' hq => ?_)
  obtain ⟨rfl, rfl⟩ := hq
  rw [if_pos (by omega)]
  show Ev X _ _ 212 [Vr 166, Vi (f : Int), Vi (b 193 f), Vi 1, Vx] [Vi 1] ((SHv st dr rd), (ovl a s b)) _
  refine Ev.call (k := 3) (pc1 := 217) (L1 := [Vr 166, Vi (f : Int), Vi (b 193 f), Vi 1, Vx]) (S1 := [Vi 5, Vr 166]) (h1 := ((SHv st dr rd), (ovl a s b))) (m' := 179) (as := [Vr 166, Vi 5]) (S' := []) (L0 := [Vr 166, Vi 5]) (fun _ => rfl) rfl rfl rfl rfl rfl rfl (m_joins (b0 := b) hN.1 ⟨by omega, by omega⟩ 5 hbo pd c hN.2.1 e38 e45 e48 ebs hst hrk hlo (by omega) (by omega)) (fun r h' hq => ?_)
  obtain ⟨rfl, bq15, rfl, hcdq15, h38q15, h48q15, hfrq15⟩ := hq
  have hfrq15 : JnF j c pd.length b bq15 := hfrq15
  show Ev X _ _ 220 [Vr 166, Vi (f : Int), Vi (b 193 f), Vi 1, Vx] [] ((SHv st dr rd), (ovl a s bq15)) _
  refine Ev.call (k := 3) (pc1 := 224) (L1 := [Vr 166, Vi (f : Int), Vi (b 193 f), Vi 1, Vx]) (S1 := [Vi 60, Vr 166, Vr 166]) (h1 := ((SHv st dr rd), (ovl a s bq15))) (m' := 174) (as := [Vr 166, Vi 60]) (S' := [Vr 166]) (L0 := [Vr 166, Vi 60]) (fun _ => rfl) rfl rfl rfl rfl rfl rfl (k_isSign (b := bq15) (jn_tk hk hfrq15) 60 (by decide)) (fun r h' hq => ?_)
  obtain ⟨rfl, rfl⟩ := hq
  rw [if_neg (by omega)]
  show Ev X _ _ 227 [Vr 166, Vi (f : Int), Vi (b 193 f), Vi 1, Vx] [Vi 0, Vr 166] ((SHv st dr rd), (ovl a s bq15)) _
  refine Ev.call (k := 3) (pc1 := 238) (L1 := [Vr 166, Vi (f : Int), Vi (b 193 f), Vi 1, Vx]) (S1 := [Vi 62, Vr 166, Vr 166]) (h1 := ((SHv st dr rd), (ovl a s bq15))) (m' := 174) (as := [Vr 166, Vi 62]) (S' := [Vr 166]) (L0 := [Vr 166, Vi 62]) (fun _ => rfl) rfl rfl rfl rfl rfl rfl (k_isSign (b := bq15) (jn_tk hk hfrq15) 62 (by decide)) (fun r h' hq => ?_)
  obtain ⟨rfl, rfl⟩ := hq
  rw [if_neg (by omega)]
  show Ev X _ _ 241 [Vr 166, Vi (f : Int), Vi (b 193 f), Vi 1, Vx] [Vi 0, Vr 166] ((SHv st dr rd), (ovl a s bq15)) _
  refine Ev.call (k := 2) (pc1 := 251) (L1 := [Vr 166, Vi (f : Int), Vi (b 193 f), Vi 1, Vx]) (S1 := [Vi 24, Vr 166]) (h1 := ((SHv st dr rd), (ovl a s bq15))) (m' := 173) (as := [Vr 166, Vi 24]) (S' := []) (L0 := [Vr 166, Vi 24]) (fun _ => rfl) rfl rfl rfl rfl rfl rfl (m_holdsBack (b := bq15) h48q15 (by omega) 24) (fun r h' hq => ?_)
  obtain ⟨rfl, rfl⟩ := hq
  show Ev X _ _ 254 [Vr 166, Vi (f : Int), Vi (b 193 f), Vi 1, Vx] [] ((SHv st dr rd), (ovl a s (updC (updC bq15 198 om 24) 166 48 ((om : Int) + 1)))) _
  refine Ev.steps (k := 4) (pc' := 260) (L' := [Vr 166, Vi (f : Int), Vi (b 193 f), Vi 1, Vx]) (S' := [Vi 1, Vi (f : Int), Vr 194]) (h' := ((SHv st dr rd), (ovl a s (updC (updC bq15 198 om 24) 166 48 ((om : Int) + 1))))) (fun _ => rfl) ?_
  refine Ev.iast (c' := (ovl a s (updC (updC (updC bq15 198 om 24) 166 48 ((om : Int) + 1)) 194 f 1))) rfl (by decide) rfl (by omega) (by omega) (ovl_wm (by decide)) ?_
  refine Ev.call (k := 1) (pc1 := 262) (L1 := [Vr 166, Vi (f : Int), Vi (b 193 f), Vi 1, Vx]) (S1 := [Vr 166]) (h1 := ((SHv st dr rd), (ovl a s (updC (updC (updC bq15 198 om 24) 166 48 ((om : Int) + 1)) 194 f 1)))) (m' := 157) (as := [Vr 166]) (S' := []) (L0 := [Vr 166, Vx, Vx, Vx, Vx, Vx]) (fun _ => rfl) rfl rfl rfl rfl rfl rfl (m_nextT (b := (updC (updC (updC bq15 198 om 24) 166 48 ((om : Int) + 1)) 194 f 1)) ((((jn_tk hk hfrq15).up (by omega)).up (by omega)).up (by omega))) (fun r h' hq => ?_)
  obtain ⟨rfl, bq16, rfl, hq⟩ := hq
  rcases hq with ⟨pq16, hxq16, hoq16⟩ | ⟨eq16, hxq16, hbq16⟩
  · show Ev X _ _ 265 [Vr 166, Vi (f : Int), Vi (b 193 f), Vi 1, Vx] [] ((SHv st dr rd), (ovl a s bq16)) _
    refine Ev.steps (k := 2) (pc' := 267) (L' := [Vr 166, Vi (f : Int), Vi (b 193 f), Vi 1, Vx]) (S' := [Vi 0, Vr 166]) (h' := ((SHv st dr rd), (ovl a s bq16))) (fun _ => rfl) ?_
    refine Ev.putz (c' := (ovl a s (updC bq16 166 49 0))) rfl (by decide) rfl rfl rfl (by decide) (ovl_wm (by decide)) ?_
    refine Ev.fin (k := 2) (r := (some (Vi 1))) (h' := ((SHv st dr rd), (ovl a s (updC bq16 166 49 0)))) (fun _ => rfl) ?_
    exact ⟨1, _, rfl, Or.inr rfl, rfl, Or.inl ⟨pq16, hxq16, rfl, (GoM.nx hoq16 ((((jn_kp hfrq15 (by omega) : KpM j c om f b bq15).up (by omega)).up (by omega)).up (by omega)) (codM_u (codM_u (codM_u hcdq15 (by omega)) (by omega)) (by omega)) h38q15 (by rw [updC_nt (by omega), updC_sm]; first | done | omega) (by rw [updC_nt (by omega), updC_nt (by omega), updC_sm]) ((hfrq15 166 45 (by omega) (by omega)).trans e45) ((hfrq15 166 46 (by omega) (by omega)).trans e46) updC_sm (by rw [updC_nt (by omega), updC_nt (by omega), updC_nt (by omega)]; exact hfrq15 195 f (by omega) (by omega)))⟩⟩
  · show Ev X _ _ 265 [Vr 166, Vi (f : Int), Vi (b 193 f), Vi 1, Vx] [] ((SHv st dr rd), (ovl a s bq16)) _
    refine Ev.steps (k := 2) (pc' := 267) (L' := [Vr 166, Vi (f : Int), Vi (b 193 f), Vi 1, Vx]) (S' := [Vi 0, Vr 166]) (h' := ((SHv st dr rd), (ovl a s bq16))) (fun _ => rfl) ?_
    refine Ev.putz (c' := (ovl a s (updC bq16 166 49 0))) rfl (by decide) rfl rfl rfl (by decide) (ovl_wm (by decide)) ?_
    refine Ev.fin (k := 2) (r := (some (Vi 1))) (h' := ((SHv st dr rd), (ovl a s (updC bq16 166 49 0)))) (fun _ => rfl) ?_
    exact ⟨1, _, rfl, Or.inr rfl, rfl, Or.inr ⟨eq16, hxq16, (hbq16.bk ((((jn_kp hfrq15 (by omega) : KpM j c om f b bq15).up (by omega)).up (by omega)).up (by omega))).up (by omega)⟩⟩
theorem m_go_270 {X : List Int} {d : Nat} {st dr rd : Int} {a s b : C3} {W : TXT} {p : Nat} (hk : TkM W p b) {N : SC} {j : Nat} (hN : NmM N b j) {c om f bs : Nat} {pd : List Nat} (e38 : b 166 38 = (c : Int)) (e48 : b 166 48 = ((om + pd.length : Nat) : Int)) (e45 : b 166 45 = ((f + 1 : Nat) : Int)) (e46 : b 166 46 = (f : Int)) (hf : f ≤ 8) (ebs : b 197 f = (bs : Int)) (hbo : bs ≤ om) (hst : stkM (b 198) om pd) (hc : c + pd.length ≤ 1200) (ho : om + pd.length < 500) (hrk : ∀ op, op ∈ pd → 2 ≤ rkM ((op : Nat) : Int)) (hlo : om = bs ∨ rkM (b 198 (om - 1)) < 2) (h193 : b 193 f = 1 ∨ b 193 f = 5) (hph : b 194 f = 1 ∨ b 194 f = 2) (hct : tC W p = 270) : Ev X (d + 2) 178 0 [Vr 166, Vx, Vx, Vx, Vx] [] (SHv st dr rd, ovl a s b) (fun rr hh => ∃ (v : Int) (b' : C3), rr = some (Vi v) ∧ (v = 0 ∨ v = 1) ∧ hh = (SHv st dr rd, ovl a s b') ∧ ResC (gotT W p) (fun r => v = 1 ∧ GoM W j c om f 25 0 1 pd r b b') (fun e => BkM W j c b e b')) := by
  refine Ev.steps (k := 2) (pc' := 4) (L' := [Vr 166, Vx, Vx, Vx, Vx]) (S' := [Vi (b 166 45)]) (h' := ((SHv st dr rd), (ovl a s b))) (fun _ => rfl) ?_
  rw [e45]
  refine Ev.steps (k := 2) (pc' := 6) (L' := [Vr 166, Vx, Vx, Vx, Vx]) (S' := [Vi (w32 (((f + 1 : Nat) : Int) - 1))]) (h' := ((SHv st dr rd), (ovl a s b))) (fun _ => rfl) ?_
  rw [show (w32 (((f + 1 : Nat) : Int) - 1)) = (f : Int) from (by unfold w32; omega)]
  refine Ev.steps (k := 4) (pc' := 12) (L' := [Vr 166, Vi (f : Int), Vx, Vx, Vx]) (S' := [Vi (f : Int), Vr 193]) (h' := ((SHv st dr rd), (ovl a s b))) (fun _ => rfl) ?_
  refine Ev.iald (v := (b 193 f)) rfl (by decide) rfl (by omega) (by omega) (rfl) ?_
  refine Ev.call (k := 2) (pc1 := 15) (L1 := [Vr 166, Vi (f : Int), Vi (b 193 f), Vx, Vx]) (S1 := [Vi (b 193 f)]) (h1 := ((SHv st dr rd), (ovl a s b))) (m' := 172) (as := [Vi (b 193 f)]) (S' := []) (L0 := [Vi (b 193 f)]) (fun _ => rfl) rfl rfl rfl rfl rfl rfl (m_isTest (b := b) (b 193 f)) (fun r h' hq => ?_)
  obtain ⟨rfl, rfl⟩ := hq
  rw [if_pos h193]
  show Ev X _ _ 18 [Vr 166, Vi (f : Int), Vi (b 193 f), Vx, Vx] [Vi 1] ((SHv st dr rd), (ovl a s b)) _
  refine Ev.steps (k := 4) (pc' := 24) (L' := [Vr 166, Vi (f : Int), Vi (b 193 f), Vi 1, Vx]) (S' := [Vi (f : Int), Vr 194]) (h' := ((SHv st dr rd), (ovl a s b))) (fun _ => rfl) ?_
  refine Ev.iald (v := (b 194 f)) rfl (by decide) rfl (by omega) (by omega) (rfl) ?_
  refine Ev.ite (P := 2 ≤ (b 194 f)) (k := 2) (a := 175) (b := 29) (L' := [Vr 166, Vi (f : Int), Vi (b 193 f), Vi 1, Vx]) (S' := []) (h' := ((SHv st dr rd), (ovl a s b))) (fun _ => rfl) (fun b26 => ?_) (fun b26 => ?_)
  · refine Ev.steps (k := 5) (pc' := 184) (L' := [Vr 166, Vi (f : Int), Vi (b 193 f), Vi 1, Vx]) (S' := [Vi (f : Int), Vr 194]) (h' := ((SHv st dr rd), (ovl a s b))) (fun _ => rfl) ?_
    refine Ev.iald (v := (b 194 f)) rfl (by decide) rfl (by omega) (by omega) (rfl) ?_
    refine Ev.ite (P := (b 194 f) ≠ 0) (k := 1) (a := 272) (b := 188) (L' := [Vr 166, Vi (f : Int), Vi (b 193 f), Vi 1, Vx]) (S' := []) (h' := ((SHv st dr rd), (ovl a s b))) (fun _ => rfl) (fun b185 => ?_) (fun b185 => ?_)
    · refine Ev.call (k := 4) (pc1 := 280) (L1 := [Vr 166, Vi (f : Int), Vi (b 193 f), Vi 1, Vx]) (S1 := [Vl 6385252, Vr 166]) (h1 := ((SHv st dr rd), (ovl a s b))) (m' := 162) (as := [Vr 166, Vl 6385252]) (S' := []) (L0 := [Vr 166, Vl 6385252, Vx]) (fun _ => rfl) rfl rfl rfl rfl rfl rfl (k_isWord (b := b) hk 14 (by decide) 6385252 (by decide)) (fun r h' hq => ?_)
      obtain ⟨rfl, rfl⟩ := hq
      rw [if_pos (by omega)]
      show Ev X _ _ 283 [Vr 166, Vi (f : Int), Vi (b 193 f), Vi 1, Vx] [Vi 1] ((SHv st dr rd), (ovl a s b)) _
      refine Ev.steps (k := 4) (pc' := 301) (L' := [Vr 166, Vi (f : Int), Vi (b 193 f), Vi 1, Vx]) (S' := [Vi (f : Int), Vr 194]) (h' := ((SHv st dr rd), (ovl a s b))) (fun _ => rfl) ?_
      refine Ev.iald (v := (b 194 f)) rfl (by decide) rfl (by omega) (by omega) (rfl) ?_
      refine Ev.ite (P := (b 194 f) ≠ 0) (k := 1) (a := 314) (b := 305) (L' := [Vr 166, Vi (f : Int), Vi (b 193 f), Vi 1, Vx]) (S' := []) (h' := ((SHv st dr rd), (ovl a s b))) (fun _ => rfl) (fun b302 => ?_) (fun b302 => ?_)
      · refine Ev.steps (k := 2) (pc' := 318) (L' := [Vr 166, Vi (f : Int), Vi (b 193 f), Vi 1, Vx]) (S' := [Vi (b 166 8)]) (h' := ((SHv st dr rd), (ovl a s b))) (fun _ => rfl) ?_
        rw [hk.2.1]
        refine Ev.call (k := 3) (pc1 := 327) (L1 := [Vr 166, Vi (f : Int), Vi (b 193 f), Vi 1, Vx]) (S1 := [Vl 6385252, Vr 166]) (h1 := ((SHv st dr rd), (ovl a s b))) (m' := 162) (as := [Vr 166, Vl 6385252]) (S' := []) (L0 := [Vr 166, Vl 6385252, Vx]) (fun _ => rfl) rfl rfl rfl rfl rfl rfl (k_isWord (b := b) hk 14 (by decide) 6385252 (by decide)) (fun r h' hq => ?_)
        obtain ⟨rfl, rfl⟩ := hq
        rw [if_pos (by omega)]
        show Ev X _ _ 330 [Vr 166, Vi (f : Int), Vi (b 193 f), Vi 1, Vx] [Vi 1] ((SHv st dr rd), (ovl a s b)) _
        refine Ev.call (k := 6) (pc1 := 343) (L1 := [Vr 166, Vi (f : Int), Vi (b 193 f), Vi 1, Vi 1]) (S1 := [Vi 2, Vr 166]) (h1 := ((SHv st dr rd), (ovl a s b))) (m' := 179) (as := [Vr 166, Vi 2]) (S' := []) (L0 := [Vr 166, Vi 2]) (fun _ => rfl) rfl rfl rfl rfl rfl rfl (m_joins (b0 := b) hN.1 ⟨by omega, by omega⟩ 2 hbo pd c hN.2.1 e38 e45 e48 ebs hst hrk hlo (by omega) (by omega)) (fun r h' hq => ?_)
        obtain ⟨rfl, bq17, rfl, hcdq17, h38q17, h48q17, hfrq17⟩ := hq
        have hfrq17 : JnF j c pd.length b bq17 := hfrq17
        show Ev X _ _ 346 [Vr 166, Vi (f : Int), Vi (b 193 f), Vi 1, Vi 1] [] ((SHv st dr rd), (ovl a s bq17)) _
        refine Ev.call (k := 5) (pc1 := 359) (L1 := [Vr 166, Vi (f : Int), Vi (b 193 f), Vi 1, Vi 1]) (S1 := [Vi 25, Vr 166]) (h1 := ((SHv st dr rd), (ovl a s bq17))) (m' := 173) (as := [Vr 166, Vi 25]) (S' := []) (L0 := [Vr 166, Vi 25]) (fun _ => rfl) rfl rfl rfl rfl rfl rfl (m_holdsBack (b := bq17) h48q17 (by omega) 25) (fun r h' hq => ?_)
        obtain ⟨rfl, rfl⟩ := hq
        show Ev X _ _ 362 [Vr 166, Vi (f : Int), Vi (b 193 f), Vi 1, Vi 1] [] ((SHv st dr rd), (ovl a s (updC (updC bq17 198 om 25) 166 48 ((om : Int) + 1)))) _
        refine Ev.steps (k := 4) (pc' := 368) (L' := [Vr 166, Vi (f : Int), Vi (b 193 f), Vi 1, Vi 1]) (S' := [Vi 0, Vi (f : Int), Vr 194]) (h' := ((SHv st dr rd), (ovl a s (updC (updC bq17 198 om 25) 166 48 ((om : Int) + 1))))) (fun _ => rfl) ?_
        refine Ev.iast (c' := (ovl a s (updC (updC (updC bq17 198 om 25) 166 48 ((om : Int) + 1)) 194 f 0))) rfl (by decide) rfl (by omega) (by omega) (ovl_wm (by decide)) ?_
        refine Ev.steps (k := 4) (pc' := 375) (L' := [Vr 166, Vi (f : Int), Vi (b 193 f), Vi 1, Vi 1]) (S' := [Vi 1, Vi (f : Int), Vr 195]) (h' := ((SHv st dr rd), (ovl a s (updC (updC (updC bq17 198 om 25) 166 48 ((om : Int) + 1)) 194 f 0)))) (fun _ => rfl) ?_
        refine Ev.zast (c' := (ovl a s (updC (updC (updC (updC bq17 198 om 25) 166 48 ((om : Int) + 1)) 194 f 0) 195 f 1))) rfl (by decide) rfl (by omega) (by omega) (by omega) (ovl_wm (by decide)) ?_
        refine Ev.call (k := 1) (pc1 := 377) (L1 := [Vr 166, Vi (f : Int), Vi (b 193 f), Vi 1, Vi 1]) (S1 := [Vr 166]) (h1 := ((SHv st dr rd), (ovl a s (updC (updC (updC (updC bq17 198 om 25) 166 48 ((om : Int) + 1)) 194 f 0) 195 f 1)))) (m' := 157) (as := [Vr 166]) (S' := []) (L0 := [Vr 166, Vx, Vx, Vx, Vx, Vx]) (fun _ => rfl) rfl rfl rfl rfl rfl rfl (m_nextT (b := (updC (updC (updC (updC bq17 198 om 25) 166 48 ((om : Int) + 1)) 194 f 0) 195 f 1)) (((((jn_tk hk hfrq17).up (by omega)).up (by omega)).up (by omega)).up (by omega))) (fun r h' hq => ?_)
        obtain ⟨rfl, bq18, rfl, hq⟩ := hq
        rcases hq with ⟨pq18, hxq18, hoq18⟩ | ⟨eq18, hxq18, hbq18⟩
        · show Ev X _ _ 380 [Vr 166, Vi (f : Int), Vi (b 193 f), Vi 1, Vi 1] [] ((SHv st dr rd), (ovl a s bq18)) _
          refine Ev.steps (k := 2) (pc' := 382) (L' := [Vr 166, Vi (f : Int), Vi (b 193 f), Vi 1, Vi 1]) (S' := [Vi 0, Vr 166]) (h' := ((SHv st dr rd), (ovl a s bq18))) (fun _ => rfl) ?_
          refine Ev.putz (c' := (ovl a s (updC bq18 166 49 0))) rfl (by decide) rfl rfl rfl (by decide) (ovl_wm (by decide)) ?_
          refine Ev.fin (k := 2) (r := (some (Vi 1))) (h' := ((SHv st dr rd), (ovl a s (updC bq18 166 49 0)))) (fun _ => rfl) ?_
          exact ⟨1, _, rfl, Or.inr rfl, rfl, Or.inl ⟨pq18, hxq18, rfl, (GoM.nx hoq18 (((((jn_kp hfrq17 (by omega) : KpM j c om f b bq17).up (by omega)).up (by omega)).up (by omega)).up (by omega)) (codM_u (codM_u (codM_u (codM_u hcdq17 (by omega)) (by omega)) (by omega)) (by omega)) h38q17 (by rw [updC_nt (by omega), updC_nt (by omega), updC_sm]; first | done | omega) (by rw [updC_nt (by omega), updC_nt (by omega), updC_nt (by omega), updC_sm]) ((hfrq17 166 45 (by omega) (by omega)).trans e45) ((hfrq17 166 46 (by omega) (by omega)).trans e46) (by rw [updC_nt (by omega), updC_sm]) updC_sm)⟩⟩
        · show Ev X _ _ 380 [Vr 166, Vi (f : Int), Vi (b 193 f), Vi 1, Vi 1] [] ((SHv st dr rd), (ovl a s bq18)) _
          refine Ev.steps (k := 2) (pc' := 382) (L' := [Vr 166, Vi (f : Int), Vi (b 193 f), Vi 1, Vi 1]) (S' := [Vi 0, Vr 166]) (h' := ((SHv st dr rd), (ovl a s bq18))) (fun _ => rfl) ?_
          refine Ev.putz (c' := (ovl a s (updC bq18 166 49 0))) rfl (by decide) rfl rfl rfl (by decide) (ovl_wm (by decide)) ?_
          refine Ev.fin (k := 2) (r := (some (Vi 1))) (h' := ((SHv st dr rd), (ovl a s (updC bq18 166 49 0)))) (fun _ => rfl) ?_
          exact ⟨1, _, rfl, Or.inr rfl, rfl, Or.inr ⟨eq18, hxq18, (hbq18.bk (((((jn_kp hfrq17 (by omega) : KpM j c om f b bq17).up (by omega)).up (by omega)).up (by omega)).up (by omega))).up (by omega)⟩⟩
      · omega
    · omega
  · refine Ev.call (k := 2) (pc1 := 32) (L1 := [Vr 166, Vi (f : Int), Vi (b 193 f), Vi 1, Vx]) (S1 := [Vi 43, Vr 166]) (h1 := ((SHv st dr rd), (ovl a s b))) (m' := 174) (as := [Vr 166, Vi 43]) (S' := []) (L0 := [Vr 166, Vi 43]) (fun _ => rfl) rfl rfl rfl rfl rfl rfl (k_isSign (b := b) hk 43 (by decide)) (fun r h' hq => ?_)
    obtain ⟨rfl, rfl⟩ := hq
    rw [if_neg (by omega)]
    show Ev X _ _ 35 [Vr 166, Vi (f : Int), Vi (b 193 f), Vi 1, Vx] [Vi 0] ((SHv st dr rd), (ovl a s b)) _
    refine Ev.call (k := 3) (pc1 := 41) (L1 := [Vr 166, Vi (f : Int), Vi (b 193 f), Vi 1, Vx]) (S1 := [Vi 45, Vr 166]) (h1 := ((SHv st dr rd), (ovl a s b))) (m' := 174) (as := [Vr 166, Vi 45]) (S' := []) (L0 := [Vr 166, Vi 45]) (fun _ => rfl) rfl rfl rfl rfl rfl rfl (k_isSign (b := b) hk 45 (by decide)) (fun r h' hq => ?_)
    obtain ⟨rfl, rfl⟩ := hq
    rw [if_neg (by omega)]
    show Ev X _ _ 44 [Vr 166, Vi (f : Int), Vi (b 193 f), Vi 1, Vx] [Vi 0] ((SHv st dr rd), (ovl a s b)) _
    refine Ev.call (k := 3) (pc1 := 50) (L1 := [Vr 166, Vi (f : Int), Vi (b 193 f), Vi 1, Vx]) (S1 := [Vi 42, Vr 166]) (h1 := ((SHv st dr rd), (ovl a s b))) (m' := 174) (as := [Vr 166, Vi 42]) (S' := []) (L0 := [Vr 166, Vi 42]) (fun _ => rfl) rfl rfl rfl rfl rfl rfl (k_isSign (b := b) hk 42 (by decide)) (fun r h' hq => ?_)
    obtain ⟨rfl, rfl⟩ := hq
    rw [if_neg (by omega)]
    show Ev X _ _ 53 [Vr 166, Vi (f : Int), Vi (b 193 f), Vi 1, Vx] [Vi 0] ((SHv st dr rd), (ovl a s b)) _
    refine Ev.call (k := 3) (pc1 := 59) (L1 := [Vr 166, Vi (f : Int), Vi (b 193 f), Vi 1, Vx]) (S1 := [Vi 47, Vr 166]) (h1 := ((SHv st dr rd), (ovl a s b))) (m' := 174) (as := [Vr 166, Vi 47]) (S' := []) (L0 := [Vr 166, Vi 47]) (fun _ => rfl) rfl rfl rfl rfl rfl rfl (k_isSign (b := b) hk 47 (by decide)) (fun r h' hq => ?_)
    obtain ⟨rfl, rfl⟩ := hq
    rw [if_neg (by omega)]
    show Ev X _ _ 62 [Vr 166, Vi (f : Int), Vi (b 193 f), Vi 1, Vx] [Vi 0] ((SHv st dr rd), (ovl a s b)) _
    refine Ev.call (k := 3) (pc1 := 68) (L1 := [Vr 166, Vi (f : Int), Vi (b 193 f), Vi 1, Vx]) (S1 := [Vi 37, Vr 166]) (h1 := ((SHv st dr rd), (ovl a s b))) (m' := 174) (as := [Vr 166, Vi 37]) (S' := []) (L0 := [Vr 166, Vi 37]) (fun _ => rfl) rfl rfl rfl rfl rfl rfl (k_isSign (b := b) hk 37 (by decide)) (fun r h' hq => ?_)
    obtain ⟨rfl, rfl⟩ := hq
    rw [if_neg (by omega)]
    show Ev X _ _ 71 [Vr 166, Vi (f : Int), Vi (b 193 f), Vi 1, Vx] [Vi 0] ((SHv st dr rd), (ovl a s b)) _
    refine Ev.steps (k := 6) (pc' := 184) (L' := [Vr 166, Vi (f : Int), Vi (b 193 f), Vi 1, Vx]) (S' := [Vi (f : Int), Vr 194]) (h' := ((SHv st dr rd), (ovl a s b))) (fun _ => rfl) ?_
    refine Ev.iald (v := (b 194 f)) rfl (by decide) rfl (by omega) (by omega) (rfl) ?_
    refine Ev.ite (P := (b 194 f) ≠ 0) (k := 1) (a := 272) (b := 188) (L' := [Vr 166, Vi (f : Int), Vi (b 193 f), Vi 1, Vx]) (S' := []) (h' := ((SHv st dr rd), (ovl a s b))) (fun _ => rfl) (fun b185 => ?_) (fun b185 => ?_)
    · refine Ev.call (k := 4) (pc1 := 280) (L1 := [Vr 166, Vi (f : Int), Vi (b 193 f), Vi 1, Vx]) (S1 := [Vl 6385252, Vr 166]) (h1 := ((SHv st dr rd), (ovl a s b))) (m' := 162) (as := [Vr 166, Vl 6385252]) (S' := []) (L0 := [Vr 166, Vl 6385252, Vx]) (fun _ => rfl) rfl rfl rfl rfl rfl rfl (k_isWord (b := b) hk 14 (by decide) 6385252 (by decide)) (fun r h' hq => ?_)
      obtain ⟨rfl, rfl⟩ := hq
      rw [if_pos (by omega)]
      show Ev X _ _ 283 [Vr 166, Vi (f : Int), Vi (b 193 f), Vi 1, Vx] [Vi 1] ((SHv st dr rd), (ovl a s b)) _
      refine Ev.steps (k := 4) (pc' := 301) (L' := [Vr 166, Vi (f : Int), Vi (b 193 f), Vi 1, Vx]) (S' := [Vi (f : Int), Vr 194]) (h' := ((SHv st dr rd), (ovl a s b))) (fun _ => rfl) ?_
      refine Ev.iald (v := (b 194 f)) rfl (by decide) rfl (by omega) (by omega) (rfl) ?_
      refine Ev.ite (P := (b 194 f) ≠ 0) (k := 1) (a := 314) (b := 305) (L' := [Vr 166, Vi (f : Int), Vi (b 193 f), Vi 1, Vx]) (S' := []) (h' := ((SHv st dr rd), (ovl a s b))) (fun _ => rfl) (fun b302 => ?_) (fun b302 => ?_)
      · refine Ev.steps (k := 2) (pc' := 318) (L' := [Vr 166, Vi (f : Int), Vi (b 193 f), Vi 1, Vx]) (S' := [Vi (b 166 8)]) (h' := ((SHv st dr rd), (ovl a s b))) (fun _ => rfl) ?_
        rw [hk.2.1]
        refine Ev.call (k := 3) (pc1 := 327) (L1 := [Vr 166, Vi (f : Int), Vi (b 193 f), Vi 1, Vx]) (S1 := [Vl 6385252, Vr 166]) (h1 := ((SHv st dr rd), (ovl a s b))) (m' := 162) (as := [Vr 166, Vl 6385252]) (S' := []) (L0 := [Vr 166, Vl 6385252, Vx]) (fun _ => rfl) rfl rfl rfl rfl rfl rfl (k_isWord (b := b) hk 14 (by decide) 6385252 (by decide)) (fun r h' hq => ?_)
        obtain ⟨rfl, rfl⟩ := hq
        rw [if_pos (by omega)]
        show Ev X _ _ 330 [Vr 166, Vi (f : Int), Vi (b 193 f), Vi 1, Vx] [Vi 1] ((SHv st dr rd), (ovl a s b)) _
        refine Ev.call (k := 6) (pc1 := 343) (L1 := [Vr 166, Vi (f : Int), Vi (b 193 f), Vi 1, Vi 1]) (S1 := [Vi 2, Vr 166]) (h1 := ((SHv st dr rd), (ovl a s b))) (m' := 179) (as := [Vr 166, Vi 2]) (S' := []) (L0 := [Vr 166, Vi 2]) (fun _ => rfl) rfl rfl rfl rfl rfl rfl (m_joins (b0 := b) hN.1 ⟨by omega, by omega⟩ 2 hbo pd c hN.2.1 e38 e45 e48 ebs hst hrk hlo (by omega) (by omega)) (fun r h' hq => ?_)
        obtain ⟨rfl, bq19, rfl, hcdq19, h38q19, h48q19, hfrq19⟩ := hq
        have hfrq19 : JnF j c pd.length b bq19 := hfrq19
        show Ev X _ _ 346 [Vr 166, Vi (f : Int), Vi (b 193 f), Vi 1, Vi 1] [] ((SHv st dr rd), (ovl a s bq19)) _
        refine Ev.call (k := 5) (pc1 := 359) (L1 := [Vr 166, Vi (f : Int), Vi (b 193 f), Vi 1, Vi 1]) (S1 := [Vi 25, Vr 166]) (h1 := ((SHv st dr rd), (ovl a s bq19))) (m' := 173) (as := [Vr 166, Vi 25]) (S' := []) (L0 := [Vr 166, Vi 25]) (fun _ => rfl) rfl rfl rfl rfl rfl rfl (m_holdsBack (b := bq19) h48q19 (by omega) 25) (fun r h' hq => ?_)
        obtain ⟨rfl, rfl⟩ := hq
        show Ev X _ _ 362 [Vr 166, Vi (f : Int), Vi (b 193 f), Vi 1, Vi 1] [] ((SHv st dr rd), (ovl a s (updC (updC bq19 198 om 25) 166 48 ((om : Int) + 1)))) _
        refine Ev.steps (k := 4) (pc' := 368) (L' := [Vr 166, Vi (f : Int), Vi (b 193 f), Vi 1, Vi 1]) (S' := [Vi 0, Vi (f : Int), Vr 194]) (h' := ((SHv st dr rd), (ovl a s (updC (updC bq19 198 om 25) 166 48 ((om : Int) + 1))))) (fun _ => rfl) ?_
        refine Ev.iast (c' := (ovl a s (updC (updC (updC bq19 198 om 25) 166 48 ((om : Int) + 1)) 194 f 0))) rfl (by decide) rfl (by omega) (by omega) (ovl_wm (by decide)) ?_
        refine Ev.steps (k := 4) (pc' := 375) (L' := [Vr 166, Vi (f : Int), Vi (b 193 f), Vi 1, Vi 1]) (S' := [Vi 1, Vi (f : Int), Vr 195]) (h' := ((SHv st dr rd), (ovl a s (updC (updC (updC bq19 198 om 25) 166 48 ((om : Int) + 1)) 194 f 0)))) (fun _ => rfl) ?_
        refine Ev.zast (c' := (ovl a s (updC (updC (updC (updC bq19 198 om 25) 166 48 ((om : Int) + 1)) 194 f 0) 195 f 1))) rfl (by decide) rfl (by omega) (by omega) (by omega) (ovl_wm (by decide)) ?_
        refine Ev.call (k := 1) (pc1 := 377) (L1 := [Vr 166, Vi (f : Int), Vi (b 193 f), Vi 1, Vi 1]) (S1 := [Vr 166]) (h1 := ((SHv st dr rd), (ovl a s (updC (updC (updC (updC bq19 198 om 25) 166 48 ((om : Int) + 1)) 194 f 0) 195 f 1)))) (m' := 157) (as := [Vr 166]) (S' := []) (L0 := [Vr 166, Vx, Vx, Vx, Vx, Vx]) (fun _ => rfl) rfl rfl rfl rfl rfl rfl (m_nextT (b := (updC (updC (updC (updC bq19 198 om 25) 166 48 ((om : Int) + 1)) 194 f 0) 195 f 1)) (((((jn_tk hk hfrq19).up (by omega)).up (by omega)).up (by omega)).up (by omega))) (fun r h' hq => ?_)
        obtain ⟨rfl, bq20, rfl, hq⟩ := hq
        rcases hq with ⟨pq20, hxq20, hoq20⟩ | ⟨eq20, hxq20, hbq20⟩
        · show Ev X _ _ 380 [Vr 166, Vi (f : Int), Vi (b 193 f), Vi 1, Vi 1] [] ((SHv st dr rd), (ovl a s bq20)) _
          refine Ev.steps (k := 2) (pc' := 382) (L' := [Vr 166, Vi (f : Int), Vi (b 193 f), Vi 1, Vi 1]) (S' := [Vi 0, Vr 166]) (h' := ((SHv st dr rd), (ovl a s bq20))) (fun _ => rfl) ?_
          refine Ev.putz (c' := (ovl a s (updC bq20 166 49 0))) rfl (by decide) rfl rfl rfl (by decide) (ovl_wm (by decide)) ?_
          refine Ev.fin (k := 2) (r := (some (Vi 1))) (h' := ((SHv st dr rd), (ovl a s (updC bq20 166 49 0)))) (fun _ => rfl) ?_
          exact ⟨1, _, rfl, Or.inr rfl, rfl, Or.inl ⟨pq20, hxq20, rfl, (GoM.nx hoq20 (((((jn_kp hfrq19 (by omega) : KpM j c om f b bq19).up (by omega)).up (by omega)).up (by omega)).up (by omega)) (codM_u (codM_u (codM_u (codM_u hcdq19 (by omega)) (by omega)) (by omega)) (by omega)) h38q19 (by rw [updC_nt (by omega), updC_nt (by omega), updC_sm]; first | done | omega) (by rw [updC_nt (by omega), updC_nt (by omega), updC_nt (by omega), updC_sm]) ((hfrq19 166 45 (by omega) (by omega)).trans e45) ((hfrq19 166 46 (by omega) (by omega)).trans e46) (by rw [updC_nt (by omega), updC_sm]) updC_sm)⟩⟩
        · show Ev X _ _ 380 [Vr 166, Vi (f : Int), Vi (b 193 f), Vi 1, Vi 1] [] ((SHv st dr rd), (ovl a s bq20)) _
          refine Ev.steps (k := 2) (pc' := 382) (L' := [Vr 166, Vi (f : Int), Vi (b 193 f), Vi 1, Vi 1]) (S' := [Vi 0, Vr 166]) (h' := ((SHv st dr rd), (ovl a s bq20))) (fun _ => rfl) ?_
          refine Ev.putz (c' := (ovl a s (updC bq20 166 49 0))) rfl (by decide) rfl rfl rfl (by decide) (ovl_wm (by decide)) ?_
          refine Ev.fin (k := 2) (r := (some (Vi 1))) (h' := ((SHv st dr rd), (ovl a s (updC bq20 166 49 0)))) (fun _ => rfl) ?_
          exact ⟨1, _, rfl, Or.inr rfl, rfl, Or.inr ⟨eq20, hxq20, (hbq20.bk (((((jn_kp hfrq19 (by omega) : KpM j c om f b bq19).up (by omega)).up (by omega)).up (by omega)).up (by omega))).up (by omega)⟩⟩
      · omega
    · omega
theorem m_go_269 {X : List Int} {d : Nat} {st dr rd : Int} {a s b : C3} {W : TXT} {p : Nat} (hk : TkM W p b) {N : SC} {j : Nat} (hN : NmM N b j) {c om f bs : Nat} {pd : List Nat} (e38 : b 166 38 = (c : Int)) (e48 : b 166 48 = ((om + pd.length : Nat) : Int)) (e45 : b 166 45 = ((f + 1 : Nat) : Int)) (e46 : b 166 46 = (f : Int)) (hf : f ≤ 8) (ebs : b 197 f = (bs : Int)) (hbo : bs ≤ om) (hst : stkM (b 198) om pd) (hc : c + pd.length ≤ 1200) (ho : om + pd.length < 500) (hrk : ∀ op, op ∈ pd → 1 ≤ rkM ((op : Nat) : Int)) (hlo : om = bs ∨ rkM (b 198 (om - 1)) < 1) (h193 : b 193 f = 1 ∨ b 193 f = 5) (hph : b 194 f = 1 ∨ b 194 f = 2) (hct : tC W p = 269) : Ev X (d + 2) 178 0 [Vr 166, Vx, Vx, Vx, Vx] [] (SHv st dr rd, ovl a s b) (fun rr hh => ∃ (v : Int) (b' : C3), rr = some (Vi v) ∧ (v = 0 ∨ v = 1) ∧ hh = (SHv st dr rd, ovl a s b') ∧ ResC (gotT W p) (fun r => v = 1 ∧ GoM W j c om f 26 0 1 pd r b b') (fun e => BkM W j c b e b')) := by
  refine Ev.steps (k := 2) (pc' := 4) (L' := [Vr 166, Vx, Vx, Vx, Vx]) (S' := [Vi (b 166 45)]) (h' := ((SHv st dr rd), (ovl a s b))) (fun _ => rfl) ?_
  rw [e45]
  refine Ev.steps (k := 2) (pc' := 6) (L' := [Vr 166, Vx, Vx, Vx, Vx]) (S' := [Vi (w32 (((f + 1 : Nat) : Int) - 1))]) (h' := ((SHv st dr rd), (ovl a s b))) (fun _ => rfl) ?_
  rw [show (w32 (((f + 1 : Nat) : Int) - 1)) = (f : Int) from (by unfold w32; omega)]
  refine Ev.steps (k := 4) (pc' := 12) (L' := [Vr 166, Vi (f : Int), Vx, Vx, Vx]) (S' := [Vi (f : Int), Vr 193]) (h' := ((SHv st dr rd), (ovl a s b))) (fun _ => rfl) ?_
  refine Ev.iald (v := (b 193 f)) rfl (by decide) rfl (by omega) (by omega) (rfl) ?_
  refine Ev.call (k := 2) (pc1 := 15) (L1 := [Vr 166, Vi (f : Int), Vi (b 193 f), Vx, Vx]) (S1 := [Vi (b 193 f)]) (h1 := ((SHv st dr rd), (ovl a s b))) (m' := 172) (as := [Vi (b 193 f)]) (S' := []) (L0 := [Vi (b 193 f)]) (fun _ => rfl) rfl rfl rfl rfl rfl rfl (m_isTest (b := b) (b 193 f)) (fun r h' hq => ?_)
  obtain ⟨rfl, rfl⟩ := hq
  rw [if_pos h193]
  show Ev X _ _ 18 [Vr 166, Vi (f : Int), Vi (b 193 f), Vx, Vx] [Vi 1] ((SHv st dr rd), (ovl a s b)) _
  refine Ev.steps (k := 4) (pc' := 24) (L' := [Vr 166, Vi (f : Int), Vi (b 193 f), Vi 1, Vx]) (S' := [Vi (f : Int), Vr 194]) (h' := ((SHv st dr rd), (ovl a s b))) (fun _ => rfl) ?_
  refine Ev.iald (v := (b 194 f)) rfl (by decide) rfl (by omega) (by omega) (rfl) ?_
  refine Ev.ite (P := 2 ≤ (b 194 f)) (k := 2) (a := 175) (b := 29) (L' := [Vr 166, Vi (f : Int), Vi (b 193 f), Vi 1, Vx]) (S' := []) (h' := ((SHv st dr rd), (ovl a s b))) (fun _ => rfl) (fun b26 => ?_) (fun b26 => ?_)
  · refine Ev.steps (k := 5) (pc' := 184) (L' := [Vr 166, Vi (f : Int), Vi (b 193 f), Vi 1, Vx]) (S' := [Vi (f : Int), Vr 194]) (h' := ((SHv st dr rd), (ovl a s b))) (fun _ => rfl) ?_
    refine Ev.iald (v := (b 194 f)) rfl (by decide) rfl (by omega) (by omega) (rfl) ?_
    refine Ev.ite (P := (b 194 f) ≠ 0) (k := 1) (a := 272) (b := 188) (L' := [Vr 166, Vi (f : Int), Vi (b 193 f), Vi 1, Vx]) (S' := []) (h' := ((SHv st dr rd), (ovl a s b))) (fun _ => rfl) (fun b185 => ?_) (fun b185 => ?_)
    · refine Ev.call (k := 4) (pc1 := 280) (L1 := [Vr 166, Vi (f : Int), Vi (b 193 f), Vi 1, Vx]) (S1 := [Vl 6385252, Vr 166]) (h1 := ((SHv st dr rd), (ovl a s b))) (m' := 162) (as := [Vr 166, Vl 6385252]) (S' := []) (L0 := [Vr 166, Vl 6385252, Vx]) (fun _ => rfl) rfl rfl rfl rfl rfl rfl (k_isWord (b := b) hk 14 (by decide) 6385252 (by decide)) (fun r h' hq => ?_)
      obtain ⟨rfl, rfl⟩ := hq
      rw [if_neg (by omega)]
      show Ev X _ _ 283 [Vr 166, Vi (f : Int), Vi (b 193 f), Vi 1, Vx] [Vi 0] ((SHv st dr rd), (ovl a s b)) _
      refine Ev.call (k := 3) (pc1 := 290) (L1 := [Vr 166, Vi (f : Int), Vi (b 193 f), Vi 1, Vx]) (S1 := [Vl 28530, Vr 166]) (h1 := ((SHv st dr rd), (ovl a s b))) (m' := 162) (as := [Vr 166, Vl 28530]) (S' := []) (L0 := [Vr 166, Vl 28530, Vx]) (fun _ => rfl) rfl rfl rfl rfl rfl rfl (k_isWord (b := b) hk 13 (by decide) 28530 (by decide)) (fun r h' hq => ?_)
      obtain ⟨rfl, rfl⟩ := hq
      rw [if_pos (by omega)]
      show Ev X _ _ 293 [Vr 166, Vi (f : Int), Vi (b 193 f), Vi 1, Vx] [Vi 1] ((SHv st dr rd), (ovl a s b)) _
      refine Ev.steps (k := 4) (pc' := 301) (L' := [Vr 166, Vi (f : Int), Vi (b 193 f), Vi 1, Vx]) (S' := [Vi (f : Int), Vr 194]) (h' := ((SHv st dr rd), (ovl a s b))) (fun _ => rfl) ?_
      refine Ev.iald (v := (b 194 f)) rfl (by decide) rfl (by omega) (by omega) (rfl) ?_
      refine Ev.ite (P := (b 194 f) ≠ 0) (k := 1) (a := 314) (b := 305) (L' := [Vr 166, Vi (f : Int), Vi (b 193 f), Vi 1, Vx]) (S' := []) (h' := ((SHv st dr rd), (ovl a s b))) (fun _ => rfl) (fun b302 => ?_) (fun b302 => ?_)
      · refine Ev.steps (k := 2) (pc' := 318) (L' := [Vr 166, Vi (f : Int), Vi (b 193 f), Vi 1, Vx]) (S' := [Vi (b 166 8)]) (h' := ((SHv st dr rd), (ovl a s b))) (fun _ => rfl) ?_
        rw [hk.2.1]
        refine Ev.call (k := 3) (pc1 := 327) (L1 := [Vr 166, Vi (f : Int), Vi (b 193 f), Vi 1, Vx]) (S1 := [Vl 6385252, Vr 166]) (h1 := ((SHv st dr rd), (ovl a s b))) (m' := 162) (as := [Vr 166, Vl 6385252]) (S' := []) (L0 := [Vr 166, Vl 6385252, Vx]) (fun _ => rfl) rfl rfl rfl rfl rfl rfl (k_isWord (b := b) hk 14 (by decide) 6385252 (by decide)) (fun r h' hq => ?_)
        obtain ⟨rfl, rfl⟩ := hq
        rw [if_neg (by omega)]
        show Ev X _ _ 330 [Vr 166, Vi (f : Int), Vi (b 193 f), Vi 1, Vx] [Vi 0] ((SHv st dr rd), (ovl a s b)) _
        refine Ev.call (k := 5) (pc1 := 343) (L1 := [Vr 166, Vi (f : Int), Vi (b 193 f), Vi 1, Vi 0]) (S1 := [Vi 1, Vr 166]) (h1 := ((SHv st dr rd), (ovl a s b))) (m' := 179) (as := [Vr 166, Vi 1]) (S' := []) (L0 := [Vr 166, Vi 1]) (fun _ => rfl) rfl rfl rfl rfl rfl rfl (m_joins (b0 := b) hN.1 ⟨by omega, by omega⟩ 1 hbo pd c hN.2.1 e38 e45 e48 ebs hst hrk hlo (by omega) (by omega)) (fun r h' hq => ?_)
        obtain ⟨rfl, bq21, rfl, hcdq21, h38q21, h48q21, hfrq21⟩ := hq
        have hfrq21 : JnF j c pd.length b bq21 := hfrq21
        show Ev X _ _ 346 [Vr 166, Vi (f : Int), Vi (b 193 f), Vi 1, Vi 0] [] ((SHv st dr rd), (ovl a s bq21)) _
        refine Ev.call (k := 4) (pc1 := 359) (L1 := [Vr 166, Vi (f : Int), Vi (b 193 f), Vi 1, Vi 0]) (S1 := [Vi 26, Vr 166]) (h1 := ((SHv st dr rd), (ovl a s bq21))) (m' := 173) (as := [Vr 166, Vi 26]) (S' := []) (L0 := [Vr 166, Vi 26]) (fun _ => rfl) rfl rfl rfl rfl rfl rfl (m_holdsBack (b := bq21) h48q21 (by omega) 26) (fun r h' hq => ?_)
        obtain ⟨rfl, rfl⟩ := hq
        show Ev X _ _ 362 [Vr 166, Vi (f : Int), Vi (b 193 f), Vi 1, Vi 0] [] ((SHv st dr rd), (ovl a s (updC (updC bq21 198 om 26) 166 48 ((om : Int) + 1)))) _
        refine Ev.steps (k := 4) (pc' := 368) (L' := [Vr 166, Vi (f : Int), Vi (b 193 f), Vi 1, Vi 0]) (S' := [Vi 0, Vi (f : Int), Vr 194]) (h' := ((SHv st dr rd), (ovl a s (updC (updC bq21 198 om 26) 166 48 ((om : Int) + 1))))) (fun _ => rfl) ?_
        refine Ev.iast (c' := (ovl a s (updC (updC (updC bq21 198 om 26) 166 48 ((om : Int) + 1)) 194 f 0))) rfl (by decide) rfl (by omega) (by omega) (ovl_wm (by decide)) ?_
        refine Ev.steps (k := 4) (pc' := 375) (L' := [Vr 166, Vi (f : Int), Vi (b 193 f), Vi 1, Vi 0]) (S' := [Vi 1, Vi (f : Int), Vr 195]) (h' := ((SHv st dr rd), (ovl a s (updC (updC (updC bq21 198 om 26) 166 48 ((om : Int) + 1)) 194 f 0)))) (fun _ => rfl) ?_
        refine Ev.zast (c' := (ovl a s (updC (updC (updC (updC bq21 198 om 26) 166 48 ((om : Int) + 1)) 194 f 0) 195 f 1))) rfl (by decide) rfl (by omega) (by omega) (by omega) (ovl_wm (by decide)) ?_
        refine Ev.call (k := 1) (pc1 := 377) (L1 := [Vr 166, Vi (f : Int), Vi (b 193 f), Vi 1, Vi 0]) (S1 := [Vr 166]) (h1 := ((SHv st dr rd), (ovl a s (updC (updC (updC (updC bq21 198 om 26) 166 48 ((om : Int) + 1)) 194 f 0) 195 f 1)))) (m' := 157) (as := [Vr 166]) (S' := []) (L0 := [Vr 166, Vx, Vx, Vx, Vx, Vx]) (fun _ => rfl) rfl rfl rfl rfl rfl rfl (m_nextT (b := (updC (updC (updC (updC bq21 198 om 26) 166 48 ((om : Int) + 1)) 194 f 0) 195 f 1)) (((((jn_tk hk hfrq21).up (by omega)).up (by omega)).up (by omega)).up (by omega))) (fun r h' hq => ?_)
        obtain ⟨rfl, bq22, rfl, hq⟩ := hq
        rcases hq with ⟨pq22, hxq22, hoq22⟩ | ⟨eq22, hxq22, hbq22⟩
        · show Ev X _ _ 380 [Vr 166, Vi (f : Int), Vi (b 193 f), Vi 1, Vi 0] [] ((SHv st dr rd), (ovl a s bq22)) _
          refine Ev.steps (k := 2) (pc' := 382) (L' := [Vr 166, Vi (f : Int), Vi (b 193 f), Vi 1, Vi 0]) (S' := [Vi 0, Vr 166]) (h' := ((SHv st dr rd), (ovl a s bq22))) (fun _ => rfl) ?_
          refine Ev.putz (c' := (ovl a s (updC bq22 166 49 0))) rfl (by decide) rfl rfl rfl (by decide) (ovl_wm (by decide)) ?_
          refine Ev.fin (k := 2) (r := (some (Vi 1))) (h' := ((SHv st dr rd), (ovl a s (updC bq22 166 49 0)))) (fun _ => rfl) ?_
          exact ⟨1, _, rfl, Or.inr rfl, rfl, Or.inl ⟨pq22, hxq22, rfl, (GoM.nx hoq22 (((((jn_kp hfrq21 (by omega) : KpM j c om f b bq21).up (by omega)).up (by omega)).up (by omega)).up (by omega)) (codM_u (codM_u (codM_u (codM_u hcdq21 (by omega)) (by omega)) (by omega)) (by omega)) h38q21 (by rw [updC_nt (by omega), updC_nt (by omega), updC_sm]; first | done | omega) (by rw [updC_nt (by omega), updC_nt (by omega), updC_nt (by omega), updC_sm]) ((hfrq21 166 45 (by omega) (by omega)).trans e45) ((hfrq21 166 46 (by omega) (by omega)).trans e46) (by rw [updC_nt (by omega), updC_sm]) updC_sm)⟩⟩
        · show Ev X _ _ 380 [Vr 166, Vi (f : Int), Vi (b 193 f), Vi 1, Vi 0] [] ((SHv st dr rd), (ovl a s bq22)) _
          refine Ev.steps (k := 2) (pc' := 382) (L' := [Vr 166, Vi (f : Int), Vi (b 193 f), Vi 1, Vi 0]) (S' := [Vi 0, Vr 166]) (h' := ((SHv st dr rd), (ovl a s bq22))) (fun _ => rfl) ?_
          refine Ev.putz (c' := (ovl a s (updC bq22 166 49 0))) rfl (by decide) rfl rfl rfl (by decide) (ovl_wm (by decide)) ?_
          refine Ev.fin (k := 2) (r := (some (Vi 1))) (h' := ((SHv st dr rd), (ovl a s (updC bq22 166 49 0)))) (fun _ => rfl) ?_
          exact ⟨1, _, rfl, Or.inr rfl, rfl, Or.inr ⟨eq22, hxq22, (hbq22.bk (((((jn_kp hfrq21 (by omega) : KpM j c om f b bq21).up (by omega)).up (by omega)).up (by omega)).up (by omega))).up (by omega)⟩⟩
      · omega
    · omega
  · refine Ev.call (k := 2) (pc1 := 32) (L1 := [Vr 166, Vi (f : Int), Vi (b 193 f), Vi 1, Vx]) (S1 := [Vi 43, Vr 166]) (h1 := ((SHv st dr rd), (ovl a s b))) (m' := 174) (as := [Vr 166, Vi 43]) (S' := []) (L0 := [Vr 166, Vi 43]) (fun _ => rfl) rfl rfl rfl rfl rfl rfl (k_isSign (b := b) hk 43 (by decide)) (fun r h' hq => ?_)
    obtain ⟨rfl, rfl⟩ := hq
    rw [if_neg (by omega)]
    show Ev X _ _ 35 [Vr 166, Vi (f : Int), Vi (b 193 f), Vi 1, Vx] [Vi 0] ((SHv st dr rd), (ovl a s b)) _
    refine Ev.call (k := 3) (pc1 := 41) (L1 := [Vr 166, Vi (f : Int), Vi (b 193 f), Vi 1, Vx]) (S1 := [Vi 45, Vr 166]) (h1 := ((SHv st dr rd), (ovl a s b))) (m' := 174) (as := [Vr 166, Vi 45]) (S' := []) (L0 := [Vr 166, Vi 45]) (fun _ => rfl) rfl rfl rfl rfl rfl rfl (k_isSign (b := b) hk 45 (by decide)) (fun r h' hq => ?_)
    obtain ⟨rfl, rfl⟩ := hq
    rw [if_neg (by omega)]
    show Ev X _ _ 44 [Vr 166, Vi (f : Int), Vi (b 193 f), Vi 1, Vx] [Vi 0] ((SHv st dr rd), (ovl a s b)) _
    refine Ev.call (k := 3) (pc1 := 50) (L1 := [Vr 166, Vi (f : Int), Vi (b 193 f), Vi 1, Vx]) (S1 := [Vi 42, Vr 166]) (h1 := ((SHv st dr rd), (ovl a s b))) (m' := 174) (as := [Vr 166, Vi 42]) (S' := []) (L0 := [Vr 166, Vi 42]) (fun _ => rfl) rfl rfl rfl rfl rfl rfl (k_isSign (b := b) hk 42 (by decide)) (fun r h' hq => ?_)
    obtain ⟨rfl, rfl⟩ := hq
    rw [if_neg (by omega)]
    show Ev X _ _ 53 [Vr 166, Vi (f : Int), Vi (b 193 f), Vi 1, Vx] [Vi 0] ((SHv st dr rd), (ovl a s b)) _
    refine Ev.call (k := 3) (pc1 := 59) (L1 := [Vr 166, Vi (f : Int), Vi (b 193 f), Vi 1, Vx]) (S1 := [Vi 47, Vr 166]) (h1 := ((SHv st dr rd), (ovl a s b))) (m' := 174) (as := [Vr 166, Vi 47]) (S' := []) (L0 := [Vr 166, Vi 47]) (fun _ => rfl) rfl rfl rfl rfl rfl rfl (k_isSign (b := b) hk 47 (by decide)) (fun r h' hq => ?_)
    obtain ⟨rfl, rfl⟩ := hq
    rw [if_neg (by omega)]
    show Ev X _ _ 62 [Vr 166, Vi (f : Int), Vi (b 193 f), Vi 1, Vx] [Vi 0] ((SHv st dr rd), (ovl a s b)) _
    refine Ev.call (k := 3) (pc1 := 68) (L1 := [Vr 166, Vi (f : Int), Vi (b 193 f), Vi 1, Vx]) (S1 := [Vi 37, Vr 166]) (h1 := ((SHv st dr rd), (ovl a s b))) (m' := 174) (as := [Vr 166, Vi 37]) (S' := []) (L0 := [Vr 166, Vi 37]) (fun _ => rfl) rfl rfl rfl rfl rfl rfl (k_isSign (b := b) hk 37 (by decide)) (fun r h' hq => ?_)
    obtain ⟨rfl, rfl⟩ := hq
    rw [if_neg (by omega)]
    show Ev X _ _ 71 [Vr 166, Vi (f : Int), Vi (b 193 f), Vi 1, Vx] [Vi 0] ((SHv st dr rd), (ovl a s b)) _
    refine Ev.steps (k := 6) (pc' := 184) (L' := [Vr 166, Vi (f : Int), Vi (b 193 f), Vi 1, Vx]) (S' := [Vi (f : Int), Vr 194]) (h' := ((SHv st dr rd), (ovl a s b))) (fun _ => rfl) ?_
    refine Ev.iald (v := (b 194 f)) rfl (by decide) rfl (by omega) (by omega) (rfl) ?_
    refine Ev.ite (P := (b 194 f) ≠ 0) (k := 1) (a := 272) (b := 188) (L' := [Vr 166, Vi (f : Int), Vi (b 193 f), Vi 1, Vx]) (S' := []) (h' := ((SHv st dr rd), (ovl a s b))) (fun _ => rfl) (fun b185 => ?_) (fun b185 => ?_)
    · refine Ev.call (k := 4) (pc1 := 280) (L1 := [Vr 166, Vi (f : Int), Vi (b 193 f), Vi 1, Vx]) (S1 := [Vl 6385252, Vr 166]) (h1 := ((SHv st dr rd), (ovl a s b))) (m' := 162) (as := [Vr 166, Vl 6385252]) (S' := []) (L0 := [Vr 166, Vl 6385252, Vx]) (fun _ => rfl) rfl rfl rfl rfl rfl rfl (k_isWord (b := b) hk 14 (by decide) 6385252 (by decide)) (fun r h' hq => ?_)
      obtain ⟨rfl, rfl⟩ := hq
      rw [if_neg (by omega)]
      show Ev X _ _ 283 [Vr 166, Vi (f : Int), Vi (b 193 f), Vi 1, Vx] [Vi 0] ((SHv st dr rd), (ovl a s b)) _
      refine Ev.call (k := 3) (pc1 := 290) (L1 := [Vr 166, Vi (f : Int), Vi (b 193 f), Vi 1, Vx]) (S1 := [Vl 28530, Vr 166]) (h1 := ((SHv st dr rd), (ovl a s b))) (m' := 162) (as := [Vr 166, Vl 28530]) (S' := []) (L0 := [Vr 166, Vl 28530, Vx]) (fun _ => rfl) rfl rfl rfl rfl rfl rfl (k_isWord (b := b) hk 13 (by decide) 28530 (by decide)) (fun r h' hq => ?_)
      obtain ⟨rfl, rfl⟩ := hq
      rw [if_pos (by omega)]
      show Ev X _ _ 293 [Vr 166, Vi (f : Int), Vi (b 193 f), Vi 1, Vx] [Vi 1] ((SHv st dr rd), (ovl a s b)) _
      refine Ev.steps (k := 4) (pc' := 301) (L' := [Vr 166, Vi (f : Int), Vi (b 193 f), Vi 1, Vx]) (S' := [Vi (f : Int), Vr 194]) (h' := ((SHv st dr rd), (ovl a s b))) (fun _ => rfl) ?_
      refine Ev.iald (v := (b 194 f)) rfl (by decide) rfl (by omega) (by omega) (rfl) ?_
      refine Ev.ite (P := (b 194 f) ≠ 0) (k := 1) (a := 314) (b := 305) (L' := [Vr 166, Vi (f : Int), Vi (b 193 f), Vi 1, Vx]) (S' := []) (h' := ((SHv st dr rd), (ovl a s b))) (fun _ => rfl) (fun b302 => ?_) (fun b302 => ?_)
      · refine Ev.steps (k := 2) (pc' := 318) (L' := [Vr 166, Vi (f : Int), Vi (b 193 f), Vi 1, Vx]) (S' := [Vi (b 166 8)]) (h' := ((SHv st dr rd), (ovl a s b))) (fun _ => rfl) ?_
        rw [hk.2.1]
        refine Ev.call (k := 3) (pc1 := 327) (L1 := [Vr 166, Vi (f : Int), Vi (b 193 f), Vi 1, Vx]) (S1 := [Vl 6385252, Vr 166]) (h1 := ((SHv st dr rd), (ovl a s b))) (m' := 162) (as := [Vr 166, Vl 6385252]) (S' := []) (L0 := [Vr 166, Vl 6385252, Vx]) (fun _ => rfl) rfl rfl rfl rfl rfl rfl (k_isWord (b := b) hk 14 (by decide) 6385252 (by decide)) (fun r h' hq => ?_)
        obtain ⟨rfl, rfl⟩ := hq
        rw [if_neg (by omega)]
        show Ev X _ _ 330 [Vr 166, Vi (f : Int), Vi (b 193 f), Vi 1, Vx] [Vi 0] ((SHv st dr rd), (ovl a s b)) _
        refine Ev.call (k := 5) (pc1 := 343) (L1 := [Vr 166, Vi (f : Int), Vi (b 193 f), Vi 1, Vi 0]) (S1 := [Vi 1, Vr 166]) (h1 := ((SHv st dr rd), (ovl a s b))) (m' := 179) (as := [Vr 166, Vi 1]) (S' := []) (L0 := [Vr 166, Vi 1]) (fun _ => rfl) rfl rfl rfl rfl rfl rfl (m_joins (b0 := b) hN.1 ⟨by omega, by omega⟩ 1 hbo pd c hN.2.1 e38 e45 e48 ebs hst hrk hlo (by omega) (by omega)) (fun r h' hq => ?_)
        obtain ⟨rfl, bq23, rfl, hcdq23, h38q23, h48q23, hfrq23⟩ := hq
        have hfrq23 : JnF j c pd.length b bq23 := hfrq23
        show Ev X _ _ 346 [Vr 166, Vi (f : Int), Vi (b 193 f), Vi 1, Vi 0] [] ((SHv st dr rd), (ovl a s bq23)) _
        refine Ev.call (k := 4) (pc1 := 359) (L1 := [Vr 166, Vi (f : Int), Vi (b 193 f), Vi 1, Vi 0]) (S1 := [Vi 26, Vr 166]) (h1 := ((SHv st dr rd), (ovl a s bq23))) (m' := 173) (as := [Vr 166, Vi 26]) (S' := []) (L0 := [Vr 166, Vi 26]) (fun _ => rfl) rfl rfl rfl rfl rfl rfl (m_holdsBack (b := bq23) h48q23 (by omega) 26) (fun r h' hq => ?_)
        obtain ⟨rfl, rfl⟩ := hq
        show Ev X _ _ 362 [Vr 166, Vi (f : Int), Vi (b 193 f), Vi 1, Vi 0] [] ((SHv st dr rd), (ovl a s (updC (updC bq23 198 om 26) 166 48 ((om : Int) + 1)))) _
        refine Ev.steps (k := 4) (pc' := 368) (L' := [Vr 166, Vi (f : Int), Vi (b 193 f), Vi 1, Vi 0]) (S' := [Vi 0, Vi (f : Int), Vr 194]) (h' := ((SHv st dr rd), (ovl a s (updC (updC bq23 198 om 26) 166 48 ((om : Int) + 1))))) (fun _ => rfl) ?_
        refine Ev.iast (c' := (ovl a s (updC (updC (updC bq23 198 om 26) 166 48 ((om : Int) + 1)) 194 f 0))) rfl (by decide) rfl (by omega) (by omega) (ovl_wm (by decide)) ?_
        refine Ev.steps (k := 4) (pc' := 375) (L' := [Vr 166, Vi (f : Int), Vi (b 193 f), Vi 1, Vi 0]) (S' := [Vi 1, Vi (f : Int), Vr 195]) (h' := ((SHv st dr rd), (ovl a s (updC (updC (updC bq23 198 om 26) 166 48 ((om : Int) + 1)) 194 f 0)))) (fun _ => rfl) ?_
        refine Ev.zast (c' := (ovl a s (updC (updC (updC (updC bq23 198 om 26) 166 48 ((om : Int) + 1)) 194 f 0) 195 f 1))) rfl (by decide) rfl (by omega) (by omega) (by omega) (ovl_wm (by decide)) ?_
        refine Ev.call (k := 1) (pc1 := 377) (L1 := [Vr 166, Vi (f : Int), Vi (b 193 f), Vi 1, Vi 0]) (S1 := [Vr 166]) (h1 := ((SHv st dr rd), (ovl a s (updC (updC (updC (updC bq23 198 om 26) 166 48 ((om : Int) + 1)) 194 f 0) 195 f 1)))) (m' := 157) (as := [Vr 166]) (S' := []) (L0 := [Vr 166, Vx, Vx, Vx, Vx, Vx]) (fun _ => rfl) rfl rfl rfl rfl rfl rfl (m_nextT (b := (updC (updC (updC (updC bq23 198 om 26) 166 48 ((om : Int) + 1)) 194 f 0) 195 f 1)) (((((jn_tk hk hfrq23).up (by omega)).up (by omega)).up (by omega)).up (by omega))) (fun r h' hq => ?_)
        obtain ⟨rfl, bq24, rfl, hq⟩ := hq
        rcases hq with ⟨pq24, hxq24, hoq24⟩ | ⟨eq24, hxq24, hbq24⟩
        · show Ev X _ _ 380 [Vr 166, Vi (f : Int), Vi (b 193 f), Vi 1, Vi 0] [] ((SHv st dr rd), (ovl a s bq24)) _
          refine Ev.steps (k := 2) (pc' := 382) (L' := [Vr 166, Vi (f : Int), Vi (b 193 f), Vi 1, Vi 0]) (S' := [Vi 0, Vr 166]) (h' := ((SHv st dr rd), (ovl a s bq24))) (fun _ => rfl) ?_
          refine Ev.putz (c' := (ovl a s (updC bq24 166 49 0))) rfl (by decide) rfl rfl rfl (by decide) (ovl_wm (by decide)) ?_
          refine Ev.fin (k := 2) (r := (some (Vi 1))) (h' := ((SHv st dr rd), (ovl a s (updC bq24 166 49 0)))) (fun _ => rfl) ?_
          exact ⟨1, _, rfl, Or.inr rfl, rfl, Or.inl ⟨pq24, hxq24, rfl, (GoM.nx hoq24 (((((jn_kp hfrq23 (by omega) : KpM j c om f b bq23).up (by omega)).up (by omega)).up (by omega)).up (by omega)) (codM_u (codM_u (codM_u (codM_u hcdq23 (by omega)) (by omega)) (by omega)) (by omega)) h38q23 (by rw [updC_nt (by omega), updC_nt (by omega), updC_sm]; first | done | omega) (by rw [updC_nt (by omega), updC_nt (by omega), updC_nt (by omega), updC_sm]) ((hfrq23 166 45 (by omega) (by omega)).trans e45) ((hfrq23 166 46 (by omega) (by omega)).trans e46) (by rw [updC_nt (by omega), updC_sm]) updC_sm)⟩⟩
        · show Ev X _ _ 380 [Vr 166, Vi (f : Int), Vi (b 193 f), Vi 1, Vi 0] [] ((SHv st dr rd), (ovl a s bq24)) _
          refine Ev.steps (k := 2) (pc' := 382) (L' := [Vr 166, Vi (f : Int), Vi (b 193 f), Vi 1, Vi 0]) (S' := [Vi 0, Vr 166]) (h' := ((SHv st dr rd), (ovl a s bq24))) (fun _ => rfl) ?_
          refine Ev.putz (c' := (ovl a s (updC bq24 166 49 0))) rfl (by decide) rfl rfl rfl (by decide) (ovl_wm (by decide)) ?_
          refine Ev.fin (k := 2) (r := (some (Vi 1))) (h' := ((SHv st dr rd), (ovl a s (updC bq24 166 49 0)))) (fun _ => rfl) ?_
          exact ⟨1, _, rfl, Or.inr rfl, rfl, Or.inr ⟨eq24, hxq24, (hbq24.bk (((((jn_kp hfrq23 (by omega) : KpM j c om f b bq23).up (by omega)).up (by omega)).up (by omega)).up (by omega))).up (by omega)⟩⟩
      · omega
    · omega
theorem m_go_w1 {X : List Int} {d : Nat} {st dr rd : Int} {a s b : C3} {W : TXT} {p : Nat} (hk : TkM W p b) {N : SC} {j : Nat} (hN : NmM N b j) {c om f bs : Nat} {pd : List Nat} (e38 : b 166 38 = (c : Int)) (e48 : b 166 48 = ((om + pd.length : Nat) : Int)) (e45 : b 166 45 = ((f + 1 : Nat) : Int)) (e46 : b 166 46 = (f : Int)) (hf : f ≤ 8) (ebs : b 197 f = (bs : Int)) (hbo : bs ≤ om) (hst : stkM (b 198) om pd) (hc : c + pd.length ≤ 1200) (ho : om + pd.length < 500)  (h193 : b 193 f = 1) (hph : b 194 f = 0) (hct : opA (tC W p) = 0 ∧ opM (tC W p) = 0 ∧ opC (tC W p) = 0) (hcs : tC W p ≠ 43 ∧ tC W p ≠ 45 ∧ tC W p ≠ 42 ∧ tC W p ≠ 47 ∧ tC W p ≠ 37 ∧ tC W p ≠ 60 ∧ tC W p ≠ 62 ∧ tC W p ≠ 61) : Ev X (d + 2) 178 0 [Vr 166, Vx, Vx, Vx, Vx] [] (SHv st dr rd, ovl a s b) (fun rr hh => ∃ (v : Int) (b' : C3), rr = some (Vi v) ∧ (v = 0 ∨ v = 1) ∧ hh = (SHv st dr rd, ovl a s b') ∧ BkM W j c b (fltT W 1 p) b') := by
  refine Ev.steps (k := 2) (pc' := 4) (L' := [Vr 166, Vx, Vx, Vx, Vx]) (S' := [Vi (b 166 45)]) (h' := ((SHv st dr rd), (ovl a s b))) (fun _ => rfl) ?_
  rw [e45]
  refine Ev.steps (k := 2) (pc' := 6) (L' := [Vr 166, Vx, Vx, Vx, Vx]) (S' := [Vi (w32 (((f + 1 : Nat) : Int) - 1))]) (h' := ((SHv st dr rd), (ovl a s b))) (fun _ => rfl) ?_
  rw [show (w32 (((f + 1 : Nat) : Int) - 1)) = (f : Int) from (by unfold w32; omega)]
  refine Ev.steps (k := 4) (pc' := 12) (L' := [Vr 166, Vi (f : Int), Vx, Vx, Vx]) (S' := [Vi (f : Int), Vr 193]) (h' := ((SHv st dr rd), (ovl a s b))) (fun _ => rfl) ?_
  refine Ev.iald (v := 1) rfl (by decide) rfl (by omega) (by omega) (h193) ?_
  refine Ev.call (k := 2) (pc1 := 15) (L1 := [Vr 166, Vi (f : Int), Vi 1, Vx, Vx]) (S1 := [Vi 1]) (h1 := ((SHv st dr rd), (ovl a s b))) (m' := 172) (as := [Vi 1]) (S' := []) (L0 := [Vi 1]) (fun _ => rfl) rfl rfl rfl rfl rfl rfl (m_isTest (b := b) 1) (fun r h' hq => ?_)
  obtain ⟨rfl, rfl⟩ := hq
  rw [if_pos (by omega)]
  show Ev X _ _ 18 [Vr 166, Vi (f : Int), Vi 1, Vx, Vx] [Vi 1] ((SHv st dr rd), (ovl a s b)) _
  refine Ev.steps (k := 4) (pc' := 24) (L' := [Vr 166, Vi (f : Int), Vi 1, Vi 1, Vx]) (S' := [Vi (f : Int), Vr 194]) (h' := ((SHv st dr rd), (ovl a s b))) (fun _ => rfl) ?_
  refine Ev.iald (v := 0) rfl (by decide) rfl (by omega) (by omega) (hph) ?_
  refine Ev.call (k := 4) (pc1 := 32) (L1 := [Vr 166, Vi (f : Int), Vi 1, Vi 1, Vx]) (S1 := [Vi 43, Vr 166]) (h1 := ((SHv st dr rd), (ovl a s b))) (m' := 174) (as := [Vr 166, Vi 43]) (S' := []) (L0 := [Vr 166, Vi 43]) (fun _ => rfl) rfl rfl rfl rfl rfl rfl (k_isSign (b := b) hk 43 (by decide)) (fun r h' hq => ?_)
  obtain ⟨rfl, rfl⟩ := hq
  rw [if_neg (by omega)]
  show Ev X _ _ 35 [Vr 166, Vi (f : Int), Vi 1, Vi 1, Vx] [Vi 0] ((SHv st dr rd), (ovl a s b)) _
  refine Ev.call (k := 3) (pc1 := 41) (L1 := [Vr 166, Vi (f : Int), Vi 1, Vi 1, Vx]) (S1 := [Vi 45, Vr 166]) (h1 := ((SHv st dr rd), (ovl a s b))) (m' := 174) (as := [Vr 166, Vi 45]) (S' := []) (L0 := [Vr 166, Vi 45]) (fun _ => rfl) rfl rfl rfl rfl rfl rfl (k_isSign (b := b) hk 45 (by decide)) (fun r h' hq => ?_)
  obtain ⟨rfl, rfl⟩ := hq
  rw [if_neg (by omega)]
  show Ev X _ _ 44 [Vr 166, Vi (f : Int), Vi 1, Vi 1, Vx] [Vi 0] ((SHv st dr rd), (ovl a s b)) _
  refine Ev.call (k := 3) (pc1 := 50) (L1 := [Vr 166, Vi (f : Int), Vi 1, Vi 1, Vx]) (S1 := [Vi 42, Vr 166]) (h1 := ((SHv st dr rd), (ovl a s b))) (m' := 174) (as := [Vr 166, Vi 42]) (S' := []) (L0 := [Vr 166, Vi 42]) (fun _ => rfl) rfl rfl rfl rfl rfl rfl (k_isSign (b := b) hk 42 (by decide)) (fun r h' hq => ?_)
  obtain ⟨rfl, rfl⟩ := hq
  rw [if_neg (by omega)]
  show Ev X _ _ 53 [Vr 166, Vi (f : Int), Vi 1, Vi 1, Vx] [Vi 0] ((SHv st dr rd), (ovl a s b)) _
  refine Ev.call (k := 3) (pc1 := 59) (L1 := [Vr 166, Vi (f : Int), Vi 1, Vi 1, Vx]) (S1 := [Vi 47, Vr 166]) (h1 := ((SHv st dr rd), (ovl a s b))) (m' := 174) (as := [Vr 166, Vi 47]) (S' := []) (L0 := [Vr 166, Vi 47]) (fun _ => rfl) rfl rfl rfl rfl rfl rfl (k_isSign (b := b) hk 47 (by decide)) (fun r h' hq => ?_)
  obtain ⟨rfl, rfl⟩ := hq
  rw [if_neg (by omega)]
  show Ev X _ _ 62 [Vr 166, Vi (f : Int), Vi 1, Vi 1, Vx] [Vi 0] ((SHv st dr rd), (ovl a s b)) _
  refine Ev.call (k := 3) (pc1 := 68) (L1 := [Vr 166, Vi (f : Int), Vi 1, Vi 1, Vx]) (S1 := [Vi 37, Vr 166]) (h1 := ((SHv st dr rd), (ovl a s b))) (m' := 174) (as := [Vr 166, Vi 37]) (S' := []) (L0 := [Vr 166, Vi 37]) (fun _ => rfl) rfl rfl rfl rfl rfl rfl (k_isSign (b := b) hk 37 (by decide)) (fun r h' hq => ?_)
  obtain ⟨rfl, rfl⟩ := hq
  rw [if_neg (by omega)]
  show Ev X _ _ 71 [Vr 166, Vi (f : Int), Vi 1, Vi 1, Vx] [Vi 0] ((SHv st dr rd), (ovl a s b)) _
  refine Ev.steps (k := 6) (pc' := 184) (L' := [Vr 166, Vi (f : Int), Vi 1, Vi 1, Vx]) (S' := [Vi (f : Int), Vr 194]) (h' := ((SHv st dr rd), (ovl a s b))) (fun _ => rfl) ?_
  refine Ev.iald (v := 0) rfl (by decide) rfl (by omega) (by omega) (hph) ?_
  refine Ev.call (k := 3) (pc1 := 191) (L1 := [Vr 166, Vi (f : Int), Vi 1, Vi 1, Vx]) (S1 := [Vi 60, Vr 166]) (h1 := ((SHv st dr rd), (ovl a s b))) (m' := 174) (as := [Vr 166, Vi 60]) (S' := []) (L0 := [Vr 166, Vi 60]) (fun _ => rfl) rfl rfl rfl rfl rfl rfl (k_isSign (b := b) hk 60 (by decide)) (fun r h' hq => ?_)
  obtain ⟨rfl, rfl⟩ := hq
  rw [if_neg (by omega)]
  show Ev X _ _ 194 [Vr 166, Vi (f : Int), Vi 1, Vi 1, Vx] [Vi 0] ((SHv st dr rd), (ovl a s b)) _
  refine Ev.call (k := 3) (pc1 := 200) (L1 := [Vr 166, Vi (f : Int), Vi 1, Vi 1, Vx]) (S1 := [Vi 62, Vr 166]) (h1 := ((SHv st dr rd), (ovl a s b))) (m' := 174) (as := [Vr 166, Vi 62]) (S' := []) (L0 := [Vr 166, Vi 62]) (fun _ => rfl) rfl rfl rfl rfl rfl rfl (k_isSign (b := b) hk 62 (by decide)) (fun r h' hq => ?_)
  obtain ⟨rfl, rfl⟩ := hq
  rw [if_neg (by omega)]
  show Ev X _ _ 203 [Vr 166, Vi (f : Int), Vi 1, Vi 1, Vx] [Vi 0] ((SHv st dr rd), (ovl a s b)) _
  refine Ev.call (k := 3) (pc1 := 209) (L1 := [Vr 166, Vi (f : Int), Vi 1, Vi 1, Vx]) (S1 := [Vi 61, Vr 166]) (h1 := ((SHv st dr rd), (ovl a s b))) (m' := 174) (as := [Vr 166, Vi 61]) (S' := []) (L0 := [Vr 166, Vi 61]) (fun _ => rfl) rfl rfl rfl rfl rfl rfl (k_isSign (b := b) hk 61 (by decide)) (fun r h' hq => ?_)
  obtain ⟨rfl, rfl⟩ := hq
  rw [if_neg (by omega)]
  show Ev X _ _ 212 [Vr 166, Vi (f : Int), Vi 1, Vi 1, Vx] [Vi 0] ((SHv st dr rd), (ovl a s b)) _
  refine Ev.call (k := 5) (pc1 := 280) (L1 := [Vr 166, Vi (f : Int), Vi 1, Vi 1, Vx]) (S1 := [Vl 6385252, Vr 166]) (h1 := ((SHv st dr rd), (ovl a s b))) (m' := 162) (as := [Vr 166, Vl 6385252]) (S' := []) (L0 := [Vr 166, Vl 6385252, Vx]) (fun _ => rfl) rfl rfl rfl rfl rfl rfl (k_isWord (b := b) hk 14 (by decide) 6385252 (by decide)) (fun r h' hq => ?_)
  obtain ⟨rfl, rfl⟩ := hq
  by_cases c280 : tC W p = 256 + 14
  · rw [if_pos c280]
    show Ev X _ _ 283 [Vr 166, Vi (f : Int), Vi 1, Vi 1, Vx] [Vi 1] ((SHv st dr rd), (ovl a s b)) _
    refine Ev.steps (k := 4) (pc' := 301) (L' := [Vr 166, Vi (f : Int), Vi 1, Vi 1, Vx]) (S' := [Vi (f : Int), Vr 194]) (h' := ((SHv st dr rd), (ovl a s b))) (fun _ => rfl) ?_
    refine Ev.iald (v := 0) rfl (by decide) rfl (by omega) (by omega) (hph) ?_
    refine Ev.steps (k := 5) (pc' := 311) (L' := [Vr 166, Vi (f : Int), Vi 1, Vi 1, Vx]) (S' := [Vi (b 166 4), Vi 1, Vr 166]) (h' := ((SHv st dr rd), (ovl a s b))) (fun _ => rfl) ?_
    rw [hk.2.2.2.2.1]
    refine Ev.call (k := 0) (pc1 := 311) (L1 := [Vr 166, Vi (f : Int), Vi 1, Vi 1, Vx]) (S1 := [Vi ((tA W p : Nat) : Int), Vi 1, Vr 166]) (h1 := ((SHv st dr rd), (ovl a s b))) (m' := 160) (as := [Vr 166, Vi 1, Vi ((tA W p : Nat) : Int)]) (S' := []) (L0 := [Vr 166, Vi 1, Vi ((tA W p : Nat) : Int)]) (fun _ => rfl) rfl rfl rfl rfl rfl rfl (m_bl (b := b) hk 1 (by decide)) (fun r h' hq => ?_)
    obtain ⟨rfl, bq25, rfl, hbq25⟩ := hq
    show Ev X _ _ 314 [Vr 166, Vi (f : Int), Vi 1, Vi 1, Vx] [] ((SHv st dr rd), (ovl a s bq25)) _
    refine Ev.steps (k := 2) (pc' := 318) (L' := [Vr 166, Vi (f : Int), Vi 1, Vi 1, Vx]) (S' := [Vi (bq25 166 8)]) (h' := ((SHv st dr rd), (ovl a s bq25))) (fun _ => rfl) ?_
    rw [hbq25.2.2.2.1]
    refine Ev.ite (P := (fltT W 1 p).1 ≤ 0) (k := 1) (a := 323) (b := 321) (L' := [Vr 166, Vi (f : Int), Vi 1, Vi 1, Vx]) (S' := []) (h' := ((SHv st dr rd), (ovl a s bq25))) (fun _ => rfl) (fun b318 => ?_) (fun b318 => ?_)
    · have := hbq25.2.2.1; omega
    · refine Ev.fin (k := 2) (r := (some (Vi 0))) (h' := ((SHv st dr rd), (ovl a s bq25))) (fun _ => rfl) ?_
      exact ⟨0, _, rfl, Or.inl rfl, rfl, (hbq25.bk (KpM.rf : KpM j c om f b b))⟩
  · rw [if_neg c280]
    show Ev X _ _ 283 [Vr 166, Vi (f : Int), Vi 1, Vi 1, Vx] [Vi 0] ((SHv st dr rd), (ovl a s b)) _
    refine Ev.call (k := 3) (pc1 := 290) (L1 := [Vr 166, Vi (f : Int), Vi 1, Vi 1, Vx]) (S1 := [Vl 28530, Vr 166]) (h1 := ((SHv st dr rd), (ovl a s b))) (m' := 162) (as := [Vr 166, Vl 28530]) (S' := []) (L0 := [Vr 166, Vl 28530, Vx]) (fun _ => rfl) rfl rfl rfl rfl rfl rfl (k_isWord (b := b) hk 13 (by decide) 28530 (by decide)) (fun r h' hq => ?_)
    obtain ⟨rfl, rfl⟩ := hq
    by_cases c290 : tC W p = 256 + 13
    · rw [if_pos c290]
      show Ev X _ _ 293 [Vr 166, Vi (f : Int), Vi 1, Vi 1, Vx] [Vi 1] ((SHv st dr rd), (ovl a s b)) _
      refine Ev.steps (k := 4) (pc' := 301) (L' := [Vr 166, Vi (f : Int), Vi 1, Vi 1, Vx]) (S' := [Vi (f : Int), Vr 194]) (h' := ((SHv st dr rd), (ovl a s b))) (fun _ => rfl) ?_
      refine Ev.iald (v := 0) rfl (by decide) rfl (by omega) (by omega) (hph) ?_
      refine Ev.steps (k := 5) (pc' := 311) (L' := [Vr 166, Vi (f : Int), Vi 1, Vi 1, Vx]) (S' := [Vi (b 166 4), Vi 1, Vr 166]) (h' := ((SHv st dr rd), (ovl a s b))) (fun _ => rfl) ?_
      rw [hk.2.2.2.2.1]
      refine Ev.call (k := 0) (pc1 := 311) (L1 := [Vr 166, Vi (f : Int), Vi 1, Vi 1, Vx]) (S1 := [Vi ((tA W p : Nat) : Int), Vi 1, Vr 166]) (h1 := ((SHv st dr rd), (ovl a s b))) (m' := 160) (as := [Vr 166, Vi 1, Vi ((tA W p : Nat) : Int)]) (S' := []) (L0 := [Vr 166, Vi 1, Vi ((tA W p : Nat) : Int)]) (fun _ => rfl) rfl rfl rfl rfl rfl rfl (m_bl (b := b) hk 1 (by decide)) (fun r h' hq => ?_)
      obtain ⟨rfl, bq26, rfl, hbq26⟩ := hq
      show Ev X _ _ 314 [Vr 166, Vi (f : Int), Vi 1, Vi 1, Vx] [] ((SHv st dr rd), (ovl a s bq26)) _
      refine Ev.steps (k := 2) (pc' := 318) (L' := [Vr 166, Vi (f : Int), Vi 1, Vi 1, Vx]) (S' := [Vi (bq26 166 8)]) (h' := ((SHv st dr rd), (ovl a s bq26))) (fun _ => rfl) ?_
      rw [hbq26.2.2.2.1]
      refine Ev.ite (P := (fltT W 1 p).1 ≤ 0) (k := 1) (a := 323) (b := 321) (L' := [Vr 166, Vi (f : Int), Vi 1, Vi 1, Vx]) (S' := []) (h' := ((SHv st dr rd), (ovl a s bq26))) (fun _ => rfl) (fun b318 => ?_) (fun b318 => ?_)
      · have := hbq26.2.2.1; omega
      · refine Ev.fin (k := 2) (r := (some (Vi 0))) (h' := ((SHv st dr rd), (ovl a s bq26))) (fun _ => rfl) ?_
        exact ⟨0, _, rfl, Or.inl rfl, rfl, (hbq26.bk (KpM.rf : KpM j c om f b b))⟩
    · rw [if_neg c290]
      show Ev X _ _ 293 [Vr 166, Vi (f : Int), Vi 1, Vi 1, Vx] [Vi 0] ((SHv st dr rd), (ovl a s b)) _
      refine Ev.steps (k := 6) (pc' := 396) (L' := [Vr 166, Vi (f : Int), Vi 1, Vi 1, Vx]) (S' := [Vi (f : Int), Vr 194]) (h' := ((SHv st dr rd), (ovl a s b))) (fun _ => rfl) ?_
      refine Ev.iald (v := 0) rfl (by decide) rfl (by omega) (by omega) (hph) ?_
      refine Ev.steps (k := 5) (pc' := 406) (L' := [Vr 166, Vi (f : Int), Vi 1, Vi 1, Vx]) (S' := [Vi (b 166 4), Vi 1, Vr 166]) (h' := ((SHv st dr rd), (ovl a s b))) (fun _ => rfl) ?_
      rw [hk.2.2.2.2.1]
      refine Ev.call (k := 0) (pc1 := 406) (L1 := [Vr 166, Vi (f : Int), Vi 1, Vi 1, Vx]) (S1 := [Vi ((tA W p : Nat) : Int), Vi 1, Vr 166]) (h1 := ((SHv st dr rd), (ovl a s b))) (m' := 160) (as := [Vr 166, Vi 1, Vi ((tA W p : Nat) : Int)]) (S' := []) (L0 := [Vr 166, Vi 1, Vi ((tA W p : Nat) : Int)]) (fun _ => rfl) rfl rfl rfl rfl rfl rfl (m_bl (b := b) hk 1 (by decide)) (fun r h' hq => ?_)
      obtain ⟨rfl, bq27, rfl, hbq27⟩ := hq
      show Ev X _ _ 409 [Vr 166, Vi (f : Int), Vi 1, Vi 1, Vx] [] ((SHv st dr rd), (ovl a s bq27)) _
      refine Ev.steps (k := 5) (pc' := 418) (L' := [Vr 166, Vi (f : Int), Vi 1, Vi 1, Vx]) (S' := [Vi (bq27 166 8)]) (h' := ((SHv st dr rd), (ovl a s bq27))) (fun _ => rfl) ?_
      rw [hbq27.2.2.2.1]
      refine Ev.ite (P := (fltT W 1 p).1 ≠ 0) (k := 1) (a := 426) (b := 421) (L' := [Vr 166, Vi (f : Int), Vi 1, Vi 1, Vx]) (S' := []) (h' := ((SHv st dr rd), (ovl a s bq27))) (fun _ => rfl) (fun b418 => ?_) (fun b418 => ?_)
      · refine Ev.fin (k := 2) (r := (some (Vi 0))) (h' := ((SHv st dr rd), (ovl a s bq27))) (fun _ => rfl) ?_
        exact ⟨0, _, rfl, Or.inl rfl, rfl, (hbq27.bk (KpM.rf : KpM j c om f b b))⟩
      · have := hbq27.2.2.1; omega
theorem m_go_w5 {X : List Int} {d : Nat} {st dr rd : Int} {a s b : C3} {W : TXT} {p : Nat} (hk : TkM W p b) {N : SC} {j : Nat} (hN : NmM N b j) {c om f bs : Nat} {pd : List Nat} (e38 : b 166 38 = (c : Int)) (e48 : b 166 48 = ((om + pd.length : Nat) : Int)) (e45 : b 166 45 = ((f + 1 : Nat) : Int)) (e46 : b 166 46 = (f : Int)) (hf : f ≤ 8) (ebs : b 197 f = (bs : Int)) (hbo : bs ≤ om) (hst : stkM (b 198) om pd) (hc : c + pd.length ≤ 1200) (ho : om + pd.length < 500)  (h193 : b 193 f = 5) (hph : b 194 f = 0) (hct : opA (tC W p) = 0 ∧ opM (tC W p) = 0 ∧ opC (tC W p) = 0) (hcs : tC W p ≠ 43 ∧ tC W p ≠ 45 ∧ tC W p ≠ 42 ∧ tC W p ≠ 47 ∧ tC W p ≠ 37 ∧ tC W p ≠ 60 ∧ tC W p ≠ 62 ∧ tC W p ≠ 61) : Ev X (d + 2) 178 0 [Vr 166, Vx, Vx, Vx, Vx] [] (SHv st dr rd, ovl a s b) (fun rr hh => ∃ (v : Int) (b' : C3), rr = some (Vi v) ∧ (v = 0 ∨ v = 1) ∧ hh = (SHv st dr rd, ovl a s b') ∧ BkM W j c b (fltT W 1 p) b') := by
  refine Ev.steps (k := 2) (pc' := 4) (L' := [Vr 166, Vx, Vx, Vx, Vx]) (S' := [Vi (b 166 45)]) (h' := ((SHv st dr rd), (ovl a s b))) (fun _ => rfl) ?_
  rw [e45]
  refine Ev.steps (k := 2) (pc' := 6) (L' := [Vr 166, Vx, Vx, Vx, Vx]) (S' := [Vi (w32 (((f + 1 : Nat) : Int) - 1))]) (h' := ((SHv st dr rd), (ovl a s b))) (fun _ => rfl) ?_
  rw [show (w32 (((f + 1 : Nat) : Int) - 1)) = (f : Int) from (by unfold w32; omega)]
  refine Ev.steps (k := 4) (pc' := 12) (L' := [Vr 166, Vi (f : Int), Vx, Vx, Vx]) (S' := [Vi (f : Int), Vr 193]) (h' := ((SHv st dr rd), (ovl a s b))) (fun _ => rfl) ?_
  refine Ev.iald (v := 5) rfl (by decide) rfl (by omega) (by omega) (h193) ?_
  refine Ev.call (k := 2) (pc1 := 15) (L1 := [Vr 166, Vi (f : Int), Vi 5, Vx, Vx]) (S1 := [Vi 5]) (h1 := ((SHv st dr rd), (ovl a s b))) (m' := 172) (as := [Vi 5]) (S' := []) (L0 := [Vi 5]) (fun _ => rfl) rfl rfl rfl rfl rfl rfl (m_isTest (b := b) 5) (fun r h' hq => ?_)
  obtain ⟨rfl, rfl⟩ := hq
  rw [if_pos (by omega)]
  show Ev X _ _ 18 [Vr 166, Vi (f : Int), Vi 5, Vx, Vx] [Vi 1] ((SHv st dr rd), (ovl a s b)) _
  refine Ev.steps (k := 4) (pc' := 24) (L' := [Vr 166, Vi (f : Int), Vi 5, Vi 1, Vx]) (S' := [Vi (f : Int), Vr 194]) (h' := ((SHv st dr rd), (ovl a s b))) (fun _ => rfl) ?_
  refine Ev.iald (v := 0) rfl (by decide) rfl (by omega) (by omega) (hph) ?_
  refine Ev.call (k := 4) (pc1 := 32) (L1 := [Vr 166, Vi (f : Int), Vi 5, Vi 1, Vx]) (S1 := [Vi 43, Vr 166]) (h1 := ((SHv st dr rd), (ovl a s b))) (m' := 174) (as := [Vr 166, Vi 43]) (S' := []) (L0 := [Vr 166, Vi 43]) (fun _ => rfl) rfl rfl rfl rfl rfl rfl (k_isSign (b := b) hk 43 (by decide)) (fun r h' hq => ?_)
  obtain ⟨rfl, rfl⟩ := hq
  rw [if_neg (by omega)]
  show Ev X _ _ 35 [Vr 166, Vi (f : Int), Vi 5, Vi 1, Vx] [Vi 0] ((SHv st dr rd), (ovl a s b)) _
  refine Ev.call (k := 3) (pc1 := 41) (L1 := [Vr 166, Vi (f : Int), Vi 5, Vi 1, Vx]) (S1 := [Vi 45, Vr 166]) (h1 := ((SHv st dr rd), (ovl a s b))) (m' := 174) (as := [Vr 166, Vi 45]) (S' := []) (L0 := [Vr 166, Vi 45]) (fun _ => rfl) rfl rfl rfl rfl rfl rfl (k_isSign (b := b) hk 45 (by decide)) (fun r h' hq => ?_)
  obtain ⟨rfl, rfl⟩ := hq
  rw [if_neg (by omega)]
  show Ev X _ _ 44 [Vr 166, Vi (f : Int), Vi 5, Vi 1, Vx] [Vi 0] ((SHv st dr rd), (ovl a s b)) _
  refine Ev.call (k := 3) (pc1 := 50) (L1 := [Vr 166, Vi (f : Int), Vi 5, Vi 1, Vx]) (S1 := [Vi 42, Vr 166]) (h1 := ((SHv st dr rd), (ovl a s b))) (m' := 174) (as := [Vr 166, Vi 42]) (S' := []) (L0 := [Vr 166, Vi 42]) (fun _ => rfl) rfl rfl rfl rfl rfl rfl (k_isSign (b := b) hk 42 (by decide)) (fun r h' hq => ?_)
  obtain ⟨rfl, rfl⟩ := hq
  rw [if_neg (by omega)]
  show Ev X _ _ 53 [Vr 166, Vi (f : Int), Vi 5, Vi 1, Vx] [Vi 0] ((SHv st dr rd), (ovl a s b)) _
  refine Ev.call (k := 3) (pc1 := 59) (L1 := [Vr 166, Vi (f : Int), Vi 5, Vi 1, Vx]) (S1 := [Vi 47, Vr 166]) (h1 := ((SHv st dr rd), (ovl a s b))) (m' := 174) (as := [Vr 166, Vi 47]) (S' := []) (L0 := [Vr 166, Vi 47]) (fun _ => rfl) rfl rfl rfl rfl rfl rfl (k_isSign (b := b) hk 47 (by decide)) (fun r h' hq => ?_)
  obtain ⟨rfl, rfl⟩ := hq
  rw [if_neg (by omega)]
  show Ev X _ _ 62 [Vr 166, Vi (f : Int), Vi 5, Vi 1, Vx] [Vi 0] ((SHv st dr rd), (ovl a s b)) _
  refine Ev.call (k := 3) (pc1 := 68) (L1 := [Vr 166, Vi (f : Int), Vi 5, Vi 1, Vx]) (S1 := [Vi 37, Vr 166]) (h1 := ((SHv st dr rd), (ovl a s b))) (m' := 174) (as := [Vr 166, Vi 37]) (S' := []) (L0 := [Vr 166, Vi 37]) (fun _ => rfl) rfl rfl rfl rfl rfl rfl (k_isSign (b := b) hk 37 (by decide)) (fun r h' hq => ?_)
  obtain ⟨rfl, rfl⟩ := hq
  rw [if_neg (by omega)]
  show Ev X _ _ 71 [Vr 166, Vi (f : Int), Vi 5, Vi 1, Vx] [Vi 0] ((SHv st dr rd), (ovl a s b)) _
  refine Ev.steps (k := 6) (pc' := 184) (L' := [Vr 166, Vi (f : Int), Vi 5, Vi 1, Vx]) (S' := [Vi (f : Int), Vr 194]) (h' := ((SHv st dr rd), (ovl a s b))) (fun _ => rfl) ?_
  refine Ev.iald (v := 0) rfl (by decide) rfl (by omega) (by omega) (hph) ?_
  refine Ev.call (k := 3) (pc1 := 191) (L1 := [Vr 166, Vi (f : Int), Vi 5, Vi 1, Vx]) (S1 := [Vi 60, Vr 166]) (h1 := ((SHv st dr rd), (ovl a s b))) (m' := 174) (as := [Vr 166, Vi 60]) (S' := []) (L0 := [Vr 166, Vi 60]) (fun _ => rfl) rfl rfl rfl rfl rfl rfl (k_isSign (b := b) hk 60 (by decide)) (fun r h' hq => ?_)
  obtain ⟨rfl, rfl⟩ := hq
  rw [if_neg (by omega)]
  show Ev X _ _ 194 [Vr 166, Vi (f : Int), Vi 5, Vi 1, Vx] [Vi 0] ((SHv st dr rd), (ovl a s b)) _
  refine Ev.call (k := 3) (pc1 := 200) (L1 := [Vr 166, Vi (f : Int), Vi 5, Vi 1, Vx]) (S1 := [Vi 62, Vr 166]) (h1 := ((SHv st dr rd), (ovl a s b))) (m' := 174) (as := [Vr 166, Vi 62]) (S' := []) (L0 := [Vr 166, Vi 62]) (fun _ => rfl) rfl rfl rfl rfl rfl rfl (k_isSign (b := b) hk 62 (by decide)) (fun r h' hq => ?_)
  obtain ⟨rfl, rfl⟩ := hq
  rw [if_neg (by omega)]
  show Ev X _ _ 203 [Vr 166, Vi (f : Int), Vi 5, Vi 1, Vx] [Vi 0] ((SHv st dr rd), (ovl a s b)) _
  refine Ev.call (k := 3) (pc1 := 209) (L1 := [Vr 166, Vi (f : Int), Vi 5, Vi 1, Vx]) (S1 := [Vi 61, Vr 166]) (h1 := ((SHv st dr rd), (ovl a s b))) (m' := 174) (as := [Vr 166, Vi 61]) (S' := []) (L0 := [Vr 166, Vi 61]) (fun _ => rfl) rfl rfl rfl rfl rfl rfl (k_isSign (b := b) hk 61 (by decide)) (fun r h' hq => ?_)
  obtain ⟨rfl, rfl⟩ := hq
  rw [if_neg (by omega)]
  show Ev X _ _ 212 [Vr 166, Vi (f : Int), Vi 5, Vi 1, Vx] [Vi 0] ((SHv st dr rd), (ovl a s b)) _
  refine Ev.call (k := 5) (pc1 := 280) (L1 := [Vr 166, Vi (f : Int), Vi 5, Vi 1, Vx]) (S1 := [Vl 6385252, Vr 166]) (h1 := ((SHv st dr rd), (ovl a s b))) (m' := 162) (as := [Vr 166, Vl 6385252]) (S' := []) (L0 := [Vr 166, Vl 6385252, Vx]) (fun _ => rfl) rfl rfl rfl rfl rfl rfl (k_isWord (b := b) hk 14 (by decide) 6385252 (by decide)) (fun r h' hq => ?_)
  obtain ⟨rfl, rfl⟩ := hq
  by_cases c280 : tC W p = 256 + 14
  · rw [if_pos c280]
    show Ev X _ _ 283 [Vr 166, Vi (f : Int), Vi 5, Vi 1, Vx] [Vi 1] ((SHv st dr rd), (ovl a s b)) _
    refine Ev.steps (k := 4) (pc' := 301) (L' := [Vr 166, Vi (f : Int), Vi 5, Vi 1, Vx]) (S' := [Vi (f : Int), Vr 194]) (h' := ((SHv st dr rd), (ovl a s b))) (fun _ => rfl) ?_
    refine Ev.iald (v := 0) rfl (by decide) rfl (by omega) (by omega) (hph) ?_
    refine Ev.steps (k := 5) (pc' := 311) (L' := [Vr 166, Vi (f : Int), Vi 5, Vi 1, Vx]) (S' := [Vi (b 166 4), Vi 1, Vr 166]) (h' := ((SHv st dr rd), (ovl a s b))) (fun _ => rfl) ?_
    rw [hk.2.2.2.2.1]
    refine Ev.call (k := 0) (pc1 := 311) (L1 := [Vr 166, Vi (f : Int), Vi 5, Vi 1, Vx]) (S1 := [Vi ((tA W p : Nat) : Int), Vi 1, Vr 166]) (h1 := ((SHv st dr rd), (ovl a s b))) (m' := 160) (as := [Vr 166, Vi 1, Vi ((tA W p : Nat) : Int)]) (S' := []) (L0 := [Vr 166, Vi 1, Vi ((tA W p : Nat) : Int)]) (fun _ => rfl) rfl rfl rfl rfl rfl rfl (m_bl (b := b) hk 1 (by decide)) (fun r h' hq => ?_)
    obtain ⟨rfl, bq28, rfl, hbq28⟩ := hq
    show Ev X _ _ 314 [Vr 166, Vi (f : Int), Vi 5, Vi 1, Vx] [] ((SHv st dr rd), (ovl a s bq28)) _
    refine Ev.steps (k := 2) (pc' := 318) (L' := [Vr 166, Vi (f : Int), Vi 5, Vi 1, Vx]) (S' := [Vi (bq28 166 8)]) (h' := ((SHv st dr rd), (ovl a s bq28))) (fun _ => rfl) ?_
    rw [hbq28.2.2.2.1]
    refine Ev.ite (P := (fltT W 1 p).1 ≤ 0) (k := 1) (a := 323) (b := 321) (L' := [Vr 166, Vi (f : Int), Vi 5, Vi 1, Vx]) (S' := []) (h' := ((SHv st dr rd), (ovl a s bq28))) (fun _ => rfl) (fun b318 => ?_) (fun b318 => ?_)
    · have := hbq28.2.2.1; omega
    · refine Ev.fin (k := 2) (r := (some (Vi 0))) (h' := ((SHv st dr rd), (ovl a s bq28))) (fun _ => rfl) ?_
      exact ⟨0, _, rfl, Or.inl rfl, rfl, (hbq28.bk (KpM.rf : KpM j c om f b b))⟩
  · rw [if_neg c280]
    show Ev X _ _ 283 [Vr 166, Vi (f : Int), Vi 5, Vi 1, Vx] [Vi 0] ((SHv st dr rd), (ovl a s b)) _
    refine Ev.call (k := 3) (pc1 := 290) (L1 := [Vr 166, Vi (f : Int), Vi 5, Vi 1, Vx]) (S1 := [Vl 28530, Vr 166]) (h1 := ((SHv st dr rd), (ovl a s b))) (m' := 162) (as := [Vr 166, Vl 28530]) (S' := []) (L0 := [Vr 166, Vl 28530, Vx]) (fun _ => rfl) rfl rfl rfl rfl rfl rfl (k_isWord (b := b) hk 13 (by decide) 28530 (by decide)) (fun r h' hq => ?_)
    obtain ⟨rfl, rfl⟩ := hq
    by_cases c290 : tC W p = 256 + 13
    · rw [if_pos c290]
      show Ev X _ _ 293 [Vr 166, Vi (f : Int), Vi 5, Vi 1, Vx] [Vi 1] ((SHv st dr rd), (ovl a s b)) _
      refine Ev.steps (k := 4) (pc' := 301) (L' := [Vr 166, Vi (f : Int), Vi 5, Vi 1, Vx]) (S' := [Vi (f : Int), Vr 194]) (h' := ((SHv st dr rd), (ovl a s b))) (fun _ => rfl) ?_
      refine Ev.iald (v := 0) rfl (by decide) rfl (by omega) (by omega) (hph) ?_
      refine Ev.steps (k := 5) (pc' := 311) (L' := [Vr 166, Vi (f : Int), Vi 5, Vi 1, Vx]) (S' := [Vi (b 166 4), Vi 1, Vr 166]) (h' := ((SHv st dr rd), (ovl a s b))) (fun _ => rfl) ?_
      rw [hk.2.2.2.2.1]
      refine Ev.call (k := 0) (pc1 := 311) (L1 := [Vr 166, Vi (f : Int), Vi 5, Vi 1, Vx]) (S1 := [Vi ((tA W p : Nat) : Int), Vi 1, Vr 166]) (h1 := ((SHv st dr rd), (ovl a s b))) (m' := 160) (as := [Vr 166, Vi 1, Vi ((tA W p : Nat) : Int)]) (S' := []) (L0 := [Vr 166, Vi 1, Vi ((tA W p : Nat) : Int)]) (fun _ => rfl) rfl rfl rfl rfl rfl rfl (m_bl (b := b) hk 1 (by decide)) (fun r h' hq => ?_)
      obtain ⟨rfl, bq29, rfl, hbq29⟩ := hq
      show Ev X _ _ 314 [Vr 166, Vi (f : Int), Vi 5, Vi 1, Vx] [] ((SHv st dr rd), (ovl a s bq29)) _
      refine Ev.steps (k := 2) (pc' := 318) (L' := [Vr 166, Vi (f : Int), Vi 5, Vi 1, Vx]) (S' := [Vi (bq29 166 8)]) (h' := ((SHv st dr rd), (ovl a s bq29))) (fun _ => rfl) ?_
      rw [hbq29.2.2.2.1]
      refine Ev.ite (P := (fltT W 1 p).1 ≤ 0) (k := 1) (a := 323) (b := 321) (L' := [Vr 166, Vi (f : Int), Vi 5, Vi 1, Vx]) (S' := []) (h' := ((SHv st dr rd), (ovl a s bq29))) (fun _ => rfl) (fun b318 => ?_) (fun b318 => ?_)
      · have := hbq29.2.2.1; omega
      · refine Ev.fin (k := 2) (r := (some (Vi 0))) (h' := ((SHv st dr rd), (ovl a s bq29))) (fun _ => rfl) ?_
        exact ⟨0, _, rfl, Or.inl rfl, rfl, (hbq29.bk (KpM.rf : KpM j c om f b b))⟩
    · rw [if_neg c290]
      show Ev X _ _ 293 [Vr 166, Vi (f : Int), Vi 5, Vi 1, Vx] [Vi 0] ((SHv st dr rd), (ovl a s b)) _
      refine Ev.steps (k := 6) (pc' := 396) (L' := [Vr 166, Vi (f : Int), Vi 5, Vi 1, Vx]) (S' := [Vi (f : Int), Vr 194]) (h' := ((SHv st dr rd), (ovl a s b))) (fun _ => rfl) ?_
      refine Ev.iald (v := 0) rfl (by decide) rfl (by omega) (by omega) (hph) ?_
      refine Ev.steps (k := 5) (pc' := 406) (L' := [Vr 166, Vi (f : Int), Vi 5, Vi 1, Vx]) (S' := [Vi (b 166 4), Vi 1, Vr 166]) (h' := ((SHv st dr rd), (ovl a s b))) (fun _ => rfl) ?_
      rw [hk.2.2.2.2.1]
      refine Ev.call (k := 0) (pc1 := 406) (L1 := [Vr 166, Vi (f : Int), Vi 5, Vi 1, Vx]) (S1 := [Vi ((tA W p : Nat) : Int), Vi 1, Vr 166]) (h1 := ((SHv st dr rd), (ovl a s b))) (m' := 160) (as := [Vr 166, Vi 1, Vi ((tA W p : Nat) : Int)]) (S' := []) (L0 := [Vr 166, Vi 1, Vi ((tA W p : Nat) : Int)]) (fun _ => rfl) rfl rfl rfl rfl rfl rfl (m_bl (b := b) hk 1 (by decide)) (fun r h' hq => ?_)
      obtain ⟨rfl, bq30, rfl, hbq30⟩ := hq
      show Ev X _ _ 409 [Vr 166, Vi (f : Int), Vi 5, Vi 1, Vx] [] ((SHv st dr rd), (ovl a s bq30)) _
      refine Ev.call (k := 12) (pc1 := 496) (L1 := [Vr 166, Vi (f : Int), Vi 5, Vi 1, Vx]) (S1 := [Vi 93, Vr 166]) (h1 := ((SHv st dr rd), (ovl a s bq30))) (m' := 174) (as := [Vr 166, Vi 93]) (S' := []) (L0 := [Vr 166, Vi 93]) (fun _ => rfl) rfl rfl rfl rfl rfl rfl (m_isSign (b := bq30) 93) (fun r h' hq => ?_)
      obtain ⟨rfl, rfl⟩ := hq
      by_cases c496 : bq30 166 3 = 3 ∧ bq30 166 6 = 93
      · rw [if_pos c496]
        show Ev X _ _ 499 [Vr 166, Vi (f : Int), Vi 5, Vi 1, Vx] [Vi 1] ((SHv st dr rd), (ovl a s bq30)) _
        refine Ev.steps (k := 3) (pc' := 515) (L' := [Vr 166, Vi (f : Int), Vi 5, Vi 1, Vx]) (S' := [Vi (bq30 166 8)]) (h' := ((SHv st dr rd), (ovl a s bq30))) (fun _ => rfl) ?_
        rw [hbq30.2.2.2.1]
        refine Ev.ite (P := (fltT W 1 p).1 ≤ 0) (k := 1) (a := 520) (b := 518) (L' := [Vr 166, Vi (f : Int), Vi 5, Vi 1, Vx]) (S' := []) (h' := ((SHv st dr rd), (ovl a s bq30))) (fun _ => rfl) (fun b515 => ?_) (fun b515 => ?_)
        · have := hbq30.2.2.1; omega
        · refine Ev.fin (k := 2) (r := (some (Vi 0))) (h' := ((SHv st dr rd), (ovl a s bq30))) (fun _ => rfl) ?_
          exact ⟨0, _, rfl, Or.inl rfl, rfl, (hbq30.bk (KpM.rf : KpM j c om f b b))⟩
      · rw [if_neg c496]
        show Ev X _ _ 499 [Vr 166, Vi (f : Int), Vi 5, Vi 1, Vx] [Vi 0] ((SHv st dr rd), (ovl a s bq30)) _
        refine Ev.call (k := 5) (pc1 := 508) (L1 := [Vr 166, Vi (f : Int), Vi 5, Vi 1, Vx]) (S1 := [Vi (bq30 166 4), Vi 1, Vr 166]) (h1 := ((SHv st dr rd), (ovl a s bq30))) (m' := 160) (as := [Vr 166, Vi 1, Vi (bq30 166 4)]) (S' := []) (L0 := [Vr 166, Vi 1, Vi (bq30 166 4)]) (fun _ => rfl) rfl rfl rfl rfl rfl rfl (m_bl_br (b := bq30) hbq30.2.2 1 (bq30 166 4)) (fun r h' hq => ?_)
        obtain ⟨rfl, rfl⟩ := hq
        show Ev X _ _ 511 [Vr 166, Vi (f : Int), Vi 5, Vi 1, Vx] [] ((SHv st dr rd), (ovl a s bq30)) _
        refine Ev.steps (k := 2) (pc' := 515) (L' := [Vr 166, Vi (f : Int), Vi 5, Vi 1, Vx]) (S' := [Vi (bq30 166 8)]) (h' := ((SHv st dr rd), (ovl a s bq30))) (fun _ => rfl) ?_
        rw [hbq30.2.2.2.1]
        refine Ev.ite (P := (fltT W 1 p).1 ≤ 0) (k := 1) (a := 520) (b := 518) (L' := [Vr 166, Vi (f : Int), Vi 5, Vi 1, Vx]) (S' := []) (h' := ((SHv st dr rd), (ovl a s bq30))) (fun _ => rfl) (fun b515 => ?_) (fun b515 => ?_)
        · have := hbq30.2.2.1; omega
        · refine Ev.fin (k := 2) (r := (some (Vi 0))) (h' := ((SHv st dr rd), (ovl a s bq30))) (fun _ => rfl) ?_
          exact ⟨0, _, rfl, Or.inl rfl, rfl, (hbq30.bk (KpM.rf : KpM j c om f b b))⟩
theorem m_go_e0 {X : List Int} {d : Nat} {st dr rd : Int} {a s b : C3} {W : TXT} {p : Nat} (hk : TkM W p b) {N : SC} {j : Nat} (hN : NmM N b j) {c om f bs : Nat} {pd : List Nat} (e38 : b 166 38 = (c : Int)) (e48 : b 166 48 = ((om + pd.length : Nat) : Int)) (e45 : b 166 45 = ((f + 1 : Nat) : Int)) (e46 : b 166 46 = (f : Int)) (hf : f ≤ 8) (ebs : b 197 f = (bs : Int)) (hbo : bs ≤ om) (hst : stkM (b 198) om pd) (hc : c + pd.length ≤ 1200) (ho : om + pd.length < 500) (hrk : ∀ op, op ∈ pd → 1 ≤ rkM ((op : Nat) : Int)) (hlo : om = bs ∨ rkM (b 198 (om - 1)) < 1) (h193 : b 193 f = 0) (hph : b 194 f = 0) (hcs : tC W p ≠ 43 ∧ tC W p ≠ 45 ∧ tC W p ≠ 42 ∧ tC W p ≠ 47 ∧ tC W p ≠ 37) : Ev X (d + 2) 178 0 [Vr 166, Vx, Vx, Vx, Vx] [] (SHv st dr rd, ovl a s b) (fun rr hh => rr = some (Vi 0) ∧ ∃ b' : C3, hh = (SHv st dr rd, ovl a s b') ∧ codM (b' 191) (b' 192) (1200 * j + c) (opL pd) ∧ b' 166 38 = ((c + pd.length : Nat) : Int) ∧ JnF j c pd.length b b') := by
  refine Ev.steps (k := 2) (pc' := 4) (L' := [Vr 166, Vx, Vx, Vx, Vx]) (S' := [Vi (b 166 45)]) (h' := ((SHv st dr rd), (ovl a s b))) (fun _ => rfl) ?_
  rw [e45]
  refine Ev.steps (k := 2) (pc' := 6) (L' := [Vr 166, Vx, Vx, Vx, Vx]) (S' := [Vi (w32 (((f + 1 : Nat) : Int) - 1))]) (h' := ((SHv st dr rd), (ovl a s b))) (fun _ => rfl) ?_
  rw [show (w32 (((f + 1 : Nat) : Int) - 1)) = (f : Int) from (by unfold w32; omega)]
  refine Ev.steps (k := 4) (pc' := 12) (L' := [Vr 166, Vi (f : Int), Vx, Vx, Vx]) (S' := [Vi (f : Int), Vr 193]) (h' := ((SHv st dr rd), (ovl a s b))) (fun _ => rfl) ?_
  refine Ev.iald (v := 0) rfl (by decide) rfl (by omega) (by omega) (h193) ?_
  refine Ev.call (k := 2) (pc1 := 15) (L1 := [Vr 166, Vi (f : Int), Vi 0, Vx, Vx]) (S1 := [Vi 0]) (h1 := ((SHv st dr rd), (ovl a s b))) (m' := 172) (as := [Vi 0]) (S' := []) (L0 := [Vi 0]) (fun _ => rfl) rfl rfl rfl rfl rfl rfl (m_isTest (b := b) 0) (fun r h' hq => ?_)
  obtain ⟨rfl, rfl⟩ := hq
  rw [if_neg (by omega)]
  show Ev X _ _ 18 [Vr 166, Vi (f : Int), Vi 0, Vx, Vx] [Vi 0] ((SHv st dr rd), (ovl a s b)) _
  refine Ev.steps (k := 4) (pc' := 24) (L' := [Vr 166, Vi (f : Int), Vi 0, Vi 0, Vx]) (S' := [Vi (f : Int), Vr 194]) (h' := ((SHv st dr rd), (ovl a s b))) (fun _ => rfl) ?_
  refine Ev.iald (v := 0) rfl (by decide) rfl (by omega) (by omega) (hph) ?_
  refine Ev.call (k := 4) (pc1 := 32) (L1 := [Vr 166, Vi (f : Int), Vi 0, Vi 0, Vx]) (S1 := [Vi 43, Vr 166]) (h1 := ((SHv st dr rd), (ovl a s b))) (m' := 174) (as := [Vr 166, Vi 43]) (S' := []) (L0 := [Vr 166, Vi 43]) (fun _ => rfl) rfl rfl rfl rfl rfl rfl (k_isSign (b := b) hk 43 (by decide)) (fun r h' hq => ?_)
  obtain ⟨rfl, rfl⟩ := hq
  rw [if_neg (by omega)]
  show Ev X _ _ 35 [Vr 166, Vi (f : Int), Vi 0, Vi 0, Vx] [Vi 0] ((SHv st dr rd), (ovl a s b)) _
  refine Ev.call (k := 3) (pc1 := 41) (L1 := [Vr 166, Vi (f : Int), Vi 0, Vi 0, Vx]) (S1 := [Vi 45, Vr 166]) (h1 := ((SHv st dr rd), (ovl a s b))) (m' := 174) (as := [Vr 166, Vi 45]) (S' := []) (L0 := [Vr 166, Vi 45]) (fun _ => rfl) rfl rfl rfl rfl rfl rfl (k_isSign (b := b) hk 45 (by decide)) (fun r h' hq => ?_)
  obtain ⟨rfl, rfl⟩ := hq
  rw [if_neg (by omega)]
  show Ev X _ _ 44 [Vr 166, Vi (f : Int), Vi 0, Vi 0, Vx] [Vi 0] ((SHv st dr rd), (ovl a s b)) _
  refine Ev.call (k := 3) (pc1 := 50) (L1 := [Vr 166, Vi (f : Int), Vi 0, Vi 0, Vx]) (S1 := [Vi 42, Vr 166]) (h1 := ((SHv st dr rd), (ovl a s b))) (m' := 174) (as := [Vr 166, Vi 42]) (S' := []) (L0 := [Vr 166, Vi 42]) (fun _ => rfl) rfl rfl rfl rfl rfl rfl (k_isSign (b := b) hk 42 (by decide)) (fun r h' hq => ?_)
  obtain ⟨rfl, rfl⟩ := hq
  rw [if_neg (by omega)]
  show Ev X _ _ 53 [Vr 166, Vi (f : Int), Vi 0, Vi 0, Vx] [Vi 0] ((SHv st dr rd), (ovl a s b)) _
  refine Ev.call (k := 3) (pc1 := 59) (L1 := [Vr 166, Vi (f : Int), Vi 0, Vi 0, Vx]) (S1 := [Vi 47, Vr 166]) (h1 := ((SHv st dr rd), (ovl a s b))) (m' := 174) (as := [Vr 166, Vi 47]) (S' := []) (L0 := [Vr 166, Vi 47]) (fun _ => rfl) rfl rfl rfl rfl rfl rfl (k_isSign (b := b) hk 47 (by decide)) (fun r h' hq => ?_)
  obtain ⟨rfl, rfl⟩ := hq
  rw [if_neg (by omega)]
  show Ev X _ _ 62 [Vr 166, Vi (f : Int), Vi 0, Vi 0, Vx] [Vi 0] ((SHv st dr rd), (ovl a s b)) _
  refine Ev.call (k := 3) (pc1 := 68) (L1 := [Vr 166, Vi (f : Int), Vi 0, Vi 0, Vx]) (S1 := [Vi 37, Vr 166]) (h1 := ((SHv st dr rd), (ovl a s b))) (m' := 174) (as := [Vr 166, Vi 37]) (S' := []) (L0 := [Vr 166, Vi 37]) (fun _ => rfl) rfl rfl rfl rfl rfl rfl (k_isSign (b := b) hk 37 (by decide)) (fun r h' hq => ?_)
  obtain ⟨rfl, rfl⟩ := hq
  rw [if_neg (by omega)]
  show Ev X _ _ 71 [Vr 166, Vi (f : Int), Vi 0, Vi 0, Vx] [Vi 0] ((SHv st dr rd), (ovl a s b)) _
  refine Ev.steps (k := 12) (pc' := 418) (L' := [Vr 166, Vi (f : Int), Vi 0, Vi 0, Vx]) (S' := [Vi (b 166 8)]) (h' := ((SHv st dr rd), (ovl a s b))) (fun _ => rfl) ?_
  rw [hk.2.1]
  refine Ev.call (k := 3) (pc1 := 423) (L1 := [Vr 166, Vi (f : Int), Vi 0, Vi 0, Vx]) (S1 := [Vi 1, Vr 166]) (h1 := ((SHv st dr rd), (ovl a s b))) (m' := 179) (as := [Vr 166, Vi 1]) (S' := []) (L0 := [Vr 166, Vi 1]) (fun _ => rfl) rfl rfl rfl rfl rfl rfl (m_joins (b0 := b) hN.1 ⟨by omega, by omega⟩ 1 hbo pd c hN.2.1 e38 e45 e48 ebs hst hrk hlo (by omega) (by omega)) (fun r h' hq => ?_)
  obtain ⟨rfl, bq31, rfl, hcdq31, h38q31, h48q31, hfrq31⟩ := hq
  have hfrq31 : JnF j c pd.length b bq31 := hfrq31
  show Ev X _ _ 426 [Vr 166, Vi (f : Int), Vi 0, Vi 0, Vx] [] ((SHv st dr rd), (ovl a s bq31)) _
  refine Ev.fin (k := 2) (r := (some (Vi 0))) (h' := ((SHv st dr rd), (ovl a s bq31))) (fun _ => rfl) ?_
  exact ⟨rfl, _, rfl, hcdq31, h38q31, hfrq31⟩
theorem m_go_e1 {X : List Int} {d : Nat} {st dr rd : Int} {a s b : C3} {W : TXT} {p : Nat} (hk : TkM W p b) {N : SC} {j : Nat} (hN : NmM N b j) {c om f bs : Nat} {pd : List Nat} (e38 : b 166 38 = (c : Int)) (e48 : b 166 48 = ((om + pd.length : Nat) : Int)) (e45 : b 166 45 = ((f + 1 : Nat) : Int)) (e46 : b 166 46 = (f : Int)) (hf : f ≤ 8) (ebs : b 197 f = (bs : Int)) (hbo : bs ≤ om) (hst : stkM (b 198) om pd) (hc : c + pd.length ≤ 1200) (ho : om + pd.length < 500) (hrk : ∀ op, op ∈ pd → 1 ≤ rkM ((op : Nat) : Int)) (hlo : om = bs ∨ rkM (b 198 (om - 1)) < 1) (h193 : b 193 f = 1) (hph : b 194 f = 2 ∨ (b 194 f = 1 ∧ tC W p ≠ 43 ∧ tC W p ≠ 45 ∧ tC W p ≠ 42 ∧ tC W p ≠ 47 ∧ tC W p ≠ 37)) (hct : tC W p ≠ 269 ∧ tC W p ≠ 270) : Ev X (d + 2) 178 0 [Vr 166, Vx, Vx, Vx, Vx] [] (SHv st dr rd, ovl a s b) (fun rr hh => rr = some (Vi 0) ∧ ∃ b' : C3, hh = (SHv st dr rd, ovl a s b') ∧ codM (b' 191) (b' 192) (1200 * j + c) (opL pd) ∧ b' 166 38 = ((c + pd.length : Nat) : Int) ∧ JnF j c pd.length b b') := by
  refine Ev.steps (k := 2) (pc' := 4) (L' := [Vr 166, Vx, Vx, Vx, Vx]) (S' := [Vi (b 166 45)]) (h' := ((SHv st dr rd), (ovl a s b))) (fun _ => rfl) ?_
  rw [e45]
  refine Ev.steps (k := 2) (pc' := 6) (L' := [Vr 166, Vx, Vx, Vx, Vx]) (S' := [Vi (w32 (((f + 1 : Nat) : Int) - 1))]) (h' := ((SHv st dr rd), (ovl a s b))) (fun _ => rfl) ?_
  rw [show (w32 (((f + 1 : Nat) : Int) - 1)) = (f : Int) from (by unfold w32; omega)]
  refine Ev.steps (k := 4) (pc' := 12) (L' := [Vr 166, Vi (f : Int), Vx, Vx, Vx]) (S' := [Vi (f : Int), Vr 193]) (h' := ((SHv st dr rd), (ovl a s b))) (fun _ => rfl) ?_
  refine Ev.iald (v := 1) rfl (by decide) rfl (by omega) (by omega) (h193) ?_
  refine Ev.call (k := 2) (pc1 := 15) (L1 := [Vr 166, Vi (f : Int), Vi 1, Vx, Vx]) (S1 := [Vi 1]) (h1 := ((SHv st dr rd), (ovl a s b))) (m' := 172) (as := [Vi 1]) (S' := []) (L0 := [Vi 1]) (fun _ => rfl) rfl rfl rfl rfl rfl rfl (m_isTest (b := b) 1) (fun r h' hq => ?_)
  obtain ⟨rfl, rfl⟩ := hq
  rw [if_pos (by omega)]
  show Ev X _ _ 18 [Vr 166, Vi (f : Int), Vi 1, Vx, Vx] [Vi 1] ((SHv st dr rd), (ovl a s b)) _
  refine Ev.steps (k := 4) (pc' := 24) (L' := [Vr 166, Vi (f : Int), Vi 1, Vi 1, Vx]) (S' := [Vi (f : Int), Vr 194]) (h' := ((SHv st dr rd), (ovl a s b))) (fun _ => rfl) ?_
  refine Ev.iald (v := (b 194 f)) rfl (by decide) rfl (by omega) (by omega) (rfl) ?_
  refine Ev.ite (P := 2 ≤ (b 194 f)) (k := 2) (a := 175) (b := 29) (L' := [Vr 166, Vi (f : Int), Vi 1, Vi 1, Vx]) (S' := []) (h' := ((SHv st dr rd), (ovl a s b))) (fun _ => rfl) (fun b26 => ?_) (fun b26 => ?_)
  · refine Ev.steps (k := 5) (pc' := 184) (L' := [Vr 166, Vi (f : Int), Vi 1, Vi 1, Vx]) (S' := [Vi (f : Int), Vr 194]) (h' := ((SHv st dr rd), (ovl a s b))) (fun _ => rfl) ?_
    refine Ev.iald (v := (b 194 f)) rfl (by decide) rfl (by omega) (by omega) (rfl) ?_
    refine Ev.ite (P := (b 194 f) ≠ 0) (k := 1) (a := 272) (b := 188) (L' := [Vr 166, Vi (f : Int), Vi 1, Vi 1, Vx]) (S' := []) (h' := ((SHv st dr rd), (ovl a s b))) (fun _ => rfl) (fun b185 => ?_) (fun b185 => ?_)
    · refine Ev.call (k := 4) (pc1 := 280) (L1 := [Vr 166, Vi (f : Int), Vi 1, Vi 1, Vx]) (S1 := [Vl 6385252, Vr 166]) (h1 := ((SHv st dr rd), (ovl a s b))) (m' := 162) (as := [Vr 166, Vl 6385252]) (S' := []) (L0 := [Vr 166, Vl 6385252, Vx]) (fun _ => rfl) rfl rfl rfl rfl rfl rfl (k_isWord (b := b) hk 14 (by decide) 6385252 (by decide)) (fun r h' hq => ?_)
      obtain ⟨rfl, rfl⟩ := hq
      rw [if_neg (by omega)]
      show Ev X _ _ 283 [Vr 166, Vi (f : Int), Vi 1, Vi 1, Vx] [Vi 0] ((SHv st dr rd), (ovl a s b)) _
      refine Ev.call (k := 3) (pc1 := 290) (L1 := [Vr 166, Vi (f : Int), Vi 1, Vi 1, Vx]) (S1 := [Vl 28530, Vr 166]) (h1 := ((SHv st dr rd), (ovl a s b))) (m' := 162) (as := [Vr 166, Vl 28530]) (S' := []) (L0 := [Vr 166, Vl 28530, Vx]) (fun _ => rfl) rfl rfl rfl rfl rfl rfl (k_isWord (b := b) hk 13 (by decide) 28530 (by decide)) (fun r h' hq => ?_)
      obtain ⟨rfl, rfl⟩ := hq
      rw [if_neg (by omega)]
      show Ev X _ _ 293 [Vr 166, Vi (f : Int), Vi 1, Vi 1, Vx] [Vi 0] ((SHv st dr rd), (ovl a s b)) _
      refine Ev.steps (k := 6) (pc' := 396) (L' := [Vr 166, Vi (f : Int), Vi 1, Vi 1, Vx]) (S' := [Vi (f : Int), Vr 194]) (h' := ((SHv st dr rd), (ovl a s b))) (fun _ => rfl) ?_
      refine Ev.iald (v := (b 194 f)) rfl (by decide) rfl (by omega) (by omega) (rfl) ?_
      refine Ev.ite (P := (b 194 f) ≠ 0) (k := 1) (a := 409) (b := 400) (L' := [Vr 166, Vi (f : Int), Vi 1, Vi 1, Vx]) (S' := []) (h' := ((SHv st dr rd), (ovl a s b))) (fun _ => rfl) (fun b397 => ?_) (fun b397 => ?_)
      · refine Ev.steps (k := 5) (pc' := 418) (L' := [Vr 166, Vi (f : Int), Vi 1, Vi 1, Vx]) (S' := [Vi (b 166 8)]) (h' := ((SHv st dr rd), (ovl a s b))) (fun _ => rfl) ?_
        rw [hk.2.1]
        refine Ev.call (k := 3) (pc1 := 423) (L1 := [Vr 166, Vi (f : Int), Vi 1, Vi 1, Vx]) (S1 := [Vi 1, Vr 166]) (h1 := ((SHv st dr rd), (ovl a s b))) (m' := 179) (as := [Vr 166, Vi 1]) (S' := []) (L0 := [Vr 166, Vi 1]) (fun _ => rfl) rfl rfl rfl rfl rfl rfl (m_joins (b0 := b) hN.1 ⟨by omega, by omega⟩ 1 hbo pd c hN.2.1 e38 e45 e48 ebs hst hrk hlo (by omega) (by omega)) (fun r h' hq => ?_)
        obtain ⟨rfl, bq32, rfl, hcdq32, h38q32, h48q32, hfrq32⟩ := hq
        have hfrq32 : JnF j c pd.length b bq32 := hfrq32
        show Ev X _ _ 426 [Vr 166, Vi (f : Int), Vi 1, Vi 1, Vx] [] ((SHv st dr rd), (ovl a s bq32)) _
        refine Ev.fin (k := 2) (r := (some (Vi 0))) (h' := ((SHv st dr rd), (ovl a s bq32))) (fun _ => rfl) ?_
        exact ⟨rfl, _, rfl, hcdq32, h38q32, hfrq32⟩
      · omega
    · omega
  · refine Ev.call (k := 2) (pc1 := 32) (L1 := [Vr 166, Vi (f : Int), Vi 1, Vi 1, Vx]) (S1 := [Vi 43, Vr 166]) (h1 := ((SHv st dr rd), (ovl a s b))) (m' := 174) (as := [Vr 166, Vi 43]) (S' := []) (L0 := [Vr 166, Vi 43]) (fun _ => rfl) rfl rfl rfl rfl rfl rfl (k_isSign (b := b) hk 43 (by decide)) (fun r h' hq => ?_)
    obtain ⟨rfl, rfl⟩ := hq
    rw [if_neg (by omega)]
    show Ev X _ _ 35 [Vr 166, Vi (f : Int), Vi 1, Vi 1, Vx] [Vi 0] ((SHv st dr rd), (ovl a s b)) _
    refine Ev.call (k := 3) (pc1 := 41) (L1 := [Vr 166, Vi (f : Int), Vi 1, Vi 1, Vx]) (S1 := [Vi 45, Vr 166]) (h1 := ((SHv st dr rd), (ovl a s b))) (m' := 174) (as := [Vr 166, Vi 45]) (S' := []) (L0 := [Vr 166, Vi 45]) (fun _ => rfl) rfl rfl rfl rfl rfl rfl (k_isSign (b := b) hk 45 (by decide)) (fun r h' hq => ?_)
    obtain ⟨rfl, rfl⟩ := hq
    rw [if_neg (by omega)]
    show Ev X _ _ 44 [Vr 166, Vi (f : Int), Vi 1, Vi 1, Vx] [Vi 0] ((SHv st dr rd), (ovl a s b)) _
    refine Ev.call (k := 3) (pc1 := 50) (L1 := [Vr 166, Vi (f : Int), Vi 1, Vi 1, Vx]) (S1 := [Vi 42, Vr 166]) (h1 := ((SHv st dr rd), (ovl a s b))) (m' := 174) (as := [Vr 166, Vi 42]) (S' := []) (L0 := [Vr 166, Vi 42]) (fun _ => rfl) rfl rfl rfl rfl rfl rfl (k_isSign (b := b) hk 42 (by decide)) (fun r h' hq => ?_)
    obtain ⟨rfl, rfl⟩ := hq
    rw [if_neg (by omega)]
    show Ev X _ _ 53 [Vr 166, Vi (f : Int), Vi 1, Vi 1, Vx] [Vi 0] ((SHv st dr rd), (ovl a s b)) _
    refine Ev.call (k := 3) (pc1 := 59) (L1 := [Vr 166, Vi (f : Int), Vi 1, Vi 1, Vx]) (S1 := [Vi 47, Vr 166]) (h1 := ((SHv st dr rd), (ovl a s b))) (m' := 174) (as := [Vr 166, Vi 47]) (S' := []) (L0 := [Vr 166, Vi 47]) (fun _ => rfl) rfl rfl rfl rfl rfl rfl (k_isSign (b := b) hk 47 (by decide)) (fun r h' hq => ?_)
    obtain ⟨rfl, rfl⟩ := hq
    rw [if_neg (by omega)]
    show Ev X _ _ 62 [Vr 166, Vi (f : Int), Vi 1, Vi 1, Vx] [Vi 0] ((SHv st dr rd), (ovl a s b)) _
    refine Ev.call (k := 3) (pc1 := 68) (L1 := [Vr 166, Vi (f : Int), Vi 1, Vi 1, Vx]) (S1 := [Vi 37, Vr 166]) (h1 := ((SHv st dr rd), (ovl a s b))) (m' := 174) (as := [Vr 166, Vi 37]) (S' := []) (L0 := [Vr 166, Vi 37]) (fun _ => rfl) rfl rfl rfl rfl rfl rfl (k_isSign (b := b) hk 37 (by decide)) (fun r h' hq => ?_)
    obtain ⟨rfl, rfl⟩ := hq
    rw [if_neg (by omega)]
    show Ev X _ _ 71 [Vr 166, Vi (f : Int), Vi 1, Vi 1, Vx] [Vi 0] ((SHv st dr rd), (ovl a s b)) _
    refine Ev.steps (k := 6) (pc' := 184) (L' := [Vr 166, Vi (f : Int), Vi 1, Vi 1, Vx]) (S' := [Vi (f : Int), Vr 194]) (h' := ((SHv st dr rd), (ovl a s b))) (fun _ => rfl) ?_
    refine Ev.iald (v := (b 194 f)) rfl (by decide) rfl (by omega) (by omega) (rfl) ?_
    refine Ev.ite (P := (b 194 f) ≠ 0) (k := 1) (a := 272) (b := 188) (L' := [Vr 166, Vi (f : Int), Vi 1, Vi 1, Vx]) (S' := []) (h' := ((SHv st dr rd), (ovl a s b))) (fun _ => rfl) (fun b185 => ?_) (fun b185 => ?_)
    · refine Ev.call (k := 4) (pc1 := 280) (L1 := [Vr 166, Vi (f : Int), Vi 1, Vi 1, Vx]) (S1 := [Vl 6385252, Vr 166]) (h1 := ((SHv st dr rd), (ovl a s b))) (m' := 162) (as := [Vr 166, Vl 6385252]) (S' := []) (L0 := [Vr 166, Vl 6385252, Vx]) (fun _ => rfl) rfl rfl rfl rfl rfl rfl (k_isWord (b := b) hk 14 (by decide) 6385252 (by decide)) (fun r h' hq => ?_)
      obtain ⟨rfl, rfl⟩ := hq
      rw [if_neg (by omega)]
      show Ev X _ _ 283 [Vr 166, Vi (f : Int), Vi 1, Vi 1, Vx] [Vi 0] ((SHv st dr rd), (ovl a s b)) _
      refine Ev.call (k := 3) (pc1 := 290) (L1 := [Vr 166, Vi (f : Int), Vi 1, Vi 1, Vx]) (S1 := [Vl 28530, Vr 166]) (h1 := ((SHv st dr rd), (ovl a s b))) (m' := 162) (as := [Vr 166, Vl 28530]) (S' := []) (L0 := [Vr 166, Vl 28530, Vx]) (fun _ => rfl) rfl rfl rfl rfl rfl rfl (k_isWord (b := b) hk 13 (by decide) 28530 (by decide)) (fun r h' hq => ?_)
      obtain ⟨rfl, rfl⟩ := hq
      rw [if_neg (by omega)]
      show Ev X _ _ 293 [Vr 166, Vi (f : Int), Vi 1, Vi 1, Vx] [Vi 0] ((SHv st dr rd), (ovl a s b)) _
      refine Ev.steps (k := 6) (pc' := 396) (L' := [Vr 166, Vi (f : Int), Vi 1, Vi 1, Vx]) (S' := [Vi (f : Int), Vr 194]) (h' := ((SHv st dr rd), (ovl a s b))) (fun _ => rfl) ?_
      refine Ev.iald (v := (b 194 f)) rfl (by decide) rfl (by omega) (by omega) (rfl) ?_
      refine Ev.ite (P := (b 194 f) ≠ 0) (k := 1) (a := 409) (b := 400) (L' := [Vr 166, Vi (f : Int), Vi 1, Vi 1, Vx]) (S' := []) (h' := ((SHv st dr rd), (ovl a s b))) (fun _ => rfl) (fun b397 => ?_) (fun b397 => ?_)
      · refine Ev.steps (k := 5) (pc' := 418) (L' := [Vr 166, Vi (f : Int), Vi 1, Vi 1, Vx]) (S' := [Vi (b 166 8)]) (h' := ((SHv st dr rd), (ovl a s b))) (fun _ => rfl) ?_
        rw [hk.2.1]
        refine Ev.call (k := 3) (pc1 := 423) (L1 := [Vr 166, Vi (f : Int), Vi 1, Vi 1, Vx]) (S1 := [Vi 1, Vr 166]) (h1 := ((SHv st dr rd), (ovl a s b))) (m' := 179) (as := [Vr 166, Vi 1]) (S' := []) (L0 := [Vr 166, Vi 1]) (fun _ => rfl) rfl rfl rfl rfl rfl rfl (m_joins (b0 := b) hN.1 ⟨by omega, by omega⟩ 1 hbo pd c hN.2.1 e38 e45 e48 ebs hst hrk hlo (by omega) (by omega)) (fun r h' hq => ?_)
        obtain ⟨rfl, bq33, rfl, hcdq33, h38q33, h48q33, hfrq33⟩ := hq
        have hfrq33 : JnF j c pd.length b bq33 := hfrq33
        show Ev X _ _ 426 [Vr 166, Vi (f : Int), Vi 1, Vi 1, Vx] [] ((SHv st dr rd), (ovl a s bq33)) _
        refine Ev.fin (k := 2) (r := (some (Vi 0))) (h' := ((SHv st dr rd), (ovl a s bq33))) (fun _ => rfl) ?_
        exact ⟨rfl, _, rfl, hcdq33, h38q33, hfrq33⟩
      · omega
    · omega
theorem m_go_c {X : List Int} {d : Nat} {st dr rd : Int} {a s b : C3} {W : TXT} {p : Nat} (hk : TkM W p b) {N : SC} {j : Nat} (hN : NmM N b j) {c om f bs : Nat} {pd : List Nat} (e38 : b 166 38 = (c : Int)) (e48 : b 166 48 = ((om + pd.length : Nat) : Int)) (e45 : b 166 45 = ((f + 2 : Nat) : Int)) (e46 : b 166 46 = ((f + 1 : Nat) : Int)) (hf : f ≤ 8) (ebs : b 197 (f + 1) = (bs : Int)) (hbo : bs ≤ om) (hst : stkM (b 198) om pd) (hc : c + pd.length ≤ 1200) (ho : om + pd.length < 500) (hrk : ∀ op, op ∈ pd → 1 ≤ rkM ((op : Nat) : Int)) (hlo : om = bs ∨ rkM (b 198 (om - 1)) < 1) (h193 : b 193 (f + 1) = 3) (hph : b 194 (f + 1) = 0) (hcs : tC W p ≠ 43 ∧ tC W p ≠ 45 ∧ tC W p ≠ 42 ∧ tC W p ≠ 47 ∧ tC W p ≠ 37) : Ev X (d + 2) 178 0 [Vr 166, Vx, Vx, Vx, Vx] [] (SHv st dr rd, ovl a s b) (fun rr hh => ∃ (v : Int) (b' : C3), rr = some (Vi v) ∧ (v = 0 ∨ v = 1) ∧ hh = (SHv st dr rd, ovl a s b') ∧ ResC (expT W 44 p) (fun r => v = 1 ∧ ComM W j c om f pd r b b') (fun e => BkM W j c b e b')) := by
  refine Ev.steps (k := 2) (pc' := 4) (L' := [Vr 166, Vx, Vx, Vx, Vx]) (S' := [Vi (b 166 45)]) (h' := ((SHv st dr rd), (ovl a s b))) (fun _ => rfl) ?_
  rw [e45]
  refine Ev.steps (k := 2) (pc' := 6) (L' := [Vr 166, Vx, Vx, Vx, Vx]) (S' := [Vi (w32 (((f + 2 : Nat) : Int) - 1))]) (h' := ((SHv st dr rd), (ovl a s b))) (fun _ => rfl) ?_
  rw [show (w32 (((f + 2 : Nat) : Int) - 1)) = ((f + 1 : Nat) : Int) from (by unfold w32; omega)]
  refine Ev.steps (k := 4) (pc' := 12) (L' := [Vr 166, Vi ((f + 1 : Nat) : Int), Vx, Vx, Vx]) (S' := [Vi ((f + 1 : Nat) : Int), Vr 193]) (h' := ((SHv st dr rd), (ovl a s b))) (fun _ => rfl) ?_
  refine Ev.iald (v := 3) rfl (by decide) rfl (by omega) (by omega) (h193) ?_
  refine Ev.call (k := 2) (pc1 := 15) (L1 := [Vr 166, Vi ((f + 1 : Nat) : Int), Vi 3, Vx, Vx]) (S1 := [Vi 3]) (h1 := ((SHv st dr rd), (ovl a s b))) (m' := 172) (as := [Vi 3]) (S' := []) (L0 := [Vi 3]) (fun _ => rfl) rfl rfl rfl rfl rfl rfl (m_isTest (b := b) 3) (fun r h' hq => ?_)
  obtain ⟨rfl, rfl⟩ := hq
  rw [if_neg (by omega)]
  show Ev X _ _ 18 [Vr 166, Vi ((f + 1 : Nat) : Int), Vi 3, Vx, Vx] [Vi 0] ((SHv st dr rd), (ovl a s b)) _
  refine Ev.steps (k := 4) (pc' := 24) (L' := [Vr 166, Vi ((f + 1 : Nat) : Int), Vi 3, Vi 0, Vx]) (S' := [Vi ((f + 1 : Nat) : Int), Vr 194]) (h' := ((SHv st dr rd), (ovl a s b))) (fun _ => rfl) ?_
  refine Ev.iald (v := 0) rfl (by decide) rfl (by omega) (by omega) (hph) ?_
  refine Ev.call (k := 4) (pc1 := 32) (L1 := [Vr 166, Vi ((f + 1 : Nat) : Int), Vi 3, Vi 0, Vx]) (S1 := [Vi 43, Vr 166]) (h1 := ((SHv st dr rd), (ovl a s b))) (m' := 174) (as := [Vr 166, Vi 43]) (S' := []) (L0 := [Vr 166, Vi 43]) (fun _ => rfl) rfl rfl rfl rfl rfl rfl (k_isSign (b := b) hk 43 (by decide)) (fun r h' hq => ?_)
  obtain ⟨rfl, rfl⟩ := hq
  rw [if_neg (by omega)]
  show Ev X _ _ 35 [Vr 166, Vi ((f + 1 : Nat) : Int), Vi 3, Vi 0, Vx] [Vi 0] ((SHv st dr rd), (ovl a s b)) _
  refine Ev.call (k := 3) (pc1 := 41) (L1 := [Vr 166, Vi ((f + 1 : Nat) : Int), Vi 3, Vi 0, Vx]) (S1 := [Vi 45, Vr 166]) (h1 := ((SHv st dr rd), (ovl a s b))) (m' := 174) (as := [Vr 166, Vi 45]) (S' := []) (L0 := [Vr 166, Vi 45]) (fun _ => rfl) rfl rfl rfl rfl rfl rfl (k_isSign (b := b) hk 45 (by decide)) (fun r h' hq => ?_)
  obtain ⟨rfl, rfl⟩ := hq
  rw [if_neg (by omega)]
  show Ev X _ _ 44 [Vr 166, Vi ((f + 1 : Nat) : Int), Vi 3, Vi 0, Vx] [Vi 0] ((SHv st dr rd), (ovl a s b)) _
  refine Ev.call (k := 3) (pc1 := 50) (L1 := [Vr 166, Vi ((f + 1 : Nat) : Int), Vi 3, Vi 0, Vx]) (S1 := [Vi 42, Vr 166]) (h1 := ((SHv st dr rd), (ovl a s b))) (m' := 174) (as := [Vr 166, Vi 42]) (S' := []) (L0 := [Vr 166, Vi 42]) (fun _ => rfl) rfl rfl rfl rfl rfl rfl (k_isSign (b := b) hk 42 (by decide)) (fun r h' hq => ?_)
  obtain ⟨rfl, rfl⟩ := hq
  rw [if_neg (by omega)]
  show Ev X _ _ 53 [Vr 166, Vi ((f + 1 : Nat) : Int), Vi 3, Vi 0, Vx] [Vi 0] ((SHv st dr rd), (ovl a s b)) _
  refine Ev.call (k := 3) (pc1 := 59) (L1 := [Vr 166, Vi ((f + 1 : Nat) : Int), Vi 3, Vi 0, Vx]) (S1 := [Vi 47, Vr 166]) (h1 := ((SHv st dr rd), (ovl a s b))) (m' := 174) (as := [Vr 166, Vi 47]) (S' := []) (L0 := [Vr 166, Vi 47]) (fun _ => rfl) rfl rfl rfl rfl rfl rfl (k_isSign (b := b) hk 47 (by decide)) (fun r h' hq => ?_)
  obtain ⟨rfl, rfl⟩ := hq
  rw [if_neg (by omega)]
  show Ev X _ _ 62 [Vr 166, Vi ((f + 1 : Nat) : Int), Vi 3, Vi 0, Vx] [Vi 0] ((SHv st dr rd), (ovl a s b)) _
  refine Ev.call (k := 3) (pc1 := 68) (L1 := [Vr 166, Vi ((f + 1 : Nat) : Int), Vi 3, Vi 0, Vx]) (S1 := [Vi 37, Vr 166]) (h1 := ((SHv st dr rd), (ovl a s b))) (m' := 174) (as := [Vr 166, Vi 37]) (S' := []) (L0 := [Vr 166, Vi 37]) (fun _ => rfl) rfl rfl rfl rfl rfl rfl (k_isSign (b := b) hk 37 (by decide)) (fun r h' hq => ?_)
  obtain ⟨rfl, rfl⟩ := hq
  rw [if_neg (by omega)]
  show Ev X _ _ 71 [Vr 166, Vi ((f + 1 : Nat) : Int), Vi 3, Vi 0, Vx] [Vi 0] ((SHv st dr rd), (ovl a s b)) _
  refine Ev.call (k := 15) (pc1 := 436) (L1 := [Vr 166, Vi ((f + 1 : Nat) : Int), Vi 3, Vi 0, Vx]) (S1 := [Vi 44, Vr 166]) (h1 := ((SHv st dr rd), (ovl a s b))) (m' := 174) (as := [Vr 166, Vi 44]) (S' := []) (L0 := [Vr 166, Vi 44]) (fun _ => rfl) rfl rfl rfl rfl rfl rfl (k_isSign (b := b) hk 44 (by decide)) (fun r h' hq => ?_)
  obtain ⟨rfl, rfl⟩ := hq
  by_cases c436 : tC W p = 44
  · rw [if_pos c436]
    show Ev X _ _ 439 [Vr 166, Vi ((f + 1 : Nat) : Int), Vi 3, Vi 0, Vx] [Vi 1] ((SHv st dr rd), (ovl a s b)) _
    refine Ev.steps (k := 3) (pc' := 455) (L' := [Vr 166, Vi ((f + 1 : Nat) : Int), Vi 3, Vi 0, Vx]) (S' := [Vi (b 166 8)]) (h' := ((SHv st dr rd), (ovl a s b))) (fun _ => rfl) ?_
    rw [hk.2.1]
    refine Ev.call (k := 3) (pc1 := 462) (L1 := [Vr 166, Vi ((f + 1 : Nat) : Int), Vi 3, Vi 0, Vx]) (S1 := [Vi 1, Vr 166]) (h1 := ((SHv st dr rd), (ovl a s b))) (m' := 179) (as := [Vr 166, Vi 1]) (S' := []) (L0 := [Vr 166, Vi 1]) (fun _ => rfl) rfl rfl rfl rfl rfl rfl (m_joins (b0 := b) hN.1 ⟨by omega, by omega⟩ 1 hbo pd c hN.2.1 e38 e45 e48 ebs hst hrk hlo (by omega) (by omega)) (fun r h' hq => ?_)
    obtain ⟨rfl, bq34, rfl, hcdq34, h38q34, h48q34, hfrq34⟩ := hq
    have hfrq34 : JnF j c pd.length b bq34 := hfrq34
    show Ev X _ _ 465 [Vr 166, Vi ((f + 1 : Nat) : Int), Vi 3, Vi 0, Vx] [] ((SHv st dr rd), (ovl a s bq34)) _
    refine Ev.steps (k := 4) (pc' := 471) (L' := [Vr 166, Vi ((f + 1 : Nat) : Int), Vi 3, Vi 0, Vx]) (S' := [Vi 4, Vi ((f + 1 : Nat) : Int), Vr 193]) (h' := ((SHv st dr rd), (ovl a s bq34))) (fun _ => rfl) ?_
    refine Ev.iast (c' := (ovl a s (updC bq34 193 ((f + 1)) 4))) rfl (by decide) rfl (by omega) (by omega) (ovl_wm (by decide)) ?_
    refine Ev.call (k := 1) (pc1 := 473) (L1 := [Vr 166, Vi ((f + 1 : Nat) : Int), Vi 3, Vi 0, Vx]) (S1 := [Vr 166]) (h1 := ((SHv st dr rd), (ovl a s (updC bq34 193 ((f + 1)) 4)))) (m' := 157) (as := [Vr 166]) (S' := []) (L0 := [Vr 166, Vx, Vx, Vx, Vx, Vx]) (fun _ => rfl) rfl rfl rfl rfl rfl rfl (m_nextT (b := (updC bq34 193 ((f + 1)) 4)) ((jn_tk hk hfrq34).up (by omega))) (fun r h' hq => ?_)
    obtain ⟨rfl, bq35, rfl, hq⟩ := hq
    rcases hq with ⟨pq35, hxq35, hoq35⟩ | ⟨eq35, hxq35, hbq35⟩
    · show Ev X _ _ 476 [Vr 166, Vi ((f + 1 : Nat) : Int), Vi 3, Vi 0, Vx] [] ((SHv st dr rd), (ovl a s bq35)) _
      refine Ev.steps (k := 2) (pc' := 478) (L' := [Vr 166, Vi ((f + 1 : Nat) : Int), Vi 3, Vi 0, Vx]) (S' := [Vi 0, Vr 166]) (h' := ((SHv st dr rd), (ovl a s bq35))) (fun _ => rfl) ?_
      refine Ev.putz (c' := (ovl a s (updC bq35 166 49 0))) rfl (by decide) rfl rfl rfl (by decide) (ovl_wm (by decide)) ?_
      refine Ev.fin (k := 2) (r := (some (Vi 1))) (h' := ((SHv st dr rd), (ovl a s (updC bq35 166 49 0)))) (fun _ => rfl) ?_
      refine ⟨1, _, rfl, Or.inr rfl, rfl, Or.inl ⟨pq35, ?_, rfl, (((jn_kp hfrq34 (by omega) : KpM j c om f b bq34).up (by omega)).fn hoq35.1).up (by omega), hoq35.2.up (by omega), codM_u (codM_fn hoq35.1 (codM_u hcdq34 (by omega))) (by omega), ?_, ?_, updC_sm, ?_, ?_, ?_, ?_, ?_, ?_, ?_, ?_, ?_⟩⟩
      · unfold expT; rw [if_neg (by omega)]; exact hxq35
      · rw [updC_nt (by omega)]; exact (hoq35.1 166 38 (by omega)).trans ((updC_nt (by omega)).trans h38q34)
      · rw [updC_nt (by omega)]; exact (hoq35.1 166 48 (by omega)).trans ((updC_nt (by omega)).trans h48q34)
      · rw [updC_nt (by omega)]; exact (hoq35.1 166 45 (by omega)).trans ((updC_nt (by omega)).trans ((hfrq34 166 45 (by omega) (by omega)).trans e45))
      · rw [updC_nt (by omega)]; exact (hoq35.1 166 46 (by omega)).trans ((updC_nt (by omega)).trans ((hfrq34 166 46 (by omega) (by omega)).trans e46))
      · rw [updC_nt (by omega)]; exact (hoq35.1 193 (f + 1) (by omega)).trans updC_sm
      · rw [updC_nt (by omega)]; exact (hoq35.1 194 (f + 1) (by omega)).trans ((updC_nt (by omega)).trans (hfrq34 194 (f + 1) (by omega) (by omega)))
      · rw [updC_nt (by omega)]; exact (hoq35.1 195 (f + 1) (by omega)).trans ((updC_nt (by omega)).trans (hfrq34 195 (f + 1) (by omega) (by omega)))
      · rw [updC_nt (by omega)]; exact (hoq35.1 196 (f + 1) (by omega)).trans ((updC_nt (by omega)).trans (hfrq34 196 (f + 1) (by omega) (by omega)))
      · rw [updC_nt (by omega)]; exact (hoq35.1 197 (f + 1) (by omega)).trans ((updC_nt (by omega)).trans (hfrq34 197 (f + 1) (by omega) (by omega)))
      · rw [updC_nt (by omega)]; exact (hoq35.1 194 f (by omega)).trans ((updC_nt (by omega)).trans (hfrq34 194 f (by omega) (by omega)))
      · rw [updC_nt (by omega)]; exact (hoq35.1 195 f (by omega)).trans ((updC_nt (by omega)).trans (hfrq34 195 f (by omega) (by omega)))
    · show Ev X _ _ 476 [Vr 166, Vi ((f + 1 : Nat) : Int), Vi 3, Vi 0, Vx] [] ((SHv st dr rd), (ovl a s bq35)) _
      refine Ev.steps (k := 2) (pc' := 478) (L' := [Vr 166, Vi ((f + 1 : Nat) : Int), Vi 3, Vi 0, Vx]) (S' := [Vi 0, Vr 166]) (h' := ((SHv st dr rd), (ovl a s bq35))) (fun _ => rfl) ?_
      refine Ev.putz (c' := (ovl a s (updC bq35 166 49 0))) rfl (by decide) rfl rfl rfl (by decide) (ovl_wm (by decide)) ?_
      refine Ev.fin (k := 2) (r := (some (Vi 1))) (h' := ((SHv st dr rd), (ovl a s (updC bq35 166 49 0)))) (fun _ => rfl) ?_
      exact ⟨1, _, rfl, Or.inr rfl, rfl, Or.inr ⟨eq35, (by unfold expT; rw [if_neg (by omega)]; exact hxq35), (hbq35.bk ((jn_kp hfrq34 (by omega) : KpM j c om f b bq34).up (by omega))).up (by omega)⟩⟩
  · rw [if_neg c436]
    show Ev X _ _ 439 [Vr 166, Vi ((f + 1 : Nat) : Int), Vi 3, Vi 0, Vx] [Vi 0] ((SHv st dr rd), (ovl a s b)) _
    refine Ev.steps (k := 5) (pc' := 448) (L' := [Vr 166, Vi ((f + 1 : Nat) : Int), Vi 3, Vi 0, Vx]) (S' := [Vi (b 166 4), Vi 1, Vr 166]) (h' := ((SHv st dr rd), (ovl a s b))) (fun _ => rfl) ?_
    rw [hk.2.2.2.2.1]
    refine Ev.call (k := 0) (pc1 := 448) (L1 := [Vr 166, Vi ((f + 1 : Nat) : Int), Vi 3, Vi 0, Vx]) (S1 := [Vi ((tA W p : Nat) : Int), Vi 1, Vr 166]) (h1 := ((SHv st dr rd), (ovl a s b))) (m' := 160) (as := [Vr 166, Vi 1, Vi ((tA W p : Nat) : Int)]) (S' := []) (L0 := [Vr 166, Vi 1, Vi ((tA W p : Nat) : Int)]) (fun _ => rfl) rfl rfl rfl rfl rfl rfl (m_bl (b := b) hk 1 (by decide)) (fun r h' hq => ?_)
    obtain ⟨rfl, bq36, rfl, hbq36⟩ := hq
    show Ev X _ _ 451 [Vr 166, Vi ((f + 1 : Nat) : Int), Vi 3, Vi 0, Vx] [] ((SHv st dr rd), (ovl a s bq36)) _
    refine Ev.steps (k := 2) (pc' := 455) (L' := [Vr 166, Vi ((f + 1 : Nat) : Int), Vi 3, Vi 0, Vx]) (S' := [Vi (bq36 166 8)]) (h' := ((SHv st dr rd), (ovl a s bq36))) (fun _ => rfl) ?_
    rw [hbq36.2.2.2.1]
    refine Ev.ite (P := (fltT W 1 p).1 ≤ 0) (k := 1) (a := 460) (b := 458) (L' := [Vr 166, Vi ((f + 1 : Nat) : Int), Vi 3, Vi 0, Vx]) (S' := []) (h' := ((SHv st dr rd), (ovl a s bq36))) (fun _ => rfl) (fun b455 => ?_) (fun b455 => ?_)
    · have := hbq36.2.2.1; omega
    · refine Ev.fin (k := 2) (r := (some (Vi 0))) (h' := ((SHv st dr rd), (ovl a s bq36))) (fun _ => rfl) ?_
      exact ⟨0, _, rfl, Or.inl rfl, rfl, Or.inr ⟨(fltT W 1 p), (by unfold expT; rw [if_pos (by omega)]), (hbq36.bk (KpM.rf : KpM j c om f b b))⟩⟩
theorem m_go_k2 {X : List Int} {d : Nat} {st dr rd : Int} {a s b : C3} {W : TXT} {p : Nat} (hk : TkM W p b) {N : SC} {j : Nat} (hN : NmM N b j) {c om f bs : Nat} {pd : List Nat} (e38 : b 166 38 = (c : Int)) (e48 : b 166 48 = ((om + pd.length : Nat) : Int)) (e45 : b 166 45 = ((f + 2 : Nat) : Int)) (e46 : b 166 46 = ((f + 1 : Nat) : Int)) (hf : f ≤ 8) (ebs : b 197 (f + 1) = (bs : Int)) (hbo : bs ≤ om) (hst : stkM (b 198) om pd) (hc : c + pd.length ≤ 1200) (ho : om + pd.length < 500) (hrk : ∀ op, op ∈ pd → 1 ≤ rkM ((op : Nat) : Int)) (hlo : om = bs ∨ rkM (b 198 (om - 1)) < 1) (h193 : b 193 (f + 1) = 2) (hph : b 194 (f + 1) = 0) (hcs : tC W p ≠ 43 ∧ tC W p ≠ 45 ∧ tC W p ≠ 42 ∧ tC W p ≠ 47 ∧ tC W p ≠ 37) : Ev X (d + 2) 178 0 [Vr 166, Vx, Vx, Vx, Vx] [] (SHv st dr rd, ovl a s b) (fun rr hh => ∃ (v : Int) (b' : C3), rr = some (Vi v) ∧ (v = 0 ∨ v = 1) ∧ hh = (SHv st dr rd, ovl a s b') ∧ ResC (expT W 41 p) (fun r => v = 1 ∧ CloM W j c om f (b 194 f) (opL pd) r b b') (fun e => BkM W j c b e b')) := by
  refine Ev.steps (k := 2) (pc' := 4) (L' := [Vr 166, Vx, Vx, Vx, Vx]) (S' := [Vi (b 166 45)]) (h' := ((SHv st dr rd), (ovl a s b))) (fun _ => rfl) ?_
  rw [e45]
  refine Ev.steps (k := 2) (pc' := 6) (L' := [Vr 166, Vx, Vx, Vx, Vx]) (S' := [Vi (w32 (((f + 2 : Nat) : Int) - 1))]) (h' := ((SHv st dr rd), (ovl a s b))) (fun _ => rfl) ?_
  rw [show (w32 (((f + 2 : Nat) : Int) - 1)) = ((f + 1 : Nat) : Int) from (by unfold w32; omega)]
  refine Ev.steps (k := 4) (pc' := 12) (L' := [Vr 166, Vi ((f + 1 : Nat) : Int), Vx, Vx, Vx]) (S' := [Vi ((f + 1 : Nat) : Int), Vr 193]) (h' := ((SHv st dr rd), (ovl a s b))) (fun _ => rfl) ?_
  refine Ev.iald (v := 2) rfl (by decide) rfl (by omega) (by omega) (h193) ?_
  refine Ev.call (k := 2) (pc1 := 15) (L1 := [Vr 166, Vi ((f + 1 : Nat) : Int), Vi 2, Vx, Vx]) (S1 := [Vi 2]) (h1 := ((SHv st dr rd), (ovl a s b))) (m' := 172) (as := [Vi 2]) (S' := []) (L0 := [Vi 2]) (fun _ => rfl) rfl rfl rfl rfl rfl rfl (m_isTest (b := b) 2) (fun r h' hq => ?_)
  obtain ⟨rfl, rfl⟩ := hq
  rw [if_neg (by omega)]
  show Ev X _ _ 18 [Vr 166, Vi ((f + 1 : Nat) : Int), Vi 2, Vx, Vx] [Vi 0] ((SHv st dr rd), (ovl a s b)) _
  refine Ev.steps (k := 4) (pc' := 24) (L' := [Vr 166, Vi ((f + 1 : Nat) : Int), Vi 2, Vi 0, Vx]) (S' := [Vi ((f + 1 : Nat) : Int), Vr 194]) (h' := ((SHv st dr rd), (ovl a s b))) (fun _ => rfl) ?_
  refine Ev.iald (v := 0) rfl (by decide) rfl (by omega) (by omega) (hph) ?_
  refine Ev.call (k := 4) (pc1 := 32) (L1 := [Vr 166, Vi ((f + 1 : Nat) : Int), Vi 2, Vi 0, Vx]) (S1 := [Vi 43, Vr 166]) (h1 := ((SHv st dr rd), (ovl a s b))) (m' := 174) (as := [Vr 166, Vi 43]) (S' := []) (L0 := [Vr 166, Vi 43]) (fun _ => rfl) rfl rfl rfl rfl rfl rfl (k_isSign (b := b) hk 43 (by decide)) (fun r h' hq => ?_)
  obtain ⟨rfl, rfl⟩ := hq
  rw [if_neg (by omega)]
  show Ev X _ _ 35 [Vr 166, Vi ((f + 1 : Nat) : Int), Vi 2, Vi 0, Vx] [Vi 0] ((SHv st dr rd), (ovl a s b)) _
  refine Ev.call (k := 3) (pc1 := 41) (L1 := [Vr 166, Vi ((f + 1 : Nat) : Int), Vi 2, Vi 0, Vx]) (S1 := [Vi 45, Vr 166]) (h1 := ((SHv st dr rd), (ovl a s b))) (m' := 174) (as := [Vr 166, Vi 45]) (S' := []) (L0 := [Vr 166, Vi 45]) (fun _ => rfl) rfl rfl rfl rfl rfl rfl (k_isSign (b := b) hk 45 (by decide)) (fun r h' hq => ?_)
  obtain ⟨rfl, rfl⟩ := hq
  rw [if_neg (by omega)]
  show Ev X _ _ 44 [Vr 166, Vi ((f + 1 : Nat) : Int), Vi 2, Vi 0, Vx] [Vi 0] ((SHv st dr rd), (ovl a s b)) _
  refine Ev.call (k := 3) (pc1 := 50) (L1 := [Vr 166, Vi ((f + 1 : Nat) : Int), Vi 2, Vi 0, Vx]) (S1 := [Vi 42, Vr 166]) (h1 := ((SHv st dr rd), (ovl a s b))) (m' := 174) (as := [Vr 166, Vi 42]) (S' := []) (L0 := [Vr 166, Vi 42]) (fun _ => rfl) rfl rfl rfl rfl rfl rfl (k_isSign (b := b) hk 42 (by decide)) (fun r h' hq => ?_)
  obtain ⟨rfl, rfl⟩ := hq
  rw [if_neg (by omega)]
  show Ev X _ _ 53 [Vr 166, Vi ((f + 1 : Nat) : Int), Vi 2, Vi 0, Vx] [Vi 0] ((SHv st dr rd), (ovl a s b)) _
  refine Ev.call (k := 3) (pc1 := 59) (L1 := [Vr 166, Vi ((f + 1 : Nat) : Int), Vi 2, Vi 0, Vx]) (S1 := [Vi 47, Vr 166]) (h1 := ((SHv st dr rd), (ovl a s b))) (m' := 174) (as := [Vr 166, Vi 47]) (S' := []) (L0 := [Vr 166, Vi 47]) (fun _ => rfl) rfl rfl rfl rfl rfl rfl (k_isSign (b := b) hk 47 (by decide)) (fun r h' hq => ?_)
  obtain ⟨rfl, rfl⟩ := hq
  rw [if_neg (by omega)]
  show Ev X _ _ 62 [Vr 166, Vi ((f + 1 : Nat) : Int), Vi 2, Vi 0, Vx] [Vi 0] ((SHv st dr rd), (ovl a s b)) _
  refine Ev.call (k := 3) (pc1 := 68) (L1 := [Vr 166, Vi ((f + 1 : Nat) : Int), Vi 2, Vi 0, Vx]) (S1 := [Vi 37, Vr 166]) (h1 := ((SHv st dr rd), (ovl a s b))) (m' := 174) (as := [Vr 166, Vi 37]) (S' := []) (L0 := [Vr 166, Vi 37]) (fun _ => rfl) rfl rfl rfl rfl rfl rfl (k_isSign (b := b) hk 37 (by decide)) (fun r h' hq => ?_)
  obtain ⟨rfl, rfl⟩ := hq
  rw [if_neg (by omega)]
  show Ev X _ _ 71 [Vr 166, Vi ((f + 1 : Nat) : Int), Vi 2, Vi 0, Vx] [Vi 0] ((SHv st dr rd), (ovl a s b)) _
  refine Ev.call (k := 18) (pc1 := 496) (L1 := [Vr 166, Vi ((f + 1 : Nat) : Int), Vi 2, Vi 0, Vx]) (S1 := [Vi 41, Vr 166]) (h1 := ((SHv st dr rd), (ovl a s b))) (m' := 174) (as := [Vr 166, Vi 41]) (S' := []) (L0 := [Vr 166, Vi 41]) (fun _ => rfl) rfl rfl rfl rfl rfl rfl (k_isSign (b := b) hk 41 (by decide)) (fun r h' hq => ?_)
  obtain ⟨rfl, rfl⟩ := hq
  by_cases c496 : tC W p = 41
  · rw [if_pos c496]
    show Ev X _ _ 499 [Vr 166, Vi ((f + 1 : Nat) : Int), Vi 2, Vi 0, Vx] [Vi 1] ((SHv st dr rd), (ovl a s b)) _
    refine Ev.steps (k := 3) (pc' := 515) (L' := [Vr 166, Vi ((f + 1 : Nat) : Int), Vi 2, Vi 0, Vx]) (S' := [Vi (b 166 8)]) (h' := ((SHv st dr rd), (ovl a s b))) (fun _ => rfl) ?_
    rw [hk.2.1]
    refine Ev.call (k := 3) (pc1 := 522) (L1 := [Vr 166, Vi ((f + 1 : Nat) : Int), Vi 2, Vi 0, Vx]) (S1 := [Vi 1, Vr 166]) (h1 := ((SHv st dr rd), (ovl a s b))) (m' := 179) (as := [Vr 166, Vi 1]) (S' := []) (L0 := [Vr 166, Vi 1]) (fun _ => rfl) rfl rfl rfl rfl rfl rfl (m_joins (b0 := b) hN.1 ⟨by omega, by omega⟩ 1 hbo pd c hN.2.1 e38 e45 e48 ebs hst hrk hlo (by omega) (by omega)) (fun r h' hq => ?_)
    obtain ⟨rfl, bq37, rfl, hcdq37, h38q37, h48q37, hfrq37⟩ := hq
    have hfrq37 : JnF j c pd.length b bq37 := hfrq37
    show Ev X _ _ 525 [Vr 166, Vi ((f + 1 : Nat) : Int), Vi 2, Vi 0, Vx] [] ((SHv st dr rd), (ovl a s bq37)) _
    refine Ev.steps (k := 3) (pc' := 530) (L' := [Vr 166, Vi ((f + 1 : Nat) : Int), Vi 2, Vi 0, Vx]) (S' := [Vi (bq37 166 45), Vr 166]) (h' := ((SHv st dr rd), (ovl a s bq37))) (fun _ => rfl) ?_
    rw [((hfrq37 166 45 (by omega) (by omega)).trans e45)]
    refine Ev.steps (k := 2) (pc' := 532) (L' := [Vr 166, Vi ((f + 1 : Nat) : Int), Vi 2, Vi 0, Vx]) (S' := [Vi (w32 (((f + 2 : Nat) : Int) - 1)), Vr 166]) (h' := ((SHv st dr rd), (ovl a s bq37))) (fun _ => rfl) ?_
    rw [show (w32 (((f + 2 : Nat) : Int) - 1)) = ((f + 1 : Nat) : Int) from (by unfold w32; omega)]
    refine Ev.putf (c' := (ovl a s (updC bq37 166 45 ((f + 1 : Nat) : Int)))) rfl (by decide) rfl rfl rfl (ovl_wm (by decide)) ?_
    refine Ev.steps (k := 3) (pc' := 540) (L' := [Vr 166, Vi ((f + 1 : Nat) : Int), Vi 2, Vi 0, Vx]) (S' := [Vi (bq37 166 46), Vr 166]) (h' := ((SHv st dr rd), (ovl a s (updC bq37 166 45 ((f + 1 : Nat) : Int))))) (fun _ => rfl) ?_
    rw [((hfrq37 166 46 (by omega) (by omega)).trans e46)]
    refine Ev.steps (k := 2) (pc' := 542) (L' := [Vr 166, Vi ((f + 1 : Nat) : Int), Vi 2, Vi 0, Vx]) (S' := [Vi (w32 (((f + 1 : Nat) : Int) - 1)), Vr 166]) (h' := ((SHv st dr rd), (ovl a s (updC bq37 166 45 ((f + 1 : Nat) : Int))))) (fun _ => rfl) ?_
    rw [show (w32 (((f + 1 : Nat) : Int) - 1)) = (f : Int) from (by unfold w32; omega)]
    refine Ev.putf (c' := (ovl a s (updC (updC bq37 166 45 ((f + 1 : Nat) : Int)) 166 46 (f : Int)))) rfl (by decide) rfl rfl rfl (ovl_wm (by decide)) ?_
    refine Ev.call (k := 7) (pc1 := 579) (L1 := [Vr 166, Vi ((f + 1 : Nat) : Int), Vi 2, Vi 0, Vx]) (S1 := [Vr 166]) (h1 := ((SHv st dr rd), (ovl a s (updC (updC bq37 166 45 ((f + 1 : Nat) : Int)) 166 46 (f : Int))))) (m' := 157) (as := [Vr 166]) (S' := []) (L0 := [Vr 166, Vx, Vx, Vx, Vx, Vx]) (fun _ => rfl) rfl rfl rfl rfl rfl rfl (m_nextT (b := (updC (updC bq37 166 45 ((f + 1 : Nat) : Int)) 166 46 (f : Int))) (((jn_tk hk hfrq37).up (by omega)).up (by omega))) (fun r h' hq => ?_)
    obtain ⟨rfl, bq38, rfl, hq⟩ := hq
    rcases hq with ⟨pq38, hxq38, hoq38⟩ | ⟨eq38, hxq38, hbq38⟩
    · show Ev X _ _ 582 [Vr 166, Vi ((f + 1 : Nat) : Int), Vi 2, Vi 0, Vx] [] ((SHv st dr rd), (ovl a s bq38)) _
      refine Ev.fin (k := 2) (r := (some (Vi 1))) (h' := ((SHv st dr rd), (ovl a s bq38))) (fun _ => rfl) ?_
      refine ⟨1, _, rfl, Or.inr rfl, rfl, Or.inl ⟨pq38, ?_, rfl, CloM.nx hoq38 (((jn_kp hfrq37 (by omega) : KpM j c om f b bq37).up (by omega)).up (by omega)) (codM_u (codM_u hcdq37 (by omega)) (by omega)) (by rw [opL_len]; exact h38q37) h48q37 (by rw [updC_nt (by omega), updC_nt (by omega)]; exact hfrq37 166 49 (by omega) (by omega)) (by rw [updC_nt (by omega), updC_sm]) (by rw [updC_sm]) (by rw [updC_nt (by omega), updC_nt (by omega)]; exact hfrq37 194 f (by omega) (by omega)) (by rw [updC_nt (by omega), updC_nt (by omega)]; exact hfrq37 195 f (by omega) (by omega))⟩⟩
      unfold expT; rw [if_neg (by omega)]; exact hxq38
    · show Ev X _ _ 582 [Vr 166, Vi ((f + 1 : Nat) : Int), Vi 2, Vi 0, Vx] [] ((SHv st dr rd), (ovl a s bq38)) _
      refine Ev.fin (k := 2) (r := (some (Vi 1))) (h' := ((SHv st dr rd), (ovl a s bq38))) (fun _ => rfl) ?_
      exact ⟨1, _, rfl, Or.inr rfl, rfl, Or.inr ⟨eq38, (by unfold expT; rw [if_neg (by omega)]; exact hxq38), (hbq38.bk (((jn_kp hfrq37 (by omega) : KpM j c om f b bq37).up (by omega)).up (by omega)))⟩⟩
  · rw [if_neg c496]
    show Ev X _ _ 499 [Vr 166, Vi ((f + 1 : Nat) : Int), Vi 2, Vi 0, Vx] [Vi 0] ((SHv st dr rd), (ovl a s b)) _
    refine Ev.steps (k := 5) (pc' := 508) (L' := [Vr 166, Vi ((f + 1 : Nat) : Int), Vi 2, Vi 0, Vx]) (S' := [Vi (b 166 4), Vi 1, Vr 166]) (h' := ((SHv st dr rd), (ovl a s b))) (fun _ => rfl) ?_
    rw [hk.2.2.2.2.1]
    refine Ev.call (k := 0) (pc1 := 508) (L1 := [Vr 166, Vi ((f + 1 : Nat) : Int), Vi 2, Vi 0, Vx]) (S1 := [Vi ((tA W p : Nat) : Int), Vi 1, Vr 166]) (h1 := ((SHv st dr rd), (ovl a s b))) (m' := 160) (as := [Vr 166, Vi 1, Vi ((tA W p : Nat) : Int)]) (S' := []) (L0 := [Vr 166, Vi 1, Vi ((tA W p : Nat) : Int)]) (fun _ => rfl) rfl rfl rfl rfl rfl rfl (m_bl (b := b) hk 1 (by decide)) (fun r h' hq => ?_)
    obtain ⟨rfl, bq39, rfl, hbq39⟩ := hq
    show Ev X _ _ 511 [Vr 166, Vi ((f + 1 : Nat) : Int), Vi 2, Vi 0, Vx] [] ((SHv st dr rd), (ovl a s bq39)) _
    refine Ev.steps (k := 2) (pc' := 515) (L' := [Vr 166, Vi ((f + 1 : Nat) : Int), Vi 2, Vi 0, Vx]) (S' := [Vi (bq39 166 8)]) (h' := ((SHv st dr rd), (ovl a s bq39))) (fun _ => rfl) ?_
    rw [hbq39.2.2.2.1]
    refine Ev.ite (P := (fltT W 1 p).1 ≤ 0) (k := 1) (a := 520) (b := 518) (L' := [Vr 166, Vi ((f + 1 : Nat) : Int), Vi 2, Vi 0, Vx]) (S' := []) (h' := ((SHv st dr rd), (ovl a s bq39))) (fun _ => rfl) (fun b515 => ?_) (fun b515 => ?_)
    · have := hbq39.2.2.1; omega
    · refine Ev.fin (k := 2) (r := (some (Vi 0))) (h' := ((SHv st dr rd), (ovl a s bq39))) (fun _ => rfl) ?_
      exact ⟨0, _, rfl, Or.inl rfl, rfl, Or.inr ⟨(fltT W 1 p), (by unfold expT; rw [if_pos (by omega)]), (hbq39.bk (KpM.rf : KpM j c om f b b))⟩⟩
theorem m_go_k4 {X : List Int} {d : Nat} {st dr rd : Int} {a s b : C3} {W : TXT} {p : Nat} (hk : TkM W p b) {N : SC} {j : Nat} (hN : NmM N b j) {c om f bs : Nat} {pd : List Nat} (e38 : b 166 38 = (c : Int)) (e48 : b 166 48 = ((om + pd.length : Nat) : Int)) (e45 : b 166 45 = ((f + 2 : Nat) : Int)) (e46 : b 166 46 = ((f + 1 : Nat) : Int)) (hf : f ≤ 8) (ebs : b 197 (f + 1) = (bs : Int)) (hbo : bs ≤ om) (hst : stkM (b 198) om pd) (hc : c + pd.length ≤ 1200) (ho : om + pd.length < 500) (hrk : ∀ op, op ∈ pd → 1 ≤ rkM ((op : Nat) : Int)) (hlo : om = bs ∨ rkM (b 198 (om - 1)) < 1) (h193 : b 193 (f + 1) = 4) (hph : b 194 (f + 1) = 0) (hcs : tC W p ≠ 43 ∧ tC W p ≠ 45 ∧ tC W p ≠ 42 ∧ tC W p ≠ 47 ∧ tC W p ≠ 37) {q : Nat} (hpr : b 196 (f + 1) = (q : Int)) (hc4 : tC W p = 41 → c + pd.length < 1200) : Ev X (d + 2) 178 0 [Vr 166, Vx, Vx, Vx, Vx] [] (SHv st dr rd, ovl a s b) (fun rr hh => ∃ (v : Int) (b' : C3), rr = some (Vi v) ∧ (v = 0 ∨ v = 1) ∧ hh = (SHv st dr rd, ovl a s b') ∧ ResC (expT W 41 p) (fun r => v = 1 ∧ CloM W j c om f (b 194 f) (opL pd ++ [(q, 0)]) r b b') (fun e => BkM W j c b e b')) := by
  refine Ev.steps (k := 2) (pc' := 4) (L' := [Vr 166, Vx, Vx, Vx, Vx]) (S' := [Vi (b 166 45)]) (h' := ((SHv st dr rd), (ovl a s b))) (fun _ => rfl) ?_
  rw [e45]
  refine Ev.steps (k := 2) (pc' := 6) (L' := [Vr 166, Vx, Vx, Vx, Vx]) (S' := [Vi (w32 (((f + 2 : Nat) : Int) - 1))]) (h' := ((SHv st dr rd), (ovl a s b))) (fun _ => rfl) ?_
  rw [show (w32 (((f + 2 : Nat) : Int) - 1)) = ((f + 1 : Nat) : Int) from (by unfold w32; omega)]
  refine Ev.steps (k := 4) (pc' := 12) (L' := [Vr 166, Vi ((f + 1 : Nat) : Int), Vx, Vx, Vx]) (S' := [Vi ((f + 1 : Nat) : Int), Vr 193]) (h' := ((SHv st dr rd), (ovl a s b))) (fun _ => rfl) ?_
  refine Ev.iald (v := 4) rfl (by decide) rfl (by omega) (by omega) (h193) ?_
  refine Ev.call (k := 2) (pc1 := 15) (L1 := [Vr 166, Vi ((f + 1 : Nat) : Int), Vi 4, Vx, Vx]) (S1 := [Vi 4]) (h1 := ((SHv st dr rd), (ovl a s b))) (m' := 172) (as := [Vi 4]) (S' := []) (L0 := [Vi 4]) (fun _ => rfl) rfl rfl rfl rfl rfl rfl (m_isTest (b := b) 4) (fun r h' hq => ?_)
  obtain ⟨rfl, rfl⟩ := hq
  rw [if_neg (by omega)]
  show Ev X _ _ 18 [Vr 166, Vi ((f + 1 : Nat) : Int), Vi 4, Vx, Vx] [Vi 0] ((SHv st dr rd), (ovl a s b)) _
  refine Ev.steps (k := 4) (pc' := 24) (L' := [Vr 166, Vi ((f + 1 : Nat) : Int), Vi 4, Vi 0, Vx]) (S' := [Vi ((f + 1 : Nat) : Int), Vr 194]) (h' := ((SHv st dr rd), (ovl a s b))) (fun _ => rfl) ?_
  refine Ev.iald (v := 0) rfl (by decide) rfl (by omega) (by omega) (hph) ?_
  refine Ev.call (k := 4) (pc1 := 32) (L1 := [Vr 166, Vi ((f + 1 : Nat) : Int), Vi 4, Vi 0, Vx]) (S1 := [Vi 43, Vr 166]) (h1 := ((SHv st dr rd), (ovl a s b))) (m' := 174) (as := [Vr 166, Vi 43]) (S' := []) (L0 := [Vr 166, Vi 43]) (fun _ => rfl) rfl rfl rfl rfl rfl rfl (k_isSign (b := b) hk 43 (by decide)) (fun r h' hq => ?_)
  obtain ⟨rfl, rfl⟩ := hq
  rw [if_neg (by omega)]
  show Ev X _ _ 35 [Vr 166, Vi ((f + 1 : Nat) : Int), Vi 4, Vi 0, Vx] [Vi 0] ((SHv st dr rd), (ovl a s b)) _
  refine Ev.call (k := 3) (pc1 := 41) (L1 := [Vr 166, Vi ((f + 1 : Nat) : Int), Vi 4, Vi 0, Vx]) (S1 := [Vi 45, Vr 166]) (h1 := ((SHv st dr rd), (ovl a s b))) (m' := 174) (as := [Vr 166, Vi 45]) (S' := []) (L0 := [Vr 166, Vi 45]) (fun _ => rfl) rfl rfl rfl rfl rfl rfl (k_isSign (b := b) hk 45 (by decide)) (fun r h' hq => ?_)
  obtain ⟨rfl, rfl⟩ := hq
  rw [if_neg (by omega)]
  show Ev X _ _ 44 [Vr 166, Vi ((f + 1 : Nat) : Int), Vi 4, Vi 0, Vx] [Vi 0] ((SHv st dr rd), (ovl a s b)) _
  refine Ev.call (k := 3) (pc1 := 50) (L1 := [Vr 166, Vi ((f + 1 : Nat) : Int), Vi 4, Vi 0, Vx]) (S1 := [Vi 42, Vr 166]) (h1 := ((SHv st dr rd), (ovl a s b))) (m' := 174) (as := [Vr 166, Vi 42]) (S' := []) (L0 := [Vr 166, Vi 42]) (fun _ => rfl) rfl rfl rfl rfl rfl rfl (k_isSign (b := b) hk 42 (by decide)) (fun r h' hq => ?_)
  obtain ⟨rfl, rfl⟩ := hq
  rw [if_neg (by omega)]
  show Ev X _ _ 53 [Vr 166, Vi ((f + 1 : Nat) : Int), Vi 4, Vi 0, Vx] [Vi 0] ((SHv st dr rd), (ovl a s b)) _
  refine Ev.call (k := 3) (pc1 := 59) (L1 := [Vr 166, Vi ((f + 1 : Nat) : Int), Vi 4, Vi 0, Vx]) (S1 := [Vi 47, Vr 166]) (h1 := ((SHv st dr rd), (ovl a s b))) (m' := 174) (as := [Vr 166, Vi 47]) (S' := []) (L0 := [Vr 166, Vi 47]) (fun _ => rfl) rfl rfl rfl rfl rfl rfl (k_isSign (b := b) hk 47 (by decide)) (fun r h' hq => ?_)
  obtain ⟨rfl, rfl⟩ := hq
  rw [if_neg (by omega)]
  show Ev X _ _ 62 [Vr 166, Vi ((f + 1 : Nat) : Int), Vi 4, Vi 0, Vx] [Vi 0] ((SHv st dr rd), (ovl a s b)) _
  refine Ev.call (k := 3) (pc1 := 68) (L1 := [Vr 166, Vi ((f + 1 : Nat) : Int), Vi 4, Vi 0, Vx]) (S1 := [Vi 37, Vr 166]) (h1 := ((SHv st dr rd), (ovl a s b))) (m' := 174) (as := [Vr 166, Vi 37]) (S' := []) (L0 := [Vr 166, Vi 37]) (fun _ => rfl) rfl rfl rfl rfl rfl rfl (k_isSign (b := b) hk 37 (by decide)) (fun r h' hq => ?_)
  obtain ⟨rfl, rfl⟩ := hq
  rw [if_neg (by omega)]
  show Ev X _ _ 71 [Vr 166, Vi ((f + 1 : Nat) : Int), Vi 4, Vi 0, Vx] [Vi 0] ((SHv st dr rd), (ovl a s b)) _
  refine Ev.call (k := 18) (pc1 := 496) (L1 := [Vr 166, Vi ((f + 1 : Nat) : Int), Vi 4, Vi 0, Vx]) (S1 := [Vi 41, Vr 166]) (h1 := ((SHv st dr rd), (ovl a s b))) (m' := 174) (as := [Vr 166, Vi 41]) (S' := []) (L0 := [Vr 166, Vi 41]) (fun _ => rfl) rfl rfl rfl rfl rfl rfl (k_isSign (b := b) hk 41 (by decide)) (fun r h' hq => ?_)
  obtain ⟨rfl, rfl⟩ := hq
  by_cases c496 : tC W p = 41
  · rw [if_pos c496]
    show Ev X _ _ 499 [Vr 166, Vi ((f + 1 : Nat) : Int), Vi 4, Vi 0, Vx] [Vi 1] ((SHv st dr rd), (ovl a s b)) _
    refine Ev.steps (k := 3) (pc' := 515) (L' := [Vr 166, Vi ((f + 1 : Nat) : Int), Vi 4, Vi 0, Vx]) (S' := [Vi (b 166 8)]) (h' := ((SHv st dr rd), (ovl a s b))) (fun _ => rfl) ?_
    rw [hk.2.1]
    refine Ev.call (k := 3) (pc1 := 522) (L1 := [Vr 166, Vi ((f + 1 : Nat) : Int), Vi 4, Vi 0, Vx]) (S1 := [Vi 1, Vr 166]) (h1 := ((SHv st dr rd), (ovl a s b))) (m' := 179) (as := [Vr 166, Vi 1]) (S' := []) (L0 := [Vr 166, Vi 1]) (fun _ => rfl) rfl rfl rfl rfl rfl rfl (m_joins (b0 := b) hN.1 ⟨by omega, by omega⟩ 1 hbo pd c hN.2.1 e38 e45 e48 ebs hst hrk hlo (by omega) (by omega)) (fun r h' hq => ?_)
    obtain ⟨rfl, bq40, rfl, hcdq40, h38q40, h48q40, hfrq40⟩ := hq
    have hfrq40 : JnF j c pd.length b bq40 := hfrq40
    show Ev X _ _ 525 [Vr 166, Vi ((f + 1 : Nat) : Int), Vi 4, Vi 0, Vx] [] ((SHv st dr rd), (ovl a s bq40)) _
    refine Ev.steps (k := 3) (pc' := 530) (L' := [Vr 166, Vi ((f + 1 : Nat) : Int), Vi 4, Vi 0, Vx]) (S' := [Vi (bq40 166 45), Vr 166]) (h' := ((SHv st dr rd), (ovl a s bq40))) (fun _ => rfl) ?_
    rw [((hfrq40 166 45 (by omega) (by omega)).trans e45)]
    refine Ev.steps (k := 2) (pc' := 532) (L' := [Vr 166, Vi ((f + 1 : Nat) : Int), Vi 4, Vi 0, Vx]) (S' := [Vi (w32 (((f + 2 : Nat) : Int) - 1)), Vr 166]) (h' := ((SHv st dr rd), (ovl a s bq40))) (fun _ => rfl) ?_
    rw [show (w32 (((f + 2 : Nat) : Int) - 1)) = ((f + 1 : Nat) : Int) from (by unfold w32; omega)]
    refine Ev.putf (c' := (ovl a s (updC bq40 166 45 ((f + 1 : Nat) : Int)))) rfl (by decide) rfl rfl rfl (ovl_wm (by decide)) ?_
    refine Ev.steps (k := 3) (pc' := 540) (L' := [Vr 166, Vi ((f + 1 : Nat) : Int), Vi 4, Vi 0, Vx]) (S' := [Vi (bq40 166 46), Vr 166]) (h' := ((SHv st dr rd), (ovl a s (updC bq40 166 45 ((f + 1 : Nat) : Int))))) (fun _ => rfl) ?_
    rw [((hfrq40 166 46 (by omega) (by omega)).trans e46)]
    refine Ev.steps (k := 2) (pc' := 542) (L' := [Vr 166, Vi ((f + 1 : Nat) : Int), Vi 4, Vi 0, Vx]) (S' := [Vi (w32 (((f + 1 : Nat) : Int) - 1)), Vr 166]) (h' := ((SHv st dr rd), (ovl a s (updC bq40 166 45 ((f + 1 : Nat) : Int))))) (fun _ => rfl) ?_
    rw [show (w32 (((f + 1 : Nat) : Int) - 1)) = (f : Int) from (by unfold w32; omega)]
    refine Ev.putf (c' := (ovl a s (updC (updC bq40 166 45 ((f + 1 : Nat) : Int)) 166 46 (f : Int)))) rfl (by decide) rfl rfl rfl (ovl_wm (by decide)) ?_
    refine Ev.steps (k := 7) (pc' := 556) (L' := [Vr 166, Vi ((f + 1 : Nat) : Int), Vi 4, Vi 0, Vx]) (S' := [Vi ((f + 1 : Nat) : Int), Vr 196, Vr 166]) (h' := ((SHv st dr rd), (ovl a s (updC (updC bq40 166 45 ((f + 1 : Nat) : Int)) 166 46 (f : Int))))) (fun _ => rfl) ?_
    refine Ev.iald (v := (q : Int)) rfl (by decide) rfl (by omega) (by omega) (((hfrq40 196 (f + 1) (by omega) (by omega)).trans hpr)) ?_
    refine Ev.call (k := 1) (pc1 := 558) (L1 := [Vr 166, Vi ((f + 1 : Nat) : Int), Vi 4, Vi 0, Vx]) (S1 := [Vi 0, Vi (q : Int), Vr 166]) (h1 := ((SHv st dr rd), (ovl a s (updC (updC bq40 166 45 ((f + 1 : Nat) : Int)) 166 46 (f : Int))))) (m' := 176) (as := [Vr 166, Vi (q : Int), Vi 0]) (S' := []) (L0 := [Vr 166, Vi (q : Int), Vi 0]) (fun _ => rfl) rfl rfl rfl rfl rfl rfl (m_add (b := (updC (updC bq40 166 45 ((f + 1 : Nat) : Int)) 166 46 (f : Int))) hN.1 ((hfrq40 166 39 (by omega) (by omega)).trans hN.2.1) h38q40 (hc4 (by omega)) (q : Int) 0) (fun r h' hq => ?_)
    obtain ⟨rfl, rfl⟩ := hq
    show Ev X _ _ 561 [Vr 166, Vi ((f + 1 : Nat) : Int), Vi 4, Vi 0, Vx] [] ((SHv st dr rd), (ovl a s (updC (updC (updC (updC (updC bq40 166 45 ((f + 1 : Nat) : Int)) 166 46 (f : Int)) 191 ((1200 * j + (c + pd.length))) (q : Int)) 192 ((1200 * j + (c + pd.length))) 0) 166 38 (((c + pd.length : Nat) : Int) + 1)))) _
    refine Ev.call (k := 4) (pc1 := 579) (L1 := [Vr 166, Vi ((f + 1 : Nat) : Int), Vi 4, Vi 0, Vx]) (S1 := [Vr 166]) (h1 := ((SHv st dr rd), (ovl a s (updC (updC (updC (updC (updC bq40 166 45 ((f + 1 : Nat) : Int)) 166 46 (f : Int)) 191 ((1200 * j + (c + pd.length))) (q : Int)) 192 ((1200 * j + (c + pd.length))) 0) 166 38 (((c + pd.length : Nat) : Int) + 1))))) (m' := 157) (as := [Vr 166]) (S' := []) (L0 := [Vr 166, Vx, Vx, Vx, Vx, Vx]) (fun _ => rfl) rfl rfl rfl rfl rfl rfl (m_nextT (b := (updC (updC (updC (updC (updC bq40 166 45 ((f + 1 : Nat) : Int)) 166 46 (f : Int)) 191 ((1200 * j + (c + pd.length))) (q : Int)) 192 ((1200 * j + (c + pd.length))) 0) 166 38 (((c + pd.length : Nat) : Int) + 1))) ((((((jn_tk hk hfrq40).up (by omega)).up (by omega)).up (by omega)).up (by omega)).up (by omega))) (fun r h' hq => ?_)
    obtain ⟨rfl, bq41, rfl, hq⟩ := hq
    rcases hq with ⟨pq41, hxq41, hoq41⟩ | ⟨eq41, hxq41, hbq41⟩
    · show Ev X _ _ 582 [Vr 166, Vi ((f + 1 : Nat) : Int), Vi 4, Vi 0, Vx] [] ((SHv st dr rd), (ovl a s bq41)) _
      refine Ev.fin (k := 2) (r := (some (Vi 1))) (h' := ((SHv st dr rd), (ovl a s bq41))) (fun _ => rfl) ?_
      refine ⟨1, _, rfl, Or.inr rfl, rfl, Or.inl ⟨pq41, ?_, rfl, CloM.nx hoq41 ((((((jn_kp hfrq40 (by omega) : KpM j c om f b bq40).up (by omega)).up (by omega)).up (by omega)).up (by omega)).up (by omega)) (by have h := codM_ad (b := (updC (updC bq40 166 45 ((f + 1 : Nat) : Int)) 166 46 (f : Int))) (k := 1200 * j + c) (l := opL pd) (w := ((c + pd.length : Nat) : Int) + 1) (qi := (q : Int)) (vi := 0) (q := q) (v := 0) (codM_u (codM_u hcdq40 (by omega)) (by omega)) rfl rfl; rw [opL_len, Nat.add_assoc] at h; exact h) (by rw [updC_sm, List.length_append, opL_len]; show ((c + pd.length : Nat) : Int) + 1 = ((c + (pd.length + 1) : Nat) : Int); omega) h48q40 (by rw [updC_nt (by omega), updC_nt (by omega), updC_nt (by omega), updC_nt (by omega), updC_nt (by omega)]; exact hfrq40 166 49 (by omega) (by omega)) (by rw [updC_nt (by omega), updC_nt (by omega), updC_nt (by omega), updC_nt (by omega), updC_sm]) (by rw [updC_nt (by omega), updC_nt (by omega), updC_nt (by omega), updC_sm]) (by rw [updC_nt (by omega), updC_nt (by omega), updC_nt (by omega), updC_nt (by omega), updC_nt (by omega)]; exact hfrq40 194 f (by omega) (by omega)) (by rw [updC_nt (by omega), updC_nt (by omega), updC_nt (by omega), updC_nt (by omega), updC_nt (by omega)]; exact hfrq40 195 f (by omega) (by omega))⟩⟩
      unfold expT; rw [if_neg (by omega)]; exact hxq41
    · show Ev X _ _ 582 [Vr 166, Vi ((f + 1 : Nat) : Int), Vi 4, Vi 0, Vx] [] ((SHv st dr rd), (ovl a s bq41)) _
      refine Ev.fin (k := 2) (r := (some (Vi 1))) (h' := ((SHv st dr rd), (ovl a s bq41))) (fun _ => rfl) ?_
      exact ⟨1, _, rfl, Or.inr rfl, rfl, Or.inr ⟨eq41, (by unfold expT; rw [if_neg (by omega)]; exact hxq41), (hbq41.bk ((((((jn_kp hfrq40 (by omega) : KpM j c om f b bq40).up (by omega)).up (by omega)).up (by omega)).up (by omega)).up (by omega)))⟩⟩
  · rw [if_neg c496]
    show Ev X _ _ 499 [Vr 166, Vi ((f + 1 : Nat) : Int), Vi 4, Vi 0, Vx] [Vi 0] ((SHv st dr rd), (ovl a s b)) _
    refine Ev.steps (k := 5) (pc' := 508) (L' := [Vr 166, Vi ((f + 1 : Nat) : Int), Vi 4, Vi 0, Vx]) (S' := [Vi (b 166 4), Vi 1, Vr 166]) (h' := ((SHv st dr rd), (ovl a s b))) (fun _ => rfl) ?_
    rw [hk.2.2.2.2.1]
    refine Ev.call (k := 0) (pc1 := 508) (L1 := [Vr 166, Vi ((f + 1 : Nat) : Int), Vi 4, Vi 0, Vx]) (S1 := [Vi ((tA W p : Nat) : Int), Vi 1, Vr 166]) (h1 := ((SHv st dr rd), (ovl a s b))) (m' := 160) (as := [Vr 166, Vi 1, Vi ((tA W p : Nat) : Int)]) (S' := []) (L0 := [Vr 166, Vi 1, Vi ((tA W p : Nat) : Int)]) (fun _ => rfl) rfl rfl rfl rfl rfl rfl (m_bl (b := b) hk 1 (by decide)) (fun r h' hq => ?_)
    obtain ⟨rfl, bq42, rfl, hbq42⟩ := hq
    show Ev X _ _ 511 [Vr 166, Vi ((f + 1 : Nat) : Int), Vi 4, Vi 0, Vx] [] ((SHv st dr rd), (ovl a s bq42)) _
    refine Ev.steps (k := 2) (pc' := 515) (L' := [Vr 166, Vi ((f + 1 : Nat) : Int), Vi 4, Vi 0, Vx]) (S' := [Vi (bq42 166 8)]) (h' := ((SHv st dr rd), (ovl a s bq42))) (fun _ => rfl) ?_
    rw [hbq42.2.2.2.1]
    refine Ev.ite (P := (fltT W 1 p).1 ≤ 0) (k := 1) (a := 520) (b := 518) (L' := [Vr 166, Vi ((f + 1 : Nat) : Int), Vi 4, Vi 0, Vx]) (S' := []) (h' := ((SHv st dr rd), (ovl a s bq42))) (fun _ => rfl) (fun b515 => ?_) (fun b515 => ?_)
    · have := hbq42.2.2.1; omega
    · refine Ev.fin (k := 2) (r := (some (Vi 0))) (h' := ((SHv st dr rd), (ovl a s bq42))) (fun _ => rfl) ?_
      exact ⟨0, _, rfl, Or.inl rfl, rfl, Or.inr ⟨(fltT W 1 p), (by unfold expT; rw [if_pos (by omega)]), (hbq42.bk (KpM.rf : KpM j c om f b b))⟩⟩
theorem m_go_k5 {X : List Int} {d : Nat} {st dr rd : Int} {a s b : C3} {W : TXT} {p : Nat} (hk : TkM W p b) {N : SC} {j : Nat} (hN : NmM N b j) {c om f bs : Nat} {pd : List Nat} (e38 : b 166 38 = (c : Int)) (e48 : b 166 48 = ((om + pd.length : Nat) : Int)) (e45 : b 166 45 = ((f + 2 : Nat) : Int)) (e46 : b 166 46 = ((f + 1 : Nat) : Int)) (hf : f ≤ 8) (ebs : b 197 (f + 1) = (bs : Int)) (hbo : bs ≤ om) (hst : stkM (b 198) om pd) (hc : c + pd.length ≤ 1200) (ho : om + pd.length < 500) (hrk : ∀ op, op ∈ pd → 1 ≤ rkM ((op : Nat) : Int)) (hlo : om = bs ∨ rkM (b 198 (om - 1)) < 1) (h193 : b 193 (f + 1) = 5) (hph : b 194 (f + 1) = 2 ∨ (b 194 (f + 1) = 1 ∧ tC W p ≠ 43 ∧ tC W p ≠ 45 ∧ tC W p ≠ 42 ∧ tC W p ≠ 47 ∧ tC W p ≠ 37)) (hct : tC W p ≠ 269 ∧ tC W p ≠ 270) : Ev X (d + 2) 178 0 [Vr 166, Vx, Vx, Vx, Vx] [] (SHv st dr rd, ovl a s b) (fun rr hh => ∃ (v : Int) (b' : C3), rr = some (Vi v) ∧ (v = 0 ∨ v = 1) ∧ hh = (SHv st dr rd, ovl a s b') ∧ ResC (expT W 93 p) (fun r => v = 1 ∧ CloM W j c om f 2 (opL pd) r b b') (fun e => BkM W j c b e b')) := by
  refine Ev.steps (k := 2) (pc' := 4) (L' := [Vr 166, Vx, Vx, Vx, Vx]) (S' := [Vi (b 166 45)]) (h' := ((SHv st dr rd), (ovl a s b))) (fun _ => rfl) ?_
  rw [e45]
  refine Ev.steps (k := 2) (pc' := 6) (L' := [Vr 166, Vx, Vx, Vx, Vx]) (S' := [Vi (w32 (((f + 2 : Nat) : Int) - 1))]) (h' := ((SHv st dr rd), (ovl a s b))) (fun _ => rfl) ?_
  rw [show (w32 (((f + 2 : Nat) : Int) - 1)) = ((f + 1 : Nat) : Int) from (by unfold w32; omega)]
  refine Ev.steps (k := 4) (pc' := 12) (L' := [Vr 166, Vi ((f + 1 : Nat) : Int), Vx, Vx, Vx]) (S' := [Vi ((f + 1 : Nat) : Int), Vr 193]) (h' := ((SHv st dr rd), (ovl a s b))) (fun _ => rfl) ?_
  refine Ev.iald (v := 5) rfl (by decide) rfl (by omega) (by omega) (h193) ?_
  refine Ev.call (k := 2) (pc1 := 15) (L1 := [Vr 166, Vi ((f + 1 : Nat) : Int), Vi 5, Vx, Vx]) (S1 := [Vi 5]) (h1 := ((SHv st dr rd), (ovl a s b))) (m' := 172) (as := [Vi 5]) (S' := []) (L0 := [Vi 5]) (fun _ => rfl) rfl rfl rfl rfl rfl rfl (m_isTest (b := b) 5) (fun r h' hq => ?_)
  obtain ⟨rfl, rfl⟩ := hq
  rw [if_pos (by omega)]
  show Ev X _ _ 18 [Vr 166, Vi ((f + 1 : Nat) : Int), Vi 5, Vx, Vx] [Vi 1] ((SHv st dr rd), (ovl a s b)) _
  refine Ev.steps (k := 4) (pc' := 24) (L' := [Vr 166, Vi ((f + 1 : Nat) : Int), Vi 5, Vi 1, Vx]) (S' := [Vi ((f + 1 : Nat) : Int), Vr 194]) (h' := ((SHv st dr rd), (ovl a s b))) (fun _ => rfl) ?_
  refine Ev.iald (v := (b 194 ((f + 1)))) rfl (by decide) rfl (by omega) (by omega) (rfl) ?_
  refine Ev.ite (P := 2 ≤ (b 194 ((f + 1)))) (k := 2) (a := 175) (b := 29) (L' := [Vr 166, Vi ((f + 1 : Nat) : Int), Vi 5, Vi 1, Vx]) (S' := []) (h' := ((SHv st dr rd), (ovl a s b))) (fun _ => rfl) (fun b26 => ?_) (fun b26 => ?_)
  · refine Ev.steps (k := 5) (pc' := 184) (L' := [Vr 166, Vi ((f + 1 : Nat) : Int), Vi 5, Vi 1, Vx]) (S' := [Vi ((f + 1 : Nat) : Int), Vr 194]) (h' := ((SHv st dr rd), (ovl a s b))) (fun _ => rfl) ?_
    refine Ev.iald (v := (b 194 ((f + 1)))) rfl (by decide) rfl (by omega) (by omega) (rfl) ?_
    refine Ev.ite (P := (b 194 ((f + 1))) ≠ 0) (k := 1) (a := 272) (b := 188) (L' := [Vr 166, Vi ((f + 1 : Nat) : Int), Vi 5, Vi 1, Vx]) (S' := []) (h' := ((SHv st dr rd), (ovl a s b))) (fun _ => rfl) (fun b185 => ?_) (fun b185 => ?_)
    · refine Ev.call (k := 4) (pc1 := 280) (L1 := [Vr 166, Vi ((f + 1 : Nat) : Int), Vi 5, Vi 1, Vx]) (S1 := [Vl 6385252, Vr 166]) (h1 := ((SHv st dr rd), (ovl a s b))) (m' := 162) (as := [Vr 166, Vl 6385252]) (S' := []) (L0 := [Vr 166, Vl 6385252, Vx]) (fun _ => rfl) rfl rfl rfl rfl rfl rfl (k_isWord (b := b) hk 14 (by decide) 6385252 (by decide)) (fun r h' hq => ?_)
      obtain ⟨rfl, rfl⟩ := hq
      rw [if_neg (by omega)]
      show Ev X _ _ 283 [Vr 166, Vi ((f + 1 : Nat) : Int), Vi 5, Vi 1, Vx] [Vi 0] ((SHv st dr rd), (ovl a s b)) _
      refine Ev.call (k := 3) (pc1 := 290) (L1 := [Vr 166, Vi ((f + 1 : Nat) : Int), Vi 5, Vi 1, Vx]) (S1 := [Vl 28530, Vr 166]) (h1 := ((SHv st dr rd), (ovl a s b))) (m' := 162) (as := [Vr 166, Vl 28530]) (S' := []) (L0 := [Vr 166, Vl 28530, Vx]) (fun _ => rfl) rfl rfl rfl rfl rfl rfl (k_isWord (b := b) hk 13 (by decide) 28530 (by decide)) (fun r h' hq => ?_)
      obtain ⟨rfl, rfl⟩ := hq
      rw [if_neg (by omega)]
      show Ev X _ _ 293 [Vr 166, Vi ((f + 1 : Nat) : Int), Vi 5, Vi 1, Vx] [Vi 0] ((SHv st dr rd), (ovl a s b)) _
      refine Ev.steps (k := 6) (pc' := 396) (L' := [Vr 166, Vi ((f + 1 : Nat) : Int), Vi 5, Vi 1, Vx]) (S' := [Vi ((f + 1 : Nat) : Int), Vr 194]) (h' := ((SHv st dr rd), (ovl a s b))) (fun _ => rfl) ?_
      refine Ev.iald (v := (b 194 ((f + 1)))) rfl (by decide) rfl (by omega) (by omega) (rfl) ?_
      refine Ev.ite (P := (b 194 ((f + 1))) ≠ 0) (k := 1) (a := 409) (b := 400) (L' := [Vr 166, Vi ((f + 1 : Nat) : Int), Vi 5, Vi 1, Vx]) (S' := []) (h' := ((SHv st dr rd), (ovl a s b))) (fun _ => rfl) (fun b397 => ?_) (fun b397 => ?_)
      · refine Ev.call (k := 12) (pc1 := 496) (L1 := [Vr 166, Vi ((f + 1 : Nat) : Int), Vi 5, Vi 1, Vx]) (S1 := [Vi 93, Vr 166]) (h1 := ((SHv st dr rd), (ovl a s b))) (m' := 174) (as := [Vr 166, Vi 93]) (S' := []) (L0 := [Vr 166, Vi 93]) (fun _ => rfl) rfl rfl rfl rfl rfl rfl (k_isSign (b := b) hk 93 (by decide)) (fun r h' hq => ?_)
        obtain ⟨rfl, rfl⟩ := hq
        by_cases c496 : tC W p = 93
        · rw [if_pos c496]
          show Ev X _ _ 499 [Vr 166, Vi ((f + 1 : Nat) : Int), Vi 5, Vi 1, Vx] [Vi 1] ((SHv st dr rd), (ovl a s b)) _
          refine Ev.steps (k := 3) (pc' := 515) (L' := [Vr 166, Vi ((f + 1 : Nat) : Int), Vi 5, Vi 1, Vx]) (S' := [Vi (b 166 8)]) (h' := ((SHv st dr rd), (ovl a s b))) (fun _ => rfl) ?_
          rw [hk.2.1]
          refine Ev.call (k := 3) (pc1 := 522) (L1 := [Vr 166, Vi ((f + 1 : Nat) : Int), Vi 5, Vi 1, Vx]) (S1 := [Vi 1, Vr 166]) (h1 := ((SHv st dr rd), (ovl a s b))) (m' := 179) (as := [Vr 166, Vi 1]) (S' := []) (L0 := [Vr 166, Vi 1]) (fun _ => rfl) rfl rfl rfl rfl rfl rfl (m_joins (b0 := b) hN.1 ⟨by omega, by omega⟩ 1 hbo pd c hN.2.1 e38 e45 e48 ebs hst hrk hlo (by omega) (by omega)) (fun r h' hq => ?_)
          obtain ⟨rfl, bq43, rfl, hcdq43, h38q43, h48q43, hfrq43⟩ := hq
          have hfrq43 : JnF j c pd.length b bq43 := hfrq43
          show Ev X _ _ 525 [Vr 166, Vi ((f + 1 : Nat) : Int), Vi 5, Vi 1, Vx] [] ((SHv st dr rd), (ovl a s bq43)) _
          refine Ev.steps (k := 3) (pc' := 530) (L' := [Vr 166, Vi ((f + 1 : Nat) : Int), Vi 5, Vi 1, Vx]) (S' := [Vi (bq43 166 45), Vr 166]) (h' := ((SHv st dr rd), (ovl a s bq43))) (fun _ => rfl) ?_
          rw [((hfrq43 166 45 (by omega) (by omega)).trans e45)]
          refine Ev.steps (k := 2) (pc' := 532) (L' := [Vr 166, Vi ((f + 1 : Nat) : Int), Vi 5, Vi 1, Vx]) (S' := [Vi (w32 (((f + 2 : Nat) : Int) - 1)), Vr 166]) (h' := ((SHv st dr rd), (ovl a s bq43))) (fun _ => rfl) ?_
          rw [show (w32 (((f + 2 : Nat) : Int) - 1)) = ((f + 1 : Nat) : Int) from (by unfold w32; omega)]
          refine Ev.putf (c' := (ovl a s (updC bq43 166 45 ((f + 1 : Nat) : Int)))) rfl (by decide) rfl rfl rfl (ovl_wm (by decide)) ?_
          refine Ev.steps (k := 3) (pc' := 540) (L' := [Vr 166, Vi ((f + 1 : Nat) : Int), Vi 5, Vi 1, Vx]) (S' := [Vi (bq43 166 46), Vr 166]) (h' := ((SHv st dr rd), (ovl a s (updC bq43 166 45 ((f + 1 : Nat) : Int))))) (fun _ => rfl) ?_
          rw [((hfrq43 166 46 (by omega) (by omega)).trans e46)]
          refine Ev.steps (k := 2) (pc' := 542) (L' := [Vr 166, Vi ((f + 1 : Nat) : Int), Vi 5, Vi 1, Vx]) (S' := [Vi (w32 (((f + 1 : Nat) : Int) - 1)), Vr 166]) (h' := ((SHv st dr rd), (ovl a s (updC bq43 166 45 ((f + 1 : Nat) : Int))))) (fun _ => rfl) ?_
          rw [show (w32 (((f + 1 : Nat) : Int) - 1)) = (f : Int) from (by unfold w32; omega)]
          refine Ev.putf (c' := (ovl a s (updC (updC bq43 166 45 ((f + 1 : Nat) : Int)) 166 46 (f : Int)))) rfl (by decide) rfl rfl rfl (ovl_wm (by decide)) ?_
          refine Ev.steps (k := 12) (pc' := 576) (L' := [Vr 166, Vi ((f + 1 : Nat) : Int), Vi 5, Vi 1, Vx]) (S' := [Vi (w32 (((f + 1 : Nat) : Int) - 1)), Vr 194]) (h' := ((SHv st dr rd), (ovl a s (updC (updC bq43 166 45 ((f + 1 : Nat) : Int)) 166 46 (f : Int))))) (fun _ => rfl) ?_
          rw [show (w32 (((f + 1 : Nat) : Int) - 1)) = (f : Int) from (by unfold w32; omega)]
          refine Ev.steps (k := 1) (pc' := 577) (L' := [Vr 166, Vi ((f + 1 : Nat) : Int), Vi 5, Vi 1, Vx]) (S' := [Vi 2, Vi (f : Int), Vr 194]) (h' := ((SHv st dr rd), (ovl a s (updC (updC bq43 166 45 ((f + 1 : Nat) : Int)) 166 46 (f : Int))))) (fun _ => rfl) ?_
          refine Ev.iast (c' := (ovl a s (updC (updC (updC bq43 166 45 ((f + 1 : Nat) : Int)) 166 46 (f : Int)) 194 f 2))) rfl (by decide) rfl (by omega) (by omega) (ovl_wm (by decide)) ?_
          refine Ev.call (k := 1) (pc1 := 579) (L1 := [Vr 166, Vi ((f + 1 : Nat) : Int), Vi 5, Vi 1, Vx]) (S1 := [Vr 166]) (h1 := ((SHv st dr rd), (ovl a s (updC (updC (updC bq43 166 45 ((f + 1 : Nat) : Int)) 166 46 (f : Int)) 194 f 2)))) (m' := 157) (as := [Vr 166]) (S' := []) (L0 := [Vr 166, Vx, Vx, Vx, Vx, Vx]) (fun _ => rfl) rfl rfl rfl rfl rfl rfl (m_nextT (b := (updC (updC (updC bq43 166 45 ((f + 1 : Nat) : Int)) 166 46 (f : Int)) 194 f 2)) ((((jn_tk hk hfrq43).up (by omega)).up (by omega)).up (by omega))) (fun r h' hq => ?_)
          obtain ⟨rfl, bq44, rfl, hq⟩ := hq
          rcases hq with ⟨pq44, hxq44, hoq44⟩ | ⟨eq44, hxq44, hbq44⟩
          · show Ev X _ _ 582 [Vr 166, Vi ((f + 1 : Nat) : Int), Vi 5, Vi 1, Vx] [] ((SHv st dr rd), (ovl a s bq44)) _
            refine Ev.fin (k := 2) (r := (some (Vi 1))) (h' := ((SHv st dr rd), (ovl a s bq44))) (fun _ => rfl) ?_
            refine ⟨1, _, rfl, Or.inr rfl, rfl, Or.inl ⟨pq44, ?_, rfl, CloM.nx hoq44 ((((jn_kp hfrq43 (by omega) : KpM j c om f b bq43).up (by omega)).up (by omega)).up (by omega)) (codM_u (codM_u (codM_u hcdq43 (by omega)) (by omega)) (by omega)) (by rw [opL_len]; exact h38q43) h48q43 (by rw [updC_nt (by omega), updC_nt (by omega), updC_nt (by omega)]; exact hfrq43 166 49 (by omega) (by omega)) (by rw [updC_nt (by omega), updC_nt (by omega), updC_sm]) (by rw [updC_nt (by omega), updC_sm]) updC_sm (by rw [updC_nt (by omega), updC_nt (by omega), updC_nt (by omega)]; exact hfrq43 195 f (by omega) (by omega))⟩⟩
            unfold expT; rw [if_neg (by omega)]; exact hxq44
          · show Ev X _ _ 582 [Vr 166, Vi ((f + 1 : Nat) : Int), Vi 5, Vi 1, Vx] [] ((SHv st dr rd), (ovl a s bq44)) _
            refine Ev.fin (k := 2) (r := (some (Vi 1))) (h' := ((SHv st dr rd), (ovl a s bq44))) (fun _ => rfl) ?_
            exact ⟨1, _, rfl, Or.inr rfl, rfl, Or.inr ⟨eq44, (by unfold expT; rw [if_neg (by omega)]; exact hxq44), (hbq44.bk ((((jn_kp hfrq43 (by omega) : KpM j c om f b bq43).up (by omega)).up (by omega)).up (by omega)))⟩⟩
        · rw [if_neg c496]
          show Ev X _ _ 499 [Vr 166, Vi ((f + 1 : Nat) : Int), Vi 5, Vi 1, Vx] [Vi 0] ((SHv st dr rd), (ovl a s b)) _
          refine Ev.steps (k := 5) (pc' := 508) (L' := [Vr 166, Vi ((f + 1 : Nat) : Int), Vi 5, Vi 1, Vx]) (S' := [Vi (b 166 4), Vi 1, Vr 166]) (h' := ((SHv st dr rd), (ovl a s b))) (fun _ => rfl) ?_
          rw [hk.2.2.2.2.1]
          refine Ev.call (k := 0) (pc1 := 508) (L1 := [Vr 166, Vi ((f + 1 : Nat) : Int), Vi 5, Vi 1, Vx]) (S1 := [Vi ((tA W p : Nat) : Int), Vi 1, Vr 166]) (h1 := ((SHv st dr rd), (ovl a s b))) (m' := 160) (as := [Vr 166, Vi 1, Vi ((tA W p : Nat) : Int)]) (S' := []) (L0 := [Vr 166, Vi 1, Vi ((tA W p : Nat) : Int)]) (fun _ => rfl) rfl rfl rfl rfl rfl rfl (m_bl (b := b) hk 1 (by decide)) (fun r h' hq => ?_)
          obtain ⟨rfl, bq45, rfl, hbq45⟩ := hq
          show Ev X _ _ 511 [Vr 166, Vi ((f + 1 : Nat) : Int), Vi 5, Vi 1, Vx] [] ((SHv st dr rd), (ovl a s bq45)) _
          refine Ev.steps (k := 2) (pc' := 515) (L' := [Vr 166, Vi ((f + 1 : Nat) : Int), Vi 5, Vi 1, Vx]) (S' := [Vi (bq45 166 8)]) (h' := ((SHv st dr rd), (ovl a s bq45))) (fun _ => rfl) ?_
          rw [hbq45.2.2.2.1]
          refine Ev.ite (P := (fltT W 1 p).1 ≤ 0) (k := 1) (a := 520) (b := 518) (L' := [Vr 166, Vi ((f + 1 : Nat) : Int), Vi 5, Vi 1, Vx]) (S' := []) (h' := ((SHv st dr rd), (ovl a s bq45))) (fun _ => rfl) (fun b515 => ?_) (fun b515 => ?_)
          · have := hbq45.2.2.1; omega
          · refine Ev.fin (k := 2) (r := (some (Vi 0))) (h' := ((SHv st dr rd), (ovl a s bq45))) (fun _ => rfl) ?_
            exact ⟨0, _, rfl, Or.inl rfl, rfl, Or.inr ⟨(fltT W 1 p), (by unfold expT; rw [if_pos (by omega)]), (hbq45.bk (KpM.rf : KpM j c om f b b))⟩⟩
      · omega
    · omega
  · refine Ev.call (k := 2) (pc1 := 32) (L1 := [Vr 166, Vi ((f + 1 : Nat) : Int), Vi 5, Vi 1, Vx]) (S1 := [Vi 43, Vr 166]) (h1 := ((SHv st dr rd), (ovl a s b))) (m' := 174) (as := [Vr 166, Vi 43]) (S' := []) (L0 := [Vr 166, Vi 43]) (fun _ => rfl) rfl rfl rfl rfl rfl rfl (k_isSign (b := b) hk 43 (by decide)) (fun r h' hq => ?_)
    obtain ⟨rfl, rfl⟩ := hq
    rw [if_neg (by omega)]
    show Ev X _ _ 35 [Vr 166, Vi ((f + 1 : Nat) : Int), Vi 5, Vi 1, Vx] [Vi 0] ((SHv st dr rd), (ovl a s b)) _
    refine Ev.call (k := 3) (pc1 := 41) (L1 := [Vr 166, Vi ((f + 1 : Nat) : Int), Vi 5, Vi 1, Vx]) (S1 := [Vi 45, Vr 166]) (h1 := ((SHv st dr rd), (ovl a s b))) (m' := 174) (as := [Vr 166, Vi 45]) (S' := []) (L0 := [Vr 166, Vi 45]) (fun _ => rfl) rfl rfl rfl rfl rfl rfl (k_isSign (b := b) hk 45 (by decide)) (fun r h' hq => ?_)
    obtain ⟨rfl, rfl⟩ := hq
    rw [if_neg (by omega)]
    show Ev X _ _ 44 [Vr 166, Vi ((f + 1 : Nat) : Int), Vi 5, Vi 1, Vx] [Vi 0] ((SHv st dr rd), (ovl a s b)) _
    refine Ev.call (k := 3) (pc1 := 50) (L1 := [Vr 166, Vi ((f + 1 : Nat) : Int), Vi 5, Vi 1, Vx]) (S1 := [Vi 42, Vr 166]) (h1 := ((SHv st dr rd), (ovl a s b))) (m' := 174) (as := [Vr 166, Vi 42]) (S' := []) (L0 := [Vr 166, Vi 42]) (fun _ => rfl) rfl rfl rfl rfl rfl rfl (k_isSign (b := b) hk 42 (by decide)) (fun r h' hq => ?_)
    obtain ⟨rfl, rfl⟩ := hq
    rw [if_neg (by omega)]
    show Ev X _ _ 53 [Vr 166, Vi ((f + 1 : Nat) : Int), Vi 5, Vi 1, Vx] [Vi 0] ((SHv st dr rd), (ovl a s b)) _
    refine Ev.call (k := 3) (pc1 := 59) (L1 := [Vr 166, Vi ((f + 1 : Nat) : Int), Vi 5, Vi 1, Vx]) (S1 := [Vi 47, Vr 166]) (h1 := ((SHv st dr rd), (ovl a s b))) (m' := 174) (as := [Vr 166, Vi 47]) (S' := []) (L0 := [Vr 166, Vi 47]) (fun _ => rfl) rfl rfl rfl rfl rfl rfl (k_isSign (b := b) hk 47 (by decide)) (fun r h' hq => ?_)
    obtain ⟨rfl, rfl⟩ := hq
    rw [if_neg (by omega)]
    show Ev X _ _ 62 [Vr 166, Vi ((f + 1 : Nat) : Int), Vi 5, Vi 1, Vx] [Vi 0] ((SHv st dr rd), (ovl a s b)) _
    refine Ev.call (k := 3) (pc1 := 68) (L1 := [Vr 166, Vi ((f + 1 : Nat) : Int), Vi 5, Vi 1, Vx]) (S1 := [Vi 37, Vr 166]) (h1 := ((SHv st dr rd), (ovl a s b))) (m' := 174) (as := [Vr 166, Vi 37]) (S' := []) (L0 := [Vr 166, Vi 37]) (fun _ => rfl) rfl rfl rfl rfl rfl rfl (k_isSign (b := b) hk 37 (by decide)) (fun r h' hq => ?_)
    obtain ⟨rfl, rfl⟩ := hq
    rw [if_neg (by omega)]
    show Ev X _ _ 71 [Vr 166, Vi ((f + 1 : Nat) : Int), Vi 5, Vi 1, Vx] [Vi 0] ((SHv st dr rd), (ovl a s b)) _
    refine Ev.steps (k := 6) (pc' := 184) (L' := [Vr 166, Vi ((f + 1 : Nat) : Int), Vi 5, Vi 1, Vx]) (S' := [Vi ((f + 1 : Nat) : Int), Vr 194]) (h' := ((SHv st dr rd), (ovl a s b))) (fun _ => rfl) ?_
    refine Ev.iald (v := (b 194 ((f + 1)))) rfl (by decide) rfl (by omega) (by omega) (rfl) ?_
    refine Ev.ite (P := (b 194 ((f + 1))) ≠ 0) (k := 1) (a := 272) (b := 188) (L' := [Vr 166, Vi ((f + 1 : Nat) : Int), Vi 5, Vi 1, Vx]) (S' := []) (h' := ((SHv st dr rd), (ovl a s b))) (fun _ => rfl) (fun b185 => ?_) (fun b185 => ?_)
    · refine Ev.call (k := 4) (pc1 := 280) (L1 := [Vr 166, Vi ((f + 1 : Nat) : Int), Vi 5, Vi 1, Vx]) (S1 := [Vl 6385252, Vr 166]) (h1 := ((SHv st dr rd), (ovl a s b))) (m' := 162) (as := [Vr 166, Vl 6385252]) (S' := []) (L0 := [Vr 166, Vl 6385252, Vx]) (fun _ => rfl) rfl rfl rfl rfl rfl rfl (k_isWord (b := b) hk 14 (by decide) 6385252 (by decide)) (fun r h' hq => ?_)
      obtain ⟨rfl, rfl⟩ := hq
      rw [if_neg (by omega)]
      show Ev X _ _ 283 [Vr 166, Vi ((f + 1 : Nat) : Int), Vi 5, Vi 1, Vx] [Vi 0] ((SHv st dr rd), (ovl a s b)) _
      refine Ev.call (k := 3) (pc1 := 290) (L1 := [Vr 166, Vi ((f + 1 : Nat) : Int), Vi 5, Vi 1, Vx]) (S1 := [Vl 28530, Vr 166]) (h1 := ((SHv st dr rd), (ovl a s b))) (m' := 162) (as := [Vr 166, Vl 28530]) (S' := []) (L0 := [Vr 166, Vl 28530, Vx]) (fun _ => rfl) rfl rfl rfl rfl rfl rfl (k_isWord (b := b) hk 13 (by decide) 28530 (by decide)) (fun r h' hq => ?_)
      obtain ⟨rfl, rfl⟩ := hq
      rw [if_neg (by omega)]
      show Ev X _ _ 293 [Vr 166, Vi ((f + 1 : Nat) : Int), Vi 5, Vi 1, Vx] [Vi 0] ((SHv st dr rd), (ovl a s b)) _
      refine Ev.steps (k := 6) (pc' := 396) (L' := [Vr 166, Vi ((f + 1 : Nat) : Int), Vi 5, Vi 1, Vx]) (S' := [Vi ((f + 1 : Nat) : Int), Vr 194]) (h' := ((SHv st dr rd), (ovl a s b))) (fun _ => rfl) ?_
      refine Ev.iald (v := (b 194 ((f + 1)))) rfl (by decide) rfl (by omega) (by omega) (rfl) ?_
      refine Ev.ite (P := (b 194 ((f + 1))) ≠ 0) (k := 1) (a := 409) (b := 400) (L' := [Vr 166, Vi ((f + 1 : Nat) : Int), Vi 5, Vi 1, Vx]) (S' := []) (h' := ((SHv st dr rd), (ovl a s b))) (fun _ => rfl) (fun b397 => ?_) (fun b397 => ?_)
      · refine Ev.call (k := 12) (pc1 := 496) (L1 := [Vr 166, Vi ((f + 1 : Nat) : Int), Vi 5, Vi 1, Vx]) (S1 := [Vi 93, Vr 166]) (h1 := ((SHv st dr rd), (ovl a s b))) (m' := 174) (as := [Vr 166, Vi 93]) (S' := []) (L0 := [Vr 166, Vi 93]) (fun _ => rfl) rfl rfl rfl rfl rfl rfl (k_isSign (b := b) hk 93 (by decide)) (fun r h' hq => ?_)
        obtain ⟨rfl, rfl⟩ := hq
        by_cases c496 : tC W p = 93
        · rw [if_pos c496]
          show Ev X _ _ 499 [Vr 166, Vi ((f + 1 : Nat) : Int), Vi 5, Vi 1, Vx] [Vi 1] ((SHv st dr rd), (ovl a s b)) _
          refine Ev.steps (k := 3) (pc' := 515) (L' := [Vr 166, Vi ((f + 1 : Nat) : Int), Vi 5, Vi 1, Vx]) (S' := [Vi (b 166 8)]) (h' := ((SHv st dr rd), (ovl a s b))) (fun _ => rfl) ?_
          rw [hk.2.1]
          refine Ev.call (k := 3) (pc1 := 522) (L1 := [Vr 166, Vi ((f + 1 : Nat) : Int), Vi 5, Vi 1, Vx]) (S1 := [Vi 1, Vr 166]) (h1 := ((SHv st dr rd), (ovl a s b))) (m' := 179) (as := [Vr 166, Vi 1]) (S' := []) (L0 := [Vr 166, Vi 1]) (fun _ => rfl) rfl rfl rfl rfl rfl rfl (m_joins (b0 := b) hN.1 ⟨by omega, by omega⟩ 1 hbo pd c hN.2.1 e38 e45 e48 ebs hst hrk hlo (by omega) (by omega)) (fun r h' hq => ?_)
          obtain ⟨rfl, bq46, rfl, hcdq46, h38q46, h48q46, hfrq46⟩ := hq
          have hfrq46 : JnF j c pd.length b bq46 := hfrq46
          show Ev X _ _ 525 [Vr 166, Vi ((f + 1 : Nat) : Int), Vi 5, Vi 1, Vx] [] ((SHv st dr rd), (ovl a s bq46)) _
          refine Ev.steps (k := 3) (pc' := 530) (L' := [Vr 166, Vi ((f + 1 : Nat) : Int), Vi 5, Vi 1, Vx]) (S' := [Vi (bq46 166 45), Vr 166]) (h' := ((SHv st dr rd), (ovl a s bq46))) (fun _ => rfl) ?_
          rw [((hfrq46 166 45 (by omega) (by omega)).trans e45)]
          refine Ev.steps (k := 2) (pc' := 532) (L' := [Vr 166, Vi ((f + 1 : Nat) : Int), Vi 5, Vi 1, Vx]) (S' := [Vi (w32 (((f + 2 : Nat) : Int) - 1)), Vr 166]) (h' := ((SHv st dr rd), (ovl a s bq46))) (fun _ => rfl) ?_
          rw [show (w32 (((f + 2 : Nat) : Int) - 1)) = ((f + 1 : Nat) : Int) from (by unfold w32; omega)]
          refine Ev.putf (c' := (ovl a s (updC bq46 166 45 ((f + 1 : Nat) : Int)))) rfl (by decide) rfl rfl rfl (ovl_wm (by decide)) ?_
          refine Ev.steps (k := 3) (pc' := 540) (L' := [Vr 166, Vi ((f + 1 : Nat) : Int), Vi 5, Vi 1, Vx]) (S' := [Vi (bq46 166 46), Vr 166]) (h' := ((SHv st dr rd), (ovl a s (updC bq46 166 45 ((f + 1 : Nat) : Int))))) (fun _ => rfl) ?_
          rw [((hfrq46 166 46 (by omega) (by omega)).trans e46)]
          refine Ev.steps (k := 2) (pc' := 542) (L' := [Vr 166, Vi ((f + 1 : Nat) : Int), Vi 5, Vi 1, Vx]) (S' := [Vi (w32 (((f + 1 : Nat) : Int) - 1)), Vr 166]) (h' := ((SHv st dr rd), (ovl a s (updC bq46 166 45 ((f + 1 : Nat) : Int))))) (fun _ => rfl) ?_
          rw [show (w32 (((f + 1 : Nat) : Int) - 1)) = (f : Int) from (by unfold w32; omega)]
          refine Ev.putf (c' := (ovl a s (updC (updC bq46 166 45 ((f + 1 : Nat) : Int)) 166 46 (f : Int)))) rfl (by decide) rfl rfl rfl (ovl_wm (by decide)) ?_
          refine Ev.steps (k := 12) (pc' := 576) (L' := [Vr 166, Vi ((f + 1 : Nat) : Int), Vi 5, Vi 1, Vx]) (S' := [Vi (w32 (((f + 1 : Nat) : Int) - 1)), Vr 194]) (h' := ((SHv st dr rd), (ovl a s (updC (updC bq46 166 45 ((f + 1 : Nat) : Int)) 166 46 (f : Int))))) (fun _ => rfl) ?_
          rw [show (w32 (((f + 1 : Nat) : Int) - 1)) = (f : Int) from (by unfold w32; omega)]
          refine Ev.steps (k := 1) (pc' := 577) (L' := [Vr 166, Vi ((f + 1 : Nat) : Int), Vi 5, Vi 1, Vx]) (S' := [Vi 2, Vi (f : Int), Vr 194]) (h' := ((SHv st dr rd), (ovl a s (updC (updC bq46 166 45 ((f + 1 : Nat) : Int)) 166 46 (f : Int))))) (fun _ => rfl) ?_
          refine Ev.iast (c' := (ovl a s (updC (updC (updC bq46 166 45 ((f + 1 : Nat) : Int)) 166 46 (f : Int)) 194 f 2))) rfl (by decide) rfl (by omega) (by omega) (ovl_wm (by decide)) ?_
          refine Ev.call (k := 1) (pc1 := 579) (L1 := [Vr 166, Vi ((f + 1 : Nat) : Int), Vi 5, Vi 1, Vx]) (S1 := [Vr 166]) (h1 := ((SHv st dr rd), (ovl a s (updC (updC (updC bq46 166 45 ((f + 1 : Nat) : Int)) 166 46 (f : Int)) 194 f 2)))) (m' := 157) (as := [Vr 166]) (S' := []) (L0 := [Vr 166, Vx, Vx, Vx, Vx, Vx]) (fun _ => rfl) rfl rfl rfl rfl rfl rfl (m_nextT (b := (updC (updC (updC bq46 166 45 ((f + 1 : Nat) : Int)) 166 46 (f : Int)) 194 f 2)) ((((jn_tk hk hfrq46).up (by omega)).up (by omega)).up (by omega))) (fun r h' hq => ?_)
          obtain ⟨rfl, bq47, rfl, hq⟩ := hq
          rcases hq with ⟨pq47, hxq47, hoq47⟩ | ⟨eq47, hxq47, hbq47⟩
          · show Ev X _ _ 582 [Vr 166, Vi ((f + 1 : Nat) : Int), Vi 5, Vi 1, Vx] [] ((SHv st dr rd), (ovl a s bq47)) _
            refine Ev.fin (k := 2) (r := (some (Vi 1))) (h' := ((SHv st dr rd), (ovl a s bq47))) (fun _ => rfl) ?_
            refine ⟨1, _, rfl, Or.inr rfl, rfl, Or.inl ⟨pq47, ?_, rfl, CloM.nx hoq47 ((((jn_kp hfrq46 (by omega) : KpM j c om f b bq46).up (by omega)).up (by omega)).up (by omega)) (codM_u (codM_u (codM_u hcdq46 (by omega)) (by omega)) (by omega)) (by rw [opL_len]; exact h38q46) h48q46 (by rw [updC_nt (by omega), updC_nt (by omega), updC_nt (by omega)]; exact hfrq46 166 49 (by omega) (by omega)) (by rw [updC_nt (by omega), updC_nt (by omega), updC_sm]) (by rw [updC_nt (by omega), updC_sm]) updC_sm (by rw [updC_nt (by omega), updC_nt (by omega), updC_nt (by omega)]; exact hfrq46 195 f (by omega) (by omega))⟩⟩
            unfold expT; rw [if_neg (by omega)]; exact hxq47
          · show Ev X _ _ 582 [Vr 166, Vi ((f + 1 : Nat) : Int), Vi 5, Vi 1, Vx] [] ((SHv st dr rd), (ovl a s bq47)) _
            refine Ev.fin (k := 2) (r := (some (Vi 1))) (h' := ((SHv st dr rd), (ovl a s bq47))) (fun _ => rfl) ?_
            exact ⟨1, _, rfl, Or.inr rfl, rfl, Or.inr ⟨eq47, (by unfold expT; rw [if_neg (by omega)]; exact hxq47), (hbq47.bk ((((jn_kp hfrq46 (by omega) : KpM j c om f b bq46).up (by omega)).up (by omega)).up (by omega)))⟩⟩
        · rw [if_neg c496]
          show Ev X _ _ 499 [Vr 166, Vi ((f + 1 : Nat) : Int), Vi 5, Vi 1, Vx] [Vi 0] ((SHv st dr rd), (ovl a s b)) _
          refine Ev.steps (k := 5) (pc' := 508) (L' := [Vr 166, Vi ((f + 1 : Nat) : Int), Vi 5, Vi 1, Vx]) (S' := [Vi (b 166 4), Vi 1, Vr 166]) (h' := ((SHv st dr rd), (ovl a s b))) (fun _ => rfl) ?_
          rw [hk.2.2.2.2.1]
          refine Ev.call (k := 0) (pc1 := 508) (L1 := [Vr 166, Vi ((f + 1 : Nat) : Int), Vi 5, Vi 1, Vx]) (S1 := [Vi ((tA W p : Nat) : Int), Vi 1, Vr 166]) (h1 := ((SHv st dr rd), (ovl a s b))) (m' := 160) (as := [Vr 166, Vi 1, Vi ((tA W p : Nat) : Int)]) (S' := []) (L0 := [Vr 166, Vi 1, Vi ((tA W p : Nat) : Int)]) (fun _ => rfl) rfl rfl rfl rfl rfl rfl (m_bl (b := b) hk 1 (by decide)) (fun r h' hq => ?_)
          obtain ⟨rfl, bq48, rfl, hbq48⟩ := hq
          show Ev X _ _ 511 [Vr 166, Vi ((f + 1 : Nat) : Int), Vi 5, Vi 1, Vx] [] ((SHv st dr rd), (ovl a s bq48)) _
          refine Ev.steps (k := 2) (pc' := 515) (L' := [Vr 166, Vi ((f + 1 : Nat) : Int), Vi 5, Vi 1, Vx]) (S' := [Vi (bq48 166 8)]) (h' := ((SHv st dr rd), (ovl a s bq48))) (fun _ => rfl) ?_
          rw [hbq48.2.2.2.1]
          refine Ev.ite (P := (fltT W 1 p).1 ≤ 0) (k := 1) (a := 520) (b := 518) (L' := [Vr 166, Vi ((f + 1 : Nat) : Int), Vi 5, Vi 1, Vx]) (S' := []) (h' := ((SHv st dr rd), (ovl a s bq48))) (fun _ => rfl) (fun b515 => ?_) (fun b515 => ?_)
          · have := hbq48.2.2.1; omega
          · refine Ev.fin (k := 2) (r := (some (Vi 0))) (h' := ((SHv st dr rd), (ovl a s bq48))) (fun _ => rfl) ?_
            exact ⟨0, _, rfl, Or.inl rfl, rfl, Or.inr ⟨(fltT W 1 p), (by unfold expT; rw [if_pos (by omega)]), (hbq48.bk (KpM.rf : KpM j c om f b b))⟩⟩
      · omega
    · omega
