/-! THE REFERENCE READS: sums and tests, piece by piece -/
variable {X : List Int} {d : Nat} {st dr rd t : Int} {a s b : C3} {Q : Option pm_V → pm_H → Prop}
theorem m_rdO {R : Int → C3 → Prop} (e49 : b 166 49 = 0) (H : Ev X (d + 4) 171 0 [Vr 166, Vx, Vx, Vx] [] (SHv st dr rd, ovl a s b) (fun rr hh => ∃ (v : Int) (b' : C3), rr = some (Vi v) ∧ (v = 0 ∨ v = 1) ∧ hh = (SHv st dr rd, ovl a s b') ∧ R v b')) (K : ∀ (v : Int) (b' : C3), R v b' → (b' 166 8 = 0 ∧ Ev X (d + 5) 169 43 [Vr 166, Vi t, Vi 1] [] (SHv st dr rd, ovl a s (updC b' 166 49 v)) Q) ∨ (0 < b' 166 8 ∧ Q none (SHv st dr rd, ovl a s (updC b' 166 49 v)))) : Ev X (d + 5) 169 43 [Vr 166, Vi t, Vi 1] [] (SHv st dr rd, ovl a s b) Q := by
  refine Ev.steps (k := 4) (pc' := 51) (L' := [Vr 166, Vi t, Vi 1]) (S' := [Vi (b 166 49)]) (h' := ((SHv st dr rd), (ovl a s b))) (fun _ => rfl) ?_
  rw [e49]
  refine Ev.call (k := 3) (pc1 := 56) (L1 := [Vr 166, Vi t, Vi 1]) (S1 := [Vr 166, Vr 166]) (h1 := ((SHv st dr rd), (ovl a s b))) (m' := 171) (as := [Vr 166]) (S' := [Vr 166]) (L0 := [Vr 166, Vx, Vx, Vx]) (fun _ => rfl) rfl rfl rfl rfl rfl rfl (H) (fun r h' hq => ?_)
  obtain ⟨v, b1, rfl, hv, rfl, hR⟩ := hq
  show Ev X _ _ 59 [Vr 166, Vi t, Vi 1] [Vi v, Vr 166] ((SHv st dr rd), (ovl a s b1)) _
  refine Ev.putz (c' := (ovl a s (updC b1 166 49 v))) rfl (by decide) rfl rfl rfl (by omega) (ovl_wm (by decide)) ?_
  refine Ev.ite (P := (b1 166 8) ≠ 0) (k := 6) (a := 85) (b := 81) (L' := [Vr 166, Vi t, Vi 1]) (S' := []) (h' := ((SHv st dr rd), (ovl a s (updC b1 166 49 v)))) (fun _ => rfl) (fun b78 => ?_) (fun b78 => ?_)
  · refine Ev.steps (k := 3) (pc' := 43) (L' := [Vr 166, Vi t, Vi 0]) (S' := []) (h' := ((SHv st dr rd), (ovl a s (updC b1 166 49 v)))) (fun _ => rfl) ?_
    refine Ev.fin (k := 3) (r := none) (h' := ((SHv st dr rd), (ovl a s (updC b1 166 49 v)))) (fun _ => rfl) ?_
    rcases K v b1 hR with ⟨h, -⟩ | ⟨-, h⟩
    · exact absurd h b78
    · exact h
  · refine Ev.steps (k := 4) (pc' := 43) (L' := [Vr 166, Vi t, Vi 1]) (S' := []) (h' := ((SHv st dr rd), (ovl a s (updC b1 166 49 v)))) (fun _ => rfl) ?_
    rcases K v b1 hR with ⟨-, h⟩ | ⟨h, -⟩
    · exact h
    · exfalso; exact b78 (by omega)
theorem m_rdG {R : Int → C3 → Prop} (e49 : b 166 49 = 1) (H : Ev X (d + 4) 178 0 [Vr 166, Vx, Vx, Vx, Vx] [] (SHv st dr rd, ovl a s b) (fun rr hh => ∃ (v : Int) (b' : C3), rr = some (Vi v) ∧ (v = 0 ∨ v = 1) ∧ hh = (SHv st dr rd, ovl a s b') ∧ R v b')) (K : ∀ (v : Int) (b' : C3), R v b' → (v = 1 ∧ b' 166 8 = 0 ∧ Ev X (d + 5) 169 43 [Vr 166, Vi t, Vi 1] [] (SHv st dr rd, ovl a s b') Q) ∨ ((v = 0 ∨ 0 < b' 166 8) ∧ Q none (SHv st dr rd, ovl a s b'))) : Ev X (d + 5) 169 43 [Vr 166, Vi t, Vi 1] [] (SHv st dr rd, ovl a s b) Q := by
  refine Ev.steps (k := 4) (pc' := 51) (L' := [Vr 166, Vi t, Vi 1]) (S' := [Vi (b 166 49)]) (h' := ((SHv st dr rd), (ovl a s b))) (fun _ => rfl) ?_
  rw [e49]
  refine Ev.call (k := 2) (pc1 := 66) (L1 := [Vr 166, Vi t, Vi 1]) (S1 := [Vr 166]) (h1 := ((SHv st dr rd), (ovl a s b))) (m' := 178) (as := [Vr 166]) (S' := []) (L0 := [Vr 166, Vx, Vx, Vx, Vx]) (fun _ => rfl) rfl rfl rfl rfl rfl rfl (H) (fun r h' hq => ?_)
  obtain ⟨v, b1, rfl, hv, rfl, hR⟩ := hq
  show Ev X _ _ 69 [Vr 166, Vi t, Vi 1] [Vi v] ((SHv st dr rd), (ovl a s b1)) _
  refine Ev.ite (P := v = 0) (k := 3) (a := 85) (b := 74) (L' := [Vr 166, Vi t, Vi v]) (S' := []) (h' := ((SHv st dr rd), (ovl a s b1))) (fun _ => rfl) (fun b71 => ?_) (fun b71 => ?_)
  · refine Ev.steps (k := 3) (pc' := 43) (L' := [Vr 166, Vi t, Vi 0]) (S' := []) (h' := ((SHv st dr rd), (ovl a s b1))) (fun _ => rfl) ?_
    refine Ev.fin (k := 3) (r := none) (h' := ((SHv st dr rd), (ovl a s b1))) (fun _ => rfl) ?_
    rcases K v b1 hR with ⟨h1, h2, -⟩ | ⟨-, h⟩
    · exfalso; omega
    · exact h
  · refine Ev.ite (P := (b1 166 8) ≠ 0) (k := 3) (a := 85) (b := 81) (L' := [Vr 166, Vi t, Vi v]) (S' := []) (h' := ((SHv st dr rd), (ovl a s b1))) (fun _ => rfl) (fun b78 => ?_) (fun b78 => ?_)
    · refine Ev.steps (k := 3) (pc' := 43) (L' := [Vr 166, Vi t, Vi 0]) (S' := []) (h' := ((SHv st dr rd), (ovl a s b1))) (fun _ => rfl) ?_
      refine Ev.fin (k := 3) (r := none) (h' := ((SHv st dr rd), (ovl a s b1))) (fun _ => rfl) ?_
      rcases K v b1 hR with ⟨h1, h2, -⟩ | ⟨-, h⟩
      · exfalso; omega
      · exact h
    · refine Ev.steps (k := 4) (pc' := 43) (L' := [Vr 166, Vi t, Vi 1]) (S' := []) (h' := ((SHv st dr rd), (ovl a s b1))) (fun _ => rfl) ?_
      rcases K v b1 hR with ⟨h1, -, h⟩ | ⟨h, -⟩
      · exact h
      · exfalso; omega
/-- a piece P at p, read by the frame machine -/
def SimA (X : List Int) (d : Nat) (st dr rd t : Int) (a s : C3) (Q : Option pm_V → pm_H → Prop) (W : TXT) (N : SC) (j f r r' v : Nat) (ty : Bool) (P : PRS) (p : Nat) : Prop := ∀ (c om : Nat) (b : C3), StM W N j f r v ty c om p b → (∀ l p1 b', P p = .ok (l, p1) → AftM W j c om f r' ty l p1 b b' → Ev X (d + 5) 169 43 [Vr 166, Vi t, Vi 1] [] (SHv st dr rd, ovl a s b') Q) → (∀ e b', P p = .error e → BkM W j c b e b' → Q none (SHv st dr rd, ovl a s b')) → Ev X (d + 5) 169 43 [Vr 166, Vi t, Vi 1] [] (SHv st dr rd, ovl a s b) Q
variable {W : TXT} {N : SC} {j f : Nat}
theorem SimA.cg {r r' v : Nat} {ty : Bool} {P P' : PRS} {p : Nat} (h : SimA X d st dr rd t a s Q W N j f r r' v ty P p) (e : P' p = P p) : SimA X d st dr rd t a s Q W N j f r r' v ty P' p := fun c om b hS K1 K2 => h c om b hS (fun l p1 b' hx => K1 l p1 b' (e.trans hx)) (fun e' b' hx => K2 e' b' (e.trans hx))
theorem StM.wk {r r' v v' : Nat} {ty : Bool} {c om p : Nat} {b : SC} (h : StM W N j f r v ty c om p b) (hr : r ≤ r') (hv : v ≤ v') : StM W N j f r' v' ty c om p b := by
  obtain ⟨h1, h2, h3, h4, h5, h6, h7, ⟨bs, g1, g2, g3⟩, h9, h10, h11⟩ := h
  exact ⟨h1, h2, h3, h4, h5, h6, h7, ⟨bs, g1, g2, by omega⟩, h9, by omega, h11⟩
theorem SimA.wk {r0 r r' r1 v v' : Nat} {ty : Bool} {P : PRS} {p : Nat} (h : SimA X d st dr rd t a s Q W N j f r0 r1 v ty P p) (hr : r ≤ r0) (hr' : r' ≤ r1) (hv : v' ≤ v) : SimA X d st dr rd t a s Q W N j f r r' v' ty P p := fun c om b hS K1 K2 => h c om b (hS.wk hr hv) (fun l p1 b' hx ha => K1 l p1 b' hx (ha.wk hr')) K2
theorem sim_leaf {S : STY} {r r' v : Nat} {ty : Bool} {P : PRS} {p : Nat} (hP : PrO W S ty P) (hv : v ≤ 5) (H : ∀ (c om : Nat) (b : C3), StM W N j f r v ty c om p b → c < 1200 → om < 500 → Ev X (d + 4) 171 0 [Vr 166, Vx, Vx, Vx] [] (SHv st dr rd, ovl a s b) (fun rr hh => ∃ (v : Int) (b' : C3), rr = some (Vi v) ∧ (v = 0 ∨ v = 1) ∧ hh = (SHv st dr rd, ovl a s b') ∧ ResC (P p) (fun r => v = 1 ∧ LfM W j c om f ty r.1 r.2 b b') (fun e => BkM W j c b e b'))) (hp : p < 1200) (hf : f ≤ 8) : SimA X d st dr rd t a s Q W N j f r r' v ty P p := by
  intro c om b hS K1 K2
  have hS0 := hS
  obtain ⟨h1, h2, h3, h4, h5, h6, h7, -, h9, h10, -⟩ := hS
  have hW := h1.1.1
  have hpW := h1.2.2.2.2.2.2.1
  have h303 := h1.2.2.2.2.2.1
  refine m_rdO h7 (H c om b hS0 (by omega) (by omega)) (fun v b' hR => ?_)
  rcases hR with ⟨⟨l, p1⟩, hx, rfl, hl⟩ | ⟨e, hx, hb⟩
  · have hpr := (hP p l p1 hpW h303 hx).1
    exact Or.inl ⟨hl.2.1.2.1, K1 l p1 _ hx (hl.af (by show c + om + l.length ≤ p1; omega) (by show 3 * om ≤ p1 + 15 * f + 15; omega))⟩
  · exact Or.inr ⟨by rw [hb.2.2.2.1]; exact hb.2.2.1, K2 e _ hx (hb.up (by omega))⟩
theorem opL_app {pd pd' : List Nat} : opL (pd ++ pd') = opL pd ++ opL pd' := List.map_append
theorem AftM.ext {c om r r' op : Nat} {ty ty' : Bool} {ph bg : Int} {l1 l' : List (Nat × Nat)} {pd : List Nat} {p1 p2 : Nat} {b0 b b1 b2 : SC} (k0 : KpM j c om f b0 b) (cod : codM (b 191) (b 192) (1200 * j + c) l1) (hg : GoM W j (c + l1.length) om f (op : Int) ph bg pd p1 b b1) (h2 : AftM W j (c + l1.length + pd.length) (om + 1) f r' ty' l' p2 b1 b2) (hr : r ≤ r') (hop : (r : Int) ≤ rkM (op : Int)) (hfd : FdM ty b0 b2 f (tC W p2)) : AftM W j c om f r ty ((l1 ++ opL pd) ++ (l' ++ [(op, 0)])) p2 b0 b2 := by
  obtain ⟨g1, g2, g3, g4, g5, g6, g7, g8, g9, g10, g11⟩ := hg
  obtain ⟨k1, k2, k3, k4, k5, k6, k7, l1', pd', q1, q2, q3, q4, q5, q6, q7⟩ := h2
  subst q1
  have e1 := opL_len (pd := pd)
  have e2 := opL_len (pd := pd')
  refine ⟨(k0.tr g1 (by omega) (Nat.le_refl _) (Nat.le_refl _)).tr k1 (by omega) (by omega) (Nat.le_refl _), k2, k3, k4, k5, hfd, ?_, (l1 ++ opL pd) ++ l1', pd' ++ [op], ?_, ?_, ?_, ?_, ?_, ?_, fun x hx => ?_⟩
  · simp only [List.length_append, List.length_cons, List.length_nil] at k7 ⊢
    omega
  · rw [opL_app]
    simp only [List.append_assoc]
    rfl
  · refine codM_app _ _ _ (codM_app _ _ _ ?_ ?_) ?_
    · exact codM_cg l1 _ (fun i h1 h2 => ⟨(k1 191 i (by omega) (by omega) (by omega) (by omega) (by omega)).trans (g1 191 i (by omega) (by omega) (by omega) (by omega) (by omega)), (k1 192 i (by omega) (by omega) (by omega) (by omega) (by omega)).trans (g1 192 i (by omega) (by omega) (by omega) (by omega) (by omega))⟩) cod
    · rw [show 1200 * j + c + l1.length = 1200 * j + (c + l1.length) by omega]
      exact codM_cg (opL pd) _ (fun i h1 h2 => ⟨k1 191 i (by omega) (by omega) (by omega) (by omega) (by omega), k1 192 i (by omega) (by omega) (by omega) (by omega) (by omega)⟩) g3
    · rw [show 1200 * j + c + (l1 ++ opL pd).length = 1200 * j + (c + l1.length + pd.length) by rw [List.length_append]; omega]
      exact q2
  · rw [q3, List.length_append, List.length_append, e1]
    omega
  · exact stkM_app pd' q4 ((k1 198 om (by omega) (by omega) (by omega) (by omega) (by omega)).trans g6)
  · rw [q5, List.length_append]
    show _ = ((om + (pd'.length + 1) : Nat) : Int)
    omega
  · rw [List.length_append]
    show 3 * (om + (pd'.length + 1)) ≤ _
    omega
  · rcases List.mem_append.mp hx with h | h
    · have := q7 x h
      omega
    · rw [List.mem_singleton.mp h]
      exact hop
def FzM (ty : Bool) (b : SC) (f : Nat) : Prop := match ty with
  | true => (b 193 f = 1 ∨ b 193 f = 5) ∧ (b 194 f = 1 ∨ b 194 f = 2)
  | false => b 194 f = 0 ∨ b 194 f = 1
def phZ (ty : Bool) (b : SC) (f : Nat) : Int := match ty with
  | true => 0
  | false => b 194 f
def bgZ (ty : Bool) (b : SC) (f : Nat) : Int := match ty with
  | true => 1
  | false => b 195 f
/-- how an operator of rank r is met -/
def HGo (X : List Int) (d : Nat) (st dr rd : Int) (a s : C3) (W : TXT) (N : SC) (j f r : Nat) (ty : Bool) (g : Nat → Nat) : Prop := ∀ (c om bs p : Nat) (pd : List Nat) (b : C3), g (tC W p) ≠ 0 → TkM W p b → NmM N b j → b 166 38 = (c : Int) → b 166 48 = ((om + pd.length : Nat) : Int) → b 166 45 = ((f + 1 : Nat) : Int) → b 166 46 = (f : Int) → f ≤ 8 → b 197 f = (bs : Int) → bs ≤ om → stkM (b 198) om pd → c + pd.length ≤ 1200 → om + pd.length < 500 → (∀ op, op ∈ pd → (r : Int) ≤ rkM ((op : Nat) : Int)) → (om = bs ∨ rkM (b 198 (om - 1)) < (r : Int)) → FzM ty b f → Ev X (d + 4) 178 0 [Vr 166, Vx, Vx, Vx, Vx] [] (SHv st dr rd, ovl a s b) (fun rr hh => ∃ (v : Int) (b' : C3), rr = some (Vi v) ∧ (v = 0 ∨ v = 1) ∧ hh = (SHv st dr rd, ovl a s b') ∧ ResC (gotT W p) (fun p1 => v = 1 ∧ GoM W j c om f ((g (tC W p) : Nat) : Int) (phZ ty b f) (bgZ ty b f) pd p1 b b') (fun e => BkM W j c b e b'))
theorem hgo_A : HGo X d st dr rd a s W N j f 5 false opA := by
  intro c om bs p pd b hg hk hN e38 e48 e45 e46 hf ebs hbo hst hc ho hrk hlo hz
  by_cases h1 : tC W p = 43
  · rw [show opA (tC W p) = 15 by rw [h1]; rfl]
    exact m_go_43 hk hN e38 e48 e45 e46 hf ebs hbo hst hc ho hrk hlo hz h1
  · by_cases h2 : tC W p = 45
    · rw [show opA (tC W p) = 16 by rw [h2]; rfl]
      exact m_go_45 hk hN e38 e48 e45 e46 hf ebs hbo hst hc ho hrk hlo hz h2
    · exact absurd (by unfold opA; rw [if_neg h1, if_neg h2]) hg
theorem hgo_M : HGo X d st dr rd a s W N j f 6 false opM := by
  intro c om bs p pd b hg hk hN e38 e48 e45 e46 hf ebs hbo hst hc ho hrk hlo hz
  by_cases h1 : tC W p = 42
  · rw [show opM (tC W p) = 17 by rw [h1]; rfl]
    exact m_go_42 hk hN e38 e48 e45 e46 hf ebs hbo hst hc ho hrk hlo hz h1
  · by_cases h2 : tC W p = 47
    · rw [show opM (tC W p) = 18 by rw [h2]; rfl]
      exact m_go_47 hk hN e38 e48 e45 e46 hf ebs hbo hst hc ho hrk hlo hz h2
    · by_cases h3 : tC W p = 37
      · rw [show opM (tC W p) = 19 by rw [h3]; rfl]
        exact m_go_37 hk hN e38 e48 e45 e46 hf ebs hbo hst hc ho hrk hlo hz h3
      · exact absurd (by unfold opM; rw [if_neg h1, if_neg h2, if_neg h3]) hg
theorem hgo_B : HGo X d st dr rd a s W N j f 2 true opB := by
  intro c om bs p pd b hg hk hN e38 e48 e45 e46 hf ebs hbo hst hc ho hrk hlo hz
  by_cases h1 : tC W p = 270
  · rw [show opB (tC W p) = 25 by rw [h1]; rfl]
    exact m_go_270 hk hN e38 e48 e45 e46 hf ebs hbo hst hc ho hrk hlo hz.1 hz.2 h1
  · exact absurd (by unfold opB; rw [if_neg h1]) hg
theorem hgo_O : HGo X d st dr rd a s W N j f 1 true opO := by
  intro c om bs p pd b hg hk hN e38 e48 e45 e46 hf ebs hbo hst hc ho hrk hlo hz
  by_cases h1 : tC W p = 269
  · rw [show opO (tC W p) = 26 by rw [h1]; rfl]
    exact m_go_269 hk hN e38 e48 e45 e46 hf ebs hbo hst hc ho hrk hlo hz.1 hz.2 h1
  · exact absurd (by unfold opO; rw [if_neg h1]) hg
theorem sim_chnL {r v : Nat} {ty : Bool} {g : Nat → Nat} {P : PRS} (hrk : ∀ c, g c ≠ 0 → rkM ((g c : Nat) : Int) = (r : Int) ∧ c ≠ 302 ∧ c ≠ 303) (HG : HGo X d st dr rd a s W N j f r ty g) (hf : f ≤ 8) (hv : v + 1 ≤ 5) (hP : ∀ p, SimA X d st dr rd t a s Q W N j f (r + 1) (r + 1) (v + 1) ty P p) (hPr : ∀ p l p1, p ≤ W.2 → tC W p ≠ 303 → P p = .ok (l, p1) → p ≤ p1) {c om p0 : Nat} {b0 : C3} (hS : StM W N j f r v ty c om p0 b0) : ∀ (F : Nat) (l : List (Nat × Nat)) (p : Nat) (b : C3), p0 ≤ p → AftM W j c om f r ty l p b0 b → (∀ l1 p1 b', chnL W g P F l p = .ok (l1, p1) → AftM W j c om f r ty l1 p1 b0 b' → Ev X (d + 5) 169 43 [Vr 166, Vi t, Vi 1] [] (SHv st dr rd, ovl a s b') Q) → (∀ e b', chnL W g P F l p = .error e → BkM W j c b0 e b' → Q none (SHv st dr rd, ovl a s b')) → Ev X (d + 5) 169 43 [Vr 166, Vi t, Vi 1] [] (SHv st dr rd, ovl a s b) Q
  | 0, l, p, b, hpp, hA, K1, K2 => K1 l p b rfl hA
  | F + 1, l, p, b, hpp, hA, K1, K2 => by
    have heq : chnL W g P (F + 1) l p = if g (tC W p) = 0 then Except.ok (l, p) else bnX (gotT W p) (fun p1 => bnX (P p1) (fun r => chnL W g P F (l ++ (r.1 ++ [(g (tC W p), 0)])) r.2)) := rfl
    by_cases h0 : g (tC W p) = 0
    · exact K1 l p b (by rw [heq, if_pos h0]) hA
    · rw [if_neg h0] at heq
      obtain ⟨hrk1, h302, h303⟩ := hrk _ h0
      have hA0 := hA
      obtain ⟨a1, a2, a3, a4, a5, a6, a7, l1, pd, q1, q2, q3, q4, q5, q6, q7⟩ := hA
      obtain ⟨s1, s2, s3, s4, s5, s6, s7, ⟨bs, t1, t2, t3⟩, s9, s10, s11⟩ := id hS
      have hT := a2.1.1
      have hpW := a2.2.2.2.2.2.2.1
      have hlt := tok_lt hpW hT h302 h303
      have hle := (tok_rg hpW hT).2
      have hT1 := hT.1
      have hlen : l.length = l1.length + pd.length := by rw [q1, List.length_append, opL_len]
      have hz : FzM ty b f := by
        cases ty
        · have e : b 194 f = b0 194 f ∧ b 195 f = 0 := a6
          have e2 := s11.1
          exact (show b 194 f = 0 ∨ b 194 f = 1 by omega)
        · refine ⟨?_, ?_⟩
          · rw [a1 193 f (by omega) (by omega) (by omega) (by omega) (by omega)]
            exact s11.1
          · rcases a6 with h | h
            · exact Or.inr h
            · exact Or.inl h.1
      refine m_rdG a5 (HG (c + l1.length) om bs p pd b h0 a2 (s2.fR a1.fr) q3 q5 a3 a4 hf ((a1 197 f (by omega) (by omega) (by omega) (by omega) (by omega)).trans t1) t2 q4 (by omega) (by omega) q7 ?_ hz) (fun v' b1 hR => ?_)
      · rcases t3 with h | h
        · exact Or.inl h
        · by_cases h1 : om = bs
          · exact Or.inl h1
          · refine Or.inr ?_
            rw [a1 198 (om - 1) (by omega) (by omega) (by omega) (by omega) (by omega)]
            exact h
      · rcases hR with ⟨p1, hx, rfl, hg⟩ | ⟨e, hx, hb⟩
        · have hp1 := (got_ok hx).1
          refine Or.inl ⟨rfl, hg.2.1.2.1, hP p1 (c + l1.length + pd.length) (om + 1) b1 ?_ (fun l' p2 b2 hx2 h2 => ?_) (fun e b2 hx2 hb2 => ?_)⟩
          · obtain ⟨g1, g2, g3, g4, g5, g6, g7, g8, g9, g10, g11⟩ := hg
            refine ⟨g2, (s2.fR a1.fr).fR g1.fr, g4, g5, g8, g9, g7, ⟨bs, ?_, by omega, Or.inr ?_⟩, by omega, by omega, ?_⟩
            · rw [g1 197 f (by omega) (by omega) (by omega) (by omega) (by omega), a1 197 f (by omega) (by omega) (by omega) (by omega) (by omega)]
              exact t1
            · rw [show om + 1 - 1 = om by omega, g6, hrk1]
              omega
            · cases ty
              · have e : b 194 f = b0 194 f ∧ b 195 f = 0 := a6
                have g10 : b1 194 f = b 194 f := g10
                have g11 : b1 195 f = b 195 f := g11
                have hz : b 194 f = 0 ∨ b 194 f = 1 := hz
                exact ⟨by omega, Or.inr (Or.inl (by omega))⟩
              · refine ⟨?_, g10, g11⟩
                rw [g1 193 f (by omega) (by omega) (by omega) (by omega) (by omega)]
                exact hz.1
          · have hfd : FdM ty b0 b2 f (tC W p2) := by
              have h6 := h2.2.2.2.2.2.1
              cases ty
              · have e : b 194 f = b0 194 f ∧ b 195 f = 0 := a6
                have g10 : b1 194 f = b 194 f := hg.2.2.2.2.2.2.2.2.2.1
                have h6 : b2 194 f = b1 194 f ∧ b2 195 f = 0 := h6
                exact (show b2 194 f = b0 194 f ∧ b2 195 f = 0 from ⟨by omega, h6.2⟩)
              · exact h6
            have hA2 := AftM.ext (r := r) (ty := ty) a1 q2 hg h2 (by omega) (by rw [hrk1]; omega) hfd
            rw [← q1] at hA2
            have hp2 := hPr p1 l' p2 hg.2.1.2.2.2.2.2.2.1 hg.2.1.2.2.2.2.2.1 hx2
            refine sim_chnL hrk HG hf hv hP hPr hS F _ p2 b2 (by omega) hA2 (fun l3 p3 b3 hx3 => K1 l3 p3 b3 ?_) (fun e b3 hx3 => K2 e b3 ?_)
            · rw [heq, hx, bnX_o, hx2, bnX_o]; exact hx3
            · rw [heq, hx, bnX_o, hx2, bnX_o]; exact hx3
          · exact K2 e b2 (by rw [heq, hx, bnX_o, hx2, bnX_e]) (hb2.wk ((a1.tr hg.1 (by omega) (Nat.le_refl _) (Nat.le_refl _)).fr) (by omega))
        · exact Or.inr ⟨Or.inr (by rw [hb.2.2.2.1]; exact hb.2.2.1), K2 e b1 (by rw [heq, hx, bnX_e]) (hb.wk a1.fr (by omega))⟩
theorem sim_chn {r v : Nat} {ty : Bool} {g : Nat → Nat} {P : PRS} (hrk : ∀ c, g c ≠ 0 → rkM ((g c : Nat) : Int) = (r : Int) ∧ c ≠ 302 ∧ c ≠ 303) (HG : HGo X d st dr rd a s W N j f r ty g) (hf : f ≤ 8) (hv : v + 1 ≤ 5) (hP : ∀ p, SimA X d st dr rd t a s Q W N j f (r + 1) (r + 1) (v + 1) ty P p) (hPr : ∀ p l p1, p ≤ W.2 → tC W p ≠ 303 → P p = .ok (l, p1) → p ≤ p1) (p : Nat) : SimA X d st dr rd t a s Q W N j f r r v ty (chnT W g P) p := by
  intro c om b hS K1 K2
  refine hP p c om b (hS.wk (by omega) (by omega)) (fun l p1 b1 hx hA => ?_) (fun e b1 hx hb => K2 e b1 (by show bnX (P p) _ = _; rw [hx, bnX_e]) hb)
  refine sim_chnL hrk HG hf hv hP hPr hS 1200 l p1 b1 (hPr p l p1 hS.1.2.2.2.2.2.2.1 hS.1.2.2.2.2.2.1 hx) (hA.wk (by omega)) (fun l2 p2 b2 hx2 => K1 l2 p2 b2 ?_) (fun e b2 hx2 => K2 e b2 ?_)
  · show bnX (P p) _ = _
    rw [hx, bnX_o]; exact hx2
  · show bnX (P p) _ = _
    rw [hx, bnX_o]; exact hx2
