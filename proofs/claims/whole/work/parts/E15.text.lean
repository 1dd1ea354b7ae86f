/-! THE REFERENCE: a text is told -/
theorem EvQ_0 {S : STY} {E b : SC} (h1 : b 202 0 = 0) (h2 : b 203 0 = 0) (h3 : b 204 0 = 0) : EvQ S E b 0 := ⟨h1, h2, h3, fun i hi => absurd hi (Nat.not_lt_zero i), fun i hi => absurd hi (Nat.not_lt_zero i), fun m hm => absurd hm (Nat.not_lt_zero m), fun h => absurd h (Nat.lt_irrefl 0)⟩
/-- a text with a fault: the story stays -/
theorem TopM.tx {G : GST} {b b' : SC} {j : Nat} {e : PF} (h : TopM G b) (h12 : b 166 12 = ((1 - j : Nat) : Int)) (hj : j < 2) (hf : ∀ o i, ¬ fjM j o i → ¬ (o = 166 ∧ ((1 ≤ i ∧ i ≤ 11) ∨ (38 ≤ i ∧ i ≤ 49))) → b' o i = b o i) (e1 : b' 166 1 = 0) (e10 : b' 166 10 = e.1) (e11 : b' 166 11 = e.2) : TopM (gS G, gB G, gE G, gn G, (gT G, 0), e) b' := by
  obtain ⟨bk, hY, hW, g3, g4, g5, g6, g7, g8, g9, g10, g11⟩ := h
  have hr : ∀ o, 199 ≤ o → b' o = b o := fun o ho => by
    funext i
    exact hf o i (by omega) (by omega)
  obtain ⟨y0, y1, y2, y3, y4, y5, y6, y7, y8, y9, y10, y11, y12, y13, y14, y15⟩ := hY
  have hbk : bk = 1 - j := by rw [y1] at h12; omega
  have r8 := hW.1.1
  have w8 := hW.2.2.1.1
  have t8 := hW.2.2.2.1.1
  have l30 := hW.2.2.2.2.1.1
  have c12 := hW.2.2.2.2.2.1.1
  refine ⟨bk, ⟨y0, ?_, ?_, ?_, ?_, ?_, ?_, ?_, fun k hk => ?_, fun k hk => ?_, fun k hk => ?_, fun r o hr ho => ?_, fun p hp => ?_, fun t ht => ?_, fun k hk => ?_, fun r hr => ?_⟩, hW, ?_, g4, g5, g6, ?_, ⟨Nat.zero_le _, e1, fun i hi => absurd hi (Nat.not_lt_zero i)⟩, e10, e11, ?_⟩
  · rw [hf _ _ (by omega) (by omega)]; exact y1
  · rw [hf _ _ (by omega) (by omega)]; exact y2
  · rw [hf _ _ (by omega) (by omega)]; exact y3
  · rw [hf _ _ (by omega) (by omega)]; exact y4
  · rw [hf _ _ (by omega) (by omega)]; exact y5
  · rw [hf _ _ (by omega) (by omega)]; exact y6
  · rw [hf _ _ (by omega) (by omega)]; exact y7
  · have hk : k < nR (gS G) := hk
    rw [hf _ _ (by omega) (by omega)]; exact y8 k hk
  · have hk : k < nW (gS G) := hk
    rw [hf _ _ (by omega) (by omega)]; exact y9 k hk
  · have hk : k < nT (gS G) := hk
    rw [hf _ _ (by omega) (by omega)]; exact y10 k hk
  · have hr : r < nR (gS G) := hr
    have ho : o < nR (gS G) := ho
    rw [hf _ _ (by omega) (by omega)]; exact y11 r o hr ho
  · have hp : p < nW (gS G) := hp
    rw [hf _ _ (by omega) (by omega)]; exact y12 p hp
  · have ht : t < nT (gS G) := ht
    rw [hf _ _ (by omega) (by omega)]; exact y13 t ht
  · have hk : k < nC (gS G) := hk
    rw [hf 180 _ (by omega) (by omega), hf 181 _ (by omega) (by omega), hf 182 _ (by omega) (by omega), hf 183 _ (by omega) (by omega)]
    exact y14 k hk
  · have hr : r < nL (gS G) := hr
    obtain ⟨z1, z2, z3, z4, z5, z6⟩ := y15 r hr
    have hs : ∀ f t l, SegM b bk f t l → SegM b' bk f t l := fun f t l h => by
      obtain ⟨k, q1, q2, q3, q4⟩ := h
      exact ⟨k, q1, q2, q3, codM_cg l _ (fun i h1 h2 => ⟨hf 191 i (by omega) (by omega), hf 192 i (by omega) (by omega)⟩) q4⟩
    rw [hf 184 _ (by omega) (by omega), hf 185 _ (by omega) (by omega), hf 186 _ (by omega) (by omega), hf 187 _ (by omega) (by omega), hf 188 _ (by omega) (by omega), hf 189 _ (by omega) (by omega), hf 190 _ (by omega) (by omega)]
    exact ⟨z1, z2, z3, z4, hs _ _ _ z5, fun h => hs _ _ _ (z6 h)⟩
  · unfold RepB at g3 ⊢
    rw [hr 199 (by omega), hr 200 (by omega), hr 201 (by omega)]
    exact g3
  · unfold EvQ HisM RepB at g7 ⊢
    rw [hr 199 (by omega), hr 200 (by omega), hr 201 (by omega), hr 202 (by omega), hr 203 (by omega), hr 204 (by omega), hr 205 (by omega), hr 206 (by omega), hr 207 (by omega), hr 208 (by omega), hr 209 (by omega), hr 210 (by omega), hr 211 (by omega), hr 212 (by omega)]
    exact g7
  · rw [hr 201 (by omega)]; exact g11
theorem RqM.o {b : SC} {j : Nat} (hj : j < 2) (e39 : b 166 39 = (j : Int)) (e38 : b 166 38 = 0) (h : ∀ o, 168 ≤ o → o ≤ 173 → b o j = 0) : RqM styO b j 0 := by
  refine ⟨⟨hj, e39, e38⟩, ⟨h 168 (by omega) (by omega), h 169 (by omega) (by omega), h 170 (by omega) (by omega), h 171 (by omega) (by omega), h 173 (by omega) (by omega), h 172 (by omega) (by omega)⟩, ?_, ?_, ?_, ?_, ?_, ?_, ?_, ?_⟩
  · intro k hk; exact absurd hk (Nat.not_lt_zero k)
  · intro k hk; exact absurd hk (Nat.not_lt_zero k)
  · intro k hk; exact absurd hk (Nat.not_lt_zero k)
  · intro k o hk; exact absurd hk (Nat.not_lt_zero k)
  · intro k hk; exact absurd hk (Nat.not_lt_zero k)
  · intro k hk; exact absurd hk (Nat.not_lt_zero k)
  · intro k hk; exact absurd hk (Nat.not_lt_zero k)
  · intro k hk; exact absurd hk (Nat.not_lt_zero k)
theorem m_text_ok {X : List Int} {d : Nat} {st dr rd : Int} {a s b : C3} {G : GST} {b0 : C3} {S : STY} {p j c : Nat} (hk : TkM (gT G, gt G) p b) (hW : WfY S) (hR : RqM S b j c) (hc : c ≤ 1200) (hF : FrJ j b0 b) (hO : ∀ i, i < 90 → b0 201 i = 0 ∨ b0 201 i = 1) (e1 : b0 166 1 = 0) (hx : txtT (gT G, gt G) = .ok S) : Ev X (d + 8) 156 133 [Vr 166, Vi (cSum S)] [] (SHv st dr rd, ovl a s b) (fun rr hh => rr = some (Vi (aText G)) ∧ ∃ b' : C3, hh = (SHv st dr rd, ovl a s b') ∧ TopM (nText G) b') := by
  obtain ⟨n1, n2⟩ := nText_o hx
  rw [n1, n2]
  have hj := hR.1.1
  refine Ev.steps (k := 3) (pc' := 138) (L' := [Vr 166, Vi (cSum S)]) (S' := [Vi (b 166 8), Vr 166]) (h' := ((SHv st dr rd), (ovl a s b))) (fun _ => rfl) ?_
  rw [hk.2.1]
  refine Ev.putf (c' := (ovl a s (updC b 166 10 0))) rfl (by decide) rfl rfl rfl (ovl_wm (by decide)) ?_
  refine Ev.steps (k := 3) (pc' := 146) (L' := [Vr 166, Vi (cSum S)]) (S' := [Vi (b 166 9), Vr 166]) (h' := ((SHv st dr rd), (ovl a s (updC b 166 10 0)))) (fun _ => rfl) ?_
  rw [hk.2.2.1]
  refine Ev.putf (c' := (ovl a s (updC (updC b 166 10 0) 166 11 (-1)))) rfl (by decide) rfl rfl rfl (ovl_wm (by decide)) ?_
  refine Ev.steps (k := 2) (pc' := 153) (L' := [Vr 166, Vi (cSum S)]) (S' := [Vi (b 166 8)]) (h' := ((SHv st dr rd), (ovl a s (updC (updC b 166 10 0) 166 11 (-1))))) (fun _ => rfl) ?_
  rw [hk.2.1]
  refine Ev.steps (k := 4) (pc' := 163) (L' := [Vr 166, Vi (cSum S)]) (S' := [Vi (b 166 39), Vr 166]) (h' := ((SHv st dr rd), (ovl a s (updC (updC b 166 10 0) 166 11 (-1))))) (fun _ => rfl) ?_
  rw [hR.1.2.1]
  refine Ev.putf (c' := (ovl a s (updC (updC (updC b 166 10 0) 166 11 (-1)) 166 12 (j : Int)))) rfl (by decide) rfl rfl rfl (ovl_wm (by decide)) ?_
  refine Ev.steps (k := 4) (pc' := 172) (L' := [Vr 166, Vi (cSum S)]) (S' := [Vi 0, Vi 0, Vr 202]) (h' := ((SHv st dr rd), (ovl a s (updC (updC (updC b 166 10 0) 166 11 (-1)) 166 12 (j : Int))))) (fun _ => rfl) ?_
  refine Ev.iast (c' := (ovl a s (updC (updC (updC (updC b 166 10 0) 166 11 (-1)) 166 12 (j : Int)) 202 0 0))) rfl (by decide) rfl (by omega) (by omega) (ovl_wm (by decide)) ?_
  refine Ev.steps (k := 4) (pc' := 179) (L' := [Vr 166, Vi (cSum S)]) (S' := [Vi 0, Vi 0, Vr 203]) (h' := ((SHv st dr rd), (ovl a s (updC (updC (updC (updC b 166 10 0) 166 11 (-1)) 166 12 (j : Int)) 202 0 0)))) (fun _ => rfl) ?_
  refine Ev.iast (c' := (ovl a s (updC (updC (updC (updC (updC b 166 10 0) 166 11 (-1)) 166 12 (j : Int)) 202 0 0) 203 0 0))) rfl (by decide) rfl (by omega) (by omega) (ovl_wm (by decide)) ?_
  refine Ev.steps (k := 4) (pc' := 186) (L' := [Vr 166, Vi (cSum S)]) (S' := [Vi 0, Vi 0, Vr 204]) (h' := ((SHv st dr rd), (ovl a s (updC (updC (updC (updC (updC b 166 10 0) 166 11 (-1)) 166 12 (j : Int)) 202 0 0) 203 0 0)))) (fun _ => rfl) ?_
  refine Ev.iast (c' := (ovl a s (updC (updC (updC (updC (updC (updC b 166 10 0) 166 11 (-1)) 166 12 (j : Int)) 202 0 0) 203 0 0) 204 0 0))) rfl (by decide) rfl (by omega) (by omega) (ovl_wm (by decide)) ?_
  refine Ev.call (k := 1) (pc1 := 188) (L1 := [Vr 166, Vi (cSum S)]) (S1 := [Vr 166]) (h1 := ((SHv st dr rd), (ovl a s (updC (updC (updC (updC (updC (updC b 166 10 0) 166 11 (-1)) 166 12 (j : Int)) 202 0 0) 203 0 0) 204 0 0)))) (m' := 191) (as := [Vr 166]) (S' := []) (L0 := [Vr 166, Vx]) (fun _ => rfl) rfl rfl rfl rfl rfl rfl (m_clears (b := (updC (updC (updC (updC (updC (updC b 166 10 0) 166 11 (-1)) 166 12 (j : Int)) 202 0 0) 203 0 0) 204 0 0)) (S := S) (bk := j) hW (hR.ry hc (by rw [updC_nt (by omega), updC_nt (by omega), updC_nt (by omega), updC_sm]) (fun o h1 h2 => by funext i; rw [updC_nt (by omega), updC_nt (by omega), updC_nt (by omega), updC_nt (by omega), updC_nt (by omega), updC_nt (by omega)])) (fun i hi => by rw [updC_nt (by omega), updC_nt (by omega), updC_nt (by omega), updC_nt (by omega), updC_nt (by omega), updC_nt (by omega), hF 201 i (by omega) (by omega)]; exact hO i hi)) (fun r h' hq => ?_)
  obtain ⟨rfl, b2, rfl, g1, g2, g3⟩ := hq
  have f1 : ∀ o i, o < 199 ∨ 201 < o → b2 o i = (updC (updC (updC (updC (updC (updC b 166 10 0) 166 11 (-1)) 166 12 (j : Int)) 202 0 0) 203 0 0) 204 0 0) o i := fun o i h => g1 o i (by unfold InS; omega)
  show Ev X _ _ 191 [Vr 166, Vi (cSum S)] [] ((SHv st dr rd), (ovl a s b2)) _
  refine Ev.fin (k := 2) (r := (some (Vi (cSum S)))) (h' := ((SHv st dr rd), (ovl a s b2))) (fun _ => rfl) ?_
  refine ⟨rfl, b2, rfl, j, ?_, hW, g2, tldB_wf hW, tldB_wf hW, Nat.zero_le _, EvQ_0 ?_ ?_ ?_, ⟨Nat.zero_le _, ?_, fun i hi => absurd hi (Nat.not_lt_zero i)⟩, ?_, ?_, g3⟩
  · refine hR.ry hc ?_ (fun o h1 h2 => ?_)
    · rw [f1 _ _ (by omega), updC_nt (by omega), updC_nt (by omega), updC_nt (by omega), updC_sm]
    · funext i
      rw [f1 o i (by omega), updC_nt (by omega), updC_nt (by omega), updC_nt (by omega), updC_nt (by omega), updC_nt (by omega), updC_nt (by omega)]
  · rw [f1 _ _ (by omega), updC_nt (by omega), updC_nt (by omega), updC_sm]
  · rw [f1 _ _ (by omega), updC_nt (by omega), updC_sm]
  · rw [f1 _ _ (by omega), updC_sm]
  · rw [f1 _ _ (by omega), updC_nt (by omega), updC_nt (by omega), updC_nt (by omega), updC_nt (by omega), updC_nt (by omega), updC_nt (by omega), hF 166 1 (by omega) (by omega)]
    exact e1
  · rw [f1 _ _ (by omega), updC_nt (by omega), updC_nt (by omega), updC_nt (by omega), updC_nt (by omega), updC_nt (by omega), updC_sm]
  · rw [f1 _ _ (by omega), updC_nt (by omega), updC_nt (by omega), updC_nt (by omega), updC_nt (by omega), updC_sm]
theorem m_text_er {X : List Int} {d : Nat} {st dr rd : Int} {a s b : C3} {G : GST} {bT b0 : C3} {j : Nat} {e : PF} (many : Int) (hT : TopM G bT) (h12 : bT 166 12 = ((1 - j : Nat) : Int)) (hj : j < 2) (hB : BjM (gT G, gt G) j b0 e b) (h0 : ∀ o i, ¬ fjM j o i → ¬ (o = 166 ∧ ((1 ≤ i ∧ i ≤ 11) ∨ (38 ≤ i ∧ i ≤ 49))) → b0 o i = bT o i) (e1 : b0 166 1 = 0) (hx : txtT (gT G, gt G) = .error e) : Ev X (d + 8) 156 133 [Vr 166, Vi many] [] (SHv st dr rd, ovl a s b) (fun rr hh => rr = some (Vi (aText G)) ∧ ∃ b' : C3, hh = (SHv st dr rd, ovl a s b') ∧ TopM (nText G) b') := by
  obtain ⟨n1, n2⟩ := nText_e hx
  rw [n1, n2]
  have hp := hB.2.2.1
  refine Ev.steps (k := 3) (pc' := 138) (L' := [Vr 166, Vi many]) (S' := [Vi (b 166 8), Vr 166]) (h' := ((SHv st dr rd), (ovl a s b))) (fun _ => rfl) ?_
  rw [hB.2.2.2.1]
  refine Ev.putf (c' := (ovl a s (updC b 166 10 e.1))) rfl (by decide) rfl rfl rfl (ovl_wm (by decide)) ?_
  refine Ev.steps (k := 3) (pc' := 146) (L' := [Vr 166, Vi many]) (S' := [Vi (b 166 9), Vr 166]) (h' := ((SHv st dr rd), (ovl a s (updC b 166 10 e.1)))) (fun _ => rfl) ?_
  rw [hB.2.2.2.2]
  refine Ev.putf (c' := (ovl a s (updC (updC b 166 10 e.1) 166 11 e.2))) rfl (by decide) rfl rfl rfl (ovl_wm (by decide)) ?_
  refine Ev.steps (k := 2) (pc' := 153) (L' := [Vr 166, Vi many]) (S' := [Vi (b 166 8)]) (h' := ((SHv st dr rd), (ovl a s (updC (updC b 166 10 e.1) 166 11 e.2)))) (fun _ => rfl) ?_
  rw [hB.2.2.2.1]
  refine Ev.ite (P := e.1 ≤ 0) (k := 1) (a := 158) (b := 156) (L' := [Vr 166, Vi many]) (S' := []) (h' := ((SHv st dr rd), (ovl a s (updC (updC b 166 10 e.1) 166 11 e.2)))) (fun _ => rfl) (fun b153 => ?_) (fun b153 => ?_)
  · omega
  · refine Ev.fin (k := 2) (r := (some (Vi (-1)))) (h' := ((SHv st dr rd), (ovl a s (updC (updC b 166 10 e.1) 166 11 e.2)))) (fun _ => rfl) ?_
    refine ⟨rfl, _, rfl, hT.tx h12 hj (fun o i h1 h2 => ?_) ?_ ?_ updC_sm⟩
    · rw [updC_nt (by omega), updC_nt (by omega)]
      exact (hB.1 o i (fun g => h2 ⟨g.1, by have := g.2; unfold fxM at this; omega⟩) h1).trans (h0 o i h1 h2)
    · rw [updC_nt (by omega), updC_nt (by omega), hB.1 166 1 (by omega) (by omega)]
      exact e1
    · rw [updC_nt (by omega), updC_sm]
theorem TkM.e3 {W : TXT} {p : Nat} {b : SC} (h : TkM W p b) (h2 : tC W p ≠ 302) : b 166 3 ≠ 0 := by
  obtain ⟨-, -, -, -, -, -, -, g1, g2, g3, g4⟩ := id h
  rcases h.cl with g | g | g | g | g
  · have := (g2 g).1; omega
  · have := (g3 g.1 (by omega)).1; omega
  · have := (g3 (by omega) (by omega)).1; omega
  · have := (g4 g).1; omega
  · exact absurd g h2
theorem m_text_b {X : List Int} {d : Nat} {st dr rd : Int} {a s b : C3} {e : PF} {Q : Option pm_V → pm_H → Prop} (many : Int) (hB : BrM e b) (K : Ev X (d + 8) 156 133 [Vr 166, Vi many] [] (SHv st dr rd, ovl a s b) Q) : Ev X (d + 8) 156 109 [Vr 166, Vi many] [] (SHv st dr rd, ovl a s b) Q := by
  have h0 := hB.1
  refine Ev.steps (k := 2) (pc' := 113) (L' := [Vr 166, Vi many]) (S' := [Vi (b 166 8)]) (h' := ((SHv st dr rd), (ovl a s b))) (fun _ => rfl) ?_
  rw [hB.2.1]
  refine Ev.ite (P := e.1 ≠ 0) (k := 1) (a := 133) (b := 116) (L' := [Vr 166, Vi many]) (S' := []) (h' := ((SHv st dr rd), (ovl a s b))) (fun _ => rfl) (fun b113 => ?_) (fun b113 => ?_)
  · exact K
  · omega
theorem m_text_l {X : List Int} {d : Nat} {st dr rd : Int} {a s : C3} {Q : Option pm_V → pm_H → Prop} {W : TXT} (hT : TxO W) {j : Nat} {b0 : C3} {R : Except PF STY} (K1 : ∀ (S : STY) (p c : Nat) (b : C3), TkM W p b → WfY S → RqM S b j c → c ≤ 1200 → FrJ j b0 b → R = .ok S → Ev X (d + 8) 156 133 [Vr 166, Vi (cSum S)] [] (SHv st dr rd, ovl a s b) Q) (K2 : ∀ (e : PF) (many : Int) (b : C3), BjM W j b0 e b → R = .error e → Ev X (d + 8) 156 133 [Vr 166, Vi many] [] (SHv st dr rd, ovl a s b) Q) : ∀ (F : Nat) (S : STY) (p c : Nat) (b : C3), W.2 ≤ p + F → TkM W p b → WfY S → WfD S → RqM S b j c → c ≤ p → FrJ j b0 b → R = stsT W F S p → Ev X (d + 8) 156 109 [Vr 166, Vi (cSum S)] [] (SHv st dr rd, ovl a s b) Q := by
  intro F
  induction F with
  | zero =>
    intro S p c b hF hk hW hD hR hcp hJ hx
    have hpW := hk.2.2.2.2.2.2.1
    have hT1 := hT.1
    have h302 : tC W p = 302 := Classical.byContradiction (fun h => by
      have := tok_lt hpW hT h hk.2.2.2.2.2.1
      have := tok_rg hpW hT
      omega)
    have h3 := hk.2.2.2.2.2.2.2.1 h302
    refine Ev.steps (k := 2) (pc' := 113) (L' := [Vr 166, Vi (cSum S)]) (S' := [Vi (b 166 8)]) (h' := ((SHv st dr rd), (ovl a s b))) (fun _ => rfl) ?_
    rw [hk.2.1]
    refine Ev.steps (k := 3) (pc' := 120) (L' := [Vr 166, Vi (cSum S)]) (S' := [Vi (b 166 3)]) (h' := ((SHv st dr rd), (ovl a s b))) (fun _ => rfl) ?_
    rw [h3]
    refine Ev.steps (k := 1) (pc' := 133) (L' := [Vr 166, Vi (cSum S)]) (S' := []) (h' := ((SHv st dr rd), (ovl a s b))) (fun _ => rfl) ?_
    exact K1 S p c b hk hW hR (by omega) hJ hx
  | succ F ih =>
    intro S p c b hF hk hW hD hR hcp hJ hx
    have hpW := hk.2.2.2.2.2.2.1
    have hT1 := hT.1
    have heq : stsT W (F + 1) S p = if tC W p = 302 then .ok S else bnX (stmT W S p) (fun r => stsT W F r.1 r.2) := rfl
    rw [heq] at hx
    by_cases h302 : tC W p = 302
    · rw [if_pos h302] at hx
      have h3 := hk.2.2.2.2.2.2.2.1 h302
      refine Ev.steps (k := 2) (pc' := 113) (L' := [Vr 166, Vi (cSum S)]) (S' := [Vi (b 166 8)]) (h' := ((SHv st dr rd), (ovl a s b))) (fun _ => rfl) ?_
      rw [hk.2.1]
      refine Ev.steps (k := 3) (pc' := 120) (L' := [Vr 166, Vi (cSum S)]) (S' := [Vi (b 166 3)]) (h' := ((SHv st dr rd), (ovl a s b))) (fun _ => rfl) ?_
      rw [h3]
      refine Ev.steps (k := 1) (pc' := 133) (L' := [Vr 166, Vi (cSum S)]) (S' := []) (h' := ((SHv st dr rd), (ovl a s b))) (fun _ => rfl) ?_
      exact K1 S p c b hk hW hR (by omega) hJ hx
    · rw [if_neg h302] at hx
      have h3 := hk.e3 h302
      have hs6 : 0 ≤ cSum S ∧ cSum S ≤ 100 := by
        have k0 := hW.1
        have k1 := hW.2.1
        have k2 := hW.2.2.1
        have k3 := hW.2.2.2.1
        have k4 := hW.2.2.2.2.1
        have k5 := hW.2.2.2.2.2.1
        unfold cSum
        omega

      refine Ev.steps (k := 2) (pc' := 113) (L' := [Vr 166, Vi (cSum S)]) (S' := [Vi (b 166 8)]) (h' := ((SHv st dr rd), (ovl a s b))) (fun _ => rfl) ?_
      rw [hk.2.1]
      refine Ev.ite (P := (b 166 3) = 0) (k := 4) (a := 133) (b := 123) (L' := [Vr 166, Vi (cSum S)]) (S' := []) (h' := ((SHv st dr rd), (ovl a s b))) (fun _ => rfl) (fun b120 => ?_) (fun b120 => ?_)
      · exact absurd b120 h3
      · refine Ev.call (k := 1) (pc1 := 124) (L1 := [Vr 166, Vi (cSum S)]) (S1 := [Vr 166]) (h1 := ((SHv st dr rd), (ovl a s b))) (m' := 161) (as := [Vr 166]) (S' := []) (L0 := [Vr 166, Vx]) (fun _ => rfl) rfl rfl rfl rfl rfl rfl (m_statement hk hW hD hR hcp) (fun r h' hq => ?_)
        obtain ⟨rfl, b1, rfl, hq⟩ := hq
        rcases hq with ⟨r1, hx1, hk1, ⟨c1, hR1, hc1⟩, hF1⟩ | ⟨e1, hx1, hb1⟩
        · have hst := stm_wf hT hW hD hpW hk.2.2.2.2.2.1 hx1
          show Ev X _ _ 127 [Vr 166, Vi (cSum S)] [] ((SHv st dr rd), (ovl a s b1)) _
          refine Ev.steps (k := 1) (pc' := 130) (L' := [Vr 166, Vi (w32 ((cSum S) + 1))]) (S' := []) (h' := ((SHv st dr rd), (ovl a s b1))) (fun _ => rfl) ?_
          rw [show (w32 ((cSum S) + 1)) = ((cSum S) + 1) from w32_id (by unfold R32; omega)]
          refine Ev.steps (k := 1) (pc' := 109) (L' := [Vr 166, Vi ((cSum S) + 1)]) (S' := []) (h' := ((SHv st dr rd), (ovl a s b1))) (fun _ => rfl) ?_
          rw [show cSum S + 1 = cSum r1.1 from hst.2.2.2.2.2.symm]
          exact ih r1.1 r1.2 c1 b1 (by have h1 := hst.2.2.1; omega) hk1 hst.1 hst.2.1 hR1 hc1 (hJ.tr hF1) (by rw [hx, hx1, bnX_o])
        · show Ev X _ _ 127 [Vr 166, Vi (cSum S)] [] ((SHv st dr rd), (ovl a s b1)) _
          refine Ev.steps (k := 1) (pc' := 130) (L' := [Vr 166, Vi (w32 ((cSum S) + 1))]) (S' := []) (h' := ((SHv st dr rd), (ovl a s b1))) (fun _ => rfl) ?_
          rw [show (w32 ((cSum S) + 1)) = ((cSum S) + 1) from w32_id (by unfold R32; omega)]
          refine Ev.steps (k := 1) (pc' := 109) (L' := [Vr 166, Vi ((cSum S) + 1)]) (S' := []) (h' := ((SHv st dr rd), (ovl a s b1))) (fun _ => rfl) ?_
          exact m_text_b _ hb1.2.2 (K2 e1 _ b1 ⟨hJ.tr hb1.1, hb1.2⟩ (by rw [hx, hx1, bnX_e]))
theorem g_text {X : List Int} {d : Nat} {st dr rd : Int} {a s b : C3} {G : GST} (hT : TopM G b) : Ev X (d + 8) 156 0 [Vr 166, Vx] [] (SHv st dr rd, ovl a s b) (fun rr hh => rr = some (Vi (aText G)) ∧ ∃ b' : C3, hh = (SHv st dr rd, ovl a s b') ∧ TopM (nText G) b') := by
  obtain ⟨bk, hY, hWY, hB1, hWB, hWE, hn180, hEQ, hTp, hfk, hfp, hO⟩ := id hT
  have hb2 := hY.1
  obtain ⟨j, hj1⟩ : ∃ j, j + bk = 1 := ⟨1 - bk, by omega⟩
  have hj : j < 2 := by omega
  have h12 : b 166 12 = ((1 - j : Nat) : Int) := by rw [hY.2.1]; omega
  have hTx : TxO (gT G, gt G) := ⟨hTp.1, fun i hi => (hTp.2.2 i hi).2⟩
  refine Ev.steps (k := 3) (pc' := 5) (L' := [Vr 166, Vx]) (S' := [Vi (b 166 1), Vr 166]) (h' := ((SHv st dr rd), (ovl a s b))) (fun _ => rfl) ?_
  rw [hTp.2.1]
  refine Ev.putf (c' := (ovl a s (updC b 166 2 ((gt G : Nat) : Int)))) rfl (by decide) rfl rfl rfl (ovl_wm (by decide)) ?_
  refine Ev.steps (k := 2) (pc' := 10) (L' := [Vr 166, Vx]) (S' := [Vi 0, Vr 166]) (h' := ((SHv st dr rd), (ovl a s (updC b 166 2 ((gt G : Nat) : Int))))) (fun _ => rfl) ?_
  refine Ev.putf (c' := (ovl a s (updC (updC b 166 2 ((gt G : Nat) : Int)) 166 1 0))) rfl (by decide) rfl rfl rfl (ovl_wm (by decide)) ?_
  refine Ev.steps (k := 2) (pc' := 15) (L' := [Vr 166, Vx]) (S' := [Vi 0, Vr 166]) (h' := ((SHv st dr rd), (ovl a s (updC (updC b 166 2 ((gt G : Nat) : Int)) 166 1 0)))) (fun _ => rfl) ?_
  refine Ev.putf (c' := (ovl a s (updC (updC (updC b 166 2 ((gt G : Nat) : Int)) 166 1 0) 166 5 0))) rfl (by decide) rfl rfl rfl (ovl_wm (by decide)) ?_
  refine Ev.steps (k := 2) (pc' := 20) (L' := [Vr 166, Vx]) (S' := [Vi 0, Vr 166]) (h' := ((SHv st dr rd), (ovl a s (updC (updC (updC b 166 2 ((gt G : Nat) : Int)) 166 1 0) 166 5 0)))) (fun _ => rfl) ?_
  refine Ev.putf (c' := (ovl a s (updC (updC (updC (updC b 166 2 ((gt G : Nat) : Int)) 166 1 0) 166 5 0) 166 8 0))) rfl (by decide) rfl rfl rfl (ovl_wm (by decide)) ?_
  refine Ev.steps (k := 2) (pc' := 25) (L' := [Vr 166, Vx]) (S' := [Vi (-1), Vr 166]) (h' := ((SHv st dr rd), (ovl a s (updC (updC (updC (updC b 166 2 ((gt G : Nat) : Int)) 166 1 0) 166 5 0) 166 8 0)))) (fun _ => rfl) ?_
  refine Ev.putf (c' := (ovl a s (updC (updC (updC (updC (updC b 166 2 ((gt G : Nat) : Int)) 166 1 0) 166 5 0) 166 8 0) 166 9 (-1)))) rfl (by decide) rfl rfl rfl (ovl_wm (by decide)) ?_
  refine Ev.steps (k := 4) (pc' := 34) (L' := [Vr 166, Vx]) (S' := [Vi (b 166 12), Vi 1, Vr 166]) (h' := ((SHv st dr rd), (ovl a s (updC (updC (updC (updC (updC b 166 2 ((gt G : Nat) : Int)) 166 1 0) 166 5 0) 166 8 0) 166 9 (-1))))) (fun _ => rfl) ?_
  rw [h12]
  refine Ev.steps (k := 1) (pc' := 35) (L' := [Vr 166, Vx]) (S' := [Vi (w32 (1 - ((1 - j : Nat) : Int))), Vr 166]) (h' := ((SHv st dr rd), (ovl a s (updC (updC (updC (updC (updC b 166 2 ((gt G : Nat) : Int)) 166 1 0) 166 5 0) 166 8 0) 166 9 (-1))))) (fun _ => rfl) ?_
  rw [show (w32 (1 - ((1 - j : Nat) : Int))) = (j : Int) from (by unfold w32; omega)]
  refine Ev.putf (c' := (ovl a s (updC (updC (updC (updC (updC (updC b 166 2 ((gt G : Nat) : Int)) 166 1 0) 166 5 0) 166 8 0) 166 9 (-1)) 166 39 (j : Int)))) rfl (by decide) rfl rfl rfl (ovl_wm (by decide)) ?_
  refine Ev.steps (k := 5) (pc' := 47) (L' := [Vr 166, Vx]) (S' := [Vi 0, Vi (j : Int), Vr 168]) (h' := ((SHv st dr rd), (ovl a s (updC (updC (updC (updC (updC (updC b 166 2 ((gt G : Nat) : Int)) 166 1 0) 166 5 0) 166 8 0) 166 9 (-1)) 166 39 (j : Int))))) (fun _ => rfl) ?_
  refine Ev.iast (c' := (ovl a s (updC (updC (updC (updC (updC (updC (updC b 166 2 ((gt G : Nat) : Int)) 166 1 0) 166 5 0) 166 8 0) 166 9 (-1)) 166 39 (j : Int)) 168 j 0))) rfl (by decide) rfl (by omega) (by omega) (ovl_wm (by decide)) ?_
  refine Ev.steps (k := 5) (pc' := 57) (L' := [Vr 166, Vx]) (S' := [Vi 0, Vi (j : Int), Vr 169]) (h' := ((SHv st dr rd), (ovl a s (updC (updC (updC (updC (updC (updC (updC b 166 2 ((gt G : Nat) : Int)) 166 1 0) 166 5 0) 166 8 0) 166 9 (-1)) 166 39 (j : Int)) 168 j 0)))) (fun _ => rfl) ?_
  refine Ev.iast (c' := (ovl a s (updC (updC (updC (updC (updC (updC (updC (updC b 166 2 ((gt G : Nat) : Int)) 166 1 0) 166 5 0) 166 8 0) 166 9 (-1)) 166 39 (j : Int)) 168 j 0) 169 j 0))) rfl (by decide) rfl (by omega) (by omega) (ovl_wm (by decide)) ?_
  refine Ev.steps (k := 5) (pc' := 67) (L' := [Vr 166, Vx]) (S' := [Vi 0, Vi (j : Int), Vr 170]) (h' := ((SHv st dr rd), (ovl a s (updC (updC (updC (updC (updC (updC (updC (updC b 166 2 ((gt G : Nat) : Int)) 166 1 0) 166 5 0) 166 8 0) 166 9 (-1)) 166 39 (j : Int)) 168 j 0) 169 j 0)))) (fun _ => rfl) ?_
  refine Ev.iast (c' := (ovl a s (updC (updC (updC (updC (updC (updC (updC (updC (updC b 166 2 ((gt G : Nat) : Int)) 166 1 0) 166 5 0) 166 8 0) 166 9 (-1)) 166 39 (j : Int)) 168 j 0) 169 j 0) 170 j 0))) rfl (by decide) rfl (by omega) (by omega) (ovl_wm (by decide)) ?_
  refine Ev.steps (k := 5) (pc' := 77) (L' := [Vr 166, Vx]) (S' := [Vi 0, Vi (j : Int), Vr 171]) (h' := ((SHv st dr rd), (ovl a s (updC (updC (updC (updC (updC (updC (updC (updC (updC b 166 2 ((gt G : Nat) : Int)) 166 1 0) 166 5 0) 166 8 0) 166 9 (-1)) 166 39 (j : Int)) 168 j 0) 169 j 0) 170 j 0)))) (fun _ => rfl) ?_
  refine Ev.iast (c' := (ovl a s (updC (updC (updC (updC (updC (updC (updC (updC (updC (updC b 166 2 ((gt G : Nat) : Int)) 166 1 0) 166 5 0) 166 8 0) 166 9 (-1)) 166 39 (j : Int)) 168 j 0) 169 j 0) 170 j 0) 171 j 0))) rfl (by decide) rfl (by omega) (by omega) (ovl_wm (by decide)) ?_
  refine Ev.steps (k := 5) (pc' := 87) (L' := [Vr 166, Vx]) (S' := [Vi 0, Vi (j : Int), Vr 172]) (h' := ((SHv st dr rd), (ovl a s (updC (updC (updC (updC (updC (updC (updC (updC (updC (updC b 166 2 ((gt G : Nat) : Int)) 166 1 0) 166 5 0) 166 8 0) 166 9 (-1)) 166 39 (j : Int)) 168 j 0) 169 j 0) 170 j 0) 171 j 0)))) (fun _ => rfl) ?_
  refine Ev.iast (c' := (ovl a s (updC (updC (updC (updC (updC (updC (updC (updC (updC (updC (updC b 166 2 ((gt G : Nat) : Int)) 166 1 0) 166 5 0) 166 8 0) 166 9 (-1)) 166 39 (j : Int)) 168 j 0) 169 j 0) 170 j 0) 171 j 0) 172 j 0))) rfl (by decide) rfl (by omega) (by omega) (ovl_wm (by decide)) ?_
  refine Ev.steps (k := 5) (pc' := 97) (L' := [Vr 166, Vx]) (S' := [Vi 0, Vi (j : Int), Vr 173]) (h' := ((SHv st dr rd), (ovl a s (updC (updC (updC (updC (updC (updC (updC (updC (updC (updC (updC b 166 2 ((gt G : Nat) : Int)) 166 1 0) 166 5 0) 166 8 0) 166 9 (-1)) 166 39 (j : Int)) 168 j 0) 169 j 0) 170 j 0) 171 j 0) 172 j 0)))) (fun _ => rfl) ?_
  refine Ev.iast (c' := (ovl a s (updC (updC (updC (updC (updC (updC (updC (updC (updC (updC (updC (updC b 166 2 ((gt G : Nat) : Int)) 166 1 0) 166 5 0) 166 8 0) 166 9 (-1)) 166 39 (j : Int)) 168 j 0) 169 j 0) 170 j 0) 171 j 0) 172 j 0) 173 j 0))) rfl (by decide) rfl (by omega) (by omega) (ovl_wm (by decide)) ?_
  refine Ev.steps (k := 2) (pc' := 100) (L' := [Vr 166, Vx]) (S' := [Vi 0, Vr 166]) (h' := ((SHv st dr rd), (ovl a s (updC (updC (updC (updC (updC (updC (updC (updC (updC (updC (updC (updC b 166 2 ((gt G : Nat) : Int)) 166 1 0) 166 5 0) 166 8 0) 166 9 (-1)) 166 39 (j : Int)) 168 j 0) 169 j 0) 170 j 0) 171 j 0) 172 j 0) 173 j 0)))) (fun _ => rfl) ?_
  refine Ev.putf (c' := (ovl a s (updC (updC (updC (updC (updC (updC (updC (updC (updC (updC (updC (updC (updC b 166 2 ((gt G : Nat) : Int)) 166 1 0) 166 5 0) 166 8 0) 166 9 (-1)) 166 39 (j : Int)) 168 j 0) 169 j 0) 170 j 0) 171 j 0) 172 j 0) 173 j 0) 166 38 0))) rfl (by decide) rfl rfl rfl (ovl_wm (by decide)) ?_
  have hB0 : BaM (gT G, gt G) (updC (updC (updC (updC (updC (updC (updC (updC (updC (updC (updC (updC (updC b 166 2 ((gt G : Nat) : Int)) 166 1 0) 166 5 0) 166 8 0) 166 9 (-1)) 166 39 (j : Int)) 168 j 0) 169 j 0) 170 j 0) 171 j 0) 172 j 0) 173 j 0) 166 38 0) := by
    refine ⟨hTx, fun i hi => ?_, rfl⟩
    rw [updC_nt (by omega), updC_nt (by omega), updC_nt (by omega), updC_nt (by omega), updC_nt (by omega), updC_nt (by omega), updC_nt (by omega), updC_nt (by omega), updC_nt (by omega), updC_nt (by omega), updC_nt (by omega), updC_nt (by omega), updC_nt (by omega)]
    exact (hTp.2.2 i hi).1
  refine Ev.call (k := 3) (pc1 := 106) (L1 := [Vr 166, Vi 0]) (S1 := [Vr 166]) (h1 := ((SHv st dr rd), (ovl a s (updC (updC (updC (updC (updC (updC (updC (updC (updC (updC (updC (updC (updC b 166 2 ((gt G : Nat) : Int)) 166 1 0) 166 5 0) 166 8 0) 166 9 (-1)) 166 39 (j : Int)) 168 j 0) 169 j 0) 170 j 0) 171 j 0) 172 j 0) 173 j 0) 166 38 0)))) (m' := 157) (as := [Vr 166]) (S' := []) (L0 := [Vr 166, Vx, Vx, Vx, Vx, Vx]) (fun _ => rfl) rfl rfl rfl rfl rfl rfl (m_next (b := (updC (updC (updC (updC (updC (updC (updC (updC (updC (updC (updC (updC (updC b 166 2 ((gt G : Nat) : Int)) 166 1 0) 166 5 0) 166 8 0) 166 9 (-1)) 166 39 (j : Int)) 168 j 0) 169 j 0) 170 j 0) 171 j 0) 172 j 0) 173 j 0) 166 38 0)) (W := (gT G, gt G)) (p := 0) (Nat.zero_le _) hB0 rfl rfl rfl) (fun r h' hq => ?_)
  obtain ⟨rfl, b1, rfl, hF1, hq⟩ := hq
  have f1 : ∀ o i, ¬ (o = 166 ∧ 3 ≤ i ∧ i ≤ 9) → b1 o i = (updC (updC (updC (updC (updC (updC (updC (updC (updC (updC (updC (updC (updC b 166 2 ((gt G : Nat) : Int)) 166 1 0) 166 5 0) 166 8 0) 166 9 (-1)) 166 39 (j : Int)) 168 j 0) 169 j 0) 170 j 0) 171 j 0) 172 j 0) 173 j 0) 166 38 0) o i := hF1
  have e1 : b1 166 1 = 0 := (f1 166 1 (by omega)).trans rfl
  have h0 : ∀ o i, ¬ fjM j o i → ¬ (o = 166 ∧ ((1 ≤ i ∧ i ≤ 11) ∨ (38 ≤ i ∧ i ≤ 49))) → b1 o i = b o i := fun o i h1 h2 => by
    rw [f1 o i (by omega), updC_nt (by omega), updC_nt (by omega), updC_nt (by omega), updC_nt (by omega), updC_nt (by omega), updC_nt (by omega), updC_nt (by omega), updC_nt (by omega), updC_nt (by omega), updC_nt (by omega), updC_nt (by omega), updC_nt (by omega), updC_nt (by omega)]
  have hO1 : ∀ i, i < 90 → b1 201 i = 0 ∨ b1 201 i = 1 := fun i hi => by rw [h0 201 i (by omega) (by omega)]; exact hO i hi
  have hRo : RqM styO b1 j 0 := by
    refine RqM.o hj ((f1 166 39 (by omega)).trans rfl) ((f1 166 38 (by omega)).trans rfl) (fun o h1 h2 => ?_)
    rw [f1 o j (by omega)]
    rcases (show o = 168 ∨ o = 169 ∨ o = 170 ∨ o = 171 ∨ o = 172 ∨ o = 173 by omega) with rfl | rfl | rfl | rfl | rfl | rfl
    · rw [updC_nt (by omega), updC_nt (by omega), updC_nt (by omega), updC_nt (by omega), updC_nt (by omega), updC_nt (by omega), updC_sm]
    · rw [updC_nt (by omega), updC_nt (by omega), updC_nt (by omega), updC_nt (by omega), updC_nt (by omega), updC_sm]
    · rw [updC_nt (by omega), updC_nt (by omega), updC_nt (by omega), updC_nt (by omega), updC_sm]
    · rw [updC_nt (by omega), updC_nt (by omega), updC_nt (by omega), updC_sm]
    · rw [updC_nt (by omega), updC_nt (by omega), updC_sm]
    · rw [updC_nt (by omega), updC_sm]
  rcases hq with hk1 | ⟨h3, hBa, hBr⟩
  · show Ev X _ _ 109 [Vr 166, Vi 0] [] ((SHv st dr rd), (ovl a s b1)) _
    exact m_text_l (W := (gT G, gt G)) hTx (j := j) (b0 := b1) (R := txtT (gT G, gt G)) (fun S p c b2 h1 h2 h3 h4 h5 h6 => m_text_ok h1 h2 h3 h4 h5 hO1 e1 h6) (fun e many b2 h1 h2 => m_text_er many hT h12 hj h1 h0 e1 h2) 1200 styO 0 0 b1 (by have := hTx.1; omega) hk1 wfy_O wfd_O hRo (Nat.le_refl _) FrP.rf (by unfold txtT; rw [if_neg hk1.2.2.2.2.2.1])
  · show Ev X _ _ 109 [Vr 166, Vi 0] [] ((SHv st dr rd), (ovl a s b1)) _
    exact m_text_b _ hBr (m_text_er 0 hT h12 hj ⟨(FrP.rf : FrJ j b1 b1), hBa, hBr⟩ h0 e1 (by unfold txtT; rw [if_pos h3]))
