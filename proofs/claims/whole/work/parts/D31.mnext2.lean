/-! THE REFERENCE READS: next -/
theorem m_nx_end {X : List Int} {d : Nat} {st dr rd : Int} {a s b : C3} {W : TXT} {b0 : C3} {p q : Nat} (hp : p ≤ W.2) (hq : skpT W p = q) (hn : W.2 ≤ q) (hB : BaM W b) (e8 : b 166 8 = 0) (e9 : b 166 9 = -1) (hF : FrN b0 b) : Ev X (d + 1) 157 41 [Vr 166, Vi (q : Int), Vx, Vx, Vx, Vx] [] (SHv st dr rd, ovl a s b) (fun rr hh => rr = none ∧ ∃ b' : C3, hh = (SHv st dr rd, ovl a s b') ∧ NxM W p b0 b') := by
  have h1200 := hB.1.1
  have e2 : b 166 2 = ((W.2 : Nat) : Int) := hB.2.2
  refine Ev.steps (k := 2) (pc' := 43) (L' := [Vr 166, Vi (q : Int), Vx, Vx, Vx, Vx]) (S' := [Vi (q : Int), Vr 166]) (h' := ((SHv st dr rd), (ovl a s b))) (fun _ => rfl) ?_
  refine Ev.putf (c' := (ovl a s (updC b 166 4 (q : Int)))) rfl (by decide) rfl rfl rfl (ovl_wm (by decide)) ?_
  refine Ev.steps (k := 2) (pc' := 48) (L' := [Vr 166, Vi (q : Int), Vx, Vx, Vx, Vx]) (S' := [Vi (q : Int), Vr 166]) (h' := ((SHv st dr rd), (ovl a s (updC b 166 4 (q : Int))))) (fun _ => rfl) ?_
  refine Ev.putf (c' := (ovl a s (updC (updC b 166 4 (q : Int)) 166 5 (q : Int)))) rfl (by decide) rfl rfl rfl (ovl_wm (by decide)) ?_
  refine Ev.steps (k := 2) (pc' := 53) (L' := [Vr 166, Vi (q : Int), Vx, Vx, Vx, Vx]) (S' := [Vi 0, Vr 166]) (h' := ((SHv st dr rd), (ovl a s (updC (updC b 166 4 (q : Int)) 166 5 (q : Int))))) (fun _ => rfl) ?_
  refine Ev.putf (c' := (ovl a s (updC (updC (updC b 166 4 (q : Int)) 166 5 (q : Int)) 166 3 0))) rfl (by decide) rfl rfl rfl (ovl_wm (by decide)) ?_
  refine Ev.steps (k := 3) (pc' := 61) (L' := [Vr 166, Vi (q : Int), Vx, Vx, Vx, Vx]) (S' := [Vi (b 166 2), Vi (q : Int)]) (h' := ((SHv st dr rd), (ovl a s (updC (updC (updC b 166 4 (q : Int)) 166 5 (q : Int)) 166 3 0)))) (fun _ => rfl) ?_
  rw [e2]
  refine Ev.ite (P := (q : Int) < ((W.2 : Nat) : Int)) (k := 1) (a := 65) (b := 64) (L' := [Vr 166, Vi (q : Int), Vx, Vx, Vx, Vx]) (S' := []) (h' := ((SHv st dr rd), (ovl a s (updC (updC (updC b 166 4 (q : Int)) 166 5 (q : Int)) 166 3 0)))) (fun _ => rfl) (fun b61 => ?_) (fun b61 => ?_)
  · exfalso; omega
  · refine Ev.fin (k := 1) (r := none) (h' := ((SHv st dr rd), (ovl a s (updC (updC (updC b 166 4 (q : Int)) 166 5 (q : Int)) 166 3 0)))) (fun _ => rfl) ?_
    exact ⟨rfl, _, rfl, (((hF.up (by omega)).up (by omega)).up (by omega)), Or.inl (TkM.mk (tok_end hq hn) (hB.fo rfl rfl) e8 e9 rfl rfl (by decide) hp (fun _ => rfl) (fun h => absurd h (by decide)) (fun _ h => absurd h (by decide)) (fun h => absurd h (by decide)))⟩
theorem m_nx_sig {X : List Int} {d : Nat} {st dr rd : Int} {a s b : C3} {W : TXT} {b0 : C3} {p q : Nat} (hp : p ≤ W.2) (hq : skpT W p = q) (hn : q < W.2) (h0 : clsT (W.1 q) = 0) (hB : BaM W b) (e8 : b 166 8 = 0) (e9 : b 166 9 = -1) (hF : FrN b0 b) : Ev X (d + 1) 157 41 [Vr 166, Vi (q : Int), Vx, Vx, Vx, Vx] [] (SHv st dr rd, ovl a s b) (fun rr hh => rr = none ∧ ∃ b' : C3, hh = (SHv st dr rd, ovl a s b') ∧ NxM W p b0 b') := by
  have h1200 := hB.1.1
  have e2 : b 166 2 = ((W.2 : Nat) : Int) := hB.2.2
  have hc := hB.1.2 q hn
  have ht := tok_sig hq hn h0
  refine Ev.steps (k := 2) (pc' := 43) (L' := [Vr 166, Vi (q : Int), Vx, Vx, Vx, Vx]) (S' := [Vi (q : Int), Vr 166]) (h' := ((SHv st dr rd), (ovl a s b))) (fun _ => rfl) ?_
  refine Ev.putf (c' := (ovl a s (updC b 166 4 (q : Int)))) rfl (by decide) rfl rfl rfl (ovl_wm (by decide)) ?_
  refine Ev.steps (k := 2) (pc' := 48) (L' := [Vr 166, Vi (q : Int), Vx, Vx, Vx, Vx]) (S' := [Vi (q : Int), Vr 166]) (h' := ((SHv st dr rd), (ovl a s (updC b 166 4 (q : Int))))) (fun _ => rfl) ?_
  refine Ev.putf (c' := (ovl a s (updC (updC b 166 4 (q : Int)) 166 5 (q : Int)))) rfl (by decide) rfl rfl rfl (ovl_wm (by decide)) ?_
  refine Ev.steps (k := 2) (pc' := 53) (L' := [Vr 166, Vi (q : Int), Vx, Vx, Vx, Vx]) (S' := [Vi 0, Vr 166]) (h' := ((SHv st dr rd), (ovl a s (updC (updC b 166 4 (q : Int)) 166 5 (q : Int))))) (fun _ => rfl) ?_
  refine Ev.putf (c' := (ovl a s (updC (updC (updC b 166 4 (q : Int)) 166 5 (q : Int)) 166 3 0))) rfl (by decide) rfl rfl rfl (ovl_wm (by decide)) ?_
  refine Ev.steps (k := 3) (pc' := 61) (L' := [Vr 166, Vi (q : Int), Vx, Vx, Vx, Vx]) (S' := [Vi (b 166 2), Vi (q : Int)]) (h' := ((SHv st dr rd), (ovl a s (updC (updC (updC b 166 4 (q : Int)) 166 5 (q : Int)) 166 3 0)))) (fun _ => rfl) ?_
  rw [e2]
  refine Ev.ite (P := (q : Int) < ((W.2 : Nat) : Int)) (k := 1) (a := 65) (b := 64) (L' := [Vr 166, Vi (q : Int), Vx, Vx, Vx, Vx]) (S' := []) (h' := ((SHv st dr rd), (ovl a s (updC (updC (updC b 166 4 (q : Int)) 166 5 (q : Int)) 166 3 0)))) (fun _ => rfl) (fun b61 => ?_) (fun b61 => ?_)
  · refine Ev.steps (k := 3) (pc' := 70) (L' := [Vr 166, Vi (q : Int), Vx, Vx, Vx, Vx]) (S' := [Vi (q : Int), Vr 167]) (h' := ((SHv st dr rd), (ovl a s (updC (updC (updC b 166 4 (q : Int)) 166 5 (q : Int)) 166 3 0)))) (fun _ => rfl) ?_
    refine Ev.iald (v := (W.1 q)) rfl (by decide) rfl (by omega) (by omega) (hB.2.1 q (by omega)) ?_
    refine Ev.call (k := 0) (pc1 := 71) (L1 := [Vr 166, Vi (q : Int), Vx, Vx, Vx, Vx]) (S1 := [Vi (W.1 q)]) (h1 := ((SHv st dr rd), (ovl a s (updC (updC (updC b 166 4 (q : Int)) 166 5 (q : Int)) 166 3 0)))) (m' := 158) (as := [Vi (W.1 q)]) (S' := []) (L0 := [Vi (W.1 q)]) (fun _ => rfl) rfl rfl rfl rfl rfl rfl (m_isLetter (W.1 q)) (fun r h' hq => ?_)
    obtain ⟨rfl, rfl⟩ := hq
    rw [if_neg (by exact fun g => absurd (cls_1.mpr g) (by omega))]
    show Ev X _ _ 74 [Vr 166, Vi (q : Int), Vx, Vx, Vx, Vx] [Vi 0] ((SHv st dr rd), (ovl a s (updC (updC (updC b 166 4 (q : Int)) 166 5 (q : Int)) 166 3 0))) _
    refine Ev.steps (k := 4) (pc' := 80) (L' := [Vr 166, Vi (q : Int), Vi 0, Vx, Vx, Vx]) (S' := [Vi (q : Int), Vr 167]) (h' := ((SHv st dr rd), (ovl a s (updC (updC (updC b 166 4 (q : Int)) 166 5 (q : Int)) 166 3 0)))) (fun _ => rfl) ?_
    refine Ev.iald (v := (W.1 q)) rfl (by decide) rfl (by omega) (by omega) (hB.2.1 q (by omega)) ?_
    refine Ev.call (k := 0) (pc1 := 81) (L1 := [Vr 166, Vi (q : Int), Vi 0, Vx, Vx, Vx]) (S1 := [Vi (W.1 q)]) (h1 := ((SHv st dr rd), (ovl a s (updC (updC (updC b 166 4 (q : Int)) 166 5 (q : Int)) 166 3 0)))) (m' := 159) (as := [Vi (W.1 q)]) (S' := []) (L0 := [Vi (W.1 q)]) (fun _ => rfl) rfl rfl rfl rfl rfl rfl (m_isDigit (W.1 q)) (fun r h' hq => ?_)
    obtain ⟨rfl, rfl⟩ := hq
    rw [if_neg (by exact fun g => absurd (cls_2.mpr g) (by omega))]
    show Ev X _ _ 84 [Vr 166, Vi (q : Int), Vi 0, Vx, Vx, Vx] [Vi 0] ((SHv st dr rd), (ovl a s (updC (updC (updC b 166 4 (q : Int)) 166 5 (q : Int)) 166 3 0))) _
    refine Ev.steps (k := 7) (pc' := 133) (L' := [Vr 166, Vi (q : Int), Vi 0, Vi 0, Vx, Vx]) (S' := [Vi 0, Vr 166]) (h' := ((SHv st dr rd), (ovl a s (updC (updC (updC b 166 4 (q : Int)) 166 5 (q : Int)) 166 3 0)))) (fun _ => rfl) ?_
    refine Ev.putf (c' := (ovl a s (updC (updC (updC (updC b 166 4 (q : Int)) 166 5 (q : Int)) 166 3 0) 166 6 0))) rfl (by decide) rfl rfl rfl (ovl_wm (by decide)) ?_
    refine Ev.steps (k := 2) (pc' := 138) (L' := [Vr 166, Vi (q : Int), Vi 0, Vi 0, Vx, Vx]) (S' := [Vl 0, Vr 166]) (h' := ((SHv st dr rd), (ovl a s (updC (updC (updC (updC b 166 4 (q : Int)) 166 5 (q : Int)) 166 3 0) 166 6 0)))) (fun _ => rfl) ?_
    refine Ev.putl (c' := (ovl a s (updC (updC (updC (updC (updC b 166 4 (q : Int)) 166 5 (q : Int)) 166 3 0) 166 6 0) 166 7 0))) rfl (by decide) rfl rfl rfl (ovl_wm (by decide)) ?_
    refine Ev.steps (k := 2) (pc' := 143) (L' := [Vr 166, Vi (q : Int), Vi 0, Vi 0, Vx, Vx]) (S' := [Vi 3, Vr 166]) (h' := ((SHv st dr rd), (ovl a s (updC (updC (updC (updC (updC b 166 4 (q : Int)) 166 5 (q : Int)) 166 3 0) 166 6 0) 166 7 0)))) (fun _ => rfl) ?_
    refine Ev.putf (c' := (ovl a s (updC (updC (updC (updC (updC (updC b 166 4 (q : Int)) 166 5 (q : Int)) 166 3 0) 166 6 0) 166 7 0) 166 3 3))) rfl (by decide) rfl rfl rfl (ovl_wm (by decide)) ?_
    refine Ev.steps (k := 4) (pc' := 150) (L' := [Vr 166, Vi (q : Int), Vi 0, Vi 0, Vx, Vx]) (S' := [Vi (w32 ((q : Int) + 1)), Vr 166]) (h' := ((SHv st dr rd), (ovl a s (updC (updC (updC (updC (updC (updC b 166 4 (q : Int)) 166 5 (q : Int)) 166 3 0) 166 6 0) 166 7 0) 166 3 3)))) (fun _ => rfl) ?_
    rw [show (w32 ((q : Int) + 1)) = ((q : Int) + 1) from w32_id (by unfold R32; omega)]
    refine Ev.putf (c' := (ovl a s (updC (updC (updC (updC (updC (updC (updC b 166 4 (q : Int)) 166 5 (q : Int)) 166 3 0) 166 6 0) 166 7 0) 166 3 3) 166 5 ((q : Int) + 1)))) rfl (by decide) rfl rfl rfl (ovl_wm (by decide)) ?_
    refine Ev.steps (k := 8) (pc' := 167) (L' := [Vr 166, Vi (q : Int), Vi 0, Vi 0, Vx, Vx]) (S' := [Vi (q : Int), Vr 167, Vr 166]) (h' := ((SHv st dr rd), (ovl a s (updC (updC (updC (updC (updC (updC (updC b 166 4 (q : Int)) 166 5 (q : Int)) 166 3 0) 166 6 0) 166 7 0) 166 3 3) 166 5 ((q : Int) + 1))))) (fun _ => rfl) ?_
    refine Ev.iald (v := (W.1 q)) rfl (by decide) rfl (by omega) (by omega) (hB.2.1 q (by omega)) ?_
    refine Ev.putf (c' := (ovl a s (updC (updC (updC (updC (updC (updC (updC (updC b 166 4 (q : Int)) 166 5 (q : Int)) 166 3 0) 166 6 0) 166 7 0) 166 3 3) 166 5 ((q : Int) + 1)) 166 6 (W.1 q)))) rfl (by decide) rfl rfl rfl (ovl_wm (by decide)) ?_
    refine Ev.fin (k := 1) (r := none) (h' := ((SHv st dr rd), (ovl a s (updC (updC (updC (updC (updC (updC (updC (updC b 166 4 (q : Int)) 166 5 (q : Int)) 166 3 0) 166 6 0) 166 7 0) 166 3 3) 166 5 ((q : Int) + 1)) 166 6 (W.1 q))))) (fun _ => rfl) ?_
    exact ⟨rfl, _, rfl, ((((((((hF.up (by omega)).up (by omega)).up (by omega)).up (by omega)).up (by omega)).up (by omega)).up (by omega)).up (by omega)), Or.inl (TkM.mk ht (hB.fo rfl rfl) e8 e9 (by show (q : Int) + 1 = ((q + 1 : Nat) : Int); omega) rfl (by omega) hp (fun h => by omega) (fun _ => ⟨rfl, by show W.1 q = (((W.1 q).toNat : Nat) : Int); omega⟩) (fun h => by omega) (fun h => by omega))⟩
  · exfalso; omega
theorem m_nx_let {X : List Int} {d : Nat} {st dr rd : Int} {a s b : C3} {W : TXT} {b0 : C3} {p q : Nat} (hp : p ≤ W.2) (hq : skpT W p = q) (hn : q < W.2) (h0 : clsT (W.1 q) = 1) (hB : BaM W b) (e8 : b 166 8 = 0) (e9 : b 166 9 = -1) (hF : FrN b0 b) : Ev X (d + 1) 157 41 [Vr 166, Vi (q : Int), Vx, Vx, Vx, Vx] [] (SHv st dr rd, ovl a s b) (fun rr hh => rr = none ∧ ∃ b' : C3, hh = (SHv st dr rd, ovl a s b') ∧ NxM W p b0 b') := by
  have h1200 := hB.1.1
  have e2 : b 166 2 = ((W.2 : Nat) : Int) := hB.2.2
  refine Ev.steps (k := 2) (pc' := 43) (L' := [Vr 166, Vi (q : Int), Vx, Vx, Vx, Vx]) (S' := [Vi (q : Int), Vr 166]) (h' := ((SHv st dr rd), (ovl a s b))) (fun _ => rfl) ?_
  refine Ev.putf (c' := (ovl a s (updC b 166 4 (q : Int)))) rfl (by decide) rfl rfl rfl (ovl_wm (by decide)) ?_
  refine Ev.steps (k := 2) (pc' := 48) (L' := [Vr 166, Vi (q : Int), Vx, Vx, Vx, Vx]) (S' := [Vi (q : Int), Vr 166]) (h' := ((SHv st dr rd), (ovl a s (updC b 166 4 (q : Int))))) (fun _ => rfl) ?_
  refine Ev.putf (c' := (ovl a s (updC (updC b 166 4 (q : Int)) 166 5 (q : Int)))) rfl (by decide) rfl rfl rfl (ovl_wm (by decide)) ?_
  refine Ev.steps (k := 2) (pc' := 53) (L' := [Vr 166, Vi (q : Int), Vx, Vx, Vx, Vx]) (S' := [Vi 0, Vr 166]) (h' := ((SHv st dr rd), (ovl a s (updC (updC b 166 4 (q : Int)) 166 5 (q : Int))))) (fun _ => rfl) ?_
  refine Ev.putf (c' := (ovl a s (updC (updC (updC b 166 4 (q : Int)) 166 5 (q : Int)) 166 3 0))) rfl (by decide) rfl rfl rfl (ovl_wm (by decide)) ?_
  refine Ev.steps (k := 3) (pc' := 61) (L' := [Vr 166, Vi (q : Int), Vx, Vx, Vx, Vx]) (S' := [Vi (b 166 2), Vi (q : Int)]) (h' := ((SHv st dr rd), (ovl a s (updC (updC (updC b 166 4 (q : Int)) 166 5 (q : Int)) 166 3 0)))) (fun _ => rfl) ?_
  rw [e2]
  refine Ev.ite (P := (q : Int) < ((W.2 : Nat) : Int)) (k := 1) (a := 65) (b := 64) (L' := [Vr 166, Vi (q : Int), Vx, Vx, Vx, Vx]) (S' := []) (h' := ((SHv st dr rd), (ovl a s (updC (updC (updC b 166 4 (q : Int)) 166 5 (q : Int)) 166 3 0)))) (fun _ => rfl) (fun b61 => ?_) (fun b61 => ?_)
  · refine Ev.steps (k := 3) (pc' := 70) (L' := [Vr 166, Vi (q : Int), Vx, Vx, Vx, Vx]) (S' := [Vi (q : Int), Vr 167]) (h' := ((SHv st dr rd), (ovl a s (updC (updC (updC b 166 4 (q : Int)) 166 5 (q : Int)) 166 3 0)))) (fun _ => rfl) ?_
    refine Ev.iald (v := (W.1 q)) rfl (by decide) rfl (by omega) (by omega) (hB.2.1 q (by omega)) ?_
    refine Ev.call (k := 0) (pc1 := 71) (L1 := [Vr 166, Vi (q : Int), Vx, Vx, Vx, Vx]) (S1 := [Vi (W.1 q)]) (h1 := ((SHv st dr rd), (ovl a s (updC (updC (updC b 166 4 (q : Int)) 166 5 (q : Int)) 166 3 0)))) (m' := 158) (as := [Vi (W.1 q)]) (S' := []) (L0 := [Vi (W.1 q)]) (fun _ => rfl) rfl rfl rfl rfl rfl rfl (m_isLetter (W.1 q)) (fun r h' hq => ?_)
    obtain ⟨rfl, rfl⟩ := hq
    rw [if_pos (by exact cls_1.mp h0)]
    show Ev X _ _ 74 [Vr 166, Vi (q : Int), Vx, Vx, Vx, Vx] [Vi 1] ((SHv st dr rd), (ovl a s (updC (updC (updC b 166 4 (q : Int)) 166 5 (q : Int)) 166 3 0))) _
    refine Ev.steps (k := 4) (pc' := 80) (L' := [Vr 166, Vi (q : Int), Vi 1, Vx, Vx, Vx]) (S' := [Vi (q : Int), Vr 167]) (h' := ((SHv st dr rd), (ovl a s (updC (updC (updC b 166 4 (q : Int)) 166 5 (q : Int)) 166 3 0)))) (fun _ => rfl) ?_
    refine Ev.iald (v := (W.1 q)) rfl (by decide) rfl (by omega) (by omega) (hB.2.1 q (by omega)) ?_
    refine Ev.call (k := 0) (pc1 := 81) (L1 := [Vr 166, Vi (q : Int), Vi 1, Vx, Vx, Vx]) (S1 := [Vi (W.1 q)]) (h1 := ((SHv st dr rd), (ovl a s (updC (updC (updC b 166 4 (q : Int)) 166 5 (q : Int)) 166 3 0)))) (m' := 159) (as := [Vi (W.1 q)]) (S' := []) (L0 := [Vi (W.1 q)]) (fun _ => rfl) rfl rfl rfl rfl rfl rfl (m_isDigit (W.1 q)) (fun r h' hq => ?_)
    obtain ⟨rfl, rfl⟩ := hq
    rw [if_neg (by exact fun g => absurd (cls_2.mpr g) (by omega))]
    show Ev X _ _ 84 [Vr 166, Vi (q : Int), Vi 1, Vx, Vx, Vx] [Vi 0] ((SHv st dr rd), (ovl a s (updC (updC (updC b 166 4 (q : Int)) 166 5 (q : Int)) 166 3 0))) _
    refine Ev.ite (P := (q : Int) ≤ 0) (k := 5) (a := 131) (b := 97) (L' := [Vr 166, Vi (q : Int), Vi 1, Vi 0, Vx, Vx]) (S' := []) (h' := ((SHv st dr rd), (ovl a s (updC (updC (updC b 166 4 (q : Int)) 166 5 (q : Int)) 166 3 0)))) (fun _ => rfl) (fun b94 => ?_) (fun b94 => ?_)
    · refine Ev.steps (k := 2) (pc' := 133) (L' := [Vr 166, Vi (q : Int), Vi 1, Vi 0, Vx, Vx]) (S' := [Vi 0, Vr 166]) (h' := ((SHv st dr rd), (ovl a s (updC (updC (updC b 166 4 (q : Int)) 166 5 (q : Int)) 166 3 0)))) (fun _ => rfl) ?_
      refine Ev.putf (c' := (ovl a s (updC (updC (updC (updC b 166 4 (q : Int)) 166 5 (q : Int)) 166 3 0) 166 6 0))) rfl (by decide) rfl rfl rfl (ovl_wm (by decide)) ?_
      refine Ev.steps (k := 2) (pc' := 138) (L' := [Vr 166, Vi (q : Int), Vi 1, Vi 0, Vx, Vx]) (S' := [Vl 0, Vr 166]) (h' := ((SHv st dr rd), (ovl a s (updC (updC (updC (updC b 166 4 (q : Int)) 166 5 (q : Int)) 166 3 0) 166 6 0)))) (fun _ => rfl) ?_
      refine Ev.putl (c' := (ovl a s (updC (updC (updC (updC (updC b 166 4 (q : Int)) 166 5 (q : Int)) 166 3 0) 166 6 0) 166 7 0))) rfl (by decide) rfl rfl rfl (ovl_wm (by decide)) ?_
      refine Ev.steps (k := 2) (pc' := 143) (L' := [Vr 166, Vi (q : Int), Vi 1, Vi 0, Vx, Vx]) (S' := [Vi 3, Vr 166]) (h' := ((SHv st dr rd), (ovl a s (updC (updC (updC (updC (updC b 166 4 (q : Int)) 166 5 (q : Int)) 166 3 0) 166 6 0) 166 7 0)))) (fun _ => rfl) ?_
      refine Ev.putf (c' := (ovl a s (updC (updC (updC (updC (updC (updC b 166 4 (q : Int)) 166 5 (q : Int)) 166 3 0) 166 6 0) 166 7 0) 166 3 3))) rfl (by decide) rfl rfl rfl (ovl_wm (by decide)) ?_
      refine Ev.steps (k := 4) (pc' := 150) (L' := [Vr 166, Vi (q : Int), Vi 1, Vi 0, Vx, Vx]) (S' := [Vi (w32 ((q : Int) + 1)), Vr 166]) (h' := ((SHv st dr rd), (ovl a s (updC (updC (updC (updC (updC (updC b 166 4 (q : Int)) 166 5 (q : Int)) 166 3 0) 166 6 0) 166 7 0) 166 3 3)))) (fun _ => rfl) ?_
      rw [show (w32 ((q : Int) + 1)) = ((q : Int) + 1) from w32_id (by unfold R32; omega)]
      refine Ev.putf (c' := (ovl a s (updC (updC (updC (updC (updC (updC (updC b 166 4 (q : Int)) 166 5 (q : Int)) 166 3 0) 166 6 0) 166 7 0) 166 3 3) 166 5 ((q : Int) + 1)))) rfl (by decide) rfl rfl rfl (ovl_wm (by decide)) ?_
      refine Ev.steps (k := 7) (pc' := 182) (L' := [Vr 166, Vi (q : Int), Vi 1, Vi 0, Vx, Vx]) (S' := [Vi 1, Vr 166]) (h' := ((SHv st dr rd), (ovl a s (updC (updC (updC (updC (updC (updC (updC b 166 4 (q : Int)) 166 5 (q : Int)) 166 3 0) 166 6 0) 166 7 0) 166 3 3) 166 5 ((q : Int) + 1))))) (fun _ => rfl) ?_
      refine Ev.putf (c' := (ovl a s (updC (updC (updC (updC (updC (updC (updC (updC b 166 4 (q : Int)) 166 5 (q : Int)) 166 3 0) 166 6 0) 166 7 0) 166 3 3) 166 5 ((q : Int) + 1)) 166 3 1))) rfl (by decide) rfl rfl rfl (ovl_wm (by decide)) ?_
      refine Ev.steps (k := 7) (pc' := 200) (L' := [Vr 166, Vi (q : Int), Vi 1, Vi 0, Vi 6, Vi 0]) (S' := []) (h' := ((SHv st dr rd), (ovl a s (updC (updC (updC (updC (updC (updC (updC (updC b 166 4 (q : Int)) 166 5 (q : Int)) 166 3 0) 166 6 0) 166 7 0) 166 3 3) 166 5 ((q : Int) + 1)) 166 3 1)))) (fun _ => rfl) ?_
      refine m_nxN_let (b := (updC (updC (updC (updC (updC (updC (updC (updC b 166 4 (q : Int)) 166 5 (q : Int)) 166 3 0) 166 6 0) 166 7 0) 166 3 3) 166 5 ((q : Int) + 1)) 166 3 1)) hp hq hn h0 ?_ 0 (by omega) (by omega) (fun i hi => absurd hi (by omega)) (hB.fo rfl rfl) e8 e9 rfl rfl rfl ((((((((hF.up (by omega)).up (by omega)).up (by omega)).up (by omega)).up (by omega)).up (by omega)).up (by omega)).up (by omega))
      rintro ⟨g1, g2⟩
      rcases cls_3 (c := W.1 (q - 1)) with g | g | g
      · exact g2 g
      · have g3 := cls_1.mp g
        first
          | (exfalso; omega)
          | (exact absurd g3 (by assumption))
      · have g3 := cls_2.mp g
        first
          | (exfalso; omega)
          | (exact absurd g3 (by assumption))
    · refine Ev.steps (k := 5) (pc' := 104) (L' := [Vr 166, Vi (q : Int), Vi 1, Vi 0, Vx, Vx]) (S' := [Vi (w32 ((q : Int) - 1)), Vr 167]) (h' := ((SHv st dr rd), (ovl a s (updC (updC (updC b 166 4 (q : Int)) 166 5 (q : Int)) 166 3 0)))) (fun _ => rfl) ?_
      rw [show (w32 ((q : Int) - 1)) = ((q - 1 : Nat) : Int) from (by unfold w32; omega)]
      refine Ev.iald (v := (W.1 (q - 1))) rfl (by decide) rfl (by omega) (by omega) (hB.2.1 (q - 1) (by omega)) ?_
      refine Ev.call (k := 0) (pc1 := 105) (L1 := [Vr 166, Vi (q : Int), Vi 1, Vi 0, Vx, Vx]) (S1 := [Vi (W.1 (q - 1))]) (h1 := ((SHv st dr rd), (ovl a s (updC (updC (updC b 166 4 (q : Int)) 166 5 (q : Int)) 166 3 0)))) (m' := 158) (as := [Vi (W.1 (q - 1))]) (S' := []) (L0 := [Vi (W.1 (q - 1))]) (fun _ => rfl) rfl rfl rfl rfl rfl rfl (m_isLetter (W.1 (q - 1))) (fun r h' hq => ?_)
      obtain ⟨rfl, rfl⟩ := hq
      by_cases c105 : 97 ≤ (W.1 (q - 1)) ∧ (W.1 (q - 1)) ≤ 122
      · rw [if_pos c105]
        show Ev X _ _ 108 [Vr 166, Vi (q : Int), Vi 1, Vi 0, Vx, Vx] [Vi 1] ((SHv st dr rd), (ovl a s (updC (updC (updC b 166 4 (q : Int)) 166 5 (q : Int)) 166 3 0))) _
        refine Ev.call (k := 4) (pc1 := 128) (L1 := [Vr 166, Vi (q : Int), Vi 1, Vi 0, Vx, Vx]) (S1 := [Vi (q : Int), Vi 1, Vr 166]) (h1 := ((SHv st dr rd), (ovl a s (updC (updC (updC b 166 4 (q : Int)) 166 5 (q : Int)) 166 3 0)))) (m' := 160) (as := [Vr 166, Vi 1, Vi (q : Int)]) (S' := []) (L0 := [Vr 166, Vi 1, Vi (q : Int)]) (fun _ => rfl) rfl rfl rfl rfl rfl rfl (m_blame (b := (updC (updC (updC b 166 4 (q : Int)) 166 5 (q : Int)) 166 3 0)) 1 (q : Int)) (fun r h' hq => ?_)
        obtain ⟨rfl, hq⟩ := hq
        rw [if_neg (by show ¬ 0 < b 166 8; rw [e8]; decide)] at hq
        obtain rfl := hq
        show Ev X _ _ 131 [Vr 166, Vi (q : Int), Vi 1, Vi 0, Vx, Vx] [] ((SHv st dr rd), (ovl a s (updC (updC (updC (updC (updC b 166 4 (q : Int)) 166 5 (q : Int)) 166 3 0) 166 8 1) 166 9 (q : Int)))) _
        refine Ev.steps (k := 2) (pc' := 133) (L' := [Vr 166, Vi (q : Int), Vi 1, Vi 0, Vx, Vx]) (S' := [Vi 0, Vr 166]) (h' := ((SHv st dr rd), (ovl a s (updC (updC (updC (updC (updC b 166 4 (q : Int)) 166 5 (q : Int)) 166 3 0) 166 8 1) 166 9 (q : Int))))) (fun _ => rfl) ?_
        refine Ev.putf (c' := (ovl a s (updC (updC (updC (updC (updC (updC b 166 4 (q : Int)) 166 5 (q : Int)) 166 3 0) 166 8 1) 166 9 (q : Int)) 166 6 0))) rfl (by decide) rfl rfl rfl (ovl_wm (by decide)) ?_
        refine Ev.steps (k := 2) (pc' := 138) (L' := [Vr 166, Vi (q : Int), Vi 1, Vi 0, Vx, Vx]) (S' := [Vl 0, Vr 166]) (h' := ((SHv st dr rd), (ovl a s (updC (updC (updC (updC (updC (updC b 166 4 (q : Int)) 166 5 (q : Int)) 166 3 0) 166 8 1) 166 9 (q : Int)) 166 6 0)))) (fun _ => rfl) ?_
        refine Ev.putl (c' := (ovl a s (updC (updC (updC (updC (updC (updC (updC b 166 4 (q : Int)) 166 5 (q : Int)) 166 3 0) 166 8 1) 166 9 (q : Int)) 166 6 0) 166 7 0))) rfl (by decide) rfl rfl rfl (ovl_wm (by decide)) ?_
        refine Ev.steps (k := 2) (pc' := 143) (L' := [Vr 166, Vi (q : Int), Vi 1, Vi 0, Vx, Vx]) (S' := [Vi 3, Vr 166]) (h' := ((SHv st dr rd), (ovl a s (updC (updC (updC (updC (updC (updC (updC b 166 4 (q : Int)) 166 5 (q : Int)) 166 3 0) 166 8 1) 166 9 (q : Int)) 166 6 0) 166 7 0)))) (fun _ => rfl) ?_
        refine Ev.putf (c' := (ovl a s (updC (updC (updC (updC (updC (updC (updC (updC b 166 4 (q : Int)) 166 5 (q : Int)) 166 3 0) 166 8 1) 166 9 (q : Int)) 166 6 0) 166 7 0) 166 3 3))) rfl (by decide) rfl rfl rfl (ovl_wm (by decide)) ?_
        refine Ev.steps (k := 4) (pc' := 150) (L' := [Vr 166, Vi (q : Int), Vi 1, Vi 0, Vx, Vx]) (S' := [Vi (w32 ((q : Int) + 1)), Vr 166]) (h' := ((SHv st dr rd), (ovl a s (updC (updC (updC (updC (updC (updC (updC (updC b 166 4 (q : Int)) 166 5 (q : Int)) 166 3 0) 166 8 1) 166 9 (q : Int)) 166 6 0) 166 7 0) 166 3 3)))) (fun _ => rfl) ?_
        rw [show (w32 ((q : Int) + 1)) = ((q : Int) + 1) from w32_id (by unfold R32; omega)]
        refine Ev.putf (c' := (ovl a s (updC (updC (updC (updC (updC (updC (updC (updC (updC b 166 4 (q : Int)) 166 5 (q : Int)) 166 3 0) 166 8 1) 166 9 (q : Int)) 166 6 0) 166 7 0) 166 3 3) 166 5 ((q : Int) + 1)))) rfl (by decide) rfl rfl rfl (ovl_wm (by decide)) ?_
        refine Ev.steps (k := 7) (pc' := 182) (L' := [Vr 166, Vi (q : Int), Vi 1, Vi 0, Vx, Vx]) (S' := [Vi 1, Vr 166]) (h' := ((SHv st dr rd), (ovl a s (updC (updC (updC (updC (updC (updC (updC (updC (updC b 166 4 (q : Int)) 166 5 (q : Int)) 166 3 0) 166 8 1) 166 9 (q : Int)) 166 6 0) 166 7 0) 166 3 3) 166 5 ((q : Int) + 1))))) (fun _ => rfl) ?_
        refine Ev.putf (c' := (ovl a s (updC (updC (updC (updC (updC (updC (updC (updC (updC (updC b 166 4 (q : Int)) 166 5 (q : Int)) 166 3 0) 166 8 1) 166 9 (q : Int)) 166 6 0) 166 7 0) 166 3 3) 166 5 ((q : Int) + 1)) 166 3 1))) rfl (by decide) rfl rfl rfl (ovl_wm (by decide)) ?_
        refine Ev.steps (k := 7) (pc' := 200) (L' := [Vr 166, Vi (q : Int), Vi 1, Vi 0, Vi 6, Vi 0]) (S' := []) (h' := ((SHv st dr rd), (ovl a s (updC (updC (updC (updC (updC (updC (updC (updC (updC (updC b 166 4 (q : Int)) 166 5 (q : Int)) 166 3 0) 166 8 1) 166 9 (q : Int)) 166 6 0) 166 7 0) 166 3 3) 166 5 ((q : Int) + 1)) 166 3 1)))) (fun _ => rfl) ?_
        have hbes : 0 < q ∧ clsT (W.1 (q - 1)) ≠ 0 := ⟨by omega, fun g => by
          first
            | (have g2 := cls_1.mpr (show 97 ≤ W.1 (q - 1) ∧ W.1 (q - 1) ≤ 122 by assumption); omega)
            | (have g2 := cls_2.mpr (show 48 ≤ W.1 (q - 1) ∧ W.1 (q - 1) ≤ 57 by assumption); omega)⟩
        obtain ⟨t1, t2, t3, t4⟩ := tk_of (tok_bes hq hn (by omega) hbes)
        refine (m_nxF_let (b := (updC (updC (updC (updC (updC (updC (updC (updC (updC (updC b 166 4 (q : Int)) 166 5 (q : Int)) 166 3 0) 166 8 1) 166 9 (q : Int)) 166 6 0) 166 7 0) 166 3 3) 166 5 ((q : Int) + 1)) 166 3 1)) (b0 := b0) (q := q) (q : Int) 0 (by omega) (hB.fo rfl rfl) rfl rfl ((((((((((hF.up (by omega)).up (by omega)).up (by omega)).up (by omega)).up (by omega)).up (by omega)).up (by omega)).up (by omega)).up (by omega)).up (by omega))).mono ?_
        rintro r h' ⟨g1, b', g2, g3, g4, g5⟩
        refine ⟨g1, b', g2, g3, Or.inr ⟨t1, g4, ?_⟩⟩
        rw [t2]
        exact g5
      · rw [if_neg c105]
        show Ev X _ _ 108 [Vr 166, Vi (q : Int), Vi 1, Vi 0, Vx, Vx] [Vi 0] ((SHv st dr rd), (ovl a s (updC (updC (updC b 166 4 (q : Int)) 166 5 (q : Int)) 166 3 0))) _
        refine Ev.steps (k := 6) (pc' := 118) (L' := [Vr 166, Vi (q : Int), Vi 1, Vi 0, Vx, Vx]) (S' := [Vi (w32 ((q : Int) - 1)), Vr 167]) (h' := ((SHv st dr rd), (ovl a s (updC (updC (updC b 166 4 (q : Int)) 166 5 (q : Int)) 166 3 0)))) (fun _ => rfl) ?_
        rw [show (w32 ((q : Int) - 1)) = ((q - 1 : Nat) : Int) from (by unfold w32; omega)]
        refine Ev.iald (v := (W.1 (q - 1))) rfl (by decide) rfl (by omega) (by omega) (hB.2.1 (q - 1) (by omega)) ?_
        refine Ev.call (k := 0) (pc1 := 119) (L1 := [Vr 166, Vi (q : Int), Vi 1, Vi 0, Vx, Vx]) (S1 := [Vi (W.1 (q - 1))]) (h1 := ((SHv st dr rd), (ovl a s (updC (updC (updC b 166 4 (q : Int)) 166 5 (q : Int)) 166 3 0)))) (m' := 159) (as := [Vi (W.1 (q - 1))]) (S' := []) (L0 := [Vi (W.1 (q - 1))]) (fun _ => rfl) rfl rfl rfl rfl rfl rfl (m_isDigit (W.1 (q - 1))) (fun r h' hq => ?_)
        obtain ⟨rfl, rfl⟩ := hq
        by_cases c119 : 48 ≤ (W.1 (q - 1)) ∧ (W.1 (q - 1)) ≤ 57
        · rw [if_pos c119]
          show Ev X _ _ 122 [Vr 166, Vi (q : Int), Vi 1, Vi 0, Vx, Vx] [Vi 1] ((SHv st dr rd), (ovl a s (updC (updC (updC b 166 4 (q : Int)) 166 5 (q : Int)) 166 3 0))) _
          refine Ev.call (k := 4) (pc1 := 128) (L1 := [Vr 166, Vi (q : Int), Vi 1, Vi 0, Vx, Vx]) (S1 := [Vi (q : Int), Vi 1, Vr 166]) (h1 := ((SHv st dr rd), (ovl a s (updC (updC (updC b 166 4 (q : Int)) 166 5 (q : Int)) 166 3 0)))) (m' := 160) (as := [Vr 166, Vi 1, Vi (q : Int)]) (S' := []) (L0 := [Vr 166, Vi 1, Vi (q : Int)]) (fun _ => rfl) rfl rfl rfl rfl rfl rfl (m_blame (b := (updC (updC (updC b 166 4 (q : Int)) 166 5 (q : Int)) 166 3 0)) 1 (q : Int)) (fun r h' hq => ?_)
          obtain ⟨rfl, hq⟩ := hq
          rw [if_neg (by show ¬ 0 < b 166 8; rw [e8]; decide)] at hq
          obtain rfl := hq
          show Ev X _ _ 131 [Vr 166, Vi (q : Int), Vi 1, Vi 0, Vx, Vx] [] ((SHv st dr rd), (ovl a s (updC (updC (updC (updC (updC b 166 4 (q : Int)) 166 5 (q : Int)) 166 3 0) 166 8 1) 166 9 (q : Int)))) _
          refine Ev.steps (k := 2) (pc' := 133) (L' := [Vr 166, Vi (q : Int), Vi 1, Vi 0, Vx, Vx]) (S' := [Vi 0, Vr 166]) (h' := ((SHv st dr rd), (ovl a s (updC (updC (updC (updC (updC b 166 4 (q : Int)) 166 5 (q : Int)) 166 3 0) 166 8 1) 166 9 (q : Int))))) (fun _ => rfl) ?_
          refine Ev.putf (c' := (ovl a s (updC (updC (updC (updC (updC (updC b 166 4 (q : Int)) 166 5 (q : Int)) 166 3 0) 166 8 1) 166 9 (q : Int)) 166 6 0))) rfl (by decide) rfl rfl rfl (ovl_wm (by decide)) ?_
          refine Ev.steps (k := 2) (pc' := 138) (L' := [Vr 166, Vi (q : Int), Vi 1, Vi 0, Vx, Vx]) (S' := [Vl 0, Vr 166]) (h' := ((SHv st dr rd), (ovl a s (updC (updC (updC (updC (updC (updC b 166 4 (q : Int)) 166 5 (q : Int)) 166 3 0) 166 8 1) 166 9 (q : Int)) 166 6 0)))) (fun _ => rfl) ?_
          refine Ev.putl (c' := (ovl a s (updC (updC (updC (updC (updC (updC (updC b 166 4 (q : Int)) 166 5 (q : Int)) 166 3 0) 166 8 1) 166 9 (q : Int)) 166 6 0) 166 7 0))) rfl (by decide) rfl rfl rfl (ovl_wm (by decide)) ?_
          refine Ev.steps (k := 2) (pc' := 143) (L' := [Vr 166, Vi (q : Int), Vi 1, Vi 0, Vx, Vx]) (S' := [Vi 3, Vr 166]) (h' := ((SHv st dr rd), (ovl a s (updC (updC (updC (updC (updC (updC (updC b 166 4 (q : Int)) 166 5 (q : Int)) 166 3 0) 166 8 1) 166 9 (q : Int)) 166 6 0) 166 7 0)))) (fun _ => rfl) ?_
          refine Ev.putf (c' := (ovl a s (updC (updC (updC (updC (updC (updC (updC (updC b 166 4 (q : Int)) 166 5 (q : Int)) 166 3 0) 166 8 1) 166 9 (q : Int)) 166 6 0) 166 7 0) 166 3 3))) rfl (by decide) rfl rfl rfl (ovl_wm (by decide)) ?_
          refine Ev.steps (k := 4) (pc' := 150) (L' := [Vr 166, Vi (q : Int), Vi 1, Vi 0, Vx, Vx]) (S' := [Vi (w32 ((q : Int) + 1)), Vr 166]) (h' := ((SHv st dr rd), (ovl a s (updC (updC (updC (updC (updC (updC (updC (updC b 166 4 (q : Int)) 166 5 (q : Int)) 166 3 0) 166 8 1) 166 9 (q : Int)) 166 6 0) 166 7 0) 166 3 3)))) (fun _ => rfl) ?_
          rw [show (w32 ((q : Int) + 1)) = ((q : Int) + 1) from w32_id (by unfold R32; omega)]
          refine Ev.putf (c' := (ovl a s (updC (updC (updC (updC (updC (updC (updC (updC (updC b 166 4 (q : Int)) 166 5 (q : Int)) 166 3 0) 166 8 1) 166 9 (q : Int)) 166 6 0) 166 7 0) 166 3 3) 166 5 ((q : Int) + 1)))) rfl (by decide) rfl rfl rfl (ovl_wm (by decide)) ?_
          refine Ev.steps (k := 7) (pc' := 182) (L' := [Vr 166, Vi (q : Int), Vi 1, Vi 0, Vx, Vx]) (S' := [Vi 1, Vr 166]) (h' := ((SHv st dr rd), (ovl a s (updC (updC (updC (updC (updC (updC (updC (updC (updC b 166 4 (q : Int)) 166 5 (q : Int)) 166 3 0) 166 8 1) 166 9 (q : Int)) 166 6 0) 166 7 0) 166 3 3) 166 5 ((q : Int) + 1))))) (fun _ => rfl) ?_
          refine Ev.putf (c' := (ovl a s (updC (updC (updC (updC (updC (updC (updC (updC (updC (updC b 166 4 (q : Int)) 166 5 (q : Int)) 166 3 0) 166 8 1) 166 9 (q : Int)) 166 6 0) 166 7 0) 166 3 3) 166 5 ((q : Int) + 1)) 166 3 1))) rfl (by decide) rfl rfl rfl (ovl_wm (by decide)) ?_
          refine Ev.steps (k := 7) (pc' := 200) (L' := [Vr 166, Vi (q : Int), Vi 1, Vi 0, Vi 6, Vi 0]) (S' := []) (h' := ((SHv st dr rd), (ovl a s (updC (updC (updC (updC (updC (updC (updC (updC (updC (updC b 166 4 (q : Int)) 166 5 (q : Int)) 166 3 0) 166 8 1) 166 9 (q : Int)) 166 6 0) 166 7 0) 166 3 3) 166 5 ((q : Int) + 1)) 166 3 1)))) (fun _ => rfl) ?_
          have hbes : 0 < q ∧ clsT (W.1 (q - 1)) ≠ 0 := ⟨by omega, fun g => by
            first
              | (have g2 := cls_1.mpr (show 97 ≤ W.1 (q - 1) ∧ W.1 (q - 1) ≤ 122 by assumption); omega)
              | (have g2 := cls_2.mpr (show 48 ≤ W.1 (q - 1) ∧ W.1 (q - 1) ≤ 57 by assumption); omega)⟩
          obtain ⟨t1, t2, t3, t4⟩ := tk_of (tok_bes hq hn (by omega) hbes)
          refine (m_nxF_let (b := (updC (updC (updC (updC (updC (updC (updC (updC (updC (updC b 166 4 (q : Int)) 166 5 (q : Int)) 166 3 0) 166 8 1) 166 9 (q : Int)) 166 6 0) 166 7 0) 166 3 3) 166 5 ((q : Int) + 1)) 166 3 1)) (b0 := b0) (q := q) (q : Int) 0 (by omega) (hB.fo rfl rfl) rfl rfl ((((((((((hF.up (by omega)).up (by omega)).up (by omega)).up (by omega)).up (by omega)).up (by omega)).up (by omega)).up (by omega)).up (by omega)).up (by omega))).mono ?_
          rintro r h' ⟨g1, b', g2, g3, g4, g5⟩
          refine ⟨g1, b', g2, g3, Or.inr ⟨t1, g4, ?_⟩⟩
          rw [t2]
          exact g5
        · rw [if_neg c119]
          show Ev X _ _ 122 [Vr 166, Vi (q : Int), Vi 1, Vi 0, Vx, Vx] [Vi 0] ((SHv st dr rd), (ovl a s (updC (updC (updC b 166 4 (q : Int)) 166 5 (q : Int)) 166 3 0))) _
          refine Ev.steps (k := 3) (pc' := 133) (L' := [Vr 166, Vi (q : Int), Vi 1, Vi 0, Vx, Vx]) (S' := [Vi 0, Vr 166]) (h' := ((SHv st dr rd), (ovl a s (updC (updC (updC b 166 4 (q : Int)) 166 5 (q : Int)) 166 3 0)))) (fun _ => rfl) ?_
          refine Ev.putf (c' := (ovl a s (updC (updC (updC (updC b 166 4 (q : Int)) 166 5 (q : Int)) 166 3 0) 166 6 0))) rfl (by decide) rfl rfl rfl (ovl_wm (by decide)) ?_
          refine Ev.steps (k := 2) (pc' := 138) (L' := [Vr 166, Vi (q : Int), Vi 1, Vi 0, Vx, Vx]) (S' := [Vl 0, Vr 166]) (h' := ((SHv st dr rd), (ovl a s (updC (updC (updC (updC b 166 4 (q : Int)) 166 5 (q : Int)) 166 3 0) 166 6 0)))) (fun _ => rfl) ?_
          refine Ev.putl (c' := (ovl a s (updC (updC (updC (updC (updC b 166 4 (q : Int)) 166 5 (q : Int)) 166 3 0) 166 6 0) 166 7 0))) rfl (by decide) rfl rfl rfl (ovl_wm (by decide)) ?_
          refine Ev.steps (k := 2) (pc' := 143) (L' := [Vr 166, Vi (q : Int), Vi 1, Vi 0, Vx, Vx]) (S' := [Vi 3, Vr 166]) (h' := ((SHv st dr rd), (ovl a s (updC (updC (updC (updC (updC b 166 4 (q : Int)) 166 5 (q : Int)) 166 3 0) 166 6 0) 166 7 0)))) (fun _ => rfl) ?_
          refine Ev.putf (c' := (ovl a s (updC (updC (updC (updC (updC (updC b 166 4 (q : Int)) 166 5 (q : Int)) 166 3 0) 166 6 0) 166 7 0) 166 3 3))) rfl (by decide) rfl rfl rfl (ovl_wm (by decide)) ?_
          refine Ev.steps (k := 4) (pc' := 150) (L' := [Vr 166, Vi (q : Int), Vi 1, Vi 0, Vx, Vx]) (S' := [Vi (w32 ((q : Int) + 1)), Vr 166]) (h' := ((SHv st dr rd), (ovl a s (updC (updC (updC (updC (updC (updC b 166 4 (q : Int)) 166 5 (q : Int)) 166 3 0) 166 6 0) 166 7 0) 166 3 3)))) (fun _ => rfl) ?_
          rw [show (w32 ((q : Int) + 1)) = ((q : Int) + 1) from w32_id (by unfold R32; omega)]
          refine Ev.putf (c' := (ovl a s (updC (updC (updC (updC (updC (updC (updC b 166 4 (q : Int)) 166 5 (q : Int)) 166 3 0) 166 6 0) 166 7 0) 166 3 3) 166 5 ((q : Int) + 1)))) rfl (by decide) rfl rfl rfl (ovl_wm (by decide)) ?_
          refine Ev.steps (k := 7) (pc' := 182) (L' := [Vr 166, Vi (q : Int), Vi 1, Vi 0, Vx, Vx]) (S' := [Vi 1, Vr 166]) (h' := ((SHv st dr rd), (ovl a s (updC (updC (updC (updC (updC (updC (updC b 166 4 (q : Int)) 166 5 (q : Int)) 166 3 0) 166 6 0) 166 7 0) 166 3 3) 166 5 ((q : Int) + 1))))) (fun _ => rfl) ?_
          refine Ev.putf (c' := (ovl a s (updC (updC (updC (updC (updC (updC (updC (updC b 166 4 (q : Int)) 166 5 (q : Int)) 166 3 0) 166 6 0) 166 7 0) 166 3 3) 166 5 ((q : Int) + 1)) 166 3 1))) rfl (by decide) rfl rfl rfl (ovl_wm (by decide)) ?_
          refine Ev.steps (k := 7) (pc' := 200) (L' := [Vr 166, Vi (q : Int), Vi 1, Vi 0, Vi 6, Vi 0]) (S' := []) (h' := ((SHv st dr rd), (ovl a s (updC (updC (updC (updC (updC (updC (updC (updC b 166 4 (q : Int)) 166 5 (q : Int)) 166 3 0) 166 6 0) 166 7 0) 166 3 3) 166 5 ((q : Int) + 1)) 166 3 1)))) (fun _ => rfl) ?_
          refine m_nxN_let (b := (updC (updC (updC (updC (updC (updC (updC (updC b 166 4 (q : Int)) 166 5 (q : Int)) 166 3 0) 166 6 0) 166 7 0) 166 3 3) 166 5 ((q : Int) + 1)) 166 3 1)) hp hq hn h0 ?_ 0 (by omega) (by omega) (fun i hi => absurd hi (by omega)) (hB.fo rfl rfl) e8 e9 rfl rfl rfl ((((((((hF.up (by omega)).up (by omega)).up (by omega)).up (by omega)).up (by omega)).up (by omega)).up (by omega)).up (by omega))
          rintro ⟨g1, g2⟩
          rcases cls_3 (c := W.1 (q - 1)) with g | g | g
          · exact g2 g
          · have g3 := cls_1.mp g
            first
              | (exfalso; omega)
              | (exact absurd g3 (by assumption))
          · have g3 := cls_2.mp g
            first
              | (exfalso; omega)
              | (exact absurd g3 (by assumption))
  · exfalso; omega
theorem m_nx_dig {X : List Int} {d : Nat} {st dr rd : Int} {a s b : C3} {W : TXT} {b0 : C3} {p q : Nat} (hp : p ≤ W.2) (hq : skpT W p = q) (hn : q < W.2) (h0 : clsT (W.1 q) = 2) (hB : BaM W b) (e8 : b 166 8 = 0) (e9 : b 166 9 = -1) (hF : FrN b0 b) : Ev X (d + 1) 157 41 [Vr 166, Vi (q : Int), Vx, Vx, Vx, Vx] [] (SHv st dr rd, ovl a s b) (fun rr hh => rr = none ∧ ∃ b' : C3, hh = (SHv st dr rd, ovl a s b') ∧ NxM W p b0 b') := by
  have h1200 := hB.1.1
  have e2 : b 166 2 = ((W.2 : Nat) : Int) := hB.2.2
  refine Ev.steps (k := 2) (pc' := 43) (L' := [Vr 166, Vi (q : Int), Vx, Vx, Vx, Vx]) (S' := [Vi (q : Int), Vr 166]) (h' := ((SHv st dr rd), (ovl a s b))) (fun _ => rfl) ?_
  refine Ev.putf (c' := (ovl a s (updC b 166 4 (q : Int)))) rfl (by decide) rfl rfl rfl (ovl_wm (by decide)) ?_
  refine Ev.steps (k := 2) (pc' := 48) (L' := [Vr 166, Vi (q : Int), Vx, Vx, Vx, Vx]) (S' := [Vi (q : Int), Vr 166]) (h' := ((SHv st dr rd), (ovl a s (updC b 166 4 (q : Int))))) (fun _ => rfl) ?_
  refine Ev.putf (c' := (ovl a s (updC (updC b 166 4 (q : Int)) 166 5 (q : Int)))) rfl (by decide) rfl rfl rfl (ovl_wm (by decide)) ?_
  refine Ev.steps (k := 2) (pc' := 53) (L' := [Vr 166, Vi (q : Int), Vx, Vx, Vx, Vx]) (S' := [Vi 0, Vr 166]) (h' := ((SHv st dr rd), (ovl a s (updC (updC b 166 4 (q : Int)) 166 5 (q : Int))))) (fun _ => rfl) ?_
  refine Ev.putf (c' := (ovl a s (updC (updC (updC b 166 4 (q : Int)) 166 5 (q : Int)) 166 3 0))) rfl (by decide) rfl rfl rfl (ovl_wm (by decide)) ?_
  refine Ev.steps (k := 3) (pc' := 61) (L' := [Vr 166, Vi (q : Int), Vx, Vx, Vx, Vx]) (S' := [Vi (b 166 2), Vi (q : Int)]) (h' := ((SHv st dr rd), (ovl a s (updC (updC (updC b 166 4 (q : Int)) 166 5 (q : Int)) 166 3 0)))) (fun _ => rfl) ?_
  rw [e2]
  refine Ev.ite (P := (q : Int) < ((W.2 : Nat) : Int)) (k := 1) (a := 65) (b := 64) (L' := [Vr 166, Vi (q : Int), Vx, Vx, Vx, Vx]) (S' := []) (h' := ((SHv st dr rd), (ovl a s (updC (updC (updC b 166 4 (q : Int)) 166 5 (q : Int)) 166 3 0)))) (fun _ => rfl) (fun b61 => ?_) (fun b61 => ?_)
  · refine Ev.steps (k := 3) (pc' := 70) (L' := [Vr 166, Vi (q : Int), Vx, Vx, Vx, Vx]) (S' := [Vi (q : Int), Vr 167]) (h' := ((SHv st dr rd), (ovl a s (updC (updC (updC b 166 4 (q : Int)) 166 5 (q : Int)) 166 3 0)))) (fun _ => rfl) ?_
    refine Ev.iald (v := (W.1 q)) rfl (by decide) rfl (by omega) (by omega) (hB.2.1 q (by omega)) ?_
    refine Ev.call (k := 0) (pc1 := 71) (L1 := [Vr 166, Vi (q : Int), Vx, Vx, Vx, Vx]) (S1 := [Vi (W.1 q)]) (h1 := ((SHv st dr rd), (ovl a s (updC (updC (updC b 166 4 (q : Int)) 166 5 (q : Int)) 166 3 0)))) (m' := 158) (as := [Vi (W.1 q)]) (S' := []) (L0 := [Vi (W.1 q)]) (fun _ => rfl) rfl rfl rfl rfl rfl rfl (m_isLetter (W.1 q)) (fun r h' hq => ?_)
    obtain ⟨rfl, rfl⟩ := hq
    rw [if_neg (by exact fun g => absurd (cls_1.mpr g) (by omega))]
    show Ev X _ _ 74 [Vr 166, Vi (q : Int), Vx, Vx, Vx, Vx] [Vi 0] ((SHv st dr rd), (ovl a s (updC (updC (updC b 166 4 (q : Int)) 166 5 (q : Int)) 166 3 0))) _
    refine Ev.steps (k := 4) (pc' := 80) (L' := [Vr 166, Vi (q : Int), Vi 0, Vx, Vx, Vx]) (S' := [Vi (q : Int), Vr 167]) (h' := ((SHv st dr rd), (ovl a s (updC (updC (updC b 166 4 (q : Int)) 166 5 (q : Int)) 166 3 0)))) (fun _ => rfl) ?_
    refine Ev.iald (v := (W.1 q)) rfl (by decide) rfl (by omega) (by omega) (hB.2.1 q (by omega)) ?_
    refine Ev.call (k := 0) (pc1 := 81) (L1 := [Vr 166, Vi (q : Int), Vi 0, Vx, Vx, Vx]) (S1 := [Vi (W.1 q)]) (h1 := ((SHv st dr rd), (ovl a s (updC (updC (updC b 166 4 (q : Int)) 166 5 (q : Int)) 166 3 0)))) (m' := 159) (as := [Vi (W.1 q)]) (S' := []) (L0 := [Vi (W.1 q)]) (fun _ => rfl) rfl rfl rfl rfl rfl rfl (m_isDigit (W.1 q)) (fun r h' hq => ?_)
    obtain ⟨rfl, rfl⟩ := hq
    rw [if_pos (by exact cls_2.mp h0)]
    show Ev X _ _ 84 [Vr 166, Vi (q : Int), Vi 0, Vx, Vx, Vx] [Vi 1] ((SHv st dr rd), (ovl a s (updC (updC (updC b 166 4 (q : Int)) 166 5 (q : Int)) 166 3 0))) _
    refine Ev.ite (P := (q : Int) ≤ 0) (k := 7) (a := 131) (b := 97) (L' := [Vr 166, Vi (q : Int), Vi 0, Vi 1, Vx, Vx]) (S' := []) (h' := ((SHv st dr rd), (ovl a s (updC (updC (updC b 166 4 (q : Int)) 166 5 (q : Int)) 166 3 0)))) (fun _ => rfl) (fun b94 => ?_) (fun b94 => ?_)
    · refine Ev.steps (k := 2) (pc' := 133) (L' := [Vr 166, Vi (q : Int), Vi 0, Vi 1, Vx, Vx]) (S' := [Vi 0, Vr 166]) (h' := ((SHv st dr rd), (ovl a s (updC (updC (updC b 166 4 (q : Int)) 166 5 (q : Int)) 166 3 0)))) (fun _ => rfl) ?_
      refine Ev.putf (c' := (ovl a s (updC (updC (updC (updC b 166 4 (q : Int)) 166 5 (q : Int)) 166 3 0) 166 6 0))) rfl (by decide) rfl rfl rfl (ovl_wm (by decide)) ?_
      refine Ev.steps (k := 2) (pc' := 138) (L' := [Vr 166, Vi (q : Int), Vi 0, Vi 1, Vx, Vx]) (S' := [Vl 0, Vr 166]) (h' := ((SHv st dr rd), (ovl a s (updC (updC (updC (updC b 166 4 (q : Int)) 166 5 (q : Int)) 166 3 0) 166 6 0)))) (fun _ => rfl) ?_
      refine Ev.putl (c' := (ovl a s (updC (updC (updC (updC (updC b 166 4 (q : Int)) 166 5 (q : Int)) 166 3 0) 166 6 0) 166 7 0))) rfl (by decide) rfl rfl rfl (ovl_wm (by decide)) ?_
      refine Ev.steps (k := 2) (pc' := 143) (L' := [Vr 166, Vi (q : Int), Vi 0, Vi 1, Vx, Vx]) (S' := [Vi 3, Vr 166]) (h' := ((SHv st dr rd), (ovl a s (updC (updC (updC (updC (updC b 166 4 (q : Int)) 166 5 (q : Int)) 166 3 0) 166 6 0) 166 7 0)))) (fun _ => rfl) ?_
      refine Ev.putf (c' := (ovl a s (updC (updC (updC (updC (updC (updC b 166 4 (q : Int)) 166 5 (q : Int)) 166 3 0) 166 6 0) 166 7 0) 166 3 3))) rfl (by decide) rfl rfl rfl (ovl_wm (by decide)) ?_
      refine Ev.steps (k := 4) (pc' := 150) (L' := [Vr 166, Vi (q : Int), Vi 0, Vi 1, Vx, Vx]) (S' := [Vi (w32 ((q : Int) + 1)), Vr 166]) (h' := ((SHv st dr rd), (ovl a s (updC (updC (updC (updC (updC (updC b 166 4 (q : Int)) 166 5 (q : Int)) 166 3 0) 166 6 0) 166 7 0) 166 3 3)))) (fun _ => rfl) ?_
      rw [show (w32 ((q : Int) + 1)) = ((q : Int) + 1) from w32_id (by unfold R32; omega)]
      refine Ev.putf (c' := (ovl a s (updC (updC (updC (updC (updC (updC (updC b 166 4 (q : Int)) 166 5 (q : Int)) 166 3 0) 166 6 0) 166 7 0) 166 3 3) 166 5 ((q : Int) + 1)))) rfl (by decide) rfl rfl rfl (ovl_wm (by decide)) ?_
      refine Ev.steps (k := 8) (pc' := 182) (L' := [Vr 166, Vi (q : Int), Vi 0, Vi 1, Vx, Vx]) (S' := [Vi 2, Vr 166]) (h' := ((SHv st dr rd), (ovl a s (updC (updC (updC (updC (updC (updC (updC b 166 4 (q : Int)) 166 5 (q : Int)) 166 3 0) 166 6 0) 166 7 0) 166 3 3) 166 5 ((q : Int) + 1))))) (fun _ => rfl) ?_
      refine Ev.putf (c' := (ovl a s (updC (updC (updC (updC (updC (updC (updC (updC b 166 4 (q : Int)) 166 5 (q : Int)) 166 3 0) 166 6 0) 166 7 0) 166 3 3) 166 5 ((q : Int) + 1)) 166 3 2))) rfl (by decide) rfl rfl rfl (ovl_wm (by decide)) ?_
      refine Ev.steps (k := 6) (pc' := 200) (L' := [Vr 166, Vi (q : Int), Vi 0, Vi 1, Vi 4, Vi 0]) (S' := []) (h' := ((SHv st dr rd), (ovl a s (updC (updC (updC (updC (updC (updC (updC (updC b 166 4 (q : Int)) 166 5 (q : Int)) 166 3 0) 166 6 0) 166 7 0) 166 3 3) 166 5 ((q : Int) + 1)) 166 3 2)))) (fun _ => rfl) ?_
      refine m_nxN_dig (b := (updC (updC (updC (updC (updC (updC (updC (updC b 166 4 (q : Int)) 166 5 (q : Int)) 166 3 0) 166 6 0) 166 7 0) 166 3 3) 166 5 ((q : Int) + 1)) 166 3 2)) hp hq hn h0 ?_ 0 (by omega) (by omega) (fun i hi => absurd hi (by omega)) (hB.fo rfl rfl) e8 e9 rfl rfl rfl ((((((((hF.up (by omega)).up (by omega)).up (by omega)).up (by omega)).up (by omega)).up (by omega)).up (by omega)).up (by omega))
      rintro ⟨g1, g2⟩
      rcases cls_3 (c := W.1 (q - 1)) with g | g | g
      · exact g2 g
      · have g3 := cls_1.mp g
        first
          | (exfalso; omega)
          | (exact absurd g3 (by assumption))
      · have g3 := cls_2.mp g
        first
          | (exfalso; omega)
          | (exact absurd g3 (by assumption))
    · refine Ev.steps (k := 5) (pc' := 104) (L' := [Vr 166, Vi (q : Int), Vi 0, Vi 1, Vx, Vx]) (S' := [Vi (w32 ((q : Int) - 1)), Vr 167]) (h' := ((SHv st dr rd), (ovl a s (updC (updC (updC b 166 4 (q : Int)) 166 5 (q : Int)) 166 3 0)))) (fun _ => rfl) ?_
      rw [show (w32 ((q : Int) - 1)) = ((q - 1 : Nat) : Int) from (by unfold w32; omega)]
      refine Ev.iald (v := (W.1 (q - 1))) rfl (by decide) rfl (by omega) (by omega) (hB.2.1 (q - 1) (by omega)) ?_
      refine Ev.call (k := 0) (pc1 := 105) (L1 := [Vr 166, Vi (q : Int), Vi 0, Vi 1, Vx, Vx]) (S1 := [Vi (W.1 (q - 1))]) (h1 := ((SHv st dr rd), (ovl a s (updC (updC (updC b 166 4 (q : Int)) 166 5 (q : Int)) 166 3 0)))) (m' := 158) (as := [Vi (W.1 (q - 1))]) (S' := []) (L0 := [Vi (W.1 (q - 1))]) (fun _ => rfl) rfl rfl rfl rfl rfl rfl (m_isLetter (W.1 (q - 1))) (fun r h' hq => ?_)
      obtain ⟨rfl, rfl⟩ := hq
      by_cases c105 : 97 ≤ (W.1 (q - 1)) ∧ (W.1 (q - 1)) ≤ 122
      · rw [if_pos c105]
        show Ev X _ _ 108 [Vr 166, Vi (q : Int), Vi 0, Vi 1, Vx, Vx] [Vi 1] ((SHv st dr rd), (ovl a s (updC (updC (updC b 166 4 (q : Int)) 166 5 (q : Int)) 166 3 0))) _
        refine Ev.call (k := 4) (pc1 := 128) (L1 := [Vr 166, Vi (q : Int), Vi 0, Vi 1, Vx, Vx]) (S1 := [Vi (q : Int), Vi 1, Vr 166]) (h1 := ((SHv st dr rd), (ovl a s (updC (updC (updC b 166 4 (q : Int)) 166 5 (q : Int)) 166 3 0)))) (m' := 160) (as := [Vr 166, Vi 1, Vi (q : Int)]) (S' := []) (L0 := [Vr 166, Vi 1, Vi (q : Int)]) (fun _ => rfl) rfl rfl rfl rfl rfl rfl (m_blame (b := (updC (updC (updC b 166 4 (q : Int)) 166 5 (q : Int)) 166 3 0)) 1 (q : Int)) (fun r h' hq => ?_)
        obtain ⟨rfl, hq⟩ := hq
        rw [if_neg (by show ¬ 0 < b 166 8; rw [e8]; decide)] at hq
        obtain rfl := hq
        show Ev X _ _ 131 [Vr 166, Vi (q : Int), Vi 0, Vi 1, Vx, Vx] [] ((SHv st dr rd), (ovl a s (updC (updC (updC (updC (updC b 166 4 (q : Int)) 166 5 (q : Int)) 166 3 0) 166 8 1) 166 9 (q : Int)))) _
        refine Ev.steps (k := 2) (pc' := 133) (L' := [Vr 166, Vi (q : Int), Vi 0, Vi 1, Vx, Vx]) (S' := [Vi 0, Vr 166]) (h' := ((SHv st dr rd), (ovl a s (updC (updC (updC (updC (updC b 166 4 (q : Int)) 166 5 (q : Int)) 166 3 0) 166 8 1) 166 9 (q : Int))))) (fun _ => rfl) ?_
        refine Ev.putf (c' := (ovl a s (updC (updC (updC (updC (updC (updC b 166 4 (q : Int)) 166 5 (q : Int)) 166 3 0) 166 8 1) 166 9 (q : Int)) 166 6 0))) rfl (by decide) rfl rfl rfl (ovl_wm (by decide)) ?_
        refine Ev.steps (k := 2) (pc' := 138) (L' := [Vr 166, Vi (q : Int), Vi 0, Vi 1, Vx, Vx]) (S' := [Vl 0, Vr 166]) (h' := ((SHv st dr rd), (ovl a s (updC (updC (updC (updC (updC (updC b 166 4 (q : Int)) 166 5 (q : Int)) 166 3 0) 166 8 1) 166 9 (q : Int)) 166 6 0)))) (fun _ => rfl) ?_
        refine Ev.putl (c' := (ovl a s (updC (updC (updC (updC (updC (updC (updC b 166 4 (q : Int)) 166 5 (q : Int)) 166 3 0) 166 8 1) 166 9 (q : Int)) 166 6 0) 166 7 0))) rfl (by decide) rfl rfl rfl (ovl_wm (by decide)) ?_
        refine Ev.steps (k := 2) (pc' := 143) (L' := [Vr 166, Vi (q : Int), Vi 0, Vi 1, Vx, Vx]) (S' := [Vi 3, Vr 166]) (h' := ((SHv st dr rd), (ovl a s (updC (updC (updC (updC (updC (updC (updC b 166 4 (q : Int)) 166 5 (q : Int)) 166 3 0) 166 8 1) 166 9 (q : Int)) 166 6 0) 166 7 0)))) (fun _ => rfl) ?_
        refine Ev.putf (c' := (ovl a s (updC (updC (updC (updC (updC (updC (updC (updC b 166 4 (q : Int)) 166 5 (q : Int)) 166 3 0) 166 8 1) 166 9 (q : Int)) 166 6 0) 166 7 0) 166 3 3))) rfl (by decide) rfl rfl rfl (ovl_wm (by decide)) ?_
        refine Ev.steps (k := 4) (pc' := 150) (L' := [Vr 166, Vi (q : Int), Vi 0, Vi 1, Vx, Vx]) (S' := [Vi (w32 ((q : Int) + 1)), Vr 166]) (h' := ((SHv st dr rd), (ovl a s (updC (updC (updC (updC (updC (updC (updC (updC b 166 4 (q : Int)) 166 5 (q : Int)) 166 3 0) 166 8 1) 166 9 (q : Int)) 166 6 0) 166 7 0) 166 3 3)))) (fun _ => rfl) ?_
        rw [show (w32 ((q : Int) + 1)) = ((q : Int) + 1) from w32_id (by unfold R32; omega)]
        refine Ev.putf (c' := (ovl a s (updC (updC (updC (updC (updC (updC (updC (updC (updC b 166 4 (q : Int)) 166 5 (q : Int)) 166 3 0) 166 8 1) 166 9 (q : Int)) 166 6 0) 166 7 0) 166 3 3) 166 5 ((q : Int) + 1)))) rfl (by decide) rfl rfl rfl (ovl_wm (by decide)) ?_
        refine Ev.steps (k := 8) (pc' := 182) (L' := [Vr 166, Vi (q : Int), Vi 0, Vi 1, Vx, Vx]) (S' := [Vi 2, Vr 166]) (h' := ((SHv st dr rd), (ovl a s (updC (updC (updC (updC (updC (updC (updC (updC (updC b 166 4 (q : Int)) 166 5 (q : Int)) 166 3 0) 166 8 1) 166 9 (q : Int)) 166 6 0) 166 7 0) 166 3 3) 166 5 ((q : Int) + 1))))) (fun _ => rfl) ?_
        refine Ev.putf (c' := (ovl a s (updC (updC (updC (updC (updC (updC (updC (updC (updC (updC b 166 4 (q : Int)) 166 5 (q : Int)) 166 3 0) 166 8 1) 166 9 (q : Int)) 166 6 0) 166 7 0) 166 3 3) 166 5 ((q : Int) + 1)) 166 3 2))) rfl (by decide) rfl rfl rfl (ovl_wm (by decide)) ?_
        refine Ev.steps (k := 6) (pc' := 200) (L' := [Vr 166, Vi (q : Int), Vi 0, Vi 1, Vi 4, Vi 0]) (S' := []) (h' := ((SHv st dr rd), (ovl a s (updC (updC (updC (updC (updC (updC (updC (updC (updC (updC b 166 4 (q : Int)) 166 5 (q : Int)) 166 3 0) 166 8 1) 166 9 (q : Int)) 166 6 0) 166 7 0) 166 3 3) 166 5 ((q : Int) + 1)) 166 3 2)))) (fun _ => rfl) ?_
        have hbes : 0 < q ∧ clsT (W.1 (q - 1)) ≠ 0 := ⟨by omega, fun g => by
          first
            | (have g2 := cls_1.mpr (show 97 ≤ W.1 (q - 1) ∧ W.1 (q - 1) ≤ 122 by assumption); omega)
            | (have g2 := cls_2.mpr (show 48 ≤ W.1 (q - 1) ∧ W.1 (q - 1) ≤ 57 by assumption); omega)⟩
        obtain ⟨t1, t2, t3, t4⟩ := tk_of (tok_bes hq hn (by omega) hbes)
        refine (m_nxF_dig (b := (updC (updC (updC (updC (updC (updC (updC (updC (updC (updC b 166 4 (q : Int)) 166 5 (q : Int)) 166 3 0) 166 8 1) 166 9 (q : Int)) 166 6 0) 166 7 0) 166 3 3) 166 5 ((q : Int) + 1)) 166 3 2)) (b0 := b0) (q := q) (q : Int) 0 (by omega) (hB.fo rfl rfl) rfl rfl ((((((((((hF.up (by omega)).up (by omega)).up (by omega)).up (by omega)).up (by omega)).up (by omega)).up (by omega)).up (by omega)).up (by omega)).up (by omega))).mono ?_
        rintro r h' ⟨g1, b', g2, g3, g4, g5⟩
        refine ⟨g1, b', g2, g3, Or.inr ⟨t1, g4, ?_⟩⟩
        rw [t2]
        exact g5
      · rw [if_neg c105]
        show Ev X _ _ 108 [Vr 166, Vi (q : Int), Vi 0, Vi 1, Vx, Vx] [Vi 0] ((SHv st dr rd), (ovl a s (updC (updC (updC b 166 4 (q : Int)) 166 5 (q : Int)) 166 3 0))) _
        refine Ev.steps (k := 6) (pc' := 118) (L' := [Vr 166, Vi (q : Int), Vi 0, Vi 1, Vx, Vx]) (S' := [Vi (w32 ((q : Int) - 1)), Vr 167]) (h' := ((SHv st dr rd), (ovl a s (updC (updC (updC b 166 4 (q : Int)) 166 5 (q : Int)) 166 3 0)))) (fun _ => rfl) ?_
        rw [show (w32 ((q : Int) - 1)) = ((q - 1 : Nat) : Int) from (by unfold w32; omega)]
        refine Ev.iald (v := (W.1 (q - 1))) rfl (by decide) rfl (by omega) (by omega) (hB.2.1 (q - 1) (by omega)) ?_
        refine Ev.call (k := 0) (pc1 := 119) (L1 := [Vr 166, Vi (q : Int), Vi 0, Vi 1, Vx, Vx]) (S1 := [Vi (W.1 (q - 1))]) (h1 := ((SHv st dr rd), (ovl a s (updC (updC (updC b 166 4 (q : Int)) 166 5 (q : Int)) 166 3 0)))) (m' := 159) (as := [Vi (W.1 (q - 1))]) (S' := []) (L0 := [Vi (W.1 (q - 1))]) (fun _ => rfl) rfl rfl rfl rfl rfl rfl (m_isDigit (W.1 (q - 1))) (fun r h' hq => ?_)
        obtain ⟨rfl, rfl⟩ := hq
        by_cases c119 : 48 ≤ (W.1 (q - 1)) ∧ (W.1 (q - 1)) ≤ 57
        · rw [if_pos c119]
          show Ev X _ _ 122 [Vr 166, Vi (q : Int), Vi 0, Vi 1, Vx, Vx] [Vi 1] ((SHv st dr rd), (ovl a s (updC (updC (updC b 166 4 (q : Int)) 166 5 (q : Int)) 166 3 0))) _
          refine Ev.call (k := 4) (pc1 := 128) (L1 := [Vr 166, Vi (q : Int), Vi 0, Vi 1, Vx, Vx]) (S1 := [Vi (q : Int), Vi 1, Vr 166]) (h1 := ((SHv st dr rd), (ovl a s (updC (updC (updC b 166 4 (q : Int)) 166 5 (q : Int)) 166 3 0)))) (m' := 160) (as := [Vr 166, Vi 1, Vi (q : Int)]) (S' := []) (L0 := [Vr 166, Vi 1, Vi (q : Int)]) (fun _ => rfl) rfl rfl rfl rfl rfl rfl (m_blame (b := (updC (updC (updC b 166 4 (q : Int)) 166 5 (q : Int)) 166 3 0)) 1 (q : Int)) (fun r h' hq => ?_)
          obtain ⟨rfl, hq⟩ := hq
          rw [if_neg (by show ¬ 0 < b 166 8; rw [e8]; decide)] at hq
          obtain rfl := hq
          show Ev X _ _ 131 [Vr 166, Vi (q : Int), Vi 0, Vi 1, Vx, Vx] [] ((SHv st dr rd), (ovl a s (updC (updC (updC (updC (updC b 166 4 (q : Int)) 166 5 (q : Int)) 166 3 0) 166 8 1) 166 9 (q : Int)))) _
          refine Ev.steps (k := 2) (pc' := 133) (L' := [Vr 166, Vi (q : Int), Vi 0, Vi 1, Vx, Vx]) (S' := [Vi 0, Vr 166]) (h' := ((SHv st dr rd), (ovl a s (updC (updC (updC (updC (updC b 166 4 (q : Int)) 166 5 (q : Int)) 166 3 0) 166 8 1) 166 9 (q : Int))))) (fun _ => rfl) ?_
          refine Ev.putf (c' := (ovl a s (updC (updC (updC (updC (updC (updC b 166 4 (q : Int)) 166 5 (q : Int)) 166 3 0) 166 8 1) 166 9 (q : Int)) 166 6 0))) rfl (by decide) rfl rfl rfl (ovl_wm (by decide)) ?_
          refine Ev.steps (k := 2) (pc' := 138) (L' := [Vr 166, Vi (q : Int), Vi 0, Vi 1, Vx, Vx]) (S' := [Vl 0, Vr 166]) (h' := ((SHv st dr rd), (ovl a s (updC (updC (updC (updC (updC (updC b 166 4 (q : Int)) 166 5 (q : Int)) 166 3 0) 166 8 1) 166 9 (q : Int)) 166 6 0)))) (fun _ => rfl) ?_
          refine Ev.putl (c' := (ovl a s (updC (updC (updC (updC (updC (updC (updC b 166 4 (q : Int)) 166 5 (q : Int)) 166 3 0) 166 8 1) 166 9 (q : Int)) 166 6 0) 166 7 0))) rfl (by decide) rfl rfl rfl (ovl_wm (by decide)) ?_
          refine Ev.steps (k := 2) (pc' := 143) (L' := [Vr 166, Vi (q : Int), Vi 0, Vi 1, Vx, Vx]) (S' := [Vi 3, Vr 166]) (h' := ((SHv st dr rd), (ovl a s (updC (updC (updC (updC (updC (updC (updC b 166 4 (q : Int)) 166 5 (q : Int)) 166 3 0) 166 8 1) 166 9 (q : Int)) 166 6 0) 166 7 0)))) (fun _ => rfl) ?_
          refine Ev.putf (c' := (ovl a s (updC (updC (updC (updC (updC (updC (updC (updC b 166 4 (q : Int)) 166 5 (q : Int)) 166 3 0) 166 8 1) 166 9 (q : Int)) 166 6 0) 166 7 0) 166 3 3))) rfl (by decide) rfl rfl rfl (ovl_wm (by decide)) ?_
          refine Ev.steps (k := 4) (pc' := 150) (L' := [Vr 166, Vi (q : Int), Vi 0, Vi 1, Vx, Vx]) (S' := [Vi (w32 ((q : Int) + 1)), Vr 166]) (h' := ((SHv st dr rd), (ovl a s (updC (updC (updC (updC (updC (updC (updC (updC b 166 4 (q : Int)) 166 5 (q : Int)) 166 3 0) 166 8 1) 166 9 (q : Int)) 166 6 0) 166 7 0) 166 3 3)))) (fun _ => rfl) ?_
          rw [show (w32 ((q : Int) + 1)) = ((q : Int) + 1) from w32_id (by unfold R32; omega)]
          refine Ev.putf (c' := (ovl a s (updC (updC (updC (updC (updC (updC (updC (updC (updC b 166 4 (q : Int)) 166 5 (q : Int)) 166 3 0) 166 8 1) 166 9 (q : Int)) 166 6 0) 166 7 0) 166 3 3) 166 5 ((q : Int) + 1)))) rfl (by decide) rfl rfl rfl (ovl_wm (by decide)) ?_
          refine Ev.steps (k := 8) (pc' := 182) (L' := [Vr 166, Vi (q : Int), Vi 0, Vi 1, Vx, Vx]) (S' := [Vi 2, Vr 166]) (h' := ((SHv st dr rd), (ovl a s (updC (updC (updC (updC (updC (updC (updC (updC (updC b 166 4 (q : Int)) 166 5 (q : Int)) 166 3 0) 166 8 1) 166 9 (q : Int)) 166 6 0) 166 7 0) 166 3 3) 166 5 ((q : Int) + 1))))) (fun _ => rfl) ?_
          refine Ev.putf (c' := (ovl a s (updC (updC (updC (updC (updC (updC (updC (updC (updC (updC b 166 4 (q : Int)) 166 5 (q : Int)) 166 3 0) 166 8 1) 166 9 (q : Int)) 166 6 0) 166 7 0) 166 3 3) 166 5 ((q : Int) + 1)) 166 3 2))) rfl (by decide) rfl rfl rfl (ovl_wm (by decide)) ?_
          refine Ev.steps (k := 6) (pc' := 200) (L' := [Vr 166, Vi (q : Int), Vi 0, Vi 1, Vi 4, Vi 0]) (S' := []) (h' := ((SHv st dr rd), (ovl a s (updC (updC (updC (updC (updC (updC (updC (updC (updC (updC b 166 4 (q : Int)) 166 5 (q : Int)) 166 3 0) 166 8 1) 166 9 (q : Int)) 166 6 0) 166 7 0) 166 3 3) 166 5 ((q : Int) + 1)) 166 3 2)))) (fun _ => rfl) ?_
          have hbes : 0 < q ∧ clsT (W.1 (q - 1)) ≠ 0 := ⟨by omega, fun g => by
            first
              | (have g2 := cls_1.mpr (show 97 ≤ W.1 (q - 1) ∧ W.1 (q - 1) ≤ 122 by assumption); omega)
              | (have g2 := cls_2.mpr (show 48 ≤ W.1 (q - 1) ∧ W.1 (q - 1) ≤ 57 by assumption); omega)⟩
          obtain ⟨t1, t2, t3, t4⟩ := tk_of (tok_bes hq hn (by omega) hbes)
          refine (m_nxF_dig (b := (updC (updC (updC (updC (updC (updC (updC (updC (updC (updC b 166 4 (q : Int)) 166 5 (q : Int)) 166 3 0) 166 8 1) 166 9 (q : Int)) 166 6 0) 166 7 0) 166 3 3) 166 5 ((q : Int) + 1)) 166 3 2)) (b0 := b0) (q := q) (q : Int) 0 (by omega) (hB.fo rfl rfl) rfl rfl ((((((((((hF.up (by omega)).up (by omega)).up (by omega)).up (by omega)).up (by omega)).up (by omega)).up (by omega)).up (by omega)).up (by omega)).up (by omega))).mono ?_
          rintro r h' ⟨g1, b', g2, g3, g4, g5⟩
          refine ⟨g1, b', g2, g3, Or.inr ⟨t1, g4, ?_⟩⟩
          rw [t2]
          exact g5
        · rw [if_neg c119]
          show Ev X _ _ 122 [Vr 166, Vi (q : Int), Vi 0, Vi 1, Vx, Vx] [Vi 0] ((SHv st dr rd), (ovl a s (updC (updC (updC b 166 4 (q : Int)) 166 5 (q : Int)) 166 3 0))) _
          refine Ev.steps (k := 3) (pc' := 133) (L' := [Vr 166, Vi (q : Int), Vi 0, Vi 1, Vx, Vx]) (S' := [Vi 0, Vr 166]) (h' := ((SHv st dr rd), (ovl a s (updC (updC (updC b 166 4 (q : Int)) 166 5 (q : Int)) 166 3 0)))) (fun _ => rfl) ?_
          refine Ev.putf (c' := (ovl a s (updC (updC (updC (updC b 166 4 (q : Int)) 166 5 (q : Int)) 166 3 0) 166 6 0))) rfl (by decide) rfl rfl rfl (ovl_wm (by decide)) ?_
          refine Ev.steps (k := 2) (pc' := 138) (L' := [Vr 166, Vi (q : Int), Vi 0, Vi 1, Vx, Vx]) (S' := [Vl 0, Vr 166]) (h' := ((SHv st dr rd), (ovl a s (updC (updC (updC (updC b 166 4 (q : Int)) 166 5 (q : Int)) 166 3 0) 166 6 0)))) (fun _ => rfl) ?_
          refine Ev.putl (c' := (ovl a s (updC (updC (updC (updC (updC b 166 4 (q : Int)) 166 5 (q : Int)) 166 3 0) 166 6 0) 166 7 0))) rfl (by decide) rfl rfl rfl (ovl_wm (by decide)) ?_
          refine Ev.steps (k := 2) (pc' := 143) (L' := [Vr 166, Vi (q : Int), Vi 0, Vi 1, Vx, Vx]) (S' := [Vi 3, Vr 166]) (h' := ((SHv st dr rd), (ovl a s (updC (updC (updC (updC (updC b 166 4 (q : Int)) 166 5 (q : Int)) 166 3 0) 166 6 0) 166 7 0)))) (fun _ => rfl) ?_
          refine Ev.putf (c' := (ovl a s (updC (updC (updC (updC (updC (updC b 166 4 (q : Int)) 166 5 (q : Int)) 166 3 0) 166 6 0) 166 7 0) 166 3 3))) rfl (by decide) rfl rfl rfl (ovl_wm (by decide)) ?_
          refine Ev.steps (k := 4) (pc' := 150) (L' := [Vr 166, Vi (q : Int), Vi 0, Vi 1, Vx, Vx]) (S' := [Vi (w32 ((q : Int) + 1)), Vr 166]) (h' := ((SHv st dr rd), (ovl a s (updC (updC (updC (updC (updC (updC b 166 4 (q : Int)) 166 5 (q : Int)) 166 3 0) 166 6 0) 166 7 0) 166 3 3)))) (fun _ => rfl) ?_
          rw [show (w32 ((q : Int) + 1)) = ((q : Int) + 1) from w32_id (by unfold R32; omega)]
          refine Ev.putf (c' := (ovl a s (updC (updC (updC (updC (updC (updC (updC b 166 4 (q : Int)) 166 5 (q : Int)) 166 3 0) 166 6 0) 166 7 0) 166 3 3) 166 5 ((q : Int) + 1)))) rfl (by decide) rfl rfl rfl (ovl_wm (by decide)) ?_
          refine Ev.steps (k := 8) (pc' := 182) (L' := [Vr 166, Vi (q : Int), Vi 0, Vi 1, Vx, Vx]) (S' := [Vi 2, Vr 166]) (h' := ((SHv st dr rd), (ovl a s (updC (updC (updC (updC (updC (updC (updC b 166 4 (q : Int)) 166 5 (q : Int)) 166 3 0) 166 6 0) 166 7 0) 166 3 3) 166 5 ((q : Int) + 1))))) (fun _ => rfl) ?_
          refine Ev.putf (c' := (ovl a s (updC (updC (updC (updC (updC (updC (updC (updC b 166 4 (q : Int)) 166 5 (q : Int)) 166 3 0) 166 6 0) 166 7 0) 166 3 3) 166 5 ((q : Int) + 1)) 166 3 2))) rfl (by decide) rfl rfl rfl (ovl_wm (by decide)) ?_
          refine Ev.steps (k := 6) (pc' := 200) (L' := [Vr 166, Vi (q : Int), Vi 0, Vi 1, Vi 4, Vi 0]) (S' := []) (h' := ((SHv st dr rd), (ovl a s (updC (updC (updC (updC (updC (updC (updC (updC b 166 4 (q : Int)) 166 5 (q : Int)) 166 3 0) 166 6 0) 166 7 0) 166 3 3) 166 5 ((q : Int) + 1)) 166 3 2)))) (fun _ => rfl) ?_
          refine m_nxN_dig (b := (updC (updC (updC (updC (updC (updC (updC (updC b 166 4 (q : Int)) 166 5 (q : Int)) 166 3 0) 166 6 0) 166 7 0) 166 3 3) 166 5 ((q : Int) + 1)) 166 3 2)) hp hq hn h0 ?_ 0 (by omega) (by omega) (fun i hi => absurd hi (by omega)) (hB.fo rfl rfl) e8 e9 rfl rfl rfl ((((((((hF.up (by omega)).up (by omega)).up (by omega)).up (by omega)).up (by omega)).up (by omega)).up (by omega)).up (by omega))
          rintro ⟨g1, g2⟩
          rcases cls_3 (c := W.1 (q - 1)) with g | g | g
          · exact g2 g
          · have g3 := cls_1.mp g
            first
              | (exfalso; omega)
              | (exact absurd g3 (by assumption))
          · have g3 := cls_2.mp g
            first
              | (exfalso; omega)
              | (exact absurd g3 (by assumption))
  · exfalso; omega
theorem m_nx_bl {X : List Int} {d : Nat} {st dr rd : Int} {a s b : C3} {W : TXT} {b0 : C3} {p : Nat} (hp : p ≤ W.2) (hB : BaM W b) (e8 : b 166 8 = 0) (e9 : b 166 9 = -1) (hF : FrN b0 b) (q : Nat) (hpq : p ≤ q) (hqn : q ≤ W.2) (hbl : ∀ i, p ≤ i → i < q → isBl (W.1 i)) : Ev X (d + 1) 157 5 [Vr 166, Vi (q : Int), Vx, Vx, Vx, Vx] [] (SHv st dr rd, ovl a s b) (fun rr hh => rr = none ∧ ∃ b' : C3, hh = (SHv st dr rd, ovl a s b') ∧ NxM W p b0 b') := by
  induction hkk : (W.2 - q) using Nat.strongRecOn generalizing q with
  | ind kk ih =>
    have h1200 := hB.1.1
    have e2 : b 166 2 = ((W.2 : Nat) : Int) := hB.2.2
    refine Ev.steps (k := 3) (pc' := 10) (L' := [Vr 166, Vi (q : Int), Vx, Vx, Vx, Vx]) (S' := [Vi (b 166 2), Vi (q : Int)]) (h' := ((SHv st dr rd), (ovl a s b))) (fun _ => rfl) ?_
    rw [e2]
    refine Ev.ite (P := ((W.2 : Nat) : Int) ≤ (q : Int)) (k := 1) (a := 41) (b := 13) (L' := [Vr 166, Vi (q : Int), Vx, Vx, Vx, Vx]) (S' := []) (h' := ((SHv st dr rd), (ovl a s b))) (fun _ => rfl) (fun b10 => ?_) (fun b10 => ?_)
    · have hqs : skpT W p = q := skp_uq hpq hbl (fun hn => by
        show ¬ (W.1 q = 32 ∨ W.1 q = 10)
        omega) (Or.inl hqn)
      by_cases hn : W.2 ≤ q
      · exact m_nx_end hp hqs hn hB e8 e9 hF
      have hn : q < W.2 := by omega
      rcases cls_3 (c := W.1 q) with h0 | h0 | h0
      · exact m_nx_sig hp hqs hn h0 hB e8 e9 hF
      · exact m_nx_let hp hqs hn h0 hB e8 e9 hF
      · exact m_nx_dig hp hqs hn h0 hB e8 e9 hF
    · refine Ev.steps (k := 3) (pc' := 18) (L' := [Vr 166, Vi (q : Int), Vx, Vx, Vx, Vx]) (S' := [Vi (q : Int), Vr 167]) (h' := ((SHv st dr rd), (ovl a s b))) (fun _ => rfl) ?_
      refine Ev.iald (v := (W.1 q)) rfl (by decide) rfl (by omega) (by omega) (hB.2.1 q (by omega)) ?_
      refine Ev.ite (P := (W.1 q) = 32) (k := 2) (a := 35) (b := 24) (L' := [Vr 166, Vi (q : Int), Vx, Vx, Vx, Vx]) (S' := []) (h' := ((SHv st dr rd), (ovl a s b))) (fun _ => rfl) (fun b21 => ?_) (fun b21 => ?_)
      · refine Ev.steps (k := 1) (pc' := 38) (L' := [Vr 166, Vi (w32 ((q : Int) + 1)), Vx, Vx, Vx, Vx]) (S' := []) (h' := ((SHv st dr rd), (ovl a s b))) (fun _ => rfl) ?_
        rw [show (w32 ((q : Int) + 1)) = ((q : Int) + 1) from w32_id (by unfold R32; omega)]
        refine Ev.steps (k := 1) (pc' := 5) (L' := [Vr 166, Vi ((q : Int) + 1), Vx, Vx, Vx, Vx]) (S' := []) (h' := ((SHv st dr rd), (ovl a s b))) (fun _ => rfl) ?_
        refine ih _ (by omega) (q + 1) (by omega) (by omega) (fun i h1 h2 => ?_) rfl
        by_cases h : i = q
        · rw [h]
          show W.1 q = 32 ∨ W.1 q = 10
          omega
        · exact hbl i h1 (by omega)
      · refine Ev.steps (k := 3) (pc' := 29) (L' := [Vr 166, Vi (q : Int), Vx, Vx, Vx, Vx]) (S' := [Vi (q : Int), Vr 167]) (h' := ((SHv st dr rd), (ovl a s b))) (fun _ => rfl) ?_
        refine Ev.iald (v := (W.1 q)) rfl (by decide) rfl (by omega) (by omega) (hB.2.1 q (by omega)) ?_
        refine Ev.ite (P := (W.1 q) ≠ 10) (k := 2) (a := 41) (b := 35) (L' := [Vr 166, Vi (q : Int), Vx, Vx, Vx, Vx]) (S' := []) (h' := ((SHv st dr rd), (ovl a s b))) (fun _ => rfl) (fun b32 => ?_) (fun b32 => ?_)
        · have hqs : skpT W p = q := skp_uq hpq hbl (fun hn => by
            show ¬ (W.1 q = 32 ∨ W.1 q = 10)
            omega) (Or.inl hqn)
          by_cases hn : W.2 ≤ q
          · exact m_nx_end hp hqs hn hB e8 e9 hF
          have hn : q < W.2 := by omega
          rcases cls_3 (c := W.1 q) with h0 | h0 | h0
          · exact m_nx_sig hp hqs hn h0 hB e8 e9 hF
          · exact m_nx_let hp hqs hn h0 hB e8 e9 hF
          · exact m_nx_dig hp hqs hn h0 hB e8 e9 hF
        · refine Ev.steps (k := 1) (pc' := 38) (L' := [Vr 166, Vi (w32 ((q : Int) + 1)), Vx, Vx, Vx, Vx]) (S' := []) (h' := ((SHv st dr rd), (ovl a s b))) (fun _ => rfl) ?_
          rw [show (w32 ((q : Int) + 1)) = ((q : Int) + 1) from w32_id (by unfold R32; omega)]
          refine Ev.steps (k := 1) (pc' := 5) (L' := [Vr 166, Vi ((q : Int) + 1), Vx, Vx, Vx, Vx]) (S' := []) (h' := ((SHv st dr rd), (ovl a s b))) (fun _ => rfl) ?_
          refine ih _ (by omega) (q + 1) (by omega) (by omega) (fun i h1 h2 => ?_) rfl
          by_cases h : i = q
          · rw [h]
            show W.1 q = 32 ∨ W.1 q = 10
            omega
          · exact hbl i h1 (by omega)
theorem m_next {X : List Int} {d : Nat} {st dr rd : Int} {a s b : C3} {W : TXT} {p : Nat} (hp : p ≤ W.2) (hB : BaM W b) (e8 : b 166 8 = 0) (e9 : b 166 9 = -1) (e5 : b 166 5 = (p : Int)) : Ev X (d + 1) 157 0 [Vr 166, Vx, Vx, Vx, Vx, Vx] [] (SHv st dr rd, ovl a s b) (fun rr hh => rr = none ∧ ∃ b' : C3, hh = (SHv st dr rd, ovl a s b') ∧ NxM W p b b') := by
  refine Ev.steps (k := 2) (pc' := 4) (L' := [Vr 166, Vx, Vx, Vx, Vx, Vx]) (S' := [Vi (b 166 5)]) (h' := ((SHv st dr rd), (ovl a s b))) (fun _ => rfl) ?_
  rw [e5]
  refine Ev.steps (k := 1) (pc' := 5) (L' := [Vr 166, Vi (p : Int), Vx, Vx, Vx, Vx]) (S' := []) (h' := ((SHv st dr rd), (ovl a s b))) (fun _ => rfl) ?_
  exact m_nx_bl hp hB e8 e9 FrN.rf p (Nat.le_refl p) hp (fun i h1 h2 => absurd h1 (by omega))
abbrev OkM (W : TXT) (b : SC) (p1 : Nat) (b' : SC) : Prop := FrN b b' ∧ TkM W p1 b'
abbrev BdM (W : TXT) (b : SC) (e : PF) (b' : SC) : Prop := FrN b b' ∧ BaM W b' ∧ BrM e b'
theorem m_nextT {X : List Int} {d : Nat} {st dr rd : Int} {a s b : C3} {W : TXT} {p : Nat} (hk : TkM W p b) : Ev X (d + 1) 157 0 [Vr 166, Vx, Vx, Vx, Vx, Vx] [] (SHv st dr rd, ovl a s b) (fun rr hh => rr = none ∧ ∃ b' : C3, hh = (SHv st dr rd, ovl a s b') ∧ ResC (gotT W p) (fun p1 => OkM W b p1 b') (fun e => BdM W b e b')) := by
  have hrg := tok_rg hk.2.2.2.2.2.2.1 hk.1.1
  refine (m_next hrg.2 hk.1 hk.2.1 hk.2.2.1 hk.2.2.2.1).mono ?_
  rintro r h' ⟨h1, b', h2, h3, h5⟩
  refine ⟨h1, b', h2, ?_⟩
  unfold gotT
  rcases h5 with h5 | ⟨h5, h6, h7⟩
  · rw [if_neg h5.2.2.2.2.2.1]
    exact Or.inl ⟨_, rfl, h3, h5⟩
  · rw [if_pos h5]
    exact Or.inr ⟨_, rfl, h3, h6, h7⟩
