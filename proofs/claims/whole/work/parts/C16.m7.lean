/-! THE CLASS: what is noted of a deed, of a minute -/
/-- the kept diary: minutes below m whole, of minute m the persons below q -/
def DyC (S : STY) (E a : SC) (m q : Nat) : Prop := a 133 0 = 1 ∧ (∀ i, i < 1440 → a 134 i = if i < 8 * m + q ∧ i % 8 < nW S then hdnS S E (i / 8) (i % 8) else -1) ∧
  ∀ j, j < m → (∀ p, p < nW S → a 135 (8 * j + p) = aftS S E (j + 1) 3 p) ∧ ∃ x : Nat → Nat, (∀ i, i < 8 → x i < 16) ∧ (∀ t, t < nT S → (x t : Int) = plc (aftS S E (j + 1) 2 t)) ∧ a 137 j = b32 (pkD 4 x 8)
def DyU (S : STY) (E a : SC) (u : Nat) (c : SC) (m q : Nat) : Prop := (u = 119 → TrC c a ∧ DyC S E a m q) ∧ (u = 142 → a 156 0 = 0)
theorem DyC.fr {S : STY} {E a a' : SC} {m q : Nat} (h : DyC S E a m q) (hf : ∀ o, 133 ≤ o → o ≤ 137 → a' o = a o) : DyC S E a' m q := by
  unfold DyC at *
  rw [hf 133 (by omega) (by omega), hf 134 (by omega) (by omega), hf 135 (by omega) (by omega), hf 137 (by omega) (by omega)]
  exact h
theorem DyU.fr {S : STY} {E a a' c c' : SC} {u m q : Nat} (h : DyU S E a u c m q) (hf : ∀ o, u + 14 ≤ o → o ≤ u + 18 → a' o = a o) (e6 : c' 6 = c 6) (e7 : c' 7 = c 7) : DyU S E a' u c' m q := by
  refine ⟨fun hu => ?_, fun hu => ?_⟩
  · subst hu
    obtain ⟨h1, h2⟩ := h.1 rfl
    exact ⟨h1.cg (by rw [hf 133 (by omega) (by omega)]) (hf 136 (by omega) (by omega)) e6 e7, h2.fr (fun o g1 g2 => hf o (by omega) (by omega))⟩
  · subst hu
    rw [hf 156 (by omega) (by omega)]
    exact h.2 rfl
/-- what a person did is noted, or nothing -/
theorem DyC.next {S : STY} {E a a' : SC} {m q : Nat} {v : Int} (h : DyC S E a m q) (hm : m < 180) (hq : q < nW S) (hW : nW S ≤ 8) (hv : v = hdnS S E m q) (h0 : a' 133 0 = 1) (h4 : ∀ i, i < 1440 → a' 134 i = if i = 8 * m + q then v else a 134 i) (h5 : a' 135 = a 135) (h7 : a' 137 = a 137) : DyC S E a' m (q + 1) := by
  obtain ⟨g0, g1, g2⟩ := h
  refine ⟨h0, fun i hi => ?_, ?_⟩
  · rw [h4 i hi]
    split
    · next g =>
      have e1 : i / 8 = m := by omega
      have e2 : i % 8 = q := by omega
      rw [if_pos (by omega), e1, e2, hv]
    · next g =>
      rw [g1 i hi]
      refine if_cg ?_
      omega
  · rw [h5, h7]
    exact g2
theorem DyC.skip {S : STY} {E a : SC} {m q : Nat} (h : DyC S E a m q) (hm : m < 180) (hq : q < nW S) (hW : nW S ≤ 8) (hv : hdnS S E m q = -1) : DyC S E a m (q + 1) := by
  refine h.next (v := -1) hm hq hW hv.symm h.1 (fun i hi => ?_) rfl rfl
  split
  · next g =>
    rw [h.2.1 i hi, if_neg (by omega)]
  · rfl
theorem d_noteDone {X : List Int} {d : Nat} {st dr rd : Int} {a s b : C3} {y : Nat} (hy : hyS y) {S : STY} {c c2 : SC} (hC : RsC S c2 a 119) (hWY : WfY S) (hWC : WfC S c) (hWC2 : WfC S c2) (r : Nat) (hr : r < nL S) (hRu : RuC S a y r) (hk4 : S.1 11 r ≠ 4) (hd : doesS S c r = some c2) (hT : TrC c a) (h71 : c 7 0 < 1440) (m p : Nat) (hm : m < 180) (hm5 : c 5 0 = (m : Int)) (hp : S.1 12 r = (p : Int)) (hk1 : a 133 0 = 1) : Ev X (d + 1) 99 0 [Vr 133, Vr 120, Vr ((y + 14 + r : Nat) : Int), Vi (r : Int), Vx] [] (SHv st dr rd, ovl a s b) (fun rr hh => rr = none ∧ ∃ a' : C3, hh = (SHv st dr rd, ovl a' s b) ∧ FrO 133 136 a a' ∧ TrC c2 a' ∧ (∀ i, a' 134 i = if i = 8 * m + p then (r : Int) else a 134 i) ∧ a' 133 0 = 1 ∧ a' 135 = a 135) := by
  have hy0 : y = 2 ∨ y = 58 := hy
  obtain ⟨q0, q1, q2, q3, q4, q5, q6, q7, q8, q9, q10⟩ := id hC
  obtain ⟨k0, k1, k2, k3, k4, k5, k7, k9⟩ := id hWC
  have hW8 := hWY.2.2.1.1
  have hR8 := hWY.1.1
  have hT8 := hWY.2.2.2.1.1
  have hL30 := hWY.2.2.2.2.1.1
  obtain ⟨v1, v2, v3, v4, -⟩ := hRu
  obtain ⟨w1, w2, w3, w4, w5, -⟩ := hWY.2.2.2.2.2.2.2.2.2.2.2 r hr
  have hpW : p < nW S := by omega
  rw [hp] at v2
  have hds := doesS_at (c := c) hp
  rw [hd] at hds
  have hk0 := k0 p hpW
  have hc25 : c2 5 0 = c 5 0 ∧ (S.1 11 r ≠ 0 → c2 0 p = c 0 p) := by
    have h := hds
    split at h
    · next g =>
      split at h
      · cases h
      · cases h
        exact ⟨rfl, fun g2 => absurd g g2⟩
    · split at h
      · split at h
        · cases h
          exact ⟨by rw [leavS_n (by omega) (by omega)]; rfl, fun _ => by rw [leavS_n (by omega) (by omega)]; rfl⟩
        · cases h
      · split at h
        · split at h
          · cases h
            exact ⟨by rw [leavS_n (by omega) (by omega)]; rfl, fun _ => by rw [leavS_n (by omega) (by omega)]; rfl⟩
          · cases h
        · split at h
          · split at h
            · cases h
              exact ⟨by rw [wipS_n (by omega)], fun _ => by rw [wipS_n (by omega)]⟩
            · cases h
          · split at h
            · cases h
              refine ⟨?_, fun _ => ?_⟩
              · rw [leavS_n (by omega) (by omega)]
                show dropS (nT S) (updC c 1 (S.1 13 r).toNat 0) (S.1 13 r).toNat 5 0 = _
                rw [dropS_r (by omega)]
                rfl
              · rw [leavS_n (by omega) (by omega)]
                show dropS (nT S) (updC c 1 (S.1 13 r).toNat 0) (S.1 13 r).toNat 0 p = _
                rw [dropS_r (by omega)]
                rfl
            · cases h
  have em : a 120 6 = (m : Int) := by rw [q8, hc25.1, hm5]
  obtain ⟨r0, hr0⟩ : ∃ r0 : Nat, c 0 p = (r0 : Int) := ⟨(c 0 p).toNat, by omega⟩
  refine Ev.steps (k := 2) (pc' := 4) (L' := [Vr 133, Vr 120, Vr ((y + 14 + r : Nat) : Int), Vi (r : Int), Vx]) (S' := [Vi (a 120 6)]) (h' := ((SHv st dr rd), (ovl a s b))) (fun _ => rfl) ?_
  rw [em]
  refine Ev.steps (k := 2) (pc' := 7) (L' := [Vr 133, Vr 120, Vr ((y + 14 + r : Nat) : Int), Vi (r : Int), Vx]) (S' := [Vi (w32 ((m : Int) * 8))]) (h' := ((SHv st dr rd), (ovl a s b))) (fun _ => rfl) ?_
  rw [show (w32 ((m : Int) * 8)) = (8 * (m : Int)) from (by unfold w32; omega)]
  refine Ev.steps (k := 1) (pc' := 8) (L' := [Vr 133, Vr 120, Vr ((y + 14 + r : Nat) : Int), Vi (r : Int), Vx]) (S' := [Vr ((y + 14 + r : Nat) : Int), Vi (8 * (m : Int))]) (h' := ((SHv st dr rd), (ovl a s b))) (fun _ => rfl) ?_
  refine Ev.getf (v := (p : Int)) rfl rfl (by omega) (shRu hy (by omega)) rfl rfl ((ovl_rc (by omega)).trans (v2)) ?_
  refine Ev.steps (k := 1) (pc' := 12) (L' := [Vr 133, Vr 120, Vr ((y + 14 + r : Nat) : Int), Vi (r : Int), Vx]) (S' := [Vi (w32 ((8 * (m : Int)) + (p : Int)))]) (h' := ((SHv st dr rd), (ovl a s b))) (fun _ => rfl) ?_
  rw [show (w32 ((8 * (m : Int)) + (p : Int))) = ((8 * m + p : Nat) : Int) from (by unfold w32; omega)]
  refine Ev.steps (k := 3) (pc' := 18) (L' := [Vr 133, Vr 120, Vr ((y + 14 + r : Nat) : Int), Vi (r : Int), Vi ((8 * m + p : Nat) : Int)]) (S' := [Vi (a 133 0)]) (h' := ((SHv st dr rd), (ovl a s b))) (fun _ => rfl) ?_
  rw [hk1]
  refine Ev.ite (P := ((8 * m + p : Nat) : Int) < 0) (k := 3) (a := 36) (b := 26) (L' := [Vr 133, Vr 120, Vr ((y + 14 + r : Nat) : Int), Vi (r : Int), Vi ((8 * m + p : Nat) : Int)]) (S' := []) (h' := ((SHv st dr rd), (ovl a s b))) (fun _ => rfl) (fun b23 => ?_) (fun b23 => ?_)
  · exfalso; omega
  · refine Ev.ite (P := ((8 * m + p : Nat) : Int) < 1440) (k := 5) (a := 37) (b := 36) (L' := [Vr 133, Vr 120, Vr ((y + 14 + r : Nat) : Int), Vi (r : Int), Vi ((8 * m + p : Nat) : Int)]) (S' := []) (h' := ((SHv st dr rd), (ovl a s b))) (fun _ => rfl) (fun b33 => ?_) (fun b33 => ?_)
    · refine Ev.steps (k := 4) (pc' := 44) (L' := [Vr 133, Vr 120, Vr ((y + 14 + r : Nat) : Int), Vi (r : Int), Vi ((8 * m + p : Nat) : Int)]) (S' := [Vi (r : Int), Vi ((8 * m + p : Nat) : Int), Vr 134]) (h' := ((SHv st dr rd), (ovl a s b))) (fun _ => rfl) ?_
      refine Ev.iast (c' := (ovl (updC a 134 ((8 * m + p)) (r : Int)) s b)) rfl (by decide) rfl (by omega) (by omega) (ovl_wc (by decide)) ?_
      refine Ev.steps (k := 1) (pc' := 46) (L' := [Vr 133, Vr 120, Vr ((y + 14 + r : Nat) : Int), Vi (r : Int), Vi ((8 * m + p : Nat) : Int)]) (S' := [Vr ((y + 14 + r : Nat) : Int)]) (h' := ((SHv st dr rd), (ovl (updC a 134 ((8 * m + p)) (r : Int)) s b))) (fun _ => rfl) ?_
      refine Ev.getf (v := (S.1 11 r + 262)) rfl rfl (by omega) (shRu hy (by omega)) rfl rfl (((ovl_rc (by omega)).trans (by show (updC a 134 ((8 * m + p)) (r : Int)) (y + 14 + r) 0 = _; rw [updC_nt (by omega)])).trans (v1)) ?_
      rcases (show (S.1 11 r + 262) = 263 ∨ (S.1 11 r + 262) = 264 ∨ (S.1 11 r + 262) = 265 ∨ (S.1 11 r + 262) = 267 ∨ ((S.1 11 r + 262) ≠ 263 ∧ (S.1 11 r + 262) ≠ 264 ∧ (S.1 11 r + 262) ≠ 265 ∧ (S.1 11 r + 262) ≠ 267) by omega) with b49 | b49 | b49 | b49 | b49
      · rw [b49]
        refine Ev.steps (k := 1) (pc' := 84) (L' := [Vr 133, Vr 120, Vr ((y + 14 + r : Nat) : Int), Vi (r : Int), Vi ((8 * m + p : Nat) : Int)]) (S' := []) (h' := ((SHv st dr rd), (ovl (updC a 134 ((8 * m + p)) (r : Int)) s b))) (fun _ => rfl) ?_
        have h0 : S.1 11 r = 1 := by omega
        obtain ⟨o, ho⟩ : ∃ o : Nat, S.1 13 r = o := ⟨(S.1 13 r).toNat, by have := w4 (Or.inl h0); omega⟩
        have hoT : o < nT S := by have := w4 (Or.inl h0); omega
        have v3 : a (y + 14 + r) 2 = (o : Int) := (v3 (by omega)).trans ho
        have hg0a : a 121 p = (r0 : Int) := by rw [q0 p hpW, hc25.2 (by omega)]; exact hr0
        have hc2 : c2 = leavS (updC c 2 o (100 + (p : Int))) 1 (o : Int) p := by
          rw [ho, Int.toNat_natCast, if_neg (by omega), if_pos h0] at hds
          split at hds
          · exact Option.some.inj hds
          · cases hds
        refine Ev.call (k := 4) (pc1 := 88) (L1 := [Vr 133, Vr 120, Vr ((y + 14 + r : Nat) : Int), Vi (r : Int), Vi ((8 * m + p : Nat) : Int)]) (S1 := [Vr ((y + 14 + r : Nat) : Int), Vi 1, Vr 120, Vr 133]) (h1 := ((SHv st dr rd), (ovl (updC a 134 ((8 * m + p)) (r : Int)) s b))) (m' := 100) (as := [Vr 133, Vr 120, Vi 1, Vr ((y + 14 + r : Nat) : Int)]) (S' := []) (L0 := [Vr 133, Vr 120, Vi 1, Vr ((y + 14 + r : Nat) : Int)]) (fun _ => rfl) rfl rfl rfl rfl rfl rfl (d_noteTrace (a := updC a 134 (8 * m + p) (r : Int)) hy r (by omega) (c 7 0).toNat m 1 o p r0 (by omega) (by omega) (by omega) (by omega) (by omega) (by omega) (by rw [updC_row (by omega)]; have := hT.1; omega) (by rw [updC_row (by omega)]; exact em) (by rw [updC_row (by omega)]; exact v3) (by rw [updC_row (by omega)]; exact v2) (by rw [updC_row (by omega)]; exact hg0a)) (fun r h' hq => ?_)
        obtain ⟨rfl, rfl⟩ := hq
        show Ev X _ _ 91 [Vr 133, Vr 120, Vr ((y + 14 + r : Nat) : Int), Vi (r : Int), Vi ((8 * m + p : Nat) : Int)] [] ((SHv st dr rd), (ovl (updC (updC (updC a 134 (8 * m + p) (r : Int)) 136 (c 7 0).toNat ((m + 1 * 256 + o * 1024 + p * 8192 + r0 * 65536 : Nat) : Int)) 133 5 ((((c 7 0).toNat : Nat) : Int) + 1)) s b)) _
        refine Ev.fin (k := 2) (r := none) (h' := ((SHv st dr rd), (ovl (updC (updC (updC a 134 (8 * m + p) (r : Int)) 136 (c 7 0).toNat ((m + 1 * 256 + o * 1024 + p * 8192 + r0 * 65536 : Nat) : Int)) 133 5 ((((c 7 0).toNat : Nat) : Int) + 1)) s b))) (fun _ => rfl) ?_
        refine ⟨rfl, _, rfl, ((FrO.rf.up (by omega)).up (by omega)).up (by omega), ?_, fun i => ?_, ?_, ?_⟩
        · rw [hc2]
          have x6 : (updC c 2 o (100 + (p : Int))) 6 = c 6 := rfl
          have x7 : (updC c 2 o (100 + (p : Int))) 7 = c 7 := rfl
          have x0 : (updC c 2 o (100 + (p : Int))) 0 = c 0 := rfl
          have x5 : (updC c 2 o (100 + (p : Int))) 5 = c 5 := rfl
          refine TrC.leav (c := (updC c 2 o (100 + (p : Int)))) (a := a) (kd := 1) (w := o) (p := p) (r := r0) (m := m) (hT.cg rfl rfl x6 x7) ?_ (by omega) (by omega) (by omega) (by omega) (by omega) ?_ ?_ ?_ ?_ ?_
          · rw [x7]; exact k7.1
          · rw [x0]; exact hr0
          · rw [x5]; exact hm5
          · rw [x7, updC_sm]; omega
          · intro i hi
            rw [x7] at hi
            rw [updC_row (by omega), updC_nt (by omega), updC_row (by omega)]
          · rw [x7, updC_row (by omega)]
            exact updC_sm
        · rw [updC_row (by omega), updC_row (by omega), updC_if]
        · rw [updC_nt (by omega), updC_row (by omega), updC_row (by omega)]; exact hk1
        · rw [updC_row (by omega), updC_row (by omega), updC_row (by omega)]
      · rw [b49]
        refine Ev.steps (k := 1) (pc' := 94) (L' := [Vr 133, Vr 120, Vr ((y + 14 + r : Nat) : Int), Vi (r : Int), Vi ((8 * m + p : Nat) : Int)]) (S' := []) (h' := ((SHv st dr rd), (ovl (updC a 134 ((8 * m + p)) (r : Int)) s b))) (fun _ => rfl) ?_
        have h0 : S.1 11 r = 2 := by omega
        obtain ⟨o, ho⟩ : ∃ o : Nat, S.1 13 r = o := ⟨(S.1 13 r).toNat, by have := w4 (Or.inr h0); omega⟩
        have hoT : o < nT S := by have := w4 (Or.inr h0); omega
        have v3 : a (y + 14 + r) 2 = (o : Int) := (v3 (by omega)).trans ho
        have hg0a : a 121 p = (r0 : Int) := by rw [q0 p hpW, hc25.2 (by omega)]; exact hr0
        have hc2 : c2 = leavS (updC c 2 o (c 0 p)) 2 (o : Int) p := by
          rw [ho, Int.toNat_natCast, if_neg (by omega), if_neg (by omega), if_pos h0] at hds
          split at hds
          · exact Option.some.inj hds
          · cases hds
        refine Ev.call (k := 4) (pc1 := 98) (L1 := [Vr 133, Vr 120, Vr ((y + 14 + r : Nat) : Int), Vi (r : Int), Vi ((8 * m + p : Nat) : Int)]) (S1 := [Vr ((y + 14 + r : Nat) : Int), Vi 2, Vr 120, Vr 133]) (h1 := ((SHv st dr rd), (ovl (updC a 134 ((8 * m + p)) (r : Int)) s b))) (m' := 100) (as := [Vr 133, Vr 120, Vi 2, Vr ((y + 14 + r : Nat) : Int)]) (S' := []) (L0 := [Vr 133, Vr 120, Vi 2, Vr ((y + 14 + r : Nat) : Int)]) (fun _ => rfl) rfl rfl rfl rfl rfl rfl (d_noteTrace (a := updC a 134 (8 * m + p) (r : Int)) hy r (by omega) (c 7 0).toNat m 2 o p r0 (by omega) (by omega) (by omega) (by omega) (by omega) (by omega) (by rw [updC_row (by omega)]; have := hT.1; omega) (by rw [updC_row (by omega)]; exact em) (by rw [updC_row (by omega)]; exact v3) (by rw [updC_row (by omega)]; exact v2) (by rw [updC_row (by omega)]; exact hg0a)) (fun r h' hq => ?_)
        obtain ⟨rfl, rfl⟩ := hq
        show Ev X _ _ 101 [Vr 133, Vr 120, Vr ((y + 14 + r : Nat) : Int), Vi (r : Int), Vi ((8 * m + p : Nat) : Int)] [] ((SHv st dr rd), (ovl (updC (updC (updC a 134 (8 * m + p) (r : Int)) 136 (c 7 0).toNat ((m + 2 * 256 + o * 1024 + p * 8192 + r0 * 65536 : Nat) : Int)) 133 5 ((((c 7 0).toNat : Nat) : Int) + 1)) s b)) _
        refine Ev.fin (k := 2) (r := none) (h' := ((SHv st dr rd), (ovl (updC (updC (updC a 134 (8 * m + p) (r : Int)) 136 (c 7 0).toNat ((m + 2 * 256 + o * 1024 + p * 8192 + r0 * 65536 : Nat) : Int)) 133 5 ((((c 7 0).toNat : Nat) : Int) + 1)) s b))) (fun _ => rfl) ?_
        refine ⟨rfl, _, rfl, ((FrO.rf.up (by omega)).up (by omega)).up (by omega), ?_, fun i => ?_, ?_, ?_⟩
        · rw [hc2]
          have x6 : (updC c 2 o (c 0 p)) 6 = c 6 := rfl
          have x7 : (updC c 2 o (c 0 p)) 7 = c 7 := rfl
          have x0 : (updC c 2 o (c 0 p)) 0 = c 0 := rfl
          have x5 : (updC c 2 o (c 0 p)) 5 = c 5 := rfl
          refine TrC.leav (c := (updC c 2 o (c 0 p))) (a := a) (kd := 2) (w := o) (p := p) (r := r0) (m := m) (hT.cg rfl rfl x6 x7) ?_ (by omega) (by omega) (by omega) (by omega) (by omega) ?_ ?_ ?_ ?_ ?_
          · rw [x7]; exact k7.1
          · rw [x0]; exact hr0
          · rw [x5]; exact hm5
          · rw [x7, updC_sm]; omega
          · intro i hi
            rw [x7] at hi
            rw [updC_row (by omega), updC_nt (by omega), updC_row (by omega)]
          · rw [x7, updC_row (by omega)]
            exact updC_sm
        · rw [updC_row (by omega), updC_row (by omega), updC_if]
        · rw [updC_nt (by omega), updC_row (by omega), updC_row (by omega)]; exact hk1
        · rw [updC_row (by omega), updC_row (by omega), updC_row (by omega)]
      · rw [b49]
        refine Ev.steps (k := 1) (pc' := 114) (L' := [Vr 133, Vr 120, Vr ((y + 14 + r : Nat) : Int), Vi (r : Int), Vi ((8 * m + p : Nat) : Int)]) (S' := []) (h' := ((SHv st dr rd), (ovl (updC a 134 ((8 * m + p)) (r : Int)) s b))) (fun _ => rfl) ?_
        have h0 : S.1 11 r = 3 := by omega
        have hg0a : a 121 p = (r0 : Int) := by rw [q0 p hpW, hc25.2 (by omega)]; exact hr0
        have hg0 : (updC a 134 (8 * m + p) (r : Int)) 121 p = (r0 : Int) := hg0a
        have hc2 : c2 = wipS c p := by
          rw [if_neg (by omega), if_neg (by omega), if_neg (by omega), if_pos h0] at hds
          split at hds
          · exact Option.some.inj hds
          · cases hds
        refine Ev.steps (k := 4) (pc' := 120) (L' := [Vr 133, Vr 120, Vr ((y + 14 + r : Nat) : Int), Vi (r : Int), Vi ((8 * m + p : Nat) : Int)]) (S' := [Vr ((y + 14 + r : Nat) : Int), Vr 121, Vr 133]) (h' := ((SHv st dr rd), (ovl (updC a 134 ((8 * m + p)) (r : Int)) s b))) (fun _ => rfl) ?_
        refine Ev.getf (v := (p : Int)) rfl rfl (by omega) (shRu hy (by omega)) rfl rfl (((ovl_rc (by omega)).trans (by show (updC a 134 ((8 * m + p)) (r : Int)) (y + 14 + r) 1 = _; rw [updC_nt (by omega)])).trans (v2)) ?_
        refine Ev.iald (v := (r0 : Int)) rfl (by decide) rfl (by omega) (by omega) (hg0a) ?_
        refine Ev.steps (k := 2) (pc' := 128) (L' := [Vr 133, Vr 120, Vr ((y + 14 + r : Nat) : Int), Vi (r : Int), Vi ((8 * m + p : Nat) : Int)]) (S' := [Vi (a 120 6), Vi (r0 : Int), Vr 133]) (h' := ((SHv st dr rd), (ovl (updC a 134 ((8 * m + p)) (r : Int)) s b))) (fun _ => rfl) ?_
        rw [em]
        refine Ev.call (k := 0) (pc1 := 128) (L1 := [Vr 133, Vr 120, Vr ((y + 14 + r : Nat) : Int), Vi (r : Int), Vi ((8 * m + p : Nat) : Int)]) (S1 := [Vi (m : Int), Vi (r0 : Int), Vr 133]) (h1 := ((SHv st dr rd), (ovl (updC a 134 ((8 * m + p)) (r : Int)) s b))) (m' := 101) (as := [Vr 133, Vi (r0 : Int), Vi (m : Int)]) (S' := []) (L0 := [Vr 133, Vi (r0 : Int), Vi (m : Int), Vx]) (fun _ => rfl) rfl rfl rfl rfl rfl rfl (d_noteWiped (a := updC a 134 (8 * m + p) (r : Int)) p r0 m (by omega) hm ⟨k7.1, by omega⟩ hr0 hm5 (hT.cg rfl rfl rfl rfl)) (fun r h' hq => ?_)
        obtain ⟨rfl, a2, rfl, g1, g2⟩ := hq
        show Ev X _ _ 131 [Vr 133, Vr 120, Vr ((y + 14 + r : Nat) : Int), Vi (r : Int), Vi ((8 * m + p : Nat) : Int)] [] ((SHv st dr rd), (ovl a2 s b)) _
        refine Ev.fin (k := 2) (r := none) (h' := ((SHv st dr rd), (ovl a2 s b))) (fun _ => rfl) ?_
        refine ⟨rfl, a2, rfl, (FrO.rf.up (by omega)).tr (g1.wd (by omega) (by omega)), ?_, fun i => ?_, ?_, ?_⟩
        · rw [hc2]; exact g2
        · rw [g1 134 (by omega), updC_if]
        · rw [g1 133 (by omega), updC_row (by omega)]; exact hk1
        · rw [g1 135 (by omega), updC_row (by omega)]
      · rw [b49]
        refine Ev.steps (k := 1) (pc' := 104) (L' := [Vr 133, Vr 120, Vr ((y + 14 + r : Nat) : Int), Vi (r : Int), Vi ((8 * m + p : Nat) : Int)]) (S' := []) (h' := ((SHv st dr rd), (ovl (updC a 134 ((8 * m + p)) (r : Int)) s b))) (fun _ => rfl) ?_
        have h0 : S.1 11 r = 5 := by omega
        have w5 := w5 h0
        obtain ⟨o, ho⟩ : ∃ o : Nat, S.1 14 r = o := ⟨(S.1 14 r).toNat, by omega⟩
        have hoT : o < nT S := by omega
        have v3 : a (y + 14 + r) 2 = (o : Int) := (v4 h0).2.trans ho
        have hg0a : a 121 p = (r0 : Int) := by rw [q0 p hpW, hc25.2 (by omega)]; exact hr0
        have hc2 : c2 = leavS (deedS (dropS (nT S) (updC c 1 (S.1 13 r).toNat 0) (S.1 13 r).toNat) p (S.1 13 r).toNat (S.1 14 r).toNat r) 3 (o : Int) p := by
          rw [if_neg (by omega), if_neg (by omega), if_neg (by omega), if_neg (by omega)] at hds
          split at hds
          · rw [← ho]
            exact Option.some.inj hds
          · cases hds
        refine Ev.call (k := 4) (pc1 := 108) (L1 := [Vr 133, Vr 120, Vr ((y + 14 + r : Nat) : Int), Vi (r : Int), Vi ((8 * m + p : Nat) : Int)]) (S1 := [Vr ((y + 14 + r : Nat) : Int), Vi 3, Vr 120, Vr 133]) (h1 := ((SHv st dr rd), (ovl (updC a 134 ((8 * m + p)) (r : Int)) s b))) (m' := 100) (as := [Vr 133, Vr 120, Vi 3, Vr ((y + 14 + r : Nat) : Int)]) (S' := []) (L0 := [Vr 133, Vr 120, Vi 3, Vr ((y + 14 + r : Nat) : Int)]) (fun _ => rfl) rfl rfl rfl rfl rfl rfl (d_noteTrace (a := updC a 134 (8 * m + p) (r : Int)) hy r (by omega) (c 7 0).toNat m 3 o p r0 (by omega) (by omega) (by omega) (by omega) (by omega) (by omega) (by rw [updC_row (by omega)]; have := hT.1; omega) (by rw [updC_row (by omega)]; exact em) (by rw [updC_row (by omega)]; exact v3) (by rw [updC_row (by omega)]; exact v2) (by rw [updC_row (by omega)]; exact hg0a)) (fun r h' hq => ?_)
        obtain ⟨rfl, rfl⟩ := hq
        show Ev X _ _ 111 [Vr 133, Vr 120, Vr ((y + 14 + r : Nat) : Int), Vi (r : Int), Vi ((8 * m + p : Nat) : Int)] [] ((SHv st dr rd), (ovl (updC (updC (updC a 134 (8 * m + p) (r : Int)) 136 (c 7 0).toNat ((m + 3 * 256 + o * 1024 + p * 8192 + r0 * 65536 : Nat) : Int)) 133 5 ((((c 7 0).toNat : Nat) : Int) + 1)) s b)) _
        refine Ev.fin (k := 2) (r := none) (h' := ((SHv st dr rd), (ovl (updC (updC (updC a 134 (8 * m + p) (r : Int)) 136 (c 7 0).toNat ((m + 3 * 256 + o * 1024 + p * 8192 + r0 * 65536 : Nat) : Int)) 133 5 ((((c 7 0).toNat : Nat) : Int) + 1)) s b))) (fun _ => rfl) ?_
        refine ⟨rfl, _, rfl, ((FrO.rf.up (by omega)).up (by omega)).up (by omega), ?_, fun i => ?_, ?_, ?_⟩
        · rw [hc2]
          have x6 : (deedS (dropS (nT S) (updC c 1 (S.1 13 r).toNat 0) (S.1 13 r).toNat) p (S.1 13 r).toNat (S.1 14 r).toNat r) 6 = c 6 := (show dropS (nT S) (updC c 1 (S.1 13 r).toNat 0) (S.1 13 r).toNat 6 = c 6 from dropS_r (by omega))
          have x7 : (deedS (dropS (nT S) (updC c 1 (S.1 13 r).toNat 0) (S.1 13 r).toNat) p (S.1 13 r).toNat (S.1 14 r).toNat r) 7 = c 7 := (show dropS (nT S) (updC c 1 (S.1 13 r).toNat 0) (S.1 13 r).toNat 7 = c 7 from dropS_r (by omega))
          have x0 : (deedS (dropS (nT S) (updC c 1 (S.1 13 r).toNat 0) (S.1 13 r).toNat) p (S.1 13 r).toNat (S.1 14 r).toNat r) 0 = c 0 := (show dropS (nT S) (updC c 1 (S.1 13 r).toNat 0) (S.1 13 r).toNat 0 = c 0 from dropS_r (by omega))
          have x5 : (deedS (dropS (nT S) (updC c 1 (S.1 13 r).toNat 0) (S.1 13 r).toNat) p (S.1 13 r).toNat (S.1 14 r).toNat r) 5 = c 5 := (show dropS (nT S) (updC c 1 (S.1 13 r).toNat 0) (S.1 13 r).toNat 5 = c 5 from dropS_r (by omega))
          refine TrC.leav (c := (deedS (dropS (nT S) (updC c 1 (S.1 13 r).toNat 0) (S.1 13 r).toNat) p (S.1 13 r).toNat (S.1 14 r).toNat r)) (a := a) (kd := 3) (w := o) (p := p) (r := r0) (m := m) (hT.cg rfl rfl x6 x7) ?_ (by omega) (by omega) (by omega) (by omega) (by omega) ?_ ?_ ?_ ?_ ?_
          · rw [x7]; exact k7.1
          · rw [x0]; exact hr0
          · rw [x5]; exact hm5
          · rw [x7, updC_sm]; omega
          · intro i hi
            rw [x7] at hi
            rw [updC_row (by omega), updC_nt (by omega), updC_row (by omega)]
          · rw [x7, updC_row (by omega)]
            exact updC_sm
        · rw [updC_row (by omega), updC_row (by omega), updC_if]
        · rw [updC_nt (by omega), updC_row (by omega), updC_row (by omega)]; exact hk1
        · rw [updC_row (by omega), updC_row (by omega), updC_row (by omega)]
      · refine Ev.tswd (dflt := 85) rfl (by omega) (by decide) ?_
        show Ev X _ _ 134 [Vr 133, Vr 120, Vr ((y + 14 + r : Nat) : Int), Vi (r : Int), Vi ((8 * m + p : Nat) : Int)] [] ((SHv st dr rd), (ovl (updC a 134 ((8 * m + p)) (r : Int)) s b)) _
        refine Ev.fin (k := 1) (r := none) (h' := ((SHv st dr rd), (ovl (updC a 134 ((8 * m + p)) (r : Int)) s b))) (fun _ => rfl) ?_
        have h0 : S.1 11 r = 0 := by omega
        refine ⟨rfl, _, rfl, FrO.rf.up (by omega), ?_, fun i => ?_, ?_, ?_⟩
        · have hc6 : c2 6 = c 6 ∧ c2 7 = c 7 := by
            rw [if_pos h0] at hds
            split at hds
            · cases hds
            · rw [Option.some.inj hds]
              exact ⟨rfl, rfl⟩
          exact hT.cg rfl rfl hc6.1 hc6.2
        · rw [updC_if]
        · rw [updC_row (by omega)]; exact hk1
        · rw [updC_row (by omega)]
    · exfalso; omega
theorem e_noteDone {X : List Int} {d : Nat} {st dr rd : Int} {a s b : C3} {y : Nat} (hy : hyS y) (r : Nat) (hr : r < 30) (m p : Nat) (hm : m < 180) (hp8 : p < 8) (em : a 143 6 = (m : Int)) (v2 : a (y + 14 + r) 1 = (p : Int)) (hk1 : a 156 0 = 0) : Ev X (d + 1) 99 0 [Vr 156, Vr 143, Vr ((y + 14 + r : Nat) : Int), Vi (r : Int), Vx] [] (SHv st dr rd, ovl a s b) (fun rr hh => rr = none ∧ hh = (SHv st dr rd, ovl a s b)) := by
  have hy0 : y = 2 ∨ y = 58 := hy
  refine Ev.steps (k := 2) (pc' := 4) (L' := [Vr 156, Vr 143, Vr ((y + 14 + r : Nat) : Int), Vi (r : Int), Vx]) (S' := [Vi (a 143 6)]) (h' := ((SHv st dr rd), (ovl a s b))) (fun _ => rfl) ?_
  rw [em]
  refine Ev.steps (k := 2) (pc' := 7) (L' := [Vr 156, Vr 143, Vr ((y + 14 + r : Nat) : Int), Vi (r : Int), Vx]) (S' := [Vi (w32 ((m : Int) * 8))]) (h' := ((SHv st dr rd), (ovl a s b))) (fun _ => rfl) ?_
  rw [show (w32 ((m : Int) * 8)) = (8 * (m : Int)) from (by unfold w32; omega)]
  refine Ev.steps (k := 1) (pc' := 8) (L' := [Vr 156, Vr 143, Vr ((y + 14 + r : Nat) : Int), Vi (r : Int), Vx]) (S' := [Vr ((y + 14 + r : Nat) : Int), Vi (8 * (m : Int))]) (h' := ((SHv st dr rd), (ovl a s b))) (fun _ => rfl) ?_
  refine Ev.getf (v := (p : Int)) rfl rfl (by omega) (shRu hy (by omega)) rfl rfl ((ovl_rc (by omega)).trans (v2)) ?_
  refine Ev.steps (k := 1) (pc' := 12) (L' := [Vr 156, Vr 143, Vr ((y + 14 + r : Nat) : Int), Vi (r : Int), Vx]) (S' := [Vi (w32 ((8 * (m : Int)) + (p : Int)))]) (h' := ((SHv st dr rd), (ovl a s b))) (fun _ => rfl) ?_
  rw [show (w32 ((8 * (m : Int)) + (p : Int))) = ((8 * m + p : Nat) : Int) from (by unfold w32; omega)]
  refine Ev.steps (k := 3) (pc' := 18) (L' := [Vr 156, Vr 143, Vr ((y + 14 + r : Nat) : Int), Vi (r : Int), Vi ((8 * m + p : Nat) : Int)]) (S' := [Vi (a 156 0)]) (h' := ((SHv st dr rd), (ovl a s b))) (fun _ => rfl) ?_
  rw [hk1]
  refine Ev.fin (k := 2) (r := none) (h' := ((SHv st dr rd), (ovl a s b))) (fun _ => rfl) ?_
  exact ⟨rfl, rfl⟩
theorem d_noteMinute_l {X : List Int} {d : Nat} {st dr rd : Int} {a s b : C3} (m : Nat) (hm : m < 180) (x : Nat → Nat) (hx : ∀ i, i < 8 → x i < 16) {a0 : C3} (ha : ∀ i, i < 8 → a0 122 i = (x i : Int)) (i : Nat) (hi : i ≤ 8) (hf : FrO 135 137 a0 a) (h6 : a 136 = a0 136) (h5 : ∀ j, a 135 j = if 8 * m ≤ j ∧ j < 8 * m + i then a0 123 (j - 8 * m) else a0 135 j) (h7 : a 137 m = b32 (pkD 4 x i)) (h7b : ∀ j, j ≠ m → a 137 j = a0 137 j) : Ev X d 104 35 [Vr 133, Vr 120, Vi (m : Int), Vi (i : Int)] [] (SHv st dr rd, ovl a s b) (fun rr hh => rr = none ∧ ∃ a' : C3, hh = (SHv st dr rd, ovl a' s b) ∧ FrO 135 137 a0 a' ∧ a' 136 = a0 136 ∧ (∀ j, a' 135 j = if 8 * m ≤ j ∧ j < 8 * m + 8 then a0 123 (j - 8 * m) else a0 135 j) ∧ a' 137 m = b32 (pkD 4 x 8) ∧ (∀ j, j ≠ m → a' 137 j = a0 137 j)) := by
  induction hkk : (8 - i) using Nat.strongRecOn generalizing i a with
  | ind kk ih =>
    have q2 : a 122 = a0 122 := hf 122 (by omega)
    have q3 : a 123 = a0 123 := hf 123 (by omega)
    refine Ev.ite (P := 8 ≤ (i : Int)) (k := 3) (a := 83) (b := 41) (L' := [Vr 133, Vr 120, Vi (m : Int), Vi (i : Int)]) (S' := []) (h' := ((SHv st dr rd), (ovl a s b))) (fun _ => rfl) (fun b38 => ?_) (fun b38 => ?_)
    · refine Ev.fin (k := 1) (r := none) (h' := ((SHv st dr rd), (ovl a s b))) (fun _ => rfl) ?_
      obtain rfl : i = 8 := by omega
      exact ⟨rfl, a, rfl, hf, h6, h5, h7, h7b⟩
    · refine Ev.steps (k := 5) (pc' := 49) (L' := [Vr 133, Vr 120, Vi (m : Int), Vi (i : Int)]) (S' := [Vi (w32 ((m : Int) * 8)), Vr 135]) (h' := ((SHv st dr rd), (ovl a s b))) (fun _ => rfl) ?_
      rw [show (w32 ((m : Int) * 8)) = (8 * (m : Int)) from (by unfold w32; omega)]
      refine Ev.steps (k := 2) (pc' := 51) (L' := [Vr 133, Vr 120, Vi (m : Int), Vi (i : Int)]) (S' := [Vi (w32 ((8 * (m : Int)) + (i : Int))), Vr 135]) (h' := ((SHv st dr rd), (ovl a s b))) (fun _ => rfl) ?_
      rw [show (w32 ((8 * (m : Int)) + (i : Int))) = ((8 * m + i : Nat) : Int) from (by unfold w32; omega)]
      refine Ev.steps (k := 3) (pc' := 56) (L' := [Vr 133, Vr 120, Vi (m : Int), Vi (i : Int)]) (S' := [Vi (i : Int), Vr 123, Vi ((8 * m + i : Nat) : Int), Vr 135]) (h' := ((SHv st dr rd), (ovl a s b))) (fun _ => rfl) ?_
      refine Ev.iald (v := (a 123 i)) rfl (by decide) rfl (by omega) (by omega) (rfl) ?_
      refine Ev.iast (c' := (ovl (updC a 135 ((8 * m + i)) (a 123 i)) s b)) rfl (by decide) rfl (by omega) (by omega) (ovl_wc (by decide)) ?_
      refine Ev.steps (k := 4) (pc' := 64) (L' := [Vr 133, Vr 120, Vi (m : Int), Vi (i : Int)]) (S' := [Vi (m : Int), Vr 137, Vi (m : Int), Vr 137]) (h' := ((SHv st dr rd), (ovl (updC a 135 ((8 * m + i)) (a 123 i)) s b))) (fun _ => rfl) ?_
      refine Ev.iald (v := (a 137 m)) rfl (by decide) rfl (by omega) (by omega) (rfl) ?_
      refine Ev.steps (k := 3) (pc' := 70) (L' := [Vr 133, Vr 120, Vi (m : Int), Vi (i : Int)]) (S' := [Vi (i : Int), Vr 122, Vi (a 137 m), Vi (m : Int), Vr 137]) (h' := ((SHv st dr rd), (ovl (updC a 135 ((8 * m + i)) (a 123 i)) s b))) (fun _ => rfl) ?_
      refine Ev.iald (v := (a 122 i)) rfl (by decide) rfl (by omega) (by omega) (rfl) ?_
      refine Ev.steps (k := 3) (pc' := 74) (L' := [Vr 133, Vr 120, Vi (m : Int), Vi (i : Int)]) (S' := [Vi (w32 ((i : Int) * 4)), Vi (a 122 i), Vi (a 137 m), Vi (m : Int), Vr 137]) (h' := ((SHv st dr rd), (ovl (updC a 135 ((8 * m + i)) (a 123 i)) s b))) (fun _ => rfl) ?_
      rw [show (w32 ((i : Int) * 4)) = ((4 * i : Nat) : Int) from (by unfold w32; omega)]
      refine Ev.steps (k := 2) (pc' := 76) (L' := [Vr 133, Vr 120, Vi (m : Int), Vi (i : Int)]) (S' := [Vi (i_or (a 137 m) (i_shl (a 122 i) ((4 * i : Nat) : Int))), Vi (m : Int), Vr 137]) (h' := ((SHv st dr rd), (ovl (updC a 135 ((8 * m + i)) (a 123 i)) s b))) (fun _ => rfl) ?_
      rw [show (i_or (a 137 m) (i_shl (a 122 i) ((4 * i : Nat) : Int))) = (b32 (pkD 4 x (i + 1))) from (by rw [h7, q2, ha i (by omega), ← b32_s (x := x i) (by have := hx i (by omega); omega), b32_shl (by omega), b32_or, pkD_or (fun j hj => hx j (by omega))])]
      refine Ev.iast (c' := (ovl (updC (updC a 135 ((8 * m + i)) (a 123 i)) 137 m (b32 (pkD 4 x (i + 1)))) s b)) rfl (by decide) rfl (by omega) (by omega) (ovl_wc (by decide)) ?_
      refine Ev.steps (k := 1) (pc' := 80) (L' := [Vr 133, Vr 120, Vi (m : Int), Vi (w32 ((i : Int) + 1))]) (S' := []) (h' := ((SHv st dr rd), (ovl (updC (updC a 135 ((8 * m + i)) (a 123 i)) 137 m (b32 (pkD 4 x (i + 1)))) s b))) (fun _ => rfl) ?_
      rw [show (w32 ((i : Int) + 1)) = ((i : Int) + 1) from w32_id (by unfold R32; omega)]
      refine Ev.steps (k := 1) (pc' := 35) (L' := [Vr 133, Vr 120, Vi (m : Int), Vi ((i : Int) + 1)]) (S' := []) (h' := ((SHv st dr rd), (ovl (updC (updC a 135 ((8 * m + i)) (a 123 i)) 137 m (b32 (pkD 4 x (i + 1)))) s b))) (fun _ => rfl) ?_
      refine ih _ (by omega) (a := (updC (updC a 135 ((8 * m + i)) (a 123 i)) 137 m (b32 (pkD 4 x (i + 1))))) (i + 1) (by omega) ((hf.up (by omega)).up (by omega)) ?_ (fun j => ?_) ?_ (fun j hj => ?_) rfl
      · rw [updC_row (by omega), updC_row (by omega), h6]
      · rw [updC_row (by omega), updC_if]
        by_cases g : j = 8 * m + i
        · rw [if_pos g, if_pos (by omega), g, Nat.add_sub_cancel_left, q3]
        · rw [if_neg g, h5 j]
          by_cases g2 : 8 * m ≤ j ∧ j < 8 * m + i
          · rw [if_pos g2, if_pos (by omega)]
          · rw [if_neg g2, if_neg (by omega)]
      · rw [updC_sm]
      · rw [updC_nt (by omega), updC_row (by omega)]
        exact h7b j hj
theorem d_noteMinute {X : List Int} {d : Nat} {st dr rd : Int} {a s b : C3} (m : Nat) (hm : m < 180) (x : Nat → Nat) (hx : ∀ i, i < 8 → x i < 16) (ha : ∀ i, i < 8 → a 122 i = (x i : Int)) (em : a 120 6 = (m : Int)) (hk1 : a 133 0 = 1) : Ev X d 104 0 [Vr 133, Vr 120, Vx, Vx] [] (SHv st dr rd, ovl a s b) (fun rr hh => rr = none ∧ ∃ a' : C3, hh = (SHv st dr rd, ovl a' s b) ∧ FrO 135 137 a a' ∧ a' 136 = a 136 ∧ (∀ j, a' 135 j = if 8 * m ≤ j ∧ j < 8 * m + 8 then a 123 (j - 8 * m) else a 135 j) ∧ a' 137 m = b32 (pkD 4 x 8) ∧ (∀ j, j ≠ m → a' 137 j = a 137 j)) := by
  refine Ev.steps (k := 2) (pc' := 4) (L' := [Vr 133, Vr 120, Vx, Vx]) (S' := [Vi (a 120 6)]) (h' := ((SHv st dr rd), (ovl a s b))) (fun _ => rfl) ?_
  rw [em]
  refine Ev.steps (k := 3) (pc' := 9) (L' := [Vr 133, Vr 120, Vi (m : Int), Vx]) (S' := [Vi (a 133 0)]) (h' := ((SHv st dr rd), (ovl a s b))) (fun _ => rfl) ?_
  rw [hk1]
  refine Ev.ite (P := (m : Int) < 0) (k := 3) (a := 25) (b := 16) (L' := [Vr 133, Vr 120, Vi (m : Int), Vx]) (S' := []) (h' := ((SHv st dr rd), (ovl a s b))) (fun _ => rfl) (fun b13 => ?_) (fun b13 => ?_)
  · exfalso; omega
  · refine Ev.ite (P := (m : Int) < 180) (k := 5) (a := 26) (b := 25) (L' := [Vr 133, Vr 120, Vi (m : Int), Vx]) (S' := []) (h' := ((SHv st dr rd), (ovl a s b))) (fun _ => rfl) (fun b22 => ?_) (fun b22 => ?_)
    · refine Ev.steps (k := 4) (pc' := 32) (L' := [Vr 133, Vr 120, Vi (m : Int), Vx]) (S' := [Vi 0, Vi (m : Int), Vr 137]) (h' := ((SHv st dr rd), (ovl a s b))) (fun _ => rfl) ?_
      refine Ev.iast (c' := (ovl (updC a 137 m 0) s b)) rfl (by decide) rfl (by omega) (by omega) (ovl_wc (by decide)) ?_
      refine Ev.steps (k := 2) (pc' := 35) (L' := [Vr 133, Vr 120, Vi (m : Int), Vi 0]) (S' := []) (h' := ((SHv st dr rd), (ovl (updC a 137 m 0) s b))) (fun _ => rfl) ?_
      refine Ev.mono (d_noteMinute_l m hm x hx (a0 := (updC a 137 m 0)) ha 0 (by omega) FrO.rf rfl (fun j => by rw [if_neg (by omega)]) (by rw [updC_sm]; rfl) (fun _ _ => rfl)) (fun r h' hq => ?_)
      obtain ⟨rfl, a', rfl, g1, g2, g3, g4, g5⟩ := hq
      exact ⟨rfl, a', rfl, (FrO.rf.up (by omega)).tr g1, by rw [g2, updC_row (by omega)], g3, g4, fun j hj => by rw [g5 j hj, updC_nt (by omega)]⟩
    · exfalso; omega
theorem e_noteMinute {X : List Int} {d : Nat} {st dr rd : Int} {a s b : C3} (m : Nat) (hm : m < 180) (em : a 143 6 = (m : Int)) (hk1 : a 156 0 = 0) : Ev X d 104 0 [Vr 156, Vr 143, Vx, Vx] [] (SHv st dr rd, ovl a s b) (fun rr hh => rr = none ∧ hh = (SHv st dr rd, ovl a s b)) := by
  refine Ev.steps (k := 2) (pc' := 4) (L' := [Vr 156, Vr 143, Vx, Vx]) (S' := [Vi (a 143 6)]) (h' := ((SHv st dr rd), (ovl a s b))) (fun _ => rfl) ?_
  rw [em]
  refine Ev.steps (k := 3) (pc' := 9) (L' := [Vr 156, Vr 143, Vi (m : Int), Vx]) (S' := [Vi (a 156 0)]) (h' := ((SHv st dr rd), (ovl a s b))) (fun _ => rfl) ?_
  rw [hk1]
  refine Ev.fin (k := 2) (r := none) (h' := ((SHv st dr rd), (ovl a s b))) (fun _ => rfl) ?_
  exact ⟨rfl, rfl⟩
theorem d_begin {X : List Int} {d : Nat} {st dr rd : Int} {a s b : C3}  : Ev X (d + 1) 63 0 [Vr 133] [] (SHv st dr rd, ovl a s b) (fun rr hh => rr = none ∧ ∃ a' : C3, hh = (SHv st dr rd, ovl a' s b) ∧ FrO 133 134 a a' ∧ a' 133 5 = 0 ∧ a' 133 0 = a 133 0 ∧ ∀ j, j < 1440 → a' 134 j = -1) := by
  refine Ev.steps (k := 2) (pc' := 2) (L' := [Vr 133]) (S' := [Vi 0, Vr 133]) (h' := ((SHv st dr rd), (ovl a s b))) (fun _ => rfl) ?_
  refine Ev.putf (c' := (ovl (updC a 133 5 0) s b)) rfl (by decide) rfl rfl rfl (ovl_wc (by decide)) ?_
  refine Ev.call (k := 3) (pc1 := 10) (L1 := [Vr 133]) (S1 := [Vi (-1), Vr 134]) (h1 := ((SHv st dr rd), (ovl (updC a 133 5 0) s b))) (m' := 25) (as := [Vr 134, Vi (-1)]) (S' := []) (L0 := [Vr 134, Vi (-1), Vx, Vx]) (fun _ => rfl) rfl rfl rfl rfl rfl rfl (c_fill 134 1440 (by omega) rfl (-1) (by omega)) (fun r h' hq => ?_)
  obtain ⟨rfl, a2, rfl, g1, g2⟩ := hq
  show Ev X _ _ 13 [Vr 133] [] ((SHv st dr rd), (ovl a2 s b)) _
  refine Ev.fin (k := 1) (r := none) (h' := ((SHv st dr rd), (ovl a2 s b))) (fun _ => rfl) ?_
  exact ⟨rfl, a2, rfl, (FrO.rf.up (by omega)).tr (g1.wd (by omega) (by omega)), by rw [g1 133 (by omega), updC_sm], by rw [g1 133 (by omega), updC_nt (by omega)], g2⟩
theorem e_begin {X : List Int} {d : Nat} {st dr rd : Int} {a s b : C3}  : Ev X (d + 1) 63 0 [Vr 156] [] (SHv st dr rd, ovl a s b) (fun rr hh => rr = none ∧ ∃ a' : C3, hh = (SHv st dr rd, ovl a' s b) ∧ FrO 156 157 a a' ∧ a' 156 0 = a 156 0) := by
  refine Ev.steps (k := 2) (pc' := 2) (L' := [Vr 156]) (S' := [Vi 0, Vr 156]) (h' := ((SHv st dr rd), (ovl a s b))) (fun _ => rfl) ?_
  refine Ev.putf (c' := (ovl (updC a 156 5 0) s b)) rfl (by decide) rfl rfl rfl (ovl_wc (by decide)) ?_
  refine Ev.call (k := 3) (pc1 := 10) (L1 := [Vr 156]) (S1 := [Vi (-1), Vr 157]) (h1 := ((SHv st dr rd), (ovl (updC a 156 5 0) s b))) (m' := 25) (as := [Vr 157, Vi (-1)]) (S' := []) (L0 := [Vr 157, Vi (-1), Vx, Vx]) (fun _ => rfl) rfl rfl rfl rfl rfl rfl (c_fill 157 0 (by omega) rfl (-1) (by omega)) (fun r h' hq => ?_)
  obtain ⟨rfl, a2, rfl, g1, g2⟩ := hq
  show Ev X _ _ 13 [Vr 156] [] ((SHv st dr rd), (ovl a2 s b)) _
  refine Ev.fin (k := 1) (r := none) (h' := ((SHv st dr rd), (ovl a2 s b))) (fun _ => rfl) ?_
  exact ⟨rfl, a2, rfl, (FrO.rf.up (by omega)).tr (g1.wd (by omega) (by omega)), by rw [g1 156 (by omega), updC_nt (by omega)]⟩
