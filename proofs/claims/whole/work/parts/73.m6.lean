/-! THE REFERENCE: traces, what is done -/
abbrev InD (e o i : Nat) : Prop := o = 213 ∨ o = 214 ∨ o = 215 ∨ o = 216 ∨ ((o = 203 ∨ o = 204) ∧ i = e) ∨ (o = 210 ∧ 96 * e ≤ i ∧ i < 96 * e + 96) ∨ (o = 211 ∧ 8640 * e ≤ i ∧ i < 8640 * e + 8640)
def FrD (e : Nat) (b b' : SC) : Prop := ∀ o i, ¬ InD e o i → b' o i = b o i
theorem FrD.rf {e : Nat} {b : SC} : FrD e b b := fun _ _ _ => rfl
theorem FrD.tr {e : Nat} {b b' b'' : SC} (h : FrD e b b') (h' : FrD e b' b'') : FrD e b b'' := fun o i hn => (h' o i hn).trans (h o i hn)
theorem FrD.up {e : Nat} {b b' : SC} {o i : Nat} {v : Int} (h : FrD e b b') (hi : InD e o i) : FrD e b (updC b' o i v) := fun o' i' hn => by
  rw [updC_nt (fun hc => hn (by rw [hc.1, hc.2]; exact hi))]
  exact h o' i' hn
theorem FrD.fe {e : Nat} {b b' : SC} (h : FrD e b b') : FrE e b b' := fun o i hn => h o i (fun hd => hn (by unfold InE; unfold InD at hd; omega))
/-- behind a method of the reference that changes the scene of evening e -/
def PM (S : STY) (st dr rd : Int) (a b : SC) (e : Nat) (R : Option pm_V) (c' : SC) : Option pm_V → pm_H → Prop := fun rr hh => rr = R ∧ ∃ s' b' : SC, hh = (SHv st dr rd, ovl a s' b') ∧ SimM S c' b' e ∧ FrD e b b'
theorem SimM.leav {S : STY} {c b : SC} {e n p : Nat} {kind what : Int} (h : SimM S c b e) (hn : c 7 0 = (n : Int)) : SimM S (leavS c kind what p) (updC (updC (updC (updC (updC (updC (updC b 211 (6 * (1440 * e + n)) (c 5 0)) 211 (6 * (1440 * e + n) + 1) kind) 211 (6 * (1440 * e + n) + 2) what) 211 (6 * (1440 * e + n) + 3) (p : Int)) 211 (6 * (1440 * e + n) + 4) (c 0 p)) 211 (6 * (1440 * e + n) + 5) (-1)) 204 e ((n : Int) + 1)) e := by
  obtain ⟨h0, h1, h2, h3, h4, h5, h7, h9, h6, h8, he⟩ := h
  have h77 : leavS c kind what p 7 0 = (n : Int) + 1 := by
    show updC _ 7 0 (c 7 0 + 1) 7 0 = _
    rw [updC_sm, hn]
  refine ⟨h0, h1, h2, h3, h4, h5, ?_, h9, ?_, h8, he⟩
  · rw [h77, updC_sm]
  · intro i hi
    rw [h77] at hi
    have hn2 : (c 7 0).toNat = n := by omega
    show updC (updC (updC (updC (updC (updC b 211 (6 * (1440 * e + n)) (c 5 0)) 211 (6 * (1440 * e + n) + 1) kind) 211 (6 * (1440 * e + n) + 2) what) 211 (6 * (1440 * e + n) + 3) (p : Int)) 211 (6 * (1440 * e + n) + 4) (c 0 p)) 211 (6 * (1440 * e + n) + 5) (-1) 211 (8640 * e + i) = updC (updC (updC (updC (updC (updC c 6 (6 * (c 7 0).toNat) (c 5 0)) 6 (6 * (c 7 0).toNat + 1) kind) 6 (6 * (c 7 0).toNat + 2) what) 6 (6 * (c 7 0).toNat + 3) p) 6 (6 * (c 7 0).toNat + 4) (c 0 p)) 6 (6 * (c 7 0).toNat + 5) (-1) 6 i
    rw [hn2]
    simp only [updC_if, show (8640 * e + i = 6 * (1440 * e + n)) = (i = 6 * n) from propext ⟨fun h => by omega, fun h => by omega⟩, show (8640 * e + i = 6 * (1440 * e + n) + 1) = (i = 6 * n + 1) from propext ⟨fun h => by omega, fun h => by omega⟩, show (8640 * e + i = 6 * (1440 * e + n) + 2) = (i = 6 * n + 2) from propext ⟨fun h => by omega, fun h => by omega⟩, show (8640 * e + i = 6 * (1440 * e + n) + 3) = (i = 6 * n + 3) from propext ⟨fun h => by omega, fun h => by omega⟩, show (8640 * e + i = 6 * (1440 * e + n) + 4) = (i = 6 * n + 4) from propext ⟨fun h => by omega, fun h => by omega⟩, show (8640 * e + i = 6 * (1440 * e + n) + 5) = (i = 6 * n + 5) from propext ⟨fun h => by omega, fun h => by omega⟩]
    split
    · rfl
    · split
      · rfl
      · split
        · rfl
        · split
          · rfl
          · split
            · rfl
            · split
              · rfl
              · exact h6 i (by rw [hn2]; omega)
theorem SimM.deed {S : STY} {c b : SC} {e n p o what r : Nat} (h : SimM S c b e) (hn : c 9 0 = (n : Int)) : SimM S (deedS c p o what r) (updC (updC (updC (updC (updC (updC (updC b 210 (6 * (16 * e + n)) (p : Int)) 210 (6 * (16 * e + n) + 1) (o : Int)) 210 (6 * (16 * e + n) + 2) (what : Int)) 210 (6 * (16 * e + n) + 3) (c 5 0)) 210 (6 * (16 * e + n) + 4) (c 0 p)) 210 (6 * (16 * e + n) + 5) (r : Int)) 203 e ((n : Int) + 1)) e := by
  obtain ⟨h0, h1, h2, h3, h4, h5, h7, h9, h6, h8, he⟩ := h
  have h77 : deedS c p o what r 9 0 = (n : Int) + 1 := by
    show updC _ 9 0 (c 9 0 + 1) 9 0 = _
    rw [updC_sm, hn]
  refine ⟨h0, h1, h2, h3, h4, h5, h7, ?_, h6, ?_, he⟩
  · rw [h77, updC_sm]
  · intro i hi
    rw [h77] at hi
    have hn2 : (c 9 0).toNat = n := by omega
    show updC (updC (updC (updC (updC (updC b 210 (6 * (16 * e + n)) (p : Int)) 210 (6 * (16 * e + n) + 1) (o : Int)) 210 (6 * (16 * e + n) + 2) (what : Int)) 210 (6 * (16 * e + n) + 3) (c 5 0)) 210 (6 * (16 * e + n) + 4) (c 0 p)) 210 (6 * (16 * e + n) + 5) (r : Int) 210 (96 * e + i) = updC (updC (updC (updC (updC (updC c 8 (6 * (c 9 0).toNat) p) 8 (6 * (c 9 0).toNat + 1) o) 8 (6 * (c 9 0).toNat + 2) what) 8 (6 * (c 9 0).toNat + 3) (c 5 0)) 8 (6 * (c 9 0).toNat + 4) (c 0 p)) 8 (6 * (c 9 0).toNat + 5) r 8 i
    rw [hn2]
    simp only [updC_if, show (96 * e + i = 6 * (16 * e + n)) = (i = 6 * n) from propext ⟨fun h => by omega, fun h => by omega⟩, show (96 * e + i = 6 * (16 * e + n) + 1) = (i = 6 * n + 1) from propext ⟨fun h => by omega, fun h => by omega⟩, show (96 * e + i = 6 * (16 * e + n) + 2) = (i = 6 * n + 2) from propext ⟨fun h => by omega, fun h => by omega⟩, show (96 * e + i = 6 * (16 * e + n) + 3) = (i = 6 * n + 3) from propext ⟨fun h => by omega, fun h => by omega⟩, show (96 * e + i = 6 * (16 * e + n) + 4) = (i = 6 * n + 4) from propext ⟨fun h => by omega, fun h => by omega⟩, show (96 * e + i = 6 * (16 * e + n) + 5) = (i = 6 * n + 5) from propext ⟨fun h => by omega, fun h => by omega⟩]
    split
    · rfl
    · split
      · rfl
      · split
        · rfl
        · split
          · rfl
          · split
            · rfl
            · split
              · rfl
              · exact h8 i (by rw [hn2]; omega)
theorem dropS_s {t : Nat} {c : SC} {o : Nat} : dropS (t + 1) c o = if c 2 t = 100 + (o : Int) then updC (dropS t c o) 2 t (c 0 o) else dropS t c o := by
  funext x i
  by_cases h : c 2 t = 100 + (o : Int)
  · rw [if_pos h]
    by_cases hx : x = 2 ∧ i = t
    · rw [hx.1, hx.2, updC_sm]
      unfold dropS
      rw [if_pos ⟨rfl, by omega, h⟩]
    · rw [updC_nt hx]
      unfold dropS
      by_cases hq : x = 2 ∧ i < t ∧ c 2 i = 100 + (o : Int)
      · rw [if_pos hq, if_pos ⟨hq.1, by omega, hq.2.2⟩]
      · rw [if_neg hq, if_neg (fun h => hq ⟨h.1, by omega, h.2.2⟩)]
  · rw [if_neg h]
    unfold dropS
    by_cases hq : x = 2 ∧ i < t ∧ c 2 i = 100 + (o : Int)
    · rw [if_pos hq, if_pos ⟨hq.1, by omega, hq.2.2⟩]
    · rw [if_neg hq, if_neg (fun h2 => hq ⟨h2.1, by
        by_cases hi : i = t
        · subst hi
          exact absurd h2.2.2 h
        · omega, h2.2.2⟩)]
theorem dropS_0 {c : SC} {o : Nat} : dropS 0 c o = c := by
  funext x i
  unfold dropS
  rw [if_neg (fun h => absurd h.2.1 (by omega))]
theorem dropS_2 {t : Nat} {c : SC} {o : Nat} : dropS t c o 2 t = c 2 t := by
  unfold dropS
  rw [if_neg (fun h => absurd h.2.1 (by omega))]
theorem dropS_n {t : Nat} {c : SC} {o x i : Nat} (h : x ≠ 2) : dropS t c o x i = c x i := by
  unfold dropS
  rw [if_neg (fun h2 => h h2.1)]
theorem m_leaves {X : List Int} {d : Nat} {st dr rd : Int} {a s b : C3} (kind what : Int) (p : Nat) {S : STY} {bk e : Nat} {c_b : SC} (hY_b : RepY S b bk) (hWY : WfY S) (hS_b : SimM S c_b b e) (hWC : WfC S c_b) (hp : p < nW S) (hcn : c_b 7 0 < 1440) : Ev X d 219 0 [Vr 166, Vi kind, Vi what, Vi (p : Int), Vx] [] (SHv st dr rd, ovl a s b) (PM S st dr rd a b e none (leavS c_b kind what p)) := by
  obtain ⟨hb2_b, h12_b, h168_b, h169_b, h170_b, h171_b, h173_b, h172_b, h174_b, h176_b, h178_b, h175_b, h177_b, h179_b, h180_b, h184_b⟩ := id hY_b
  obtain ⟨s0_b, s1_b, s2_b, s3_b, s4_b, s5_b, s7_b, s9_b, s6_b, s8_b, he_b, he2_b⟩ := id hS_b
  obtain ⟨wR, wD, wW, wT, wL, wC, wdoor, wsym, wWI, wTI, wCl, wRu⟩ := id hWY
  obtain ⟨k0, k1, k2, k3, k4, k5, k7, k9⟩ := id hWC
  obtain ⟨n, hn⟩ : ∃ n : Nat, c_b 7 0 = n := ⟨(c_b 7 0).toNat, by omega⟩
  have hn7 : b 204 e = (n : Int) := by rw [s7_b, hn]
  refine Ev.steps (k := 4) (pc' := 9) (L' := [Vr 166, Vi kind, Vi what, Vi (p : Int), Vx]) (S' := [Vi (b 166 64), Vi 1440, Vi 6]) (h' := ((SHv st dr rd), (ovl a s b))) (fun _ => rfl) ?_
  rw [he_b]
  refine Ev.steps (k := 1) (pc' := 10) (L' := [Vr 166, Vi kind, Vi what, Vi (p : Int), Vx]) (S' := [Vi (w32 (1440 * (e : Int))), Vi 6]) (h' := ((SHv st dr rd), (ovl a s b))) (fun _ => rfl) ?_
  rw [show (w32 (1440 * (e : Int))) = (1440 * (e : Int)) from w32_id (by unfold R32; omega)]
  refine Ev.steps (k := 4) (pc' := 18) (L' := [Vr 166, Vi kind, Vi what, Vi (p : Int), Vx]) (S' := [Vi (b 166 64), Vr 204, Vi (1440 * (e : Int)), Vi 6]) (h' := ((SHv st dr rd), (ovl a s b))) (fun _ => rfl) ?_
  rw [he_b]
  refine Ev.iald (v := (n : Int)) rfl (by decide) rfl (by omega) (by omega) (hn7) ?_
  refine Ev.steps (k := 1) (pc' := 20) (L' := [Vr 166, Vi kind, Vi what, Vi (p : Int), Vx]) (S' := [Vi (w32 ((1440 * (e : Int)) + (n : Int))), Vi 6]) (h' := ((SHv st dr rd), (ovl a s b))) (fun _ => rfl) ?_
  rw [show (w32 ((1440 * (e : Int)) + (n : Int))) = ((1440 * (e : Int)) + (n : Int)) from w32_id (by unfold R32; omega)]
  refine Ev.steps (k := 1) (pc' := 21) (L' := [Vr 166, Vi kind, Vi what, Vi (p : Int), Vx]) (S' := [Vi (w32 (6 * ((1440 * (e : Int)) + (n : Int))))]) (h' := ((SHv st dr rd), (ovl a s b))) (fun _ => rfl) ?_
  rw [show (w32 (6 * ((1440 * (e : Int)) + (n : Int)))) = (6 * ((1440 * (e : Int)) + (n : Int))) from w32_id (by unfold R32; omega)]
  refine Ev.steps (k := 6) (pc' := 33) (L' := [Vr 166, Vi kind, Vi what, Vi (p : Int), Vi (6 * ((1440 * (e : Int)) + (n : Int)))]) (S' := [Vi (b 166 65), Vi (6 * ((1440 * (e : Int)) + (n : Int))), Vr 211]) (h' := ((SHv st dr rd), (ovl a s b))) (fun _ => rfl) ?_
  rw [s5_b]
  refine Ev.iast (c' := (ovl a s (updC b 211 ((6 * (1440 * e + n))) (c_b 5 0)))) rfl (by decide) rfl (by omega) (by omega) (ovl_wm (by decide)) ?_
  refine Ev.steps (k := 5) (pc' := 42) (L' := [Vr 166, Vi kind, Vi what, Vi (p : Int), Vi (6 * ((1440 * (e : Int)) + (n : Int)))]) (S' := [Vi (w32 ((6 * ((1440 * (e : Int)) + (n : Int))) + 1)), Vr 211]) (h' := ((SHv st dr rd), (ovl a s (updC b 211 ((6 * (1440 * e + n))) (c_b 5 0))))) (fun _ => rfl) ?_
  rw [show (w32 ((6 * ((1440 * (e : Int)) + (n : Int))) + 1)) = ((6 * ((1440 * (e : Int)) + (n : Int))) + 1) from w32_id (by unfold R32; omega)]
  refine Ev.steps (k := 1) (pc' := 43) (L' := [Vr 166, Vi kind, Vi what, Vi (p : Int), Vi (6 * ((1440 * (e : Int)) + (n : Int)))]) (S' := [Vi kind, Vi ((6 * ((1440 * (e : Int)) + (n : Int))) + 1), Vr 211]) (h' := ((SHv st dr rd), (ovl a s (updC b 211 ((6 * (1440 * e + n))) (c_b 5 0))))) (fun _ => rfl) ?_
  refine Ev.iast (c' := (ovl a s (updC (updC b 211 ((6 * (1440 * e + n))) (c_b 5 0)) 211 (((6 * (1440 * e + n)) + 1)) kind))) rfl (by decide) rfl (by omega) (by omega) (ovl_wm (by decide)) ?_
  refine Ev.steps (k := 5) (pc' := 52) (L' := [Vr 166, Vi kind, Vi what, Vi (p : Int), Vi (6 * ((1440 * (e : Int)) + (n : Int)))]) (S' := [Vi (w32 ((6 * ((1440 * (e : Int)) + (n : Int))) + 2)), Vr 211]) (h' := ((SHv st dr rd), (ovl a s (updC (updC b 211 ((6 * (1440 * e + n))) (c_b 5 0)) 211 (((6 * (1440 * e + n)) + 1)) kind)))) (fun _ => rfl) ?_
  rw [show (w32 ((6 * ((1440 * (e : Int)) + (n : Int))) + 2)) = ((6 * ((1440 * (e : Int)) + (n : Int))) + 2) from w32_id (by unfold R32; omega)]
  refine Ev.steps (k := 1) (pc' := 53) (L' := [Vr 166, Vi kind, Vi what, Vi (p : Int), Vi (6 * ((1440 * (e : Int)) + (n : Int)))]) (S' := [Vi what, Vi ((6 * ((1440 * (e : Int)) + (n : Int))) + 2), Vr 211]) (h' := ((SHv st dr rd), (ovl a s (updC (updC b 211 ((6 * (1440 * e + n))) (c_b 5 0)) 211 (((6 * (1440 * e + n)) + 1)) kind)))) (fun _ => rfl) ?_
  refine Ev.iast (c' := (ovl a s (updC (updC (updC b 211 ((6 * (1440 * e + n))) (c_b 5 0)) 211 (((6 * (1440 * e + n)) + 1)) kind) 211 (((6 * (1440 * e + n)) + 2)) what))) rfl (by decide) rfl (by omega) (by omega) (ovl_wm (by decide)) ?_
  refine Ev.steps (k := 5) (pc' := 62) (L' := [Vr 166, Vi kind, Vi what, Vi (p : Int), Vi (6 * ((1440 * (e : Int)) + (n : Int)))]) (S' := [Vi (w32 ((6 * ((1440 * (e : Int)) + (n : Int))) + 3)), Vr 211]) (h' := ((SHv st dr rd), (ovl a s (updC (updC (updC b 211 ((6 * (1440 * e + n))) (c_b 5 0)) 211 (((6 * (1440 * e + n)) + 1)) kind) 211 (((6 * (1440 * e + n)) + 2)) what)))) (fun _ => rfl) ?_
  rw [show (w32 ((6 * ((1440 * (e : Int)) + (n : Int))) + 3)) = ((6 * ((1440 * (e : Int)) + (n : Int))) + 3) from w32_id (by unfold R32; omega)]
  refine Ev.steps (k := 1) (pc' := 63) (L' := [Vr 166, Vi kind, Vi what, Vi (p : Int), Vi (6 * ((1440 * (e : Int)) + (n : Int)))]) (S' := [Vi (p : Int), Vi ((6 * ((1440 * (e : Int)) + (n : Int))) + 3), Vr 211]) (h' := ((SHv st dr rd), (ovl a s (updC (updC (updC b 211 ((6 * (1440 * e + n))) (c_b 5 0)) 211 (((6 * (1440 * e + n)) + 1)) kind) 211 (((6 * (1440 * e + n)) + 2)) what)))) (fun _ => rfl) ?_
  refine Ev.iast (c' := (ovl a s (updC (updC (updC (updC b 211 ((6 * (1440 * e + n))) (c_b 5 0)) 211 (((6 * (1440 * e + n)) + 1)) kind) 211 (((6 * (1440 * e + n)) + 2)) what) 211 (((6 * (1440 * e + n)) + 3)) (p : Int)))) rfl (by decide) rfl (by omega) (by omega) (ovl_wm (by decide)) ?_
  refine Ev.steps (k := 5) (pc' := 72) (L' := [Vr 166, Vi kind, Vi what, Vi (p : Int), Vi (6 * ((1440 * (e : Int)) + (n : Int)))]) (S' := [Vi (w32 ((6 * ((1440 * (e : Int)) + (n : Int))) + 4)), Vr 211]) (h' := ((SHv st dr rd), (ovl a s (updC (updC (updC (updC b 211 ((6 * (1440 * e + n))) (c_b 5 0)) 211 (((6 * (1440 * e + n)) + 1)) kind) 211 (((6 * (1440 * e + n)) + 2)) what) 211 (((6 * (1440 * e + n)) + 3)) (p : Int))))) (fun _ => rfl) ?_
  rw [show (w32 ((6 * ((1440 * (e : Int)) + (n : Int))) + 4)) = ((6 * ((1440 * (e : Int)) + (n : Int))) + 4) from w32_id (by unfold R32; omega)]
  refine Ev.steps (k := 3) (pc' := 77) (L' := [Vr 166, Vi kind, Vi what, Vi (p : Int), Vi (6 * ((1440 * (e : Int)) + (n : Int)))]) (S' := [Vi (p : Int), Vr 213, Vi ((6 * ((1440 * (e : Int)) + (n : Int))) + 4), Vr 211]) (h' := ((SHv st dr rd), (ovl a s (updC (updC (updC (updC b 211 ((6 * (1440 * e + n))) (c_b 5 0)) 211 (((6 * (1440 * e + n)) + 1)) kind) 211 (((6 * (1440 * e + n)) + 2)) what) 211 (((6 * (1440 * e + n)) + 3)) (p : Int))))) (fun _ => rfl) ?_
  refine Ev.iald (v := (c_b 0 p)) rfl (by decide) rfl (by omega) (by omega) (s0_b p (by omega)) ?_
  refine Ev.iast (c' := (ovl a s (updC (updC (updC (updC (updC b 211 ((6 * (1440 * e + n))) (c_b 5 0)) 211 (((6 * (1440 * e + n)) + 1)) kind) 211 (((6 * (1440 * e + n)) + 2)) what) 211 (((6 * (1440 * e + n)) + 3)) (p : Int)) 211 (((6 * (1440 * e + n)) + 4)) (c_b 0 p)))) rfl (by decide) rfl (by omega) (by omega) (ovl_wm (by decide)) ?_
  refine Ev.steps (k := 5) (pc' := 87) (L' := [Vr 166, Vi kind, Vi what, Vi (p : Int), Vi (6 * ((1440 * (e : Int)) + (n : Int)))]) (S' := [Vi (w32 ((6 * ((1440 * (e : Int)) + (n : Int))) + 5)), Vr 211]) (h' := ((SHv st dr rd), (ovl a s (updC (updC (updC (updC (updC b 211 ((6 * (1440 * e + n))) (c_b 5 0)) 211 (((6 * (1440 * e + n)) + 1)) kind) 211 (((6 * (1440 * e + n)) + 2)) what) 211 (((6 * (1440 * e + n)) + 3)) (p : Int)) 211 (((6 * (1440 * e + n)) + 4)) (c_b 0 p))))) (fun _ => rfl) ?_
  rw [show (w32 ((6 * ((1440 * (e : Int)) + (n : Int))) + 5)) = ((6 * ((1440 * (e : Int)) + (n : Int))) + 5) from w32_id (by unfold R32; omega)]
  refine Ev.steps (k := 1) (pc' := 88) (L' := [Vr 166, Vi kind, Vi what, Vi (p : Int), Vi (6 * ((1440 * (e : Int)) + (n : Int)))]) (S' := [Vi (-1), Vi ((6 * ((1440 * (e : Int)) + (n : Int))) + 5), Vr 211]) (h' := ((SHv st dr rd), (ovl a s (updC (updC (updC (updC (updC b 211 ((6 * (1440 * e + n))) (c_b 5 0)) 211 (((6 * (1440 * e + n)) + 1)) kind) 211 (((6 * (1440 * e + n)) + 2)) what) 211 (((6 * (1440 * e + n)) + 3)) (p : Int)) 211 (((6 * (1440 * e + n)) + 4)) (c_b 0 p))))) (fun _ => rfl) ?_
  refine Ev.iast (c' := (ovl a s (updC (updC (updC (updC (updC (updC b 211 ((6 * (1440 * e + n))) (c_b 5 0)) 211 (((6 * (1440 * e + n)) + 1)) kind) 211 (((6 * (1440 * e + n)) + 2)) what) 211 (((6 * (1440 * e + n)) + 3)) (p : Int)) 211 (((6 * (1440 * e + n)) + 4)) (c_b 0 p)) 211 (((6 * (1440 * e + n)) + 5)) (-1)))) rfl (by decide) rfl (by omega) (by omega) (ovl_wm (by decide)) ?_
  refine Ev.steps (k := 4) (pc' := 97) (L' := [Vr 166, Vi kind, Vi what, Vi (p : Int), Vi (6 * ((1440 * (e : Int)) + (n : Int)))]) (S' := [Vi (b 166 64), Vr 204]) (h' := ((SHv st dr rd), (ovl a s (updC (updC (updC (updC (updC (updC b 211 ((6 * (1440 * e + n))) (c_b 5 0)) 211 (((6 * (1440 * e + n)) + 1)) kind) 211 (((6 * (1440 * e + n)) + 2)) what) 211 (((6 * (1440 * e + n)) + 3)) (p : Int)) 211 (((6 * (1440 * e + n)) + 4)) (c_b 0 p)) 211 (((6 * (1440 * e + n)) + 5)) (-1))))) (fun _ => rfl) ?_
  rw [he_b]
  refine Ev.steps (k := 1) (pc' := 98) (L' := [Vr 166, Vi kind, Vi what, Vi (p : Int), Vi (6 * ((1440 * (e : Int)) + (n : Int)))]) (S' := [Vi (e : Int), Vr 204, Vi (e : Int), Vr 204]) (h' := ((SHv st dr rd), (ovl a s (updC (updC (updC (updC (updC (updC b 211 ((6 * (1440 * e + n))) (c_b 5 0)) 211 (((6 * (1440 * e + n)) + 1)) kind) 211 (((6 * (1440 * e + n)) + 2)) what) 211 (((6 * (1440 * e + n)) + 3)) (p : Int)) 211 (((6 * (1440 * e + n)) + 4)) (c_b 0 p)) 211 (((6 * (1440 * e + n)) + 5)) (-1))))) (fun _ => rfl) ?_
  refine Ev.iald (v := (n : Int)) rfl (by decide) rfl (by omega) (by omega) (hn7) ?_
  refine Ev.steps (k := 2) (pc' := 101) (L' := [Vr 166, Vi kind, Vi what, Vi (p : Int), Vi (6 * ((1440 * (e : Int)) + (n : Int)))]) (S' := [Vi (w32 ((n : Int) + 1)), Vi (e : Int), Vr 204]) (h' := ((SHv st dr rd), (ovl a s (updC (updC (updC (updC (updC (updC b 211 ((6 * (1440 * e + n))) (c_b 5 0)) 211 (((6 * (1440 * e + n)) + 1)) kind) 211 (((6 * (1440 * e + n)) + 2)) what) 211 (((6 * (1440 * e + n)) + 3)) (p : Int)) 211 (((6 * (1440 * e + n)) + 4)) (c_b 0 p)) 211 (((6 * (1440 * e + n)) + 5)) (-1))))) (fun _ => rfl) ?_
  rw [show (w32 ((n : Int) + 1)) = ((n : Int) + 1) from w32_id (by unfold R32; omega)]
  refine Ev.iast (c' := (ovl a s (updC (updC (updC (updC (updC (updC (updC b 211 ((6 * (1440 * e + n))) (c_b 5 0)) 211 (((6 * (1440 * e + n)) + 1)) kind) 211 (((6 * (1440 * e + n)) + 2)) what) 211 (((6 * (1440 * e + n)) + 3)) (p : Int)) 211 (((6 * (1440 * e + n)) + 4)) (c_b 0 p)) 211 (((6 * (1440 * e + n)) + 5)) (-1)) 204 e ((n : Int) + 1)))) rfl (by decide) rfl (by omega) (by omega) (ovl_wm (by decide)) ?_
  refine Ev.fin (k := 1) (r := none) (h' := ((SHv st dr rd), (ovl a s (updC (updC (updC (updC (updC (updC (updC b 211 ((6 * (1440 * e + n))) (c_b 5 0)) 211 (((6 * (1440 * e + n)) + 1)) kind) 211 (((6 * (1440 * e + n)) + 2)) what) 211 (((6 * (1440 * e + n)) + 3)) (p : Int)) 211 (((6 * (1440 * e + n)) + 4)) (c_b 0 p)) 211 (((6 * (1440 * e + n)) + 5)) (-1)) 204 e ((n : Int) + 1))))) (fun _ => rfl) ?_
  refine ⟨rfl, s, _, rfl, hS_b.leav hn, ?_⟩
  exact (((((((FrD.rf.up (by unfold InD; omega)).up (by unfold InD; omega)).up (by unfold InD; omega)).up (by unfold InD; omega)).up (by unfold InD; omega)).up (by unfold InD; omega)).up (by unfold InD; omega))
def wipU (n : Nat) (c : SC) (p : Nat) : SC := fun t j => if t = 6 ∧ j % 6 = 5 ∧ j / 6 < n ∧ WipS c p (j / 6) then c 5 0 else c t j
theorem wipU_n {n : Nat} {c : SC} {p x i : Nat} (h : x ≠ 6 ∨ i % 6 ≠ 5 ∨ n ≤ i / 6) : wipU n c p x i = c x i := by
  unfold wipU
  rw [if_neg (fun h2 => by omega)]
theorem wipU_0 {c : SC} {p : Nat} : wipU 0 c p = c := by
  funext x i
  exact wipU_n (by omega)
theorem wipU_s {n : Nat} {c : SC} {p : Nat} (h : WipS c p n) : wipU (n + 1) c p = updC (wipU n c p) 6 (6 * n + 5) (c 5 0) := by
  funext x i
  by_cases hx : x = 6 ∧ i = 6 * n + 5
  · rw [hx.1, hx.2, updC_sm]
    unfold wipU
    rw [if_pos ⟨rfl, by omega, by omega, by rw [show (6 * n + 5) / 6 = n by omega]; exact h⟩]
  · rw [updC_nt hx]
    unfold wipU
    by_cases hq : x = 6 ∧ i % 6 = 5 ∧ i / 6 < n ∧ WipS c p (i / 6)
    · rw [if_pos hq, if_pos ⟨hq.1, hq.2.1, by omega, hq.2.2.2⟩]
    · rw [if_neg hq, if_neg (fun h2 => hq ⟨h2.1, h2.2.1, by omega, h2.2.2.2⟩)]
theorem wipU_k {n : Nat} {c : SC} {p : Nat} (h : ¬ WipS c p n) : wipU (n + 1) c p = wipU n c p := by
  funext x i
  unfold wipU
  by_cases hq : x = 6 ∧ i % 6 = 5 ∧ i / 6 < n ∧ WipS c p (i / 6)
  · rw [if_pos hq, if_pos ⟨hq.1, hq.2.1, by omega, hq.2.2.2⟩]
  · rw [if_neg hq, if_neg (fun h2 => hq ⟨h2.1, h2.2.1, by
      by_cases hi : i / 6 = n
      · rw [hi] at h2
        exact absurd h2.2.2.2 h
      · omega, h2.2.2.2⟩)]
theorem wipS_none {c : SC} {p : Nat} (h : ¬ ∃ i, i < (c 7 0).toNat ∧ WipS c p i) : wipS c p = c := by
  funext x i
  unfold wipS
  rw [if_neg (fun h2 => h ⟨i / 6, h2.2.2⟩)]
theorem SimM.trc {S : STY} {c b : SC} {e i : Nat} {v : Int} (h : SimM S c b e) : SimM S (updC c 6 i v) (updC b 211 (8640 * e + i) v) e := by
  obtain ⟨h0, h1, h2, h3, h4, h5, h7, h9, h6, h8, he⟩ := h
  refine ⟨h0, h1, h2, h3, h4, h5, h7, h9, fun q hq => ?_, h8, he⟩
  rw [updC_if, updC_if, h6 q hq]
  simp only [show (8640 * e + q = 8640 * e + i) = (q = i) from propext ⟨fun h => by omega, fun h => by omega⟩]
theorem WipS_ex {c : SC} {p i : Nat} : (∃ j, j < i + 1 ∧ WipS c p j) ↔ (∃ j, j < i ∧ WipS c p j) ∨ WipS c p i := by
  constructor
  · rintro ⟨j, h1, h2⟩
    by_cases h : j = i
    · exact Or.inr (h ▸ h2)
    · exact Or.inl ⟨j, by omega, h2⟩
  · rintro (⟨j, h1, h2⟩ | h)
    · exact ⟨j, by omega, h2⟩
    · exact ⟨i, by omega, h⟩
theorem m_wipes_l {X : List Int} {d : Nat} {st dr rd : Int} {a s b : C3} (p n : Nat) (c0 : SC) {S : STY} {bk e : Nat} (hWY : WfY S) (hWC : WfC S c0) (hp : p < nW S) (hn : c0 7 0 = (n : Int)) (hn2 : n ≤ 1440) (i : Nat) (v : Int) (z : pm_V) (hY_b : RepY S b bk) (hS_b : SimM S (wipU i c0 p) b e) (hi : i ≤ n) (hv : (v = 1 ∧ ∃ j, j < i ∧ WipS c0 p j) ∨ (v = 0 ∧ ¬ ∃ j, j < i ∧ WipS c0 p j)) : Ev X d 220 4 [Vr 166, Vi (p : Int), Vi v, Vi (i : Int), z] [] (SHv st dr rd, ovl a s b) (fun rr hh => ∃ v : Int, ((v = 1 ∧ ∃ j, j < (c0 7 0).toNat ∧ WipS c0 p j) ∨ (v = 0 ∧ ¬ ∃ j, j < (c0 7 0).toNat ∧ WipS c0 p j)) ∧ PM S st dr rd a b e (some (Vi v)) (wipS c0 p) rr hh) := by
  induction hk : (n - i) using Nat.strongRecOn generalizing i v z b with
  | ind k ih =>
    obtain ⟨hb2_b, h12_b, h168_b, h169_b, h170_b, h171_b, h173_b, h172_b, h174_b, h176_b, h178_b, h175_b, h177_b, h179_b, h180_b, h184_b⟩ := id hY_b
    obtain ⟨c_b, hcb⟩ : ∃ c, c = wipU i c0 p := ⟨_, rfl⟩
    rw [← hcb] at hS_b
    obtain ⟨s0_b, s1_b, s2_b, s3_b, s4_b, s5_b, s7_b, s9_b, s6_b, s8_b, he_b, he2_b⟩ := id hS_b
    obtain ⟨wR, wD, wW, wT, wL, wC, wdoor, wsym, wWI, wTI, wCl, wRu⟩ := id hWY
    obtain ⟨k0, k1, k2, k3, k4, k5, k7, k9⟩ := id hWC
    have h77 : c_b 7 0 = (n : Int) := by rw [hcb, wipU_n (by omega), hn]
    have hn7 : b 204 e = (n : Int) := by rw [s7_b, h77]
    have hn9 : (c_b 7 0).toNat = n := by omega
    refine Ev.steps (k := 5) (pc' := 13) (L' := [Vr 166, Vi (p : Int), Vi v, Vi (i : Int), z]) (S' := [Vi (b 166 64), Vr 204, Vi (i : Int)]) (h' := ((SHv st dr rd), (ovl a s b))) (fun _ => rfl) ?_
    rw [he_b]
    refine Ev.iald (v := (n : Int)) rfl (by decide) rfl (by omega) (by omega) (hn7) ?_
    refine Ev.ite (P := (n : Int) ≤ (i : Int)) (k := 1) (a := 87) (b := 17) (L' := [Vr 166, Vi (p : Int), Vi v, Vi (i : Int), z]) (S' := []) (h' := ((SHv st dr rd), (ovl a s b))) (fun _ => rfl) (fun b14 => ?_) (fun b14 => ?_)
    · refine Ev.steps (k := 1) (pc' := 88) (L' := [Vr 166, Vi (p : Int), Vi v, Vi (i : Int), z]) (S' := [Vi v]) (h' := ((SHv st dr rd), (ovl a s b))) (fun _ => rfl) ?_
      refine Ev.fin (k := 1) (r := (some (Vi v))) (h' := ((SHv st dr rd), (ovl a s b))) (fun _ => Ev_retz rfl (by omega)) ?_
      obtain rfl : i = n := by omega
      have h70 : (c0 7 0).toNat = i := by omega
      refine ⟨v, by rw [h70]; exact hv, rfl, s, b, rfl, ?_, FrD.rf⟩
      have : wipS c0 p = wipU i c0 p := by unfold wipS wipU; rw [h70]
      rw [this, ← hcb]
      exact hS_b
    · refine Ev.steps (k := 4) (pc' := 26) (L' := [Vr 166, Vi (p : Int), Vi v, Vi (i : Int), z]) (S' := [Vi (b 166 64), Vi 1440, Vi 6]) (h' := ((SHv st dr rd), (ovl a s b))) (fun _ => rfl) ?_
      rw [he_b]
      refine Ev.steps (k := 1) (pc' := 27) (L' := [Vr 166, Vi (p : Int), Vi v, Vi (i : Int), z]) (S' := [Vi (w32 (1440 * (e : Int))), Vi 6]) (h' := ((SHv st dr rd), (ovl a s b))) (fun _ => rfl) ?_
      rw [show (w32 (1440 * (e : Int))) = (1440 * (e : Int)) from w32_id (by unfold R32; omega)]
      refine Ev.steps (k := 2) (pc' := 29) (L' := [Vr 166, Vi (p : Int), Vi v, Vi (i : Int), z]) (S' := [Vi (w32 ((1440 * (e : Int)) + (i : Int))), Vi 6]) (h' := ((SHv st dr rd), (ovl a s b))) (fun _ => rfl) ?_
      rw [show (w32 ((1440 * (e : Int)) + (i : Int))) = ((1440 * (e : Int)) + (i : Int)) from w32_id (by unfold R32; omega)]
      refine Ev.steps (k := 1) (pc' := 30) (L' := [Vr 166, Vi (p : Int), Vi v, Vi (i : Int), z]) (S' := [Vi (w32 (6 * ((1440 * (e : Int)) + (i : Int))))]) (h' := ((SHv st dr rd), (ovl a s b))) (fun _ => rfl) ?_
      rw [show (w32 (6 * ((1440 * (e : Int)) + (i : Int)))) = (6 * ((1440 * (e : Int)) + (i : Int))) from w32_id (by unfold R32; omega)]
      refine Ev.steps (k := 6) (pc' := 40) (L' := [Vr 166, Vi (p : Int), Vi v, Vi (i : Int), Vi (6 * ((1440 * (e : Int)) + (i : Int)))]) (S' := [Vi (w32 ((6 * ((1440 * (e : Int)) + (i : Int))) + 4)), Vr 211]) (h' := ((SHv st dr rd), (ovl a s b))) (fun _ => rfl) ?_
      rw [show (w32 ((6 * ((1440 * (e : Int)) + (i : Int))) + 4)) = ((6 * ((1440 * (e : Int)) + (i : Int))) + 4) from w32_id (by unfold R32; omega)]
      refine Ev.iald (v := (c0 6 (6 * i + 4))) rfl (by decide) rfl (by omega) (by omega) ((show (b 211 (((6 * (1440 * e + i)) + 4))) = _ by rw [show 6 * (1440 * e + i) + 4 = 8640 * e + (6 * i + 4) by omega, s6_b _ (by omega), hcb, wipU_n (by omega)])) ?_
      refine Ev.steps (k := 3) (pc' := 46) (L' := [Vr 166, Vi (p : Int), Vi v, Vi (i : Int), Vi (6 * ((1440 * (e : Int)) + (i : Int)))]) (S' := [Vi (p : Int), Vr 213, Vi (c0 6 (6 * i + 4))]) (h' := ((SHv st dr rd), (ovl a s b))) (fun _ => rfl) ?_
      refine Ev.iald (v := (c0 0 p)) rfl (by decide) rfl (by omega) (by omega) ((show (b 213 p) = _ by rw [s0_b p (by omega), hcb, wipU_n (by omega)])) ?_
      refine Ev.ite (P := (c0 6 (6 * i + 4)) ≠ (c0 0 p)) (k := 1) (a := 81) (b := 50) (L' := [Vr 166, Vi (p : Int), Vi v, Vi (i : Int), Vi (6 * ((1440 * (e : Int)) + (i : Int)))]) (S' := []) (h' := ((SHv st dr rd), (ovl a s b))) (fun _ => rfl) (fun b47 => ?_) (fun b47 => ?_)
      · refine Ev.steps (k := 1) (pc' := 84) (L' := [Vr 166, Vi (p : Int), Vi v, Vi (w32 ((i : Int) + 1)), Vi (6 * ((1440 * (e : Int)) + (i : Int)))]) (S' := []) (h' := ((SHv st dr rd), (ovl a s b))) (fun _ => rfl) ?_
        rw [show (w32 ((i : Int) + 1)) = ((i : Int) + 1) from w32_id (by unfold R32; omega)]
        refine Ev.steps (k := 1) (pc' := 4) (L' := [Vr 166, Vi (p : Int), Vi v, Vi ((i : Int) + 1), Vi (6 * ((1440 * (e : Int)) + (i : Int)))]) (S' := []) (h' := ((SHv st dr rd), (ovl a s b))) (fun _ => rfl) ?_
        rw [hcb] at hS_b
        by_cases hc : WipS c0 p i
        · first
            | (exfalso; obtain ⟨g1, g2⟩ := hc; omega)
            | (have hS2 : SimM S (wipU (i + 1) c0 p) b e := by
                 rw [wipU_s hc, show 6 * (1440 * e + i) + 5 = 8640 * e + (6 * i + 5) by omega]
                 exact hS_b.trc
               have hF : FrD e b b := FrD.rf.up (by unfold InD; omega)
               exact Ev.mono (ih _ (by omega) (b := b) (i + 1) 1 _ (hY_b.fr hF.fe) hS2 (by omega) (Or.inl ⟨rfl, i, by omega, hc⟩) rfl) (fun rr hh ⟨v, g1, g2, s', b', g3, g4, g5⟩ => ⟨v, g1, g2, s', b', g3, g4, hF.tr g5⟩))
        · first
            | (exfalso; exact hc ⟨by omega, by omega⟩)
            | (refine ih _ (by omega) (b := b) (i + 1) v _ hY_b (by rw [wipU_k hc]; exact hS_b) (by omega) ?_ rfl
               rw [WipS_ex]
               rcases hv with hv | hv
               · exact Or.inl ⟨hv.1, Or.inl hv.2⟩
               · exact Or.inr ⟨hv.1, fun h => h.elim hv.2 hc⟩)
      · refine Ev.steps (k := 5) (pc' := 58) (L' := [Vr 166, Vi (p : Int), Vi v, Vi (i : Int), Vi (6 * ((1440 * (e : Int)) + (i : Int)))]) (S' := [Vi (w32 ((6 * ((1440 * (e : Int)) + (i : Int))) + 5)), Vr 211]) (h' := ((SHv st dr rd), (ovl a s b))) (fun _ => rfl) ?_
        rw [show (w32 ((6 * ((1440 * (e : Int)) + (i : Int))) + 5)) = ((6 * ((1440 * (e : Int)) + (i : Int))) + 5) from w32_id (by unfold R32; omega)]
        refine Ev.iald (v := (c0 6 (6 * i + 5))) rfl (by decide) rfl (by omega) (by omega) ((show (b 211 (((6 * (1440 * e + i)) + 5))) = _ by rw [show 6 * (1440 * e + i) + 5 = 8640 * e + (6 * i + 5) by omega, s6_b _ (by omega), hcb, wipU_n (by omega)])) ?_
        refine Ev.ite (P := (c0 6 (6 * i + 5)) = (-1)) (k := 2) (a := 66) (b := 63) (L' := [Vr 166, Vi (p : Int), Vi v, Vi (i : Int), Vi (6 * ((1440 * (e : Int)) + (i : Int)))]) (S' := []) (h' := ((SHv st dr rd), (ovl a s b))) (fun _ => rfl) (fun b60 => ?_) (fun b60 => ?_)
        · refine Ev.steps (k := 5) (pc' := 74) (L' := [Vr 166, Vi (p : Int), Vi v, Vi (i : Int), Vi (6 * ((1440 * (e : Int)) + (i : Int)))]) (S' := [Vi (w32 ((6 * ((1440 * (e : Int)) + (i : Int))) + 5)), Vr 211]) (h' := ((SHv st dr rd), (ovl a s b))) (fun _ => rfl) ?_
          rw [show (w32 ((6 * ((1440 * (e : Int)) + (i : Int))) + 5)) = ((6 * ((1440 * (e : Int)) + (i : Int))) + 5) from w32_id (by unfold R32; omega)]
          refine Ev.steps (k := 2) (pc' := 78) (L' := [Vr 166, Vi (p : Int), Vi v, Vi (i : Int), Vi (6 * ((1440 * (e : Int)) + (i : Int)))]) (S' := [Vi (b 166 65), Vi ((6 * ((1440 * (e : Int)) + (i : Int))) + 5), Vr 211]) (h' := ((SHv st dr rd), (ovl a s b))) (fun _ => rfl) ?_
          rw [(show b 166 65 = c0 5 0 by rw [s5_b, hcb, wipU_n (by omega)])]
          refine Ev.iast (c' := (ovl a s (updC b 211 (((6 * (1440 * e + i)) + 5)) (c0 5 0)))) rfl (by decide) rfl (by omega) (by omega) (ovl_wm (by decide)) ?_
          refine Ev.steps (k := 3) (pc' := 84) (L' := [Vr 166, Vi (p : Int), Vi 1, Vi (w32 ((i : Int) + 1)), Vi (6 * ((1440 * (e : Int)) + (i : Int)))]) (S' := []) (h' := ((SHv st dr rd), (ovl a s (updC b 211 (((6 * (1440 * e + i)) + 5)) (c0 5 0))))) (fun _ => rfl) ?_
          rw [show (w32 ((i : Int) + 1)) = ((i : Int) + 1) from w32_id (by unfold R32; omega)]
          refine Ev.steps (k := 1) (pc' := 4) (L' := [Vr 166, Vi (p : Int), Vi 1, Vi ((i : Int) + 1), Vi (6 * ((1440 * (e : Int)) + (i : Int)))]) (S' := []) (h' := ((SHv st dr rd), (ovl a s (updC b 211 (((6 * (1440 * e + i)) + 5)) (c0 5 0))))) (fun _ => rfl) ?_
          rw [hcb] at hS_b
          by_cases hc : WipS c0 p i
          · first
              | (exfalso; obtain ⟨g1, g2⟩ := hc; omega)
              | (have hS2 : SimM S (wipU (i + 1) c0 p) (updC b 211 (((6 * (1440 * e + i)) + 5)) (c0 5 0)) e := by
                   rw [wipU_s hc, show 6 * (1440 * e + i) + 5 = 8640 * e + (6 * i + 5) by omega]
                   exact hS_b.trc
                 have hF : FrD e b (updC b 211 (((6 * (1440 * e + i)) + 5)) (c0 5 0)) := FrD.rf.up (by unfold InD; omega)
                 exact Ev.mono (ih _ (by omega) (b := (updC b 211 (((6 * (1440 * e + i)) + 5)) (c0 5 0))) (i + 1) 1 _ (hY_b.fr hF.fe) hS2 (by omega) (Or.inl ⟨rfl, i, by omega, hc⟩) rfl) (fun rr hh ⟨v, g1, g2, s', b', g3, g4, g5⟩ => ⟨v, g1, g2, s', b', g3, g4, hF.tr g5⟩))
          · first
              | (exfalso; exact hc ⟨by omega, by omega⟩)
              | (refine ih _ (by omega) (b := b) (i + 1) v _ hY_b (by rw [wipU_k hc]; exact hS_b) (by omega) ?_ rfl
                 rw [WipS_ex]
                 rcases hv with hv | hv
                 · exact Or.inl ⟨hv.1, Or.inl hv.2⟩
                 · exact Or.inr ⟨hv.1, fun h => h.elim hv.2 hc⟩)
        · refine Ev.steps (k := 2) (pc' := 84) (L' := [Vr 166, Vi (p : Int), Vi v, Vi (w32 ((i : Int) + 1)), Vi (6 * ((1440 * (e : Int)) + (i : Int)))]) (S' := []) (h' := ((SHv st dr rd), (ovl a s b))) (fun _ => rfl) ?_
          rw [show (w32 ((i : Int) + 1)) = ((i : Int) + 1) from w32_id (by unfold R32; omega)]
          refine Ev.steps (k := 1) (pc' := 4) (L' := [Vr 166, Vi (p : Int), Vi v, Vi ((i : Int) + 1), Vi (6 * ((1440 * (e : Int)) + (i : Int)))]) (S' := []) (h' := ((SHv st dr rd), (ovl a s b))) (fun _ => rfl) ?_
          rw [hcb] at hS_b
          by_cases hc : WipS c0 p i
          · first
              | (exfalso; obtain ⟨g1, g2⟩ := hc; omega)
              | (have hS2 : SimM S (wipU (i + 1) c0 p) b e := by
                   rw [wipU_s hc, show 6 * (1440 * e + i) + 5 = 8640 * e + (6 * i + 5) by omega]
                   exact hS_b.trc
                 have hF : FrD e b b := FrD.rf.up (by unfold InD; omega)
                 exact Ev.mono (ih _ (by omega) (b := b) (i + 1) 1 _ (hY_b.fr hF.fe) hS2 (by omega) (Or.inl ⟨rfl, i, by omega, hc⟩) rfl) (fun rr hh ⟨v, g1, g2, s', b', g3, g4, g5⟩ => ⟨v, g1, g2, s', b', g3, g4, hF.tr g5⟩))
          · first
              | (exfalso; exact hc ⟨by omega, by omega⟩)
              | (refine ih _ (by omega) (b := b) (i + 1) v _ hY_b (by rw [wipU_k hc]; exact hS_b) (by omega) ?_ rfl
                 rw [WipS_ex]
                 rcases hv with hv | hv
                 · exact Or.inl ⟨hv.1, Or.inl hv.2⟩
                 · exact Or.inr ⟨hv.1, fun h => h.elim hv.2 hc⟩)
theorem m_wipes {X : List Int} {d : Nat} {st dr rd : Int} {a s b : C3} (p : Nat) {S : STY} {bk e : Nat} {c_b : SC} (hY_b : RepY S b bk) (hWY : WfY S) (hS_b : SimM S c_b b e) (hWC : WfC S c_b) (hp : p < nW S) (hcn : c_b 7 0 ≤ 1440) : Ev X d 220 0 [Vr 166, Vi (p : Int), Vx, Vx, Vx] [] (SHv st dr rd, ovl a s b) (fun rr hh => ∃ v : Int, ((v = 1 ∧ ∃ j, j < (c_b 7 0).toNat ∧ WipS c_b p j) ∨ (v = 0 ∧ ¬ ∃ j, j < (c_b 7 0).toNat ∧ WipS c_b p j)) ∧ PM S st dr rd a b e (some (Vi v)) (wipS c_b p) rr hh) := by
  obtain ⟨k0, k1, k2, k3, k4, k5, k7, k9⟩ := id hWC
  obtain ⟨n, hn⟩ : ∃ n : Nat, c_b 7 0 = n := ⟨(c_b 7 0).toNat, by omega⟩
  refine Ev.steps (k := 4) (pc' := 4) (L' := [Vr 166, Vi (p : Int), Vi 0, Vi 0, Vx]) (S' := []) (h' := ((SHv st dr rd), (ovl a s b))) (fun _ => rfl) ?_
  exact m_wipes_l p n c_b hWY hWC hp hn (by omega) 0 0 _ hY_b (by rw [wipU_0]; exact hS_b) (by omega) (Or.inr ⟨rfl, fun ⟨j, h, _⟩ => absurd h (by omega)⟩)
