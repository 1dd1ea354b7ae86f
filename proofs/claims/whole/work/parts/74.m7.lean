/-! THE REFERENCE: a kill, a rule, a turn -/
theorem PM.fr {S : STY} {st dr rd : Int} {a b b1 : SC} {e : Nat} {R : Option pm_V} {c' : SC} {rr : Option pm_V} {hh : pm_H} (h : PM S st dr rd a b1 e R c' rr hh) (hf : FrD e b b1) : PM S st dr rd a b e R c' rr hh := by
  obtain ⟨g1, s', b', g2, g3, g4⟩ := h
  exact ⟨g1, s', b', g2, g3, hf.tr g4⟩
theorem m_drop {X : List Int} {d : Nat} {st dr rd : Int} {a s b : C3} (p o what rl : Nat) (c0 : SC) {S : STY} {bk e : Nat} (hWY : WfY S) (ho : o < nW S) {Q : Option pm_V → pm_H → Prop} {b0 : C3} (K : ∀ (b2 : C3) (z : pm_V), SimM S (dropS (nT S) c0 o) b2 e → FrD e b0 b2 → Ev X (d + 1) 221 105 [Vr 166, Vi (p : Int), Vi (o : Int), Vi (what : Int), Vi (rl : Int), z] [] (SHv st dr rd, ovl a s b2) Q) (t : Nat) (hY_b : RepY S b bk) (hS_b : SimM S (dropS t c0 o) b e) (hF : FrD e b0 b) (ht : t ≤ nT S) : Ev X (d + 1) 221 58 [Vr 166, Vi (p : Int), Vi (o : Int), Vi (what : Int), Vi (rl : Int), Vi (t : Int)] [] (SHv st dr rd, ovl a s b) (Q) := by
  induction hk : (nT S - t) using Nat.strongRecOn generalizing t b with
  | ind k ih =>
    obtain ⟨hb2_b, h12_b, h168_b, h169_b, h170_b, h171_b, h173_b, h172_b, h174_b, h176_b, h178_b, h175_b, h177_b, h179_b, h180_b, h184_b⟩ := id hY_b
    obtain ⟨c_b, hcb⟩ : ∃ c, c = dropS t c0 o := ⟨_, rfl⟩
    rw [← hcb] at hS_b
    obtain ⟨s0_b, s1_b, s2_b, s3_b, s4_b, s5_b, s7_b, s9_b, s6_b, s8_b, he_b, he2_b⟩ := id hS_b
    obtain ⟨wR, wD, wW, wT, wL, wC, wdoor, wsym, wWI, wTI, wCl, wRu⟩ := id hWY
    refine Ev.steps (k := 5) (pc' := 68) (L' := [Vr 166, Vi (p : Int), Vi (o : Int), Vi (what : Int), Vi (rl : Int), Vi (t : Int)]) (S' := [Vi (b 166 12), Vr 171, Vi (t : Int)]) (h' := ((SHv st dr rd), (ovl a s b))) (fun _ => rfl) ?_
    rw [h12_b]
    refine Ev.iald (v := ((nT S : Nat) : Int)) rfl (by decide) rfl (by omega) (by omega) (h171_b) ?_
    refine Ev.ite (P := ((nT S : Nat) : Int) ≤ (t : Int)) (k := 1) (a := 105) (b := 72) (L' := [Vr 166, Vi (p : Int), Vi (o : Int), Vi (what : Int), Vi (rl : Int), Vi (t : Int)]) (S' := []) (h' := ((SHv st dr rd), (ovl a s b))) (fun _ => rfl) (fun b69 => ?_) (fun b69 => ?_)
    · obtain rfl : t = nT S := by omega
      exact K b _ (by rw [← hcb]; exact hS_b) hF
    · refine Ev.steps (k := 3) (pc' := 78) (L' := [Vr 166, Vi (p : Int), Vi (o : Int), Vi (what : Int), Vi (rl : Int), Vi (t : Int)]) (S' := [Vi (t : Int), Vr 215]) (h' := ((SHv st dr rd), (ovl a s b))) (fun _ => rfl) ?_
      refine Ev.iald (v := (c0 2 t)) rfl (by decide) rfl (by omega) (by omega) ((show (b 215 t) = _ by rw [s2_b t (by omega), hcb, dropS_2])) ?_
      refine Ev.steps (k := 3) (pc' := 83) (L' := [Vr 166, Vi (p : Int), Vi (o : Int), Vi (what : Int), Vi (rl : Int), Vi (t : Int)]) (S' := [Vi (w32 (100 + (o : Int))), Vi (c0 2 t)]) (h' := ((SHv st dr rd), (ovl a s b))) (fun _ => rfl) ?_
      rw [show (w32 (100 + (o : Int))) = (100 + (o : Int)) from w32_id (by unfold R32; omega)]
      refine Ev.ite (P := (c0 2 t) ≠ (100 + (o : Int))) (k := 1) (a := 99) (b := 86) (L' := [Vr 166, Vi (p : Int), Vi (o : Int), Vi (what : Int), Vi (rl : Int), Vi (t : Int)]) (S' := []) (h' := ((SHv st dr rd), (ovl a s b))) (fun _ => rfl) (fun b83 => ?_) (fun b83 => ?_)
      · refine Ev.steps (k := 1) (pc' := 102) (L' := [Vr 166, Vi (p : Int), Vi (o : Int), Vi (what : Int), Vi (rl : Int), Vi (w32 ((t : Int) + 1))]) (S' := []) (h' := ((SHv st dr rd), (ovl a s b))) (fun _ => rfl) ?_
        rw [show (w32 ((t : Int) + 1)) = ((t : Int) + 1) from w32_id (by unfold R32; omega)]
        refine Ev.steps (k := 1) (pc' := 58) (L' := [Vr 166, Vi (p : Int), Vi (o : Int), Vi (what : Int), Vi (rl : Int), Vi ((t : Int) + 1)]) (S' := []) (h' := ((SHv st dr rd), (ovl a s b))) (fun _ => rfl) ?_
        rw [hcb] at hS_b
        first
          | exact ih _ (by omega) (b := b) (t + 1) hY_b (by rw [dropS_s, if_neg b83]; exact hS_b) hF (by omega) rfl
          | (have hF2 : FrD e b b := FrD.rf.up (by unfold InD; omega)
             exact ih _ (by omega) (b := b) (t + 1) (hY_b.fr hF2.fe) (by rw [dropS_s, if_pos (by omega)]; exact hS_b.thing) (hF.tr hF2) (by omega) rfl)
      · refine Ev.steps (k := 6) (pc' := 97) (L' := [Vr 166, Vi (p : Int), Vi (o : Int), Vi (what : Int), Vi (rl : Int), Vi (t : Int)]) (S' := [Vi (o : Int), Vr 213, Vi (t : Int), Vr 215]) (h' := ((SHv st dr rd), (ovl a s b))) (fun _ => rfl) ?_
        refine Ev.iald (v := (c0 0 o)) rfl (by decide) rfl (by omega) (by omega) ((show (b 213 o) = _ by rw [s0_b o (by omega), hcb, dropS_n (by decide)])) ?_
        refine Ev.iast (c' := (ovl a s (updC b 215 t (c0 0 o)))) rfl (by decide) rfl (by omega) (by omega) (ovl_wm (by decide)) ?_
        refine Ev.steps (k := 1) (pc' := 102) (L' := [Vr 166, Vi (p : Int), Vi (o : Int), Vi (what : Int), Vi (rl : Int), Vi (w32 ((t : Int) + 1))]) (S' := []) (h' := ((SHv st dr rd), (ovl a s (updC b 215 t (c0 0 o))))) (fun _ => rfl) ?_
        rw [show (w32 ((t : Int) + 1)) = ((t : Int) + 1) from w32_id (by unfold R32; omega)]
        refine Ev.steps (k := 1) (pc' := 58) (L' := [Vr 166, Vi (p : Int), Vi (o : Int), Vi (what : Int), Vi (rl : Int), Vi ((t : Int) + 1)]) (S' := []) (h' := ((SHv st dr rd), (ovl a s (updC b 215 t (c0 0 o))))) (fun _ => rfl) ?_
        rw [hcb] at hS_b
        first
          | exact ih _ (by omega) (b := b) (t + 1) hY_b (by rw [dropS_s, if_neg b83]; exact hS_b) hF (by omega) rfl
          | (have hF2 : FrD e b (updC b 215 t (c0 0 o)) := FrD.rf.up (by unfold InD; omega)
             exact ih _ (by omega) (b := (updC b 215 t (c0 0 o))) (t + 1) (hY_b.fr hF2.fe) (by rw [dropS_s, if_pos (by omega)]; exact hS_b.thing) (hF.tr hF2) (by omega) rfl)
theorem WfC.kil {S : STY} {c : SC} {p o what r : Nat} (h : WfC S c) (hp : p < nW S) (ho : o < nW S) (h9 : c 9 0 < 8) : WfC S (deedS (dropS (nT S) (updC c 1 o 0) o) p o what r) := by
  obtain ⟨k0, k1, k2, k3, k4, k5, k7, k9⟩ := h
  refine ⟨fun q hq => ?_, fun q => ?_, fun t ht => ?_, fun q => ?_, fun i => ?_, ?_, ?_, ?_⟩
  · show 0 ≤ dropS (nT S) (updC c 1 o 0) o 0 q ∧ dropS (nT S) (updC c 1 o 0) o 0 q < nR S
    rw [dropS_n (by decide)]
    exact k0 q hq
  · show dropS (nT S) (updC c 1 o 0) o 1 q = 0 ∨ dropS (nT S) (updC c 1 o 0) o 1 q = 1
    rw [dropS_n (by decide), updC_if]
    split
    · exact Or.inl rfl
    · exact k1 q
  · show (0 ≤ dropS (nT S) (updC c 1 o 0) o 2 t ∧ dropS (nT S) (updC c 1 o 0) o 2 t < nR S) ∨ (100 ≤ dropS (nT S) (updC c 1 o 0) o 2 t ∧ dropS (nT S) (updC c 1 o 0) o 2 t < 100 + nW S)
    unfold dropS
    split
    · exact Or.inl (k0 o ho)
    · exact k2 t ht
  · show -1000000 ≤ dropS (nT S) (updC c 1 o 0) o 3 q ∧ dropS (nT S) (updC c 1 o 0) o 3 q ≤ 1000000
    rw [dropS_n (by decide)]
    exact k3 q
  · show -1 ≤ dropS (nT S) (updC c 1 o 0) o 4 i ∧ dropS (nT S) (updC c 1 o 0) o 4 i < 180
    rw [dropS_n (by decide)]
    exact k4 i
  · show 0 ≤ dropS (nT S) (updC c 1 o 0) o 5 0 ∧ dropS (nT S) (updC c 1 o 0) o 5 0 < 180
    rw [dropS_n (by decide)]
    exact k5
  · show 0 ≤ dropS (nT S) (updC c 1 o 0) o 7 0 ∧ dropS (nT S) (updC c 1 o 0) o 7 0 ≤ 8 * dropS (nT S) (updC c 1 o 0) o 5 0 + 8
    rw [dropS_n (by decide), dropS_n (by decide)]
    exact k7
  · show 0 ≤ updC _ 9 0 (dropS (nT S) (updC c 1 o 0) o 9 0 + 1) 9 0 ∧ updC _ 9 0 (dropS (nT S) (updC c 1 o 0) o 9 0 + 1) 9 0 ≤ 8
    rw [updC_sm, dropS_n (by decide)]
    show 0 ≤ c 9 0 + 1 ∧ c 9 0 + 1 ≤ 8
    omega
theorem m_kills {X : List Int} {d : Nat} {st dr rd : Int} {a s b : C3} (p o what rl : Nat) {S : STY} {bk e : Nat} {c_b : SC} (hY_b : RepY S b bk) (hWY : WfY S) (hS_b : SimM S c_b b e) (hWC : WfC S c_b) (hp : p < nW S) (ho : o < nW S) (hw : what < nT S) (hrl : rl < 30) (hcn : c_b 7 0 < 1440) (hk8 : c_b 9 0 < 8) : Ev X (d + 1) 221 0 [Vr 166, Vi (p : Int), Vi (o : Int), Vi (what : Int), Vi (rl : Int), Vx] [] (SHv st dr rd, ovl a s b) (fun rr hh => (KilS (nW S) c_b p o what ∧ PM S st dr rd a b e (some (Vi 1)) (leavS (deedS (dropS (nT S) (updC c_b 1 o 0) o) p o what rl) 3 (what : Int) p) rr hh) ∨ (¬ KilS (nW S) c_b p o what ∧ PM S st dr rd a b e (some (Vi 0)) c_b rr hh)) := by
  obtain ⟨hb2_b, h12_b, h168_b, h169_b, h170_b, h171_b, h173_b, h172_b, h174_b, h176_b, h178_b, h175_b, h177_b, h179_b, h180_b, h184_b⟩ := id hY_b
  obtain ⟨s0_b, s1_b, s2_b, s3_b, s4_b, s5_b, s7_b, s9_b, s6_b, s8_b, he_b, he2_b⟩ := id hS_b
  obtain ⟨wR, wD, wW, wT, wL, wC, wdoor, wsym, wWI, wTI, wCl, wRu⟩ := id hWY
  obtain ⟨k0, k1, k2, k3, k4, k5, k7, k9⟩ := id hWC
  refine Ev.steps (k := 3) (pc' := 5) (L' := [Vr 166, Vi (p : Int), Vi (o : Int), Vi (what : Int), Vi (rl : Int), Vx]) (S' := [Vi (o : Int), Vr 214]) (h' := ((SHv st dr rd), (ovl a s b))) (fun _ => rfl) ?_
  refine Ev.zald (v := (c_b 1 o)) rfl (by decide) rfl (by omega) (by omega) (s1_b o (by omega)) ?_
  refine Ev.ite (P := (c_b 1 o) = 0) (k := 1) (a := 46) (b := 9) (L' := [Vr 166, Vi (p : Int), Vi (o : Int), Vi (what : Int), Vi (rl : Int), Vx]) (S' := []) (h' := ((SHv st dr rd), (ovl a s b))) (fun _ => rfl) (fun b6 => ?_) (fun b6 => ?_)
  · refine Ev.fin (k := 2) (r := (some (Vi 0))) (h' := ((SHv st dr rd), (ovl a s b))) (fun _ => rfl) ?_
    refine Or.inr ⟨fun hK => ?_, rfl, s, b, rfl, hS_b, FrD.rf⟩
    obtain ⟨g1, g2, g3, g4⟩ := hK
    first | omega | exact absurd (hn.mpr g3) (by omega)
  · refine Ev.steps (k := 3) (pc' := 14) (L' := [Vr 166, Vi (p : Int), Vi (o : Int), Vi (what : Int), Vi (rl : Int), Vx]) (S' := [Vi (o : Int), Vr 213]) (h' := ((SHv st dr rd), (ovl a s b))) (fun _ => rfl) ?_
    refine Ev.iald (v := (c_b 0 o)) rfl (by decide) rfl (by omega) (by omega) (s0_b o (by omega)) ?_
    refine Ev.steps (k := 3) (pc' := 20) (L' := [Vr 166, Vi (p : Int), Vi (o : Int), Vi (what : Int), Vi (rl : Int), Vx]) (S' := [Vi (p : Int), Vr 213, Vi (c_b 0 o)]) (h' := ((SHv st dr rd), (ovl a s b))) (fun _ => rfl) ?_
    refine Ev.iald (v := (c_b 0 p)) rfl (by decide) rfl (by omega) (by omega) (s0_b p (by omega)) ?_
    refine Ev.ite (P := (c_b 0 o) ≠ (c_b 0 p)) (k := 1) (a := 46) (b := 24) (L' := [Vr 166, Vi (p : Int), Vi (o : Int), Vi (what : Int), Vi (rl : Int), Vx]) (S' := []) (h' := ((SHv st dr rd), (ovl a s b))) (fun _ => rfl) (fun b21 => ?_) (fun b21 => ?_)
    · refine Ev.fin (k := 2) (r := (some (Vi 0))) (h' := ((SHv st dr rd), (ovl a s b))) (fun _ => rfl) ?_
      refine Or.inr ⟨fun hK => ?_, rfl, s, b, rfl, hS_b, FrD.rf⟩
      obtain ⟨g1, g2, g3, g4⟩ := hK
      first | omega | exact absurd (hn.mpr g3) (by omega)
    · refine Ev.call (k := 3) (pc1 := 27) (L1 := [Vr 166, Vi (p : Int), Vi (o : Int), Vi (what : Int), Vi (rl : Int), Vx]) (S1 := [Vi (o : Int), Vi (p : Int), Vr 166]) (h1 := ((SHv st dr rd), (ovl a s b))) (m' := 212) (as := [Vr 166, Vi (p : Int), Vi (o : Int)]) (S' := []) (L0 := [Vr 166, Vi (p : Int), Vi (o : Int), Vx, Vx]) (fun _ => rfl) rfl rfl rfl rfl rfl rfl (m_others p (o : Int) hY_b hWY hS_b hWC hp) (fun r h' hq => ?_)
      obtain ⟨n, rfl, rfl, hn0, hn⟩ := hq
      show Ev X _ _ 30 [Vr 166, Vi (p : Int), Vi (o : Int), Vi (what : Int), Vi (rl : Int), Vx] [Vi n] ((SHv st dr rd), (ovl a s b)) _
      refine Ev.ite (P := 0 < n) (k := 1) (a := 46) (b := 33) (L' := [Vr 166, Vi (p : Int), Vi (o : Int), Vi (what : Int), Vi (rl : Int), Vx]) (S' := []) (h' := ((SHv st dr rd), (ovl a s b))) (fun _ => rfl) (fun b30 => ?_) (fun b30 => ?_)
      · refine Ev.fin (k := 2) (r := (some (Vi 0))) (h' := ((SHv st dr rd), (ovl a s b))) (fun _ => rfl) ?_
        refine Or.inr ⟨fun hK => ?_, rfl, s, b, rfl, hS_b, FrD.rf⟩
        obtain ⟨g1, g2, g3, g4⟩ := hK
        first | omega | exact absurd (hn.mpr g3) (by omega)
      · refine Ev.steps (k := 3) (pc' := 38) (L' := [Vr 166, Vi (p : Int), Vi (o : Int), Vi (what : Int), Vi (rl : Int), Vx]) (S' := [Vi (what : Int), Vr 215]) (h' := ((SHv st dr rd), (ovl a s b))) (fun _ => rfl) ?_
        refine Ev.iald (v := (c_b 2 what)) rfl (by decide) rfl (by omega) (by omega) (s2_b what (by omega)) ?_
        refine Ev.steps (k := 3) (pc' := 43) (L' := [Vr 166, Vi (p : Int), Vi (o : Int), Vi (what : Int), Vi (rl : Int), Vx]) (S' := [Vi (w32 (100 + (p : Int))), Vi (c_b 2 what)]) (h' := ((SHv st dr rd), (ovl a s b))) (fun _ => rfl) ?_
        rw [show (w32 (100 + (p : Int))) = (100 + (p : Int)) from w32_id (by unfold R32; omega)]
        refine Ev.ite (P := (c_b 2 what) = (100 + (p : Int))) (k := 1) (a := 48) (b := 46) (L' := [Vr 166, Vi (p : Int), Vi (o : Int), Vi (what : Int), Vi (rl : Int), Vx]) (S' := []) (h' := ((SHv st dr rd), (ovl a s b))) (fun _ => rfl) (fun b43 => ?_) (fun b43 => ?_)
        · refine Ev.steps (k := 4) (pc' := 54) (L' := [Vr 166, Vi (p : Int), Vi (o : Int), Vi (what : Int), Vi (rl : Int), Vx]) (S' := [Vi 0, Vi (o : Int), Vr 214]) (h' := ((SHv st dr rd), (ovl a s b))) (fun _ => rfl) ?_
          refine Ev.zast (c' := (ovl a s (updC b 214 o 0))) rfl (by decide) rfl (by omega) (by omega) (by omega) (ovl_wm (by decide)) ?_
          refine Ev.steps (k := 2) (pc' := 58) (L' := [Vr 166, Vi (p : Int), Vi (o : Int), Vi (what : Int), Vi (rl : Int), Vi 0]) (S' := []) (h' := ((SHv st dr rd), (ovl a s (updC b 214 o 0)))) (fun _ => rfl) ?_
          have hK : KilS (nW S) c_b p o what := ⟨b6, by omega, hn.mp (by omega), b43⟩
          clear hn hn0 b30
          have hF1 : FrD e b (updC b 214 o 0) := FrD.rf.up (by unfold InD; omega)
          refine m_drop p o what rl (updC c_b 1 o 0) hWY ho (b0 := b) (fun b2 z hS_b2 hF2 => ?_) 0 (hY_b.fr hF1.fe) (by rw [dropS_0]; exact hS_b.lives) hF1 (by omega)
          have hY_b2 := hY_b.fr hF2.fe
          obtain ⟨hb2_b2, h12_b2, h168_b2, h169_b2, h170_b2, h171_b2, h173_b2, h172_b2, h174_b2, h176_b2, h178_b2, h175_b2, h177_b2, h179_b2, h180_b2, h184_b2⟩ := id hY_b2
          obtain ⟨s0_b2, s1_b2, s2_b2, s3_b2, s4_b2, s5_b2, s7_b2, s9_b2, s6_b2, s8_b2, he_b2, he2_b2⟩ := id hS_b2
          obtain ⟨n, hn⟩ : ∃ n : Nat, c_b 9 0 = n := ⟨(c_b 9 0).toNat, by omega⟩
          have hn9 : b2 203 e = (n : Int) := by rw [s9_b2, dropS_n (by decide)]; exact hn
          refine Ev.steps (k := 4) (pc' := 113) (L' := [Vr 166, Vi (p : Int), Vi (o : Int), Vi (what : Int), Vi (rl : Int), z]) (S' := [Vi (b2 166 64), Vi 16, Vi 6]) (h' := ((SHv st dr rd), (ovl a s b2))) (fun _ => rfl) ?_
          rw [he_b2]
          refine Ev.steps (k := 1) (pc' := 114) (L' := [Vr 166, Vi (p : Int), Vi (o : Int), Vi (what : Int), Vi (rl : Int), z]) (S' := [Vi (w32 (16 * (e : Int))), Vi 6]) (h' := ((SHv st dr rd), (ovl a s b2))) (fun _ => rfl) ?_
          rw [show (w32 (16 * (e : Int))) = (16 * (e : Int)) from w32_id (by unfold R32; omega)]
          refine Ev.steps (k := 4) (pc' := 122) (L' := [Vr 166, Vi (p : Int), Vi (o : Int), Vi (what : Int), Vi (rl : Int), z]) (S' := [Vi (b2 166 64), Vr 203, Vi (16 * (e : Int)), Vi 6]) (h' := ((SHv st dr rd), (ovl a s b2))) (fun _ => rfl) ?_
          rw [he_b2]
          refine Ev.iald (v := (n : Int)) rfl (by decide) rfl (by omega) (by omega) (hn9) ?_
          refine Ev.steps (k := 1) (pc' := 124) (L' := [Vr 166, Vi (p : Int), Vi (o : Int), Vi (what : Int), Vi (rl : Int), z]) (S' := [Vi (w32 ((16 * (e : Int)) + (n : Int))), Vi 6]) (h' := ((SHv st dr rd), (ovl a s b2))) (fun _ => rfl) ?_
          rw [show (w32 ((16 * (e : Int)) + (n : Int))) = ((16 * (e : Int)) + (n : Int)) from w32_id (by unfold R32; omega)]
          refine Ev.steps (k := 1) (pc' := 125) (L' := [Vr 166, Vi (p : Int), Vi (o : Int), Vi (what : Int), Vi (rl : Int), z]) (S' := [Vi (w32 (6 * ((16 * (e : Int)) + (n : Int))))]) (h' := ((SHv st dr rd), (ovl a s b2))) (fun _ => rfl) ?_
          rw [show (w32 (6 * ((16 * (e : Int)) + (n : Int)))) = (6 * ((16 * (e : Int)) + (n : Int))) from w32_id (by unfold R32; omega)]
          refine Ev.steps (k := 5) (pc' := 134) (L' := [Vr 166, Vi (p : Int), Vi (o : Int), Vi (what : Int), Vi (rl : Int), Vi (6 * ((16 * (e : Int)) + (n : Int)))]) (S' := [Vi (p : Int), Vi (6 * ((16 * (e : Int)) + (n : Int))), Vr 210]) (h' := ((SHv st dr rd), (ovl a s b2))) (fun _ => rfl) ?_
          refine Ev.iast (c' := (ovl a s (updC b2 210 ((6 * (16 * e + n))) (p : Int)))) rfl (by decide) rfl (by omega) (by omega) (ovl_wm (by decide)) ?_
          refine Ev.steps (k := 5) (pc' := 143) (L' := [Vr 166, Vi (p : Int), Vi (o : Int), Vi (what : Int), Vi (rl : Int), Vi (6 * ((16 * (e : Int)) + (n : Int)))]) (S' := [Vi (w32 ((6 * ((16 * (e : Int)) + (n : Int))) + 1)), Vr 210]) (h' := ((SHv st dr rd), (ovl a s (updC b2 210 ((6 * (16 * e + n))) (p : Int))))) (fun _ => rfl) ?_
          rw [show (w32 ((6 * ((16 * (e : Int)) + (n : Int))) + 1)) = ((6 * ((16 * (e : Int)) + (n : Int))) + 1) from w32_id (by unfold R32; omega)]
          refine Ev.steps (k := 1) (pc' := 144) (L' := [Vr 166, Vi (p : Int), Vi (o : Int), Vi (what : Int), Vi (rl : Int), Vi (6 * ((16 * (e : Int)) + (n : Int)))]) (S' := [Vi (o : Int), Vi ((6 * ((16 * (e : Int)) + (n : Int))) + 1), Vr 210]) (h' := ((SHv st dr rd), (ovl a s (updC b2 210 ((6 * (16 * e + n))) (p : Int))))) (fun _ => rfl) ?_
          refine Ev.iast (c' := (ovl a s (updC (updC b2 210 ((6 * (16 * e + n))) (p : Int)) 210 (((6 * (16 * e + n)) + 1)) (o : Int)))) rfl (by decide) rfl (by omega) (by omega) (ovl_wm (by decide)) ?_
          refine Ev.steps (k := 5) (pc' := 153) (L' := [Vr 166, Vi (p : Int), Vi (o : Int), Vi (what : Int), Vi (rl : Int), Vi (6 * ((16 * (e : Int)) + (n : Int)))]) (S' := [Vi (w32 ((6 * ((16 * (e : Int)) + (n : Int))) + 2)), Vr 210]) (h' := ((SHv st dr rd), (ovl a s (updC (updC b2 210 ((6 * (16 * e + n))) (p : Int)) 210 (((6 * (16 * e + n)) + 1)) (o : Int))))) (fun _ => rfl) ?_
          rw [show (w32 ((6 * ((16 * (e : Int)) + (n : Int))) + 2)) = ((6 * ((16 * (e : Int)) + (n : Int))) + 2) from w32_id (by unfold R32; omega)]
          refine Ev.steps (k := 1) (pc' := 154) (L' := [Vr 166, Vi (p : Int), Vi (o : Int), Vi (what : Int), Vi (rl : Int), Vi (6 * ((16 * (e : Int)) + (n : Int)))]) (S' := [Vi (what : Int), Vi ((6 * ((16 * (e : Int)) + (n : Int))) + 2), Vr 210]) (h' := ((SHv st dr rd), (ovl a s (updC (updC b2 210 ((6 * (16 * e + n))) (p : Int)) 210 (((6 * (16 * e + n)) + 1)) (o : Int))))) (fun _ => rfl) ?_
          refine Ev.iast (c' := (ovl a s (updC (updC (updC b2 210 ((6 * (16 * e + n))) (p : Int)) 210 (((6 * (16 * e + n)) + 1)) (o : Int)) 210 (((6 * (16 * e + n)) + 2)) (what : Int)))) rfl (by decide) rfl (by omega) (by omega) (ovl_wm (by decide)) ?_
          refine Ev.steps (k := 5) (pc' := 163) (L' := [Vr 166, Vi (p : Int), Vi (o : Int), Vi (what : Int), Vi (rl : Int), Vi (6 * ((16 * (e : Int)) + (n : Int)))]) (S' := [Vi (w32 ((6 * ((16 * (e : Int)) + (n : Int))) + 3)), Vr 210]) (h' := ((SHv st dr rd), (ovl a s (updC (updC (updC b2 210 ((6 * (16 * e + n))) (p : Int)) 210 (((6 * (16 * e + n)) + 1)) (o : Int)) 210 (((6 * (16 * e + n)) + 2)) (what : Int))))) (fun _ => rfl) ?_
          rw [show (w32 ((6 * ((16 * (e : Int)) + (n : Int))) + 3)) = ((6 * ((16 * (e : Int)) + (n : Int))) + 3) from w32_id (by unfold R32; omega)]
          refine Ev.steps (k := 2) (pc' := 167) (L' := [Vr 166, Vi (p : Int), Vi (o : Int), Vi (what : Int), Vi (rl : Int), Vi (6 * ((16 * (e : Int)) + (n : Int)))]) (S' := [Vi (b2 166 65), Vi ((6 * ((16 * (e : Int)) + (n : Int))) + 3), Vr 210]) (h' := ((SHv st dr rd), (ovl a s (updC (updC (updC b2 210 ((6 * (16 * e + n))) (p : Int)) 210 (((6 * (16 * e + n)) + 1)) (o : Int)) 210 (((6 * (16 * e + n)) + 2)) (what : Int))))) (fun _ => rfl) ?_
          rw [(show (b2 166 65) = _ by rw [s5_b2, dropS_n (by decide)]; try rfl)]
          refine Ev.iast (c' := (ovl a s (updC (updC (updC (updC b2 210 ((6 * (16 * e + n))) (p : Int)) 210 (((6 * (16 * e + n)) + 1)) (o : Int)) 210 (((6 * (16 * e + n)) + 2)) (what : Int)) 210 (((6 * (16 * e + n)) + 3)) (c_b 5 0)))) rfl (by decide) rfl (by omega) (by omega) (ovl_wm (by decide)) ?_
          refine Ev.steps (k := 5) (pc' := 176) (L' := [Vr 166, Vi (p : Int), Vi (o : Int), Vi (what : Int), Vi (rl : Int), Vi (6 * ((16 * (e : Int)) + (n : Int)))]) (S' := [Vi (w32 ((6 * ((16 * (e : Int)) + (n : Int))) + 4)), Vr 210]) (h' := ((SHv st dr rd), (ovl a s (updC (updC (updC (updC b2 210 ((6 * (16 * e + n))) (p : Int)) 210 (((6 * (16 * e + n)) + 1)) (o : Int)) 210 (((6 * (16 * e + n)) + 2)) (what : Int)) 210 (((6 * (16 * e + n)) + 3)) (c_b 5 0))))) (fun _ => rfl) ?_
          rw [show (w32 ((6 * ((16 * (e : Int)) + (n : Int))) + 4)) = ((6 * ((16 * (e : Int)) + (n : Int))) + 4) from w32_id (by unfold R32; omega)]
          refine Ev.steps (k := 3) (pc' := 181) (L' := [Vr 166, Vi (p : Int), Vi (o : Int), Vi (what : Int), Vi (rl : Int), Vi (6 * ((16 * (e : Int)) + (n : Int)))]) (S' := [Vi (p : Int), Vr 213, Vi ((6 * ((16 * (e : Int)) + (n : Int))) + 4), Vr 210]) (h' := ((SHv st dr rd), (ovl a s (updC (updC (updC (updC b2 210 ((6 * (16 * e + n))) (p : Int)) 210 (((6 * (16 * e + n)) + 1)) (o : Int)) 210 (((6 * (16 * e + n)) + 2)) (what : Int)) 210 (((6 * (16 * e + n)) + 3)) (c_b 5 0))))) (fun _ => rfl) ?_
          refine Ev.iald (v := (c_b 0 p)) rfl (by decide) rfl (by omega) (by omega) ((show (b2 213 p) = _ by rw [s0_b2 p (by omega), dropS_n (by decide)]; try rfl)) ?_
          refine Ev.iast (c' := (ovl a s (updC (updC (updC (updC (updC b2 210 ((6 * (16 * e + n))) (p : Int)) 210 (((6 * (16 * e + n)) + 1)) (o : Int)) 210 (((6 * (16 * e + n)) + 2)) (what : Int)) 210 (((6 * (16 * e + n)) + 3)) (c_b 5 0)) 210 (((6 * (16 * e + n)) + 4)) (c_b 0 p)))) rfl (by decide) rfl (by omega) (by omega) (ovl_wm (by decide)) ?_
          refine Ev.steps (k := 5) (pc' := 191) (L' := [Vr 166, Vi (p : Int), Vi (o : Int), Vi (what : Int), Vi (rl : Int), Vi (6 * ((16 * (e : Int)) + (n : Int)))]) (S' := [Vi (w32 ((6 * ((16 * (e : Int)) + (n : Int))) + 5)), Vr 210]) (h' := ((SHv st dr rd), (ovl a s (updC (updC (updC (updC (updC b2 210 ((6 * (16 * e + n))) (p : Int)) 210 (((6 * (16 * e + n)) + 1)) (o : Int)) 210 (((6 * (16 * e + n)) + 2)) (what : Int)) 210 (((6 * (16 * e + n)) + 3)) (c_b 5 0)) 210 (((6 * (16 * e + n)) + 4)) (c_b 0 p))))) (fun _ => rfl) ?_
          rw [show (w32 ((6 * ((16 * (e : Int)) + (n : Int))) + 5)) = ((6 * ((16 * (e : Int)) + (n : Int))) + 5) from w32_id (by unfold R32; omega)]
          refine Ev.steps (k := 1) (pc' := 193) (L' := [Vr 166, Vi (p : Int), Vi (o : Int), Vi (what : Int), Vi (rl : Int), Vi (6 * ((16 * (e : Int)) + (n : Int)))]) (S' := [Vi (rl : Int), Vi ((6 * ((16 * (e : Int)) + (n : Int))) + 5), Vr 210]) (h' := ((SHv st dr rd), (ovl a s (updC (updC (updC (updC (updC b2 210 ((6 * (16 * e + n))) (p : Int)) 210 (((6 * (16 * e + n)) + 1)) (o : Int)) 210 (((6 * (16 * e + n)) + 2)) (what : Int)) 210 (((6 * (16 * e + n)) + 3)) (c_b 5 0)) 210 (((6 * (16 * e + n)) + 4)) (c_b 0 p))))) (fun _ => rfl) ?_
          refine Ev.iast (c' := (ovl a s (updC (updC (updC (updC (updC (updC b2 210 ((6 * (16 * e + n))) (p : Int)) 210 (((6 * (16 * e + n)) + 1)) (o : Int)) 210 (((6 * (16 * e + n)) + 2)) (what : Int)) 210 (((6 * (16 * e + n)) + 3)) (c_b 5 0)) 210 (((6 * (16 * e + n)) + 4)) (c_b 0 p)) 210 (((6 * (16 * e + n)) + 5)) (rl : Int)))) rfl (by decide) rfl (by omega) (by omega) (ovl_wm (by decide)) ?_
          refine Ev.steps (k := 4) (pc' := 202) (L' := [Vr 166, Vi (p : Int), Vi (o : Int), Vi (what : Int), Vi (rl : Int), Vi (6 * ((16 * (e : Int)) + (n : Int)))]) (S' := [Vi (b2 166 64), Vr 203]) (h' := ((SHv st dr rd), (ovl a s (updC (updC (updC (updC (updC (updC b2 210 ((6 * (16 * e + n))) (p : Int)) 210 (((6 * (16 * e + n)) + 1)) (o : Int)) 210 (((6 * (16 * e + n)) + 2)) (what : Int)) 210 (((6 * (16 * e + n)) + 3)) (c_b 5 0)) 210 (((6 * (16 * e + n)) + 4)) (c_b 0 p)) 210 (((6 * (16 * e + n)) + 5)) (rl : Int))))) (fun _ => rfl) ?_
          rw [he_b2]
          refine Ev.steps (k := 1) (pc' := 203) (L' := [Vr 166, Vi (p : Int), Vi (o : Int), Vi (what : Int), Vi (rl : Int), Vi (6 * ((16 * (e : Int)) + (n : Int)))]) (S' := [Vi (e : Int), Vr 203, Vi (e : Int), Vr 203]) (h' := ((SHv st dr rd), (ovl a s (updC (updC (updC (updC (updC (updC b2 210 ((6 * (16 * e + n))) (p : Int)) 210 (((6 * (16 * e + n)) + 1)) (o : Int)) 210 (((6 * (16 * e + n)) + 2)) (what : Int)) 210 (((6 * (16 * e + n)) + 3)) (c_b 5 0)) 210 (((6 * (16 * e + n)) + 4)) (c_b 0 p)) 210 (((6 * (16 * e + n)) + 5)) (rl : Int))))) (fun _ => rfl) ?_
          refine Ev.iald (v := (n : Int)) rfl (by decide) rfl (by omega) (by omega) (hn9) ?_
          refine Ev.steps (k := 2) (pc' := 206) (L' := [Vr 166, Vi (p : Int), Vi (o : Int), Vi (what : Int), Vi (rl : Int), Vi (6 * ((16 * (e : Int)) + (n : Int)))]) (S' := [Vi (w32 ((n : Int) + 1)), Vi (e : Int), Vr 203]) (h' := ((SHv st dr rd), (ovl a s (updC (updC (updC (updC (updC (updC b2 210 ((6 * (16 * e + n))) (p : Int)) 210 (((6 * (16 * e + n)) + 1)) (o : Int)) 210 (((6 * (16 * e + n)) + 2)) (what : Int)) 210 (((6 * (16 * e + n)) + 3)) (c_b 5 0)) 210 (((6 * (16 * e + n)) + 4)) (c_b 0 p)) 210 (((6 * (16 * e + n)) + 5)) (rl : Int))))) (fun _ => rfl) ?_
          rw [show (w32 ((n : Int) + 1)) = ((n : Int) + 1) from w32_id (by unfold R32; omega)]
          refine Ev.iast (c' := (ovl a s (updC (updC (updC (updC (updC (updC (updC b2 210 ((6 * (16 * e + n))) (p : Int)) 210 (((6 * (16 * e + n)) + 1)) (o : Int)) 210 (((6 * (16 * e + n)) + 2)) (what : Int)) 210 (((6 * (16 * e + n)) + 3)) (c_b 5 0)) 210 (((6 * (16 * e + n)) + 4)) (c_b 0 p)) 210 (((6 * (16 * e + n)) + 5)) (rl : Int)) 203 e ((n : Int) + 1)))) rfl (by decide) rfl (by omega) (by omega) (ovl_wm (by decide)) ?_
          have hFD : FrD e b2 (updC (updC (updC (updC (updC (updC (updC b2 210 ((6 * (16 * e + n))) (p : Int)) 210 (((6 * (16 * e + n)) + 1)) (o : Int)) 210 (((6 * (16 * e + n)) + 2)) (what : Int)) 210 (((6 * (16 * e + n)) + 3)) (c_b 5 0)) 210 (((6 * (16 * e + n)) + 4)) (c_b 0 p)) 210 (((6 * (16 * e + n)) + 5)) (rl : Int)) 203 e ((n : Int) + 1)) := ((((((FrD.rf.up (by unfold InD; omega)).up (by unfold InD; omega)).up (by unfold InD; omega)).up (by unfold InD; omega)).up (by unfold InD; omega)).up (by unfold InD; omega)).up (by unfold InD; omega)
          have hSD : SimM S (deedS (dropS (nT S) (updC c_b 1 o 0) o) p o what rl) (updC (updC (updC (updC (updC (updC (updC b2 210 ((6 * (16 * e + n))) (p : Int)) 210 (((6 * (16 * e + n)) + 1)) (o : Int)) 210 (((6 * (16 * e + n)) + 2)) (what : Int)) 210 (((6 * (16 * e + n)) + 3)) (c_b 5 0)) 210 (((6 * (16 * e + n)) + 4)) (c_b 0 p)) 210 (((6 * (16 * e + n)) + 5)) (rl : Int)) 203 e ((n : Int) + 1)) e := hS_b2.deed (c := dropS (nT S) (updC c_b 1 o 0) o) (n := n) (by rw [dropS_n (by decide)]; exact hn)
          have hWD : WfC S (deedS (dropS (nT S) (updC c_b 1 o 0) o) p o what rl) := hWC.kil hp ho hk8
          refine Ev.call (k := 4) (pc1 := 211) (L1 := [Vr 166, Vi (p : Int), Vi (o : Int), Vi (what : Int), Vi (rl : Int), Vi (6 * ((16 * (e : Int)) + (n : Int)))]) (S1 := [Vi (p : Int), Vi (what : Int), Vi 3, Vr 166]) (h1 := ((SHv st dr rd), (ovl a s (updC (updC (updC (updC (updC (updC (updC b2 210 ((6 * (16 * e + n))) (p : Int)) 210 (((6 * (16 * e + n)) + 1)) (o : Int)) 210 (((6 * (16 * e + n)) + 2)) (what : Int)) 210 (((6 * (16 * e + n)) + 3)) (c_b 5 0)) 210 (((6 * (16 * e + n)) + 4)) (c_b 0 p)) 210 (((6 * (16 * e + n)) + 5)) (rl : Int)) 203 e ((n : Int) + 1))))) (m' := 219) (as := [Vr 166, Vi 3, Vi (what : Int), Vi (p : Int)]) (S' := []) (L0 := [Vr 166, Vi 3, Vi (what : Int), Vi (p : Int), Vx]) (fun _ => rfl) rfl rfl rfl rfl rfl rfl (m_leaves 3 (what : Int) p (c_b := deedS (dropS (nT S) (updC c_b 1 o 0) o) p o what rl) (hY_b2.fr hFD.fe) hWY hSD hWD hp hcn) (fun r h' hq => ?_)
          have hPM := hq.fr (hF2.tr hFD)
          obtain ⟨rfl, s3, b3, rfl, hS3, hF3⟩ := hPM
          show Ev X _ _ 214 [Vr 166, Vi (p : Int), Vi (o : Int), Vi (what : Int), Vi (rl : Int), Vi (6 * ((16 * (e : Int)) + (n : Int)))] [] ((SHv st dr rd), (ovl a s3 b3)) _
          refine Ev.fin (k := 2) (r := (some (Vi 1))) (h' := ((SHv st dr rd), (ovl a s3 b3))) (fun _ => rfl) ?_
          exact Or.inl ⟨hK, rfl, s3, b3, rfl, hS3, hF3⟩
        · refine Ev.fin (k := 2) (r := (some (Vi 0))) (h' := ((SHv st dr rd), (ovl a s b))) (fun _ => rfl) ?_
          refine Or.inr ⟨fun hK => ?_, rfl, s, b, rfl, hS_b, FrD.rf⟩
          obtain ⟨g1, g2, g3, g4⟩ := hK
          first | omega | exact absurd (hn.mpr g3) (by omega)
