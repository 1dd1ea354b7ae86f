/-! THE REFERENCE: a rule is done -/
/-- what behind does -/
def PDo (S : STY) (st dr rd : Int) (a b : SC) (e : Nat) (c : SC) (r : Nat) : Option pm_V → pm_H → Prop := fun rr hh => (∃ c', doesS S c r = some c' ∧ PM S st dr rd a b e (some (Vi 1)) c' rr hh) ∨ (doesS S c r = none ∧ PM S st dr rd a b e (some (Vi 0)) c rr hh)
theorem doesS_at {S : STY} {c : SC} {r p : Nat} (hp : S.1 12 r = (p : Int)) : doesS S c r = (if S.1 11 r = 0 then (if stpW S (c 0 p).toNat (S.1 13 r).toNat = -1 then none else some (updC c 0 p (stpW S (c 0 p).toNat (S.1 13 r).toNat)))
  else if S.1 11 r = 1 then (if c 2 (S.1 13 r).toNat = c 0 p then some (leavS (updC c 2 (S.1 13 r).toNat (100 + (p : Int))) 1 ((S.1 13 r).toNat : Int) p) else none)
  else if S.1 11 r = 2 then (if c 2 (S.1 13 r).toNat = 100 + (p : Int) then some (leavS (updC c 2 (S.1 13 r).toNat (c 0 p)) 2 ((S.1 13 r).toNat : Int) p) else none)
  else if S.1 11 r = 3 then (if ∃ i, i < (c 7 0).toNat ∧ WipS c p i then some (wipS c p) else none)
  else (if KilS (nW S) c p (S.1 13 r).toNat (S.1 14 r).toNat then some (leavS (deedS (dropS (nT S) (updC c 1 (S.1 13 r).toNat 0) (S.1 13 r).toNat) p (S.1 13 r).toNat (S.1 14 r).toNat r) 3 (S.1 14 r) p) else none)) := by
  unfold doesS
  dsimp only
  rw [hp, Int.toNat_natCast]
theorem m_does {X : List Int} {d : Nat} {st dr rd : Int} {a s b : C3} (r : Nat) {S : STY} {bk e : Nat} {c_b : SC} (hY_b : RepY S b bk) (hWY : WfY S) (hS_b : SimM S c_b b e) (hWC : WfC S c_b) (hr : r < nL S) (hk4 : S.1 11 r ≠ 4) (hcn : c_b 7 0 < 1440) (hk8 : c_b 9 0 < 8) : Ev X (d + 2) 216 0 [Vr 166, Vi (r : Int), Vx, Vx, Vx, Vx] [] (SHv st dr rd, ovl a s b) (PDo S st dr rd a b e c_b r) := by
  obtain ⟨hb2_b, h12_b, h168_b, h169_b, h170_b, h171_b, h173_b, h172_b, h174_b, h176_b, h178_b, h175_b, h177_b, h179_b, h180_b, h184_b⟩ := id hY_b
  obtain ⟨s0_b, s1_b, s2_b, s3_b, s4_b, s5_b, s7_b, s9_b, s6_b, s8_b, he_b, he2_b⟩ := id hS_b
  obtain ⟨wR, wD, wW, wT, wL, wC, wdoor, wsym, wWI, wTI, wCl, wRu⟩ := id hWY
  obtain ⟨k0, k1, k2, k3, k4, k5, k7, k9⟩ := id hWC
  obtain ⟨r1, r2, r3, r4, r5, -⟩ := wRu r hr
  obtain ⟨p, hp⟩ : ∃ p : Nat, S.1 12 r = p := ⟨(S.1 12 r).toNat, by omega⟩
  have hpW : p < nW S := by omega
  obtain ⟨g184, g185, g186, g187, -⟩ := h184_b r hr
  have hds := doesS_at (c := c_b) hp
  refine Ev.steps (k := 3) (pc' := 6) (L' := [Vr 166, Vi (r : Int), Vx, Vx, Vx, Vx]) (S' := [Vi (b 166 12), Vi 30]) (h' := ((SHv st dr rd), (ovl a s b))) (fun _ => rfl) ?_
  rw [h12_b]
  refine Ev.steps (k := 1) (pc' := 7) (L' := [Vr 166, Vi (r : Int), Vx, Vx, Vx, Vx]) (S' := [Vi (w32 (30 * (bk : Int)))]) (h' := ((SHv st dr rd), (ovl a s b))) (fun _ => rfl) ?_
  rw [show (w32 (30 * (bk : Int))) = (30 * (bk : Int)) from w32_id (by unfold R32; omega)]
  refine Ev.steps (k := 2) (pc' := 9) (L' := [Vr 166, Vi (r : Int), Vx, Vx, Vx, Vx]) (S' := [Vi (w32 ((30 * (bk : Int)) + (r : Int)))]) (h' := ((SHv st dr rd), (ovl a s b))) (fun _ => rfl) ?_
  rw [show (w32 ((30 * (bk : Int)) + (r : Int))) = ((30 * (bk : Int)) + (r : Int)) from w32_id (by unfold R32; omega)]
  refine Ev.steps (k := 4) (pc' := 15) (L' := [Vr 166, Vi (r : Int), Vi ((30 * (bk : Int)) + (r : Int)), Vx, Vx, Vx]) (S' := [Vi ((30 * (bk : Int)) + (r : Int)), Vr 185]) (h' := ((SHv st dr rd), (ovl a s b))) (fun _ => rfl) ?_
  refine Ev.iald (v := (p : Int)) rfl (by decide) rfl (by omega) (by omega) ((show (b 185 ((30 * bk + r))) = (p : Int) by rw [g185, hp])) ?_
  refine Ev.steps (k := 4) (pc' := 22) (L' := [Vr 166, Vi (r : Int), Vi ((30 * (bk : Int)) + (r : Int)), Vi (p : Int), Vx, Vx]) (S' := [Vi ((30 * (bk : Int)) + (r : Int)), Vr 186]) (h' := ((SHv st dr rd), (ovl a s b))) (fun _ => rfl) ?_
  refine Ev.iald (v := (S.1 13 r)) rfl (by decide) rfl (by omega) (by omega) (g186) ?_
  refine Ev.steps (k := 4) (pc' := 30) (L' := [Vr 166, Vi (r : Int), Vi ((30 * (bk : Int)) + (r : Int)), Vi (p : Int), Vi (S.1 13 r), Vx]) (S' := [Vi ((30 * (bk : Int)) + (r : Int)), Vr 184]) (h' := ((SHv st dr rd), (ovl a s b))) (fun _ => rfl) ?_
  refine Ev.iald (v := (S.1 11 r)) rfl (by decide) rfl (by omega) (by omega) (g184) ?_
  rcases (show (S.1 11 r) = 0 ∨ (S.1 11 r) = 1 ∨ (S.1 11 r) = 2 ∨ (S.1 11 r) = 3 ∨ ((S.1 11 r) ≠ 0 ∧ (S.1 11 r) ≠ 1 ∧ (S.1 11 r) ≠ 2 ∧ (S.1 11 r) ≠ 3) by omega) with b31 | b31 | b31 | b31 | b31
  · rw [b31]
    refine Ev.steps (k := 1) (pc' := 60) (L' := [Vr 166, Vi (r : Int), Vi ((30 * (bk : Int)) + (r : Int)), Vi (p : Int), Vi (S.1 13 r), Vx]) (S' := []) (h' := ((SHv st dr rd), (ovl a s b))) (fun _ => rfl) ?_
    obtain ⟨o, ho⟩ : ∃ o : Nat, S.1 13 r = o := ⟨(S.1 13 r).toNat, by omega⟩
    rw [ho, Int.toNat_natCast] at hds
    rw [ho]
    
    rw [if_pos b31] at hds
    have hx0 := k0 p hpW
    obtain ⟨x, hx⟩ : ∃ x : Nat, c_b 0 p = x := ⟨(c_b 0 p).toNat, by omega⟩
    have hxR : x < nR S := by omega
    have s0x : b 213 p = (x : Int) := by rw [s0_b p hpW, hx]
    rw [hx, Int.toNat_natCast] at hds
    refine Ev.steps (k := 4) (pc' := 66) (L' := [Vr 166, Vi (r : Int), Vi ((30 * (bk : Int)) + (r : Int)), Vi (p : Int), Vi (o : Int), Vx]) (S' := [Vi (p : Int), Vr 213, Vr 166]) (h' := ((SHv st dr rd), (ovl a s b))) (fun _ => rfl) ?_
    refine Ev.iald (v := (x : Int)) rfl (by decide) rfl (by omega) (by omega) (s0x) ?_
    refine Ev.call (k := 1) (pc1 := 69) (L1 := [Vr 166, Vi (r : Int), Vi ((30 * (bk : Int)) + (r : Int)), Vi (p : Int), Vi (o : Int), Vx]) (S1 := [Vi (o : Int), Vi (x : Int), Vr 166]) (h1 := ((SHv st dr rd), (ovl a s b))) (m' := 217) (as := [Vr 166, Vi (x : Int), Vi (o : Int)]) (S' := []) (L0 := [Vr 166, Vi (x : Int), Vi (o : Int), Vx, Vx]) (fun _ => rfl) rfl rfl rfl rfl rfl rfl (m_step x o hY_b hWY hxR) (fun r0_ h' hq => ?_)
    obtain ⟨s2, rfl, rfl⟩ := hq
    show Ev X _ _ 72 [Vr 166, Vi (r : Int), Vi ((30 * (bk : Int)) + (r : Int)), Vi (p : Int), Vi (o : Int), Vx] [Vi (stpW S x o)] ((SHv st dr rd), (ovl a s2 b)) _
    refine Ev.ite (P := (stpW S x o) ≠ (-1)) (k := 4) (a := 82) (b := 80) (L' := [Vr 166, Vi (r : Int), Vi ((30 * (bk : Int)) + (r : Int)), Vi (p : Int), Vi (o : Int), Vi (stpW S x o)]) (S' := []) (h' := ((SHv st dr rd), (ovl a s2 b))) (fun _ => rfl) (fun b77 => ?_) (fun b77 => ?_)
    · refine Ev.steps (k := 4) (pc' := 89) (L' := [Vr 166, Vi (r : Int), Vi ((30 * (bk : Int)) + (r : Int)), Vi (p : Int), Vi (o : Int), Vi (stpW S x o)]) (S' := [Vi (stpW S x o), Vi (p : Int), Vr 213]) (h' := ((SHv st dr rd), (ovl a s2 b))) (fun _ => rfl) ?_
      refine Ev.iast (c' := (ovl a s2 (updC b 213 p (stpW S x o)))) rfl (by decide) rfl (by omega) (by omega) (ovl_wm (by decide)) ?_
      refine Ev.fin (k := 2) (r := (some (Vi 1))) (h' := ((SHv st dr rd), (ovl a s2 (updC b 213 p (stpW S x o))))) (fun _ => rfl) ?_
      rw [if_neg (by omega)] at hds
      exact Or.inl ⟨_, hds, rfl, s2, _, rfl, hS_b.place, FrD.rf.up (by unfold InD; omega)⟩
    · refine Ev.fin (k := 2) (r := (some (Vi 0))) (h' := ((SHv st dr rd), (ovl a s2 b))) (fun _ => rfl) ?_
      rw [if_pos (by omega)] at hds
      exact Or.inr ⟨hds, rfl, s2, b, rfl, hS_b, FrD.rf⟩
  · rw [b31]
    refine Ev.steps (k := 1) (pc' := 92) (L' := [Vr 166, Vi (r : Int), Vi ((30 * (bk : Int)) + (r : Int)), Vi (p : Int), Vi (S.1 13 r), Vx]) (S' := []) (h' := ((SHv st dr rd), (ovl a s b))) (fun _ => rfl) ?_
    obtain ⟨o, ho⟩ : ∃ o : Nat, S.1 13 r = o := ⟨(S.1 13 r).toNat, by omega⟩
    rw [ho, Int.toNat_natCast] at hds
    rw [ho]
    rw [if_neg (by omega)] at hds
    rw [if_pos b31] at hds
    refine Ev.steps (k := 3) (pc' := 98) (L' := [Vr 166, Vi (r : Int), Vi ((30 * (bk : Int)) + (r : Int)), Vi (p : Int), Vi (o : Int), Vx]) (S' := [Vi (o : Int), Vr 215]) (h' := ((SHv st dr rd), (ovl a s b))) (fun _ => rfl) ?_
    refine Ev.iald (v := (c_b 2 o)) rfl (by decide) rfl (by omega) (by omega) (s2_b o (by omega)) ?_
    refine Ev.steps (k := 3) (pc' := 104) (L' := [Vr 166, Vi (r : Int), Vi ((30 * (bk : Int)) + (r : Int)), Vi (p : Int), Vi (o : Int), Vx]) (S' := [Vi (p : Int), Vr 213, Vi (c_b 2 o)]) (h' := ((SHv st dr rd), (ovl a s b))) (fun _ => rfl) ?_
    refine Ev.iald (v := (c_b 0 p)) rfl (by decide) rfl (by omega) (by omega) (s0_b p (by omega)) ?_
    refine Ev.ite (P := (c_b 2 o) = (c_b 0 p)) (k := 1) (a := 110) (b := 108) (L' := [Vr 166, Vi (r : Int), Vi ((30 * (bk : Int)) + (r : Int)), Vi (p : Int), Vi (o : Int), Vx]) (S' := []) (h' := ((SHv st dr rd), (ovl a s b))) (fun _ => rfl) (fun b105 => ?_) (fun b105 => ?_)
    · refine Ev.steps (k := 6) (pc' := 120) (L' := [Vr 166, Vi (r : Int), Vi ((30 * (bk : Int)) + (r : Int)), Vi (p : Int), Vi (o : Int), Vx]) (S' := [Vi (w32 (100 + (p : Int))), Vi (o : Int), Vr 215]) (h' := ((SHv st dr rd), (ovl a s b))) (fun _ => rfl) ?_
      rw [show (w32 (100 + (p : Int))) = (100 + (p : Int)) from w32_id (by unfold R32; omega)]
      refine Ev.iast (c' := (ovl a s (updC b 215 o (100 + (p : Int))))) rfl (by decide) rfl (by omega) (by omega) (ovl_wm (by decide)) ?_
      have hFD : FrD e b (updC b 215 o (100 + (p : Int))) := FrD.rf.up (by unfold InD; omega)
      have hSD := hS_b.thing (p := o) (v := 100 + (p : Int))
      have hWD : WfC S (updC c_b 2 o (100 + (p : Int))) := hWC.thing (Or.inr ⟨by omega, by omega⟩)
      refine Ev.call (k := 4) (pc1 := 126) (L1 := [Vr 166, Vi (r : Int), Vi ((30 * (bk : Int)) + (r : Int)), Vi (p : Int), Vi (o : Int), Vx]) (S1 := [Vi (p : Int), Vi (o : Int), Vi 1, Vr 166]) (h1 := ((SHv st dr rd), (ovl a s (updC b 215 o (100 + (p : Int)))))) (m' := 219) (as := [Vr 166, Vi 1, Vi (o : Int), Vi (p : Int)]) (S' := []) (L0 := [Vr 166, Vi 1, Vi (o : Int), Vi (p : Int), Vx]) (fun _ => rfl) rfl rfl rfl rfl rfl rfl (m_leaves 1 (o : Int) p (c_b := updC c_b 2 o (100 + (p : Int))) (hY_b.fr hFD.fe) hWY hSD hWD hpW hcn) (fun r0_ h' hq => ?_)
      have hPM := PM.fr hq hFD
      obtain ⟨rfl, s3, b3, rfl, hS3, hF3⟩ := hPM
      show Ev X _ _ 129 [Vr 166, Vi (r : Int), Vi ((30 * (bk : Int)) + (r : Int)), Vi (p : Int), Vi (o : Int), Vx] [] ((SHv st dr rd), (ovl a s3 b3)) _
      refine Ev.fin (k := 2) (r := (some (Vi 1))) (h' := ((SHv st dr rd), (ovl a s3 b3))) (fun _ => rfl) ?_
      rw [if_pos (by omega)] at hds
      exact Or.inl ⟨_, hds, rfl, s3, b3, rfl, hS3, hF3⟩
    · refine Ev.fin (k := 2) (r := (some (Vi 0))) (h' := ((SHv st dr rd), (ovl a s b))) (fun _ => rfl) ?_
      rw [if_neg b105] at hds
      exact Or.inr ⟨hds, rfl, s, b, rfl, hS_b, FrD.rf⟩
  · rw [b31]
    refine Ev.steps (k := 1) (pc' := 131) (L' := [Vr 166, Vi (r : Int), Vi ((30 * (bk : Int)) + (r : Int)), Vi (p : Int), Vi (S.1 13 r), Vx]) (S' := []) (h' := ((SHv st dr rd), (ovl a s b))) (fun _ => rfl) ?_
    obtain ⟨o, ho⟩ : ∃ o : Nat, S.1 13 r = o := ⟨(S.1 13 r).toNat, by omega⟩
    rw [ho, Int.toNat_natCast] at hds
    rw [ho]
    rw [if_neg (by omega)] at hds
    rw [if_neg (by omega)] at hds
    rw [if_pos b31] at hds
    refine Ev.steps (k := 3) (pc' := 137) (L' := [Vr 166, Vi (r : Int), Vi ((30 * (bk : Int)) + (r : Int)), Vi (p : Int), Vi (o : Int), Vx]) (S' := [Vi (o : Int), Vr 215]) (h' := ((SHv st dr rd), (ovl a s b))) (fun _ => rfl) ?_
    refine Ev.iald (v := (c_b 2 o)) rfl (by decide) rfl (by omega) (by omega) (s2_b o (by omega)) ?_
    refine Ev.steps (k := 3) (pc' := 142) (L' := [Vr 166, Vi (r : Int), Vi ((30 * (bk : Int)) + (r : Int)), Vi (p : Int), Vi (o : Int), Vx]) (S' := [Vi (w32 (100 + (p : Int))), Vi (c_b 2 o)]) (h' := ((SHv st dr rd), (ovl a s b))) (fun _ => rfl) ?_
    rw [show (w32 (100 + (p : Int))) = (100 + (p : Int)) from w32_id (by unfold R32; omega)]
    refine Ev.ite (P := (c_b 2 o) = (100 + (p : Int))) (k := 1) (a := 147) (b := 145) (L' := [Vr 166, Vi (r : Int), Vi ((30 * (bk : Int)) + (r : Int)), Vi (p : Int), Vi (o : Int), Vx]) (S' := []) (h' := ((SHv st dr rd), (ovl a s b))) (fun _ => rfl) (fun b142 => ?_) (fun b142 => ?_)
    · refine Ev.steps (k := 6) (pc' := 158) (L' := [Vr 166, Vi (r : Int), Vi ((30 * (bk : Int)) + (r : Int)), Vi (p : Int), Vi (o : Int), Vx]) (S' := [Vi (p : Int), Vr 213, Vi (o : Int), Vr 215]) (h' := ((SHv st dr rd), (ovl a s b))) (fun _ => rfl) ?_
      refine Ev.iald (v := (c_b 0 p)) rfl (by decide) rfl (by omega) (by omega) (s0_b p (by omega)) ?_
      refine Ev.iast (c' := (ovl a s (updC b 215 o (c_b 0 p)))) rfl (by decide) rfl (by omega) (by omega) (ovl_wm (by decide)) ?_
      have hFD : FrD e b (updC b 215 o (c_b 0 p)) := FrD.rf.up (by unfold InD; omega)
      have hSD := hS_b.thing (p := o) (v := c_b 0 p)
      have hWD : WfC S (updC c_b 2 o (c_b 0 p)) := hWC.thing (Or.inl (k0 p hpW))
      refine Ev.call (k := 4) (pc1 := 165) (L1 := [Vr 166, Vi (r : Int), Vi ((30 * (bk : Int)) + (r : Int)), Vi (p : Int), Vi (o : Int), Vx]) (S1 := [Vi (p : Int), Vi (o : Int), Vi 2, Vr 166]) (h1 := ((SHv st dr rd), (ovl a s (updC b 215 o (c_b 0 p))))) (m' := 219) (as := [Vr 166, Vi 2, Vi (o : Int), Vi (p : Int)]) (S' := []) (L0 := [Vr 166, Vi 2, Vi (o : Int), Vi (p : Int), Vx]) (fun _ => rfl) rfl rfl rfl rfl rfl rfl (m_leaves 2 (o : Int) p (c_b := updC c_b 2 o (c_b 0 p)) (hY_b.fr hFD.fe) hWY hSD hWD hpW hcn) (fun r0_ h' hq => ?_)
      have hPM := PM.fr hq hFD
      obtain ⟨rfl, s3, b3, rfl, hS3, hF3⟩ := hPM
      show Ev X _ _ 168 [Vr 166, Vi (r : Int), Vi ((30 * (bk : Int)) + (r : Int)), Vi (p : Int), Vi (o : Int), Vx] [] ((SHv st dr rd), (ovl a s3 b3)) _
      refine Ev.fin (k := 2) (r := (some (Vi 1))) (h' := ((SHv st dr rd), (ovl a s3 b3))) (fun _ => rfl) ?_
      rw [if_pos (by omega)] at hds
      exact Or.inl ⟨_, hds, rfl, s3, b3, rfl, hS3, hF3⟩
    · refine Ev.fin (k := 2) (r := (some (Vi 0))) (h' := ((SHv st dr rd), (ovl a s b))) (fun _ => rfl) ?_
      rw [if_neg b142] at hds
      exact Or.inr ⟨hds, rfl, s, b, rfl, hS_b, FrD.rf⟩
  · rw [b31]
    refine Ev.steps (k := 1) (pc' := 170) (L' := [Vr 166, Vi (r : Int), Vi ((30 * (bk : Int)) + (r : Int)), Vi (p : Int), Vi (S.1 13 r), Vx]) (S' := []) (h' := ((SHv st dr rd), (ovl a s b))) (fun _ => rfl) ?_
    rw [if_neg (by omega), if_neg (by omega), if_neg (by omega), if_pos b31] at hds
    refine Ev.call (k := 2) (pc1 := 172) (L1 := [Vr 166, Vi (r : Int), Vi ((30 * (bk : Int)) + (r : Int)), Vi (p : Int), Vi (S.1 13 r), Vx]) (S1 := [Vi (p : Int), Vr 166]) (h1 := ((SHv st dr rd), (ovl a s b))) (m' := 220) (as := [Vr 166, Vi (p : Int)]) (S' := []) (L0 := [Vr 166, Vi (p : Int), Vx, Vx, Vx]) (fun _ => rfl) rfl rfl rfl rfl rfl rfl (m_wipes p hY_b hWY hS_b hWC hpW (by omega)) (fun r0_ h' hq => ?_)
    obtain ⟨v, hv, rfl, s3, b3, rfl, hS3, hF3⟩ := hq
    show Ev X _ _ 175 [Vr 166, Vi (r : Int), Vi ((30 * (bk : Int)) + (r : Int)), Vi (p : Int), Vi (S.1 13 r), Vx] [Vi v] ((SHv st dr rd), (ovl a s3 b3)) _
    refine Ev.fin (k := 1) (r := (some (Vi v))) (h' := ((SHv st dr rd), (ovl a s3 b3))) (fun _ => Ev_retz rfl (by omega)) ?_
    rcases hv with ⟨rfl, hv⟩ | ⟨rfl, hv⟩
    · rw [if_pos hv] at hds
      exact Or.inl ⟨_, hds, rfl, s3, b3, rfl, hS3, hF3⟩
    · rw [if_neg hv] at hds
      rw [wipS_none hv] at hS3
      exact Or.inr ⟨hds, rfl, s3, b3, rfl, hS3, hF3⟩
  · refine Ev.tswd (dflt := 145) rfl (by omega) (by decide) ?_
    show Ev X _ _ 176 [Vr 166, Vi (r : Int), Vi ((30 * (bk : Int)) + (r : Int)), Vi (p : Int), Vi (S.1 13 r), Vx] [] ((SHv st dr rd), (ovl a s b)) _
    have h55 := r5 (by omega)
    obtain ⟨o, ho⟩ : ∃ o : Nat, S.1 13 r = o := ⟨(S.1 13 r).toNat, by omega⟩
    obtain ⟨w, hw⟩ : ∃ w : Nat, S.1 14 r = w := ⟨(S.1 14 r).toNat, by omega⟩
    rw [ho, hw, Int.toNat_natCast, Int.toNat_natCast] at hds
    rw [ho]
    rw [if_neg (by omega), if_neg (by omega), if_neg (by omega), if_neg (by omega)] at hds
    refine Ev.steps (k := 6) (pc' := 185) (L' := [Vr 166, Vi (r : Int), Vi ((30 * (bk : Int)) + (r : Int)), Vi (p : Int), Vi (o : Int), Vx]) (S' := [Vi ((30 * (bk : Int)) + (r : Int)), Vr 187, Vi (o : Int), Vi (p : Int), Vr 166]) (h' := ((SHv st dr rd), (ovl a s b))) (fun _ => rfl) ?_
    refine Ev.iald (v := (w : Int)) rfl (by decide) rfl (by omega) (by omega) ((show (b 187 ((30 * bk + r))) = (w : Int) by rw [g187, hw])) ?_
    refine Ev.call (k := 1) (pc1 := 187) (L1 := [Vr 166, Vi (r : Int), Vi ((30 * (bk : Int)) + (r : Int)), Vi (p : Int), Vi (o : Int), Vx]) (S1 := [Vi (r : Int), Vi (w : Int), Vi (o : Int), Vi (p : Int), Vr 166]) (h1 := ((SHv st dr rd), (ovl a s b))) (m' := 221) (as := [Vr 166, Vi (p : Int), Vi (o : Int), Vi (w : Int), Vi (r : Int)]) (S' := []) (L0 := [Vr 166, Vi (p : Int), Vi (o : Int), Vi (w : Int), Vi (r : Int), Vx]) (fun _ => rfl) rfl rfl rfl rfl rfl rfl (m_kills p o w r hY_b hWY hS_b hWC hpW (by omega) (by omega) (by omega) hcn hk8) (fun r0_ h' hq => ?_)
    have hq2 : ∃ v : Int, (v = 0 ∨ v = 1) ∧ r0_ = some (Vi v) ∧ ((v = 1 ∧ KilS (nW S) c_b p o w ∧ PM S st dr rd a b e (some (Vi 1)) (leavS (deedS (dropS (nT S) (updC c_b 1 o 0) o) p o w r) 3 (w : Int) p) r0_ h') ∨ (v = 0 ∧ ¬ KilS (nW S) c_b p o w ∧ PM S st dr rd a b e (some (Vi 0)) c_b r0_ h')) := by
      rcases hq with ⟨g1, g2⟩ | ⟨g1, g2⟩
      · exact ⟨1, Or.inr rfl, g2.1, Or.inl ⟨rfl, g1, g2⟩⟩
      · exact ⟨0, Or.inl rfl, g2.1, Or.inr ⟨rfl, g1, g2⟩⟩
    obtain ⟨v, hv01, rfl, hq3⟩ := hq2
    obtain ⟨s3, b3, hb3⟩ : ∃ s3 b3 : SC, h' = (SHv st dr rd, ovl a s3 b3) := by
      rcases hq3 with ⟨-, -, -, s3, b3, g, -⟩ | ⟨-, -, -, s3, b3, g, -⟩
      · exact ⟨s3, b3, g⟩
      · exact ⟨s3, b3, g⟩
    subst hb3
    show Ev X _ _ 190 [Vr 166, Vi (r : Int), Vi ((30 * (bk : Int)) + (r : Int)), Vi (p : Int), Vi (o : Int), Vx] [Vi v] ((SHv st dr rd), (ovl a s3 b3)) _
    refine Ev.fin (k := 1) (r := (some (Vi v))) (h' := ((SHv st dr rd), (ovl a s3 b3))) (fun _ => Ev_retz rfl (by omega)) ?_
    rcases hq3 with ⟨rfl, g1, g2⟩ | ⟨rfl, g1, g2⟩
    · rw [if_pos g1] at hds
      exact Or.inl ⟨_, hds, g2⟩
    · rw [if_neg g1] at hds
      exact Or.inr ⟨hds, g2⟩
