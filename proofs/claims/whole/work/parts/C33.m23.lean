/-! THE CLASS: the fairest is sought -/
def FaV (G : GST) (f : Int × Int) (a : SC) : Prop := ((f.1 = -1 ∧ f.2 = -1) ∨ 0 ≤ f.1) ∧ a 165 3 = f.2 ∧ ∀ w, w < 3 → a 165 w = if f.1 = -1 then -1 else chgW (gS G) f.1.toNat w
def FaI (G : GST) (a0 : SC) (f : Int × Int) (a : SC) : Prop := (∀ o, ¬ (138 ≤ o ∧ o ≤ 163) → o ≠ 165 → a o = a0 o) ∧ (∀ i, i ≠ 5 → a 141 i = a0 141 i) ∧ a 141 5 = 1 ∧ a 156 0 = 0 ∧ FaV G f a
theorem farJ_s {G : GST} {m : Nat} : farJ G (m + 1) = if (farJ G m).2 < farV G (nL (gS G) + m) then (((nL (gS G) + m : Nat) : Int), farV G (nL (gS G) + m)) else farJ G m := rfl
theorem farV_g {G : GST} {j : Nat} {B : SC} (h : chgB (gS G) (gE G) j = B) : farV G j = goodS (gS G) B (gn G) := by
  rw [← h]
  rfl
theorem c_fa_r_1 {X : List Int} {d : Nat} {rd : Int} {a s b : C3} {y z : Nat} {G : GST} {a0 : C3} (hT : TopC G a0 rd y z) (hn0 : 0 < gn G) {Q : Option pm_V → pm_H → Prop} (i : Nat) (hi : i < nW (gS G)) (K : ∀ (a2 : C3) (zz : pm_V), FaI G a0 (farJ G (0 + (i + 1) * nR (gS G))) a2 → Ev X (d + 6) 150 150 [Vr 141, Vr (y : Int), Vr 119, Vr 138, Vi 1, Vi (i : Int), Vi ((nR (gS G) : Nat) : Int), zz] [] (SHv (y : Int) (z : Int) rd, ovl a2 s b) Q) (r : Nat) (zz : pm_V) (hr : r ≤ nR (gS G)) (hI : FaI G a0 (farJ G (r + i * nR (gS G))) a) : Ev X (d + 6) 150 48 [Vr 141, Vr (y : Int), Vr 119, Vr 138, Vi 1, Vi (i : Int), Vi (r : Int), zz] [] (SHv (y : Int) (z : Int) rd, ovl a s b) Q := by
  induction hkk : (nR (gS G) - r) using Nat.strongRecOn generalizing r zz a with
  | ind kk ih =>
    obtain ⟨hyz, hrd, hY, hWY, hBB, hWB, hWE, hn180, ⟨e7, e6, e5, e0, hEv⟩, hTp, hfk, hfp, hCh, h156, hOwn⟩ := id hT
    have hy : hyS y := by show y = 2 ∨ y = 58; omega
    have hy0 : y = 2 ∨ y = 58 := hy
    have hW8 := hWY.2.2.1.1
    have hR8 := hWY.1.1
    have hT8 := hWY.2.2.2.1.1
    have hL30 := hWY.2.2.2.2.1.1
    have hC12 := hWY.2.2.2.2.2.1.1
    have hE := hEv hn0
    obtain ⟨I1, I2, I3, I4, I5⟩ := id hI
    have hB127 : RbC (gS G) (gE G) a 127 := hE.2.2.2.2.2.fr (fun o g1 g2 => I1 o (by omega) (by omega))
    have e7a : a 119 7 = ((gn G : Nat) : Int) := by rw [I1 119 (by omega) (by omega)]; exact e7
    have hcR : a (y + 1) 0 = ((nR (gS G) : Nat) : Int) := by rw [I1 (y + 1) (by omega) (by omega), hY.1 0 (by omega)]; exact hWY.1.2
    refine Ev.steps (k := 2) (pc' := 51) (L' := [Vr 141, Vr (y : Int), Vr 119, Vr 138, Vi 1, Vi (i : Int), Vi (r : Int), zz]) (S' := [Vr (y : Int), Vi (r : Int)]) (h' := ((SHv (y : Int) (z : Int) rd), (ovl a s b))) (fun _ => rfl) ?_
    refine Ev.getr (r := ((y : Int) + 1)) rfl rfl (by omega) (shY_0 hy) rfl rfl rfl ?_
    refine Ev.steps (k := 1) (pc' := 55) (L' := [Vr 141, Vr (y : Int), Vr 119, Vr 138, Vi 1, Vi (i : Int), Vi (r : Int), zz]) (S' := [Vi 0, Vr ((y : Int) + 1), Vi (r : Int)]) (h' := ((SHv (y : Int) (z : Int) rd), (ovl a s b))) (fun _ => rfl) ?_
    refine Ev.iald (v := ((nR (gS G) : Nat) : Int)) rfl (by omega) (shY_1 hy) (by omega) (by omega) ((ovl_rc (by omega)).trans (hcR)) ?_
    refine Ev.ite (P := ((nR (gS G) : Nat) : Int) ≤ (r : Int)) (k := 1) (a := 150) (b := 59) (L' := [Vr 141, Vr (y : Int), Vr 119, Vr 138, Vi 1, Vi (i : Int), Vi (r : Int), zz]) (S' := []) (h' := ((SHv (y : Int) (z : Int) rd), (ovl a s b))) (fun _ => rfl) (fun b56 => ?_) (fun b56 => ?_)
    · obtain rfl : r = nR (gS G) := by omega
      exact K a zz (by
        have e : (0 + (i + 1) * nR (gS G)) = (nR (gS G) + i * nR (gS G)) := by first | omega | (rw [Nat.succ_mul]; omega)
        rw [e]
        exact hI)
    · have hr2 : r < nR (gS G) := by omega
      obtain ⟨cg1, cg2, cg3⟩ := chg_1 (B := gE G) hr2 hi
      clear cg3
      have hfv := farV_g cg1
      have hfs := fun (_ : Unit) => farJ_s (G := G) (m := (r + i * nR (gS G)))
      obtain ⟨f, hf⟩ : ∃ f, f = farJ G (r + i * nR (gS G)) := ⟨_, rfl⟩
      rw [← hf] at I5 hfs
      refine Ev.call (k := 7) (pc1 := 73) (L1 := [Vr 141, Vr (y : Int), Vr 119, Vr 138, Vi 1, Vi (i : Int), Vi (r : Int), zz]) (S1 := [Vi (r : Int), Vi (i : Int), Vi 1, Vr 127, Vr 161]) (h1 := ((SHv (y : Int) (z : Int) rd), (ovl a s b))) (m' := 126) (as := [Vr 161, Vr 127, Vi 1, Vi (i : Int), Vi (r : Int)]) (S' := []) (L0 := [Vr 161, Vr 127, Vi 1, Vi (i : Int), Vi (r : Int), Vx]) (fun _ => rfl) rfl rfl rfl rfl rfl rfl (c_change_1 hW8 hT8 hL30 hB127 i r hi (by omega)) (fun r h' hq => ?_)
      obtain ⟨rfl, a1, rfl, f1, f2⟩ := hq
      show Ev X _ _ 76 [Vr 141, Vr (y : Int), Vr 119, Vr 138, Vi 1, Vi (i : Int), Vi (r : Int), zz] [] ((SHv (y : Int) (z : Int) rd), (ovl a1 s b)) _
      refine Ev.steps (k := 7) (pc' := 89) (L' := [Vr 141, Vr (y : Int), Vr 119, Vr 138, Vi 1, Vi (i : Int), Vi (r : Int), zz]) (S' := [Vi (a1 119 7), Vr 161, Vr (y : Int), Vr 142]) (h' := ((SHv (y : Int) (z : Int) rd), (ovl a1 s b))) (fun _ => rfl) ?_
      rw [(show a1 119 7 = ((gn G : Nat) : Int) by rw [f1 119 (by omega)]; exact e7a)]
      refine Ev.call (k := 1) (pc1 := 90) (L1 := [Vr 141, Vr (y : Int), Vr 119, Vr 138, Vi 1, Vi (i : Int), Vi (r : Int), zz]) (S1 := [Vi 1, Vi ((gn G : Nat) : Int), Vr 161, Vr (y : Int), Vr 142]) (h1 := ((SHv (y : Int) (z : Int) rd), (ovl a1 s b))) (m' := 77) (as := [Vr 142, Vr (y : Int), Vr 161, Vi ((gn G : Nat) : Int), Vi 1]) (S' := []) (L0 := [Vr 142, Vr (y : Int), Vr 161, Vi ((gn G : Nat) : Int), Vi 1, Vx, Vx, Vx]) (fun _ => rfl) rfl rfl rfl rfl rfl rfl (c_pass (u := 142) (Or.inr rfl) hy 161 (gn G) 1 hWY (upd0_wf hWE hr2) hn180 (Or.inr rfl) (hY.fr (fun o g1 g2 => by rw [f1 o (by omega), I1 o (by omega) (by omega)]) hL30 hC12) f2 (fun h => absurd h (by omega)) (fun _ => by rw [f1 156 (by omega)]; exact I4)) (fun r h' hq => ?_)
      obtain ⟨rfl, a2, rfl, p1, p3, p2⟩ := hq
      have h156b : a2 156 0 = 0 := p3 rfl
      clear p3
      show Ev X _ _ 93 [Vr 141, Vr (y : Int), Vr 119, Vr 138, Vi 1, Vi (i : Int), Vi (r : Int), zz] [] ((SHv (y : Int) (z : Int) rd), (ovl a2 s b)) _
      refine Ev.call (k := 3) (pc1 := 96) (L1 := [Vr 141, Vr (y : Int), Vr 119, Vr 138, Vi 1, Vi (i : Int), Vi (r : Int), zz]) (S1 := [Vr 138, Vr (y : Int), Vr 141]) (h1 := ((SHv (y : Int) (z : Int) rd), (ovl a2 s b))) (m' := 151) (as := [Vr 141, Vr (y : Int), Vr 138]) (S' := []) (L0 := [Vr 141, Vr (y : Int), Vr 138, Vx]) (fun _ => rfl) rfl rfl rfl rfl rfl rfl (c_least2 hy hWY (upd0_wf hWE hr2) hn180 hn0 (by rw [p1 (y + 1) (by omega), f1 (y + 1) (by omega), I1 (y + 1) (by omega) (by omega), hY.1 2 (by omega)]; exact hWY.2.2.1.2) p2) (fun r h' hq => ?_)
      obtain ⟨rfl, a3, rfl, q1⟩ := hq
      rw [← hfv]
      obtain ⟨gv, hgv⟩ : ∃ gv, gv = farV G (nL (gS G) + (r + i * nR (gS G))) := ⟨_, rfl⟩
      rw [← hgv] at hfs ⊢
      clear p2 hfv
      have F : ∀ o, o < 138 ∨ 163 < o ∨ o = 141 ∨ o = 156 → a3 o = a o ∨ o = 156 := fun o ho => by
        by_cases h : o = 156
        · exact Or.inr h
        · exact Or.inl (by rw [q1 o (by omega), p1 o (by omega), f1 o (by omega)])
      have F : ∀ o, o < 138 ∨ 163 < o ∨ o = 141 → a3 o = a o := fun o ho => by rw [q1 o (by omega), p1 o (by omega), f1 o (by omega)]
      have h156c : a3 156 0 = 0 := by rw [q1 156 (by omega)]; exact h156b
      show Ev X _ _ 99 [Vr 141, Vr (y : Int), Vr 119, Vr 138, Vi 1, Vi (i : Int), Vi (r : Int), zz] [Vi gv] ((SHv (y : Int) (z : Int) rd), (ovl a3 s b)) _
      refine Ev.steps (k := 6) (pc' := 109) (L' := [Vr 141, Vr (y : Int), Vr 119, Vr 138, Vi 1, Vi (i : Int), Vi (r : Int), Vi gv]) (S' := [Vi (a3 165 3), Vi gv]) (h' := ((SHv (y : Int) (z : Int) rd), (ovl a3 s b))) (fun _ => rfl) ?_
      rw [(show a3 165 3 = f.2 by rw [F 165 (by omega)]; exact I5.2.1)]
      refine Ev.ite (P := gv ≤ f.2) (k := 1) (a := 144) (b := 112) (L' := [Vr 141, Vr (y : Int), Vr 119, Vr 138, Vi 1, Vi (i : Int), Vi (r : Int), Vi gv]) (S' := []) (h' := ((SHv (y : Int) (z : Int) rd), (ovl a3 s b))) (fun _ => rfl) (fun b109 => ?_) (fun b109 => ?_)
      · refine Ev.steps (k := 1) (pc' := 147) (L' := [Vr 141, Vr (y : Int), Vr 119, Vr 138, Vi 1, Vi (i : Int), Vi (w32 ((r : Int) + 1)), Vi gv]) (S' := []) (h' := ((SHv (y : Int) (z : Int) rd), (ovl a3 s b))) (fun _ => rfl) ?_
        rw [show (w32 ((r : Int) + 1)) = ((r : Int) + 1) from w32_id (by unfold R32; omega)]
        refine Ev.steps (k := 1) (pc' := 48) (L' := [Vr 141, Vr (y : Int), Vr 119, Vr 138, Vi 1, Vi (i : Int), Vi ((r : Int) + 1), Vi gv]) (S' := []) (h' := ((SHv (y : Int) (z : Int) rd), (ovl a3 s b))) (fun _ => rfl) ?_
        refine ih _ (by omega) (a := a3) (r + 1) _ (by omega) ?_ rfl
        have e : ((r + 1) + i * nR (gS G)) = (r + i * nR (gS G)) + 1 := by omega
        rw [e, (hfs ()).trans (if_neg (by omega))]
        refine ⟨fun o h1 h2 => by rw [F o (by omega)]; exact I1 o h1 h2, fun i h => by rw [F 141 (by omega)]; exact I2 i h, by rw [F 141 (by omega)]; exact I3, h156c, ?_⟩
        unfold FaV
        rw [F 165 (by omega)]
        exact I5
      · refine Ev.steps (k := 4) (pc' := 119) (L' := [Vr 141, Vr (y : Int), Vr 119, Vr 138, Vi 1, Vi (i : Int), Vi (r : Int), Vi gv]) (S' := [Vi 1, Vi 0, Vr 165]) (h' := ((SHv (y : Int) (z : Int) rd), (ovl a3 s b))) (fun _ => rfl) ?_
        refine Ev.iast (c' := (ovl (updC a3 165 0 1) s b)) rfl (by decide) rfl (by omega) (by omega) (ovl_wc (by decide)) ?_
        refine Ev.steps (k := 4) (pc' := 127) (L' := [Vr 141, Vr (y : Int), Vr 119, Vr 138, Vi 1, Vi (i : Int), Vi (r : Int), Vi gv]) (S' := [Vi (i : Int), Vi 1, Vr 165]) (h' := ((SHv (y : Int) (z : Int) rd), (ovl (updC a3 165 0 1) s b))) (fun _ => rfl) ?_
        refine Ev.iast (c' := (ovl (updC (updC a3 165 0 1) 165 1 (i : Int)) s b)) rfl (by decide) rfl (by omega) (by omega) (ovl_wc (by decide)) ?_
        refine Ev.steps (k := 4) (pc' := 135) (L' := [Vr 141, Vr (y : Int), Vr 119, Vr 138, Vi 1, Vi (i : Int), Vi (r : Int), Vi gv]) (S' := [Vi (r : Int), Vi 2, Vr 165]) (h' := ((SHv (y : Int) (z : Int) rd), (ovl (updC (updC a3 165 0 1) 165 1 (i : Int)) s b))) (fun _ => rfl) ?_
        refine Ev.iast (c' := (ovl (updC (updC (updC a3 165 0 1) 165 1 (i : Int)) 165 2 (r : Int)) s b)) rfl (by decide) rfl (by omega) (by omega) (ovl_wc (by decide)) ?_
        refine Ev.steps (k := 4) (pc' := 143) (L' := [Vr 141, Vr (y : Int), Vr 119, Vr 138, Vi 1, Vi (i : Int), Vi (r : Int), Vi gv]) (S' := [Vi gv, Vi 3, Vr 165]) (h' := ((SHv (y : Int) (z : Int) rd), (ovl (updC (updC (updC a3 165 0 1) 165 1 (i : Int)) 165 2 (r : Int)) s b))) (fun _ => rfl) ?_
        refine Ev.iast (c' := (ovl (updC (updC (updC (updC a3 165 0 1) 165 1 (i : Int)) 165 2 (r : Int)) 165 3 gv) s b)) rfl (by decide) rfl (by omega) (by omega) (ovl_wc (by decide)) ?_
        refine Ev.steps (k := 1) (pc' := 147) (L' := [Vr 141, Vr (y : Int), Vr 119, Vr 138, Vi 1, Vi (i : Int), Vi (w32 ((r : Int) + 1)), Vi gv]) (S' := []) (h' := ((SHv (y : Int) (z : Int) rd), (ovl (updC (updC (updC (updC a3 165 0 1) 165 1 (i : Int)) 165 2 (r : Int)) 165 3 gv) s b))) (fun _ => rfl) ?_
        rw [show (w32 ((r : Int) + 1)) = ((r : Int) + 1) from w32_id (by unfold R32; omega)]
        refine Ev.steps (k := 1) (pc' := 48) (L' := [Vr 141, Vr (y : Int), Vr 119, Vr 138, Vi 1, Vi (i : Int), Vi ((r : Int) + 1), Vi gv]) (S' := []) (h' := ((SHv (y : Int) (z : Int) rd), (ovl (updC (updC (updC (updC a3 165 0 1) 165 1 (i : Int)) 165 2 (r : Int)) 165 3 gv) s b))) (fun _ => rfl) ?_
        refine ih _ (by omega) (a := (updC (updC (updC (updC a3 165 0 1) 165 1 (i : Int)) 165 2 (r : Int)) 165 3 gv)) (r + 1) _ (by omega) ?_ rfl
        have e : ((r + 1) + i * nR (gS G)) = (r + i * nR (gS G)) + 1 := by omega
        rw [e, (hfs ()).trans (if_pos (by omega))]
        refine ⟨fun o h1 h2 => ?_, fun i h => ?_, ?_, ?_, ⟨Or.inr (by show (0 : Int) ≤ ((nL (gS G) + (r + i * nR (gS G)) : Nat) : Int); omega), ?_, fun w hw => ?_⟩⟩
        · rw [updC_row h2, updC_row h2, updC_row h2, updC_row h2, F o (by omega)]; exact I1 o h1 h2
        · rw [updC_row (by omega), updC_row (by omega), updC_row (by omega), updC_row (by omega), F 141 (by omega)]; exact I2 i h
        · rw [updC_row (by omega), updC_row (by omega), updC_row (by omega), updC_row (by omega), F 141 (by omega)]; exact I3
        · rw [updC_row (by omega), updC_row (by omega), updC_row (by omega), updC_row (by omega)]; exact h156c
        · rw [updC_sm]
        · show _ = if (((nL (gS G) + (r + i * nR (gS G)) : Nat) : Int)) = -1 then -1 else chgW (gS G) (((nL (gS G) + (r + i * nR (gS G)) : Nat) : Int)).toNat w
          rw [if_neg (by omega), Int.toNat_natCast, cg2]
          rcases (show w = 0 ∨ w = 1 ∨ w = 2 by omega) with rfl | rfl | rfl
          · rw [updC_nt (by omega), updC_nt (by omega), updC_nt (by omega), updC_sm]; rfl
          · rw [updC_nt (by omega), updC_nt (by omega), updC_sm]; rfl
          · rw [updC_nt (by omega), updC_sm]; rfl
theorem c_fa_n_1 {X : List Int} {d : Nat} {rd : Int} {a s b : C3} {y z : Nat} {G : GST} {a0 : C3} (hT : TopC G a0 rd y z) (hn0 : 0 < gn G) {Q : Option pm_V → pm_H → Prop} (K : ∀ (a2 : C3) (z6 z7 : pm_V), FaI G a0 (farJ G (nW (gS G) * nR (gS G))) a2 → Ev X (d + 6) 150 156 [Vr 141, Vr (y : Int), Vr 119, Vr 138, Vi 1, Vi ((nW (gS G) : Nat) : Int), z6, z7] [] (SHv (y : Int) (z : Int) rd, ovl a2 s b) Q) (i : Nat) (z6 z7 : pm_V) (hi : i ≤ nW (gS G)) (hI : FaI G a0 (farJ G (0 + i * nR (gS G))) a) : Ev X (d + 6) 150 33 [Vr 141, Vr (y : Int), Vr 119, Vr 138, Vi 1, Vi (i : Int), z6, z7] [] (SHv (y : Int) (z : Int) rd, ovl a s b) Q := by
  induction hkk : (nW (gS G) - i) using Nat.strongRecOn generalizing i z6 z7 a with
  | ind kk ih =>
    obtain ⟨hyz, hrd, hY, hWY, hBB, hWB, hWE, hn180, ⟨e7, e6, e5, e0, hEv⟩, hTp, hfk, hfp, hCh, h156, hOwn⟩ := id hT
    have hy : hyS y := by show y = 2 ∨ y = 58; omega
    have hy0 : y = 2 ∨ y = 58 := hy
    have hW8 := hWY.2.2.1.1
    have hR8 := hWY.1.1
    have hT8 := hWY.2.2.2.1.1
    have hL30 := hWY.2.2.2.2.1.1
    have hC12 := hWY.2.2.2.2.2.1.1
    have hcc : a (y + 1) 2 = ((nW (gS G) : Nat) : Int) := by rw [hI.1 (y + 1) (by omega) (by omega), hY.1 2 (by omega)]; exact hWY.2.2.1.2
    refine Ev.call (k := 4) (pc1 := 39) (L1 := [Vr 141, Vr (y : Int), Vr 119, Vr 138, Vi 1, Vi (i : Int), z6, z7]) (S1 := [Vi 1, Vr (y : Int), Vr 141, Vi (i : Int)]) (h1 := ((SHv (y : Int) (z : Int) rd), (ovl a s b))) (m' := 148) (as := [Vr 141, Vr (y : Int), Vi 1]) (S' := [Vi (i : Int)]) (L0 := [Vr 141, Vr (y : Int), Vi 1]) (fun _ => rfl) rfl rfl rfl rfl rfl rfl (c_changeable_1 hy) (fun r h' hq => ?_)
    obtain ⟨rfl, rfl⟩ := hq
    rw [hcc]
    show Ev X _ _ 42 [Vr 141, Vr (y : Int), Vr 119, Vr 138, Vi 1, Vi (i : Int), z6, z7] [Vi ((nW (gS G) : Nat) : Int), Vi (i : Int)] ((SHv (y : Int) (z : Int) rd), (ovl a s b)) _
    refine Ev.ite (P := ((nW (gS G) : Nat) : Int) ≤ (i : Int)) (k := 1) (a := 156) (b := 45) (L' := [Vr 141, Vr (y : Int), Vr 119, Vr 138, Vi 1, Vi (i : Int), z6, z7]) (S' := []) (h' := ((SHv (y : Int) (z : Int) rd), (ovl a s b))) (fun _ => rfl) (fun b42 => ?_) (fun b42 => ?_)
    · obtain rfl : i = nW (gS G) := by omega
      exact K a z6 z7 (by
        have e : (nW (gS G) * nR (gS G)) = (0 + nW (gS G) * nR (gS G)) := by omega
        rw [e]
        exact hI)
    · refine Ev.steps (k := 2) (pc' := 48) (L' := [Vr 141, Vr (y : Int), Vr 119, Vr 138, Vi 1, Vi (i : Int), Vi 0, z7]) (S' := []) (h' := ((SHv (y : Int) (z : Int) rd), (ovl a s b))) (fun _ => rfl) ?_
      refine c_fa_r_1 hT hn0 i (by omega) (fun a2 zz i1 => ?_) 0 _ (by omega) hI
      refine Ev.steps (k := 1) (pc' := 153) (L' := [Vr 141, Vr (y : Int), Vr 119, Vr 138, Vi 1, Vi (w32 ((i : Int) + 1)), Vi ((nR (gS G) : Nat) : Int), zz]) (S' := []) (h' := ((SHv (y : Int) (z : Int) rd), (ovl a2 s b))) (fun _ => rfl) ?_
      rw [show (w32 ((i : Int) + 1)) = ((i : Int) + 1) from w32_id (by unfold R32; omega)]
      refine Ev.steps (k := 1) (pc' := 33) (L' := [Vr 141, Vr (y : Int), Vr 119, Vr 138, Vi 1, Vi ((i : Int) + 1), Vi ((nR (gS G) : Nat) : Int), zz]) (S' := []) (h' := ((SHv (y : Int) (z : Int) rd), (ovl a2 s b))) (fun _ => rfl) ?_
      exact ih _ (by omega) (a := a2) (i + 1) _ _ (by omega) i1 rfl
theorem c_fa_r_2 {X : List Int} {d : Nat} {rd : Int} {a s b : C3} {y z : Nat} {G : GST} {a0 : C3} (hT : TopC G a0 rd y z) (hn0 : 0 < gn G) {Q : Option pm_V → pm_H → Prop} (i : Nat) (hi : i < nT (gS G)) (K : ∀ (a2 : C3) (zz : pm_V), FaI G a0 (farJ G (nW (gS G) * nR (gS G) + (0 + (i + 1) * nR (gS G)))) a2 → Ev X (d + 6) 150 150 [Vr 141, Vr (y : Int), Vr 119, Vr 138, Vi 2, Vi (i : Int), Vi ((nR (gS G) : Nat) : Int), zz] [] (SHv (y : Int) (z : Int) rd, ovl a2 s b) Q) (r : Nat) (zz : pm_V) (hr : r ≤ nR (gS G)) (hI : FaI G a0 (farJ G (nW (gS G) * nR (gS G) + (r + i * nR (gS G)))) a) : Ev X (d + 6) 150 48 [Vr 141, Vr (y : Int), Vr 119, Vr 138, Vi 2, Vi (i : Int), Vi (r : Int), zz] [] (SHv (y : Int) (z : Int) rd, ovl a s b) Q := by
  induction hkk : (nR (gS G) - r) using Nat.strongRecOn generalizing r zz a with
  | ind kk ih =>
    obtain ⟨hyz, hrd, hY, hWY, hBB, hWB, hWE, hn180, ⟨e7, e6, e5, e0, hEv⟩, hTp, hfk, hfp, hCh, h156, hOwn⟩ := id hT
    have hy : hyS y := by show y = 2 ∨ y = 58; omega
    have hy0 : y = 2 ∨ y = 58 := hy
    have hW8 := hWY.2.2.1.1
    have hR8 := hWY.1.1
    have hT8 := hWY.2.2.2.1.1
    have hL30 := hWY.2.2.2.2.1.1
    have hC12 := hWY.2.2.2.2.2.1.1
    have hE := hEv hn0
    obtain ⟨I1, I2, I3, I4, I5⟩ := id hI
    have hB127 : RbC (gS G) (gE G) a 127 := hE.2.2.2.2.2.fr (fun o g1 g2 => I1 o (by omega) (by omega))
    have e7a : a 119 7 = ((gn G : Nat) : Int) := by rw [I1 119 (by omega) (by omega)]; exact e7
    have hcR : a (y + 1) 0 = ((nR (gS G) : Nat) : Int) := by rw [I1 (y + 1) (by omega) (by omega), hY.1 0 (by omega)]; exact hWY.1.2
    refine Ev.steps (k := 2) (pc' := 51) (L' := [Vr 141, Vr (y : Int), Vr 119, Vr 138, Vi 2, Vi (i : Int), Vi (r : Int), zz]) (S' := [Vr (y : Int), Vi (r : Int)]) (h' := ((SHv (y : Int) (z : Int) rd), (ovl a s b))) (fun _ => rfl) ?_
    refine Ev.getr (r := ((y : Int) + 1)) rfl rfl (by omega) (shY_0 hy) rfl rfl rfl ?_
    refine Ev.steps (k := 1) (pc' := 55) (L' := [Vr 141, Vr (y : Int), Vr 119, Vr 138, Vi 2, Vi (i : Int), Vi (r : Int), zz]) (S' := [Vi 0, Vr ((y : Int) + 1), Vi (r : Int)]) (h' := ((SHv (y : Int) (z : Int) rd), (ovl a s b))) (fun _ => rfl) ?_
    refine Ev.iald (v := ((nR (gS G) : Nat) : Int)) rfl (by omega) (shY_1 hy) (by omega) (by omega) ((ovl_rc (by omega)).trans (hcR)) ?_
    refine Ev.ite (P := ((nR (gS G) : Nat) : Int) ≤ (r : Int)) (k := 1) (a := 150) (b := 59) (L' := [Vr 141, Vr (y : Int), Vr 119, Vr 138, Vi 2, Vi (i : Int), Vi (r : Int), zz]) (S' := []) (h' := ((SHv (y : Int) (z : Int) rd), (ovl a s b))) (fun _ => rfl) (fun b56 => ?_) (fun b56 => ?_)
    · obtain rfl : r = nR (gS G) := by omega
      exact K a zz (by
        have e : (nW (gS G) * nR (gS G) + (0 + (i + 1) * nR (gS G))) = (nW (gS G) * nR (gS G) + (nR (gS G) + i * nR (gS G))) := by first | omega | (rw [Nat.succ_mul]; omega)
        rw [e]
        exact hI)
    · have hr2 : r < nR (gS G) := by omega
      obtain ⟨cg1, cg2, cg3⟩ := chg_2 (B := gE G) hr2 hi
      clear cg3
      rw [Nat.add_assoc] at cg1 cg2
      have hfv := farV_g cg1
      have hfs := fun (_ : Unit) => farJ_s (G := G) (m := (nW (gS G) * nR (gS G) + (r + i * nR (gS G))))
      obtain ⟨f, hf⟩ : ∃ f, f = farJ G (nW (gS G) * nR (gS G) + (r + i * nR (gS G))) := ⟨_, rfl⟩
      rw [← hf] at I5 hfs
      refine Ev.call (k := 7) (pc1 := 73) (L1 := [Vr 141, Vr (y : Int), Vr 119, Vr 138, Vi 2, Vi (i : Int), Vi (r : Int), zz]) (S1 := [Vi (r : Int), Vi (i : Int), Vi 2, Vr 127, Vr 161]) (h1 := ((SHv (y : Int) (z : Int) rd), (ovl a s b))) (m' := 126) (as := [Vr 161, Vr 127, Vi 2, Vi (i : Int), Vi (r : Int)]) (S' := []) (L0 := [Vr 161, Vr 127, Vi 2, Vi (i : Int), Vi (r : Int), Vx]) (fun _ => rfl) rfl rfl rfl rfl rfl rfl (c_change_2 hW8 hT8 hL30 hB127 i r hi (by omega)) (fun r h' hq => ?_)
      obtain ⟨rfl, a1, rfl, f1, f2⟩ := hq
      show Ev X _ _ 76 [Vr 141, Vr (y : Int), Vr 119, Vr 138, Vi 2, Vi (i : Int), Vi (r : Int), zz] [] ((SHv (y : Int) (z : Int) rd), (ovl a1 s b)) _
      refine Ev.steps (k := 7) (pc' := 89) (L' := [Vr 141, Vr (y : Int), Vr 119, Vr 138, Vi 2, Vi (i : Int), Vi (r : Int), zz]) (S' := [Vi (a1 119 7), Vr 161, Vr (y : Int), Vr 142]) (h' := ((SHv (y : Int) (z : Int) rd), (ovl a1 s b))) (fun _ => rfl) ?_
      rw [(show a1 119 7 = ((gn G : Nat) : Int) by rw [f1 119 (by omega)]; exact e7a)]
      refine Ev.call (k := 1) (pc1 := 90) (L1 := [Vr 141, Vr (y : Int), Vr 119, Vr 138, Vi 2, Vi (i : Int), Vi (r : Int), zz]) (S1 := [Vi 1, Vi ((gn G : Nat) : Int), Vr 161, Vr (y : Int), Vr 142]) (h1 := ((SHv (y : Int) (z : Int) rd), (ovl a1 s b))) (m' := 77) (as := [Vr 142, Vr (y : Int), Vr 161, Vi ((gn G : Nat) : Int), Vi 1]) (S' := []) (L0 := [Vr 142, Vr (y : Int), Vr 161, Vi ((gn G : Nat) : Int), Vi 1, Vx, Vx, Vx]) (fun _ => rfl) rfl rfl rfl rfl rfl rfl (c_pass (u := 142) (Or.inr rfl) hy 161 (gn G) 1 hWY (upd1_wf hWE hr2) hn180 (Or.inr rfl) (hY.fr (fun o g1 g2 => by rw [f1 o (by omega), I1 o (by omega) (by omega)]) hL30 hC12) f2 (fun h => absurd h (by omega)) (fun _ => by rw [f1 156 (by omega)]; exact I4)) (fun r h' hq => ?_)
      obtain ⟨rfl, a2, rfl, p1, p3, p2⟩ := hq
      have h156b : a2 156 0 = 0 := p3 rfl
      clear p3
      show Ev X _ _ 93 [Vr 141, Vr (y : Int), Vr 119, Vr 138, Vi 2, Vi (i : Int), Vi (r : Int), zz] [] ((SHv (y : Int) (z : Int) rd), (ovl a2 s b)) _
      refine Ev.call (k := 3) (pc1 := 96) (L1 := [Vr 141, Vr (y : Int), Vr 119, Vr 138, Vi 2, Vi (i : Int), Vi (r : Int), zz]) (S1 := [Vr 138, Vr (y : Int), Vr 141]) (h1 := ((SHv (y : Int) (z : Int) rd), (ovl a2 s b))) (m' := 151) (as := [Vr 141, Vr (y : Int), Vr 138]) (S' := []) (L0 := [Vr 141, Vr (y : Int), Vr 138, Vx]) (fun _ => rfl) rfl rfl rfl rfl rfl rfl (c_least2 hy hWY (upd1_wf hWE hr2) hn180 hn0 (by rw [p1 (y + 1) (by omega), f1 (y + 1) (by omega), I1 (y + 1) (by omega) (by omega), hY.1 2 (by omega)]; exact hWY.2.2.1.2) p2) (fun r h' hq => ?_)
      obtain ⟨rfl, a3, rfl, q1⟩ := hq
      rw [← hfv]
      obtain ⟨gv, hgv⟩ : ∃ gv, gv = farV G (nL (gS G) + (nW (gS G) * nR (gS G) + (r + i * nR (gS G)))) := ⟨_, rfl⟩
      rw [← hgv] at hfs ⊢
      clear p2 hfv
      have F : ∀ o, o < 138 ∨ 163 < o ∨ o = 141 ∨ o = 156 → a3 o = a o ∨ o = 156 := fun o ho => by
        by_cases h : o = 156
        · exact Or.inr h
        · exact Or.inl (by rw [q1 o (by omega), p1 o (by omega), f1 o (by omega)])
      have F : ∀ o, o < 138 ∨ 163 < o ∨ o = 141 → a3 o = a o := fun o ho => by rw [q1 o (by omega), p1 o (by omega), f1 o (by omega)]
      have h156c : a3 156 0 = 0 := by rw [q1 156 (by omega)]; exact h156b
      show Ev X _ _ 99 [Vr 141, Vr (y : Int), Vr 119, Vr 138, Vi 2, Vi (i : Int), Vi (r : Int), zz] [Vi gv] ((SHv (y : Int) (z : Int) rd), (ovl a3 s b)) _
      refine Ev.steps (k := 6) (pc' := 109) (L' := [Vr 141, Vr (y : Int), Vr 119, Vr 138, Vi 2, Vi (i : Int), Vi (r : Int), Vi gv]) (S' := [Vi (a3 165 3), Vi gv]) (h' := ((SHv (y : Int) (z : Int) rd), (ovl a3 s b))) (fun _ => rfl) ?_
      rw [(show a3 165 3 = f.2 by rw [F 165 (by omega)]; exact I5.2.1)]
      refine Ev.ite (P := gv ≤ f.2) (k := 1) (a := 144) (b := 112) (L' := [Vr 141, Vr (y : Int), Vr 119, Vr 138, Vi 2, Vi (i : Int), Vi (r : Int), Vi gv]) (S' := []) (h' := ((SHv (y : Int) (z : Int) rd), (ovl a3 s b))) (fun _ => rfl) (fun b109 => ?_) (fun b109 => ?_)
      · refine Ev.steps (k := 1) (pc' := 147) (L' := [Vr 141, Vr (y : Int), Vr 119, Vr 138, Vi 2, Vi (i : Int), Vi (w32 ((r : Int) + 1)), Vi gv]) (S' := []) (h' := ((SHv (y : Int) (z : Int) rd), (ovl a3 s b))) (fun _ => rfl) ?_
        rw [show (w32 ((r : Int) + 1)) = ((r : Int) + 1) from w32_id (by unfold R32; omega)]
        refine Ev.steps (k := 1) (pc' := 48) (L' := [Vr 141, Vr (y : Int), Vr 119, Vr 138, Vi 2, Vi (i : Int), Vi ((r : Int) + 1), Vi gv]) (S' := []) (h' := ((SHv (y : Int) (z : Int) rd), (ovl a3 s b))) (fun _ => rfl) ?_
        refine ih _ (by omega) (a := a3) (r + 1) _ (by omega) ?_ rfl
        have e : (nW (gS G) * nR (gS G) + ((r + 1) + i * nR (gS G))) = (nW (gS G) * nR (gS G) + (r + i * nR (gS G))) + 1 := by omega
        rw [e, (hfs ()).trans (if_neg (by omega))]
        refine ⟨fun o h1 h2 => by rw [F o (by omega)]; exact I1 o h1 h2, fun i h => by rw [F 141 (by omega)]; exact I2 i h, by rw [F 141 (by omega)]; exact I3, h156c, ?_⟩
        unfold FaV
        rw [F 165 (by omega)]
        exact I5
      · refine Ev.steps (k := 4) (pc' := 119) (L' := [Vr 141, Vr (y : Int), Vr 119, Vr 138, Vi 2, Vi (i : Int), Vi (r : Int), Vi gv]) (S' := [Vi 2, Vi 0, Vr 165]) (h' := ((SHv (y : Int) (z : Int) rd), (ovl a3 s b))) (fun _ => rfl) ?_
        refine Ev.iast (c' := (ovl (updC a3 165 0 2) s b)) rfl (by decide) rfl (by omega) (by omega) (ovl_wc (by decide)) ?_
        refine Ev.steps (k := 4) (pc' := 127) (L' := [Vr 141, Vr (y : Int), Vr 119, Vr 138, Vi 2, Vi (i : Int), Vi (r : Int), Vi gv]) (S' := [Vi (i : Int), Vi 1, Vr 165]) (h' := ((SHv (y : Int) (z : Int) rd), (ovl (updC a3 165 0 2) s b))) (fun _ => rfl) ?_
        refine Ev.iast (c' := (ovl (updC (updC a3 165 0 2) 165 1 (i : Int)) s b)) rfl (by decide) rfl (by omega) (by omega) (ovl_wc (by decide)) ?_
        refine Ev.steps (k := 4) (pc' := 135) (L' := [Vr 141, Vr (y : Int), Vr 119, Vr 138, Vi 2, Vi (i : Int), Vi (r : Int), Vi gv]) (S' := [Vi (r : Int), Vi 2, Vr 165]) (h' := ((SHv (y : Int) (z : Int) rd), (ovl (updC (updC a3 165 0 2) 165 1 (i : Int)) s b))) (fun _ => rfl) ?_
        refine Ev.iast (c' := (ovl (updC (updC (updC a3 165 0 2) 165 1 (i : Int)) 165 2 (r : Int)) s b)) rfl (by decide) rfl (by omega) (by omega) (ovl_wc (by decide)) ?_
        refine Ev.steps (k := 4) (pc' := 143) (L' := [Vr 141, Vr (y : Int), Vr 119, Vr 138, Vi 2, Vi (i : Int), Vi (r : Int), Vi gv]) (S' := [Vi gv, Vi 3, Vr 165]) (h' := ((SHv (y : Int) (z : Int) rd), (ovl (updC (updC (updC a3 165 0 2) 165 1 (i : Int)) 165 2 (r : Int)) s b))) (fun _ => rfl) ?_
        refine Ev.iast (c' := (ovl (updC (updC (updC (updC a3 165 0 2) 165 1 (i : Int)) 165 2 (r : Int)) 165 3 gv) s b)) rfl (by decide) rfl (by omega) (by omega) (ovl_wc (by decide)) ?_
        refine Ev.steps (k := 1) (pc' := 147) (L' := [Vr 141, Vr (y : Int), Vr 119, Vr 138, Vi 2, Vi (i : Int), Vi (w32 ((r : Int) + 1)), Vi gv]) (S' := []) (h' := ((SHv (y : Int) (z : Int) rd), (ovl (updC (updC (updC (updC a3 165 0 2) 165 1 (i : Int)) 165 2 (r : Int)) 165 3 gv) s b))) (fun _ => rfl) ?_
        rw [show (w32 ((r : Int) + 1)) = ((r : Int) + 1) from w32_id (by unfold R32; omega)]
        refine Ev.steps (k := 1) (pc' := 48) (L' := [Vr 141, Vr (y : Int), Vr 119, Vr 138, Vi 2, Vi (i : Int), Vi ((r : Int) + 1), Vi gv]) (S' := []) (h' := ((SHv (y : Int) (z : Int) rd), (ovl (updC (updC (updC (updC a3 165 0 2) 165 1 (i : Int)) 165 2 (r : Int)) 165 3 gv) s b))) (fun _ => rfl) ?_
        refine ih _ (by omega) (a := (updC (updC (updC (updC a3 165 0 2) 165 1 (i : Int)) 165 2 (r : Int)) 165 3 gv)) (r + 1) _ (by omega) ?_ rfl
        have e : (nW (gS G) * nR (gS G) + ((r + 1) + i * nR (gS G))) = (nW (gS G) * nR (gS G) + (r + i * nR (gS G))) + 1 := by omega
        rw [e, (hfs ()).trans (if_pos (by omega))]
        refine ⟨fun o h1 h2 => ?_, fun i h => ?_, ?_, ?_, ⟨Or.inr (by show (0 : Int) ≤ ((nL (gS G) + (nW (gS G) * nR (gS G) + (r + i * nR (gS G))) : Nat) : Int); omega), ?_, fun w hw => ?_⟩⟩
        · rw [updC_row h2, updC_row h2, updC_row h2, updC_row h2, F o (by omega)]; exact I1 o h1 h2
        · rw [updC_row (by omega), updC_row (by omega), updC_row (by omega), updC_row (by omega), F 141 (by omega)]; exact I2 i h
        · rw [updC_row (by omega), updC_row (by omega), updC_row (by omega), updC_row (by omega), F 141 (by omega)]; exact I3
        · rw [updC_row (by omega), updC_row (by omega), updC_row (by omega), updC_row (by omega)]; exact h156c
        · rw [updC_sm]
        · show _ = if (((nL (gS G) + (nW (gS G) * nR (gS G) + (r + i * nR (gS G))) : Nat) : Int)) = -1 then -1 else chgW (gS G) (((nL (gS G) + (nW (gS G) * nR (gS G) + (r + i * nR (gS G))) : Nat) : Int)).toNat w
          rw [if_neg (by omega), Int.toNat_natCast, cg2]
          rcases (show w = 0 ∨ w = 1 ∨ w = 2 by omega) with rfl | rfl | rfl
          · rw [updC_nt (by omega), updC_nt (by omega), updC_nt (by omega), updC_sm]; rfl
          · rw [updC_nt (by omega), updC_nt (by omega), updC_sm]; rfl
          · rw [updC_nt (by omega), updC_sm]; rfl
theorem c_fa_n_2 {X : List Int} {d : Nat} {rd : Int} {a s b : C3} {y z : Nat} {G : GST} {a0 : C3} (hT : TopC G a0 rd y z) (hn0 : 0 < gn G) {Q : Option pm_V → pm_H → Prop} (K : ∀ (a2 : C3) (z6 z7 : pm_V), FaI G a0 (farJ G (nW (gS G) * nR (gS G) + nT (gS G) * nR (gS G))) a2 → Ev X (d + 6) 150 156 [Vr 141, Vr (y : Int), Vr 119, Vr 138, Vi 2, Vi ((nT (gS G) : Nat) : Int), z6, z7] [] (SHv (y : Int) (z : Int) rd, ovl a2 s b) Q) (i : Nat) (z6 z7 : pm_V) (hi : i ≤ nT (gS G)) (hI : FaI G a0 (farJ G (nW (gS G) * nR (gS G) + (0 + i * nR (gS G)))) a) : Ev X (d + 6) 150 33 [Vr 141, Vr (y : Int), Vr 119, Vr 138, Vi 2, Vi (i : Int), z6, z7] [] (SHv (y : Int) (z : Int) rd, ovl a s b) Q := by
  induction hkk : (nT (gS G) - i) using Nat.strongRecOn generalizing i z6 z7 a with
  | ind kk ih =>
    obtain ⟨hyz, hrd, hY, hWY, hBB, hWB, hWE, hn180, ⟨e7, e6, e5, e0, hEv⟩, hTp, hfk, hfp, hCh, h156, hOwn⟩ := id hT
    have hy : hyS y := by show y = 2 ∨ y = 58; omega
    have hy0 : y = 2 ∨ y = 58 := hy
    have hW8 := hWY.2.2.1.1
    have hR8 := hWY.1.1
    have hT8 := hWY.2.2.2.1.1
    have hL30 := hWY.2.2.2.2.1.1
    have hC12 := hWY.2.2.2.2.2.1.1
    have hcc : a (y + 1) 3 = ((nT (gS G) : Nat) : Int) := by rw [hI.1 (y + 1) (by omega) (by omega), hY.1 3 (by omega)]; exact hWY.2.2.2.1.2
    refine Ev.call (k := 4) (pc1 := 39) (L1 := [Vr 141, Vr (y : Int), Vr 119, Vr 138, Vi 2, Vi (i : Int), z6, z7]) (S1 := [Vi 2, Vr (y : Int), Vr 141, Vi (i : Int)]) (h1 := ((SHv (y : Int) (z : Int) rd), (ovl a s b))) (m' := 148) (as := [Vr 141, Vr (y : Int), Vi 2]) (S' := [Vi (i : Int)]) (L0 := [Vr 141, Vr (y : Int), Vi 2]) (fun _ => rfl) rfl rfl rfl rfl rfl rfl (c_changeable_2 hy) (fun r h' hq => ?_)
    obtain ⟨rfl, rfl⟩ := hq
    rw [hcc]
    show Ev X _ _ 42 [Vr 141, Vr (y : Int), Vr 119, Vr 138, Vi 2, Vi (i : Int), z6, z7] [Vi ((nT (gS G) : Nat) : Int), Vi (i : Int)] ((SHv (y : Int) (z : Int) rd), (ovl a s b)) _
    refine Ev.ite (P := ((nT (gS G) : Nat) : Int) ≤ (i : Int)) (k := 1) (a := 156) (b := 45) (L' := [Vr 141, Vr (y : Int), Vr 119, Vr 138, Vi 2, Vi (i : Int), z6, z7]) (S' := []) (h' := ((SHv (y : Int) (z : Int) rd), (ovl a s b))) (fun _ => rfl) (fun b42 => ?_) (fun b42 => ?_)
    · obtain rfl : i = nT (gS G) := by omega
      exact K a z6 z7 (by
        have e : (nW (gS G) * nR (gS G) + nT (gS G) * nR (gS G)) = (nW (gS G) * nR (gS G) + (0 + nT (gS G) * nR (gS G))) := by omega
        rw [e]
        exact hI)
    · refine Ev.steps (k := 2) (pc' := 48) (L' := [Vr 141, Vr (y : Int), Vr 119, Vr 138, Vi 2, Vi (i : Int), Vi 0, z7]) (S' := []) (h' := ((SHv (y : Int) (z : Int) rd), (ovl a s b))) (fun _ => rfl) ?_
      refine c_fa_r_2 hT hn0 i (by omega) (fun a2 zz i1 => ?_) 0 _ (by omega) hI
      refine Ev.steps (k := 1) (pc' := 153) (L' := [Vr 141, Vr (y : Int), Vr 119, Vr 138, Vi 2, Vi (w32 ((i : Int) + 1)), Vi ((nR (gS G) : Nat) : Int), zz]) (S' := []) (h' := ((SHv (y : Int) (z : Int) rd), (ovl a2 s b))) (fun _ => rfl) ?_
      rw [show (w32 ((i : Int) + 1)) = ((i : Int) + 1) from w32_id (by unfold R32; omega)]
      refine Ev.steps (k := 1) (pc' := 33) (L' := [Vr 141, Vr (y : Int), Vr 119, Vr 138, Vi 2, Vi ((i : Int) + 1), Vi ((nR (gS G) : Nat) : Int), zz]) (S' := []) (h' := ((SHv (y : Int) (z : Int) rd), (ovl a2 s b))) (fun _ => rfl) ?_
      exact ih _ (by omega) (a := a2) (i + 1) _ _ (by omega) i1 rfl
theorem q_seekFairest {X : List Int} {d : Nat} {rd : Int} {a s b : C3} {y z : Nat} {G : GST} (hT : TopC G a rd y z) (hn0 : 0 < gn G) (hns : a 141 5 = 0) : Ev X (d + 6) 150 0 [Vr 141, Vr (y : Int), Vr 119, Vr 138, Vx, Vx, Vx, Vx] [] (SHv (y : Int) (z : Int) rd, ovl a s b) (fun rr hh => rr = none ∧ ∃ a' : C3, hh = (SHv (y : Int) (z : Int) rd, ovl a' s b) ∧ FaI G a (farA G) a') := by
  obtain ⟨hyz, hrd, hY, hWY, hBB, hWB, hWE, hn180, ⟨e7, e6, e5, e0, hEv⟩, hTp, hfk, hfp, hCh, h156, hOwn⟩ := id hT
  have hy : hyS y := by show y = 2 ∨ y = 58; omega
  have hy0 : y = 2 ∨ y = 58 := hy
  have hW8 := hWY.2.2.1.1
  have hR8 := hWY.1.1
  have hT8 := hWY.2.2.2.1.1
  have hL30 := hWY.2.2.2.2.1.1
  have hC12 := hWY.2.2.2.2.2.1.1
  refine Ev.steps (k := 2) (pc' := 4) (L' := [Vr 141, Vr (y : Int), Vr 119, Vr 138, Vx, Vx, Vx, Vx]) (S' := [Vi (a 141 5)]) (h' := ((SHv (y : Int) (z : Int) rd), (ovl a s b))) (fun _ => rfl) ?_
  rw [hns]
  refine Ev.steps (k := 3) (pc' := 10) (L' := [Vr 141, Vr (y : Int), Vr 119, Vr 138, Vx, Vx, Vx, Vx]) (S' := [Vi 1, Vr 141]) (h' := ((SHv (y : Int) (z : Int) rd), (ovl a s b))) (fun _ => rfl) ?_
  refine Ev.putz (c' := (ovl (updC a 141 5 1) s b)) rfl (by decide) rfl rfl rfl (by decide) (ovl_wc (by decide)) ?_
  refine Ev.call (k := 3) (pc1 := 18) (L1 := [Vr 141, Vr (y : Int), Vr 119, Vr 138, Vx, Vx, Vx, Vx]) (S1 := [Vi (-1), Vr 165]) (h1 := ((SHv (y : Int) (z : Int) rd), (ovl (updC a 141 5 1) s b))) (m' := 25) (as := [Vr 165, Vi (-1)]) (S' := []) (L0 := [Vr 165, Vi (-1), Vx, Vx]) (fun _ => rfl) rfl rfl rfl rfl rfl rfl (c_fill 165 4 (by omega) rfl (-1) (by omega)) (fun r h' hq => ?_)
  obtain ⟨rfl, a1, rfl, f1, f2⟩ := hq
  have hI : FaI G a (farJ G (0 + 0 * nR (gS G))) a1 := by
    have e : 0 + 0 * nR (gS G) = 0 := by omega
    rw [e]
    refine ⟨fun o ho h2 => by rw [f1 o (by omega), updC_row (by omega)], fun i hi => by rw [f1 141 (by omega), updC_nt (by omega)], by rw [f1 141 (by omega), updC_sm], by rw [f1 156 (by omega), updC_row (by omega)]; exact h156, Or.inl ⟨rfl, rfl⟩, f2 3 (by omega), fun w hw => f2 w (by omega)⟩
  show Ev X _ _ 21 [Vr 141, Vr (y : Int), Vr 119, Vr 138, Vx, Vx, Vx, Vx] [] ((SHv (y : Int) (z : Int) rd), (ovl a1 s b)) _
  refine Ev.steps (k := 7) (pc' := 33) (L' := [Vr 141, Vr (y : Int), Vr 119, Vr 138, Vi 1, Vi 0, Vx, Vx]) (S' := []) (h' := ((SHv (y : Int) (z : Int) rd), (ovl a1 s b))) (fun _ => rfl) ?_
  refine c_fa_n_1 hT hn0 (fun a2 z4 z5 k1 => ?_) 0 _ _ (by omega) hI
  refine Ev.steps (k := 7) (pc' := 33) (L' := [Vr 141, Vr (y : Int), Vr 119, Vr 138, Vi 2, Vi 0, z4, z5]) (S' := []) (h' := ((SHv (y : Int) (z : Int) rd), (ovl a2 s b))) (fun _ => rfl) ?_
  refine c_fa_n_2 hT hn0 (fun a3 z6 z7 m1 => ?_) 0 _ _ (by omega) (by rw [show nW (gS G) * nR (gS G) + (0 + 0 * nR (gS G)) = nW (gS G) * nR (gS G) by omega]; exact k1)
  refine Ev.fin (k := 6) (r := none) (h' := ((SHv (y : Int) (z : Int) rd), (ovl a3 s b))) (fun _ => rfl) ?_
  exact ⟨rfl, a3, rfl, m1⟩
theorem q_seekFa2 {X : List Int} {d : Nat} {rd : Int} {a s b : C3} {y z : Nat} {G : GST} (hT : TopC G a rd y z) (hn0 : 0 < gn G) : Ev X (d + 6) 150 0 [Vr 141, Vr (y : Int), Vr 119, Vr 138, Vx, Vx, Vx, Vx] [] (SHv (y : Int) (z : Int) rd, ovl a s b) (fun rr hh => rr = none ∧ ∃ a' : C3, hh = (SHv (y : Int) (z : Int) rd, ovl a' s b) ∧ TopC G a' rd y z ∧ ∀ w : Nat, w < 4 → a' 165 w = aFairest G w) := by
  obtain ⟨hyz, hrd, hY, hWY, hBB, hWB, hWE, hn180, hE, hTp, hfk, hfp, hCh, h156, hOwn⟩ := id hT
  have hL30 := hWY.2.2.2.2.1.1
  have hC12 := hWY.2.2.2.2.2.1.1
  obtain ⟨c1, c2, c3, c4⟩ := hCh
  by_cases h5 : a 141 5 = 0
  · refine Ev.mono (q_seekFairest hT hn0 h5) (fun r h' hq => ?_)
    obtain ⟨g1, a', g2, s1, s2, s3, s5, v1, v2, v3⟩ := hq
    have hval : ∀ w : Nat, w < 4 → a' 165 w = aFairest G w := fun w hw => by
      unfold aFairest
      by_cases h3 : w = 3
      · subst h3
        rw [v2]
        by_cases hs : (farA G).1 = -1
        · rw [if_neg (fun h => h.2.2 hs)]
          rcases v1 with v1 | v1
          · exact v1.2
          · omega
        · rw [if_pos ⟨⟨by omega, by omega⟩, hn0, hs⟩, if_pos (by omega)]
      · rw [v3 w (by omega)]
        by_cases hs : (farA G).1 = -1
        · rw [if_pos hs, if_neg (fun h => h.2.2 hs)]
        · rw [if_neg hs, if_pos ⟨⟨by omega, by omega⟩, hn0, hs⟩, if_neg (by omega)]
    refine ⟨g1, a', g2, ⟨hyz, hrd, hY.fr (fun o g1 g2 => s1 o (by omega) (by omega)) hL30 hC12, hWY, hBB.fr (fun o g1 g2 => s1 o (by omega) (by omega)), hWB, hWE, hn180, hE.fr (fun o g1 g2 => s1 o (by omega) (by omega)), ?_, ?_, ?_, ⟨by rw [s2 4 (by omega)]; exact c1, Or.inr s3, fun h4 => ?_, fun _ => ⟨hn0, hval⟩⟩, s5, ?_⟩, hval⟩
    · rw [s1 0 (by omega) (by omega), s1 1 (by omega) (by omega)]; exact hTp
    · rw [s1 114 (by omega) (by omega)]; exact hfk
    · rw [s1 114 (by omega) (by omega)]; exact hfp
    · rw [s2 4 (by omega)] at h4
      rw [s1 164 (by omega) (by omega)]
      exact c3 h4
    · unfold OwnC
      rw [s1 115 (by omega) (by omega)]; exact hOwn
  · have h51 : a 141 5 = 1 := by omega
    refine Ev.steps (k := 2) (pc' := 4) (L' := [Vr 141, Vr (y : Int), Vr 119, Vr 138, Vx, Vx, Vx, Vx]) (S' := [Vi (a 141 5)]) (h' := ((SHv (y : Int) (z : Int) rd), (ovl a s b))) (fun _ => rfl) ?_
    rw [h51]
    refine Ev.fin (k := 2) (r := none) (h' := ((SHv (y : Int) (z : Int) rd), (ovl a s b))) (fun _ => rfl) ?_
    exact ⟨rfl, a, rfl, hT, fun w hw => (c4 h51).2 w hw⟩
theorem h_fairest {X : List Int} {d : Nat} {rd : Int} {a s b : C3} {y z : Nat} {G : GST} (hT : TopC G a rd y z) (w : Int) : Ev X (d + 7) 149 0 [Vr 0, Vi w] [] (SHv (y : Int) (z : Int) rd, ovl a s b) (fun rr hh => rr = some (Vi (aFairest G w)) ∧ ∃ a' : C3, hh = (SHv (y : Int) (z : Int) rd, ovl a' s b) ∧ TopC G a' rd y z) := by
  obtain ⟨hyz, hrd, hY, hWY, hBB, hWB, hWE, hn180, ⟨e7, e6, e5, e0, hEv⟩, hTp, hfk, hfp, hCh, h156, hOwn⟩ := id hT
  have hy : hyS y := by show y = 2 ∨ y = 58; omega
  have hy0 : y = 2 ∨ y = 58 := hy
  have hW8 := hWY.2.2.1.1
  have hR8 := hWY.1.1
  have hT8 := hWY.2.2.2.1.1
  have hL30 := hWY.2.2.2.2.1.1
  have hC12 := hWY.2.2.2.2.2.1.1
  refine Ev.ite (P := w < 0) (k := 2) (a := 26) (b := 4) (L' := [Vr 0, Vi w]) (S' := []) (h' := ((SHv (y : Int) (z : Int) rd), (ovl a s b))) (fun _ => rfl) (fun b1 => ?_) (fun b1 => ?_)
  · refine Ev.fin (k := 2) (r := (some (Vi (-1)))) (h' := ((SHv (y : Int) (z : Int) rd), (ovl a s b))) (fun _ => rfl) ?_
    refine ⟨?_, a, rfl, hT⟩
    unfold aFairest
    rw [if_neg]
    rintro ⟨h1, h2, -⟩
    omega
  · refine Ev.ite (P := 4 ≤ w) (k := 6) (a := 26) (b := 16) (L' := [Vr 0, Vi w]) (S' := []) (h' := ((SHv (y : Int) (z : Int) rd), (ovl a s b))) (fun _ => rfl) (fun b13 => ?_) (fun b13 => ?_)
    · refine Ev.fin (k := 2) (r := (some (Vi (-1)))) (h' := ((SHv (y : Int) (z : Int) rd), (ovl a s b))) (fun _ => rfl) ?_
      refine ⟨?_, a, rfl, hT⟩
      unfold aFairest
      rw [if_neg]
      rintro ⟨h1, h2, -⟩
      omega
    · refine Ev.steps (k := 3) (pc' := 23) (L' := [Vr 0, Vi w]) (S' := [Vi (a 119 7)]) (h' := ((SHv (y : Int) (z : Int) rd), (ovl a s b))) (fun _ => rfl) ?_
      rw [e7]
      refine Ev.ite (P := ((gn G : Nat) : Int) ≠ 0) (k := 1) (a := 28) (b := 26) (L' := [Vr 0, Vi w]) (S' := []) (h' := ((SHv (y : Int) (z : Int) rd), (ovl a s b))) (fun _ => rfl) (fun b23 => ?_) (fun b23 => ?_)
      · have hn0 : 0 < gn G := by omega
        obtain ⟨ww, hww⟩ : ∃ ww : Nat, w = (ww : Int) := ⟨w.toNat, by omega⟩
        refine Ev.call (k := 8) (pc1 := 44) (L1 := [Vr 0, Vi w]) (S1 := [Vr 138, Vr 119, Vr (y : Int), Vr 141]) (h1 := ((SHv (y : Int) (z : Int) rd), (ovl a s b))) (m' := 150) (as := [Vr 141, Vr (y : Int), Vr 119, Vr 138]) (S' := []) (L0 := [Vr 141, Vr (y : Int), Vr 119, Vr 138, Vx, Vx, Vx, Vx]) (fun _ => rfl) rfl rfl rfl rfl rfl rfl (q_seekFa2 hT hn0) (fun r h' hq => ?_)
        obtain ⟨rfl, a1, rfl, hT1, hsp⟩ := hq
        have hw2 : a1 165 w.toNat = aFairest G w := by rw [hww, Int.toNat_natCast]; exact hsp ww (by omega)
        show Ev X _ _ 47 [Vr 0, Vi w] [] ((SHv (y : Int) (z : Int) rd), (ovl a1 s b)) _
        refine Ev.steps (k := 4) (pc' := 55) (L' := [Vr 0, Vi w]) (S' := [Vi w, Vr 165]) (h' := ((SHv (y : Int) (z : Int) rd), (ovl a1 s b))) (fun _ => rfl) ?_
        refine Ev.iald (v := (a1 165 (w).toNat)) rfl (by decide) rfl (by omega) (by omega) (rfl) ?_
        refine Ev.fin (k := 1) (r := (some (Vi (a1 165 (w).toNat)))) (h' := ((SHv (y : Int) (z : Int) rd), (ovl a1 s b))) (fun _ => rfl) ?_
        refine ⟨?_, a1, rfl, hT1⟩
        first | rw [hw2] | exact congrArg (fun z => some (Vi z)) hw2
      · refine Ev.fin (k := 2) (r := (some (Vi (-1)))) (h' := ((SHv (y : Int) (z : Int) rd), (ovl a s b))) (fun _ => rfl) ?_
        refine ⟨?_, a, rfl, hT⟩
        unfold aFairest
        rw [if_neg]
        rintro ⟨h1, h2, -⟩
        omega
