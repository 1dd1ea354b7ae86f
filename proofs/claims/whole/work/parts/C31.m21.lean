/-! THE CLASS: what spares -/
theorem alvS_mo {c c' : SC} : ∀ n, (∀ q, q < n → c' 1 q ≠ 0 → c 1 q ≠ 0) → alvS c' n ≤ alvS c n
  | 0, _ => Nat.le_refl 0
  | n + 1, h => by
    have h1 := alvS_mo n (fun q hq => h q (by omega))
    show alvS c' n + (if c' 1 n ≠ 0 then 1 else 0) ≤ alvS c n + (if c 1 n ≠ 0 then 1 else 0)
    by_cases g : c' 1 n ≠ 0
    · rw [if_pos g, if_pos (h n (by omega) g)]; omega
    · rw [if_neg g]
      split <;> omega
theorem ded_mo {S : STY} {B : SC} {m n : Nat} (hWY : WfY S) (hWB : WfB S B) (h : m ≤ n) (hn : n ≤ 180) : aftS S B m 9 0 ≤ aftS S B n 9 0 := by
  have h1 := (aftS_wf hWY hWB m (by omega)).2.1
  have h2 := (aftS_wf hWY hWB n hn).2.1
  have h3 : alvS (aftS S B n) (nW S) ≤ alvS (aftS S B m) (nW S) := alvS_mo _ (fun q _ hl h0 => hl (by
    have := (aftS_dd2 (B := B) (m := m) hWY h0 (n - m)).1
    rw [show m + (n - m) = n by omega] at this
    exact this))
  omega
theorem chg_1 {S : STY} {B : SC} {i r : Nat} (hr : r < nR S) (hi : i < nW S) : chgB S B (nL S + (r + i * nR S)) = updC B 0 i (r : Int) ∧ (∀ w, chgW S (nL S + (r + i * nR S)) w = if w = 0 then 1 else if w = 1 then (i : Int) else (r : Int)) ∧ nL S + (r + i * nR S) < nL S + nW S * nR S := by
  have h1 : (r + i * nR S) / nR S = i := by rw [Nat.add_mul_div_right _ _ (by omega), Nat.div_eq_of_lt hr, Nat.zero_add]
  have h2 : (r + i * nR S) % nR S = r := by rw [Nat.add_mul_mod_self_right, Nat.mod_eq_of_lt hr]
  have h3 : (i + 1) * nR S ≤ nW S * nR S := Nat.mul_le_mul_right _ hi
  rw [Nat.succ_mul] at h3
  have h4 : nL S + (r + i * nR S) < nL S + nW S * nR S := by omega
  refine ⟨?_, fun w => ?_, h4⟩
  · unfold chgB
    rw [if_neg (by omega), if_pos h4, Nat.add_sub_cancel_left, h1, h2]
  · unfold chgW
    rw [if_neg (by omega), if_pos h4, Nat.add_sub_cancel_left, h1, h2]
theorem chg_2 {S : STY} {B : SC} {i r : Nat} (hr : r < nR S) (hi : i < nT S) : chgB S B (nL S + nW S * nR S + (r + i * nR S)) = updC B 1 i (r : Int) ∧ (∀ w, chgW S (nL S + nW S * nR S + (r + i * nR S)) w = if w = 0 then 2 else if w = 1 then (i : Int) else (r : Int)) ∧ nL S + nW S * nR S + (r + i * nR S) < chgN S := by
  have h1 : (r + i * nR S) / nR S = i := by rw [Nat.add_mul_div_right _ _ (by omega), Nat.div_eq_of_lt hr, Nat.zero_add]
  have h2 : (r + i * nR S) % nR S = r := by rw [Nat.add_mul_mod_self_right, Nat.mod_eq_of_lt hr]
  have h3 : (i + 1) * nR S ≤ nT S * nR S := Nat.mul_le_mul_right _ hi
  rw [Nat.succ_mul] at h3
  have e : nL S + nW S * nR S + (r + i * nR S) - nL S - nW S * nR S = r + i * nR S := by omega
  refine ⟨?_, fun w => ?_, by unfold chgN; omega⟩
  · unfold chgB
    rw [if_neg (by omega), if_neg (by omega), e, h1, h2]
  · unfold chgW
    rw [if_neg (by omega), if_neg (by omega), e, h1, h2]
theorem chg_0 {S : STY} {B : SC} {i : Nat} (hi : i < nL S) : chgB S B i = outB B i ∧ (∀ w, chgW S i w = if w = 0 then 0 else if w = 1 then (i : Int) else -1) ∧ i < chgN S := by
  refine ⟨?_, fun w => ?_, by unfold chgN; omega⟩
  · unfold chgB
    rw [if_pos hi]
  · unfold chgW
    rw [if_pos hi]
theorem upd0_wf {S : STY} {B : SC} {i r : Nat} (h : WfB S B) (hr : r < nR S) : WfB S (updC B 0 i (r : Int)) := ⟨fun p hp => by
  rw [updC_if]
  split
  · omega
  · exact h.1 p hp, h.2⟩
theorem upd1_wf {S : STY} {B : SC} {i r : Nat} (h : WfB S B) (hr : r < nR S) : WfB S (updC B 1 i (r : Int)) := ⟨h.1, fun p hp => by
  rw [updC_if]
  split
  · omega
  · exact h.2.1 p hp, h.2.2⟩
theorem tr0 {S : STY} {B a : SC} {n : Nat} (hWY : WfY S) (hWB : WfB S B) (hn : n ≤ 180) (h : EvF S B a 142 n ∨ ∃ j, j < n ∧ a 142 6 = aftS S B j 9 0 ∧ ((0 : Nat) : Int) < aftS S B j 9 0) : a 142 6 = 0 ↔ aftS S B n 9 0 = 0 := by
  rcases h with h | ⟨j, j1, j2, j3⟩
  · rw [h.2.2.1.1]
  · have := ded_mo hWY hWB (show j ≤ n by omega) hn
    rw [j2]
    constructor <;> intro g <;> omega
/-- while it is sought -/
def SpI (a0 a : SC) : Prop := (∀ o, o < 141 ∨ 165 ≤ o → a o = a0 o) ∧ (∀ i, i ≠ 4 → a 141 i = a0 141 i) ∧ a 141 4 = 1 ∧ (∀ w, w < 3 → a 164 w = -1) ∧ a 156 0 = 0
/-- when it is found, or isn't there -/
def SpF (G : GST) (a0 a : SC) : Prop := (∀ o, o < 141 ∨ 165 ≤ o → a o = a0 o) ∧ (∀ i, i ≠ 4 → a 141 i = a0 141 i) ∧ a 141 4 = 1 ∧ (∀ w, w < 3 → a 164 w = if sprJ G < chgN (gS G) then chgW (gS G) (sprJ G) w else -1) ∧ a 156 0 = 0
abbrev gdS (G : GST) (j : Nat) : Prop := aftS (gS G) (chgB (gS G) (gE G) j) (gn G) 9 0 = 0
theorem SpI.done {G : GST} {a0 a : SC} (h : SpI a0 a) (hn : ∀ j, j < chgN (gS G) → ¬ gdS G j) : SpF G a0 a := by
  refine ⟨h.1, h.2.1, h.2.2.1, fun w hw => ?_, h.2.2.2.2⟩
  have e : sprJ G = chgN (gS G) := lst_no (fun j hj => decide_eq_false (hn j hj))
  rw [e, if_neg (by omega)]
  exact h.2.2.2.1 w hw
theorem spr_at {G : GST} {j : Nat} (h : gdS G j) (hj : j < chgN (gS G)) (hn : ∀ i, i < j → ¬ gdS G i) : sprJ G = j := lst_eq (decide_eq_true h) (fun i hi => decide_eq_false (hn i hi)) hj
theorem c_changeable_0 {X : List Int} {d : Nat} {st dr rd : Int} {a s b : C3} {y : Nat} (hy : hyS y) : Ev X d 148 0 [Vr 141, Vr (y : Int), Vi 0] [] (SHv st dr rd, ovl a s b) (fun rr hh => rr = some (Vi (a (y + 1) 4)) ∧ hh = (SHv st dr rd, ovl a s b)) := by
  have hy0 : y = 2 ∨ y = 58 := hy
  refine Ev.steps (k := 3) (pc' := 29) (L' := [Vr 141, Vr (y : Int), Vi 0]) (S' := [Vr (y : Int)]) (h' := ((SHv st dr rd), (ovl a s b))) (fun _ => rfl) ?_
  refine Ev.getr (r := ((y : Int) + 1)) rfl rfl (by omega) (shY_0 hy) rfl rfl rfl ?_
  refine Ev.steps (k := 1) (pc' := 33) (L' := [Vr 141, Vr (y : Int), Vi 0]) (S' := [Vi 4, Vr ((y : Int) + 1)]) (h' := ((SHv st dr rd), (ovl a s b))) (fun _ => rfl) ?_
  refine Ev.iald (v := (a (y + 1) 4)) rfl (by omega) (shY_1 hy) (by omega) (by omega) (ovl_rc (by omega)) ?_
  refine Ev.fin (k := 1) (r := (some (Vi (a (y + 1) 4)))) (h' := ((SHv st dr rd), (ovl a s b))) (fun _ => rfl) ?_
  exact ⟨rfl, rfl⟩
theorem c_changeable_1 {X : List Int} {d : Nat} {st dr rd : Int} {a s b : C3} {y : Nat} (hy : hyS y) : Ev X d 148 0 [Vr 141, Vr (y : Int), Vi 1] [] (SHv st dr rd, ovl a s b) (fun rr hh => rr = some (Vi (a (y + 1) 2)) ∧ hh = (SHv st dr rd, ovl a s b)) := by
  have hy0 : y = 2 ∨ y = 58 := hy
  refine Ev.steps (k := 3) (pc' := 36) (L' := [Vr 141, Vr (y : Int), Vi 1]) (S' := [Vr (y : Int)]) (h' := ((SHv st dr rd), (ovl a s b))) (fun _ => rfl) ?_
  refine Ev.getr (r := ((y : Int) + 1)) rfl rfl (by omega) (shY_0 hy) rfl rfl rfl ?_
  refine Ev.steps (k := 1) (pc' := 40) (L' := [Vr 141, Vr (y : Int), Vi 1]) (S' := [Vi 2, Vr ((y : Int) + 1)]) (h' := ((SHv st dr rd), (ovl a s b))) (fun _ => rfl) ?_
  refine Ev.iald (v := (a (y + 1) 2)) rfl (by omega) (shY_1 hy) (by omega) (by omega) (ovl_rc (by omega)) ?_
  refine Ev.fin (k := 1) (r := (some (Vi (a (y + 1) 2)))) (h' := ((SHv st dr rd), (ovl a s b))) (fun _ => rfl) ?_
  exact ⟨rfl, rfl⟩
theorem c_changeable_2 {X : List Int} {d : Nat} {st dr rd : Int} {a s b : C3} {y : Nat} (hy : hyS y) : Ev X d 148 0 [Vr 141, Vr (y : Int), Vi 2] [] (SHv st dr rd, ovl a s b) (fun rr hh => rr = some (Vi (a (y + 1) 3)) ∧ hh = (SHv st dr rd, ovl a s b)) := by
  have hy0 : y = 2 ∨ y = 58 := hy
  refine Ev.steps (k := 3) (pc' := 43) (L' := [Vr 141, Vr (y : Int), Vi 2]) (S' := [Vr (y : Int)]) (h' := ((SHv st dr rd), (ovl a s b))) (fun _ => rfl) ?_
  refine Ev.getr (r := ((y : Int) + 1)) rfl rfl (by omega) (shY_0 hy) rfl rfl rfl ?_
  refine Ev.steps (k := 1) (pc' := 47) (L' := [Vr 141, Vr (y : Int), Vi 2]) (S' := [Vi 3, Vr ((y : Int) + 1)]) (h' := ((SHv st dr rd), (ovl a s b))) (fun _ => rfl) ?_
  refine Ev.iald (v := (a (y + 1) 3)) rfl (by omega) (shY_1 hy) (by omega) (by omega) (ovl_rc (by omega)) ?_
  refine Ev.fin (k := 1) (r := (some (Vi (a (y + 1) 3)))) (h' := ((SHv st dr rd), (ovl a s b))) (fun _ => rfl) ?_
  exact ⟨rfl, rfl⟩
theorem c_sp_r_0 {X : List Int} {d : Nat} {rd : Int} {a s b : C3} {y z : Nat} {G : GST} {a0 : C3} (hT : TopC G a0 rd y z) (hn0 : 0 < gn G) {Q : Option pm_V → pm_H → Prop} (hQ : ∀ a2 : C3, SpF G a0 a2 → Q none (SHv (y : Int) (z : Int) rd, ovl a2 s b)) (i : Nat) (hi : i < nL (gS G)) (K : ∀ a2 : C3, SpI a0 a2 → (∀ j, j < (i + 1) → ¬ gdS G j) → Ev X (d + 6) 147 149 [Vr 141, Vr (y : Int), Vr 119, Vi 0, Vi 1, Vi (i : Int), Vi 1] [] (SHv (y : Int) (z : Int) rd, ovl a2 s b) Q) (r : Nat) (hr : r ≤ 1) (hI : SpI a0 a) (hv : ∀ j, j < i + r → ¬ gdS G j) : Ev X (d + 6) 147 61 [Vr 141, Vr (y : Int), Vr 119, Vi 0, Vi 1, Vi (i : Int), Vi (r : Int)] [] (SHv (y : Int) (z : Int) rd, ovl a s b) Q := by
  induction hkk : (1 - r) using Nat.strongRecOn generalizing r a with
  | ind kk ih =>
    obtain ⟨hyz, hrd, hY, hWY, hBB, hWB, hWE, hn180, ⟨e7, e6, e5, e0, hEv⟩, hTp, hfk, hfp, hCh, h156, hOwn⟩ := id hT
    have hy : hyS y := by show y = 2 ∨ y = 58; omega
    have hy0 : y = 2 ∨ y = 58 := hy
    have hW8 := hWY.2.2.1.1
    have hR8 := hWY.1.1
    have hT8 := hWY.2.2.2.1.1
    have hL30 := hWY.2.2.2.2.1.1
    have hC12 := hWY.2.2.2.2.2.1.1
    have hE := hEv hn0
    obtain ⟨I1, I2, I3, I4, I5⟩ := id hI
    have hB127 : RbC (gS G) (gE G) a 127 := hE.2.2.2.2.2.fr (fun o g1 g2 => I1 o (by omega))
    have e7a : a 119 7 = ((gn G : Nat) : Int) := by rw [I1 119 (by omega)]; exact e7
    refine Ev.ite (P := 1 ≤ (r : Int)) (k := 3) (a := 149) (b := 68) (L' := [Vr 141, Vr (y : Int), Vr 119, Vi 0, Vi 1, Vi (i : Int), Vi (r : Int)]) (S' := []) (h' := ((SHv (y : Int) (z : Int) rd), (ovl a s b))) (fun _ => rfl) (fun b65 => ?_) (fun b65 => ?_)
    · obtain rfl : r = 1 := by omega
      exact K a hI (by have e : i + 1 = i + 1 := by first | omega | (rw [Nat.succ_mul]; omega)
                       rw [e]; exact hv)
    · obtain ⟨cg1, cg2, cg3⟩ := chg_0 (B := gE G) hi
      refine Ev.call (k := 7) (pc1 := 81) (L1 := [Vr 141, Vr (y : Int), Vr 119, Vi 0, Vi 1, Vi (i : Int), Vi (r : Int)]) (S1 := [Vi (r : Int), Vi (i : Int), Vi 0, Vr 127, Vr 161]) (h1 := ((SHv (y : Int) (z : Int) rd), (ovl a s b))) (m' := 126) (as := [Vr 161, Vr 127, Vi 0, Vi (i : Int), Vi (r : Int)]) (S' := []) (L0 := [Vr 161, Vr 127, Vi 0, Vi (i : Int), Vi (r : Int), Vx]) (fun _ => rfl) rfl rfl rfl rfl rfl rfl (c_change_0 hW8 hT8 hL30 hB127 i hi (r : Int)) (fun r h' hq => ?_)
      obtain ⟨rfl, a1, rfl, f1, f2⟩ := hq
      show Ev X _ _ 84 [Vr 141, Vr (y : Int), Vr 119, Vi 0, Vi 1, Vi (i : Int), Vi (r : Int)] [] ((SHv (y : Int) (z : Int) rd), (ovl a1 s b)) _
      refine Ev.steps (k := 7) (pc' := 97) (L' := [Vr 141, Vr (y : Int), Vr 119, Vi 0, Vi 1, Vi (i : Int), Vi (r : Int)]) (S' := [Vi (a1 119 7), Vr 161, Vr (y : Int), Vr 142]) (h' := ((SHv (y : Int) (z : Int) rd), (ovl a1 s b))) (fun _ => rfl) ?_
      rw [(show a1 119 7 = ((gn G : Nat) : Int) by rw [f1 119 (by omega)]; exact e7a)]
      refine Ev.call (k := 1) (pc1 := 98) (L1 := [Vr 141, Vr (y : Int), Vr 119, Vi 0, Vi 1, Vi (i : Int), Vi (r : Int)]) (S1 := [Vi 0, Vi ((gn G : Nat) : Int), Vr 161, Vr (y : Int), Vr 142]) (h1 := ((SHv (y : Int) (z : Int) rd), (ovl a1 s b))) (m' := 77) (as := [Vr 142, Vr (y : Int), Vr 161, Vi ((gn G : Nat) : Int), Vi 0]) (S' := []) (L0 := [Vr 142, Vr (y : Int), Vr 161, Vi ((gn G : Nat) : Int), Vi 0, Vx, Vx, Vx]) (fun _ => rfl) rfl rfl rfl rfl rfl rfl (c_pass (u := 142) (Or.inr rfl) hy 161 (gn G) 0 hWY (outB_wf2 hWE) hn180 (Or.inr rfl) (hY.fr (fun o g1 g2 => by rw [f1 o (by omega), I1 o (by omega)]) hL30 hC12) f2 (fun h => absurd h (by omega)) (fun _ => by rw [f1 156 (by omega)]; exact I5)) (fun r h' hq => ?_)
      obtain ⟨rfl, a2, rfl, p1, p3, p2⟩ := hq
      have h156b : a2 156 0 = 0 := p3 rfl
      have htr := tr0 hWY (outB_wf2 hWE) hn180 p2
      rw [← cg1] at htr
      clear p2
      have F : ∀ o, o < 142 ∨ 163 < o → a2 o = a o := fun o ho => by rw [p1 o (by omega), f1 o (by omega)]
      have hI2 : SpI a0 a2 := ⟨fun o ho => by rw [F o (by omega)]; exact I1 o ho, fun i hi => by rw [F 141 (by omega)]; exact I2 i hi, by rw [F 141 (by omega)]; exact I3, fun w hw => by rw [F 164 (by omega)]; exact I4 w hw, h156b⟩
      show Ev X _ _ 101 [Vr 141, Vr (y : Int), Vr 119, Vi 0, Vi 1, Vi (i : Int), Vi (r : Int)] [] ((SHv (y : Int) (z : Int) rd), (ovl a2 s b)) _
      refine Ev.ite (P := (a2 142 6) ≠ 0) (k := 4) (a := 143) (b := 111) (L' := [Vr 141, Vr (y : Int), Vr 119, Vi 0, Vi 1, Vi (i : Int), Vi (r : Int)]) (S' := []) (h' := ((SHv (y : Int) (z : Int) rd), (ovl a2 s b))) (fun _ => rfl) (fun b108 => ?_) (fun b108 => ?_)
      · refine Ev.steps (k := 1) (pc' := 146) (L' := [Vr 141, Vr (y : Int), Vr 119, Vi 0, Vi 1, Vi (i : Int), Vi (w32 ((r : Int) + 1))]) (S' := []) (h' := ((SHv (y : Int) (z : Int) rd), (ovl a2 s b))) (fun _ => rfl) ?_
        rw [show (w32 ((r : Int) + 1)) = ((r : Int) + 1) from w32_id (by unfold R32; omega)]
        refine Ev.steps (k := 1) (pc' := 61) (L' := [Vr 141, Vr (y : Int), Vr 119, Vi 0, Vi 1, Vi (i : Int), Vi ((r : Int) + 1)]) (S' := []) (h' := ((SHv (y : Int) (z : Int) rd), (ovl a2 s b))) (fun _ => rfl) ?_
        have hng : ¬ gdS G (i) := fun h => absurd (htr.mpr h) (by omega)
        refine ih _ (by omega) (a := a2) (r + 1) (by omega) hI2 (fun j hj => ?_) rfl
        by_cases g : j = i
        · rw [g]; exact hng
        · exact hv j (by omega)
      · refine Ev.steps (k := 4) (pc' := 117) (L' := [Vr 141, Vr (y : Int), Vr 119, Vi 0, Vi 1, Vi (i : Int), Vi (r : Int)]) (S' := [Vi 0, Vi 0, Vr 164]) (h' := ((SHv (y : Int) (z : Int) rd), (ovl a2 s b))) (fun _ => rfl) ?_
        refine Ev.iast (c' := (ovl (updC a2 164 0 0) s b)) rfl (by decide) rfl (by omega) (by omega) (ovl_wc (by decide)) ?_
        refine Ev.steps (k := 4) (pc' := 125) (L' := [Vr 141, Vr (y : Int), Vr 119, Vi 0, Vi 1, Vi (i : Int), Vi (r : Int)]) (S' := [Vi (i : Int), Vi 1, Vr 164]) (h' := ((SHv (y : Int) (z : Int) rd), (ovl (updC a2 164 0 0) s b))) (fun _ => rfl) ?_
        refine Ev.iast (c' := (ovl (updC (updC a2 164 0 0) 164 1 (i : Int)) s b)) rfl (by decide) rfl (by omega) (by omega) (ovl_wc (by decide)) ?_
        refine Ev.steps (k := 7) (pc' := 141) (L' := [Vr 141, Vr (y : Int), Vr 119, Vi 0, Vi 1, Vi (i : Int), Vi (r : Int)]) (S' := [Vi (-1), Vi 2, Vr 164]) (h' := ((SHv (y : Int) (z : Int) rd), (ovl (updC (updC a2 164 0 0) 164 1 (i : Int)) s b))) (fun _ => rfl) ?_
        refine Ev.iast (c' := (ovl (updC (updC (updC a2 164 0 0) 164 1 (i : Int)) 164 2 (-1)) s b)) rfl (by decide) rfl (by omega) (by omega) (ovl_wc (by decide)) ?_
        refine Ev.fin (k := 1) (r := none) (h' := ((SHv (y : Int) (z : Int) rd), (ovl (updC (updC (updC a2 164 0 0) 164 1 (i : Int)) 164 2 (-1)) s b))) (fun _ => rfl) ?_
        have hgd : gdS G (i) := htr.mp (by omega)
        have hjn : i < chgN (gS G) := by first | exact cg3 | (unfold chgN; omega)
        have e := spr_at hgd hjn (fun j hj => hv j (by omega))
        refine hQ _ ⟨fun o ho => ?_, fun i' hi' => ?_, ?_, fun w hw => ?_, ?_⟩
        · rw [updC_row (by omega), updC_row (by omega), updC_row (by omega)]; exact hI2.1 o ho
        · rw [updC_row (by omega), updC_row (by omega), updC_row (by omega)]; exact hI2.2.1 i' hi'
        · rw [updC_row (by omega), updC_row (by omega), updC_row (by omega)]; exact hI2.2.2.1
        · rw [e, if_pos hjn, cg2]
          rcases (show w = 0 ∨ w = 1 ∨ w = 2 by omega) with rfl | rfl | rfl
          · rw [updC_nt (by omega), updC_nt (by omega), updC_sm]; rfl
          · rw [updC_nt (by omega), updC_sm]; rfl
          · rw [updC_sm]; rfl
        · rw [updC_row (by omega), updC_row (by omega), updC_row (by omega)]; exact h156b
theorem c_sp_r_1 {X : List Int} {d : Nat} {rd : Int} {a s b : C3} {y z : Nat} {G : GST} {a0 : C3} (hT : TopC G a0 rd y z) (hn0 : 0 < gn G) {Q : Option pm_V → pm_H → Prop} (hQ : ∀ a2 : C3, SpF G a0 a2 → Q none (SHv (y : Int) (z : Int) rd, ovl a2 s b)) (i : Nat) (hi : i < nW (gS G)) (K : ∀ a2 : C3, SpI a0 a2 → (∀ j, j < nL (gS G) + (0 + (i + 1) * nR (gS G)) → ¬ gdS G j) → Ev X (d + 6) 147 149 [Vr 141, Vr (y : Int), Vr 119, Vi 1, Vi ((nR (gS G) : Nat) : Int), Vi (i : Int), Vi ((nR (gS G) : Nat) : Int)] [] (SHv (y : Int) (z : Int) rd, ovl a2 s b) Q) (r : Nat) (hr : r ≤ nR (gS G)) (hI : SpI a0 a) (hv : ∀ j, j < nL (gS G) + (r + i * nR (gS G)) → ¬ gdS G j) : Ev X (d + 6) 147 61 [Vr 141, Vr (y : Int), Vr 119, Vi 1, Vi ((nR (gS G) : Nat) : Int), Vi (i : Int), Vi (r : Int)] [] (SHv (y : Int) (z : Int) rd, ovl a s b) Q := by
  induction hkk : (nR (gS G) - r) using Nat.strongRecOn generalizing r a with
  | ind kk ih =>
    obtain ⟨hyz, hrd, hY, hWY, hBB, hWB, hWE, hn180, ⟨e7, e6, e5, e0, hEv⟩, hTp, hfk, hfp, hCh, h156, hOwn⟩ := id hT
    have hy : hyS y := by show y = 2 ∨ y = 58; omega
    have hy0 : y = 2 ∨ y = 58 := hy
    have hW8 := hWY.2.2.1.1
    have hR8 := hWY.1.1
    have hT8 := hWY.2.2.2.1.1
    have hL30 := hWY.2.2.2.2.1.1
    have hC12 := hWY.2.2.2.2.2.1.1
    have hE := hEv hn0
    obtain ⟨I1, I2, I3, I4, I5⟩ := id hI
    have hB127 : RbC (gS G) (gE G) a 127 := hE.2.2.2.2.2.fr (fun o g1 g2 => I1 o (by omega))
    have e7a : a 119 7 = ((gn G : Nat) : Int) := by rw [I1 119 (by omega)]; exact e7
    refine Ev.ite (P := ((nR (gS G) : Nat) : Int) ≤ (r : Int)) (k := 3) (a := 149) (b := 68) (L' := [Vr 141, Vr (y : Int), Vr 119, Vi 1, Vi ((nR (gS G) : Nat) : Int), Vi (i : Int), Vi (r : Int)]) (S' := []) (h' := ((SHv (y : Int) (z : Int) rd), (ovl a s b))) (fun _ => rfl) (fun b65 => ?_) (fun b65 => ?_)
    · obtain rfl : r = nR (gS G) := by omega
      exact K a hI (by have e : nL (gS G) + (0 + (i + 1) * nR (gS G)) = nL (gS G) + (nR (gS G) + i * nR (gS G)) := by first | omega | (rw [Nat.succ_mul]; omega)
                       rw [e]; exact hv)
    · have hr2 : r < nR (gS G) := by omega
      obtain ⟨cg1, cg2, cg3⟩ := chg_1 (B := gE G) hr2 hi
      refine Ev.call (k := 7) (pc1 := 81) (L1 := [Vr 141, Vr (y : Int), Vr 119, Vi 1, Vi ((nR (gS G) : Nat) : Int), Vi (i : Int), Vi (r : Int)]) (S1 := [Vi (r : Int), Vi (i : Int), Vi 1, Vr 127, Vr 161]) (h1 := ((SHv (y : Int) (z : Int) rd), (ovl a s b))) (m' := 126) (as := [Vr 161, Vr 127, Vi 1, Vi (i : Int), Vi (r : Int)]) (S' := []) (L0 := [Vr 161, Vr 127, Vi 1, Vi (i : Int), Vi (r : Int), Vx]) (fun _ => rfl) rfl rfl rfl rfl rfl rfl (c_change_1 hW8 hT8 hL30 hB127 i r hi (by omega)) (fun r h' hq => ?_)
      obtain ⟨rfl, a1, rfl, f1, f2⟩ := hq
      show Ev X _ _ 84 [Vr 141, Vr (y : Int), Vr 119, Vi 1, Vi ((nR (gS G) : Nat) : Int), Vi (i : Int), Vi (r : Int)] [] ((SHv (y : Int) (z : Int) rd), (ovl a1 s b)) _
      refine Ev.steps (k := 7) (pc' := 97) (L' := [Vr 141, Vr (y : Int), Vr 119, Vi 1, Vi ((nR (gS G) : Nat) : Int), Vi (i : Int), Vi (r : Int)]) (S' := [Vi (a1 119 7), Vr 161, Vr (y : Int), Vr 142]) (h' := ((SHv (y : Int) (z : Int) rd), (ovl a1 s b))) (fun _ => rfl) ?_
      rw [(show a1 119 7 = ((gn G : Nat) : Int) by rw [f1 119 (by omega)]; exact e7a)]
      refine Ev.call (k := 1) (pc1 := 98) (L1 := [Vr 141, Vr (y : Int), Vr 119, Vi 1, Vi ((nR (gS G) : Nat) : Int), Vi (i : Int), Vi (r : Int)]) (S1 := [Vi 0, Vi ((gn G : Nat) : Int), Vr 161, Vr (y : Int), Vr 142]) (h1 := ((SHv (y : Int) (z : Int) rd), (ovl a1 s b))) (m' := 77) (as := [Vr 142, Vr (y : Int), Vr 161, Vi ((gn G : Nat) : Int), Vi 0]) (S' := []) (L0 := [Vr 142, Vr (y : Int), Vr 161, Vi ((gn G : Nat) : Int), Vi 0, Vx, Vx, Vx]) (fun _ => rfl) rfl rfl rfl rfl rfl rfl (c_pass (u := 142) (Or.inr rfl) hy 161 (gn G) 0 hWY (upd0_wf hWE hr2) hn180 (Or.inr rfl) (hY.fr (fun o g1 g2 => by rw [f1 o (by omega), I1 o (by omega)]) hL30 hC12) f2 (fun h => absurd h (by omega)) (fun _ => by rw [f1 156 (by omega)]; exact I5)) (fun r h' hq => ?_)
      obtain ⟨rfl, a2, rfl, p1, p3, p2⟩ := hq
      have h156b : a2 156 0 = 0 := p3 rfl
      have htr := tr0 hWY (upd0_wf hWE hr2) hn180 p2
      rw [← cg1] at htr
      clear p2
      have F : ∀ o, o < 142 ∨ 163 < o → a2 o = a o := fun o ho => by rw [p1 o (by omega), f1 o (by omega)]
      have hI2 : SpI a0 a2 := ⟨fun o ho => by rw [F o (by omega)]; exact I1 o ho, fun i hi => by rw [F 141 (by omega)]; exact I2 i hi, by rw [F 141 (by omega)]; exact I3, fun w hw => by rw [F 164 (by omega)]; exact I4 w hw, h156b⟩
      show Ev X _ _ 101 [Vr 141, Vr (y : Int), Vr 119, Vi 1, Vi ((nR (gS G) : Nat) : Int), Vi (i : Int), Vi (r : Int)] [] ((SHv (y : Int) (z : Int) rd), (ovl a2 s b)) _
      refine Ev.ite (P := (a2 142 6) ≠ 0) (k := 4) (a := 143) (b := 111) (L' := [Vr 141, Vr (y : Int), Vr 119, Vi 1, Vi ((nR (gS G) : Nat) : Int), Vi (i : Int), Vi (r : Int)]) (S' := []) (h' := ((SHv (y : Int) (z : Int) rd), (ovl a2 s b))) (fun _ => rfl) (fun b108 => ?_) (fun b108 => ?_)
      · refine Ev.steps (k := 1) (pc' := 146) (L' := [Vr 141, Vr (y : Int), Vr 119, Vi 1, Vi ((nR (gS G) : Nat) : Int), Vi (i : Int), Vi (w32 ((r : Int) + 1))]) (S' := []) (h' := ((SHv (y : Int) (z : Int) rd), (ovl a2 s b))) (fun _ => rfl) ?_
        rw [show (w32 ((r : Int) + 1)) = ((r : Int) + 1) from w32_id (by unfold R32; omega)]
        refine Ev.steps (k := 1) (pc' := 61) (L' := [Vr 141, Vr (y : Int), Vr 119, Vi 1, Vi ((nR (gS G) : Nat) : Int), Vi (i : Int), Vi ((r : Int) + 1)]) (S' := []) (h' := ((SHv (y : Int) (z : Int) rd), (ovl a2 s b))) (fun _ => rfl) ?_
        have hng : ¬ gdS G (nL (gS G) + (r + i * nR (gS G))) := fun h => absurd (htr.mpr h) (by omega)
        refine ih _ (by omega) (a := a2) (r + 1) (by omega) hI2 (fun j hj => ?_) rfl
        by_cases g : j = nL (gS G) + (r + i * nR (gS G))
        · rw [g]; exact hng
        · exact hv j (by omega)
      · refine Ev.steps (k := 4) (pc' := 117) (L' := [Vr 141, Vr (y : Int), Vr 119, Vi 1, Vi ((nR (gS G) : Nat) : Int), Vi (i : Int), Vi (r : Int)]) (S' := [Vi 1, Vi 0, Vr 164]) (h' := ((SHv (y : Int) (z : Int) rd), (ovl a2 s b))) (fun _ => rfl) ?_
        refine Ev.iast (c' := (ovl (updC a2 164 0 1) s b)) rfl (by decide) rfl (by omega) (by omega) (ovl_wc (by decide)) ?_
        refine Ev.steps (k := 4) (pc' := 125) (L' := [Vr 141, Vr (y : Int), Vr 119, Vi 1, Vi ((nR (gS G) : Nat) : Int), Vi (i : Int), Vi (r : Int)]) (S' := [Vi (i : Int), Vi 1, Vr 164]) (h' := ((SHv (y : Int) (z : Int) rd), (ovl (updC a2 164 0 1) s b))) (fun _ => rfl) ?_
        refine Ev.iast (c' := (ovl (updC (updC a2 164 0 1) 164 1 (i : Int)) s b)) rfl (by decide) rfl (by omega) (by omega) (ovl_wc (by decide)) ?_
        refine Ev.steps (k := 6) (pc' := 141) (L' := [Vr 141, Vr (y : Int), Vr 119, Vi 1, Vi ((nR (gS G) : Nat) : Int), Vi (i : Int), Vi (r : Int)]) (S' := [Vi (r : Int), Vi 2, Vr 164]) (h' := ((SHv (y : Int) (z : Int) rd), (ovl (updC (updC a2 164 0 1) 164 1 (i : Int)) s b))) (fun _ => rfl) ?_
        refine Ev.iast (c' := (ovl (updC (updC (updC a2 164 0 1) 164 1 (i : Int)) 164 2 (r : Int)) s b)) rfl (by decide) rfl (by omega) (by omega) (ovl_wc (by decide)) ?_
        refine Ev.fin (k := 1) (r := none) (h' := ((SHv (y : Int) (z : Int) rd), (ovl (updC (updC (updC a2 164 0 1) 164 1 (i : Int)) 164 2 (r : Int)) s b))) (fun _ => rfl) ?_
        have hgd : gdS G (nL (gS G) + (r + i * nR (gS G))) := htr.mp (by omega)
        have hjn : nL (gS G) + (r + i * nR (gS G)) < chgN (gS G) := by first | exact cg3 | (unfold chgN; omega)
        have e := spr_at hgd hjn (fun j hj => hv j (by omega))
        refine hQ _ ⟨fun o ho => ?_, fun i' hi' => ?_, ?_, fun w hw => ?_, ?_⟩
        · rw [updC_row (by omega), updC_row (by omega), updC_row (by omega)]; exact hI2.1 o ho
        · rw [updC_row (by omega), updC_row (by omega), updC_row (by omega)]; exact hI2.2.1 i' hi'
        · rw [updC_row (by omega), updC_row (by omega), updC_row (by omega)]; exact hI2.2.2.1
        · rw [e, if_pos hjn, cg2]
          rcases (show w = 0 ∨ w = 1 ∨ w = 2 by omega) with rfl | rfl | rfl
          · rw [updC_nt (by omega), updC_nt (by omega), updC_sm]; rfl
          · rw [updC_nt (by omega), updC_sm]; rfl
          · rw [updC_sm]; rfl
        · rw [updC_row (by omega), updC_row (by omega), updC_row (by omega)]; exact h156b
theorem c_sp_r_2 {X : List Int} {d : Nat} {rd : Int} {a s b : C3} {y z : Nat} {G : GST} {a0 : C3} (hT : TopC G a0 rd y z) (hn0 : 0 < gn G) {Q : Option pm_V → pm_H → Prop} (hQ : ∀ a2 : C3, SpF G a0 a2 → Q none (SHv (y : Int) (z : Int) rd, ovl a2 s b)) (i : Nat) (hi : i < nT (gS G)) (K : ∀ a2 : C3, SpI a0 a2 → (∀ j, j < nL (gS G) + nW (gS G) * nR (gS G) + (0 + (i + 1) * nR (gS G)) → ¬ gdS G j) → Ev X (d + 6) 147 149 [Vr 141, Vr (y : Int), Vr 119, Vi 2, Vi ((nR (gS G) : Nat) : Int), Vi (i : Int), Vi ((nR (gS G) : Nat) : Int)] [] (SHv (y : Int) (z : Int) rd, ovl a2 s b) Q) (r : Nat) (hr : r ≤ nR (gS G)) (hI : SpI a0 a) (hv : ∀ j, j < nL (gS G) + nW (gS G) * nR (gS G) + (r + i * nR (gS G)) → ¬ gdS G j) : Ev X (d + 6) 147 61 [Vr 141, Vr (y : Int), Vr 119, Vi 2, Vi ((nR (gS G) : Nat) : Int), Vi (i : Int), Vi (r : Int)] [] (SHv (y : Int) (z : Int) rd, ovl a s b) Q := by
  induction hkk : (nR (gS G) - r) using Nat.strongRecOn generalizing r a with
  | ind kk ih =>
    obtain ⟨hyz, hrd, hY, hWY, hBB, hWB, hWE, hn180, ⟨e7, e6, e5, e0, hEv⟩, hTp, hfk, hfp, hCh, h156, hOwn⟩ := id hT
    have hy : hyS y := by show y = 2 ∨ y = 58; omega
    have hy0 : y = 2 ∨ y = 58 := hy
    have hW8 := hWY.2.2.1.1
    have hR8 := hWY.1.1
    have hT8 := hWY.2.2.2.1.1
    have hL30 := hWY.2.2.2.2.1.1
    have hC12 := hWY.2.2.2.2.2.1.1
    have hE := hEv hn0
    obtain ⟨I1, I2, I3, I4, I5⟩ := id hI
    have hB127 : RbC (gS G) (gE G) a 127 := hE.2.2.2.2.2.fr (fun o g1 g2 => I1 o (by omega))
    have e7a : a 119 7 = ((gn G : Nat) : Int) := by rw [I1 119 (by omega)]; exact e7
    refine Ev.ite (P := ((nR (gS G) : Nat) : Int) ≤ (r : Int)) (k := 3) (a := 149) (b := 68) (L' := [Vr 141, Vr (y : Int), Vr 119, Vi 2, Vi ((nR (gS G) : Nat) : Int), Vi (i : Int), Vi (r : Int)]) (S' := []) (h' := ((SHv (y : Int) (z : Int) rd), (ovl a s b))) (fun _ => rfl) (fun b65 => ?_) (fun b65 => ?_)
    · obtain rfl : r = nR (gS G) := by omega
      exact K a hI (by have e : nL (gS G) + nW (gS G) * nR (gS G) + (0 + (i + 1) * nR (gS G)) = nL (gS G) + nW (gS G) * nR (gS G) + (nR (gS G) + i * nR (gS G)) := by first | omega | (rw [Nat.succ_mul]; omega)
                       rw [e]; exact hv)
    · have hr2 : r < nR (gS G) := by omega
      obtain ⟨cg1, cg2, cg3⟩ := chg_2 (B := gE G) hr2 hi
      refine Ev.call (k := 7) (pc1 := 81) (L1 := [Vr 141, Vr (y : Int), Vr 119, Vi 2, Vi ((nR (gS G) : Nat) : Int), Vi (i : Int), Vi (r : Int)]) (S1 := [Vi (r : Int), Vi (i : Int), Vi 2, Vr 127, Vr 161]) (h1 := ((SHv (y : Int) (z : Int) rd), (ovl a s b))) (m' := 126) (as := [Vr 161, Vr 127, Vi 2, Vi (i : Int), Vi (r : Int)]) (S' := []) (L0 := [Vr 161, Vr 127, Vi 2, Vi (i : Int), Vi (r : Int), Vx]) (fun _ => rfl) rfl rfl rfl rfl rfl rfl (c_change_2 hW8 hT8 hL30 hB127 i r hi (by omega)) (fun r h' hq => ?_)
      obtain ⟨rfl, a1, rfl, f1, f2⟩ := hq
      show Ev X _ _ 84 [Vr 141, Vr (y : Int), Vr 119, Vi 2, Vi ((nR (gS G) : Nat) : Int), Vi (i : Int), Vi (r : Int)] [] ((SHv (y : Int) (z : Int) rd), (ovl a1 s b)) _
      refine Ev.steps (k := 7) (pc' := 97) (L' := [Vr 141, Vr (y : Int), Vr 119, Vi 2, Vi ((nR (gS G) : Nat) : Int), Vi (i : Int), Vi (r : Int)]) (S' := [Vi (a1 119 7), Vr 161, Vr (y : Int), Vr 142]) (h' := ((SHv (y : Int) (z : Int) rd), (ovl a1 s b))) (fun _ => rfl) ?_
      rw [(show a1 119 7 = ((gn G : Nat) : Int) by rw [f1 119 (by omega)]; exact e7a)]
      refine Ev.call (k := 1) (pc1 := 98) (L1 := [Vr 141, Vr (y : Int), Vr 119, Vi 2, Vi ((nR (gS G) : Nat) : Int), Vi (i : Int), Vi (r : Int)]) (S1 := [Vi 0, Vi ((gn G : Nat) : Int), Vr 161, Vr (y : Int), Vr 142]) (h1 := ((SHv (y : Int) (z : Int) rd), (ovl a1 s b))) (m' := 77) (as := [Vr 142, Vr (y : Int), Vr 161, Vi ((gn G : Nat) : Int), Vi 0]) (S' := []) (L0 := [Vr 142, Vr (y : Int), Vr 161, Vi ((gn G : Nat) : Int), Vi 0, Vx, Vx, Vx]) (fun _ => rfl) rfl rfl rfl rfl rfl rfl (c_pass (u := 142) (Or.inr rfl) hy 161 (gn G) 0 hWY (upd1_wf hWE hr2) hn180 (Or.inr rfl) (hY.fr (fun o g1 g2 => by rw [f1 o (by omega), I1 o (by omega)]) hL30 hC12) f2 (fun h => absurd h (by omega)) (fun _ => by rw [f1 156 (by omega)]; exact I5)) (fun r h' hq => ?_)
      obtain ⟨rfl, a2, rfl, p1, p3, p2⟩ := hq
      have h156b : a2 156 0 = 0 := p3 rfl
      have htr := tr0 hWY (upd1_wf hWE hr2) hn180 p2
      rw [← cg1] at htr
      clear p2
      have F : ∀ o, o < 142 ∨ 163 < o → a2 o = a o := fun o ho => by rw [p1 o (by omega), f1 o (by omega)]
      have hI2 : SpI a0 a2 := ⟨fun o ho => by rw [F o (by omega)]; exact I1 o ho, fun i hi => by rw [F 141 (by omega)]; exact I2 i hi, by rw [F 141 (by omega)]; exact I3, fun w hw => by rw [F 164 (by omega)]; exact I4 w hw, h156b⟩
      show Ev X _ _ 101 [Vr 141, Vr (y : Int), Vr 119, Vi 2, Vi ((nR (gS G) : Nat) : Int), Vi (i : Int), Vi (r : Int)] [] ((SHv (y : Int) (z : Int) rd), (ovl a2 s b)) _
      refine Ev.ite (P := (a2 142 6) ≠ 0) (k := 4) (a := 143) (b := 111) (L' := [Vr 141, Vr (y : Int), Vr 119, Vi 2, Vi ((nR (gS G) : Nat) : Int), Vi (i : Int), Vi (r : Int)]) (S' := []) (h' := ((SHv (y : Int) (z : Int) rd), (ovl a2 s b))) (fun _ => rfl) (fun b108 => ?_) (fun b108 => ?_)
      · refine Ev.steps (k := 1) (pc' := 146) (L' := [Vr 141, Vr (y : Int), Vr 119, Vi 2, Vi ((nR (gS G) : Nat) : Int), Vi (i : Int), Vi (w32 ((r : Int) + 1))]) (S' := []) (h' := ((SHv (y : Int) (z : Int) rd), (ovl a2 s b))) (fun _ => rfl) ?_
        rw [show (w32 ((r : Int) + 1)) = ((r : Int) + 1) from w32_id (by unfold R32; omega)]
        refine Ev.steps (k := 1) (pc' := 61) (L' := [Vr 141, Vr (y : Int), Vr 119, Vi 2, Vi ((nR (gS G) : Nat) : Int), Vi (i : Int), Vi ((r : Int) + 1)]) (S' := []) (h' := ((SHv (y : Int) (z : Int) rd), (ovl a2 s b))) (fun _ => rfl) ?_
        have hng : ¬ gdS G (nL (gS G) + nW (gS G) * nR (gS G) + (r + i * nR (gS G))) := fun h => absurd (htr.mpr h) (by omega)
        refine ih _ (by omega) (a := a2) (r + 1) (by omega) hI2 (fun j hj => ?_) rfl
        by_cases g : j = nL (gS G) + nW (gS G) * nR (gS G) + (r + i * nR (gS G))
        · rw [g]; exact hng
        · exact hv j (by omega)
      · refine Ev.steps (k := 4) (pc' := 117) (L' := [Vr 141, Vr (y : Int), Vr 119, Vi 2, Vi ((nR (gS G) : Nat) : Int), Vi (i : Int), Vi (r : Int)]) (S' := [Vi 2, Vi 0, Vr 164]) (h' := ((SHv (y : Int) (z : Int) rd), (ovl a2 s b))) (fun _ => rfl) ?_
        refine Ev.iast (c' := (ovl (updC a2 164 0 2) s b)) rfl (by decide) rfl (by omega) (by omega) (ovl_wc (by decide)) ?_
        refine Ev.steps (k := 4) (pc' := 125) (L' := [Vr 141, Vr (y : Int), Vr 119, Vi 2, Vi ((nR (gS G) : Nat) : Int), Vi (i : Int), Vi (r : Int)]) (S' := [Vi (i : Int), Vi 1, Vr 164]) (h' := ((SHv (y : Int) (z : Int) rd), (ovl (updC a2 164 0 2) s b))) (fun _ => rfl) ?_
        refine Ev.iast (c' := (ovl (updC (updC a2 164 0 2) 164 1 (i : Int)) s b)) rfl (by decide) rfl (by omega) (by omega) (ovl_wc (by decide)) ?_
        refine Ev.steps (k := 6) (pc' := 141) (L' := [Vr 141, Vr (y : Int), Vr 119, Vi 2, Vi ((nR (gS G) : Nat) : Int), Vi (i : Int), Vi (r : Int)]) (S' := [Vi (r : Int), Vi 2, Vr 164]) (h' := ((SHv (y : Int) (z : Int) rd), (ovl (updC (updC a2 164 0 2) 164 1 (i : Int)) s b))) (fun _ => rfl) ?_
        refine Ev.iast (c' := (ovl (updC (updC (updC a2 164 0 2) 164 1 (i : Int)) 164 2 (r : Int)) s b)) rfl (by decide) rfl (by omega) (by omega) (ovl_wc (by decide)) ?_
        refine Ev.fin (k := 1) (r := none) (h' := ((SHv (y : Int) (z : Int) rd), (ovl (updC (updC (updC a2 164 0 2) 164 1 (i : Int)) 164 2 (r : Int)) s b))) (fun _ => rfl) ?_
        have hgd : gdS G (nL (gS G) + nW (gS G) * nR (gS G) + (r + i * nR (gS G))) := htr.mp (by omega)
        have hjn : nL (gS G) + nW (gS G) * nR (gS G) + (r + i * nR (gS G)) < chgN (gS G) := by first | exact cg3 | (unfold chgN; omega)
        have e := spr_at hgd hjn (fun j hj => hv j (by omega))
        refine hQ _ ⟨fun o ho => ?_, fun i' hi' => ?_, ?_, fun w hw => ?_, ?_⟩
        · rw [updC_row (by omega), updC_row (by omega), updC_row (by omega)]; exact hI2.1 o ho
        · rw [updC_row (by omega), updC_row (by omega), updC_row (by omega)]; exact hI2.2.1 i' hi'
        · rw [updC_row (by omega), updC_row (by omega), updC_row (by omega)]; exact hI2.2.2.1
        · rw [e, if_pos hjn, cg2]
          rcases (show w = 0 ∨ w = 1 ∨ w = 2 by omega) with rfl | rfl | rfl
          · rw [updC_nt (by omega), updC_nt (by omega), updC_sm]; rfl
          · rw [updC_nt (by omega), updC_sm]; rfl
          · rw [updC_sm]; rfl
        · rw [updC_row (by omega), updC_row (by omega), updC_row (by omega)]; exact h156b
theorem c_sp_n_0 {X : List Int} {d : Nat} {rd : Int} {a s b : C3} {y z : Nat} {G : GST} {a0 : C3} (hT : TopC G a0 rd y z) (hn0 : 0 < gn G) {Q : Option pm_V → pm_H → Prop} (hQ : ∀ a2 : C3, SpF G a0 a2 → Q none (SHv (y : Int) (z : Int) rd, ovl a2 s b)) (K : ∀ (a2 : C3) (zz : pm_V), SpI a0 a2 → (∀ j, j < nL (gS G) → ¬ gdS G j) → Ev X (d + 6) 147 155 [Vr 141, Vr (y : Int), Vr 119, Vi 0, Vi 1, Vi ((nL (gS G) : Nat) : Int), zz] [] (SHv (y : Int) (z : Int) rd, ovl a2 s b) Q) (i : Nat) (zz : pm_V) (hi : i ≤ nL (gS G)) (hI : SpI a0 a) (hv : ∀ j, j < i → ¬ gdS G j) : Ev X (d + 6) 147 47 [Vr 141, Vr (y : Int), Vr 119, Vi 0, Vi 1, Vi (i : Int), zz] [] (SHv (y : Int) (z : Int) rd, ovl a s b) Q := by
  induction hkk : (nL (gS G) - i) using Nat.strongRecOn generalizing i zz a with
  | ind kk ih =>
    obtain ⟨hyz, hrd, hY, hWY, hBB, hWB, hWE, hn180, ⟨e7, e6, e5, e0, hEv⟩, hTp, hfk, hfp, hCh, h156, hOwn⟩ := id hT
    have hy : hyS y := by show y = 2 ∨ y = 58; omega
    have hy0 : y = 2 ∨ y = 58 := hy
    have hW8 := hWY.2.2.1.1
    have hR8 := hWY.1.1
    have hT8 := hWY.2.2.2.1.1
    have hL30 := hWY.2.2.2.2.1.1
    have hC12 := hWY.2.2.2.2.2.1.1
    have hcc : a (y + 1) 4 = ((nL (gS G) : Nat) : Int) := by rw [hI.1 (y + 1) (by omega), hY.1 4 (by omega)]; exact hWY.2.2.2.2.1.2
    refine Ev.call (k := 4) (pc1 := 52) (L1 := [Vr 141, Vr (y : Int), Vr 119, Vi 0, Vi 1, Vi (i : Int), zz]) (S1 := [Vi 0, Vr (y : Int), Vr 141, Vi (i : Int)]) (h1 := ((SHv (y : Int) (z : Int) rd), (ovl a s b))) (m' := 148) (as := [Vr 141, Vr (y : Int), Vi 0]) (S' := [Vi (i : Int)]) (L0 := [Vr 141, Vr (y : Int), Vi 0]) (fun _ => rfl) rfl rfl rfl rfl rfl rfl (c_changeable_0 hy) (fun r h' hq => ?_)
    obtain ⟨rfl, rfl⟩ := hq
    rw [hcc]
    show Ev X _ _ 55 [Vr 141, Vr (y : Int), Vr 119, Vi 0, Vi 1, Vi (i : Int), zz] [Vi ((nL (gS G) : Nat) : Int), Vi (i : Int)] ((SHv (y : Int) (z : Int) rd), (ovl a s b)) _
    refine Ev.ite (P := ((nL (gS G) : Nat) : Int) ≤ (i : Int)) (k := 1) (a := 155) (b := 58) (L' := [Vr 141, Vr (y : Int), Vr 119, Vi 0, Vi 1, Vi (i : Int), zz]) (S' := []) (h' := ((SHv (y : Int) (z : Int) rd), (ovl a s b))) (fun _ => rfl) (fun b55 => ?_) (fun b55 => ?_)
    · obtain rfl : i = nL (gS G) := by omega
      exact K a zz hI (by
        have e : nL (gS G) = nL (gS G) := by first | rfl | omega | (unfold chgN; omega)
        rw [e]
        exact hv)
    · refine Ev.steps (k := 2) (pc' := 61) (L' := [Vr 141, Vr (y : Int), Vr 119, Vi 0, Vi 1, Vi (i : Int), Vi 0]) (S' := []) (h' := ((SHv (y : Int) (z : Int) rd), (ovl a s b))) (fun _ => rfl) ?_
      refine c_sp_r_0 hT hn0 hQ i (by omega) (fun a2 i1 i2 => ?_) 0 (by omega) hI (fun j hj => hv j (by omega))
      refine Ev.steps (k := 1) (pc' := 152) (L' := [Vr 141, Vr (y : Int), Vr 119, Vi 0, Vi 1, Vi (w32 ((i : Int) + 1)), Vi 1]) (S' := []) (h' := ((SHv (y : Int) (z : Int) rd), (ovl a2 s b))) (fun _ => rfl) ?_
      rw [show (w32 ((i : Int) + 1)) = ((i : Int) + 1) from w32_id (by unfold R32; omega)]
      refine Ev.steps (k := 1) (pc' := 47) (L' := [Vr 141, Vr (y : Int), Vr 119, Vi 0, Vi 1, Vi ((i : Int) + 1), Vi 1]) (S' := []) (h' := ((SHv (y : Int) (z : Int) rd), (ovl a2 s b))) (fun _ => rfl) ?_
      exact ih _ (by omega) (a := a2) (i + 1) _ (by omega) i1 i2 rfl
theorem c_sp_n_1 {X : List Int} {d : Nat} {rd : Int} {a s b : C3} {y z : Nat} {G : GST} {a0 : C3} (hT : TopC G a0 rd y z) (hn0 : 0 < gn G) {Q : Option pm_V → pm_H → Prop} (hQ : ∀ a2 : C3, SpF G a0 a2 → Q none (SHv (y : Int) (z : Int) rd, ovl a2 s b)) (K : ∀ (a2 : C3) (zz : pm_V), SpI a0 a2 → (∀ j, j < nL (gS G) + nW (gS G) * nR (gS G) → ¬ gdS G j) → Ev X (d + 6) 147 155 [Vr 141, Vr (y : Int), Vr 119, Vi 1, Vi ((nR (gS G) : Nat) : Int), Vi ((nW (gS G) : Nat) : Int), zz] [] (SHv (y : Int) (z : Int) rd, ovl a2 s b) Q) (i : Nat) (zz : pm_V) (hi : i ≤ nW (gS G)) (hI : SpI a0 a) (hv : ∀ j, j < nL (gS G) + (0 + i * nR (gS G)) → ¬ gdS G j) : Ev X (d + 6) 147 47 [Vr 141, Vr (y : Int), Vr 119, Vi 1, Vi ((nR (gS G) : Nat) : Int), Vi (i : Int), zz] [] (SHv (y : Int) (z : Int) rd, ovl a s b) Q := by
  induction hkk : (nW (gS G) - i) using Nat.strongRecOn generalizing i zz a with
  | ind kk ih =>
    obtain ⟨hyz, hrd, hY, hWY, hBB, hWB, hWE, hn180, ⟨e7, e6, e5, e0, hEv⟩, hTp, hfk, hfp, hCh, h156, hOwn⟩ := id hT
    have hy : hyS y := by show y = 2 ∨ y = 58; omega
    have hy0 : y = 2 ∨ y = 58 := hy
    have hW8 := hWY.2.2.1.1
    have hR8 := hWY.1.1
    have hT8 := hWY.2.2.2.1.1
    have hL30 := hWY.2.2.2.2.1.1
    have hC12 := hWY.2.2.2.2.2.1.1
    have hcc : a (y + 1) 2 = ((nW (gS G) : Nat) : Int) := by rw [hI.1 (y + 1) (by omega), hY.1 2 (by omega)]; exact hWY.2.2.1.2
    refine Ev.call (k := 4) (pc1 := 52) (L1 := [Vr 141, Vr (y : Int), Vr 119, Vi 1, Vi ((nR (gS G) : Nat) : Int), Vi (i : Int), zz]) (S1 := [Vi 1, Vr (y : Int), Vr 141, Vi (i : Int)]) (h1 := ((SHv (y : Int) (z : Int) rd), (ovl a s b))) (m' := 148) (as := [Vr 141, Vr (y : Int), Vi 1]) (S' := [Vi (i : Int)]) (L0 := [Vr 141, Vr (y : Int), Vi 1]) (fun _ => rfl) rfl rfl rfl rfl rfl rfl (c_changeable_1 hy) (fun r h' hq => ?_)
    obtain ⟨rfl, rfl⟩ := hq
    rw [hcc]
    show Ev X _ _ 55 [Vr 141, Vr (y : Int), Vr 119, Vi 1, Vi ((nR (gS G) : Nat) : Int), Vi (i : Int), zz] [Vi ((nW (gS G) : Nat) : Int), Vi (i : Int)] ((SHv (y : Int) (z : Int) rd), (ovl a s b)) _
    refine Ev.ite (P := ((nW (gS G) : Nat) : Int) ≤ (i : Int)) (k := 1) (a := 155) (b := 58) (L' := [Vr 141, Vr (y : Int), Vr 119, Vi 1, Vi ((nR (gS G) : Nat) : Int), Vi (i : Int), zz]) (S' := []) (h' := ((SHv (y : Int) (z : Int) rd), (ovl a s b))) (fun _ => rfl) (fun b55 => ?_) (fun b55 => ?_)
    · obtain rfl : i = nW (gS G) := by omega
      exact K a zz hI (by
        have e : nL (gS G) + nW (gS G) * nR (gS G) = nL (gS G) + (0 + nW (gS G) * nR (gS G)) := by first | rfl | omega | (unfold chgN; omega)
        rw [e]
        exact hv)
    · refine Ev.steps (k := 2) (pc' := 61) (L' := [Vr 141, Vr (y : Int), Vr 119, Vi 1, Vi ((nR (gS G) : Nat) : Int), Vi (i : Int), Vi 0]) (S' := []) (h' := ((SHv (y : Int) (z : Int) rd), (ovl a s b))) (fun _ => rfl) ?_
      refine c_sp_r_1 hT hn0 hQ i (by omega) (fun a2 i1 i2 => ?_) 0 (by omega) hI (fun j hj => hv j (by omega))
      refine Ev.steps (k := 1) (pc' := 152) (L' := [Vr 141, Vr (y : Int), Vr 119, Vi 1, Vi ((nR (gS G) : Nat) : Int), Vi (w32 ((i : Int) + 1)), Vi ((nR (gS G) : Nat) : Int)]) (S' := []) (h' := ((SHv (y : Int) (z : Int) rd), (ovl a2 s b))) (fun _ => rfl) ?_
      rw [show (w32 ((i : Int) + 1)) = ((i : Int) + 1) from w32_id (by unfold R32; omega)]
      refine Ev.steps (k := 1) (pc' := 47) (L' := [Vr 141, Vr (y : Int), Vr 119, Vi 1, Vi ((nR (gS G) : Nat) : Int), Vi ((i : Int) + 1), Vi ((nR (gS G) : Nat) : Int)]) (S' := []) (h' := ((SHv (y : Int) (z : Int) rd), (ovl a2 s b))) (fun _ => rfl) ?_
      exact ih _ (by omega) (a := a2) (i + 1) _ (by omega) i1 i2 rfl
theorem c_sp_n_2 {X : List Int} {d : Nat} {rd : Int} {a s b : C3} {y z : Nat} {G : GST} {a0 : C3} (hT : TopC G a0 rd y z) (hn0 : 0 < gn G) {Q : Option pm_V → pm_H → Prop} (hQ : ∀ a2 : C3, SpF G a0 a2 → Q none (SHv (y : Int) (z : Int) rd, ovl a2 s b)) (K : ∀ (a2 : C3) (zz : pm_V), SpI a0 a2 → (∀ j, j < chgN (gS G) → ¬ gdS G j) → Ev X (d + 6) 147 155 [Vr 141, Vr (y : Int), Vr 119, Vi 2, Vi ((nR (gS G) : Nat) : Int), Vi ((nT (gS G) : Nat) : Int), zz] [] (SHv (y : Int) (z : Int) rd, ovl a2 s b) Q) (i : Nat) (zz : pm_V) (hi : i ≤ nT (gS G)) (hI : SpI a0 a) (hv : ∀ j, j < nL (gS G) + nW (gS G) * nR (gS G) + (0 + i * nR (gS G)) → ¬ gdS G j) : Ev X (d + 6) 147 47 [Vr 141, Vr (y : Int), Vr 119, Vi 2, Vi ((nR (gS G) : Nat) : Int), Vi (i : Int), zz] [] (SHv (y : Int) (z : Int) rd, ovl a s b) Q := by
  induction hkk : (nT (gS G) - i) using Nat.strongRecOn generalizing i zz a with
  | ind kk ih =>
    obtain ⟨hyz, hrd, hY, hWY, hBB, hWB, hWE, hn180, ⟨e7, e6, e5, e0, hEv⟩, hTp, hfk, hfp, hCh, h156, hOwn⟩ := id hT
    have hy : hyS y := by show y = 2 ∨ y = 58; omega
    have hy0 : y = 2 ∨ y = 58 := hy
    have hW8 := hWY.2.2.1.1
    have hR8 := hWY.1.1
    have hT8 := hWY.2.2.2.1.1
    have hL30 := hWY.2.2.2.2.1.1
    have hC12 := hWY.2.2.2.2.2.1.1
    have hcc : a (y + 1) 3 = ((nT (gS G) : Nat) : Int) := by rw [hI.1 (y + 1) (by omega), hY.1 3 (by omega)]; exact hWY.2.2.2.1.2
    refine Ev.call (k := 4) (pc1 := 52) (L1 := [Vr 141, Vr (y : Int), Vr 119, Vi 2, Vi ((nR (gS G) : Nat) : Int), Vi (i : Int), zz]) (S1 := [Vi 2, Vr (y : Int), Vr 141, Vi (i : Int)]) (h1 := ((SHv (y : Int) (z : Int) rd), (ovl a s b))) (m' := 148) (as := [Vr 141, Vr (y : Int), Vi 2]) (S' := [Vi (i : Int)]) (L0 := [Vr 141, Vr (y : Int), Vi 2]) (fun _ => rfl) rfl rfl rfl rfl rfl rfl (c_changeable_2 hy) (fun r h' hq => ?_)
    obtain ⟨rfl, rfl⟩ := hq
    rw [hcc]
    show Ev X _ _ 55 [Vr 141, Vr (y : Int), Vr 119, Vi 2, Vi ((nR (gS G) : Nat) : Int), Vi (i : Int), zz] [Vi ((nT (gS G) : Nat) : Int), Vi (i : Int)] ((SHv (y : Int) (z : Int) rd), (ovl a s b)) _
    refine Ev.ite (P := ((nT (gS G) : Nat) : Int) ≤ (i : Int)) (k := 1) (a := 155) (b := 58) (L' := [Vr 141, Vr (y : Int), Vr 119, Vi 2, Vi ((nR (gS G) : Nat) : Int), Vi (i : Int), zz]) (S' := []) (h' := ((SHv (y : Int) (z : Int) rd), (ovl a s b))) (fun _ => rfl) (fun b55 => ?_) (fun b55 => ?_)
    · obtain rfl : i = nT (gS G) := by omega
      exact K a zz hI (by
        have e : chgN (gS G) = nL (gS G) + nW (gS G) * nR (gS G) + (0 + nT (gS G) * nR (gS G)) := by first | rfl | omega | (unfold chgN; omega)
        rw [e]
        exact hv)
    · refine Ev.steps (k := 2) (pc' := 61) (L' := [Vr 141, Vr (y : Int), Vr 119, Vi 2, Vi ((nR (gS G) : Nat) : Int), Vi (i : Int), Vi 0]) (S' := []) (h' := ((SHv (y : Int) (z : Int) rd), (ovl a s b))) (fun _ => rfl) ?_
      refine c_sp_r_2 hT hn0 hQ i (by omega) (fun a2 i1 i2 => ?_) 0 (by omega) hI (fun j hj => hv j (by omega))
      refine Ev.steps (k := 1) (pc' := 152) (L' := [Vr 141, Vr (y : Int), Vr 119, Vi 2, Vi ((nR (gS G) : Nat) : Int), Vi (w32 ((i : Int) + 1)), Vi ((nR (gS G) : Nat) : Int)]) (S' := []) (h' := ((SHv (y : Int) (z : Int) rd), (ovl a2 s b))) (fun _ => rfl) ?_
      rw [show (w32 ((i : Int) + 1)) = ((i : Int) + 1) from w32_id (by unfold R32; omega)]
      refine Ev.steps (k := 1) (pc' := 47) (L' := [Vr 141, Vr (y : Int), Vr 119, Vi 2, Vi ((nR (gS G) : Nat) : Int), Vi ((i : Int) + 1), Vi ((nR (gS G) : Nat) : Int)]) (S' := []) (h' := ((SHv (y : Int) (z : Int) rd), (ovl a2 s b))) (fun _ => rfl) ?_
      exact ih _ (by omega) (a := a2) (i + 1) _ (by omega) i1 i2 rfl
theorem q_seekSparing {X : List Int} {d : Nat} {rd : Int} {a s b : C3} {y z : Nat} {G : GST} (hT : TopC G a rd y z) (hn0 : 0 < gn G) (hns : a 141 4 = 0) : Ev X (d + 6) 147 0 [Vr 141, Vr (y : Int), Vr 119, Vx, Vx, Vx, Vx] [] (SHv (y : Int) (z : Int) rd, ovl a s b) (fun rr hh => rr = none ∧ ∃ a' : C3, hh = (SHv (y : Int) (z : Int) rd, ovl a' s b) ∧ SpF G a a') := by
  obtain ⟨hyz, hrd, hY, hWY, hBB, hWB, hWE, hn180, ⟨e7, e6, e5, e0, hEv⟩, hTp, hfk, hfp, hCh, h156, hOwn⟩ := id hT
  have hy : hyS y := by show y = 2 ∨ y = 58; omega
  have hy0 : y = 2 ∨ y = 58 := hy
  have hW8 := hWY.2.2.1.1
  have hR8 := hWY.1.1
  have hT8 := hWY.2.2.2.1.1
  have hL30 := hWY.2.2.2.2.1.1
  have hC12 := hWY.2.2.2.2.2.1.1
  have hcR : ∀ a2 : C3, SpI a a2 → a2 (y + 1) 0 = ((nR (gS G) : Nat) : Int) := fun a2 h => by rw [h.1 (y + 1) (by omega), hY.1 0 (by omega)]; exact hWY.1.2
  have hQ : ∀ a2 : C3, SpF G a a2 → (none : Option pm_V) = none ∧ ∃ a' : C3, (SHv (y : Int) (z : Int) rd, ovl a2 s b) = (SHv (y : Int) (z : Int) rd, ovl a' s b) ∧ SpF G a a' := fun a2 h => ⟨rfl, a2, rfl, h⟩
  refine Ev.steps (k := 2) (pc' := 4) (L' := [Vr 141, Vr (y : Int), Vr 119, Vx, Vx, Vx, Vx]) (S' := [Vi (a 141 4)]) (h' := ((SHv (y : Int) (z : Int) rd), (ovl a s b))) (fun _ => rfl) ?_
  rw [hns]
  refine Ev.steps (k := 3) (pc' := 10) (L' := [Vr 141, Vr (y : Int), Vr 119, Vx, Vx, Vx, Vx]) (S' := [Vi 1, Vr 141]) (h' := ((SHv (y : Int) (z : Int) rd), (ovl a s b))) (fun _ => rfl) ?_
  refine Ev.putz (c' := (ovl (updC a 141 4 1) s b)) rfl (by decide) rfl rfl rfl (by decide) (ovl_wc (by decide)) ?_
  refine Ev.call (k := 3) (pc1 := 18) (L1 := [Vr 141, Vr (y : Int), Vr 119, Vx, Vx, Vx, Vx]) (S1 := [Vi (-1), Vr 164]) (h1 := ((SHv (y : Int) (z : Int) rd), (ovl (updC a 141 4 1) s b))) (m' := 25) (as := [Vr 164, Vi (-1)]) (S' := []) (L0 := [Vr 164, Vi (-1), Vx, Vx]) (fun _ => rfl) rfl rfl rfl rfl rfl rfl (c_fill 164 3 (by omega) rfl (-1) (by omega)) (fun r h' hq => ?_)
  obtain ⟨rfl, a1, rfl, f1, f2⟩ := hq
  have hI : SpI a a1 := ⟨fun o ho => by rw [f1 o (by omega), updC_row (by omega)], fun i hi => by rw [f1 141 (by omega), updC_nt (by omega)], by rw [f1 141 (by omega), updC_sm], f2, by rw [f1 156 (by omega), updC_row (by omega)]; exact h156⟩
  show Ev X _ _ 21 [Vr 141, Vr (y : Int), Vr 119, Vx, Vx, Vx, Vx] [] ((SHv (y : Int) (z : Int) rd), (ovl a1 s b)) _
  refine Ev.steps (k := 12) (pc' := 47) (L' := [Vr 141, Vr (y : Int), Vr 119, Vi 0, Vi 1, Vi 0, Vx]) (S' := []) (h' := ((SHv (y : Int) (z : Int) rd), (ovl a1 s b))) (fun _ => rfl) ?_
  refine c_sp_n_0 hT hn0 hQ (fun a1x z1 k1 k2 => ?_) 0 _ (by omega) hI (fun j hj => absurd hj (by omega))
  refine Ev.steps (k := 8) (pc' := 37) (L' := [Vr 141, Vr (y : Int), Vr 119, Vi 1, Vi 1, Vi ((nL (gS G) : Nat) : Int), z1]) (S' := [Vr (y : Int)]) (h' := ((SHv (y : Int) (z : Int) rd), (ovl a1x s b))) (fun _ => rfl) ?_
  refine Ev.getr (r := ((y : Int) + 1)) rfl rfl (by omega) (shY_0 hy) rfl rfl rfl ?_
  refine Ev.steps (k := 1) (pc' := 41) (L' := [Vr 141, Vr (y : Int), Vr 119, Vi 1, Vi 1, Vi ((nL (gS G) : Nat) : Int), z1]) (S' := [Vi 0, Vr ((y : Int) + 1)]) (h' := ((SHv (y : Int) (z : Int) rd), (ovl a1x s b))) (fun _ => rfl) ?_
  refine Ev.iald (v := ((nR (gS G) : Nat) : Int)) rfl (by omega) (shY_1 hy) (by omega) (by omega) ((ovl_rc (by omega)).trans ((hcR a1x k1))) ?_
  refine Ev.steps (k := 3) (pc' := 47) (L' := [Vr 141, Vr (y : Int), Vr 119, Vi 1, Vi ((nR (gS G) : Nat) : Int), Vi 0, z1]) (S' := []) (h' := ((SHv (y : Int) (z : Int) rd), (ovl a1x s b))) (fun _ => rfl) ?_
  refine c_sp_n_1 hT hn0 hQ (fun a2 z2 m1 m2 => ?_) 0 _ (by omega) k1 (fun j hj => k2 j (by omega))
  refine Ev.steps (k := 8) (pc' := 37) (L' := [Vr 141, Vr (y : Int), Vr 119, Vi 2, Vi ((nR (gS G) : Nat) : Int), Vi ((nW (gS G) : Nat) : Int), z2]) (S' := [Vr (y : Int)]) (h' := ((SHv (y : Int) (z : Int) rd), (ovl a2 s b))) (fun _ => rfl) ?_
  refine Ev.getr (r := ((y : Int) + 1)) rfl rfl (by omega) (shY_0 hy) rfl rfl rfl ?_
  refine Ev.steps (k := 1) (pc' := 41) (L' := [Vr 141, Vr (y : Int), Vr 119, Vi 2, Vi ((nR (gS G) : Nat) : Int), Vi ((nW (gS G) : Nat) : Int), z2]) (S' := [Vi 0, Vr ((y : Int) + 1)]) (h' := ((SHv (y : Int) (z : Int) rd), (ovl a2 s b))) (fun _ => rfl) ?_
  refine Ev.iald (v := ((nR (gS G) : Nat) : Int)) rfl (by omega) (shY_1 hy) (by omega) (by omega) ((ovl_rc (by omega)).trans ((hcR a2 m1))) ?_
  refine Ev.steps (k := 3) (pc' := 47) (L' := [Vr 141, Vr (y : Int), Vr 119, Vi 2, Vi ((nR (gS G) : Nat) : Int), Vi 0, z2]) (S' := []) (h' := ((SHv (y : Int) (z : Int) rd), (ovl a2 s b))) (fun _ => rfl) ?_
  refine c_sp_n_2 hT hn0 hQ (fun a3x z3 n1 n2 => ?_) 0 _ (by omega) m1 (fun j hj => m2 j (by omega))
  refine Ev.fin (k := 6) (r := none) (h' := ((SHv (y : Int) (z : Int) rd), (ovl a3x s b))) (fun _ => rfl) ?_
  exact ⟨rfl, a3x, rfl, n1.done n2⟩
theorem q_seekSp2 {X : List Int} {d : Nat} {rd : Int} {a s b : C3} {y z : Nat} {G : GST} (hT : TopC G a rd y z) (hn0 : 0 < gn G) (h9 : gA G (gn G) 9 0 ≠ 0) : Ev X (d + 6) 147 0 [Vr 141, Vr (y : Int), Vr 119, Vx, Vx, Vx, Vx] [] (SHv (y : Int) (z : Int) rd, ovl a s b) (fun rr hh => rr = none ∧ ∃ a' : C3, hh = (SHv (y : Int) (z : Int) rd, ovl a' s b) ∧ TopC G a' rd y z ∧ ∀ w : Nat, w < 3 → a' 164 w = aSpare G w) := by
  obtain ⟨hyz, hrd, hY, hWY, hBB, hWB, hWE, hn180, hE, hTp, hfk, hfp, hCh, h156, hOwn⟩ := id hT
  have hL30 := hWY.2.2.2.2.1.1
  have hC12 := hWY.2.2.2.2.2.1.1
  obtain ⟨c1, c2, c3, c4⟩ := hCh
  by_cases h4 : a 141 4 = 0
  · refine Ev.mono (q_seekSparing hT hn0 h4) (fun r h' hq => ?_)
    obtain ⟨g1, a', g2, s1, s2, s3, s4, s5⟩ := hq
    have hval : ∀ w : Nat, w < 3 → a' 164 w = aSpare G w := fun w hw => by
      rw [s4 w hw]
      unfold aSpare
      by_cases hs : sprJ G < chgN (gS G)
      · rw [if_pos hs, if_pos ⟨⟨by omega, by omega⟩, h9, hs⟩]
      · rw [if_neg hs, if_neg (fun h => hs h.2.2)]
    refine ⟨g1, a', g2, ⟨hyz, hrd, hY.fr (fun o g1 g2 => s1 o (by omega)) hL30 hC12, hWY, hBB.fr (fun o g1 g2 => s1 o (by omega)), hWB, hWE, hn180, hE.fr (fun o g1 g2 => s1 o (by omega)), ?_, ?_, ?_, ⟨Or.inr s3, by rw [s2 5 (by omega)]; exact c2, fun _ => ⟨h9, hval⟩, fun h5 => ?_⟩, s5, ?_⟩, hval⟩
    · rw [s1 0 (by omega), s1 1 (by omega)]; exact hTp
    · rw [s1 114 (by omega)]; exact hfk
    · rw [s1 114 (by omega)]; exact hfp
    · rw [s2 5 (by omega)] at h5
      rw [s1 165 (by omega)]
      exact c4 h5
    · unfold OwnC
      rw [s1 115 (by omega)]; exact hOwn
  · have h41 : a 141 4 = 1 := by omega
    refine Ev.steps (k := 2) (pc' := 4) (L' := [Vr 141, Vr (y : Int), Vr 119, Vx, Vx, Vx, Vx]) (S' := [Vi (a 141 4)]) (h' := ((SHv (y : Int) (z : Int) rd), (ovl a s b))) (fun _ => rfl) ?_
    rw [h41]
    refine Ev.fin (k := 2) (r := none) (h' := ((SHv (y : Int) (z : Int) rd), (ovl a s b))) (fun _ => rfl) ?_
    exact ⟨rfl, a, rfl, hT, fun w hw => (c3 h41).2 w hw⟩
theorem h_spare {X : List Int} {d : Nat} {rd : Int} {a s b : C3} {y z : Nat} {G : GST} (hT : TopC G a rd y z) (w : Int) : Ev X (d + 7) 146 0 [Vr 0, Vi w] [] (SHv (y : Int) (z : Int) rd, ovl a s b) (fun rr hh => rr = some (Vi (aSpare G w)) ∧ ∃ a' : C3, hh = (SHv (y : Int) (z : Int) rd, ovl a' s b) ∧ TopC G a' rd y z) := by
  obtain ⟨hyz, hrd, hY, hWY, hBB, hWB, hWE, hn180, ⟨e7, e6, e5, e0, hEv⟩, hTp, hfk, hfp, hCh, h156, hOwn⟩ := id hT
  have hy : hyS y := by show y = 2 ∨ y = 58; omega
  have hy0 : y = 2 ∨ y = 58 := hy
  have hW8 := hWY.2.2.1.1
  have hR8 := hWY.1.1
  have hT8 := hWY.2.2.2.1.1
  have hL30 := hWY.2.2.2.2.1.1
  have hC12 := hWY.2.2.2.2.2.1.1
  have hz : gn G = 0 → gA G (gn G) 9 0 = 0 := fun h => by rw [h]; rfl
  obtain ⟨v9, hv9⟩ : ∃ v, v = gA G (gn G) 9 0 := ⟨_, rfl⟩
  rw [← hv9] at hz e6
  refine Ev.ite (P := w < 0) (k := 2) (a := 26) (b := 4) (L' := [Vr 0, Vi w]) (S' := []) (h' := ((SHv (y : Int) (z : Int) rd), (ovl a s b))) (fun _ => rfl) (fun b1 => ?_) (fun b1 => ?_)
  · refine Ev.fin (k := 2) (r := (some (Vi (-1)))) (h' := ((SHv (y : Int) (z : Int) rd), (ovl a s b))) (fun _ => rfl) ?_
    refine ⟨?_, a, rfl, hT⟩
    unfold aSpare
    rw [if_neg]
    rintro ⟨h1, h2, -⟩
    rw [← hv9] at h2
    omega
  · refine Ev.ite (P := 3 ≤ w) (k := 6) (a := 26) (b := 16) (L' := [Vr 0, Vi w]) (S' := []) (h' := ((SHv (y : Int) (z : Int) rd), (ovl a s b))) (fun _ => rfl) (fun b13 => ?_) (fun b13 => ?_)
    · refine Ev.fin (k := 2) (r := (some (Vi (-1)))) (h' := ((SHv (y : Int) (z : Int) rd), (ovl a s b))) (fun _ => rfl) ?_
      refine ⟨?_, a, rfl, hT⟩
      unfold aSpare
      rw [if_neg]
      rintro ⟨h1, h2, -⟩
      rw [← hv9] at h2
      omega
    · refine Ev.steps (k := 3) (pc' := 23) (L' := [Vr 0, Vi w]) (S' := [Vi (a 119 6)]) (h' := ((SHv (y : Int) (z : Int) rd), (ovl a s b))) (fun _ => rfl) ?_
      rw [e6]
      refine Ev.ite (P := v9 ≠ 0) (k := 1) (a := 28) (b := 26) (L' := [Vr 0, Vi w]) (S' := []) (h' := ((SHv (y : Int) (z : Int) rd), (ovl a s b))) (fun _ => rfl) (fun b23 => ?_) (fun b23 => ?_)
      · have hn0 : 0 < gn G := by
          by_cases h : gn G = 0
          · have := hz h
            omega
          · omega
        obtain ⟨ww, hww⟩ : ∃ ww : Nat, w = (ww : Int) := ⟨w.toNat, by omega⟩
        refine Ev.call (k := 6) (pc1 := 40) (L1 := [Vr 0, Vi w]) (S1 := [Vr 119, Vr (y : Int), Vr 141]) (h1 := ((SHv (y : Int) (z : Int) rd), (ovl a s b))) (m' := 147) (as := [Vr 141, Vr (y : Int), Vr 119]) (S' := []) (L0 := [Vr 141, Vr (y : Int), Vr 119, Vx, Vx, Vx, Vx]) (fun _ => rfl) rfl rfl rfl rfl rfl rfl (q_seekSp2 hT hn0 (by rw [← hv9]; exact b23)) (fun r h' hq => ?_)
        obtain ⟨rfl, a1, rfl, hT1, hsp⟩ := hq
        have hw1 : a1 164 ww = aSpare G ww := hsp ww (by omega)
        have hw2 : a1 164 w.toNat = aSpare G w := by rw [hww, Int.toNat_natCast]; exact hw1
        show Ev X _ _ 43 [Vr 0, Vi w] [] ((SHv (y : Int) (z : Int) rd), (ovl a1 s b)) _
        refine Ev.steps (k := 4) (pc' := 51) (L' := [Vr 0, Vi w]) (S' := [Vi w, Vr 164]) (h' := ((SHv (y : Int) (z : Int) rd), (ovl a1 s b))) (fun _ => rfl) ?_
        refine Ev.iald (v := (a1 164 (w).toNat)) rfl (by decide) rfl (by omega) (by omega) (rfl) ?_
        refine Ev.fin (k := 1) (r := (some (Vi (a1 164 (w).toNat)))) (h' := ((SHv (y : Int) (z : Int) rd), (ovl a1 s b))) (fun _ => rfl) ?_
        refine ⟨?_, a1, rfl, hT1⟩
        first | rw [hw2] | exact congrArg (fun z => some (Vi z)) hw2
      · refine Ev.fin (k := 2) (r := (some (Vi (-1)))) (h' := ((SHv (y : Int) (z : Int) rd), (ovl a s b))) (fun _ => rfl) ?_
        refine ⟨?_, a, rfl, hT⟩
        unfold aSpare
        rw [if_neg]
        rintro ⟨h1, h2, -⟩
        rw [← hv9] at h2
        omega
