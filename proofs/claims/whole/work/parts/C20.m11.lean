/-! THE CLASS: an evening passes -/
theorem RbC.cp {S : STY} {B a a' : SC} {k k' : Nat} (h : RbC S B a k) (hW : nW S ≤ 8) (hT : nT S ≤ 8) (h1 : ∀ i, i < 8 → a' (k' + 1) i = a (k + 1) i) (h2 : ∀ i, i < 8 → a' (k' + 2) i = a (k + 2) i) (h3 : a' k' 2 = a k 2) : RbC S B a' k' := by
  obtain ⟨b0, b1, b2, b3, b4⟩ := h
  refine ⟨fun p hp => ?_, fun i hi => ?_, fun t ht => ?_, fun i hi => ?_, ?_⟩
  · rw [h1 p (by omega)]; exact b0 p hp
  · rw [h1 i hi]; exact b1 i hi
  · rw [h2 t (by omega)]; exact b2 t ht
  · rw [h2 i hi]; exact b3 i hi
  · rw [h3]; exact b4
theorem c_copyU {X : List Int} {d : Nat} {st dr rd : Int} {a s b : C3} {u : Nat} (hk : hkS (u + 8)) {j : Nat} (hj : hkS j) (hkj : u + 8 ≠ j) : Ev X d 61 0 [Vr ((u : Int) + 8), Vr (j : Int), Vx] [] (SHv st dr rd, ovl a s b) (fun rr hh => rr = none ∧ ∃ a' : C3, hh = (SHv st dr rd, ovl a' s b) ∧ FrO (u + 8) (u + 10) a a' ∧ (∀ i, i < 8 → a' (u + 9) i = a (j + 1) i) ∧ (∀ i, i < 8 → a' (u + 10) i = a (j + 2) i) ∧ a' (u + 8) 2 = a j 2) := by
  have e : (u : Int) + 8 = ((u + 8 : Nat) : Int) := by omega
  rw [e]
  exact c_copy hk hj hkj
/-- an evening of n minutes lies at u, whole -/
def EvF (S : STY) (B a : SC) (u n : Nat) : Prop := a u 7 = (n : Int) ∧ RsC S (aftS S B n) a u ∧ DdC (aftS S B n) a u ∧ DyU S B a u (aftS S B n) n 0 ∧ HsH (nW S) (fun m => aftS S B (m + 1)) a u n ∧ RbC S B a (u + 8)
theorem aftS_s {S : STY} {B : SC} {m : Nat} : aftS S B (m + 1) = lrnS (nW S) (psnS S B (updC (aftS S B m) 5 0 m) (nW S)) := rfl
theorem lrnS_r {n : Nat} {c : SC} {t : Nat} (h : t ≠ 4) : lrnS n c t = c t := by
  funext i
  exact lrnS_n h
theorem HdQ.live {S : STY} {B : SC} {m p : Nat} {c : SC} (hc : c = psnS S B (updC (aftS S B m) 5 0 m) p) (hl : c 1 p ≠ 0) : HdQ S B m p (trnS S B p c).1 := by
  subst hc
  unfold HdQ hdnS dnS
  rw [if_pos hl]
theorem HdQ.dead {S : STY} {B : SC} {m p : Nat} {c : SC} (hc : c = psnS S B (updC (aftS S B m) 5 0 m) p) (hl : ¬ c 1 p ≠ 0) : HdQ S B m p (-1) := by
  subst hc
  unfold HdQ hdnS dnS
  rw [if_neg hl]
theorem DyU.skip {S : STY} {E a c : SC} {u m q : Nat} (h : DyU S E a u c m q) (hm : m < 180) (hq : q < nW S) (hW : nW S ≤ 8) (hv : HdQ S E m q (-1)) : DyU S E a u c m (q + 1) :=
  ⟨fun hu => ⟨(h.1 hu).1, (h.1 hu).2.skip hm hq hW hv⟩, h.2⟩
theorem psnS_l {S : STY} {B c : SC} {p : Nat} (h : psnS S B c p 1 p ≠ 0) : psnS S B c (p + 1) = (trnS S B p (psnS S B c p)).2 := by rw [psnS_s, if_pos h]
theorem psnS_d {S : STY} {B c : SC} {p : Nat} (h : ¬ psnS S B c p 1 p ≠ 0) : psnS S B c (p + 1) = psnS S B c p := by rw [psnS_s, if_neg h]
theorem c_pass_p {X : List Int} {d : Nat} {st dr rd : Int} {a s b : C3} {u : Nat} (hu : huS u) {y : Nat} (hy : hyS y) (k n w : Nat) {S : STY} {B : SC} (hWY : WfY S) (hWB : WfB S B) (m : Nat) (hm : m < 180) {a0 : C3} {Q : Option pm_V → pm_H → Prop} (hY0 : RpC S a0 y) (hB0 : RbC S B a0 (u + 8)) (K : ∀ (a2 c2 : C3), c2 = psnS S B (updC (aftS S B m) 5 0 m) (nW S) → RsC S c2 a2 u → DyU S B a2 u c2 m (nW S) → DdC c2 a2 u → FrT2 u a0 a2 → Ev X (d + 5) 77 106 [Vr (u : Int), Vr (y : Int), Vr (k : Int), Vi (n : Int), Vi (w : Int), Vi ((nW S : Nat) : Int), Vi (m : Int), Vi ((nW S : Nat) : Int)] [] (SHv st dr rd, ovl a2 s b) Q) (p : Nat) (c : C3) (hp : p ≤ nW S) (hc : c = psnS S B (updC (aftS S B m) 5 0 m) p) (hC : RsC S c a u) (hD : DyU S B a u c m p) (hDd : DdC c a u) (hF : FrT2 u a0 a) : Ev X (d + 5) 77 74 [Vr (u : Int), Vr (y : Int), Vr (k : Int), Vi (n : Int), Vi (w : Int), Vi ((nW S : Nat) : Int), Vi (m : Int), Vi (p : Int)] [] (SHv st dr rd, ovl a s b) (Q) := by
  induction hkk : (nW S - p) using Nat.strongRecOn generalizing p c a with
  | ind kk ih =>
    have hu0 : u = 119 ∨ u = 142 := hu
    have hy0 : y = 2 ∨ y = 58 := hy
    have hW8 := hWY.2.2.1.1
    have hal := alvB_lt (c := c) hW8
    have h9 := hC.2.2.2.2.2.2.2.2.2.1
    refine Ev.ite (P := ((nW S : Nat) : Int) ≤ (p : Int)) (k := 3) (a := 106) (b := 81) (L' := [Vr (u : Int), Vr (y : Int), Vr (k : Int), Vi (n : Int), Vi (w : Int), Vi ((nW S : Nat) : Int), Vi (m : Int), Vi (p : Int)]) (S' := []) (h' := ((SHv st dr rd), (ovl a s b))) (fun _ => rfl) (fun b78 => ?_) (fun b78 => ?_)
    · obtain rfl : p = nW S := by omega
      exact K a c hc hC hD hDd hF
    · refine Ev.steps (k := 1) (pc' := 82) (L' := [Vr (u : Int), Vr (y : Int), Vr (k : Int), Vi (n : Int), Vi (w : Int), Vi ((nW S : Nat) : Int), Vi (m : Int), Vi (p : Int)]) (S' := [Vr (u : Int)]) (h' := ((SHv st dr rd), (ovl a s b))) (fun _ => rfl) ?_
      refine Ev.getr (r := ((u : Int) + 1)) rfl rfl (by omega) (shU_0 hu) rfl rfl rfl ?_
      refine Ev.call (k := 1) (pc1 := 87) (L1 := [Vr (u : Int), Vr (y : Int), Vr (k : Int), Vi (n : Int), Vi (w : Int), Vi ((nW S : Nat) : Int), Vi (m : Int), Vi (p : Int)]) (S1 := [Vi (p : Int), Vr ((u : Int) + 1)]) (h1 := ((SHv st dr rd), (ovl a s b))) (m' := 79) (as := [Vr ((u : Int) + 1), Vi (p : Int)]) (S' := []) (L0 := [Vr ((u : Int) + 1), Vi (p : Int)]) (fun _ => rfl) rfl rfl rfl rfl (stpC_of rfl (pm_recv_of (by omega) (shU_1 hu))) rfl (c_lives hu p (by omega) (alvB (nW S) c) (by omega) h9) (fun r h' hq => ?_)
      obtain ⟨rfl, rfl⟩ := hq
      by_cases c87 : (alvB (nW S) c).testBit p = true
      · rw [if_pos c87]
        show Ev X _ _ 90 [Vr (u : Int), Vr (y : Int), Vr (k : Int), Vi (n : Int), Vi (w : Int), Vi ((nW S : Nat) : Int), Vi (m : Int), Vi (p : Int)] [Vi 1] ((SHv st dr rd), (ovl a s b)) _
        refine Ev.steps (k := 1) (pc' := 93) (L' := [Vr (u : Int), Vr (y : Int), Vr (k : Int), Vi (n : Int), Vi (w : Int), Vi ((nW S : Nat) : Int), Vi (m : Int), Vi (p : Int)]) (S' := []) (h' := ((SHv st dr rd), (ovl a s b))) (fun _ => rfl) ?_
        have hl := (alvB_tb.mp c87).2
        have hwf0 := psnS_wf (B := B) hWY (begA_wf hWY hWB hm) p hp
        rw [← hc] at hwf0
        have hwf := hwf0.1
        have hm5 : c 5 0 = (m : Int) := by rw [hwf0.2, updC_sm]
        clear hwf0
        have hY1 := hY0.fr (fun o g1 g2 => hF.1 o (by omega)) hWY.2.2.2.2.1.1 hWY.2.2.2.2.2.1.1
        have hB1 := hB0.fr (fun o g1 g2 => hF.2.1 o (by omega) (by omega))
        refine Ev.call (k := 3) (pc1 := 97) (L1 := [Vr (u : Int), Vr (y : Int), Vr (k : Int), Vi (n : Int), Vi (w : Int), Vi ((nW S : Nat) : Int), Vi (m : Int), Vi (p : Int)]) (S1 := [Vi (p : Int), Vr (y : Int), Vr (u : Int)]) (h1 := ((SHv st dr rd), (ovl a s b))) (m' := 80) (as := [Vr (u : Int), Vr (y : Int), Vi (p : Int)]) (S' := []) (L0 := [Vr (u : Int), Vr (y : Int), Vi (p : Int), Vx, Vx, Vx, Vx]) (fun _ => rfl) rfl rfl rfl rfl (stpC_of rfl (pm_recv_of (by omega) (shU_0 hu))) rfl (c_turn hu hy hWY p (by omega) hwf hl m hm hm5 hY1 hB1 hC hD hDd (HdQ.live hc hl)) (fun r h' hq => ?_)
        obtain ⟨rfl, a1, rfl, g1, g2, g3, g4⟩ := hq
        show Ev X _ _ 100 [Vr (u : Int), Vr (y : Int), Vr (k : Int), Vi (n : Int), Vi (w : Int), Vi ((nW S : Nat) : Int), Vi (m : Int), Vi (p : Int)] [] ((SHv st dr rd), (ovl a1 s b)) _
        refine Ev.steps (k := 1) (pc' := 103) (L' := [Vr (u : Int), Vr (y : Int), Vr (k : Int), Vi (n : Int), Vi (w : Int), Vi ((nW S : Nat) : Int), Vi (m : Int), Vi (w32 ((p : Int) + 1))]) (S' := []) (h' := ((SHv st dr rd), (ovl a1 s b))) (fun _ => rfl) ?_
        rw [show (w32 ((p : Int) + 1)) = ((p : Int) + 1) from w32_id (by unfold R32; omega)]
        refine Ev.steps (k := 1) (pc' := 74) (L' := [Vr (u : Int), Vr (y : Int), Vr (k : Int), Vi (n : Int), Vi (w : Int), Vi ((nW S : Nat) : Int), Vi (m : Int), Vi ((p : Int) + 1)]) (S' := []) (h' := ((SHv st dr rd), (ovl a1 s b))) (fun _ => rfl) ?_
        exact ih _ (by omega) (a := a1) (p + 1) _ (by omega) (by rw [psnS_l (by rw [← hc]; exact hl), ← hc]) g2 g3 g4 (hF.tr g1) rfl
      · rw [if_neg c87]
        show Ev X _ _ 90 [Vr (u : Int), Vr (y : Int), Vr (k : Int), Vi (n : Int), Vi (w : Int), Vi ((nW S : Nat) : Int), Vi (m : Int), Vi (p : Int)] [Vi 0] ((SHv st dr rd), (ovl a s b)) _
        refine Ev.steps (k := 2) (pc' := 103) (L' := [Vr (u : Int), Vr (y : Int), Vr (k : Int), Vi (n : Int), Vi (w : Int), Vi ((nW S : Nat) : Int), Vi (m : Int), Vi (w32 ((p : Int) + 1))]) (S' := []) (h' := ((SHv st dr rd), (ovl a s b))) (fun _ => rfl) ?_
        rw [show (w32 ((p : Int) + 1)) = ((p : Int) + 1) from w32_id (by unfold R32; omega)]
        refine Ev.steps (k := 1) (pc' := 74) (L' := [Vr (u : Int), Vr (y : Int), Vr (k : Int), Vi (n : Int), Vi (w : Int), Vi ((nW S : Nat) : Int), Vi (m : Int), Vi ((p : Int) + 1)]) (S' := []) (h' := ((SHv st dr rd), (ovl a s b))) (fun _ => rfl) ?_
        have hl : ¬ c 1 p ≠ 0 := fun h => c87 (alvB_tb.mpr ⟨by omega, h⟩)
        exact ih _ (by omega) (p + 1) c (by omega) (by rw [psnS_d (by rw [← hc]; exact hl)]; exact hc) hC (hD.skip hm (by omega) hW8 (HdQ.dead hc hl)) hDd hF rfl
theorem c_pass_m {X : List Int} {d : Nat} {st dr rd : Int} {a s b : C3} {u : Nat} (hu : huS u) {y : Nat} (hy : hyS y) (k n w : Nat) {S : STY} {B : SC} (hWY : WfY S) (hWB : WfB S B) (hn : n ≤ 180) {a0 : C3} (hY0 : RpC S a0 y) (m : Nat) (z : pm_V) (c : C3) (hmn : m ≤ n) (hc : c = aftS S B m) (hC : RsC S c a u) (hD : DyU S B a u c m 0) (hDd : DdC c a u) (hH : HsH (nW S) (fun m => aftS S B (m + 1)) a u m) (h7 : a u 7 = (n : Int)) (hB : RbC S B a (u + 8)) (hF : FrO u (u + 18) a0 a) : Ev X (d + 5) 77 44 [Vr (u : Int), Vr (y : Int), Vr (k : Int), Vi (n : Int), Vi (w : Int), Vi ((nW S : Nat) : Int), Vi (m : Int), z] [] (SHv st dr rd, ovl a s b) (fun rr hh => rr = none ∧ ∃ a' : C3, hh = (SHv st dr rd, ovl a' s b) ∧ FrO u (u + 18) a0 a' ∧ (u = 142 → a' 156 0 = 0) ∧ (EvF S B a' u n ∨ ∃ j, j < n ∧ a' u 6 = aftS S B j 9 0 ∧ (w : Int) < aftS S B j 9 0)) := by
  induction hkk : (n - m) using Nat.strongRecOn generalizing m z c a with
  | ind kk ih =>
    have hu0 : u = 119 ∨ u = 142 := hu
    have hy0 : y = 2 ∨ y = 58 := hy
    have hW8 := hWY.2.2.1.1
    have hL30 := hWY.2.2.2.2.1.1
    have hC12 := hWY.2.2.2.2.2.1.1
    have h6 := hDd.1
    refine Ev.steps (k := 2) (pc' := 47) (L' := [Vr (u : Int), Vr (y : Int), Vr (k : Int), Vi (n : Int), Vi (w : Int), Vi ((nW S : Nat) : Int), Vi (m : Int), z]) (S' := [Vr (u : Int), Vi (m : Int)]) (h' := ((SHv st dr rd), (ovl a s b))) (fun _ => rfl) ?_
    refine Ev.getf (v := (n : Int)) rfl rfl (by omega) (shU_0 hu) rfl rfl ((ovl_rc (by omega)).trans (h7)) ?_
    refine Ev.ite (P := (n : Int) ≤ (m : Int)) (k := 1) (a := 127) (b := 53) (L' := [Vr (u : Int), Vr (y : Int), Vr (k : Int), Vi (n : Int), Vi (w : Int), Vi ((nW S : Nat) : Int), Vi (m : Int), z]) (S' := []) (h' := ((SHv st dr rd), (ovl a s b))) (fun _ => rfl) (fun b50 => ?_) (fun b50 => ?_)
    · refine Ev.fin (k := 1) (r := none) (h' := ((SHv st dr rd), (ovl a s b))) (fun _ => rfl) ?_
      by_cases hmn2 : m = n
      · subst hmn2
        subst hc
        exact ⟨rfl, a, rfl, hF, hD.2, Or.inl ⟨h7, hC, hDd, hD, hH, hB⟩⟩
      · refine ⟨rfl, a, rfl, hF, hD.2, Or.inr ⟨m, ?_, ?_, ?_⟩⟩
        · omega
        · rw [← hc]; exact h6
        · rw [← hc]; omega
    · refine Ev.steps (k := 1) (pc' := 54) (L' := [Vr (u : Int), Vr (y : Int), Vr (k : Int), Vi (n : Int), Vi (w : Int), Vi ((nW S : Nat) : Int), Vi (m : Int), z]) (S' := [Vr (u : Int)]) (h' := ((SHv st dr rd), (ovl a s b))) (fun _ => rfl) ?_
      refine Ev.getf (v := (c 9 0)) rfl rfl (by omega) (shU_0 hu) rfl rfl ((ovl_rc (by omega)).trans (h6)) ?_
      refine Ev.ite (P := (w : Int) < (c 9 0)) (k := 2) (a := 127) (b := 62) (L' := [Vr (u : Int), Vr (y : Int), Vr (k : Int), Vi (n : Int), Vi (w : Int), Vi ((nW S : Nat) : Int), Vi (m : Int), z]) (S' := []) (h' := ((SHv st dr rd), (ovl a s b))) (fun _ => rfl) (fun b59 => ?_) (fun b59 => ?_)
      · refine Ev.fin (k := 1) (r := none) (h' := ((SHv st dr rd), (ovl a s b))) (fun _ => rfl) ?_
        by_cases hmn2 : m = n
        · subst hmn2
          subst hc
          exact ⟨rfl, a, rfl, hF, hD.2, Or.inl ⟨h7, hC, hDd, hD, hH, hB⟩⟩
        · refine ⟨rfl, a, rfl, hF, hD.2, Or.inr ⟨m, ?_, ?_, ?_⟩⟩
          · omega
          · rw [← hc]; exact h6
          · rw [← hc]; omega
      · refine Ev.steps (k := 1) (pc' := 63) (L' := [Vr (u : Int), Vr (y : Int), Vr (k : Int), Vi (n : Int), Vi (w : Int), Vi ((nW S : Nat) : Int), Vi (m : Int), z]) (S' := [Vr (u : Int)]) (h' := ((SHv st dr rd), (ovl a s b))) (fun _ => rfl) ?_
        refine Ev.getr (r := ((u : Int) + 1)) rfl rfl (by omega) (shU_0 hu) rfl rfl rfl ?_
        refine Ev.steps (k := 1) (pc' := 68) (L' := [Vr (u : Int), Vr (y : Int), Vr (k : Int), Vi (n : Int), Vi (w : Int), Vi ((nW S : Nat) : Int), Vi (m : Int), z]) (S' := [Vi (m : Int), Vr ((u : Int) + 1)]) (h' := ((SHv st dr rd), (ovl a s b))) (fun _ => rfl) ?_
        refine Ev.putf (c' := (ovl (updC a (u + 1) 6 (m : Int)) s b)) rfl (by omega) (shU_1 hu) rfl rfl (ovl_wc (by omega)) ?_
        refine Ev.steps (k := 2) (pc' := 74) (L' := [Vr (u : Int), Vr (y : Int), Vr (k : Int), Vi (n : Int), Vi (w : Int), Vi ((nW S : Nat) : Int), Vi (m : Int), Vi 0]) (S' := []) (h' := ((SHv st dr rd), (ovl (updC a (u + 1) 6 (m : Int)) s b))) (fun _ => rfl) ?_
        have hY1 := hY0.fr (a' := (updC a (u + 1) 6 (m : Int))) (fun o g1 g2 => by rw [updC_row (by omega), hF o (by omega)]) hL30 hC12
        have hB1 := hB.fr (a' := (updC a (u + 1) 6 (m : Int))) (fun o g1 g2 => by rw [updC_row (by omega)])
        have hC1 := hC.min (v := (m : Int))
        have hD1 : DyU S B (updC a (u + 1) 6 (m : Int)) u (updC c 5 0 (m : Int)) m 0 := hD.fr (fun o g1 g2 => by rw [updC_row (by omega)]) rfl rfl
        have hDd1 : DdC (updC c 5 0 (m : Int)) (updC a (u + 1) 6 (m : Int)) u := hDd.fr (by rw [updC_row (by omega)]) (by rw [updC_row (by omega)]) rfl rfl
        refine c_pass_p hu hy k n w hWY hWB m (by omega) (a0 := (updC a (u + 1) 6 (m : Int))) hY1 hB1 (fun a2 c2 k1 k2 k3 k4 k5 => ?_) 0 (updC c 5 0 (m : Int)) (by omega) (by rw [hc]; rfl) hC1 hD1 hDd1 FrT2.rf
        have hwf0 := psnS_wf (B := B) hWY (begA_wf hWY hWB (show m < 180 by omega)) (nW S) (Nat.le_refl _)
        rw [← k1] at hwf0
        have hwc := hwf0.1.1
        have hm5 : c2 5 0 = (m : Int) := by rw [hwf0.2, updC_sm]
        clear hwf0
        have hR8 := hWY.1.1
        refine Ev.steps (k := 1) (pc' := 107) (L' := [Vr (u : Int), Vr (y : Int), Vr (k : Int), Vi (n : Int), Vi (w : Int), Vi ((nW S : Nat) : Int), Vi (m : Int), Vi ((nW S : Nat) : Int)]) (S' := [Vr (u : Int)]) (h' := ((SHv st dr rd), (ovl a2 s b))) (fun _ => rfl) ?_
        refine Ev.getr (r := ((u : Int) + 1)) rfl rfl (by omega) (shU_0 hu) rfl rfl rfl ?_
        refine Ev.call (k := 1) (pc1 := 112) (L1 := [Vr (u : Int), Vr (y : Int), Vr (k : Int), Vi (n : Int), Vi (w : Int), Vi ((nW S : Nat) : Int), Vi (m : Int), Vi ((nW S : Nat) : Int)]) (S1 := [Vi ((nW S : Nat) : Int), Vr ((u : Int) + 1)]) (h1 := ((SHv st dr rd), (ovl a2 s b))) (m' := 102) (as := [Vr ((u : Int) + 1), Vi ((nW S : Nat) : Int)]) (S' := []) (L0 := [Vr ((u : Int) + 1), Vi ((nW S : Nat) : Int), Vx, Vx, Vx, Vx]) (fun _ => rfl) rfl rfl rfl rfl (stpC_of rfl (pm_recv_of (by omega) (shU_1 hu))) rfl (c_learn hu k2 hW8 (fun p hp => by have := hwc.1 p hp; omega) hwc.2.1) (fun r h' hq => ?_)
        obtain ⟨rfl, a3, rfl, l1, l2⟩ := hq
        have hcs : lrnS (nW S) c2 = aftS S B (m + 1) := by rw [aftS_s, k1]
        have l5 : lrnS (nW S) c2 5 0 = (m : Int) := by rw [lrnS_r (by omega)]; exact hm5
        show Ev X _ _ 115 [Vr (u : Int), Vr (y : Int), Vr (k : Int), Vi (n : Int), Vi (w : Int), Vi ((nW S : Nat) : Int), Vi (m : Int), Vi ((nW S : Nat) : Int)] [] ((SHv st dr rd), (ovl a3 s b)) _
        refine Ev.call (k := 2) (pc1 := 118) (L1 := [Vr (u : Int), Vr (y : Int), Vr (k : Int), Vi (n : Int), Vi (w : Int), Vi ((nW S : Nat) : Int), Vi (m : Int), Vi ((nW S : Nat) : Int)]) (S1 := [Vi (m : Int), Vr (u : Int)]) (h1 := ((SHv st dr rd), (ovl a3 s b))) (m' := 103) (as := [Vr (u : Int), Vi (m : Int)]) (S' := []) (L0 := [Vr (u : Int), Vi (m : Int), Vx]) (fun _ => rfl) rfl rfl rfl rfl (stpC_of rfl (pm_recv_of (by omega) (shU_0 hu))) rfl (c_eNoteMinute hu l1 hWY m (by omega) l5 (k3.fr (fun o g1 g2 => l2 o (by omega)) (lrnS_r (by omega)) (lrnS_r (by omega))) hcs (hH.fr (by rw [l2 (u + 11) (by omega), k5.2.1 (u + 11) (by omega) (by omega), updC_row (by omega)]) (by rw [l2 (u + 12) (by omega), k5.2.1 (u + 12) (by omega) (by omega), updC_row (by omega)]))) (fun r h' hq => ?_)
        obtain ⟨rfl, a4, rfl, n1, n2, n3, n4⟩ := hq
        show Ev X _ _ 121 [Vr (u : Int), Vr (y : Int), Vr (k : Int), Vi (n : Int), Vi (w : Int), Vi ((nW S : Nat) : Int), Vi (m : Int), Vi ((nW S : Nat) : Int)] [] ((SHv st dr rd), (ovl a4 s b)) _
        refine Ev.steps (k := 1) (pc' := 124) (L' := [Vr (u : Int), Vr (y : Int), Vr (k : Int), Vi (n : Int), Vi (w : Int), Vi ((nW S : Nat) : Int), Vi (w32 ((m : Int) + 1)), Vi ((nW S : Nat) : Int)]) (S' := []) (h' := ((SHv st dr rd), (ovl a4 s b))) (fun _ => rfl) ?_
        rw [show (w32 ((m : Int) + 1)) = ((m : Int) + 1) from w32_id (by unfold R32; omega)]
        refine Ev.steps (k := 1) (pc' := 44) (L' := [Vr (u : Int), Vr (y : Int), Vr (k : Int), Vi (n : Int), Vi (w : Int), Vi ((nW S : Nat) : Int), Vi ((m : Int) + 1), Vi ((nW S : Nat) : Int)]) (S' := []) (h' := ((SHv st dr rd), (ovl a4 s b))) (fun _ => rfl) ?_
        refine ih _ (by omega) (a := a4) (m + 1) _ (lrnS (nW S) c2) (by omega) hcs (l1.fr (fun o g1 g2 => n1 o (by omega))) n3 ?_ n4 ?_ ?_ ?_ rfl
        · exact k4.fr (by rw [n1 u (by omega), l2 u (by omega)]) (by rw [n2, l2 (u + 13) (by omega)]) (lrnS_r (by omega)) (lrnS_r (by omega))
        · rw [n1 u (by omega), l2 u (by omega), k5.2.2, updC_row (by omega)]
          exact h7
        · exact hB.fr (fun o g1 g2 => by rw [n1 o (by omega), l2 o (by omega), k5.2.1 o (by omega) (by omega), updC_row (by omega)])
        · intro o ho
          rw [n1 o (by omega), l2 o (by omega), k5.1 o (by omega), updC_row (by omega), hF o (by omega)]
theorem c_pass {X : List Int} {d : Nat} {st dr rd : Int} {a s b : C3} {u : Nat} (hu : huS u) {y : Nat} (hy : hyS y) (k n w : Nat) {S : STY} {B : SC} (hWY : WfY S) (hWB : WfB S B) (hn : n ≤ 180) (hk2 : k = 116 ∨ k = 161) (hY : RpC S a y) (hBk : RbC S B a k) (h1 : u = 119 → a 133 0 = 1) (h2 : u = 142 → a 156 0 = 0) : Ev X (d + 5) 77 0 [Vr (u : Int), Vr (y : Int), Vr (k : Int), Vi (n : Int), Vi (w : Int), Vx, Vx, Vx] [] (SHv st dr rd, ovl a s b) (fun rr hh => rr = none ∧ ∃ a' : C3, hh = (SHv st dr rd, ovl a' s b) ∧ FrO u (u + 18) a a' ∧ (u = 142 → a' 156 0 = 0) ∧ (EvF S B a' u n ∨ ∃ j, j < n ∧ a' u 6 = aftS S B j 9 0 ∧ (w : Int) < aftS S B j 9 0)) := by
  have hu0 : u = 119 ∨ u = 142 := hu
  have hy0 : y = 2 ∨ y = 58 := hy
  have hk : hkS k := by show k = 8 ∨ k = 64 ∨ k = 116 ∨ k = 127 ∨ k = 150 ∨ k = 161; omega
  have hk8 : hkS (u + 8) := by show u + 8 = 8 ∨ u + 8 = 64 ∨ u + 8 = 116 ∨ u + 8 = 127 ∨ u + 8 = 150 ∨ u + 8 = 161; omega
  have hW8 := hWY.2.2.1.1
  have hT8 := hWY.2.2.2.1.1
  have hL30 := hWY.2.2.2.2.1.1
  have hC12 := hWY.2.2.2.2.2.1.1
  have hcn : a (y + 1) 2 = ((nW S : Nat) : Int) := by rw [hY.1 2 (by omega)]; exact hWY.2.2.1.2
  refine Ev.steps (k := 1) (pc' := 1) (L' := [Vr (u : Int), Vr (y : Int), Vr (k : Int), Vi (n : Int), Vi (w : Int), Vx, Vx, Vx]) (S' := [Vr (y : Int)]) (h' := ((SHv st dr rd), (ovl a s b))) (fun _ => rfl) ?_
  refine Ev.getr (r := ((y : Int) + 1)) rfl rfl (by omega) (shY_0 hy) rfl rfl rfl ?_
  refine Ev.steps (k := 1) (pc' := 5) (L' := [Vr (u : Int), Vr (y : Int), Vr (k : Int), Vi (n : Int), Vi (w : Int), Vx, Vx, Vx]) (S' := [Vi 2, Vr ((y : Int) + 1)]) (h' := ((SHv st dr rd), (ovl a s b))) (fun _ => rfl) ?_
  refine Ev.iald (v := ((nW S : Nat) : Int)) rfl (by omega) (shY_1 hy) (by omega) (by omega) ((ovl_rc (by omega)).trans (hcn)) ?_
  refine Ev.call (k := 2) (pc1 := 9) (L1 := [Vr (u : Int), Vr (y : Int), Vr (k : Int), Vi (n : Int), Vi (w : Int), Vi ((nW S : Nat) : Int), Vx, Vx]) (S1 := [Vr (u : Int)]) (h1 := ((SHv st dr rd), (ovl a s b))) (m' := 62) (as := [Vr (u : Int)]) (S' := []) (L0 := [Vr (u : Int)]) (fun _ => rfl) rfl rfl rfl rfl (stpC_of rfl (pm_recv_of (by omega) (shU_0 hu))) rfl (c_forget hu) (fun r h' hq => ?_)
  obtain ⟨rfl, a1, rfl, g1, g1b, g2, g3, g4, g5⟩ := hq
  show Ev X _ _ 12 [Vr (u : Int), Vr (y : Int), Vr (k : Int), Vi (n : Int), Vi (w : Int), Vi ((nW S : Nat) : Int), Vx, Vx] [] ((SHv st dr rd), (ovl a1 s b)) _
  refine Ev.call (k := 3) (pc1 := 17) (L1 := [Vr (u : Int), Vr (y : Int), Vr (k : Int), Vi (n : Int), Vi (w : Int), Vi ((nW S : Nat) : Int), Vx, Vx]) (S1 := [Vi 180, Vi (n : Int), Vr (u : Int)]) (h1 := ((SHv st dr rd), (ovl a1 s b))) (m' := 23) (as := [Vi (n : Int), Vi 180]) (S' := [Vr (u : Int)]) (L0 := [Vi (n : Int), Vi 180]) (fun _ => rfl) rfl rfl rfl rfl rfl rfl (c_min4 (n : Int) 180) (fun r h' hq => ?_)
  obtain ⟨rfl, rfl⟩ := hq
  rw [if_pos (by omega)]
  show Ev X _ _ 20 [Vr (u : Int), Vr (y : Int), Vr (k : Int), Vi (n : Int), Vi (w : Int), Vi ((nW S : Nat) : Int), Vx, Vx] [Vi (n : Int), Vr (u : Int)] ((SHv st dr rd), (ovl a1 s b)) _
  refine Ev.putf (c' := (ovl (updC a1 u 7 (n : Int)) s b)) rfl (by omega) (shU_0 hu) rfl rfl (ovl_wc (by omega)) ?_
  refine Ev.steps (k := 1) (pc' := 24) (L' := [Vr (u : Int), Vr (y : Int), Vr (k : Int), Vi (n : Int), Vi (w : Int), Vi ((nW S : Nat) : Int), Vx, Vx]) (S' := [Vr (u : Int)]) (h' := ((SHv st dr rd), (ovl (updC a1 u 7 (n : Int)) s b))) (fun _ => rfl) ?_
  refine Ev.getr (r := ((u : Int) + 8)) rfl rfl (by omega) (shU_0 hu) rfl rfl rfl ?_
  refine Ev.call (k := 1) (pc1 := 28) (L1 := [Vr (u : Int), Vr (y : Int), Vr (k : Int), Vi (n : Int), Vi (w : Int), Vi ((nW S : Nat) : Int), Vx, Vx]) (S1 := [Vr (k : Int), Vr ((u : Int) + 8)]) (h1 := ((SHv st dr rd), (ovl (updC a1 u 7 (n : Int)) s b))) (m' := 61) (as := [Vr ((u : Int) + 8), Vr (k : Int)]) (S' := []) (L0 := [Vr ((u : Int) + 8), Vr (k : Int), Vx]) (fun _ => rfl) rfl rfl rfl rfl (stpC_of rfl (pm_recv_of (by omega) (shU_8 hu))) rfl (c_copyU hk8 hk (by omega)) (fun r h' hq => ?_)
  obtain ⟨rfl, a2, rfl, g6, g7, g8, g9⟩ := hq
  have hB2 : RbC S B a2 k := hBk.fr (fun o f1 f2 => by rw [g6 o (by omega), updC_row (by omega), g1 o (by omega)])
  have hB3 : RbC S B a2 (u + 8) := RbC.cp (k := k) (a := updC a1 u 7 (n : Int)) (hBk.fr (fun o f1 f2 => by rw [updC_row (by omega), g1 o (by omega)])) hW8 hT8 g7 g8 g9
  show Ev X _ _ 31 [Vr (u : Int), Vr (y : Int), Vr (k : Int), Vi (n : Int), Vi (w : Int), Vi ((nW S : Nat) : Int), Vx, Vx] [] ((SHv st dr rd), (ovl a2 s b)) _
  refine Ev.steps (k := 1) (pc' := 32) (L' := [Vr (u : Int), Vr (y : Int), Vr (k : Int), Vi (n : Int), Vi (w : Int), Vi ((nW S : Nat) : Int), Vx, Vx]) (S' := [Vr (u : Int)]) (h' := ((SHv st dr rd), (ovl a2 s b))) (fun _ => rfl) ?_
  refine Ev.getr (r := ((u : Int) + 1)) rfl rfl (by omega) (shU_0 hu) rfl rfl rfl ?_
  refine Ev.call (k := 2) (pc1 := 38) (L1 := [Vr (u : Int), Vr (y : Int), Vr (k : Int), Vi (n : Int), Vi (w : Int), Vi ((nW S : Nat) : Int), Vx, Vx]) (S1 := [Vi ((nW S : Nat) : Int), Vr (k : Int), Vr ((u : Int) + 1)]) (h1 := ((SHv st dr rd), (ovl a2 s b))) (m' := 78) (as := [Vr ((u : Int) + 1), Vr (k : Int), Vi ((nW S : Nat) : Int)]) (S' := []) (L0 := [Vr ((u : Int) + 1), Vr (k : Int), Vi ((nW S : Nat) : Int), Vx]) (fun _ => rfl) rfl rfl rfl rfl (stpC_of rfl (pm_recv_of (by omega) (shU_1 hu))) rfl (c_open hu hk hWY hWB hB2) (fun r h' hq => ?_)
  obtain ⟨rfl, a3, rfl, o1, o2⟩ := hq
  show Ev X _ _ 41 [Vr (u : Int), Vr (y : Int), Vr (k : Int), Vi (n : Int), Vi (w : Int), Vi ((nW S : Nat) : Int), Vx, Vx] [] ((SHv st dr rd), (ovl a3 s b)) _
  refine Ev.steps (k := 2) (pc' := 44) (L' := [Vr (u : Int), Vr (y : Int), Vr (k : Int), Vi (n : Int), Vi (w : Int), Vi ((nW S : Nat) : Int), Vi 0, Vx]) (S' := []) (h' := ((SHv st dr rd), (ovl a3 s b))) (fun _ => rfl) ?_
  refine c_pass_m hu hy k n w hWY hWB hn (a0 := a) hY 0 _ (iniS B) (by omega) rfl o1 ⟨fun hu' => ?_, fun hu' => ?_⟩ ⟨?_, fun i hi => ?_⟩ (fun j hj => absurd hj (by omega)) ?_ ?_ ?_
  · obtain ⟨e1, e2, e3⟩ := g4 hu'
    refine ⟨⟨?_, fun i hi => ?_⟩, ?_, fun i hi => ?_, fun j hj => absurd hj (by omega)⟩
    · rw [o2 133 (by omega), g6 133 (by omega), updC_row (by omega), e1]
      rfl
    · exact absurd hi (by show ¬ i < (0 : Int).toNat; omega)
    · rw [o2 133 (by omega), g6 133 (by omega), updC_row (by omega), e2]
      exact h1 hu'
    · rw [o2 134 (by omega), g6 134 (by omega), updC_row (by omega), e3 i hi, if_neg (by omega)]
  · rw [o2 156 (by omega), g6 156 (by omega), updC_row (by omega), g5 hu']
    exact h2 hu'
  · rw [o2 u (by omega), g6 u (by omega), updC_nt (by omega), g3]
    rfl
  · exact absurd hi (by show ¬ i < 6 * (0 : Int).toNat; omega)
  · rw [o2 u (by omega), g6 u (by omega), updC_sm]
  · exact hB3.fr (fun o f1 f2 => o2 o (by omega))
  · intro o ho
    rw [o2 o (by omega), g6 o (by omega), updC_row (by omega), g1 o (by omega)]
