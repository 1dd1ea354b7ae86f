/-! THE CLASS: a turn, the first other rule -/
theorem felsS_t {S : STY} {B c : SC} {p t : Nat} (ht : t ≠ 3) : ∀ r, felsS S B p c r t = c t
  | 0 => rfl
  | r + 1 => by
    rw [felsS_s]
    unfold felS
    split
    · rw [updC_row ht]
      exact felsS_t ht r
    · exact felsS_t ht r
/-- (sealed, so that no one unfolds it) -/
def HdQ (S : STY) (E : SC) (m p : Nat) (v : Int) : Prop := hdnS S E m p = v
set_option maxHeartbeats 2000000 in
theorem c_turn_a {X : List Int} {d : Nat} {st dr rd : Int} {a s b : C3} {u : Nat} (hu : huS u) {y : Nat} (hy : hyS y) {S : STY} {E : SC} (hWY : WfY S) (p f0 f1 f2 : Nat) (hp : p < nW S) {c0 c1 : SC} (hc1 : c1 = felsS S E p c0 (nL S)) (hK1 : WfK S c1 p) (hl1 : c1 1 p ≠ 0) (m : Nat) (hm : m < 180) (hm5 : c1 5 0 = (m : Int)) (hk9 : c1 9 0 < 8) {a0 : C3} (hseg : SgT S a0 y p false f1 f2) (hY : RpC S a0 y) (hRA : ∀ r, r < nL S → RuC S a0 y r) (xo : Nat) (hxo : xo < 1073741824) (hxa : a0 (u + 8) 2 = (xo : Int)) (hxb : ∀ r, r < nL S → (xo.testBit r = true ↔ E 2 r ≠ 0)) (hD0 : DyU S E a0 u c1 m p) (hDd0 : DdC c1 a0 u) (hh : HdQ S E m p (trnS S E p c0).1) (r i : Nat) (z : pm_V) (hr : r ≤ nL S) (hi : i = f1 + cntT S p false r) (hF : FrO (u + 1) (u + 7) a0 a) (hC : RsC S c1 a u) (hA : actS S E p c1 r = none) : Ev X (d + 4) 80 132 [Vr (u : Int), Vr (y : Int), Vi (p : Int), Vi (f1 : Int), Vi (f2 : Int), Vi (i : Int), z] [] (SHv st dr rd, ovl a s b) (fun rr hh => rr = none ∧ ∃ a' : C3, hh = (SHv st dr rd, ovl a' s b) ∧ FrT2 u a0 a' ∧ RsC S (trnS S E p c0).2 a' u ∧ DyU S E a' u (trnS S E p c0).2 m (p + 1) ∧ DdC (trnS S E p c0).2 a' u) := by
  induction hkk : (nL S - r) using Nat.strongRecOn generalizing r i z a with
  | ind kk ih =>
    have hu0 : u = 119 ∨ u = 142 := hu
    have hy0 : y = 2 ∨ y = 58 := hy
    have hk8 : hkS (u + 8) := by show u + 8 = 8 ∨ u + 8 = 64 ∨ u + 8 = 116 ∨ u + 8 = 127 ∨ u + 8 = 150 ∨ u + 8 = 161; omega
    have hL30 := hWY.2.2.2.2.1.1
    have hW8 := hWY.2.2.1.1
    have hmo := cntT_mono (S := S) (p := p) (f := false) (nL S) hr
    have hWC := hK1.1
    have hWay := hY.2.2.2.2.1
    refine Ev.ite (P := (f2 : Int) ≤ (i : Int)) (k := 3) (a := 227) (b := 139) (L' := [Vr (u : Int), Vr (y : Int), Vi (p : Int), Vi (f1 : Int), Vi (f2 : Int), Vi (i : Int), z]) (S' := []) (h' := ((SHv st dr rd), (ovl a s b))) (fun _ => rfl) (fun b136 => ?_) (fun b136 => ?_)
    · refine Ev.fin (k := 1) (r := none) (h' := ((SHv st dr rd), (ovl a s b))) (fun _ => rfl) ?_
      have e1 : actS S E p c1 (nL S) = none := actS_sk hA (nL S) hr (fun x h1 h2 => cntT_no (by have := hseg.1; omega) h1 h2)
      rw [hc1] at e1
      have e2 := trnS_none e1
      rw [e2] at hh
      rw [e2]
      have hD := hD0.fr (a' := a) (c' := c1) (fun o g1 g2 => hF o (by omega)) rfl rfl
      refine ⟨rfl, a, rfl, hF.t2 (by omega) (by omega) (by omega), by rw [← hc1]; exact hC, ⟨fun hu' => ?_, fun hu' => (hD.2 hu')⟩, by rw [← hc1]; exact hDd0.fr (by rw [hF u (by omega)]) (hF (u + 13) (by omega)) rfl rfl⟩
      obtain ⟨hT, hYd⟩ := hD.1 hu'
      refine ⟨by rw [← hc1]; exact hT, hYd.skip hm hp hW8 hh⟩
    · obtain ⟨q, n1, n2, n3, n4, n5⟩ := nxT r hr (show cntT S p false r < cntT S p false (nL S) by have := hseg.1; omega)
      have hsg : SgT S a y p false f1 f2 := by unfold SgT at hseg ⊢; rw [hF (y + 12) (by omega)]; exact hseg
      have hq12 : a (y + 12) i = (q : Int) := by rw [hi, ← n4]; exact hsg.2.2 q n2 n3
      have hRu : RuC S a y q := by
        have := hRA q n2
        unfold RuC at this ⊢
        rw [hF (y + 14 + q) (by omega), hF (y + 11) (by omega)]
        exact this
      obtain ⟨-, -, -, -, l0, l1, l2, v5, v6, v7, v8, v9, v10⟩ := id hRu
      obtain ⟨-, -, -, -, -, hq5, hq6, hq7⟩ := hWY.2.2.2.2.2.2.2.2.2.2.2 q n2
      have h4 := isT_f.mp n3
      clear v10 hq7
      have hlo : a (u + 8) 2 = (xo : Int) := by rw [hF (u + 8) (by omega)]; exact hxa
      have hseg1 := hseg.2.1
      have e0 : actS S E p c1 q = none := actS_sk hA q n1 n5
      have ht01 := wth_01 hWC.wfe hq5 hq6
      have ecn : cntT S p false (q + 1) = cntT S p false r + 1 := by rw [cntT_s, n3, n4]; rfl
      have eas := actS_s e0
      refine Ev.steps (k := 1) (pc' := 140) (L' := [Vr (u : Int), Vr (y : Int), Vi (p : Int), Vi (f1 : Int), Vi (f2 : Int), Vi (i : Int), z]) (S' := [Vr (y : Int)]) (h' := ((SHv st dr rd), (ovl a s b))) (fun _ => rfl) ?_
      refine Ev.getr (r := ((y : Int) + 9)) rfl rfl (by omega) (shY_0 hy) rfl rfl rfl ?_
      refine Ev.steps (k := 1) (pc' := 144) (L' := [Vr (u : Int), Vr (y : Int), Vi (p : Int), Vi (f1 : Int), Vi (f2 : Int), Vi (i : Int), z]) (S' := [Vr (y : Int), Vr ((y : Int) + 9)]) (h' := ((SHv st dr rd), (ovl a s b))) (fun _ => rfl) ?_
      refine Ev.getr (r := ((y : Int) + 12)) rfl rfl (by omega) (shY_0 hy) rfl rfl rfl ?_
      refine Ev.steps (k := 1) (pc' := 149) (L' := [Vr (u : Int), Vr (y : Int), Vi (p : Int), Vi (f1 : Int), Vi (f2 : Int), Vi (i : Int), z]) (S' := [Vi (i : Int), Vr ((y : Int) + 12), Vr ((y : Int) + 9)]) (h' := ((SHv st dr rd), (ovl a s b))) (fun _ => rfl) ?_
      refine Ev.iald (v := (q : Int)) rfl (by omega) (shY_12 hy) (by omega) (by omega) ((ovl_rc (by omega)).trans (hq12)) ?_
      refine Ev.aald (r := ((y + 14 + q : Nat) : Int)) rfl (by omega) (shY_9 hy) rfl (by omega) (by omega) (ruL_at q (by omega)) ?_
      refine Ev.steps (k := 2) (pc' := 154) (L' := [Vr (u : Int), Vr (y : Int), Vi (p : Int), Vi (f1 : Int), Vi (f2 : Int), Vi (i : Int), Vr ((y + 14 + q : Nat) : Int)]) (S' := [Vr (u : Int)]) (h' := ((SHv st dr rd), (ovl a s b))) (fun _ => rfl) ?_
      refine Ev.getr (r := ((u : Int) + 8)) rfl rfl (by omega) (shU_0 hu) rfl rfl rfl ?_
      refine Ev.steps (k := 1) (pc' := 158) (L' := [Vr (u : Int), Vr (y : Int), Vi (p : Int), Vi (f1 : Int), Vi (f2 : Int), Vi (i : Int), Vr ((y + 14 + q : Nat) : Int)]) (S' := [Vr (y : Int), Vr ((u : Int) + 8)]) (h' := ((SHv st dr rd), (ovl a s b))) (fun _ => rfl) ?_
      refine Ev.getr (r := ((y : Int) + 12)) rfl rfl (by omega) (shY_0 hy) rfl rfl rfl ?_
      refine Ev.steps (k := 1) (pc' := 163) (L' := [Vr (u : Int), Vr (y : Int), Vi (p : Int), Vi (f1 : Int), Vi (f2 : Int), Vi (i : Int), Vr ((y + 14 + q : Nat) : Int)]) (S' := [Vi (i : Int), Vr ((y : Int) + 12), Vr ((u : Int) + 8)]) (h' := ((SHv st dr rd), (ovl a s b))) (fun _ => rfl) ?_
      refine Ev.iald (v := (q : Int)) rfl (by omega) (shY_12 hy) (by omega) (by omega) ((ovl_rc (by omega)).trans (hq12)) ?_
      refine Ev.call (k := 0) (pc1 := 164) (L1 := [Vr (u : Int), Vr (y : Int), Vi (p : Int), Vi (f1 : Int), Vi (f2 : Int), Vi (i : Int), Vr ((y + 14 + q : Nat) : Int)]) (S1 := [Vi (q : Int), Vr ((u : Int) + 8)]) (h1 := ((SHv st dr rd), (ovl a s b))) (m' := 81) (as := [Vr ((u : Int) + 8), Vi (q : Int)]) (S' := []) (L0 := [Vr ((u : Int) + 8), Vi (q : Int)]) (fun _ => rfl) rfl rfl rfl rfl (stpC_of rfl (pm_recv_of (by omega) (shU_8 hu))) rfl (c_leavesOutU hk8 q (by omega) xo hxo hlo) (fun r h' hq => ?_)
      obtain ⟨rfl, rfl⟩ := hq
      by_cases c164 : xo.testBit q = true
      · rw [if_pos c164]
        show Ev X _ _ 167 [Vr (u : Int), Vr (y : Int), Vi (p : Int), Vi (f1 : Int), Vi (f2 : Int), Vi (i : Int), Vr ((y + 14 + q : Nat) : Int)] [Vi 1] ((SHv st dr rd), (ovl a s b)) _
        refine Ev.steps (k := 2) (pc' := 224) (L' := [Vr (u : Int), Vr (y : Int), Vi (p : Int), Vi (f1 : Int), Vi (f2 : Int), Vi (w32 ((i : Int) + 1)), Vr ((y + 14 + q : Nat) : Int)]) (S' := []) (h' := ((SHv st dr rd), (ovl a s b))) (fun _ => rfl) ?_
        rw [show (w32 ((i : Int) + 1)) = ((i : Int) + 1) from w32_id (by unfold R32; omega)]
        refine Ev.steps (k := 1) (pc' := 132) (L' := [Vr (u : Int), Vr (y : Int), Vi (p : Int), Vi (f1 : Int), Vi (f2 : Int), Vi ((i : Int) + 1), Vr ((y + 14 + q : Nat) : Int)]) (S' := []) (h' := ((SHv st dr rd), (ovl a s b))) (fun _ => rfl) ?_
        refine ih _ (by omega) (q + 1) (i + 1) _ (by omega) (by omega) hF hC ?_ rfl
        rw [eas, if_neg (fun h => (hxb q n2).mp c164 h.2.1)]
      · rw [if_neg c164]
        show Ev X _ _ 167 [Vr (u : Int), Vr (y : Int), Vi (p : Int), Vi (f1 : Int), Vi (f2 : Int), Vi (i : Int), Vr ((y + 14 + q : Nat) : Int)] [Vi 0] ((SHv st dr rd), (ovl a s b)) _
        refine Ev.steps (k := 2) (pc' := 171) (L' := [Vr (u : Int), Vr (y : Int), Vi (p : Int), Vi (f1 : Int), Vi (f2 : Int), Vi (i : Int), Vr ((y + 14 + q : Nat) : Int)]) (S' := [Vr (u : Int)]) (h' := ((SHv st dr rd), (ovl a s b))) (fun _ => rfl) ?_
        refine Ev.getr (r := ((u : Int) + 1)) rfl rfl (by omega) (shU_0 hu) rfl rfl rfl ?_
        refine Ev.steps (k := 1) (pc' := 175) (L' := [Vr (u : Int), Vr (y : Int), Vi (p : Int), Vi (f1 : Int), Vi (f2 : Int), Vi (i : Int), Vr ((y + 14 + q : Nat) : Int)]) (S' := [Vr (y : Int), Vr ((u : Int) + 1)]) (h' := ((SHv st dr rd), (ovl a s b))) (fun _ => rfl) ?_
        refine Ev.getr (r := ((y : Int) + 11)) rfl rfl (by omega) (shY_0 hy) rfl rfl rfl ?_
        refine Ev.steps (k := 1) (pc' := 180) (L' := [Vr (u : Int), Vr (y : Int), Vi (p : Int), Vi (f1 : Int), Vi (f2 : Int), Vi (i : Int), Vr ((y + 14 + q : Nat) : Int)]) (S' := [Vr ((y + 14 + q : Nat) : Int), Vr ((y : Int) + 11), Vr ((u : Int) + 1)]) (h' := ((SHv st dr rd), (ovl a s b))) (fun _ => rfl) ?_
        refine Ev.getf (v := (l1 : Int)) rfl rfl (by omega) (shRu hy (by omega)) rfl rfl ((ovl_rc (by omega)).trans (v6)) ?_
        refine Ev.steps (k := 1) (pc' := 185) (L' := [Vr (u : Int), Vr (y : Int), Vi (p : Int), Vi (f1 : Int), Vi (f2 : Int), Vi (i : Int), Vr ((y + 14 + q : Nat) : Int)]) (S' := [Vr ((y + 14 + q : Nat) : Int), Vi (l1 : Int), Vr ((y : Int) + 11), Vr ((u : Int) + 1)]) (h' := ((SHv st dr rd), (ovl a s b))) (fun _ => rfl) ?_
        refine Ev.getf (v := (l2 : Int)) rfl rfl (by omega) (shRu hy (by omega)) rfl rfl ((ovl_rc (by omega)).trans (v7)) ?_
        refine Ev.call (k := 0) (pc1 := 188) (L1 := [Vr (u : Int), Vr (y : Int), Vi (p : Int), Vi (f1 : Int), Vi (f2 : Int), Vi (i : Int), Vr ((y + 14 + q : Nat) : Int)]) (S1 := [Vi (l2 : Int), Vi (l1 : Int), Vr ((y : Int) + 11), Vr ((u : Int) + 1)]) (h1 := ((SHv st dr rd), (ovl a s b))) (m' := 82) (as := [Vr ((u : Int) + 1), Vr ((y : Int) + 11), Vi (l1 : Int), Vi (l2 : Int)]) (S' := []) (L0 := [Vr ((u : Int) + 1), Vr ((y : Int) + 11), Vi (l1 : Int), Vi (l2 : Int), Vx, Vx, Vx, Vx, Vx]) (fun _ => rfl) rfl rfl rfl rfl (stpC_of rfl (pm_recv_of (by omega) (shU_1 hu))) rfl (c_worth hu hy l1 l2 (S.2 (2 * q + 1)) true hWY hWC hC v9 v8 hq5 hq6) (fun r h' hq => ?_)
        obtain ⟨a1, rfl, rfl, w1⟩ := hq
        have hC1 := hC.fr (fun o g1 g2 => w1 o (by omega))
        show Ev X _ _ 191 [Vr (u : Int), Vr (y : Int), Vi (p : Int), Vi (f1 : Int), Vi (f2 : Int), Vi (i : Int), Vr ((y + 14 + q : Nat) : Int)] [Vi (wth (nW S) c1 (S.2 (2 * q + 1)))] ((SHv st dr rd), (ovl a1 s b)) _
        refine Ev.ite (P := (wth (nW S) c1 (S.2 (2 * q + 1))) = 0) (k := 1) (a := 221) (b := 194) (L' := [Vr (u : Int), Vr (y : Int), Vi (p : Int), Vi (f1 : Int), Vi (f2 : Int), Vi (i : Int), Vr ((y + 14 + q : Nat) : Int)]) (S' := []) (h' := ((SHv st dr rd), (ovl a1 s b))) (fun _ => rfl) (fun b191 => ?_) (fun b191 => ?_)
        · refine Ev.steps (k := 1) (pc' := 224) (L' := [Vr (u : Int), Vr (y : Int), Vi (p : Int), Vi (f1 : Int), Vi (f2 : Int), Vi (w32 ((i : Int) + 1)), Vr ((y + 14 + q : Nat) : Int)]) (S' := []) (h' := ((SHv st dr rd), (ovl a1 s b))) (fun _ => rfl) ?_
          rw [show (w32 ((i : Int) + 1)) = ((i : Int) + 1) from w32_id (by unfold R32; omega)]
          refine Ev.steps (k := 1) (pc' := 132) (L' := [Vr (u : Int), Vr (y : Int), Vi (p : Int), Vi (f1 : Int), Vi (f2 : Int), Vi ((i : Int) + 1), Vr ((y + 14 + q : Nat) : Int)]) (S' := []) (h' := ((SHv st dr rd), (ovl a1 s b))) (fun _ => rfl) ?_
          refine ih _ (by omega) (a := a1) (q + 1) (i + 1) _ (by omega) (by omega) (hF.tr (w1.wd (by omega) (by omega))) hC1 ?_ rfl
          rw [eas, if_neg (fun h => by have := h.2.2.2; omega)]
        · refine Ev.steps (k := 1) (pc' := 195) (L' := [Vr (u : Int), Vr (y : Int), Vi (p : Int), Vi (f1 : Int), Vi (f2 : Int), Vi (i : Int), Vr ((y + 14 + q : Nat) : Int)]) (S' := [Vr (u : Int)]) (h' := ((SHv st dr rd), (ovl a1 s b))) (fun _ => rfl) ?_
          refine Ev.getr (r := ((u : Int) + 1)) rfl rfl (by omega) (shU_0 hu) rfl rfl rfl ?_
          refine Ev.call (k := 2) (pc1 := 201) (L1 := [Vr (u : Int), Vr (y : Int), Vi (p : Int), Vi (f1 : Int), Vi (f2 : Int), Vi (i : Int), Vr ((y + 14 + q : Nat) : Int)]) (S1 := [Vr (y : Int), Vr ((y + 14 + q : Nat) : Int), Vr ((u : Int) + 1)]) (h1 := ((SHv st dr rd), (ovl a1 s b))) (m' := 92) (as := [Vr ((u : Int) + 1), Vr ((y + 14 + q : Nat) : Int), Vr (y : Int)]) (S' := []) (L0 := [Vr ((u : Int) + 1), Vr ((y + 14 + q : Nat) : Int), Vr (y : Int), Vx, Vx]) (fun _ => rfl) rfl rfl rfl rfl (stpC_of rfl (pm_recv_of (by omega) (shU_1 hu))) rfl (c_does hu hy hC1 hWY hWC q n2 (by unfold RuC at hRu ⊢; rw [w1 (y + 14 + q) (by omega), w1 (y + 11) (by omega)]; exact hRu) (fun r o h1 h2 => by rw [w1 (y + 5) (by omega), hF (y + 5) (by omega)]; exact hWay r o h1 h2) (by rw [h4.1]; exact hl1) h4.2) (fun r h' hq => ?_)
          have hcond : S.1 12 q = (p : Int) ∧ E 2 q = 0 ∧ S.1 11 q ≠ 4 ∧ wth (nW S) c1 (S.2 (2 * q + 1)) = 1 := ⟨h4.1, Classical.not_not.mp (fun h => c164 ((hxb q n2).mpr h)), h4.2, by omega⟩
          rcases hq with ⟨c2, d1, rfl, a2, rfl, d2, d3⟩ | ⟨d1, rfl, a2, rfl, d2, d3⟩
          · show Ev X _ _ 204 [Vr (u : Int), Vr (y : Int), Vi (p : Int), Vi (f1 : Int), Vi (f2 : Int), Vi (i : Int), Vr ((y + 14 + q : Nat) : Int)] [Vi 1] (SHv st dr rd, ovl a2 s b) _
            have e1 : actS S E p c1 (q + 1) = some (q, c2) := by rw [eas, if_pos hcond, d1]
            have e2 := actS_more e1 (nL S) (by omega)
            rw [hc1] at e2
            have e3 := trnS_some e2
            rw [e3] at hh
            rw [e3]
            have hp8 : p < 8 := by omega
            have hwf := doesS_wf hWY hK1 n2 h4.2 hp8 hk9 d1
            have F2 : FrO (u + 1) (u + 7) a0 a2 := (hF.tr (w1.wd (by omega) (by omega))).tr d3
            have hRu2 : RuC S a2 y q := by
              have := hRA q n2
              unfold RuC at this ⊢
              rw [F2 (y + 14 + q) (by omega), F2 (y + 11) (by omega)]
              exact this
            have h77 := hK1.2.1
            have h20 : S.1 11 q = 5 → c2 0 p = c1 0 p := fun h5 => by
              have hds := doesS_at (c := c1) h4.1
              rw [d1, if_neg (by omega), if_neg (by omega), if_neg (by omega), if_neg (by omega)] at hds
              split at hds
              · rw [Option.some.inj hds, leavS_n (by omega) (by omega), deedS_n (by omega) (by omega), dropS_r (by omega)]
                rfl
              · cases hds
            refine Ev.steps (k := 4) (pc' := 211) (L' := [Vr (u : Int), Vr (y : Int), Vi (p : Int), Vi (f1 : Int), Vi (f2 : Int), Vi (i : Int), Vr ((y + 14 + q : Nat) : Int)]) (S' := [Vr (y : Int), Vr ((y + 14 + q : Nat) : Int), Vr (u : Int)]) (h' := ((SHv st dr rd), (ovl a2 s b))) (fun _ => rfl) ?_
            refine Ev.getr (r := ((y : Int) + 12)) rfl rfl (by omega) (shY_0 hy) rfl rfl rfl ?_
            refine Ev.steps (k := 1) (pc' := 216) (L' := [Vr (u : Int), Vr (y : Int), Vi (p : Int), Vi (f1 : Int), Vi (f2 : Int), Vi (i : Int), Vr ((y + 14 + q : Nat) : Int)]) (S' := [Vi (i : Int), Vr ((y : Int) + 12), Vr ((y + 14 + q : Nat) : Int), Vr (u : Int)]) (h' := ((SHv st dr rd), (ovl a2 s b))) (fun _ => rfl) ?_
            refine Ev.iald (v := (q : Int)) rfl (by omega) (shY_12 hy) (by omega) (by omega) ((ovl_rc (by omega)).trans (((congrFun (F2 (y + 12) (by omega)) _).trans ((congrFun (hF (y + 12) (by omega)) _).symm.trans hq12)))) ?_
            refine Ev.call (k := 0) (pc1 := 217) (L1 := [Vr (u : Int), Vr (y : Int), Vi (p : Int), Vi (f1 : Int), Vi (f2 : Int), Vi (i : Int), Vr ((y + 14 + q : Nat) : Int)]) (S1 := [Vi (q : Int), Vr ((y + 14 + q : Nat) : Int), Vr (u : Int)]) (h1 := ((SHv st dr rd), (ovl a2 s b))) (m' := 98) (as := [Vr (u : Int), Vr ((y + 14 + q : Nat) : Int), Vi (q : Int)]) (S' := []) (L0 := [Vr (u : Int), Vr ((y + 14 + q : Nat) : Int), Vi (q : Int), Vx]) (fun _ => rfl) rfl rfl rfl rfl (stpC_of rfl (pm_recv_of (by omega) (shU_0 hu))) rfl (c_eNoteDone hu hy d2 hWY hWC hwf.1.1 q n2 hRu2 h4.2 d1 (by omega) m p hm hm5 (by rw [hwf.2]; exact hm5) h4.1 (hD0.fr (fun o g1 g2 => F2 o (by omega)) rfl rfl) hh (hDd0.fr (by rw [F2 u (by omega)]) (F2 (u + 13) (by omega)) rfl rfl) hk9 h20) (fun r h' hq => ?_)
            obtain ⟨rfl, a3, rfl, g1, g2, g3, g4⟩ := hq
            show Ev X _ _ 220 [Vr (u : Int), Vr (y : Int), Vi (p : Int), Vi (f1 : Int), Vi (f2 : Int), Vi (i : Int), Vr ((y + 14 + q : Nat) : Int)] [] ((SHv st dr rd), (ovl a3 s b)) _
            refine Ev.fin (k := 1) (r := none) (h' := ((SHv st dr rd), (ovl a3 s b))) (fun _ => rfl) ?_
            exact ⟨rfl, a3, rfl, (F2.t2 (by omega) (by omega) (by omega)).tr g1, g2, g3, g4⟩
          show Ev X _ _ 204 [Vr (u : Int), Vr (y : Int), Vi (p : Int), Vi (f1 : Int), Vi (f2 : Int), Vi (i : Int), Vr ((y + 14 + q : Nat) : Int)] [Vi 0] ((SHv st dr rd), (ovl a2 s b)) _
          refine Ev.steps (k := 2) (pc' := 224) (L' := [Vr (u : Int), Vr (y : Int), Vi (p : Int), Vi (f1 : Int), Vi (f2 : Int), Vi (w32 ((i : Int) + 1)), Vr ((y + 14 + q : Nat) : Int)]) (S' := []) (h' := ((SHv st dr rd), (ovl a2 s b))) (fun _ => rfl) ?_
          rw [show (w32 ((i : Int) + 1)) = ((i : Int) + 1) from w32_id (by unfold R32; omega)]
          refine Ev.steps (k := 1) (pc' := 132) (L' := [Vr (u : Int), Vr (y : Int), Vi (p : Int), Vi (f1 : Int), Vi (f2 : Int), Vi ((i : Int) + 1), Vr ((y + 14 + q : Nat) : Int)]) (S' := []) (h' := ((SHv st dr rd), (ovl a2 s b))) (fun _ => rfl) ?_
          refine ih _ (by omega) (a := a2) (q + 1) (i + 1) _ (by omega) (by omega) ((hF.tr (w1.wd (by omega) (by omega))).tr d3) d2 ?_ rfl
          rw [eas, if_pos hcond, d1]
theorem c_turn {X : List Int} {d : Nat} {st dr rd : Int} {a s b : C3} {u : Nat} (hu : huS u) {y : Nat} (hy : hyS y) {S : STY} {E : SC} (hWY : WfY S) (p : Nat) (hp : p < nW S) {c0 : SC} (hK0 : WfK S c0 p) (hl : c0 1 p ≠ 0) (m : Nat) (hm : m < 180) (hm5 : c0 5 0 = (m : Int)) (hY : RpC S a y) (hB : RbC S E a (u + 8)) (hC : RsC S c0 a u) (hD : DyU S E a u c0 m p) (hDd : DdC c0 a u) (hh : HdQ S E m p (trnS S E p c0).1) : Ev X (d + 4) 80 0 [Vr (u : Int), Vr (y : Int), Vi (p : Int), Vx, Vx, Vx, Vx] [] (SHv st dr rd, ovl a s b) (fun rr hh => rr = none ∧ ∃ a2 : C3, hh = (SHv st dr rd, ovl a2 s b) ∧ FrT2 u a a2 ∧ RsC S (trnS S E p c0).2 a2 u ∧ DyU S E a2 u (trnS S E p c0).2 m (p + 1) ∧ DdC (trnS S E p c0).2 a2 u) := by
  have hu0 : u = 119 ∨ u = 142 := hu
  have hy0 : y = 2 ∨ y = 58 := hy
  have hk8 : hkS (u + 8) := by show u + 8 = 8 ∨ u + 8 = 64 ∨ u + 8 = 116 ∨ u + 8 = 127 ∨ u + 8 = 150 ∨ u + 8 = 161; omega
  have hL30 := hWY.2.2.2.2.1.1
  have hW8 := hWY.2.2.1.1
  obtain ⟨f0, f1, f2, e0, e1, e2, s1, s2⟩ := hY.2.2.2.2.2.2.2.2.2.2 p hp
  obtain ⟨xo, hxo, hxa, hxb⟩ := hB.2.2.2.2
  obtain ⟨hK, hK5, hKl⟩ := felsS_wf (B := E) (p := p) hK0 (nL S)
  have hl1 : felsS S E p c0 (nL S) 1 p ≠ 0 := by rw [hKl]; exact hl
  have hk9 := hK.k8 hWY hp hl1
  have hfe : ∀ t, t = 6 ∨ t = 7 ∨ t = 8 ∨ t = 9 → felsS S E p c0 (nL S) t = c0 t := fun t ht => felsS_t (by omega) (nL S)
  refine Ev.steps (k := 1) (pc' := 1) (L' := [Vr (u : Int), Vr (y : Int), Vi (p : Int), Vx, Vx, Vx, Vx]) (S' := [Vr (y : Int)]) (h' := ((SHv st dr rd), (ovl a s b))) (fun _ => rfl) ?_
  refine Ev.getr (r := ((y : Int) + 13)) rfl rfl (by omega) (shY_0 hy) rfl rfl rfl ?_
  refine Ev.steps (k := 3) (pc' := 7) (L' := [Vr (u : Int), Vr (y : Int), Vi (p : Int), Vx, Vx, Vx, Vx]) (S' := [Vi (w32 (2 * (p : Int))), Vr ((y : Int) + 13)]) (h' := ((SHv st dr rd), (ovl a s b))) (fun _ => rfl) ?_
  rw [show (w32 (2 * (p : Int))) = ((2 * p : Nat) : Int) from (by unfold w32; omega)]
  refine Ev.steps (k := 2) (pc' := 9) (L' := [Vr (u : Int), Vr (y : Int), Vi (p : Int), Vx, Vx, Vx, Vx]) (S' := [Vi (w32 (((2 * p : Nat) : Int) + 1)), Vr ((y : Int) + 13)]) (h' := ((SHv st dr rd), (ovl a s b))) (fun _ => rfl) ?_
  rw [show (w32 (((2 * p : Nat) : Int) + 1)) = ((2 * p + 1 : Nat) : Int) from (by unfold w32; omega)]
  refine Ev.iald (v := (f1 : Int)) rfl (by omega) (shY_13 hy) (by omega) (by omega) ((ovl_rc (by omega)).trans (e1)) ?_
  refine Ev.steps (k := 2) (pc' := 12) (L' := [Vr (u : Int), Vr (y : Int), Vi (p : Int), Vi (f1 : Int), Vx, Vx, Vx]) (S' := [Vr (y : Int)]) (h' := ((SHv st dr rd), (ovl a s b))) (fun _ => rfl) ?_
  refine Ev.getr (r := ((y : Int) + 13)) rfl rfl (by omega) (shY_0 hy) rfl rfl rfl ?_
  refine Ev.steps (k := 3) (pc' := 18) (L' := [Vr (u : Int), Vr (y : Int), Vi (p : Int), Vi (f1 : Int), Vx, Vx, Vx]) (S' := [Vi (w32 (2 * (p : Int))), Vr ((y : Int) + 13)]) (h' := ((SHv st dr rd), (ovl a s b))) (fun _ => rfl) ?_
  rw [show (w32 (2 * (p : Int))) = ((2 * p : Nat) : Int) from (by unfold w32; omega)]
  refine Ev.steps (k := 2) (pc' := 20) (L' := [Vr (u : Int), Vr (y : Int), Vi (p : Int), Vi (f1 : Int), Vx, Vx, Vx]) (S' := [Vi (w32 (((2 * p : Nat) : Int) + 2)), Vr ((y : Int) + 13)]) (h' := ((SHv st dr rd), (ovl a s b))) (fun _ => rfl) ?_
  rw [show (w32 (((2 * p : Nat) : Int) + 2)) = ((2 * p + 2 : Nat) : Int) from (by unfold w32; omega)]
  refine Ev.iald (v := (f2 : Int)) rfl (by omega) (shY_13 hy) (by omega) (by omega) ((ovl_rc (by omega)).trans (e2)) ?_
  refine Ev.steps (k := 2) (pc' := 24) (L' := [Vr (u : Int), Vr (y : Int), Vi (p : Int), Vi (f1 : Int), Vi (f2 : Int), Vx, Vx]) (S' := [Vr (y : Int)]) (h' := ((SHv st dr rd), (ovl a s b))) (fun _ => rfl) ?_
  refine Ev.getr (r := ((y : Int) + 13)) rfl rfl (by omega) (shY_0 hy) rfl rfl rfl ?_
  refine Ev.steps (k := 3) (pc' := 30) (L' := [Vr (u : Int), Vr (y : Int), Vi (p : Int), Vi (f1 : Int), Vi (f2 : Int), Vx, Vx]) (S' := [Vi (w32 (2 * (p : Int))), Vr ((y : Int) + 13)]) (h' := ((SHv st dr rd), (ovl a s b))) (fun _ => rfl) ?_
  rw [show (w32 (2 * (p : Int))) = ((2 * p : Nat) : Int) from (by unfold w32; omega)]
  refine Ev.iald (v := (f0 : Int)) rfl (by omega) (shY_13 hy) (by omega) (by omega) ((ovl_rc (by omega)).trans (e0)) ?_
  refine Ev.steps (k := 1) (pc' := 33) (L' := [Vr (u : Int), Vr (y : Int), Vi (p : Int), Vi (f1 : Int), Vi (f2 : Int), Vi (f0 : Int), Vx]) (S' := []) (h' := ((SHv st dr rd), (ovl a s b))) (fun _ => rfl) ?_
  refine c_turn_f hu hy hWY p f0 f1 f2 p hp hK0 (a0 := a) s1 hY.2.2.2.2.2.2.2.2.1 xo hxo hxa hxb (fun a2 i2 z k1 k2 => ?_) 0 f0 _ (by omega) (by show f0 = f0 + 0; omega) FrO.rf hC
  have hD2 : DyU S E a2 u (felsS S E p c0 (nL S)) m p := hD.fr (fun o g1 g2 => k2 o (by omega)) (hfe 6 (by omega)) (hfe 7 (by omega))
  have hDd2 : DdC (felsS S E p c0 (nL S)) a2 u := hDd.fr (by rw [k2 u (by omega)]) (k2 (u + 13) (by omega)) (hfe 8 (by omega)) (hfe 9 (by omega))
  have hY2 := hY.fr (fun o g1 g2 => k2 o (by omega)) hL30 hWY.2.2.2.2.2.1.1
  refine Ev.steps (k := 2) (pc' := 132) (L' := [Vr (u : Int), Vr (y : Int), Vi (p : Int), Vi (f1 : Int), Vi (f2 : Int), Vi (f1 : Int), z]) (S' := []) (h' := ((SHv st dr rd), (ovl a2 s b))) (fun _ => rfl) ?_
  refine Ev.mono (c_turn_a hu hy hWY p f0 f1 f2 hp rfl hK hl1 m hm (by rw [hK5]; exact hm5) hk9 (a0 := a2) (by unfold SgT at s2 ⊢; rw [k2 (y + 12) (by omega)]; exact s2) hY2 hY2.2.2.2.2.2.2.2.2.1 xo hxo (by rw [k2 (u + 8) (by omega)]; exact hxa) hxb hD2 hDd2 hh 0 f1 _ (by omega) (by show f1 = f1 + 0; omega) FrO.rf k1 rfl) (fun r h2 hq => ?_)
  obtain ⟨g1, a3, g2, g3, g4⟩ := hq
  exact ⟨g1, a3, g2, (k2.t2 (by omega) (by omega) (by omega)).tr g3, g4⟩
