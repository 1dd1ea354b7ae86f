/-! THE REFERENCE: the ways, traces, what is done -/
theorem m_ways_o {X : List Int} {d : Nat} {st dr rd : Int} {a s b : C3} (to : Int) (tn d0 r : Nat) {S : STY} {bk : Nat} (hY_b : RepY S b bk) (hWY : WfY S) (hr : r < nR S) (hdr : dstS S tn r = d0) (hd : d0 < nR S) {Q : Option pm_V → pm_H → Prop} (K : ∀ s2 : C3, BFS S tn d0 (fun x => ∃ r0, r0 < r + 1 ∧ dstS S tn r0 = d0 ∧ S.1 4 (8 * x + r0) ≠ 0) (s2 218) → Ev X d 218 147 [Vr 166, Vi to, Vi (d0 : Int), Vi (r : Int), Vi ((nR S : Nat) : Int)] [] (SHv st dr rd, ovl a s2 b) Q) (o : Nat) (ho : o ≤ nR S) (hB : BFS S tn d0 (BPO S tn d0 r o) (s 218)) : Ev X d 218 83 [Vr 166, Vi to, Vi (d0 : Int), Vi (r : Int), Vi (o : Int)] [] (SHv st dr rd, ovl a s b) (Q) := by
  induction hk : (nR S - o) using Nat.strongRecOn generalizing o s with
  | ind k ih =>
    obtain ⟨hb2_b, h12_b, h168_b, h169_b, h170_b, h171_b, h173_b, h172_b, h174_b, h176_b, h178_b, h175_b, h177_b, h179_b, h180_b, h184_b⟩ := id hY_b
    obtain ⟨wR, wD, wW, wT, wL, wC, wdoor, wsym, wWI, wTI, wCl, wRu⟩ := id hWY
    refine Ev.steps (k := 5) (pc' := 93) (L' := [Vr 166, Vi to, Vi (d0 : Int), Vi (r : Int), Vi (o : Int)]) (S' := [Vi (b 166 12), Vr 168, Vi (o : Int)]) (h' := ((SHv st dr rd), (ovl a s b))) (fun _ => rfl) ?_
    rw [h12_b]
    refine Ev.iald (v := ((nR S : Nat) : Int)) rfl (by decide) rfl (by omega) (by omega) (h168_b) ?_
    refine Ev.ite (P := ((nR S : Nat) : Int) ≤ (o : Int)) (k := 1) (a := 147) (b := 97) (L' := [Vr 166, Vi to, Vi (d0 : Int), Vi (r : Int), Vi (o : Int)]) (S' := []) (h' := ((SHv st dr rd), (ovl a s b))) (fun _ => rfl) (fun b94 => ?_) (fun b94 => ?_)
    · obtain rfl : o = nR S := by omega
      exact K _ (hB.fin hdr)
    · refine Ev.steps (k := 5) (pc' := 107) (L' := [Vr 166, Vi to, Vi (d0 : Int), Vi (r : Int), Vi (o : Int)]) (S' := [Vi (b 166 12), Vi 64, Vr 175]) (h' := ((SHv st dr rd), (ovl a s b))) (fun _ => rfl) ?_
      rw [h12_b]
      refine Ev.steps (k := 1) (pc' := 108) (L' := [Vr 166, Vi to, Vi (d0 : Int), Vi (r : Int), Vi (o : Int)]) (S' := [Vi (w32 (64 * (bk : Int))), Vr 175]) (h' := ((SHv st dr rd), (ovl a s b))) (fun _ => rfl) ?_
      rw [show (w32 (64 * (bk : Int))) = (64 * (bk : Int)) from w32_id (by unfold R32; omega)]
      refine Ev.steps (k := 3) (pc' := 112) (L' := [Vr 166, Vi to, Vi (d0 : Int), Vi (r : Int), Vi (o : Int)]) (S' := [Vi (w32 (8 * (r : Int))), Vi (64 * (bk : Int)), Vr 175]) (h' := ((SHv st dr rd), (ovl a s b))) (fun _ => rfl) ?_
      rw [show (w32 (8 * (r : Int))) = (8 * (r : Int)) from w32_id (by unfold R32; omega)]
      refine Ev.steps (k := 1) (pc' := 113) (L' := [Vr 166, Vi to, Vi (d0 : Int), Vi (r : Int), Vi (o : Int)]) (S' := [Vi (w32 ((64 * (bk : Int)) + (8 * (r : Int)))), Vr 175]) (h' := ((SHv st dr rd), (ovl a s b))) (fun _ => rfl) ?_
      rw [show (w32 ((64 * (bk : Int)) + (8 * (r : Int)))) = ((64 * (bk : Int)) + (8 * (r : Int))) from w32_id (by unfold R32; omega)]
      refine Ev.steps (k := 2) (pc' := 116) (L' := [Vr 166, Vi to, Vi (d0 : Int), Vi (r : Int), Vi (o : Int)]) (S' := [Vi (w32 (((64 * (bk : Int)) + (8 * (r : Int))) + (o : Int))), Vr 175]) (h' := ((SHv st dr rd), (ovl a s b))) (fun _ => rfl) ?_
      rw [show (w32 (((64 * (bk : Int)) + (8 * (r : Int))) + (o : Int))) = (((64 * (bk : Int)) + (8 * (r : Int))) + (o : Int)) from w32_id (by unfold R32; omega)]
      refine Ev.zald (v := (S.1 4 (8 * r + o))) rfl (by decide) rfl (by omega) (by omega) (h175_b r o (by omega) (by omega)) ?_
      refine Ev.ite (P := (S.1 4 (8 * r + o)) = 0) (k := 1) (a := 141) (b := 120) (L' := [Vr 166, Vi to, Vi (d0 : Int), Vi (r : Int), Vi (o : Int)]) (S' := []) (h' := ((SHv st dr rd), (ovl a s b))) (fun _ => rfl) (fun b117 => ?_) (fun b117 => ?_)
      · refine Ev.steps (k := 1) (pc' := 144) (L' := [Vr 166, Vi to, Vi (d0 : Int), Vi (r : Int), Vi (w32 ((o : Int) + 1))]) (S' := []) (h' := ((SHv st dr rd), (ovl a s b))) (fun _ => rfl) ?_
        rw [show (w32 ((o : Int) + 1)) = ((o : Int) + 1) from w32_id (by unfold R32; omega)]
        refine Ev.steps (k := 1) (pc' := 83) (L' := [Vr 166, Vi to, Vi (d0 : Int), Vi (r : Int), Vi ((o : Int) + 1)]) (S' := []) (h' := ((SHv st dr rd), (ovl a s b))) (fun _ => rfl) ?_
        have hsy := wsym o r (by omega) (by omega)
        refine ih _ (by omega) (s := s) (o + 1) (by omega) ?_ rfl
        first
          | exact hB.pt (by omega) hr hdr (by omega) (by omega) (by rw [hsy]; exact b117) (by rw [updC_sm]) (fun x hx => by rw [updC_if, if_neg hx])
          | exact hB.kp b128
          | exact hB.no (by rw [hsy]; exact b117)
      · refine Ev.steps (k := 3) (pc' := 126) (L' := [Vr 166, Vi to, Vi (d0 : Int), Vi (r : Int), Vi (o : Int)]) (S' := [Vi (o : Int), Vr 218]) (h' := ((SHv st dr rd), (ovl a s b))) (fun _ => rfl) ?_
        refine Ev.iald (v := (s 218 o)) rfl (by decide) rfl (by omega) (by omega) (rfl) ?_
        refine Ev.ite (P := (s 218 o) ≠ (-1)) (k := 2) (a := 141) (b := 131) (L' := [Vr 166, Vi to, Vi (d0 : Int), Vi (r : Int), Vi (o : Int)]) (S' := []) (h' := ((SHv st dr rd), (ovl a s b))) (fun _ => rfl) (fun b128 => ?_) (fun b128 => ?_)
        · refine Ev.steps (k := 1) (pc' := 144) (L' := [Vr 166, Vi to, Vi (d0 : Int), Vi (r : Int), Vi (w32 ((o : Int) + 1))]) (S' := []) (h' := ((SHv st dr rd), (ovl a s b))) (fun _ => rfl) ?_
          rw [show (w32 ((o : Int) + 1)) = ((o : Int) + 1) from w32_id (by unfold R32; omega)]
          refine Ev.steps (k := 1) (pc' := 83) (L' := [Vr 166, Vi to, Vi (d0 : Int), Vi (r : Int), Vi ((o : Int) + 1)]) (S' := []) (h' := ((SHv st dr rd), (ovl a s b))) (fun _ => rfl) ?_
          have hsy := wsym o r (by omega) (by omega)
          refine ih _ (by omega) (s := s) (o + 1) (by omega) ?_ rfl
          first
            | exact hB.pt (by omega) hr hdr (by omega) (by omega) (by rw [hsy]; exact b117) (by rw [updC_sm]) (fun x hx => by rw [updC_if, if_neg hx])
            | exact hB.kp b128
            | exact hB.no (by rw [hsy]; exact b117)
        · refine Ev.steps (k := 6) (pc' := 140) (L' := [Vr 166, Vi to, Vi (d0 : Int), Vi (r : Int), Vi (o : Int)]) (S' := [Vi (w32 ((d0 : Int) + 1)), Vi (o : Int), Vr 218]) (h' := ((SHv st dr rd), (ovl a s b))) (fun _ => rfl) ?_
          rw [show (w32 ((d0 : Int) + 1)) = ((d0 : Int) + 1) from w32_id (by unfold R32; omega)]
          refine Ev.iast (c' := (ovl a (updC s 218 o ((d0 : Int) + 1)) b)) rfl (by decide) rfl (by omega) (by omega) (ovl_ws (by decide)) ?_
          refine Ev.steps (k := 1) (pc' := 144) (L' := [Vr 166, Vi to, Vi (d0 : Int), Vi (r : Int), Vi (w32 ((o : Int) + 1))]) (S' := []) (h' := ((SHv st dr rd), (ovl a (updC s 218 o ((d0 : Int) + 1)) b))) (fun _ => rfl) ?_
          rw [show (w32 ((o : Int) + 1)) = ((o : Int) + 1) from w32_id (by unfold R32; omega)]
          refine Ev.steps (k := 1) (pc' := 83) (L' := [Vr 166, Vi to, Vi (d0 : Int), Vi (r : Int), Vi ((o : Int) + 1)]) (S' := []) (h' := ((SHv st dr rd), (ovl a (updC s 218 o ((d0 : Int) + 1)) b))) (fun _ => rfl) ?_
          have hsy := wsym o r (by omega) (by omega)
          refine ih _ (by omega) (s := (updC s 218 o ((d0 : Int) + 1))) (o + 1) (by omega) ?_ rfl
          first
            | exact hB.pt (by omega) hr hdr (by omega) (by omega) (by rw [hsy]; exact b117) (by rw [updC_sm]) (fun x hx => by rw [updC_if, if_neg hx])
            | exact hB.kp b128
            | exact hB.no (by rw [hsy]; exact b117)
theorem m_ways_r {X : List Int} {d : Nat} {st dr rd : Int} {a s b : C3} (to : Int) (tn d0 : Nat) {S : STY} {bk : Nat} (hY_b : RepY S b bk) (hWY : WfY S) (hd : d0 < nR S) {Q : Option pm_V → pm_H → Prop} (K : ∀ (s2 : C3) (z : pm_V), BFS S tn d0 (fun x => ∃ r0, r0 < nR S ∧ dstS S tn r0 = d0 ∧ S.1 4 (8 * x + r0) ≠ 0) (s2 218) → Ev X d 218 153 [Vr 166, Vi to, Vi (d0 : Int), Vi ((nR S : Nat) : Int), z] [] (SHv st dr rd, ovl a s2 b) Q) (r : Nat) (z : pm_V) (hr : r ≤ nR S) (hB : BFS S tn d0 (fun x => ∃ r0, r0 < r ∧ dstS S tn r0 = d0 ∧ S.1 4 (8 * x + r0) ≠ 0) (s 218)) : Ev X d 218 54 [Vr 166, Vi to, Vi (d0 : Int), Vi (r : Int), z] [] (SHv st dr rd, ovl a s b) (Q) := by
  induction hk : (nR S - r) using Nat.strongRecOn generalizing r s z with
  | ind k ih =>
    obtain ⟨hb2_b, h12_b, h168_b, h169_b, h170_b, h171_b, h173_b, h172_b, h174_b, h176_b, h178_b, h175_b, h177_b, h179_b, h180_b, h184_b⟩ := id hY_b
    obtain ⟨wR, wD, wW, wT, wL, wC, wdoor, wsym, wWI, wTI, wCl, wRu⟩ := id hWY
    refine Ev.steps (k := 5) (pc' := 63) (L' := [Vr 166, Vi to, Vi (d0 : Int), Vi (r : Int), z]) (S' := [Vi (b 166 12), Vr 168, Vi (r : Int)]) (h' := ((SHv st dr rd), (ovl a s b))) (fun _ => rfl) ?_
    rw [h12_b]
    refine Ev.iald (v := ((nR S : Nat) : Int)) rfl (by decide) rfl (by omega) (by omega) (h168_b) ?_
    refine Ev.ite (P := ((nR S : Nat) : Int) ≤ (r : Int)) (k := 1) (a := 153) (b := 67) (L' := [Vr 166, Vi to, Vi (d0 : Int), Vi (r : Int), z]) (S' := []) (h' := ((SHv st dr rd), (ovl a s b))) (fun _ => rfl) (fun b64 => ?_) (fun b64 => ?_)
    · obtain rfl : r = nR S := by omega
      exact K _ _ hB
    · refine Ev.steps (k := 3) (pc' := 72) (L' := [Vr 166, Vi to, Vi (d0 : Int), Vi (r : Int), z]) (S' := [Vi (r : Int), Vr 218]) (h' := ((SHv st dr rd), (ovl a s b))) (fun _ => rfl) ?_
      refine Ev.iald (v := (s 218 r)) rfl (by decide) rfl (by omega) (by omega) (rfl) ?_
      refine Ev.ite (P := (s 218 r) = (d0 : Int)) (k := 2) (a := 80) (b := 77) (L' := [Vr 166, Vi to, Vi (d0 : Int), Vi (r : Int), z]) (S' := []) (h' := ((SHv st dr rd), (ovl a s b))) (fun _ => rfl) (fun b74 => ?_) (fun b74 => ?_)
      · refine Ev.steps (k := 2) (pc' := 83) (L' := [Vr 166, Vi to, Vi (d0 : Int), Vi (r : Int), Vi 0]) (S' := []) (h' := ((SHv st dr rd), (ovl a s b))) (fun _ => rfl) ?_
        have hdr : dstS S tn r = d0 := (hB.eqd (by omega)).mp (by assumption)
        refine m_ways_o to tn d0 r hY_b hWY (by omega) hdr hd (fun s2 h2 => ?_) 0 (by omega) hB.st
        refine Ev.steps (k := 2) (pc' := 54) (L' := [Vr 166, Vi to, Vi (d0 : Int), Vi ((r : Int) + 1), Vi ((nR S : Nat) : Int)]) (S' := []) (h' := (SHv st dr rd, ovl a s2 b)) (fun _ => ?_) (ih _ (by omega) (s := s2) (r + 1) _ (by omega) h2 rfl)
        show some (54, [Vr 166, Vi to, Vi (d0 : Int), Vi (w32 ((r : Int) + 1)), Vi ((nR S : Nat) : Int)], [], _) = _
        rw [show w32 ((r : Int) + 1) = (r : Int) + 1 from w32_id (by unfold R32; omega)]
      · refine Ev.steps (k := 1) (pc' := 147) (L' := [Vr 166, Vi to, Vi (d0 : Int), Vi (r : Int), z]) (S' := []) (h' := ((SHv st dr rd), (ovl a s b))) (fun _ => rfl) ?_
        refine Ev.steps (k := 2) (pc' := 54) (L' := [Vr 166, Vi to, Vi (d0 : Int), Vi ((r : Int) + 1), z]) (S' := []) (h' := (SHv st dr rd, ovl a s b)) (fun _ => ?_) (ih _ (by omega) (s := s) (r + 1) _ (by omega) ?_ rfl)
        · show some (54, [Vr 166, Vi to, Vi (d0 : Int), Vi (w32 ((r : Int) + 1)), z], [], _) = _
          rw [show w32 ((r : Int) + 1) = (r : Int) + 1 from w32_id (by unfold R32; omega)]
        · exact hB.sk (fun h => absurd ((hB.eqd (by omega)).mpr h) b74)
theorem m_ways_d {X : List Int} {d : Nat} {st dr rd : Int} {a s b : C3} (to : Int) (tn : Nat) {S : STY} {bk : Nat} (hY_b : RepY S b bk) (hWY : WfY S) (d0 : Nat) (z y : pm_V) (hd : d0 ≤ nR S) (hB : BFS S tn d0 (fun _ => False) (s 218)) : Ev X d 218 39 [Vr 166, Vi to, Vi (d0 : Int), z, y] [] (SHv st dr rd, ovl a s b) (fun rr hh => ∃ s' : C3, rr = none ∧ hh = (SHv st dr rd, ovl a s' b) ∧ ∀ r, r < nR S → s' 218 r = if dstS S tn r < 9 then (dstS S tn r : Int) else -1) := by
  induction hk : (nR S - d0) using Nat.strongRecOn generalizing d0 s z y with
  | ind k ih =>
    obtain ⟨hb2_b, h12_b, h168_b, h169_b, h170_b, h171_b, h173_b, h172_b, h174_b, h176_b, h178_b, h175_b, h177_b, h179_b, h180_b, h184_b⟩ := id hY_b
    obtain ⟨wR, wD, wW, wT, wL, wC, wdoor, wsym, wWI, wTI, wCl, wRu⟩ := id hWY
    refine Ev.steps (k := 5) (pc' := 48) (L' := [Vr 166, Vi to, Vi (d0 : Int), z, y]) (S' := [Vi (b 166 12), Vr 168, Vi (d0 : Int)]) (h' := ((SHv st dr rd), (ovl a s b))) (fun _ => rfl) ?_
    rw [h12_b]
    refine Ev.iald (v := ((nR S : Nat) : Int)) rfl (by decide) rfl (by omega) (by omega) (h168_b) ?_
    refine Ev.ite (P := ((nR S : Nat) : Int) ≤ (d0 : Int)) (k := 1) (a := 159) (b := 52) (L' := [Vr 166, Vi to, Vi (d0 : Int), z, y]) (S' := []) (h' := ((SHv st dr rd), (ovl a s b))) (fun _ => rfl) (fun b49 => ?_) (fun b49 => ?_)
    · refine Ev.fin (k := 1) (r := none) (h' := ((SHv st dr rd), (ovl a s b))) (fun _ => rfl) ?_
      obtain rfl : d0 = nR S := by omega
      refine ⟨s, rfl, rfl, fun r hr => ?_⟩
      obtain ⟨h1, -, -, h4⟩ := hB r hr
      have h5 := dst_le9 (S := S) (to := tn) (r := r)
      split
      · next h => exact h1 (by have := dst_lt hr h; omega)
      · next h =>
        by_cases hq : dstS S tn r = nR S + 1
        · exact (hB r hr).2.2.1 hq id
        · exact h4 (by omega)
    · refine Ev.steps (k := 2) (pc' := 54) (L' := [Vr 166, Vi to, Vi (d0 : Int), Vi 0, y]) (S' := []) (h' := ((SHv st dr rd), (ovl a s b))) (fun _ => rfl) ?_
      refine m_ways_r to tn d0 hY_b hWY (by omega) (fun s2 z2 h2 => ?_) 0 _ (by omega) (hB.cg (fun x hx e => ⟨fun h => absurd h id, fun ⟨r0, g1, _⟩ => absurd g1 (by omega)⟩))
      refine Ev.steps (k := 2) (pc' := 39) (L' := [Vr 166, Vi to, Vi ((d0 : Int) + 1), Vi ((nR S : Nat) : Int), z2]) (S' := []) (h' := (SHv st dr rd, ovl a s2 b)) (fun _ => ?_) (ih _ (by omega) (s := s2) (d0 + 1) _ _ (by omega) (h2.next (by omega)) rfl)
      show some (39, [Vr 166, Vi to, Vi (w32 ((d0 : Int) + 1)), Vi ((nR S : Nat) : Int), z2], [], _) = _
      rw [show w32 ((d0 : Int) + 1) = (d0 : Int) + 1 from w32_id (by unfold R32; omega)]
theorem m_ways_i {X : List Int} {d : Nat} {st dr rd : Int} {a s b : C3} (tn : Nat) {S : STY} {bk : Nat} (hY_b : RepY S b bk) (hWY : WfY S) (r : Nat) (z y : pm_V) (hr : r ≤ nR S) (hB : ∀ x, x < r → s 218 x = if x = tn then 0 else -1) : Ev X d 218 2 [Vr 166, Vi (tn : Int), Vi (r : Int), z, y] [] (SHv st dr rd, ovl a s b) (fun rr hh => ∃ s' : C3, rr = none ∧ hh = (SHv st dr rd, ovl a s' b) ∧ ∀ r, r < nR S → s' 218 r = if dstS S tn r < 9 then (dstS S tn r : Int) else -1) := by
  induction hk : (nR S - r) using Nat.strongRecOn generalizing r s z y with
  | ind k ih =>
    obtain ⟨hb2_b, h12_b, h168_b, h169_b, h170_b, h171_b, h173_b, h172_b, h174_b, h176_b, h178_b, h175_b, h177_b, h179_b, h180_b, h184_b⟩ := id hY_b
    obtain ⟨wR, wD, wW, wT, wL, wC, wdoor, wsym, wWI, wTI, wCl, wRu⟩ := id hWY
    refine Ev.steps (k := 5) (pc' := 11) (L' := [Vr 166, Vi (tn : Int), Vi (r : Int), z, y]) (S' := [Vi (b 166 12), Vr 168, Vi (r : Int)]) (h' := ((SHv st dr rd), (ovl a s b))) (fun _ => rfl) ?_
    rw [h12_b]
    refine Ev.iald (v := ((nR S : Nat) : Int)) rfl (by decide) rfl (by omega) (by omega) (h168_b) ?_
    refine Ev.ite (P := ((nR S : Nat) : Int) ≤ (r : Int)) (k := 1) (a := 37) (b := 15) (L' := [Vr 166, Vi (tn : Int), Vi (r : Int), z, y]) (S' := []) (h' := ((SHv st dr rd), (ovl a s b))) (fun _ => rfl) (fun b12 => ?_) (fun b12 => ?_)
    · refine Ev.steps (k := 2) (pc' := 39) (L' := [Vr 166, Vi (tn : Int), Vi 0, z, y]) (S' := []) (h' := ((SHv st dr rd), (ovl a s b))) (fun _ => rfl) ?_
      obtain rfl : r = nR S := by omega
      refine m_ways_d (tn : Int) tn hY_b hWY 0 _ _ (by omega) (fun x hx => ?_)
      have h1 := hB x hx
      have h2 := dst_0 (S := S) (to := tn) (r := x)
      refine ⟨fun e => ?_, fun e p => absurd p id, fun e _ => ?_, fun e => ?_⟩
      · rw [h1, if_pos (h2.mp (by omega)), show dstS S tn x = 0 by omega]
        rfl
      · rw [h1, if_neg (fun h => by have := h2.mpr h; omega)]
      · rw [h1, if_neg (fun h => by have := h2.mpr h; omega)]
    · refine Ev.ite (P := (r : Int) ≠ (tn : Int)) (k := 6) (a := 29) (b := 25) (L' := [Vr 166, Vi (tn : Int), Vi (r : Int), z, y]) (S' := [Vi (r : Int), Vr 218]) (h' := ((SHv st dr rd), (ovl a s b))) (fun _ => rfl) (fun b22 => ?_) (fun b22 => ?_)
      · refine Ev.steps (k := 1) (pc' := 30) (L' := [Vr 166, Vi (tn : Int), Vi (r : Int), z, y]) (S' := [Vi (-1), Vi (r : Int), Vr 218]) (h' := ((SHv st dr rd), (ovl a s b))) (fun _ => rfl) ?_
        refine Ev.iast (c' := (ovl a (updC s 218 r (-1)) b)) rfl (by decide) rfl (by omega) (by omega) (ovl_ws (by decide)) ?_
        refine Ev.steps (k := 1) (pc' := 34) (L' := [Vr 166, Vi (tn : Int), Vi (w32 ((r : Int) + 1)), z, y]) (S' := []) (h' := ((SHv st dr rd), (ovl a (updC s 218 r (-1)) b))) (fun _ => rfl) ?_
        rw [show (w32 ((r : Int) + 1)) = ((r : Int) + 1) from w32_id (by unfold R32; omega)]
        refine Ev.steps (k := 1) (pc' := 2) (L' := [Vr 166, Vi (tn : Int), Vi ((r : Int) + 1), z, y]) (S' := []) (h' := ((SHv st dr rd), (ovl a (updC s 218 r (-1)) b))) (fun _ => rfl) ?_
        refine ih _ (by omega) (s := (updC s 218 r (-1))) (r + 1) _ _ (by omega) (fun x hx => ?_) rfl
        rw [updC_if]
        split
        · next h =>
          subst h
          first | rw [if_pos (by omega)] | rw [if_neg (by omega)]
        · exact hB x (by omega)
      · refine Ev.steps (k := 2) (pc' := 30) (L' := [Vr 166, Vi (tn : Int), Vi (r : Int), z, y]) (S' := [Vi 0, Vi (r : Int), Vr 218]) (h' := ((SHv st dr rd), (ovl a s b))) (fun _ => rfl) ?_
        refine Ev.iast (c' := (ovl a (updC s 218 r 0) b)) rfl (by decide) rfl (by omega) (by omega) (ovl_ws (by decide)) ?_
        refine Ev.steps (k := 1) (pc' := 34) (L' := [Vr 166, Vi (tn : Int), Vi (w32 ((r : Int) + 1)), z, y]) (S' := []) (h' := ((SHv st dr rd), (ovl a (updC s 218 r 0) b))) (fun _ => rfl) ?_
        rw [show (w32 ((r : Int) + 1)) = ((r : Int) + 1) from w32_id (by unfold R32; omega)]
        refine Ev.steps (k := 1) (pc' := 2) (L' := [Vr 166, Vi (tn : Int), Vi ((r : Int) + 1), z, y]) (S' := []) (h' := ((SHv st dr rd), (ovl a (updC s 218 r 0) b))) (fun _ => rfl) ?_
        refine ih _ (by omega) (s := (updC s 218 r 0)) (r + 1) _ _ (by omega) (fun x hx => ?_) rfl
        rw [updC_if]
        split
        · next h =>
          subst h
          first | rw [if_pos (by omega)] | rw [if_neg (by omega)]
        · exact hB x (by omega)
theorem m_ways {X : List Int} {d : Nat} {st dr rd : Int} {a s b : C3} (tn : Nat) {S : STY} {bk : Nat} (hY_b : RepY S b bk) (hWY : WfY S) : Ev X d 218 0 [Vr 166, Vi (tn : Int), Vx, Vx, Vx] [] (SHv st dr rd, ovl a s b) (fun rr hh => ∃ s' : C3, rr = none ∧ hh = (SHv st dr rd, ovl a s' b) ∧ ∀ r, r < nR S → s' 218 r = if dstS S tn r < 9 then (dstS S tn r : Int) else -1) := by
  refine Ev.steps (k := 2) (pc' := 2) (L' := [Vr 166, Vi (tn : Int), Vi 0, Vx, Vx]) (S' := []) (h' := ((SHv st dr rd), (ovl a s b))) (fun _ => rfl) ?_
  exact m_ways_i tn hY_b hWY 0 _ _ (by omega) (fun x hx => absurd hx (by omega))
theorem bstS_s {S : STY} {fr to o : Nat} : bstS S fr to (o + 1) = if S.1 4 (8 * fr + o) ≠ 0 ∧ dstS S to o < 9 ∧ (bstS S fr to o = -1 ∨ dstS S to o < dstS S to (bstS S fr to o).toNat) then (o : Int) else bstS S fr to o := rfl
theorem bstS_b {S : STY} {fr to : Nat} : ∀ o, bstS S fr to o = -1 ∨ (0 ≤ bstS S fr to o ∧ bstS S fr to o < o ∧ dstS S to (bstS S fr to o).toNat < 9)
  | 0 => Or.inl rfl
  | o + 1 => by
    rw [bstS_s]
    split
    · next h => exact Or.inr ⟨by omega, by omega, by rw [Int.toNat_natCast]; exact h.2.1⟩
    · have := bstS_b (S := S) (fr := fr) (to := to) o
      omega
theorem m_step_l {X : List Int} {d : Nat} {st dr rd : Int} {a s b : C3} (r tn : Nat) (tv : Int) {S : STY} {bk : Nat} (hY_b : RepY S b bk) (hWY : WfY S) (hr : r < nR S) (hf : ∀ x, x < nR S → s 218 x = if dstS S tn x < 9 then (dstS S tn x : Int) else -1) (o : Nat) (v : Int) (ho : o ≤ nR S) (hv : v = bstS S r tn o) : Ev X (d + 1) 217 17 [Vr 166, Vi (r : Int), Vi tv, Vi v, Vi (o : Int)] [] (SHv st dr rd, ovl a s b) (fun rr hh => rr = some (Vi (bstS S r tn (nR S))) ∧ hh = (SHv st dr rd, ovl a s b)) := by
  induction hk : (nR S - o) using Nat.strongRecOn generalizing o v with
  | ind k ih =>
    obtain ⟨hb2_b, h12_b, h168_b, h169_b, h170_b, h171_b, h173_b, h172_b, h174_b, h176_b, h178_b, h175_b, h177_b, h179_b, h180_b, h184_b⟩ := id hY_b
    obtain ⟨wR, wD, wW, wT, wL, wC, wdoor, wsym, wWI, wTI, wCl, wRu⟩ := id hWY
    have hbb := bstS_b (S := S) (fr := r) (to := tn) o
    rw [← hv] at hbb
    refine Ev.steps (k := 5) (pc' := 27) (L' := [Vr 166, Vi (r : Int), Vi tv, Vi v, Vi (o : Int)]) (S' := [Vi (b 166 12), Vr 168, Vi (o : Int)]) (h' := ((SHv st dr rd), (ovl a s b))) (fun _ => rfl) ?_
    rw [h12_b]
    refine Ev.iald (v := ((nR S : Nat) : Int)) rfl (by decide) rfl (by omega) (by omega) (h168_b) ?_
    refine Ev.ite (P := ((nR S : Nat) : Int) ≤ (o : Int)) (k := 1) (a := 95) (b := 31) (L' := [Vr 166, Vi (r : Int), Vi tv, Vi v, Vi (o : Int)]) (S' := []) (h' := ((SHv st dr rd), (ovl a s b))) (fun _ => rfl) (fun b28 => ?_) (fun b28 => ?_)
    · refine Ev.fin (k := 2) (r := (some (Vi v))) (h' := ((SHv st dr rd), (ovl a s b))) (fun _ => rfl) ?_
      obtain rfl : o = nR S := by omega
      exact ⟨by rw [hv], rfl⟩
    · refine Ev.steps (k := 5) (pc' := 41) (L' := [Vr 166, Vi (r : Int), Vi tv, Vi v, Vi (o : Int)]) (S' := [Vi (b 166 12), Vi 64, Vr 175]) (h' := ((SHv st dr rd), (ovl a s b))) (fun _ => rfl) ?_
      rw [h12_b]
      refine Ev.steps (k := 1) (pc' := 42) (L' := [Vr 166, Vi (r : Int), Vi tv, Vi v, Vi (o : Int)]) (S' := [Vi (w32 (64 * (bk : Int))), Vr 175]) (h' := ((SHv st dr rd), (ovl a s b))) (fun _ => rfl) ?_
      rw [show (w32 (64 * (bk : Int))) = (64 * (bk : Int)) from w32_id (by unfold R32; omega)]
      refine Ev.steps (k := 3) (pc' := 46) (L' := [Vr 166, Vi (r : Int), Vi tv, Vi v, Vi (o : Int)]) (S' := [Vi (w32 (8 * (r : Int))), Vi (64 * (bk : Int)), Vr 175]) (h' := ((SHv st dr rd), (ovl a s b))) (fun _ => rfl) ?_
      rw [show (w32 (8 * (r : Int))) = (8 * (r : Int)) from w32_id (by unfold R32; omega)]
      refine Ev.steps (k := 1) (pc' := 47) (L' := [Vr 166, Vi (r : Int), Vi tv, Vi v, Vi (o : Int)]) (S' := [Vi (w32 ((64 * (bk : Int)) + (8 * (r : Int)))), Vr 175]) (h' := ((SHv st dr rd), (ovl a s b))) (fun _ => rfl) ?_
      rw [show (w32 ((64 * (bk : Int)) + (8 * (r : Int)))) = ((64 * (bk : Int)) + (8 * (r : Int))) from w32_id (by unfold R32; omega)]
      refine Ev.steps (k := 2) (pc' := 50) (L' := [Vr 166, Vi (r : Int), Vi tv, Vi v, Vi (o : Int)]) (S' := [Vi (w32 (((64 * (bk : Int)) + (8 * (r : Int))) + (o : Int))), Vr 175]) (h' := ((SHv st dr rd), (ovl a s b))) (fun _ => rfl) ?_
      rw [show (w32 (((64 * (bk : Int)) + (8 * (r : Int))) + (o : Int))) = (((64 * (bk : Int)) + (8 * (r : Int))) + (o : Int)) from w32_id (by unfold R32; omega)]
      refine Ev.zald (v := (S.1 4 (8 * r + o))) rfl (by decide) rfl (by omega) (by omega) (h175_b r o (by omega) (by omega)) ?_
      refine Ev.ite (P := (S.1 4 (8 * r + o)) = 0) (k := 1) (a := 89) (b := 54) (L' := [Vr 166, Vi (r : Int), Vi tv, Vi v, Vi (o : Int)]) (S' := []) (h' := ((SHv st dr rd), (ovl a s b))) (fun _ => rfl) (fun b51 => ?_) (fun b51 => ?_)
      · refine Ev.steps (k := 1) (pc' := 92) (L' := [Vr 166, Vi (r : Int), Vi tv, Vi v, Vi (w32 ((o : Int) + 1))]) (S' := []) (h' := ((SHv st dr rd), (ovl a s b))) (fun _ => rfl) ?_
        rw [show (w32 ((o : Int) + 1)) = ((o : Int) + 1) from w32_id (by unfold R32; omega)]
        refine Ev.steps (k := 1) (pc' := 17) (L' := [Vr 166, Vi (r : Int), Vi tv, Vi v, Vi ((o : Int) + 1)]) (S' := []) (h' := ((SHv st dr rd), (ovl a s b))) (fun _ => rfl) ?_
        refine ih _ (by omega) (o + 1) v (by omega) ?_ rfl
        rw [bstS_s, ← hv]
        split <;> rename_i hC <;> (try split at b62) <;> (try split at b83) <;> omega
      · refine Ev.steps (k := 3) (pc' := 60) (L' := [Vr 166, Vi (r : Int), Vi tv, Vi v, Vi (o : Int)]) (S' := [Vi (o : Int), Vr 218]) (h' := ((SHv st dr rd), (ovl a s b))) (fun _ => rfl) ?_
        refine Ev.iald (v := (if dstS S tn o < 9 then (dstS S tn o : Int) else -1)) rfl (by decide) rfl (by omega) (by omega) (hf o (by omega)) ?_
        refine Ev.ite (P := (if dstS S tn o < 9 then (dstS S tn o : Int) else -1) = (-1)) (k := 2) (a := 89) (b := 65) (L' := [Vr 166, Vi (r : Int), Vi tv, Vi v, Vi (o : Int)]) (S' := []) (h' := ((SHv st dr rd), (ovl a s b))) (fun _ => rfl) (fun b62 => ?_) (fun b62 => ?_)
        · refine Ev.steps (k := 1) (pc' := 92) (L' := [Vr 166, Vi (r : Int), Vi tv, Vi v, Vi (w32 ((o : Int) + 1))]) (S' := []) (h' := ((SHv st dr rd), (ovl a s b))) (fun _ => rfl) ?_
          rw [show (w32 ((o : Int) + 1)) = ((o : Int) + 1) from w32_id (by unfold R32; omega)]
          refine Ev.steps (k := 1) (pc' := 17) (L' := [Vr 166, Vi (r : Int), Vi tv, Vi v, Vi ((o : Int) + 1)]) (S' := []) (h' := ((SHv st dr rd), (ovl a s b))) (fun _ => rfl) ?_
          refine ih _ (by omega) (o + 1) v (by omega) ?_ rfl
          rw [bstS_s, ← hv]
          split <;> rename_i hC <;> (try split at b62) <;> (try split at b83) <;> omega
        · refine Ev.ite (P := v = (-1)) (k := 3) (a := 86) (b := 70) (L' := [Vr 166, Vi (r : Int), Vi tv, Vi v, Vi (o : Int)]) (S' := []) (h' := ((SHv st dr rd), (ovl a s b))) (fun _ => rfl) (fun b67 => ?_) (fun b67 => ?_)
          · refine Ev.steps (k := 3) (pc' := 92) (L' := [Vr 166, Vi (r : Int), Vi tv, Vi (o : Int), Vi (w32 ((o : Int) + 1))]) (S' := []) (h' := ((SHv st dr rd), (ovl a s b))) (fun _ => rfl) ?_
            rw [show (w32 ((o : Int) + 1)) = ((o : Int) + 1) from w32_id (by unfold R32; omega)]
            refine Ev.steps (k := 1) (pc' := 17) (L' := [Vr 166, Vi (r : Int), Vi tv, Vi (o : Int), Vi ((o : Int) + 1)]) (S' := []) (h' := ((SHv st dr rd), (ovl a s b))) (fun _ => rfl) ?_
            refine ih _ (by omega) (o + 1) (o : Int) (by omega) ?_ rfl
            rw [bstS_s, ← hv]
            split <;> rename_i hC <;> (try split at b62) <;> (try split at b83) <;> omega
          · refine Ev.steps (k := 3) (pc' := 76) (L' := [Vr 166, Vi (r : Int), Vi tv, Vi v, Vi (o : Int)]) (S' := [Vi (o : Int), Vr 218]) (h' := ((SHv st dr rd), (ovl a s b))) (fun _ => rfl) ?_
            refine Ev.iald (v := (if dstS S tn o < 9 then (dstS S tn o : Int) else -1)) rfl (by decide) rfl (by omega) (by omega) (hf o (by omega)) ?_
            refine Ev.steps (k := 3) (pc' := 82) (L' := [Vr 166, Vi (r : Int), Vi tv, Vi v, Vi (o : Int)]) (S' := [Vi v, Vr 218, Vi (if dstS S tn o < 9 then (dstS S tn o : Int) else -1)]) (h' := ((SHv st dr rd), (ovl a s b))) (fun _ => rfl) ?_
            refine Ev.iald (v := (if dstS S tn v.toNat < 9 then (dstS S tn v.toNat : Int) else -1)) rfl (by decide) rfl (by omega) (by omega) (hf v.toNat (by omega)) ?_
            refine Ev.ite (P := (if dstS S tn v.toNat < 9 then (dstS S tn v.toNat : Int) else -1) ≤ (if dstS S tn o < 9 then (dstS S tn o : Int) else -1)) (k := 1) (a := 89) (b := 86) (L' := [Vr 166, Vi (r : Int), Vi tv, Vi v, Vi (o : Int)]) (S' := []) (h' := ((SHv st dr rd), (ovl a s b))) (fun _ => rfl) (fun b83 => ?_) (fun b83 => ?_)
            · refine Ev.steps (k := 1) (pc' := 92) (L' := [Vr 166, Vi (r : Int), Vi tv, Vi v, Vi (w32 ((o : Int) + 1))]) (S' := []) (h' := ((SHv st dr rd), (ovl a s b))) (fun _ => rfl) ?_
              rw [show (w32 ((o : Int) + 1)) = ((o : Int) + 1) from w32_id (by unfold R32; omega)]
              refine Ev.steps (k := 1) (pc' := 17) (L' := [Vr 166, Vi (r : Int), Vi tv, Vi v, Vi ((o : Int) + 1)]) (S' := []) (h' := ((SHv st dr rd), (ovl a s b))) (fun _ => rfl) ?_
              refine ih _ (by omega) (o + 1) v (by omega) ?_ rfl
              rw [bstS_s, ← hv]
              split <;> rename_i hC <;> (try split at b62) <;> (try split at b83) <;> omega
            · refine Ev.steps (k := 3) (pc' := 92) (L' := [Vr 166, Vi (r : Int), Vi tv, Vi (o : Int), Vi (w32 ((o : Int) + 1))]) (S' := []) (h' := ((SHv st dr rd), (ovl a s b))) (fun _ => rfl) ?_
              rw [show (w32 ((o : Int) + 1)) = ((o : Int) + 1) from w32_id (by unfold R32; omega)]
              refine Ev.steps (k := 1) (pc' := 17) (L' := [Vr 166, Vi (r : Int), Vi tv, Vi (o : Int), Vi ((o : Int) + 1)]) (S' := []) (h' := ((SHv st dr rd), (ovl a s b))) (fun _ => rfl) ?_
              refine ih _ (by omega) (o + 1) (o : Int) (by omega) ?_ rfl
              rw [bstS_s, ← hv]
              split <;> rename_i hC <;> (try split at b62) <;> (try split at b83) <;> omega
theorem m_step {X : List Int} {d : Nat} {st dr rd : Int} {a s b : C3} (r tn : Nat) {S : STY} {bk : Nat} (hY_b : RepY S b bk) (hWY : WfY S) (hr : r < nR S) : Ev X (d + 1) 217 0 [Vr 166, Vi (r : Int), Vi (tn : Int), Vx, Vx] [] (SHv st dr rd, ovl a s b) (fun rr hh => ∃ s' : C3, rr = some (Vi (stpW S r tn)) ∧ hh = (SHv st dr rd, ovl a s' b)) := by
  refine Ev.ite (P := (r : Int) ≠ (tn : Int)) (k := 3) (a := 7) (b := 5) (L' := [Vr 166, Vi (r : Int), Vi (tn : Int), Vx, Vx]) (S' := []) (h' := ((SHv st dr rd), (ovl a s b))) (fun _ => rfl) (fun b2 => ?_) (fun b2 => ?_)
  · refine Ev.call (k := 2) (pc1 := 9) (L1 := [Vr 166, Vi (r : Int), Vi (tn : Int), Vx, Vx]) (S1 := [Vi (tn : Int), Vr 166]) (h1 := ((SHv st dr rd), (ovl a s b))) (m' := 218) (as := [Vr 166, Vi (tn : Int)]) (S' := []) (L0 := [Vr 166, Vi (tn : Int), Vx, Vx, Vx]) (fun _ => rfl) rfl rfl rfl rfl rfl rfl (m_ways tn hY_b hWY) (fun r h' hq => ?_)
    obtain ⟨s2, rfl, rfl, hf⟩ := hq
    show Ev X _ _ 12 [Vr 166, Vi (r : Int), Vi (tn : Int), Vx, Vx] [] ((SHv st dr rd), (ovl a s2 b)) _
    refine Ev.steps (k := 4) (pc' := 17) (L' := [Vr 166, Vi (r : Int), Vi (tn : Int), Vi (-1), Vi 0]) (S' := []) (h' := ((SHv st dr rd), (ovl a s2 b))) (fun _ => rfl) ?_
    unfold stpW
    rw [if_neg (by omega)]
    exact Ev.mono (m_step_l r tn (tn : Int) hY_b hWY hr hf 0 (-1) (by omega) rfl) (fun rr hh h => ⟨s2, h.1, h.2⟩)
  · refine Ev.fin (k := 2) (r := (some (Vi (-1)))) (h' := ((SHv st dr rd), (ovl a s b))) (fun _ => rfl) ?_
    refine ⟨s, ?_, rfl⟩
    unfold stpW
    rw [if_pos (by omega)]
