/-! THE REFERENCE: claims -/
theorem lst_eq {f : Nat → Bool} {n k : Nat} (hk : f k = true) (hm : ∀ j, j < k → f j = false) (hn : k < n) : lst f n = k := by
  have h1 := lst_of (n := n) hk
  by_cases h : lst f n < k
  · have h2 := lst_sat f n (by omega)
    rw [hm _ h] at h2
    cases h2
  · omega
theorem lst_no {f : Nat → Bool} {n : Nat} (hm : ∀ j, j < n → f j = false) : lst f n = n := by
  have h1 := lst_le f n
  by_cases h : lst f n < n
  · have h2 := lst_sat f n h
    rw [hm _ h] at h2
    cases h2
  · omega
theorem TopM.f1 {G : GST} {b : SC} (h : TopM G b) {i : Nat} {v : Int} (hi : 72 ≤ i ∧ i ≤ 78) : TopM G (updC b 166 i v) := by
  refine h.fx (FrX.rf.up (by unfold InX InE; omega)) ?_
  obtain ⟨bk, -, -, -, -, -, -, -, -, -, -, hO⟩ := h
  exact hO
theorem m_claimLast {X : List Int} {d : Nat} {st dr rd : Int} {a s b : C3} {G : GST} (hT : TopM G b) (kc : Nat) (hkc : kc < nC (gS G)) (hn1 : 0 < gn G) : Ev X d 253 0 [Vr 166, Vi (kc : Int), Vx] [] (SHv st dr rd, ovl a s b) (fun rr hh => rr = some (Vi (if (gS G).1 10 kc < ((gn G : Nat) : Int) then (gS G).1 10 kc else ((gn G : Nat) : Int) - 1)) ∧ hh = (SHv st dr rd, ovl a s b)) := by
  obtain ⟨bk, hY_b, hWY, hB1, hWB, hWE, hn180, hEQ, hTp, hfk, hfp, hO⟩ := id hT
  obtain ⟨hb2_b, h12_b, h168_b, h169_b, h170_b, h171_b, h173_b, h172_b, h174_b, h176_b, h178_b, h175_b, h177_b, h179_b, h180_b, h184_b⟩ := id hY_b
  obtain ⟨wR, wD, wW, wT, wL, wC, wdoor, wsym, wWI, wTI, wCl, wRu⟩ := id hWY
  obtain ⟨w8, wWc⟩ := wW
  obtain ⟨t8, wTc⟩ := wT
  obtain ⟨r8, wRc⟩ := wR
  obtain ⟨l30, wLc⟩ := wL
  obtain ⟨c12, wCc⟩ := wC
  obtain ⟨e202, e203, e204, e211, e210, eHis, e212⟩ := id hEQ
  obtain ⟨g7, g8, g9, g10⟩ := h180_b kc hkc
  obtain ⟨q7, q8, q9⟩ := wCl kc hkc
  refine Ev.steps (k := 5) (pc' := 10) (L' := [Vr 166, Vi (kc : Int), Vx]) (S' := [Vi (b 166 12), Vi 12, Vr 183]) (h' := ((SHv st dr rd), (ovl a s b))) (fun _ => rfl) ?_
  rw [h12_b]
  refine Ev.steps (k := 1) (pc' := 11) (L' := [Vr 166, Vi (kc : Int), Vx]) (S' := [Vi (w32 (12 * (bk : Int))), Vr 183]) (h' := ((SHv st dr rd), (ovl a s b))) (fun _ => rfl) ?_
  rw [show (w32 (12 * (bk : Int))) = (12 * (bk : Int)) from w32_id (by unfold R32; omega)]
  refine Ev.steps (k := 2) (pc' := 13) (L' := [Vr 166, Vi (kc : Int), Vx]) (S' := [Vi (w32 ((12 * (bk : Int)) + (kc : Int))), Vr 183]) (h' := ((SHv st dr rd), (ovl a s b))) (fun _ => rfl) ?_
  rw [show (w32 ((12 * (bk : Int)) + (kc : Int))) = ((12 * (bk : Int)) + (kc : Int)) from w32_id (by unfold R32; omega)]
  refine Ev.iald (v := ((gS G).1 10 kc)) rfl (by decide) rfl (by omega) (by omega) (g10) ?_
  refine Ev.steps (k := 6) (pc' := 22) (L' := [Vr 166, Vi (kc : Int), Vi ((gS G).1 10 kc)]) (S' := [Vi (b 202 0), Vi ((gS G).1 10 kc)]) (h' := ((SHv st dr rd), (ovl a s b))) (fun _ => rfl) ?_
  rw [e202]
  refine Ev.ite (P := ((gn G : Nat) : Int) ≤ ((gS G).1 10 kc)) (k := 1) (a := 29) (b := 25) (L' := [Vr 166, Vi (kc : Int), Vi ((gS G).1 10 kc)]) (S' := []) (h' := ((SHv st dr rd), (ovl a s b))) (fun _ => rfl) (fun b22 => ?_) (fun b22 => ?_)
  · refine Ev.steps (k := 4) (pc' := 35) (L' := [Vr 166, Vi (kc : Int), Vi ((gS G).1 10 kc)]) (S' := [Vi (b 202 0)]) (h' := ((SHv st dr rd), (ovl a s b))) (fun _ => rfl) ?_
    rw [e202]
    refine Ev.steps (k := 2) (pc' := 37) (L' := [Vr 166, Vi (kc : Int), Vi ((gS G).1 10 kc)]) (S' := [Vi (w32 (((gn G : Nat) : Int) - 1))]) (h' := ((SHv st dr rd), (ovl a s b))) (fun _ => rfl) ?_
    rw [show (w32 (((gn G : Nat) : Int) - 1)) = (((gn G : Nat) : Int) - 1) from w32_id (by unfold R32; omega)]
    refine Ev.fin (k := 1) (r := (some (Vi (((gn G : Nat) : Int) - 1)))) (h' := ((SHv st dr rd), (ovl a s b))) (fun _ => rfl) ?_
    refine ⟨?_, rfl⟩
    first | rw [if_pos (by omega)] | rw [if_neg (by omega)]
  · refine Ev.fin (k := 3) (r := (some (Vi ((gS G).1 10 kc)))) (h' := ((SHv st dr rd), (ovl a s b))) (fun _ => rfl) ?_
    refine ⟨?_, rfl⟩
    first | rw [if_pos (by omega)] | rw [if_neg (by omega)]
theorem m_isLie_l {X : List Int} {d : Nat} {st dr rd : Int} {a s b : C3} {G : GST} (hT : TopM G b) (kc : Nat) (hkc : kc < nC (gS G)) (hn1 : 0 < gn G) {bkv : Int} {bk0 : Nat} (h12 : b 166 12 = (bk0 : Int)) (hkv : bkv = 12 * (bk0 : Int) + (kc : Int)) (m : Nat) (hm : (gS G).1 9 kc ≤ m) (hi : ∀ r : Nat, r < m → (gS G).1 9 kc ≤ r → gA G (r + 1) 0 ((gS G).1 7 kc).toNat = (gS G).1 8 kc) : Ev X (d + 1) 252 17 [Vr 166, Vi (kc : Int), Vi bkv, Vi (m : Int)] [] (SHv st dr rd, ovl a s b) (fun rr hh => rr = some (Vi (if cTrue G kc then 0 else 1)) ∧ hh = (SHv st dr rd, ovl a s b)) := by
  induction hk : (gn G - m) using Nat.strongRecOn generalizing m with
  | ind k ih =>
    obtain ⟨bk, hY_b, hWY, hB1, hWB, hWE, hn180, hEQ, hTp, hfk, hfp, hO⟩ := id hT
    obtain ⟨hb2_b, h12_b, h168_b, h169_b, h170_b, h171_b, h173_b, h172_b, h174_b, h176_b, h178_b, h175_b, h177_b, h179_b, h180_b, h184_b⟩ := id hY_b
    obtain ⟨wR, wD, wW, wT, wL, wC, wdoor, wsym, wWI, wTI, wCl, wRu⟩ := id hWY
    obtain ⟨w8, wWc⟩ := wW
    obtain ⟨t8, wTc⟩ := wT
    obtain ⟨r8, wRc⟩ := wR
    obtain ⟨l30, wLc⟩ := wL
    obtain ⟨c12, wCc⟩ := wC
    obtain ⟨e202, e203, e204, e211, e210, eHis, e212⟩ := id hEQ
    obtain ⟨g7, g8, g9, g10⟩ := h180_b kc hkc
    obtain ⟨q7, q8, q9⟩ := wCl kc hkc
    obtain rfl : bk0 = bk := by omega
    have hib : bkv.toNat = 12 * bk0 + kc := by omega
    have hrow := hT.row
    refine Ev.call (k := 3) (pc1 := 20) (L1 := [Vr 166, Vi (kc : Int), Vi bkv, Vi (m : Int)]) (S1 := [Vi (kc : Int), Vr 166, Vi (m : Int)]) (h1 := ((SHv st dr rd), (ovl a s b))) (m' := 253) (as := [Vr 166, Vi (kc : Int)]) (S' := [Vi (m : Int)]) (L0 := [Vr 166, Vi (kc : Int), Vx]) (fun _ => rfl) rfl rfl rfl rfl rfl rfl (m_claimLast hT kc hkc hn1) (fun r h' hq => ?_)
    obtain ⟨rfl, rfl⟩ := hq
    show Ev X _ _ 23 [Vr 166, Vi (kc : Int), Vi bkv, Vi (m : Int)] [Vi (if (gS G).1 10 kc < ((gn G : Nat) : Int) then (gS G).1 10 kc else ((gn G : Nat) : Int) - 1), Vi (m : Int)] ((SHv st dr rd), (ovl a s b)) _
    refine Ev.ite (P := (if (gS G).1 10 kc < ((gn G : Nat) : Int) then (gS G).1 10 kc else ((gn G : Nat) : Int) - 1) < (m : Int)) (k := 1) (a := 61) (b := 26) (L' := [Vr 166, Vi (kc : Int), Vi bkv, Vi (m : Int)]) (S' := []) (h' := ((SHv st dr rd), (ovl a s b))) (fun _ => rfl) (fun b23 => ?_) (fun b23 => ?_)
    · have hmL : ¬ ((m : Int) ≤ (gS G).1 10 kc ∧ m < gn G) := by split at b23 <;> omega
      refine Ev.fin (k := 2) (r := (some (Vi 0))) (h' := ((SHv st dr rd), (ovl a s b))) (fun _ => rfl) ?_
      refine ⟨?_, rfl⟩
      rw [if_pos (by exact fun r hr hc => hi r (by have h1 := hc.2.1; omega) hc.1)]
    · have hmL : (m : Int) ≤ (gS G).1 10 kc ∧ m < gn G := by split at b23 <;> omega
      refine Ev.call (k := 5) (pc1 := 33) (L1 := [Vr 166, Vi (kc : Int), Vi bkv, Vi (m : Int)]) (S1 := [Vi (m : Int), Vi 0, Vr 166, Vr 205]) (h1 := ((SHv st dr rd), (ovl a s b))) (m' := 206) (as := [Vr 166, Vi 0, Vi (m : Int)]) (S' := [Vr 205]) (L0 := [Vr 166, Vi 0, Vi (m : Int)]) (fun _ => rfl) rfl rfl rfl rfl rfl rfl (m_at 0 (m : Int) (by omega) (by omega)) (fun r h' hq => ?_)
      obtain ⟨rfl, rfl⟩ := hq
      show Ev X _ _ 36 [Vr 166, Vi (kc : Int), Vi bkv, Vi (m : Int)] [Vi ((1440 * 0) + (8 * (m : Int))), Vr 205] ((SHv st dr rd), (ovl a s b)) _
      refine Ev.steps (k := 3) (pc' := 41) (L' := [Vr 166, Vi (kc : Int), Vi bkv, Vi (m : Int)]) (S' := [Vi bkv, Vr 180, Vi ((1440 * 0) + (8 * (m : Int))), Vr 205]) (h' := ((SHv st dr rd), (ovl a s b))) (fun _ => rfl) ?_
      refine Ev.iald (v := ((gS G).1 7 kc)) rfl (by decide) rfl (by omega) (by omega) ((show (b 180 (bkv).toNat) = _ by rw [hib]; exact g7)) ?_
      refine Ev.steps (k := 1) (pc' := 43) (L' := [Vr 166, Vi (kc : Int), Vi bkv, Vi (m : Int)]) (S' := [Vi (w32 (((1440 * 0) + (8 * (m : Int))) + ((gS G).1 7 kc))), Vr 205]) (h' := ((SHv st dr rd), (ovl a s b))) (fun _ => rfl) ?_
      rw [show (w32 (((1440 * 0) + (8 * (m : Int))) + ((gS G).1 7 kc))) = (((1440 * 0) + (8 * (m : Int))) + ((gS G).1 7 kc)) from w32_id (by unfold R32; omega)]
      refine Ev.iald (v := (gA G (m + 1) 0 ((gS G).1 7 kc).toNat)) rfl (by decide) rfl (by omega) (by omega) ((show (b 205 (((1440 * 0) + (8 * (m : Int))) + ((gS G).1 7 kc)).toNat) = _ by rw [show (1440 * 0 + 8 * (m : Int) + (gS G).1 7 kc).toNat = 1440 * 0 + 8 * m + ((gS G).1 7 kc).toNat by omega]; exact (hrow m (by omega) _ (by omega)).1)) ?_
      refine Ev.steps (k := 3) (pc' := 49) (L' := [Vr 166, Vi (kc : Int), Vi bkv, Vi (m : Int)]) (S' := [Vi bkv, Vr 181, Vi (gA G (m + 1) 0 ((gS G).1 7 kc).toNat)]) (h' := ((SHv st dr rd), (ovl a s b))) (fun _ => rfl) ?_
      refine Ev.iald (v := ((gS G).1 8 kc)) rfl (by decide) rfl (by omega) (by omega) ((show (b 181 (bkv).toNat) = _ by rw [hib]; exact g8)) ?_
      refine Ev.ite (P := (gA G (m + 1) 0 ((gS G).1 7 kc).toNat) = ((gS G).1 8 kc)) (k := 1) (a := 55) (b := 53) (L' := [Vr 166, Vi (kc : Int), Vi bkv, Vi (m : Int)]) (S' := []) (h' := ((SHv st dr rd), (ovl a s b))) (fun _ => rfl) (fun b50 => ?_) (fun b50 => ?_)
      · refine Ev.steps (k := 1) (pc' := 58) (L' := [Vr 166, Vi (kc : Int), Vi bkv, Vi (w32 ((m : Int) + 1))]) (S' := []) (h' := ((SHv st dr rd), (ovl a s b))) (fun _ => rfl) ?_
        rw [show (w32 ((m : Int) + 1)) = ((m : Int) + 1) from w32_id (by unfold R32; omega)]
        refine Ev.steps (k := 1) (pc' := 17) (L' := [Vr 166, Vi (kc : Int), Vi bkv, Vi ((m : Int) + 1)]) (S' := []) (h' := ((SHv st dr rd), (ovl a s b))) (fun _ => rfl) ?_
        refine ih _ (by omega) (m + 1) (by omega) (fun r hr h2 => ?_) rfl
        by_cases h : r = m
        · rw [h]
          exact b50
        · exact hi r (by omega) h2
      · refine Ev.fin (k := 2) (r := (some (Vi 1))) (h' := ((SHv st dr rd), (ovl a s b))) (fun _ => rfl) ?_
        refine ⟨?_, rfl⟩
        rw [if_neg (by exact fun h => b50 (h m hmL.2 ⟨hm, hmL.1, hmL.2⟩))]
theorem m_isLie {X : List Int} {d : Nat} {st dr rd : Int} {a s b : C3} {G : GST} (hT : TopM G b) (kc : Nat) (hkc : kc < nC (gS G)) (hn1 : 0 < gn G) : Ev X (d + 1) 252 0 [Vr 166, Vi (kc : Int), Vx, Vx] [] (SHv st dr rd, ovl a s b) (fun rr hh => rr = some (Vi (if cTrue G kc then 0 else 1)) ∧ hh = (SHv st dr rd, ovl a s b)) := by
  obtain ⟨bk, hY_b, hWY, hB1, hWB, hWE, hn180, hEQ, hTp, hfk, hfp, hO⟩ := id hT
  obtain ⟨hb2_b, h12_b, h168_b, h169_b, h170_b, h171_b, h173_b, h172_b, h174_b, h176_b, h178_b, h175_b, h177_b, h179_b, h180_b, h184_b⟩ := id hY_b
  obtain ⟨wR, wD, wW, wT, wL, wC, wdoor, wsym, wWI, wTI, wCl, wRu⟩ := id hWY
  obtain ⟨w8, wWc⟩ := wW
  obtain ⟨t8, wTc⟩ := wT
  obtain ⟨r8, wRc⟩ := wR
  obtain ⟨l30, wLc⟩ := wL
  obtain ⟨c12, wCc⟩ := wC
  obtain ⟨e202, e203, e204, e211, e210, eHis, e212⟩ := id hEQ
  obtain ⟨g7, g8, g9, g10⟩ := h180_b kc hkc
  obtain ⟨q7, q8, q9⟩ := wCl kc hkc
  obtain ⟨f, hf⟩ : ∃ f : Nat, (gS G).1 9 kc = f := ⟨((gS G).1 9 kc).toNat, by omega⟩
  refine Ev.steps (k := 3) (pc' := 6) (L' := [Vr 166, Vi (kc : Int), Vx, Vx]) (S' := [Vi (b 166 12), Vi 12]) (h' := ((SHv st dr rd), (ovl a s b))) (fun _ => rfl) ?_
  rw [h12_b]
  refine Ev.steps (k := 1) (pc' := 7) (L' := [Vr 166, Vi (kc : Int), Vx, Vx]) (S' := [Vi (w32 (12 * (bk : Int)))]) (h' := ((SHv st dr rd), (ovl a s b))) (fun _ => rfl) ?_
  rw [show (w32 (12 * (bk : Int))) = (12 * (bk : Int)) from w32_id (by unfold R32; omega)]
  refine Ev.steps (k := 2) (pc' := 9) (L' := [Vr 166, Vi (kc : Int), Vx, Vx]) (S' := [Vi (w32 ((12 * (bk : Int)) + (kc : Int)))]) (h' := ((SHv st dr rd), (ovl a s b))) (fun _ => rfl) ?_
  rw [show (w32 ((12 * (bk : Int)) + (kc : Int))) = ((12 * (bk : Int)) + (kc : Int)) from w32_id (by unfold R32; omega)]
  refine Ev.steps (k := 4) (pc' := 15) (L' := [Vr 166, Vi (kc : Int), Vi ((12 * (bk : Int)) + (kc : Int)), Vx]) (S' := [Vi ((12 * (bk : Int)) + (kc : Int)), Vr 182]) (h' := ((SHv st dr rd), (ovl a s b))) (fun _ => rfl) ?_
  refine Ev.iald (v := (f : Int)) rfl (by decide) rfl (by omega) (by omega) ((show (b 182 ((12 * bk + kc))) = (f : Int) by rw [g9, hf])) ?_
  refine Ev.steps (k := 1) (pc' := 17) (L' := [Vr 166, Vi (kc : Int), Vi ((12 * (bk : Int)) + (kc : Int)), Vi (f : Int)]) (S' := []) (h' := ((SHv st dr rd), (ovl a s b))) (fun _ => rfl) ?_
  exact m_isLie_l hT kc hkc hn1 h12_b rfl f (by omega) (fun r h1 h2 => absurd h1 (by omega))
/-- what is caught in minute m by j or greater ones -/
def CtQ (G : GST) (k m j : Nat) (x y : Int) : Prop := (x = -1 ∧ y = -1 ∧ ∀ q, j ≤ q → q < nW (gS G) → ¬ cCat G k m q) ∨ (∃ q : Nat, x = q ∧ y = (m : Int) ∧ j ≤ q ∧ q < nW (gS G) ∧ cCat G k m q ∧ ∀ r, j ≤ r → r < q → ¬ cCat G k m r)
/-- what is caught ahead of minute m -/
def CtM (G : GST) (k m : Nat) (x y : Int) : Prop := (x = -1 ∧ y = -1 ∧ ∀ r, r < m → ∀ q, q < nW (gS G) → ¬ cCat G k r q) ∨ (∃ q p : Nat, x = q ∧ y = (p : Int) ∧ q < nW (gS G) ∧ cCat G k p q ∧ (∀ r, r < q → ¬ cCat G k p r) ∧ ∀ r, r < p → ∀ q, q < nW (gS G) → ¬ cCat G k r q)
theorem CtM.end2 {G : GST} {k q p : Nat} {x y : Int} (hw : nW (gS G) ≤ 8) (h1 : x = (q : Int)) (h2 : y = (p : Int)) (h3 : q < nW (gS G)) (h4 : cCat G k p q) (h5 : ∀ r, r < q → ¬ cCat G k p r) (h6 : ∀ r, r < p → ∀ q, q < nW (gS G) → ¬ cCat G k r q) : x = (if cFst G k < 8 * gn G then ((cFst G k % 8 : Nat) : Int) else -1) ∧ y = (if cFst G k < 8 * gn G then ((cFst G k / 8 : Nat) : Int) else -1) := by
  have hp : p < gn G := h4.1.2.2
  have h7 : cFst G k = 8 * p + q := lst_eq (decide_eq_true (by
      rw [show (8 * p + q) / 8 = p by omega, show (8 * p + q) % 8 = q by omega]
      exact ⟨h3, h4⟩)) (fun j hj => decide_eq_false (fun hc => by
      by_cases hjp : j / 8 < p
      · exact h6 _ hjp _ hc.1 hc.2
      · have h8 : j / 8 = p := by omega
        rw [h8] at hc
        exact h5 _ (by omega) hc.2)) (by omega)
  rw [h7, if_pos (by omega), if_pos (by omega), h1, h2]
  exact ⟨by omega, by omega⟩
theorem CtM.end {G : GST} {k m : Nat} {x y : Int} (hw : nW (gS G) ≤ 8) (h : CtM G k m x y) (hm : ∀ r q, m ≤ r → ¬ cCat G k r q) : x = (if cFst G k < 8 * gn G then ((cFst G k % 8 : Nat) : Int) else -1) ∧ y = (if cFst G k < 8 * gn G then ((cFst G k / 8 : Nat) : Int) else -1) := by
  rcases h with ⟨h1, h2, h3⟩ | ⟨q, p, h1, h2, h3, h4, h5, h6⟩
  · have h7 : cFst G k = 8 * gn G := lst_no (fun j hj => decide_eq_false (fun hc => by
      by_cases hjm : j / 8 < m
      · exact h3 _ hjm _ hc.1 hc.2
      · exact hm _ _ (by omega) hc.2))
    rw [if_neg (by omega), if_neg (by omega)]
    exact ⟨h1, h2⟩
  · have hp : p < gn G := h4.1.2.2
    have h7 : cFst G k = 8 * p + q := lst_eq (decide_eq_true (by
      rw [show (8 * p + q) / 8 = p by omega, show (8 * p + q) % 8 = q by omega]
      exact ⟨h3, h4⟩)) (fun j hj => decide_eq_false (fun hc => by
      by_cases hjp : j / 8 < p
      · exact h6 _ hjp _ hc.1 hc.2
      · have h8 : j / 8 = p := by omega
        rw [h8] at hc
        exact h5 _ (by omega) hc.2)) (by omega)
    rw [h7, if_pos (by omega), if_pos (by omega), h1, h2]
    exact ⟨by omega, by omega⟩
theorem CtQ.sk {G : GST} {k m q : Nat} {x y : Int} (h : CtQ G k m (q + 1) x y) (hn : ¬ cCat G k m q) : CtQ G k m q x y := by
  rcases h with ⟨h1, h2, h3⟩ | ⟨r, h1, h2, h3, h4, h5, h6⟩
  · refine Or.inl ⟨h1, h2, fun r hr hw => ?_⟩
    by_cases e : r = q
    · rw [e]
      exact hn
    · exact h3 r (by omega) hw
  · refine Or.inr ⟨r, h1, h2, by omega, h4, h5, fun s hs hr => ?_⟩
    by_cases e : s = q
    · rw [e]
      exact hn
    · exact h6 s (by omega) hr
theorem CtQ.hit {G : GST} {k m q : Nat} (hq : q < nW (gS G)) (hc : cCat G k m q) : CtQ G k m q (q : Int) (m : Int) := Or.inr ⟨q, rfl, rfl, Nat.le_refl _, hq, hc, fun s h1 h2 => absurd h1 (by omega)⟩
theorem CtQ.ct {G : GST} {k m : Nat} {x y : Int} (h0 : ∀ r, r < m → ∀ q, q < nW (gS G) → ¬ cCat G k r q) (h : CtQ G k m 0 x y) : CtM G k (m + 1) x y := by
  rcases h with ⟨h1, h2, h3⟩ | ⟨r, h1, h2, h3, h4, h5, h6⟩
  · refine Or.inl ⟨h1, h2, fun r hr q hq => ?_⟩
    by_cases e : r = m
    · rw [e]
      exact h3 q (by omega) hq
    · exact h0 r (by omega) q hq
  · exact Or.inr ⟨r, m, h1, h2, h4, h5, fun s hs => h6 s (by omega) hs, h0⟩
theorem m_cat_q {X : List Int} {d : Nat} {st dr rd : Int} {a s b : C3} {G : GST} (kc : Nat) (hkc : kc < nC (gS G)) (hn1 : 0 < gn G) {kv : Int} {bk0 : Nat} (hkv : kv = 12 * (bk0 : Int) + (kc : Int)) (m w : Nat) (hw : (gS G).1 7 kc = (w : Int)) (hcm : cMin G kc m) {Q : Option pm_V → pm_H → Prop} (K : ∀ (b2 : C3) (x y z : Int), TopM G b2 → b2 166 12 = (bk0 : Int) → b2 166 74 = x → b2 166 75 = y → CtQ G kc m 0 x y → Ev X (d + 2) 254 144 [Vr 166, Vi (kc : Int), Vi kv, Vi (w : Int), Vi (m : Int), Vi z] [] (SHv st dr rd, ovl a s b2) Q) (j : Nat) (x y : Int) (hj : j ≤ nW (gS G)) (hT : TopM G b) (h12 : b 166 12 = (bk0 : Int)) (c1 : b 166 74 = x) (c2 : b 166 75 = y) (hQ : CtQ G kc m j x y) : Ev X (d + 2) 254 66 [Vr 166, Vi (kc : Int), Vi kv, Vi (w : Int), Vi (m : Int), Vi ((j : Int) - 1)] [] (SHv st dr rd, ovl a s b) (Q) := by
  induction hk : (j + 0) using Nat.strongRecOn generalizing j x y b with
  | ind k ih =>
    obtain ⟨bk, hY_b, hWY, hB1, hWB, hWE, hn180, hEQ, hTp, hfk, hfp, hO⟩ := id hT
    obtain ⟨hb2_b, h12_b, h168_b, h169_b, h170_b, h171_b, h173_b, h172_b, h174_b, h176_b, h178_b, h175_b, h177_b, h179_b, h180_b, h184_b⟩ := id hY_b
    obtain ⟨wR, wD, wW, wT, wL, wC, wdoor, wsym, wWI, wTI, wCl, wRu⟩ := id hWY
    obtain ⟨w8, wWc⟩ := wW
    obtain ⟨t8, wTc⟩ := wT
    obtain ⟨r8, wRc⟩ := wR
    obtain ⟨l30, wLc⟩ := wL
    obtain ⟨c12, wCc⟩ := wC
    obtain ⟨e202, e203, e204, e211, e210, eHis, e212⟩ := id hEQ
    obtain ⟨g7, g8, g9, g10⟩ := h180_b kc hkc
    obtain ⟨q7, q8, q9⟩ := wCl kc hkc
    obtain rfl : bk0 = bk := by omega
    have hib : kv.toNat = 12 * bk0 + kc := by omega
    have hrow := hT.row
    have hmn : m < gn G := hcm.2.2
    have hwt : ((gS G).1 7 kc).toNat = w := by rw [hw, Int.toNat_natCast]
    refine Ev.ite (P := ((j : Int) - 1) < 0) (k := 2) (a := 144) (b := 71) (L' := [Vr 166, Vi (kc : Int), Vi kv, Vi (w : Int), Vi (m : Int), Vi ((j : Int) - 1)]) (S' := []) (h' := ((SHv st dr rd), (ovl a s b))) (fun _ => rfl) (fun b68 => ?_) (fun b68 => ?_)
    · obtain rfl : j = 0 := by omega
      exact K b x y _ hT h12 c1 c2 hQ
    · obtain ⟨q, rfl⟩ : ∃ q, j = q + 1 := ⟨j - 1, by omega⟩
      rw [show ((q + 1 : Nat) : Int) - 1 = (q : Int) by omega]
      refine Ev.ite (P := (q : Int) = (w : Int)) (k := 3) (a := 138) (b := 77) (L' := [Vr 166, Vi (kc : Int), Vi kv, Vi (w : Int), Vi (m : Int), Vi (q : Int)]) (S' := []) (h' := ((SHv st dr rd), (ovl a s b))) (fun _ => rfl) (fun b74 => ?_) (fun b74 => ?_)
      · refine Ev.steps (k := 1) (pc' := 141) (L' := [Vr 166, Vi (kc : Int), Vi kv, Vi (w : Int), Vi (m : Int), Vi (w32 ((q : Int) + (-1)))]) (S' := []) (h' := ((SHv st dr rd), (ovl a s b))) (fun _ => rfl) ?_
        rw [show (w32 ((q : Int) + (-1))) = ((q : Int) + (-1)) from w32_id (by unfold R32; omega)]
        refine Ev.steps (k := 1) (pc' := 66) (L' := [Vr 166, Vi (kc : Int), Vi kv, Vi (w : Int), Vi (m : Int), Vi ((q : Int) + (-1))]) (S' := []) (h' := ((SHv st dr rd), (ovl a s b))) (fun _ => rfl) ?_
        have hcat : ¬ cCat G kc m q := by
          rintro ⟨-, h2, h3, h4⟩
          rw [hwt] at h2 h4
          first
            | (have e : q = w := by omega
               subst e
               exact h4 (by unfold seeS; rw [if_pos (Or.inl rfl)]))
            | exact h3 (by have h1 := c81.2; rw [Int.toNat_natCast] at h1; exact h1)
            | exact h4 b97
            | omega
        exact ih q (by omega) (b := b) q _ _ (by omega) hT h12 c1 c2 (hQ.sk hcat) rfl
      · refine Ev.call (k := 3) (pc1 := 81) (L1 := [Vr 166, Vi (kc : Int), Vi kv, Vi (w : Int), Vi (m : Int), Vi (q : Int)]) (S1 := [Vi (q : Int), Vi 0, Vr 166]) (h1 := ((SHv st dr rd), (ovl a s b))) (m' := 237) (as := [Vr 166, Vi 0, Vi (q : Int)]) (S' := []) (L0 := [Vr 166, Vi 0, Vi (q : Int)]) (fun _ => rfl) rfl rfl rfl rfl rfl rfl (g_isDead (q : Int) hT (by omega)) (fun r h' hq => ?_)
        obtain ⟨rfl, rfl⟩ := hq
        by_cases c81 : 0 < gn G ∧ gA G (gn G) 1 (q : Int).toNat = 0
        · rw [if_pos c81]
          show Ev X _ _ 84 [Vr 166, Vi (kc : Int), Vi kv, Vi (w : Int), Vi (m : Int), Vi (q : Int)] [Vi 1] ((SHv st dr rd), (ovl a s b)) _
          refine Ev.steps (k := 2) (pc' := 141) (L' := [Vr 166, Vi (kc : Int), Vi kv, Vi (w : Int), Vi (m : Int), Vi (w32 ((q : Int) + (-1)))]) (S' := []) (h' := ((SHv st dr rd), (ovl a s b))) (fun _ => rfl) ?_
          rw [show (w32 ((q : Int) + (-1))) = ((q : Int) + (-1)) from w32_id (by unfold R32; omega)]
          refine Ev.steps (k := 1) (pc' := 66) (L' := [Vr 166, Vi (kc : Int), Vi kv, Vi (w : Int), Vi (m : Int), Vi ((q : Int) + (-1))]) (S' := []) (h' := ((SHv st dr rd), (ovl a s b))) (fun _ => rfl) ?_
          have hcat : ¬ cCat G kc m q := by
            rintro ⟨-, h2, h3, h4⟩
            rw [hwt] at h2 h4
            first
              | (have e : q = w := by omega
                 subst e
                 exact h4 (by unfold seeS; rw [if_pos (Or.inl rfl)]))
              | exact h3 (by have h1 := c81.2; rw [Int.toNat_natCast] at h1; exact h1)
              | exact h4 b97
              | omega
          exact ih q (by omega) (b := b) q _ _ (by omega) hT h12 c1 c2 (hQ.sk hcat) rfl
        · rw [if_neg c81]
          show Ev X _ _ 84 [Vr 166, Vi (kc : Int), Vi kv, Vi (w : Int), Vi (m : Int), Vi (q : Int)] [Vi 0] ((SHv st dr rd), (ovl a s b)) _
          refine Ev.call (k := 6) (pc1 := 94) (L1 := [Vr 166, Vi (kc : Int), Vi kv, Vi (w : Int), Vi (m : Int), Vi (q : Int)]) (S1 := [Vi (m : Int), Vi (w : Int), Vi (q : Int), Vi 0, Vr 166]) (h1 := ((SHv st dr rd), (ovl a s b))) (m' := 223) (as := [Vr 166, Vi 0, Vi (q : Int), Vi (w : Int), Vi (m : Int)]) (S' := []) (L0 := [Vr 166, Vi 0, Vi (q : Int), Vi (w : Int), Vi (m : Int), Vx]) (fun _ => rfl) rfl rfl rfl rfl rfl rfl (m_seesN 0 m q w (gA G (m + 1)) (by omega) (by omega) (by omega) (by omega) (hrow m hmn q (by omega)).1 (hrow m hmn w (by omega)).1 (hrow m hmn q (by omega)).2 (hrow m hmn w (by omega)).2) (fun r h' hq => ?_)
          obtain ⟨rfl, rfl⟩ := hq
          show Ev X _ _ 97 [Vr 166, Vi (kc : Int), Vi kv, Vi (w : Int), Vi (m : Int), Vi (q : Int)] [Vi (seeS (gA G (m + 1)) q w)] ((SHv st dr rd), (ovl a s b)) _
          refine Ev.ite (P := (seeS (gA G (m + 1)) q w) = 0) (k := 1) (a := 138) (b := 100) (L' := [Vr 166, Vi (kc : Int), Vi kv, Vi (w : Int), Vi (m : Int), Vi (q : Int)]) (S' := []) (h' := ((SHv st dr rd), (ovl a s b))) (fun _ => rfl) (fun b97 => ?_) (fun b97 => ?_)
          · have hs0 : seeS (gA G (m + 1)) q w = 0 := b97
            refine Ev.steps (k := 1) (pc' := 141) (L' := [Vr 166, Vi (kc : Int), Vi kv, Vi (w : Int), Vi (m : Int), Vi (w32 ((q : Int) + (-1)))]) (S' := []) (h' := ((SHv st dr rd), (ovl a s b))) (fun _ => rfl) ?_
            rw [show (w32 ((q : Int) + (-1))) = ((q : Int) + (-1)) from w32_id (by unfold R32; omega)]
            refine Ev.steps (k := 1) (pc' := 66) (L' := [Vr 166, Vi (kc : Int), Vi kv, Vi (w : Int), Vi (m : Int), Vi ((q : Int) + (-1))]) (S' := []) (h' := ((SHv st dr rd), (ovl a s b))) (fun _ => rfl) ?_
            have hcat : ¬ cCat G kc m q := by
              rintro ⟨-, h2, h3, h4⟩
              rw [hwt] at h2 h4
              first
                | (have e : q = w := by omega
                   subst e
                   exact h4 (by unfold seeS; rw [if_pos (Or.inl rfl)]))
                | exact h3 (by have h1 := c81.2; rw [Int.toNat_natCast] at h1; exact h1)
                | exact h4 b97
                | omega
            exact ih q (by omega) (b := b) q _ _ (by omega) hT h12 c1 c2 (hQ.sk hcat) rfl
          · refine Ev.call (k := 5) (pc1 := 108) (L1 := [Vr 166, Vi (kc : Int), Vi kv, Vi (w : Int), Vi (m : Int), Vi (q : Int)]) (S1 := [Vi (m : Int), Vi 0, Vr 166, Vr 205]) (h1 := ((SHv st dr rd), (ovl a s b))) (m' := 206) (as := [Vr 166, Vi 0, Vi (m : Int)]) (S' := [Vr 205]) (L0 := [Vr 166, Vi 0, Vi (m : Int)]) (fun _ => rfl) rfl rfl rfl rfl rfl rfl (m_at 0 (m : Int) (by omega) (by omega)) (fun r h' hq => ?_)
            obtain ⟨rfl, rfl⟩ := hq
            show Ev X _ _ 111 [Vr 166, Vi (kc : Int), Vi kv, Vi (w : Int), Vi (m : Int), Vi (q : Int)] [Vi ((1440 * 0) + (8 * (m : Int))), Vr 205] ((SHv st dr rd), (ovl a s b)) _
            refine Ev.steps (k := 2) (pc' := 113) (L' := [Vr 166, Vi (kc : Int), Vi kv, Vi (w : Int), Vi (m : Int), Vi (q : Int)]) (S' := [Vi (w32 (((1440 * 0) + (8 * (m : Int))) + (w : Int))), Vr 205]) (h' := ((SHv st dr rd), (ovl a s b))) (fun _ => rfl) ?_
            rw [show (w32 (((1440 * 0) + (8 * (m : Int))) + (w : Int))) = (((1440 * 0) + (8 * (m : Int))) + (w : Int)) from w32_id (by unfold R32; omega)]
            refine Ev.iald (v := (gA G (m + 1) 0 w)) rfl (by decide) rfl (by omega) (by omega) ((hrow m hmn w (by omega)).1) ?_
            refine Ev.steps (k := 3) (pc' := 119) (L' := [Vr 166, Vi (kc : Int), Vi kv, Vi (w : Int), Vi (m : Int), Vi (q : Int)]) (S' := [Vi kv, Vr 181, Vi (gA G (m + 1) 0 w)]) (h' := ((SHv st dr rd), (ovl a s b))) (fun _ => rfl) ?_
            refine Ev.iald (v := ((gS G).1 8 kc)) rfl (by decide) rfl (by omega) (by omega) ((show (b 181 (kv).toNat) = _ by rw [hib]; exact g8)) ?_
            refine Ev.ite (P := (gA G (m + 1) 0 w) ≠ ((gS G).1 8 kc)) (k := 1) (a := 126) (b := 123) (L' := [Vr 166, Vi (kc : Int), Vi kv, Vi (w : Int), Vi (m : Int), Vi (q : Int)]) (S' := []) (h' := ((SHv st dr rd), (ovl a s b))) (fun _ => rfl) (fun b120 => ?_) (fun b120 => ?_)
            · refine Ev.steps (k := 2) (pc' := 129) (L' := [Vr 166, Vi (kc : Int), Vi kv, Vi (w : Int), Vi (m : Int), Vi (q : Int)]) (S' := [Vi (q : Int), Vr 166]) (h' := ((SHv st dr rd), (ovl a s b))) (fun _ => rfl) ?_
              refine Ev.putf (c' := (ovl a s (updC b 166 74 (q : Int)))) rfl (by decide) rfl rfl rfl (ovl_wm (by decide)) ?_
              refine Ev.steps (k := 2) (pc' := 135) (L' := [Vr 166, Vi (kc : Int), Vi kv, Vi (w : Int), Vi (m : Int), Vi (q : Int)]) (S' := [Vi (m : Int), Vr 166]) (h' := ((SHv st dr rd), (ovl a s (updC b 166 74 (q : Int))))) (fun _ => rfl) ?_
              refine Ev.putf (c' := (ovl a s (updC (updC b 166 74 (q : Int)) 166 75 (m : Int)))) rfl (by decide) rfl rfl rfl (ovl_wm (by decide)) ?_
              refine Ev.steps (k := 1) (pc' := 141) (L' := [Vr 166, Vi (kc : Int), Vi kv, Vi (w : Int), Vi (m : Int), Vi (w32 ((q : Int) + (-1)))]) (S' := []) (h' := ((SHv st dr rd), (ovl a s (updC (updC b 166 74 (q : Int)) 166 75 (m : Int))))) (fun _ => rfl) ?_
              rw [show (w32 ((q : Int) + (-1))) = ((q : Int) + (-1)) from w32_id (by unfold R32; omega)]
              refine Ev.steps (k := 1) (pc' := 66) (L' := [Vr 166, Vi (kc : Int), Vi kv, Vi (w : Int), Vi (m : Int), Vi ((q : Int) + (-1))]) (S' := []) (h' := ((SHv st dr rd), (ovl a s (updC (updC b 166 74 (q : Int)) 166 75 (m : Int))))) (fun _ => rfl) ?_
              have hcat : cCat G kc m q := ⟨hcm, by rw [hwt]; exact b120, by have h1 := c81; rw [Int.toNat_natCast] at h1; exact fun h => h1 ⟨hn1, h⟩, by rw [hwt]; exact b97⟩
              exact ih q (by omega) (b := (updC (updC b 166 74 (q : Int)) 166 75 (m : Int))) q _ _ (by omega) ((hT.f1 (i := 74) (by omega)).f1 (i := 75) (by omega)) h12 (by rw [updC_nt (by omega), updC_sm]) updC_sm (CtQ.hit (by omega) hcat) rfl
            · refine Ev.steps (k := 2) (pc' := 141) (L' := [Vr 166, Vi (kc : Int), Vi kv, Vi (w : Int), Vi (m : Int), Vi (w32 ((q : Int) + (-1)))]) (S' := []) (h' := ((SHv st dr rd), (ovl a s b))) (fun _ => rfl) ?_
              rw [show (w32 ((q : Int) + (-1))) = ((q : Int) + (-1)) from w32_id (by unfold R32; omega)]
              refine Ev.steps (k := 1) (pc' := 66) (L' := [Vr 166, Vi (kc : Int), Vi kv, Vi (w : Int), Vi (m : Int), Vi ((q : Int) + (-1))]) (S' := []) (h' := ((SHv st dr rd), (ovl a s b))) (fun _ => rfl) ?_
              have hcat : ¬ cCat G kc m q := by
                rintro ⟨-, h2, h3, h4⟩
                rw [hwt] at h2 h4
                first
                  | (have e : q = w := by omega
                     subst e
                     exact h4 (by unfold seeS; rw [if_pos (Or.inl rfl)]))
                  | exact h3 (by have h1 := c81.2; rw [Int.toNat_natCast] at h1; exact h1)
                  | exact h4 b97
                  | omega
              exact ih q (by omega) (b := b) q _ _ (by omega) hT h12 c1 c2 (hQ.sk hcat) rfl
theorem m_cat_m {X : List Int} {d : Nat} {st dr rd : Int} {a s b : C3} {G : GST} (kc : Nat) (hkc : kc < nC (gS G)) (hn1 : 0 < gn G) {kv : Int} {bk0 : Nat} (hkv : kv = 12 * (bk0 : Int) + (kc : Int)) (w : Nat) (hw : (gS G).1 7 kc = (w : Int)) (m : Nat) (x y : Int) (z : pm_V) (hm : (gS G).1 9 kc ≤ m) (hT : TopM G b) (h12 : b 166 12 = (bk0 : Int)) (c1 : b 166 74 = x) (c2 : b 166 75 = y) (hQ : CtM G kc m x y) : Ev X (d + 2) 254 35 [Vr 166, Vi (kc : Int), Vi kv, Vi (w : Int), Vi (m : Int), z] [] (SHv st dr rd, ovl a s b) (fun rr hh => rr = none ∧ ∃ b' : C3, hh = (SHv st dr rd, ovl a s b') ∧ TopM G b' ∧ b' 166 74 = (if cFst G kc < 8 * gn G then ((cFst G kc % 8 : Nat) : Int) else -1) ∧ b' 166 75 = (if cFst G kc < 8 * gn G then ((cFst G kc / 8 : Nat) : Int) else -1)) := by
  induction hk : (gn G - m) using Nat.strongRecOn generalizing m x y z b with
  | ind k ih =>
    obtain ⟨bk, hY_b, hWY, hB1, hWB, hWE, hn180, hEQ, hTp, hfk, hfp, hO⟩ := id hT
    obtain ⟨hb2_b, h12_b, h168_b, h169_b, h170_b, h171_b, h173_b, h172_b, h174_b, h176_b, h178_b, h175_b, h177_b, h179_b, h180_b, h184_b⟩ := id hY_b
    obtain ⟨wR, wD, wW, wT, wL, wC, wdoor, wsym, wWI, wTI, wCl, wRu⟩ := id hWY
    obtain ⟨w8, wWc⟩ := wW
    obtain ⟨t8, wTc⟩ := wT
    obtain ⟨r8, wRc⟩ := wR
    obtain ⟨l30, wLc⟩ := wL
    obtain ⟨c12, wCc⟩ := wC
    obtain ⟨e202, e203, e204, e211, e210, eHis, e212⟩ := id hEQ
    obtain ⟨g7, g8, g9, g10⟩ := h180_b kc hkc
    obtain ⟨q7, q8, q9⟩ := wCl kc hkc
    obtain rfl : bk0 = bk := by omega
    have hib : kv.toNat = 12 * bk0 + kc := by omega
    have hrow := hT.row
    refine Ev.call (k := 3) (pc1 := 39) (L1 := [Vr 166, Vi (kc : Int), Vi kv, Vi (w : Int), Vi (m : Int), z]) (S1 := [Vi (kc : Int), Vr 166, Vi (m : Int)]) (h1 := ((SHv st dr rd), (ovl a s b))) (m' := 253) (as := [Vr 166, Vi (kc : Int)]) (S' := [Vi (m : Int)]) (L0 := [Vr 166, Vi (kc : Int), Vx]) (fun _ => rfl) rfl rfl rfl rfl rfl rfl (m_claimLast hT kc hkc hn1) (fun r h' hq => ?_)
    obtain ⟨rfl, rfl⟩ := hq
    show Ev X _ _ 42 [Vr 166, Vi (kc : Int), Vi kv, Vi (w : Int), Vi (m : Int), z] [Vi (if (gS G).1 10 kc < ((gn G : Nat) : Int) then (gS G).1 10 kc else ((gn G : Nat) : Int) - 1), Vi (m : Int)] ((SHv st dr rd), (ovl a s b)) _
    refine Ev.ite (P := (if (gS G).1 10 kc < ((gn G : Nat) : Int) then (gS G).1 10 kc else ((gn G : Nat) : Int) - 1) < (m : Int)) (k := 1) (a := 150) (b := 45) (L' := [Vr 166, Vi (kc : Int), Vi kv, Vi (w : Int), Vi (m : Int), z]) (S' := []) (h' := ((SHv st dr rd), (ovl a s b))) (fun _ => rfl) (fun b42 => ?_) (fun b42 => ?_)
    · have hmL : ¬ ((m : Int) ≤ (gS G).1 10 kc ∧ m < gn G) := by split at b42 <;> omega
      refine Ev.fin (k := 1) (r := none) (h' := ((SHv st dr rd), (ovl a s b))) (fun _ => rfl) ?_
      rcases hQ with ⟨h1, h2, h3⟩ | ⟨q, p, h1, h2, h3, h4, h5, h6⟩
      · first
          | (exfalso; omega)
          | (have he := CtM.end w8 (m := m) (Or.inl ⟨h1, h2, h3⟩) (fun r q hr hc => hmL ⟨by have g1 := hc.1.2.1; omega, by have g1 := hc.1.2.2; omega⟩)
             exact ⟨rfl, b, rfl, hT, by rw [c1]; exact he.1, by rw [c2]; exact he.2⟩)
      · have he := CtM.end2 w8 h1 h2 h3 h4 h5 h6
        exact ⟨rfl, b, rfl, hT, by rw [c1]; exact he.1, by rw [c2]; exact he.2⟩
    · have hmL : (m : Int) ≤ (gS G).1 10 kc ∧ m < gn G := by split at b42 <;> omega
      refine Ev.steps (k := 2) (pc' := 49) (L' := [Vr 166, Vi (kc : Int), Vi kv, Vi (w : Int), Vi (m : Int), z]) (S' := [Vi (b 166 74)]) (h' := ((SHv st dr rd), (ovl a s b))) (fun _ => rfl) ?_
      rw [c1]
      refine Ev.ite (P := x ≠ (-1)) (k := 2) (a := 150) (b := 53) (L' := [Vr 166, Vi (kc : Int), Vi kv, Vi (w : Int), Vi (m : Int), z]) (S' := []) (h' := ((SHv st dr rd), (ovl a s b))) (fun _ => rfl) (fun b50 => ?_) (fun b50 => ?_)
      · refine Ev.fin (k := 1) (r := none) (h' := ((SHv st dr rd), (ovl a s b))) (fun _ => rfl) ?_
        rcases hQ with ⟨h1, h2, h3⟩ | ⟨q, p, h1, h2, h3, h4, h5, h6⟩
        · first
            | (exfalso; omega)
            | (have he := CtM.end w8 (m := m) (Or.inl ⟨h1, h2, h3⟩) (fun r q hr hc => hmL ⟨by have g1 := hc.1.2.1; omega, by have g1 := hc.1.2.2; omega⟩)
               exact ⟨rfl, b, rfl, hT, by rw [c1]; exact he.1, by rw [c2]; exact he.2⟩)
        · have he := CtM.end2 w8 h1 h2 h3 h4 h5 h6
          exact ⟨rfl, b, rfl, hT, by rw [c1]; exact he.1, by rw [c2]; exact he.2⟩
      · refine Ev.steps (k := 4) (pc' := 61) (L' := [Vr 166, Vi (kc : Int), Vi kv, Vi (w : Int), Vi (m : Int), z]) (S' := [Vi (b 166 12), Vr 170]) (h' := ((SHv st dr rd), (ovl a s b))) (fun _ => rfl) ?_
        rw [h12_b]
        refine Ev.iald (v := ((nW (gS G) : Nat) : Int)) rfl (by decide) rfl (by omega) (by omega) (h170_b) ?_
        refine Ev.steps (k := 2) (pc' := 64) (L' := [Vr 166, Vi (kc : Int), Vi kv, Vi (w : Int), Vi (m : Int), z]) (S' := [Vi (w32 (((nW (gS G) : Nat) : Int) - 1))]) (h' := ((SHv st dr rd), (ovl a s b))) (fun _ => rfl) ?_
        rw [show (w32 (((nW (gS G) : Nat) : Int) - 1)) = (((nW (gS G) : Nat) : Int) - 1) from w32_id (by unfold R32; omega)]
        refine Ev.steps (k := 1) (pc' := 66) (L' := [Vr 166, Vi (kc : Int), Vi kv, Vi (w : Int), Vi (m : Int), Vi (((nW (gS G) : Nat) : Int) - 1)]) (S' := []) (h' := ((SHv st dr rd), (ovl a s b))) (fun _ => rfl) ?_
        have h0 : ∀ r, r < m → ∀ q, q < nW (gS G) → ¬ cCat G kc r q := by
          rcases hQ with ⟨-, -, h3⟩ | ⟨q, p, h1, -⟩
          · exact h3
          · omega
        have hy : y = -1 := by
          rcases hQ with ⟨-, h2, -⟩ | ⟨q, p, h1, -⟩
          · exact h2
          · omega
        refine m_cat_q kc hkc hn1 hkv m w hw ⟨hm, hmL.1, hmL.2⟩ (fun b2 x2 y2 z2 hT2 h122 c12 c22 hQ2 => ?_) (nW (gS G)) x y (Nat.le_refl _) hT h12 c1 c2 (Or.inl ⟨by omega, hy, fun q h1 h2 => absurd h1 (by omega)⟩)
        refine Ev.steps (k := 2) (pc' := 35) (L' := [Vr 166, Vi (kc : Int), Vi kv, Vi (w : Int), Vi ((m : Int) + 1), Vi z2]) (S' := []) (h' := (SHv st dr rd, ovl a s b2)) (fun _ => ?_) (ih _ (by omega) (b := b2) (m + 1) x2 y2 _ (by omega) hT2 h122 c12 c22 (hQ2.ct h0) rfl)
        show some (35, [Vr 166, Vi (kc : Int), Vi kv, Vi (w : Int), Vi (w32 ((m : Int) + 1)), Vi z2], [], _) = _
        rw [show w32 ((m : Int) + 1) = (m : Int) + 1 from w32_id (by unfold R32; omega)]
theorem m_catches {X : List Int} {d : Nat} {st dr rd : Int} {a s b : C3} {G : GST} (hT : TopM G b) (kc : Nat) (hkc : kc < nC (gS G)) (hn1 : 0 < gn G) : Ev X (d + 2) 254 0 [Vr 166, Vi (kc : Int), Vx, Vx, Vx, Vx] [] (SHv st dr rd, ovl a s b) (fun rr hh => rr = none ∧ ∃ b' : C3, hh = (SHv st dr rd, ovl a s b') ∧ TopM G b' ∧ b' 166 74 = (if cFst G kc < 8 * gn G then ((cFst G kc % 8 : Nat) : Int) else -1) ∧ b' 166 75 = (if cFst G kc < 8 * gn G then ((cFst G kc / 8 : Nat) : Int) else -1)) := by
  obtain ⟨bk, hY_b, hWY, hB1, hWB, hWE, hn180, hEQ, hTp, hfk, hfp, hO⟩ := id hT
  obtain ⟨hb2_b, h12_b, h168_b, h169_b, h170_b, h171_b, h173_b, h172_b, h174_b, h176_b, h178_b, h175_b, h177_b, h179_b, h180_b, h184_b⟩ := id hY_b
  obtain ⟨wR, wD, wW, wT, wL, wC, wdoor, wsym, wWI, wTI, wCl, wRu⟩ := id hWY
  obtain ⟨w8, wWc⟩ := wW
  obtain ⟨t8, wTc⟩ := wT
  obtain ⟨r8, wRc⟩ := wR
  obtain ⟨l30, wLc⟩ := wL
  obtain ⟨c12, wCc⟩ := wC
  obtain ⟨e202, e203, e204, e211, e210, eHis, e212⟩ := id hEQ
  obtain ⟨g7, g8, g9, g10⟩ := h180_b kc hkc
  obtain ⟨q7, q8, q9⟩ := wCl kc hkc
  obtain ⟨f, hf⟩ : ∃ f : Nat, (gS G).1 9 kc = f := ⟨((gS G).1 9 kc).toNat, by omega⟩
  obtain ⟨w, hw⟩ : ∃ w : Nat, (gS G).1 7 kc = w := ⟨((gS G).1 7 kc).toNat, by omega⟩
  refine Ev.steps (k := 3) (pc' := 6) (L' := [Vr 166, Vi (kc : Int), Vx, Vx, Vx, Vx]) (S' := [Vi (b 166 12), Vi 12]) (h' := ((SHv st dr rd), (ovl a s b))) (fun _ => rfl) ?_
  rw [h12_b]
  refine Ev.steps (k := 1) (pc' := 7) (L' := [Vr 166, Vi (kc : Int), Vx, Vx, Vx, Vx]) (S' := [Vi (w32 (12 * (bk : Int)))]) (h' := ((SHv st dr rd), (ovl a s b))) (fun _ => rfl) ?_
  rw [show (w32 (12 * (bk : Int))) = (12 * (bk : Int)) from w32_id (by unfold R32; omega)]
  refine Ev.steps (k := 2) (pc' := 9) (L' := [Vr 166, Vi (kc : Int), Vx, Vx, Vx, Vx]) (S' := [Vi (w32 ((12 * (bk : Int)) + (kc : Int)))]) (h' := ((SHv st dr rd), (ovl a s b))) (fun _ => rfl) ?_
  rw [show (w32 ((12 * (bk : Int)) + (kc : Int))) = ((12 * (bk : Int)) + (kc : Int)) from w32_id (by unfold R32; omega)]
  refine Ev.steps (k := 4) (pc' := 15) (L' := [Vr 166, Vi (kc : Int), Vi ((12 * (bk : Int)) + (kc : Int)), Vx, Vx, Vx]) (S' := [Vi ((12 * (bk : Int)) + (kc : Int)), Vr 180]) (h' := ((SHv st dr rd), (ovl a s b))) (fun _ => rfl) ?_
  refine Ev.iald (v := (w : Int)) rfl (by decide) rfl (by omega) (by omega) ((show (b 180 ((12 * bk + kc))) = (w : Int) by rw [g7, hw])) ?_
  refine Ev.steps (k := 3) (pc' := 19) (L' := [Vr 166, Vi (kc : Int), Vi ((12 * (bk : Int)) + (kc : Int)), Vi (w : Int), Vx, Vx]) (S' := [Vi (-1), Vr 166]) (h' := ((SHv st dr rd), (ovl a s b))) (fun _ => rfl) ?_
  refine Ev.putf (c' := (ovl a s (updC b 166 74 (-1)))) rfl (by decide) rfl rfl rfl (ovl_wm (by decide)) ?_
  refine Ev.steps (k := 2) (pc' := 24) (L' := [Vr 166, Vi (kc : Int), Vi ((12 * (bk : Int)) + (kc : Int)), Vi (w : Int), Vx, Vx]) (S' := [Vi (-1), Vr 166]) (h' := ((SHv st dr rd), (ovl a s (updC b 166 74 (-1))))) (fun _ => rfl) ?_
  refine Ev.putf (c' := (ovl a s (updC (updC b 166 74 (-1)) 166 75 (-1)))) rfl (by decide) rfl rfl rfl (ovl_wm (by decide)) ?_
  refine Ev.steps (k := 3) (pc' := 32) (L' := [Vr 166, Vi (kc : Int), Vi ((12 * (bk : Int)) + (kc : Int)), Vi (w : Int), Vx, Vx]) (S' := [Vi ((12 * (bk : Int)) + (kc : Int)), Vr 182]) (h' := ((SHv st dr rd), (ovl a s (updC (updC b 166 74 (-1)) 166 75 (-1))))) (fun _ => rfl) ?_
  refine Ev.iald (v := (f : Int)) rfl (by decide) rfl (by omega) (by omega) ((show (b 182 ((12 * bk + kc))) = (f : Int) by rw [g9, hf])) ?_
  refine Ev.steps (k := 1) (pc' := 35) (L' := [Vr 166, Vi (kc : Int), Vi ((12 * (bk : Int)) + (kc : Int)), Vi (w : Int), Vi (f : Int), Vx]) (S' := []) (h' := ((SHv st dr rd), (ovl a s (updC (updC b 166 74 (-1)) 166 75 (-1))))) (fun _ => rfl) ?_
  exact m_cat_m kc hkc hn1 rfl w hw f (-1) (-1) _ (by omega) ((hT.f1 (i := 74) (by omega)).f1 (i := 75) (by omega)) h12_b (by rw [updC_nt (by omega), updC_sm]) updC_sm (Or.inl ⟨rfl, rfl, fun r hr q hq hc => by have g1 := hc.1.1; omega⟩)
theorem g_isClaim {X : List Int} {d : Nat} {st dr rd : Int} {a s b : C3} (x : Int) {G : GST} (hT : TopM G b) : Ev X (d + 1) 251 0 [Vr 166, Vi x] [] (SHv st dr rd, ovl a s b) (fun rr hh => rr = some (Vi (if okC G x ∧ 0 < gn G then 1 else 0)) ∧ hh = (SHv st dr rd, ovl a s b)) := by
  obtain ⟨bk, hY_b, hWY, hB1, hWB, hWE, hn180, hEQ, hTp, hfk, hfp, hO⟩ := id hT
  obtain ⟨hb2_b, h12_b, h168_b, h169_b, h170_b, h171_b, h173_b, h172_b, h174_b, h176_b, h178_b, h175_b, h177_b, h179_b, h180_b, h184_b⟩ := id hY_b
  obtain ⟨wR, wD, wW, wT, wL, wC, wdoor, wsym, wWI, wTI, wCl, wRu⟩ := id hWY
  obtain ⟨w8, wWc⟩ := wW
  obtain ⟨t8, wTc⟩ := wT
  obtain ⟨r8, wRc⟩ := wR
  obtain ⟨l30, wLc⟩ := wL
  obtain ⟨c12, wCc⟩ := wC
  obtain ⟨e202, e203, e204, e211, e210, eHis, e212⟩ := id hEQ
  refine Ev.steps (k := 6) (pc' := 10) (L' := [Vr 166, Vi x]) (S' := [Vi (b 166 12), Vr 172, Vi 0, Vi x]) (h' := ((SHv st dr rd), (ovl a s b))) (fun _ => rfl) ?_
  rw [h12_b]
  refine Ev.iald (v := ((nC (gS G) : Nat) : Int)) rfl (by decide) rfl (by omega) (by omega) (h172_b) ?_
  refine Ev.steps (k := 2) (pc' := 13) (L' := [Vr 166, Vi x]) (S' := [Vi (w32 (((nC (gS G) : Nat) : Int) - 1)), Vi 0, Vi x]) (h' := ((SHv st dr rd), (ovl a s b))) (fun _ => rfl) ?_
  rw [show (w32 (((nC (gS G) : Nat) : Int) - 1)) = (((nC (gS G) : Nat) : Int) - 1) from w32_id (by unfold R32; omega)]
  refine Ev.call (k := 0) (pc1 := 13) (L1 := [Vr 166, Vi x]) (S1 := [Vi (((nC (gS G) : Nat) : Int) - 1), Vi 0, Vi x]) (h1 := ((SHv st dr rd), (ovl a s b))) (m' := 189) (as := [Vi x, Vi 0, Vi (((nC (gS G) : Nat) : Int) - 1)]) (S' := []) (L0 := [Vi x, Vi 0, Vi (((nC (gS G) : Nat) : Int) - 1)]) (fun _ => rfl) rfl rfl rfl rfl rfl rfl (m_is x 0 ((((nC (gS G) : Nat) : Int) - 1))) (fun r h' hq => ?_)
  obtain ⟨rfl, rfl⟩ := hq
  rw [show (if 0 ≤ x ∧ x ≤ (((nC (gS G) : Nat) : Int) - 1) then (1 : Int) else 0) = if okC G x then 1 else 0 from ite_cg (by omega)]
  by_cases c13 : okC G x
  · rw [if_pos c13]
    show Ev X _ _ 16 [Vr 166, Vi x] [Vi 1] ((SHv st dr rd), (ovl a s b)) _
    refine Ev.steps (k := 5) (pc' := 25) (L' := [Vr 166, Vi x]) (S' := [Vi (b 202 0)]) (h' := ((SHv st dr rd), (ovl a s b))) (fun _ => rfl) ?_
    rw [e202]
    refine Ev.ite (P := ((gn G : Nat) : Int) ≤ 0) (k := 1) (a := 32) (b := 28) (L' := [Vr 166, Vi x]) (S' := []) (h' := ((SHv st dr rd), (ovl a s b))) (fun _ => rfl) (fun b25 => ?_) (fun b25 => ?_)
    · refine Ev.fin (k := 2) (r := (some (Vi 0))) (h' := ((SHv st dr rd), (ovl a s b))) (fun _ => rfl) ?_
      refine ⟨?_, rfl⟩
      first | rw [if_pos (by exact ⟨by assumption, by omega⟩)] | rw [if_neg (by exact fun h => absurd h.1 (by assumption))] | rw [if_neg (by exact fun h => by have := h.2; omega)]
    · refine Ev.fin (k := 3) (r := (some (Vi 1))) (h' := ((SHv st dr rd), (ovl a s b))) (fun _ => rfl) ?_
      refine ⟨?_, rfl⟩
      first | rw [if_pos (by exact ⟨by assumption, by omega⟩)] | rw [if_neg (by exact fun h => absurd h.1 (by assumption))] | rw [if_neg (by exact fun h => by have := h.2; omega)]
  · rw [if_neg c13]
    show Ev X _ _ 16 [Vr 166, Vi x] [Vi 0] ((SHv st dr rd), (ovl a s b)) _
    refine Ev.fin (k := 3) (r := (some (Vi 0))) (h' := ((SHv st dr rd), (ovl a s b))) (fun _ => rfl) ?_
    refine ⟨?_, rfl⟩
    first | rw [if_pos (by exact ⟨by assumption, by omega⟩)] | rw [if_neg (by exact fun h => absurd h.1 (by assumption))] | rw [if_neg (by exact fun h => by have := h.2; omega)]
theorem g_claim {X : List Int} {d : Nat} {st dr rd : Int} {a s b : C3} (x : Int) {G : GST} (hT : TopM G b) : Ev X (d + 3) 250 0 [Vr 166, Vi x] [] (SHv st dr rd, ovl a s b) (fun rr hh => rr = some (Vi (aClaim G x)) ∧ ∃ b' : C3, hh = (SHv st dr rd, ovl a s b') ∧ TopM G b') := by
  obtain ⟨bk, hY_b, hWY, hB1, hWB, hWE, hn180, hEQ, hTp, hfk, hfp, hO⟩ := id hT
  obtain ⟨hb2_b, h12_b, h168_b, h169_b, h170_b, h171_b, h173_b, h172_b, h174_b, h176_b, h178_b, h175_b, h177_b, h179_b, h180_b, h184_b⟩ := id hY_b
  obtain ⟨wR, wD, wW, wT, wL, wC, wdoor, wsym, wWI, wTI, wCl, wRu⟩ := id hWY
  obtain ⟨w8, wWc⟩ := wW
  obtain ⟨t8, wTc⟩ := wT
  obtain ⟨r8, wRc⟩ := wR
  obtain ⟨l30, wLc⟩ := wL
  obtain ⟨c12, wCc⟩ := wC
  obtain ⟨e202, e203, e204, e211, e210, eHis, e212⟩ := id hEQ
  refine Ev.call (k := 2) (pc1 := 2) (L1 := [Vr 166, Vi x]) (S1 := [Vi x, Vr 166]) (h1 := ((SHv st dr rd), (ovl a s b))) (m' := 251) (as := [Vr 166, Vi x]) (S' := []) (L0 := [Vr 166, Vi x]) (fun _ => rfl) rfl rfl rfl rfl rfl rfl (g_isClaim x hT) (fun r h' hq => ?_)
  obtain ⟨rfl, rfl⟩ := hq
  by_cases c2 : okC G x ∧ 0 < gn G
  · rw [if_pos c2]
    show Ev X _ _ 5 [Vr 166, Vi x] [Vi 1] ((SHv st dr rd), (ovl a s b)) _
    refine Ev.steps (k := 1) (pc' := 10) (L' := [Vr 166, Vi x]) (S' := []) (h' := ((SHv st dr rd), (ovl a s b))) (fun _ => rfl) ?_
    obtain ⟨k, hx⟩ : ∃ k : Nat, x = k := ⟨x.toNat, by have := c2.1; omega⟩
    subst hx
    have hkc : k < nC (gS G) := by have := c2.1; omega
    have hans : aClaim G (k : Int) = if cTrue G k then 0 else if cFst G k < 8 * gn G then 2 else 1 := by
      unfold aClaim
      rw [if_pos c2, Int.toNat_natCast]
    rw [hans]
    refine Ev.call (k := 2) (pc1 := 12) (L1 := [Vr 166, Vi (k : Int)]) (S1 := [Vi (k : Int), Vr 166]) (h1 := ((SHv st dr rd), (ovl a s b))) (m' := 252) (as := [Vr 166, Vi (k : Int)]) (S' := []) (L0 := [Vr 166, Vi (k : Int), Vx, Vx]) (fun _ => rfl) rfl rfl rfl rfl rfl rfl (m_isLie hT k hkc c2.2) (fun r h' hq => ?_)
    obtain ⟨rfl, rfl⟩ := hq
    show Ev X _ _ 15 [Vr 166, Vi (k : Int)] [Vi (if cTrue G k then 0 else 1)] ((SHv st dr rd), (ovl a s b)) _
    refine Ev.ite (P := (if cTrue G k then 0 else 1) ≠ 0) (k := 1) (a := 20) (b := 18) (L' := [Vr 166, Vi (k : Int)]) (S' := []) (h' := ((SHv st dr rd), (ovl a s b))) (fun _ => rfl) (fun b15 => ?_) (fun b15 => ?_)
    · refine Ev.call (k := 2) (pc1 := 22) (L1 := [Vr 166, Vi (k : Int)]) (S1 := [Vi (k : Int), Vr 166]) (h1 := ((SHv st dr rd), (ovl a s b))) (m' := 254) (as := [Vr 166, Vi (k : Int)]) (S' := []) (L0 := [Vr 166, Vi (k : Int), Vx, Vx, Vx, Vx]) (fun _ => rfl) rfl rfl rfl rfl rfl rfl (m_catches hT k hkc c2.2) (fun r h' hq => ?_)
      obtain ⟨rfl, b3, rfl, hT3, e74, e75⟩ := hq
      show Ev X _ _ 25 [Vr 166, Vi (k : Int)] [] ((SHv st dr rd), (ovl a s b3)) _
      refine Ev.steps (k := 2) (pc' := 29) (L' := [Vr 166, Vi (k : Int)]) (S' := [Vi (b3 166 74)]) (h' := ((SHv st dr rd), (ovl a s b3))) (fun _ => rfl) ?_
      rw [e74]
      refine Ev.ite (P := (if cFst G k < 8 * gn G then ((cFst G k % 8 : Nat) : Int) else -1) ≠ (-1)) (k := 2) (a := 37) (b := 33) (L' := [Vr 166, Vi (k : Int)]) (S' := []) (h' := ((SHv st dr rd), (ovl a s b3))) (fun _ => rfl) (fun b30 => ?_) (fun b30 => ?_)
      · refine Ev.fin (k := 2) (r := (some (Vi 2))) (h' := ((SHv st dr rd), (ovl a s b3))) (fun _ => rfl) ?_
        refine ⟨?_, b3, rfl, hT3⟩
        by_cases hc : cTrue G k
        · rw [if_pos hc] at b15
          omega
        · rw [if_neg hc]
          by_cases h2 : cFst G k < 8 * gn G
          · rw [if_pos h2] at b30
            first | (exfalso; omega) | rw [if_pos h2]
          · rw [if_neg h2] at b30
            first | (exfalso; omega) | rw [if_neg h2]
      · refine Ev.fin (k := 3) (r := (some (Vi 1))) (h' := ((SHv st dr rd), (ovl a s b3))) (fun _ => rfl) ?_
        refine ⟨?_, b3, rfl, hT3⟩
        by_cases hc : cTrue G k
        · rw [if_pos hc] at b15
          omega
        · rw [if_neg hc]
          by_cases h2 : cFst G k < 8 * gn G
          · rw [if_pos h2] at b30
            first | (exfalso; omega) | rw [if_pos h2]
          · rw [if_neg h2] at b30
            first | (exfalso; omega) | rw [if_neg h2]
    · refine Ev.fin (k := 2) (r := (some (Vi 0))) (h' := ((SHv st dr rd), (ovl a s b))) (fun _ => rfl) ?_
      refine ⟨?_, b, rfl, hT⟩
      by_cases hc : cTrue G k
      · rw [if_pos hc]
      · rw [if_neg hc] at b15
        omega
  · rw [if_neg c2]
    show Ev X _ _ 5 [Vr 166, Vi x] [Vi 0] ((SHv st dr rd), (ovl a s b)) _
    refine Ev.fin (k := 3) (r := (some (Vi (-1)))) (h' := ((SHv st dr rd), (ovl a s b))) (fun _ => rfl) ?_
    refine ⟨?_, b, rfl, hT⟩
    unfold aClaim
    rw [if_neg (by assumption)]
theorem g_caught {X : List Int} {d : Nat} {st dr rd : Int} {a s b : C3} (x l : Int) {G : GST} (hT : TopM G b) : Ev X (d + 3) 255 0 [Vr 166, Vi x, Vi l] [] (SHv st dr rd, ovl a s b) (fun rr hh => rr = some (Vi (aCaught G x (decide (l ≠ 0)))) ∧ ∃ b' : C3, hh = (SHv st dr rd, ovl a s b') ∧ TopM G b') := by
  obtain ⟨bk, hY_b, hWY, hB1, hWB, hWE, hn180, hEQ, hTp, hfk, hfp, hO⟩ := id hT
  obtain ⟨hb2_b, h12_b, h168_b, h169_b, h170_b, h171_b, h173_b, h172_b, h174_b, h176_b, h178_b, h175_b, h177_b, h179_b, h180_b, h184_b⟩ := id hY_b
  obtain ⟨wR, wD, wW, wT, wL, wC, wdoor, wsym, wWI, wTI, wCl, wRu⟩ := id hWY
  obtain ⟨w8, wWc⟩ := wW
  obtain ⟨t8, wTc⟩ := wT
  obtain ⟨r8, wRc⟩ := wR
  obtain ⟨l30, wLc⟩ := wL
  obtain ⟨c12, wCc⟩ := wC
  obtain ⟨e202, e203, e204, e211, e210, eHis, e212⟩ := id hEQ
  refine Ev.call (k := 2) (pc1 := 2) (L1 := [Vr 166, Vi x, Vi l]) (S1 := [Vi x, Vr 166]) (h1 := ((SHv st dr rd), (ovl a s b))) (m' := 251) (as := [Vr 166, Vi x]) (S' := []) (L0 := [Vr 166, Vi x]) (fun _ => rfl) rfl rfl rfl rfl rfl rfl (g_isClaim x hT) (fun r h' hq => ?_)
  obtain ⟨rfl, rfl⟩ := hq
  by_cases c2 : okC G x ∧ 0 < gn G
  · rw [if_pos c2]
    show Ev X _ _ 5 [Vr 166, Vi x, Vi l] [Vi 1] ((SHv st dr rd), (ovl a s b)) _
    refine Ev.steps (k := 1) (pc' := 10) (L' := [Vr 166, Vi x, Vi l]) (S' := []) (h' := ((SHv st dr rd), (ovl a s b))) (fun _ => rfl) ?_
    obtain ⟨k, hx⟩ : ∃ k : Nat, x = k := ⟨x.toNat, by have := c2.1; omega⟩
    subst hx
    have hkc : k < nC (gS G) := by have := c2.1; omega
    have hans : aCaught G (k : Int) (decide (l ≠ 0)) = if cFst G k < 8 * gn G then (if decide (l ≠ 0) = true then ((cFst G k % 8 : Nat) : Int) else ((cFst G k / 8 : Nat) : Int)) else -1 := by
      unfold aCaught
      rw [Int.toNat_natCast]
      by_cases h : cFst G k < 8 * gn G
      · rw [if_pos h, if_pos ⟨c2.1, c2.2, h⟩]
      · rw [if_neg h, if_neg (fun h2 => h h2.2.2)]
    rw [hans]
    refine Ev.call (k := 2) (pc1 := 12) (L1 := [Vr 166, Vi (k : Int), Vi l]) (S1 := [Vi (k : Int), Vr 166]) (h1 := ((SHv st dr rd), (ovl a s b))) (m' := 254) (as := [Vr 166, Vi (k : Int)]) (S' := []) (L0 := [Vr 166, Vi (k : Int), Vx, Vx, Vx, Vx]) (fun _ => rfl) rfl rfl rfl rfl rfl rfl (m_catches hT k hkc c2.2) (fun r h' hq => ?_)
    obtain ⟨rfl, b3, rfl, hT3, e74, e75⟩ := hq
    show Ev X _ _ 15 [Vr 166, Vi (k : Int), Vi l] [] ((SHv st dr rd), (ovl a s b3)) _
    refine Ev.ite (P := l = 0) (k := 2) (a := 26) (b := 19) (L' := [Vr 166, Vi (k : Int), Vi l]) (S' := []) (h' := ((SHv st dr rd), (ovl a s b3))) (fun _ => rfl) (fun b16 => ?_) (fun b16 => ?_)
    · refine Ev.steps (k := 2) (pc' := 30) (L' := [Vr 166, Vi (k : Int), Vi l]) (S' := [Vi (b3 166 75)]) (h' := ((SHv st dr rd), (ovl a s b3))) (fun _ => rfl) ?_
      rw [e75]
      refine Ev.fin (k := 1) (r := (some (Vi (if cFst G k < 8 * gn G then ((cFst G k / 8 : Nat) : Int) else -1)))) (h' := ((SHv st dr rd), (ovl a s b3))) (fun _ => rfl) ?_
      refine ⟨?_, b3, rfl, hT3⟩
      by_cases h2 : cFst G k < 8 * gn G
      · rw [if_pos h2, if_pos h2]
        first | rw [if_pos (by exact decide_eq_true (by omega))] | rw [if_neg (by exact fun h => absurd (of_decide_eq_true h) (by omega))]
      · rw [if_neg h2, if_neg h2]
    · refine Ev.steps (k := 2) (pc' := 23) (L' := [Vr 166, Vi (k : Int), Vi l]) (S' := [Vi (b3 166 74)]) (h' := ((SHv st dr rd), (ovl a s b3))) (fun _ => rfl) ?_
      rw [e74]
      refine Ev.fin (k := 2) (r := (some (Vi (if cFst G k < 8 * gn G then ((cFst G k % 8 : Nat) : Int) else -1)))) (h' := ((SHv st dr rd), (ovl a s b3))) (fun _ => rfl) ?_
      refine ⟨?_, b3, rfl, hT3⟩
      by_cases h2 : cFst G k < 8 * gn G
      · rw [if_pos h2, if_pos h2]
        first | rw [if_pos (by exact decide_eq_true (by omega))] | rw [if_neg (by exact fun h => absurd (of_decide_eq_true h) (by omega))]
      · rw [if_neg h2, if_neg h2]
  · rw [if_neg c2]
    show Ev X _ _ 5 [Vr 166, Vi x, Vi l] [Vi 0] ((SHv st dr rd), (ovl a s b)) _
    refine Ev.fin (k := 3) (r := (some (Vi (-1)))) (h' := ((SHv st dr rd), (ovl a s b))) (fun _ => rfl) ?_
    refine ⟨?_, b, rfl, hT⟩
    unfold aCaught
    rw [if_neg (by exact fun h => c2 ⟨h.1, h.2.1⟩)]
