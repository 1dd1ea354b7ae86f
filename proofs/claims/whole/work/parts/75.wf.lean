/-! WHAT A TURN KEEPS -/
theorem WfC.place {S : STY} {c : SC} {p : Nat} {v : Int} (h : WfC S c) (hv : 0 ≤ v ∧ v < nR S) : WfC S (updC c 0 p v) := by
  obtain ⟨k0, k1, k2, k3, k4, k5, k7, k9⟩ := h
  refine ⟨fun q hq => ?_, k1, k2, k3, k4, k5, k7, k9⟩
  rw [updC_if]
  split
  · exact hv
  · exact k0 q hq
theorem WfC.thing {S : STY} {c : SC} {t : Nat} {v : Int} (h : WfC S c) (hv : (0 ≤ v ∧ v < nR S) ∨ (100 ≤ v ∧ v < 100 + nW S)) : WfC S (updC c 2 t v) := by
  obtain ⟨k0, k1, k2, k3, k4, k5, k7, k9⟩ := h
  refine ⟨k0, k1, fun q hq => ?_, k3, k4, k5, k7, k9⟩
  rw [updC_if]
  split
  · exact hv
  · exact k2 q hq
theorem WfC.mood {S : STY} {c : SC} {p : Nat} {v : Int} (h : WfC S c) (hv : -1000000 ≤ v ∧ v ≤ 1000000) : WfC S (updC c 3 p v) := by
  obtain ⟨k0, k1, k2, k3, k4, k5, k7, k9⟩ := h
  refine ⟨k0, k1, k2, fun q => ?_, k4, k5, k7, k9⟩
  rw [updC_if]
  split
  · exact hv
  · exact k3 q
theorem WfC.minute {S : STY} {c : SC} {m : Nat} (h : WfC S c) (hm : m < 180) (h5 : c 7 0 ≤ 8 * (m : Int)) : WfC S (updC c 5 0 m) := by
  obtain ⟨k0, k1, k2, k3, k4, k5, k7, k9⟩ := h
  refine ⟨k0, k1, k2, k3, k4, ?_, ?_, k9⟩
  · rw [updC_sm]
    omega
  · rw [updC_sm]
    show 0 ≤ c 7 0 ∧ c 7 0 ≤ 8 * (m : Int) + 8
    omega
theorem leavS_7 {c : SC} {k w : Int} {p : Nat} : leavS c k w p 7 0 = c 7 0 + 1 := by
  show updC _ 7 0 (c 7 0 + 1) 7 0 = _
  rw [updC_sm]
theorem deedS_9 {c : SC} {p o w r : Nat} : deedS c p o w r 9 0 = c 9 0 + 1 := by
  show updC _ 9 0 (c 9 0 + 1) 9 0 = _
  rw [updC_sm]
theorem WfC.leav {S : STY} {c : SC} {k w : Int} {p : Nat} (h : WfC S c) (h7 : c 7 0 < 8 * c 5 0 + 8) : WfC S (leavS c k w p) := by
  obtain ⟨k0, k1, k2, k3, k4, k5, k7, k9⟩ := h
  refine ⟨k0, k1, k2, k3, k4, k5, ?_, k9⟩
  rw [leavS_7]
  show 0 ≤ c 7 0 + 1 ∧ c 7 0 + 1 ≤ 8 * c 5 0 + 8
  omega
theorem WfC.wip {S : STY} {c : SC} {p : Nat} (h : WfC S c) : WfC S (wipS c p) := by
  obtain ⟨k0, k1, k2, k3, k4, k5, k7, k9⟩ := h
  have e : ∀ x i, x ≠ 6 → wipS c p x i = c x i := fun x i hx => by
    unfold wipS
    rw [if_neg (fun h => hx h.1)]
  refine ⟨fun q hq => ?_, fun q => ?_, fun q hq => ?_, fun q => ?_, fun q => ?_, ?_, ?_, ?_⟩
  · rw [e _ _ (by decide)]; exact k0 q hq
  · rw [e _ _ (by decide)]; exact k1 q
  · rw [e _ _ (by decide)]; exact k2 q hq
  · rw [e _ _ (by decide)]; exact k3 q
  · rw [e _ _ (by decide)]; exact k4 q
  · rw [e _ _ (by decide)]; exact k5
  · rw [e _ _ (by decide), e _ _ (by decide)]; exact k7
  · rw [e _ _ (by decide)]; exact k9
/-- how many are alive -/
def alvS (c : SC) : Nat → Nat
  | 0 => 0
  | n + 1 => alvS c n + if c 1 n ≠ 0 then 1 else 0
theorem alvS_cg {c c' : SC} : ∀ n, (∀ q, q < n → c' 1 q = c 1 q) → alvS c' n = alvS c n
  | 0, _ => rfl
  | n + 1, h => by
    show alvS c' n + (if c' 1 n ≠ 0 then 1 else 0) = alvS c n + (if c 1 n ≠ 0 then 1 else 0)
    rw [alvS_cg n (fun q hq => h q (by omega)), h n (by omega)]
theorem k9_cg {S : STY} {c c' : SC} (h : c 9 0 + alvS c (nW S) = nW S) (e9 : c' 9 0 = c 9 0) (e1 : ∀ q, c' 1 q = c 1 q) : c' 9 0 + alvS c' (nW S) = nW S := by
  rw [e9, alvS_cg (nW S) (fun q _ => e1 q)]
  exact h
theorem alvS_kil {c : SC} {o : Nat} : ∀ n, o < n → c 1 o ≠ 0 → alvS (updC c 1 o 0) n + 1 = alvS c n
  | 0, h, _ => absurd h (by omega)
  | n + 1, h, hl => by
    show alvS (updC c 1 o 0) n + (if updC c 1 o 0 1 n ≠ 0 then 1 else 0) + 1 = alvS c n + (if c 1 n ≠ 0 then 1 else 0)
    by_cases ho : o = n
    · subst ho
      rw [updC_sm, if_neg (by omega), if_pos hl, alvS_cg o (fun q hq => by rw [updC_if, if_neg (by omega)])]
    · rw [show updC c 1 o 0 1 n = c 1 n by rw [updC_if, if_neg (by omega)]]
      have := alvS_kil n (by omega) hl
      omega
theorem alvS_pos {c : SC} {p : Nat} : ∀ n, p < n → c 1 p ≠ 0 → 1 ≤ alvS c n
  | 0, h, _ => absurd h (by omega)
  | n + 1, h, hl => by
    show 1 ≤ alvS c n + (if c 1 n ≠ 0 then 1 else 0)
    by_cases ho : p = n
    · subst ho
      rw [if_pos hl]
      omega
    · have := alvS_pos n (by omega) hl
      omega
theorem stpW_b {S : STY} {fr to : Nat} : stpW S fr to = -1 ∨ (0 ≤ stpW S fr to ∧ stpW S fr to < nR S) := by
  unfold stpW
  split
  · exact Or.inl rfl
  · have := bstS_b (S := S) (fr := fr) (to := to) (nR S)
    omega
/-- what is known of a scene in a minute's course -/
abbrev WfK (S : STY) (c : SC) (q : Nat) : Prop := WfC S c ∧ c 7 0 ≤ 8 * c 5 0 + q ∧ c 9 0 + alvS c (nW S) = nW S
theorem WfK.k8 {S : STY} {c : SC} {q p : Nat} (h : WfK S c q) (hWY : WfY S) (hp : p < nW S) (hl : c 1 p ≠ 0) : c 9 0 < 8 := by
  have h1 := alvS_pos (nW S) hp hl
  have h2 := h.2.2
  have h3 := hWY.2.2.1.1
  omega
theorem doesS_wf {S : STY} {c c' : SC} {r q : Nat} (hWY : WfY S) (h : WfK S c q) (hr : r < nL S) (hk : S.1 11 r ≠ 4) (hq : q < 8) (h9 : c 9 0 < 8) (hd : doesS S c r = some c') : WfK S c' (q + 1) ∧ c' 5 0 = c 5 0 := by
  obtain ⟨hC, h7, h8⟩ := h
  obtain ⟨wR, wD, wW, wT, wL, wC, wdoor, wsym, wWI, wTI, wCl, wRu⟩ := id hWY
  obtain ⟨r1, r2, r3, r4, r5, -⟩ := wRu r hr
  obtain ⟨p, hp⟩ : ∃ p : Nat, S.1 12 r = p := ⟨(S.1 12 r).toNat, by omega⟩
  have hpW : p < nW S := by omega
  have k0 := hC.1
  unfold doesS at hd
  dsimp only at hd
  rw [hp, Int.toNat_natCast] at hd
  split at hd
  · next g =>
    split at hd
    · cases hd
    · next g2 =>
      cases hd
      have g3 := stpW_b (S := S) (fr := (c 0 p).toNat) (to := (S.1 13 r).toNat)
      exact ⟨⟨hC.place (by omega), by show c 7 0 ≤ 8 * c 5 0 + ((q + 1 : Nat) : Int); omega, k9_cg h8 rfl (fun _ => rfl)⟩, rfl⟩
  · split at hd
    · next g =>
      split at hd
      · next g2 =>
        cases hd
        refine ⟨⟨WfC.leav (hC.thing (Or.inr ⟨by omega, by omega⟩)) (by show c 7 0 < 8 * c 5 0 + 8; omega), ?_, k9_cg h8 rfl (fun _ => rfl)⟩, rfl⟩
        rw [leavS_7]
        show c 7 0 + 1 ≤ 8 * c 5 0 + ((q + 1 : Nat) : Int)
        omega
      · cases hd
    · split at hd
      · next g =>
        split at hd
        · next g2 =>
          cases hd
          refine ⟨⟨WfC.leav (hC.thing (Or.inl (k0 p hpW))) (by show c 7 0 < 8 * c 5 0 + 8; omega), ?_, k9_cg h8 rfl (fun _ => rfl)⟩, rfl⟩
          rw [leavS_7]
          show c 7 0 + 1 ≤ 8 * c 5 0 + ((q + 1 : Nat) : Int)
          omega
        · cases hd
      · split at hd
        · next g =>
          split at hd
          · cases hd
            have e : ∀ x i, x ≠ 6 → wipS c p x i = c x i := fun x i hx => by
              unfold wipS
              rw [if_neg (fun h => hx h.1)]
            refine ⟨⟨hC.wip, ?_, ?_⟩, e _ _ (by decide)⟩
            · rw [e _ _ (by decide), e _ _ (by decide)]
              omega
            · rw [e _ _ (by decide), alvS_cg (c := c) (nW S) (fun q _ => e _ _ (by decide))]
              exact h8
          · cases hd
        · next g0 g1 g2 g3 =>
          split at hd
          · next hK =>
            cases hd
            have h5 : S.1 11 r = 5 := by omega
            obtain ⟨o, ho⟩ : ∃ o : Nat, S.1 13 r = o := ⟨(S.1 13 r).toNat, by have := r5 h5; omega⟩
            rw [ho, Int.toNat_natCast] at hK ⊢
            have r55 := r5 h5
            have hC2 := hC.kil (what := (S.1 14 r).toNat) (r := r) hpW (show o < nW S by omega) h9
            refine ⟨⟨hC2.leav (by show dropS (nT S) (updC c 1 o 0) o 7 0 < 8 * dropS (nT S) (updC c 1 o 0) o 5 0 + 8; rw [dropS_n (by decide), dropS_n (by decide)]; show c 7 0 < 8 * c 5 0 + 8; omega), ?_, ?_⟩, by show dropS (nT S) (updC c 1 o 0) o 5 0 = _; rw [dropS_n (by decide)]; rfl⟩
            · rw [leavS_7]
              show dropS (nT S) (updC c 1 o 0) o 7 0 + 1 ≤ 8 * dropS (nT S) (updC c 1 o 0) o 5 0 + ((q + 1 : Nat) : Int)
              rw [dropS_n (by decide), dropS_n (by decide)]
              show c 7 0 + 1 ≤ 8 * c 5 0 + ((q + 1 : Nat) : Int)
              omega
            · have e9 : leavS (deedS (dropS (nT S) (updC c 1 o 0) o) p o (S.1 14 r).toNat r) 3 (S.1 14 r) p 9 0 = c 9 0 + 1 := (deedS_9 (c := dropS (nT S) (updC c 1 o 0) o) (p := p) (o := o) (w := (S.1 14 r).toNat) (r := r)).trans (by rw [dropS_n (by decide)]; rfl)
              rw [e9]
              have g5 := alvS_kil (c := c) (o := o) (nW S) (by omega) hK.1
              have g6 : alvS (leavS (deedS (dropS (nT S) (updC c 1 o 0) o) p o (S.1 14 r).toNat r) 3 (S.1 14 r) p) (nW S) = alvS (updC c 1 o 0) (nW S) := alvS_cg (nW S) (fun q _ => by
                show dropS (nT S) (updC c 1 o 0) o 1 q = _
                rw [dropS_n (by decide)])
              rw [g6]
              omega
          · cases hd
