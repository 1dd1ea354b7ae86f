/-! THE CLASS: objects whose number isn't written out (y a story, u an evening, k a breakfast) -/
abbrev hyS (y : Nat) : Prop := y = 2 ∨ y = 58
abbrev huS (u : Nat) : Prop := u = 119 ∨ u = 142
abbrev hkS (k : Nat) : Prop := k = 8 ∨ k = 64 ∨ k = 116 ∨ k = 127 ∨ k = 150 ∨ k = 161
def ruL (y : Nat) : List Int := (List.range 30).map (fun r => ((y + 14 + r : Nat) : Int))
def clL (y : Nat) : List Int := (List.range 12).map (fun r => ((y + 44 + r : Nat) : Int))
section SHP
variable {st dr rd : Int} {y u k : Nat}
theorem shY_0 (h : hyS y) : pm_nth (SHv st dr rd) ((y : Int)).toNat = some (9, 12, [((y : Int) + 1), ((y : Int) + 2), ((y : Int) + 3), ((y : Int) + 4), ((y : Int) + 5), ((y : Int) + 6), ((y : Int) + 9), ((y : Int) + 10), ((y : Int) + 11), (-1), ((y : Int) + 12), ((y : Int) + 13)]) := by
  rcases h with rfl | rfl <;> rfl
theorem shY_1 (h : hyS y) : pm_nth (SHv st dr rd) (((y : Int) + 1)).toNat = some (20, 6, []) := by
  rcases h with rfl | rfl <;> rfl
theorem shY_2 (h : hyS y) : pm_nth (SHv st dr rd) (((y : Int) + 2)).toNat = some (20, 48, []) := by
  rcases h with rfl | rfl <;> rfl
theorem shY_3 (h : hyS y) : pm_nth (SHv st dr rd) (((y : Int) + 3)).toNat = some (20, 8, []) := by
  rcases h with rfl | rfl <;> rfl
theorem shY_4 (h : hyS y) : pm_nth (SHv st dr rd) (((y : Int) + 4)).toNat = some (20, 64, []) := by
  rcases h with rfl | rfl <;> rfl
theorem shY_5 (h : hyS y) : pm_nth (SHv st dr rd) (((y : Int) + 5)).toNat = some (20, 64, []) := by
  rcases h with rfl | rfl <;> rfl
theorem shY_6 (h : hyS y) : pm_nth (SHv st dr rd) (((y : Int) + 6)).toNat = some (0, 3, [((y : Int) + 7), ((y : Int) + 8), (-1)]) := by
  rcases h with rfl | rfl <;> rfl
theorem shY_7 (h : hyS y) : pm_nth (SHv st dr rd) (((y : Int) + 7)).toNat = some (20, 8, []) := by
  rcases h with rfl | rfl <;> rfl
theorem shY_8 (h : hyS y) : pm_nth (SHv st dr rd) (((y : Int) + 8)).toNat = some (20, 8, []) := by
  rcases h with rfl | rfl <;> rfl
theorem shY_9 (h : hyS y) : pm_nth (SHv st dr rd) (((y : Int) + 9)).toNat = some (24, 30, ruL y) := by
  rcases h with rfl | rfl <;> rfl
theorem shY_10 (h : hyS y) : pm_nth (SHv st dr rd) (((y : Int) + 10)).toNat = some (25, 12, clL y) := by
  rcases h with rfl | rfl <;> rfl
theorem shY_11 (h : hyS y) : pm_nth (SHv st dr rd) (((y : Int) + 11)).toNat = some (20, 1200, []) := by
  rcases h with rfl | rfl <;> rfl
theorem shY_12 (h : hyS y) : pm_nth (SHv st dr rd) (((y : Int) + 12)).toNat = some (20, 30, []) := by
  rcases h with rfl | rfl <;> rfl
theorem shY_13 (h : hyS y) : pm_nth (SHv st dr rd) (((y : Int) + 13)).toNat = some (20, 17, []) := by
  rcases h with rfl | rfl <;> rfl
theorem shU_0 (h : huS u) : pm_nth (SHv st dr rd) ((u : Int)).toNat = some (4, 8, [((u : Int) + 1), ((u : Int) + 14), ((u : Int) + 8), ((u : Int) + 11), ((u : Int) + 12), ((u : Int) + 13), (-1), (-1)]) := by
  rcases h with rfl | rfl <;> rfl
theorem shU_1 (h : huS u) : pm_nth (SHv st dr rd) (((u : Int) + 1)).toNat = some (8, 9, [((u : Int) + 2), ((u : Int) + 3), ((u : Int) + 4), ((u : Int) + 5), ((u : Int) + 6), ((u : Int) + 7), (-1), (-1), (-1)]) := by
  rcases h with rfl | rfl <;> rfl
theorem shU_2 (h : huS u) : pm_nth (SHv st dr rd) (((u : Int) + 2)).toNat = some (20, 8, []) := by
  rcases h with rfl | rfl <;> rfl
theorem shU_3 (h : huS u) : pm_nth (SHv st dr rd) (((u : Int) + 3)).toNat = some (20, 8, []) := by
  rcases h with rfl | rfl <;> rfl
theorem shU_4 (h : huS u) : pm_nth (SHv st dr rd) (((u : Int) + 4)).toNat = some (20, 8, []) := by
  rcases h with rfl | rfl <;> rfl
theorem shU_5 (h : huS u) : pm_nth (SHv st dr rd) (((u : Int) + 5)).toNat = some (20, 8, []) := by
  rcases h with rfl | rfl <;> rfl
theorem shU_6 (h : huS u) : pm_nth (SHv st dr rd) (((u : Int) + 6)).toNat = some (20, 64, []) := by
  rcases h with rfl | rfl <;> rfl
theorem shU_7 (h : huS u) : pm_nth (SHv st dr rd) (((u : Int) + 7)).toNat = some (20, 48, []) := by
  rcases h with rfl | rfl <;> rfl
theorem shU_8 (h : huS u) : pm_nth (SHv st dr rd) (((u : Int) + 8)).toNat = some (0, 3, [((u : Int) + 9), ((u : Int) + 10), (-1)]) := by
  rcases h with rfl | rfl <;> rfl
theorem shU_9 (h : huS u) : pm_nth (SHv st dr rd) (((u : Int) + 9)).toNat = some (20, 8, []) := by
  rcases h with rfl | rfl <;> rfl
theorem shU_10 (h : huS u) : pm_nth (SHv st dr rd) (((u : Int) + 10)).toNat = some (20, 8, []) := by
  rcases h with rfl | rfl <;> rfl
theorem shU_11 (h : huS u) : pm_nth (SHv st dr rd) (((u : Int) + 11)).toNat = some (20, 180, []) := by
  rcases h with rfl | rfl <;> rfl
theorem shU_12 (h : huS u) : pm_nth (SHv st dr rd) (((u : Int) + 12)).toNat = some (23, 180, []) := by
  rcases h with rfl | rfl <;> rfl
theorem shU_13 (h : huS u) : pm_nth (SHv st dr rd) (((u : Int) + 13)).toNat = some (20, 48, []) := by
  rcases h with rfl | rfl <;> rfl
theorem shU_14 (h : huS u) : pm_nth (SHv st dr rd) (((u : Int) + 14)).toNat = some (3, 6, [(-1), ((u : Int) + 15), ((u : Int) + 16), ((u : Int) + 18), ((u : Int) + 17), (-1)]) := by
  rcases h with rfl | rfl <;> rfl
theorem shK_0 (h : hkS k) : pm_nth (SHv st dr rd) ((k : Int)).toNat = some (0, 3, [((k : Int) + 1), ((k : Int) + 2), (-1)]) := by
  rcases h with rfl | rfl | rfl | rfl | rfl | rfl <;> rfl
theorem shK_1 (h : hkS k) : pm_nth (SHv st dr rd) (((k : Int) + 1)).toNat = some (20, 8, []) := by
  rcases h with rfl | rfl | rfl | rfl | rfl | rfl <;> rfl
theorem shK_2 (h : hkS k) : pm_nth (SHv st dr rd) (((k : Int) + 2)).toNat = some (20, 8, []) := by
  rcases h with rfl | rfl | rfl | rfl | rfl | rfl <;> rfl
theorem shRu0 (r : Nat) (h : hyS y) (hr : r < 30) : pm_nth (SHv st dr rd) (((y + 14 + r : Nat) : Int)).toNat = some (7, 7, [(-1), (-1), (-1), (-1), (-1), (-1), (-1)]) := by
  rcases h with rfl | rfl
  · match r, hr with
    | 0, _ => rfl
    | 1, _ => rfl
    | 2, _ => rfl
    | 3, _ => rfl
    | 4, _ => rfl
    | 5, _ => rfl
    | 6, _ => rfl
    | 7, _ => rfl
    | 8, _ => rfl
    | 9, _ => rfl
    | 10, _ => rfl
    | 11, _ => rfl
    | 12, _ => rfl
    | 13, _ => rfl
    | 14, _ => rfl
    | 15, _ => rfl
    | 16, _ => rfl
    | 17, _ => rfl
    | 18, _ => rfl
    | 19, _ => rfl
    | 20, _ => rfl
    | 21, _ => rfl
    | 22, _ => rfl
    | 23, _ => rfl
    | 24, _ => rfl
    | 25, _ => rfl
    | 26, _ => rfl
    | 27, _ => rfl
    | 28, _ => rfl
    | 29, _ => rfl
    | j + 30, hr => exact absurd hr (by omega)
  · match r, hr with
    | 0, _ => rfl
    | 1, _ => rfl
    | 2, _ => rfl
    | 3, _ => rfl
    | 4, _ => rfl
    | 5, _ => rfl
    | 6, _ => rfl
    | 7, _ => rfl
    | 8, _ => rfl
    | 9, _ => rfl
    | 10, _ => rfl
    | 11, _ => rfl
    | 12, _ => rfl
    | 13, _ => rfl
    | 14, _ => rfl
    | 15, _ => rfl
    | 16, _ => rfl
    | 17, _ => rfl
    | 18, _ => rfl
    | 19, _ => rfl
    | 20, _ => rfl
    | 21, _ => rfl
    | 22, _ => rfl
    | 23, _ => rfl
    | 24, _ => rfl
    | 25, _ => rfl
    | 26, _ => rfl
    | 27, _ => rfl
    | 28, _ => rfl
    | 29, _ => rfl
    | j + 30, hr => exact absurd hr (by omega)
theorem shCl0 (r : Nat) (h : hyS y) (hr : r < 12) : pm_nth (SHv st dr rd) (((y + 44 + r : Nat) : Int)).toNat = some (2, 4, [(-1), (-1), (-1), (-1)]) := by
  rcases h with rfl | rfl
  · match r, hr with
    | 0, _ => rfl
    | 1, _ => rfl
    | 2, _ => rfl
    | 3, _ => rfl
    | 4, _ => rfl
    | 5, _ => rfl
    | 6, _ => rfl
    | 7, _ => rfl
    | 8, _ => rfl
    | 9, _ => rfl
    | 10, _ => rfl
    | 11, _ => rfl
    | j + 12, hr => exact absurd hr (by omega)
  · match r, hr with
    | 0, _ => rfl
    | 1, _ => rfl
    | 2, _ => rfl
    | 3, _ => rfl
    | 4, _ => rfl
    | 5, _ => rfl
    | 6, _ => rfl
    | 7, _ => rfl
    | 8, _ => rfl
    | 9, _ => rfl
    | 10, _ => rfl
    | 11, _ => rfl
    | j + 12, hr => exact absurd hr (by omega)
theorem shRu {r : Nat} (h : hyS y) (hr : r < 30) : pm_nth (SHv st dr rd) (((y + 14 + r : Nat) : Int)).toNat = some (7, 7, [(-1), (-1), (-1), (-1), (-1), (-1), (-1)]) := shRu0 r h hr
theorem shCl {r : Nat} (h : hyS y) (hr : r < 12) : pm_nth (SHv st dr rd) (((y + 44 + r : Nat) : Int)).toNat = some (2, 4, [(-1), (-1), (-1), (-1)]) := shCl0 r h hr
end SHP
theorem ruL_at {y : Nat} (r : Nat) (hr : r < 30) : pm_nth (ruL y) r = some ((y + 14 + r : Nat) : Int) := by
  match r, hr with
  | 0, _ => rfl
  | 1, _ => rfl
  | 2, _ => rfl
  | 3, _ => rfl
  | 4, _ => rfl
  | 5, _ => rfl
  | 6, _ => rfl
  | 7, _ => rfl
  | 8, _ => rfl
  | 9, _ => rfl
  | 10, _ => rfl
  | 11, _ => rfl
  | 12, _ => rfl
  | 13, _ => rfl
  | 14, _ => rfl
  | 15, _ => rfl
  | 16, _ => rfl
  | 17, _ => rfl
  | 18, _ => rfl
  | 19, _ => rfl
  | 20, _ => rfl
  | 21, _ => rfl
  | 22, _ => rfl
  | 23, _ => rfl
  | 24, _ => rfl
  | 25, _ => rfl
  | 26, _ => rfl
  | 27, _ => rfl
  | 28, _ => rfl
  | 29, _ => rfl
  | j + 30, hr => exact absurd hr (by omega)
theorem clL_at {y : Nat} (r : Nat) (hr : r < 12) : pm_nth (clL y) r = some ((y + 44 + r : Nat) : Int) := by
  match r, hr with
  | 0, _ => rfl
  | 1, _ => rfl
  | 2, _ => rfl
  | 3, _ => rfl
  | 4, _ => rfl
  | 5, _ => rfl
  | 6, _ => rfl
  | 7, _ => rfl
  | 8, _ => rfl
  | 9, _ => rfl
  | 10, _ => rfl
  | 11, _ => rfl
  | j + 12, hr => exact absurd hr (by omega)
section EVC
variable {X : List Int} {d m pc : Nat} {L T : List pm_V} {Q : Option pm_V → pm_H → Prop} {sh : List pm_SH} {c : Nat → Nat → Int} {o v : Int} {n a b w : Nat} {rs : List Int} {vv : Int}
theorem Ev.getr {idx ln : Nat} {r : Int} (hc : pm_code m pc = some (.getfield idx, ln, a, b, vv, w)) (h99 : Nat.beq a 99 = false) (ho : o < 0 → False) (hs : pm_nth sh o.toNat = some (a, n, rs)) (hb : Nat.blt b n = true) (hf : pm_ft a b = 2) (hr : pm_nth rs b = some r) (K : Ev X d m (pc + 3) L (Vr r :: T) (sh, c) Q) : Ev X d m pc L (Vr o :: T) (sh, c) Q := by
  refine Ev.heap hc rfl (n := 3) (S' := Vr r :: T) (h' := (sh, c)) ?_ K
  have e : pm_get (sh, c) a b (Vr o :: T) = some (Vr r :: T, (sh, c)) := by
    show (bif Nat.beq a 99 then _ else _) = _
    rw [h99]
    show pm_ob _ _ _ = _
    rw [pm_ob_at ho hs, Nat.beq_refl, hb, hf, hr]
    rfl
  show (match pm_get (sh, c) a b (Vr o :: T) with
    | some (S, h) => some (3, S, h)
    | none => none) = _
  rw [e]
theorem Ev.getz {idx ln : Nat} (hc : pm_code m pc = some (.getfield idx, ln, a, b, vv, w)) (h99 : Nat.beq a 99 = false) (ho : o < 0 → False) (hs : pm_nth sh o.toNat = some (a, n, rs)) (hb : Nat.blt b n = true) (hf : pm_ft a b = 3) (hv : c o.toNat b = v) (K : Ev X d m (pc + 3) L (Vi v :: T) (sh, c) Q) : Ev X d m pc L (Vr o :: T) (sh, c) Q := by
  refine Ev.heap hc rfl (n := 3) (S' := Vi v :: T) (h' := (sh, c)) ?_ K
  have e : pm_get (sh, c) a b (Vr o :: T) = some (Vi v :: T, (sh, c)) := by
    show (bif Nat.beq a 99 then _ else _) = _
    rw [h99]
    show pm_ob _ _ _ = _
    rw [pm_ob_at ho hs, Nat.beq_refl, hb, hf, ← hv]
    rfl
  show (match pm_get (sh, c) a b (Vr o :: T) with
    | some (S, h) => some (3, S, h)
    | none => none) = _
  rw [e]
theorem Ev.alen {kd : Nat} (hc : pm_code m pc = some (.arraylength, 1, a, b, vv, w)) (ho : o < 0 → False) (hs : pm_nth sh o.toNat = some (kd, n, rs)) (hk : Nat.ble 20 kd = true) (hv : ((n : Nat) : Int) = v) (K : Ev X d m (pc + 1) L (Vi v :: T) (sh, c) Q) : Ev X d m pc L (Vr o :: T) (sh, c) Q := by
  refine Ev.heap hc rfl (n := 1) (S' := Vi v :: T) (h' := (sh, c)) ?_ K
  have e : pm_len X (sh, c) (Vr o :: T) = some (Vi v :: T, (sh, c)) := by
    show (if o = -7 then _ else if o < 0 then _ else _) = _
    rw [if_neg (by intro h; exact ho (by omega)), if_neg ho, pm_ob_at ho hs, hk, ← hv]
    rfl
  show (match pm_len X (sh, c) (Vr o :: T) with
    | some (S, h) => some (1, S, h)
    | none => none) = _
  rw [e]
end EVC
theorem pm_recv_of {h : pm_H} {cl : Nat} {o : Int} {t : List pm_V} {n : Nat} {rs : List Int} (ho : o < 0 → False) (hs : pm_nth h.1 o.toNat = some (cl, n, rs)) : pm_recv h cl (Vr o :: t) = true := by
  show (if o < 0 then _ else (match pm_nth h.1 o.toNat with
    | some (kd, _, _) => Nat.beq kd cl
    | none => false)) = true
  rw [if_neg ho, hs]
  exact Nat.beq_refl cl
/-- the call, the receiver's class not looked at -/
def stpD (E : pm_EN) (S : List pm_V) : Option (Nat × List pm_V × List pm_V) :=
  match pm_mk E.2.2.1 with
  | (kd, n, ml, _, _) => bif (Nat.beq kd 1 && Nat.ble (n + 1) S.length && Nat.ble (pm_spread ((S.take (n + 1)).reverse)).length ml && Nat.ble ((S.drop (n + 1)).map pm_cat).sum 8) then (match E.1 with
    | .invokevirtual _ => some (E.2.2.1, (S.take (n + 1)).reverse, S.drop (n + 1))
    | _ => none) else none
theorem stpC_of {E : pm_EN} {S : List pm_V} {h : pm_H} {m' : Nat} {as S' : List pm_V} (e : stpD E S = some (m', as, S')) (hr : pm_recv h (pm_mk E.2.2.1).2.2.2.1 as = true) : stpC E S h = some (m', as, S') := by
  obtain ⟨i, ln, a, b, vv, w⟩ := E
  unfold stpD at e
  unfold stpC
  dsimp only at e hr ⊢
  generalize pm_mk a = x at e hr ⊢
  obtain ⟨kd, n, ml, cl, rk⟩ := x
  dsimp only at e hr ⊢
  cases hb : (Nat.beq kd 1 && Nat.ble (n + 1) S.length && Nat.ble (pm_spread ((S.take (n + 1)).reverse)).length ml && Nat.ble ((S.drop (n + 1)).map pm_cat).sum 8) with
  | false => rw [hb] at e; cases e
  | true =>
    rw [hb] at e
    dsimp only [cond_true] at e
    split at e
    · cases e
      dsimp only
      rw [hr]
      rfl
    · cases e
