/-! THE WORLD: the pure machine's objects as cells of the heap -/
def pm_adr (roA : Nat → Nat) (as : List (Nat × ClassId)) (n : Int) : Nat := if n < 0 then roA (-2 - n).toNat else match as[n.toNat]? with
  | some a => a.1
  | none => 0
def pm_rf (roA : Nat → Nat) (as : List (Nat × ClassId)) (n : Int) : Option Nat := if n = -1 then none else some (pm_adr roA as n)
def pm_fv (cv : pm_V → Value) (sh : pm_SH) (f : Nat → Int) (k : Nat) : Value := match pm_ft sh.1 k with
  | 1 => .long (Int64.ofInt (f k))
  | 2 => cv (Vr ((sh.2.2[k]?).getD (-1)))
  | _ => .int (Int32.ofInt (f k))
def pm_av (rf : Int → Option Nat) (sh : pm_SH) (f : Nat → Int) : (Nat → Int32) ⊕ (Nat → Int64) ⊕ (Nat → UInt32) ⊕ (Nat → UInt64) ⊕ (Nat → Option Nat) :=
  if sh.1 = 23 then .inr (.inl (fun i => Int64.ofInt (f i))) else if 24 ≤ sh.1 then .inr (.inr (.inr (.inr (fun i => rf ((sh.2.2[i]?).getD (-1)))))) else .inl (fun i => Int32.ofInt (f i))
def pm_ent (cv : pm_V → Value) (rf : Int → Option Nat) (sh : pm_SH) (cA : ClassId) (f : Nat → Int) : va_E :=
  if sh.1 < 20 then .inr (sh.1, (List.range sh.2.1).map (pm_fv cv sh f)) else .inl (cA, sh.2.1, pm_av rf sh f)
def pm_at (roA : Nat → Nat) (z8 : Value) (as : List (Nat × ClassId)) (h : pm_H) (o : Nat) : Nat × va_E := match as[o]?, h.1[o]? with
  | some a, some sh => (a.1, pm_ent (pm_cv (pm_adr roA as) z8) (pm_rf roA as) sh a.2 (h.2 o))
  | _, _ => (0, .inr (0, []))
def pm_ws (roA : Nat → Nat) (z8 : Value) (as : List (Nat × ClassId)) (h : pm_H) : va_W := (List.range h.1.length).map (pm_at roA z8 as h)
theorem pm_ws_get {roA : Nat → Nat} {z8 : Value} {as : List (Nat × ClassId)} {h : pm_H} {o : Nat} (ho : o < h.1.length) : (pm_ws roA z8 as h)[o]? = some (pm_at roA z8 as h o) := by
  simp [pm_ws, ho]
theorem pm_ws_len {roA : Nat → Nat} {z8 : Value} {as : List (Nat × ClassId)} {h : pm_H} : (pm_ws roA z8 as h).length = h.1.length := by simp [pm_ws]
theorem pm_ws_upd {roA : Nat → Nat} {z8 : Value} {as : List (Nat × ClassId)} {h h' : pm_H} (hl : h'.1.length = h.1.length) (o : Nat) (hne : ∀ j, j ≠ o → pm_at roA z8 as h' j = pm_at roA z8 as h j) :
    pm_ws roA z8 as h' = (pm_ws roA z8 as h).set o (pm_at roA z8 as h' o) := by
  apply List.ext_getElem?
  intro j
  by_cases hj : j < h.1.length
  · rw [pm_ws_get (by omega), List.getElem?_set]
    by_cases e : o = j
    · subst e
      rw [if_pos rfl, if_pos (by rw [pm_ws_len]; exact hj)]
    · rw [if_neg e, pm_ws_get hj, hne j (fun q => e q.symm)]
  · rw [List.getElem?_eq_none (by rw [pm_ws_len]; omega), List.getElem?_eq_none (by rw [List.length_set, pm_ws_len]; omega)]
theorem pm_ws_push {roA : Nat → Nat} {z8 : Value} {as as' : List (Nat × ClassId)} {h h' : pm_H} (hl : h'.1.length = h.1.length + 1) (hne : ∀ j, j < h.1.length → pm_at roA z8 as' h' j = pm_at roA z8 as h j) :
    pm_ws roA z8 as' h' = pm_ws roA z8 as h ++ [pm_at roA z8 as' h' h.1.length] := by
  apply List.ext_getElem?
  intro j
  by_cases hj : j < h.1.length
  · rw [pm_ws_get (by omega), List.getElem?_append_left (by rw [pm_ws_len]; exact hj), pm_ws_get hj, hne j hj]
  · by_cases e : j = h.1.length
    · subst e
      rw [pm_ws_get (by omega), List.getElem?_append_right (by rw [pm_ws_len]; exact Nat.le_refl _), pm_ws_len, Nat.sub_self]
      rfl
    · rw [List.getElem?_eq_none (by rw [pm_ws_len]; omega), List.getElem?_eq_none (by rw [List.length_append, pm_ws_len]; simp; omega)]
def pm_lg (kd i : Nat) : Bool := bif Nat.blt kd 20 then Nat.beq (pm_ft kd i) 1 else Nat.beq kd 23
def pm_okS (N : Nat) (sh : pm_SH) (f : Nat → Int) : Prop :=
  ((sh.1 < 12 ∧ sh.2.1 = pm_nf sh.1) ∨ (20 ≤ sh.1 ∧ sh.1 ≤ 25 ∧ sh.2.1 ≤ 100000)) ∧ (∀ r ∈ sh.2.2, -1 ≤ r ∧ r < (N : Int)) ∧ (sh.1 < 20 ∨ 24 ≤ sh.1 → sh.2.2.length = sh.2.1) ∧ ∀ i, (pm_lg sh.1 i = true → R64 (f i)) ∧ (pm_lg sh.1 i = false → R32 (f i))
def pm_okH (h : pm_H) : Prop := (∀ (o : Nat) (sh : pm_SH), h.1[o]? = some sh → pm_okS h.1.length sh (h.2 o)) ∧ ∀ o, h.1.length ≤ o → ∀ i, h.2 o i = 0
def pm_aty (kd : Nat) : FieldType := match kd with
  | 20 => .int
  | 21 => .byte
  | 22 => .boolean
  | 23 => .long
  | 24 => .object "SnowHouse$Rule"
  | _ => .object "SnowHouse$Claim"
def pm_WD (G : va_G) (base : Nat) (roA : Nat → Nat) (z8 : Value) (as : List (Nat × ClassId)) (h : pm_H) (s : State) (H : Heap) : Prop :=
  as.length = h.1.length ∧ pm_okH h ∧ va_P G pm_cl (pm_ws roA z8 as h) H ∧ va_D (fun q : Nat => base ≤ q) (pm_ws roA z8 as h) ∧ ∃ tys, va_K G pm_cl tys s ∧ ∀ (o : Nat) (a : Nat × ClassId) (sh : pm_SH), as[o]? = some a → h.1[o]? = some sh → 20 ≤ sh.1 → (a.2, pm_aty sh.1) ∈ tys
def pm_RO (base : Nat) (roA : Nat → Nat) (z8 : Value) (X : List Int) (s : State) (H : Heap) : Prop :=
  (va_X (roA 0) X.length (fun j => Int32.ofInt (X.getD j 0)) s H ∧ roA 0 < base ∧ (∀ x ∈ X, R32 x) ∧ X.length < 2147483648) ∧
  (va_Z "SnowHouse" "MOST_OF" "[I" (.ref (roA 1)) (fun q : Nat => base ≤ q) s H ∧ va_T .int (roA 1) 6 (fun j => .int (Int32.ofInt (pm_most.getD j 0))) (fun q : Nat => base ≤ q) s H) ∧
  (va_Z "SnowHouse" "TRACE_SHIFT" "[I" (.ref (roA 2)) (fun q : Nat => base ≤ q) s H ∧ va_T .int (roA 2) 6 (fun j => .int (Int32.ofInt (pm_shift.getD j 0))) (fun q : Nat => base ≤ q) s H) ∧
  (va_Z "SnowHouse" "TRACE_MASK" "[I" (.ref (roA 3)) (fun q : Nat => base ≤ q) s H ∧ va_T .int (roA 3) 6 (fun j => .int (Int32.ofInt (pm_mask.getD j 0))) (fun q : Nat => base ≤ q) s H) ∧
  va_Z "java/lang/String" "COMPACT_STRINGS" "Z" (.int 1) (fun q : Nat => base ≤ q) s H ∧
  (va_Z "jdk/internal/util/Preconditions" "SIOOBE_FORMATTER" "Ljava/util/function/BiFunction;" z8 (fun q : Nat => base ≤ q) s H ∧ z8.category = 1) ∧
  vk_R "SnowHouse$Reader" 27 "room door who in thing says go take lay wipe feel kill when or and not all at has near alone dead knows minute mood min max " (roA 4) s ∧
  va_O "java/lang/String" (roA 4) (fun q : Nat => base ≤ q) s H ∧ va_OF "java/lang/String" "coder" "B" (.int 0) (roA 4) (fun q : Nat => base ≤ q) s H ∧ va_OF "java/lang/String" "value" "[B" (.ref (roA 5)) (roA 4) (fun q : Nat => base ≤ q) s H ∧
  va_T .byte (roA 5) 124 (fun j => .int (Int32.ofInt (pm_own.getD j 0))) (fun q : Nat => base ≤ q) s H
/-- how many slots there are in all -/
def pm_sz (h : pm_H) : Nat := (h.1.map (fun sh => sh.2.1)).sum
theorem pm_adr_ext {roA : Nat → Nat} {as ys : List (Nat × ClassId)} {n : Int} (hn : n < as.length) : pm_adr roA (as ++ ys) n = pm_adr roA as n := by
  unfold pm_adr
  by_cases h : n < 0
  · rw [if_pos h, if_pos h]
  · rw [if_neg h, if_neg h, List.getElem?_append_left (by omega)]
theorem pm_cv_ext {roA : Nat → Nat} {z8 : Value} {as ys : List (Nat × ClassId)} {v : pm_V} {N : Nat} (hN : as.length = N) (hv : okV N v) : pm_cv (pm_adr roA (as ++ ys)) z8 v = pm_cv (pm_adr roA as) z8 v := by
  match v, hv with
  | .inl x, _ => rfl
  | .inr (.inl x), _ => rfl
  | .inr (.inr (.inl x)), hv =>
    show (if pm_rok x = true then Value.ref (pm_adr roA (as ++ ys) x) else if x = -1 then .null else z8) = (if pm_rok x = true then Value.ref (pm_adr roA as x) else if x = -1 then .null else z8)
    rw [pm_adr_ext (by rw [hN]; exact hv)]
  | .inr (.inr (.inr _)), _ => rfl
theorem pm_map_ext {roA : Nat → Nat} {z8 : Value} {as ys : List (Nat × ClassId)} {S : List pm_V} {N : Nat} (hN : as.length = N) (hS : okL N S) : S.map (pm_cv (pm_adr roA (as ++ ys)) z8) = S.map (pm_cv (pm_adr roA as) z8) :=
  List.map_congr_left fun v hv => pm_cv_ext hN (hS v hv)
theorem pm_LR_ext {roA : Nat → Nat} {z8 : Value} {as ys : List (Nat × ClassId)} {L : List pm_V} {ls : Array Slot} {N : Nat} (hN : as.length = N) (hL : okL N L) (h : pm_LR (pm_cv (pm_adr roA as) z8) ls L) : pm_LR (pm_cv (pm_adr roA (as ++ ys)) z8) ls L :=
  ⟨h.1, h.2.1, fun k v hk hv => by rw [pm_cv_ext hN (hL v (List.mem_of_getElem? hk))]; exact h.2.2 k v hk hv⟩
theorem okV.mono {N M : Nat} {v : pm_V} (h : okV N v) (hm : N ≤ M) : okV M v := by
  match v, h with
  | .inl x, h => exact h
  | .inr (.inl x), h => exact h
  | .inr (.inr (.inl x)), h => exact Int.lt_of_lt_of_le (show x < (N : Int) from h) (Int.ofNat_le.mpr hm)
  | .inr (.inr (.inr _)), _ => trivial
theorem okL.mono {N M : Nat} {L : List pm_V} (h : okL N L) (hm : N ≤ M) : okL M L := fun v hv => (h v hv).mono hm
theorem pm_ent_ext {roA : Nat → Nat} {z8 : Value} {as ys : List (Nat × ClassId)} {sh : pm_SH} {cA : ClassId} {f : Nat → Int} {N : Nat} (hN : as.length = N) (hs : ∀ r ∈ sh.2.2, -1 ≤ r ∧ r < (N : Int)) :
    pm_ent (pm_cv (pm_adr roA (as ++ ys)) z8) (pm_rf roA (as ++ ys)) sh cA f = pm_ent (pm_cv (pm_adr roA as) z8) (pm_rf roA as) sh cA f := by
  have hr : ∀ k : Nat, ((sh.2.2[k]?).getD (-1)) < (N : Int) := by
    intro k
    cases hk : sh.2.2[k]? with
    | none => show (-1 : Int) < N; omega
    | some r => exact (hs r (List.mem_of_getElem? hk)).2
  have e1 : pm_fv (pm_cv (pm_adr roA (as ++ ys)) z8) sh f = pm_fv (pm_cv (pm_adr roA as) z8) sh f := by
    funext k
    unfold pm_fv
    rw [pm_cv_ext (v := Vr ((sh.2.2[k]?).getD (-1))) hN (hr k)]
  have e2 : pm_av (pm_rf roA (as ++ ys)) sh f = pm_av (pm_rf roA as) sh f := by
    unfold pm_av
    have e3 : (fun i : Nat => pm_rf roA (as ++ ys) ((sh.2.2[i]?).getD (-1))) = (fun i : Nat => pm_rf roA as ((sh.2.2[i]?).getD (-1))) := by
      funext i
      unfold pm_rf
      rw [pm_adr_ext (by rw [hN]; exact hr i)]
    rw [e3]
  unfold pm_ent
  rw [e1, e2]
theorem pm_at_eq {roA : Nat → Nat} {z8 : Value} {as : List (Nat × ClassId)} {h : pm_H} {o : Nat} {a : Nat × ClassId} {sh : pm_SH} (ha : as[o]? = some a) (hs : h.1[o]? = some sh) : pm_at roA z8 as h o = (a.1, pm_ent (pm_cv (pm_adr roA as) z8) (pm_rf roA as) sh a.2 (h.2 o)) := by
  unfold pm_at
  rw [ha, hs]
theorem pm_WD.as {G : va_G} {base : Nat} {roA : Nat → Nat} {z8 : Value} {as : List (Nat × ClassId)} {h : pm_H} {s : State} {H : Heap} (hW : pm_WD G base roA z8 as h s H) {o : Nat} {sh : pm_SH} (hs : h.1[o]? = some sh) : ∃ a, as[o]? = some a := by
  have := (List.getElem?_eq_some_iff.mp hs).1
  exact ⟨as[o]'(by rw [hW.1]; exact this), List.getElem?_eq_getElem _⟩
theorem pm_adr_at {roA : Nat → Nat} {as : List (Nat × ClassId)} {o : Int} {a : Nat × ClassId} (h0 : ¬ o < 0) (ha : as[o.toNat]? = some a) : pm_adr roA as o = a.1 := by
  unfold pm_adr
  rw [if_neg h0, ha]
theorem pm_ob_spec {α : Type} {h : pm_H} {o : Int} {k : Nat → Nat → List Int → Option α} {r : α} (hr : pm_ob h o k = some r) : ∃ kd n rs, ¬ o < 0 ∧ h.1[o.toNat]? = some (kd, n, rs) ∧ k kd n rs = some r := by
  unfold pm_ob at hr
  split at hr
  · cases hr
  · next h0 =>
    split at hr
    · next kd n rs e =>
      rw [pm_nth_eq] at e
      exact ⟨kd, n, rs, h0, e, hr⟩
    · cases hr
theorem pm_rok_of {o : Int} (h : ¬ o < 0) : pm_rok o = true := by
  unfold pm_rok
  simp only [Bool.and_eq_true, decide_eq_true_eq, Bool.not_eq_true', decide_eq_false_iff_not]
  omega
