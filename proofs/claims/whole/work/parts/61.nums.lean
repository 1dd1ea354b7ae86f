/-! NUMBERS for the walks -/
section LC
variable {x y : Int}
theorem lc_eq : (l_cmp x y = 0) = (x = y) := by apply propext; unfold l_cmp; split <;> (try split) <;> constructor <;> intro h <;> omega
theorem lc_ne : (l_cmp x y ≠ 0) = (x ≠ y) := by rw [ne_eq, lc_eq]
theorem lc_lt : (l_cmp x y < 0) = (x < y) := by apply propext; unfold l_cmp; split <;> (try split) <;> constructor <;> intro h <;> omega
theorem lc_ge : (0 ≤ l_cmp x y) = (y ≤ x) := by apply propext; unfold l_cmp; split <;> (try split) <;> constructor <;> intro h <;> omega
theorem lc_gt : (0 < l_cmp x y) = (y < x) := by apply propext; unfold l_cmp; split <;> (try split) <;> constructor <;> intro h <;> omega
theorem lc_le : (l_cmp x y ≤ 0) = (x ≤ y) := by apply propext; unfold l_cmp; split <;> (try split) <;> constructor <;> intro h <;> omega
end LC
theorem i_div_nn {x y : Int} (hx : 0 ≤ x ∧ x ≤ 2147483647) (hy : 0 < y) : i_div x y = x / y := by
  unfold i_div
  rw [Int.tdiv_eq_ediv_of_nonneg hx.1]
  refine w32_id ⟨?_, ?_⟩
  · have := Int.ediv_nonneg hx.1 (show 0 ≤ y by omega)
    omega
  · have := Int.ediv_le_self y hx.1
    omega
theorem i_rem_nn {x y : Int} (hx : 0 ≤ x ∧ x ≤ 2147483647) (hy : 0 < y) : i_rem x y = x % y := by
  unfold i_rem
  rw [i_div_nn hx hy]
  have h1 : x - x / y * y = x % y := by
    have := Int.emod_def x y
    rw [Int.mul_comm] at this
    omega
  rw [h1]
  refine w32_id ⟨?_, ?_⟩
  · have := Int.emod_nonneg x (show y ≠ 0 by omega)
    omega
  · have h2 := Int.emod_nonneg x (show y ≠ 0 by omega)
    have h3 : x % y ≤ x := by
      have h4 := Int.emod_def x y
      have h5 := Int.mul_nonneg (show 0 ≤ y by omega) (Int.ediv_nonneg hx.1 (show 0 ≤ y by omega))
      omega
    omega
theorem i_div8 (v : Nat) (h : v ≤ 2147483647) : i_div (v : Int) 8 = ((v / 8 : Nat) : Int) := by
  rw [i_div_nn (by omega) (by omega)]
  omega
theorem i_rem8 (v : Nat) (h : v ≤ 2147483647) : i_rem (v : Int) 8 = ((v % 8 : Nat) : Int) := by
  rw [i_rem_nn (by omega) (by omega)]
  omega
theorem td_le (a b : Int) : (a.tdiv b).natAbs ≤ a.natAbs := by
  rw [Int.natAbs_tdiv]
  exact Nat.div_le_self _ _
theorem tm_le (a b : Int) : (a.tmod b).natAbs ≤ a.natAbs := by
  rw [Int.natAbs_tmod]
  exact Nat.mod_le _ _
abbrev R13 (a : Int) : Prop := -10000000000000 ≤ a ∧ a ≤ 10000000000000
theorem l_div_td {a b : Int} (ha : R13 a) : l_div a b = a.tdiv b := by
  unfold l_div
  have := td_le a b
  exact w64_id (by unfold R64; omega)
theorem l_rem_tm {a b : Int} (ha : R13 a) : l_rem a b = a.tmod b := by
  unfold l_rem
  rw [l_div_td ha, Int.mul_comm, ← Int.tmod_def]
  have := tm_le a b
  exact w64_id (by unfold R64; omega)
theorem ov_a {a b : Int} (ha : R13 a) (h : l_rem a b = 0) : l_div a b = a.fdiv b := by
  rw [l_rem_tm ha] at h
  rw [l_div_td ha, Int.fdiv_eq_tdiv, if_pos (Int.dvd_of_tmod_eq_zero h), Int.sub_zero]
theorem ov_b {a b : Int} (ha : R13 a) (hb : b ≠ 0) (h : l_rem a b ≠ 0) (hs : a < 0 ↔ b < 0) : l_div a b = a.fdiv b := by
  rw [l_rem_tm ha] at h
  rw [l_div_td ha, Int.fdiv_eq_tdiv, if_neg (fun hd => h (Int.tmod_eq_zero_of_dvd hd))]
  by_cases h1 : 0 ≤ a
  · rw [if_pos h1, if_pos (by omega), Int.sub_zero]
  · rw [if_neg h1, if_neg (by omega), Int.sign_eq_neg_one_of_neg (by omega)]
    omega
theorem ov_c {a b : Int} (ha : R13 a) (hb : b ≠ 0) (h : l_rem a b ≠ 0) (hs : ¬ (a < 0 ↔ b < 0)) : l_div a b - 1 = a.fdiv b := by
  rw [l_rem_tm ha] at h
  rw [l_div_td ha, Int.fdiv_eq_tdiv, if_neg (fun hd => h (Int.tmod_eq_zero_of_dvd hd))]
  by_cases h1 : 0 ≤ a
  · rw [if_pos h1, if_neg (by omega)]
  · rw [if_neg h1, if_pos (by omega), Int.sign_eq_one_of_pos (by omega)]
theorem fd_neg {a b : Int} : (-a).fdiv (-b) = a.fdiv b := Int.neg_fdiv_neg a b
theorem fd_le {x y : Int} (hx : -1000000 ≤ x ∧ x ≤ 1000000) (hy : y ≠ 0) : -1000000 ≤ x.fdiv y ∧ x.fdiv y ≤ 1000000 := by
  have key : ∀ x y : Int, -1000000 ≤ x ∧ x ≤ 1000000 → 0 < y → -1000000 ≤ x.fdiv y ∧ x.fdiv y ≤ 1000000 := by
    intro x y hx hy
    rw [Int.fdiv_eq_ediv_of_nonneg x (by omega)]
    constructor
    · refine (Int.le_ediv_iff_mul_le hy).mpr ?_
      have := Int.mul_le_mul_of_nonpos_left (show -1000000 ≤ (0 : Int) by omega) (show 1 ≤ y by omega)
      omega
    · refine Int.ediv_le_of_le_mul hy ?_
      have := Int.mul_le_mul_of_nonneg_left (show 1 ≤ y by omega) (show (0 : Int) ≤ 1000000 by omega)
      omega
  by_cases h : 0 < y
  · exact key x y hx h
  · rw [← fd_neg]
    exact key _ _ (by omega) (by omega)
theorem fm_le {x y : Int} (hy : y ≠ 0) (h2 : -1000000 ≤ y ∧ y ≤ 1000000) : -1000000 ≤ x.fmod y ∧ x.fmod y ≤ 1000000 := by
  have key : ∀ x y : Int, 0 < y → 0 ≤ x.fmod y ∧ x.fmod y < y := by
    intro x y hy
    exact ⟨Int.fmod_nonneg_of_pos x hy, Int.fmod_lt_of_pos x hy⟩
  by_cases h : 0 < y
  · have := key x y h
    omega
  · have h3 := key (-x) (-y) (by omega)
    rw [Int.neg_fmod_neg] at h3
    omega
theorem hld_le (v : Int) : -1000000 ≤ hld v ∧ hld v ≤ 1000000 := by
  unfold hld
  split
  · omega
  · split <;> omega
/-! sums and tests are worked off: of each stack it is known which numbers are 0 or 1 -/
def tySt (q : Nat × Nat) (ts : List Bool) : Option (List Bool) :=
  if q.1 ≤ 2 then some (false :: ts) else if q.1 ≤ 9 then some (true :: ts)
  else if q.1 = 27 then (match ts with
    | true :: t => some (true :: t)
    | _ => none)
  else if 15 ≤ q.1 ∧ q.1 ≤ 21 then (match ts with
    | false :: false :: t => some (false :: t)
    | _ => none)
  else if 22 ≤ q.1 ∧ q.1 ≤ 24 then (match ts with
    | false :: false :: t => some (true :: t)
    | _ => none)
  else if q.1 = 25 ∨ q.1 = 26 then (match ts with
    | true :: true :: t => some (true :: t)
    | _ => none)
  else none
def tyL : List (Nat × Nat) → List Bool → Option (List Bool)
  | [], ts => some ts
  | q :: l, ts => match tySt q ts with
    | some t => tyL l t
    | none => none
theorem tyL_app : ∀ (l l' : List (Nat × Nat)) (ts : List Bool), tyL (l ++ l') ts = match tyL l ts with
    | some t => tyL l' t
    | none => none
  | [], l', ts => rfl
  | q :: l, l', ts => by
    show (match tySt q ts with
      | some t => tyL (l ++ l') t
      | none => none) = match (match tySt q ts with
      | some t => tyL l t
      | none => none) with
      | some t => tyL l' t
      | none => none
    cases tySt q ts with
    | none => rfl
    | some t => exact tyL_app l l' t
abbrev TyV (b : Bool) (x : Int) : Prop := if b = true then x = 0 ∨ x = 1 else -1000000 ≤ x ∧ x ≤ 1000000
def TyS : List Bool → List Int → Prop
  | [], [] => True
  | b :: bs, x :: xs => TyV b x ∧ TyS bs xs
  | _, _ => False
/-- what an operand tells of is there -/
abbrev OkQ (S : STY) (q : Nat × Nat) : Prop :=
  (q.1 = 0 → q.2 ≤ 9999) ∧ (q.1 = 2 → q.2 < nW S) ∧ ((q.1 = 4 ∨ q.1 = 5 ∨ q.1 = 6 ∨ q.1 = 7 ∨ q.1 = 8 ∨ q.1 = 9) → q.2 < 64 ∧ q.2 / 8 < nW S) ∧ (q.1 = 4 → q.2 % 8 < nR S) ∧ (q.1 = 5 → q.2 % 8 < nT S) ∧ ((q.1 = 6 ∨ q.1 = 9) → q.2 % 8 < nW S ∧ q.2 / 8 ≠ q.2 % 8) ∧ ((q.1 = 3 ∨ q.1 = 7 ∨ q.1 = 8) → q.2 % 8 = 0) ∧ (q.1 = 1 ∨ q.1 = 3 → q.2 = 0) ∧ q.1 ≤ 27
abbrev WfE (S : STY) (c : SC) : Prop := (∀ p, p < nW S → -1000000 ≤ c 3 p ∧ c 3 p ≤ 1000000) ∧ 0 ≤ c 5 0 ∧ c 5 0 < 180
theorem leafS_ty {S : STY} {c : SC} (hE : WfE S c) {q : Nat × Nat} (hq : OkQ S q) (h9 : q.1 ≤ 9) : TyV (decide (2 < q.1)) (leafS (nW S) c q.1 q.2) := by
  obtain ⟨op, v⟩ := q
  dsimp only at hq h9 ⊢
  obtain ⟨h0, h2, -⟩ := hq
  match op, h9 with
  | 0, _ =>
    show -1000000 ≤ (v : Int) ∧ (v : Int) ≤ 1000000
    have := h0 rfl
    omega
  | 1, _ =>
    show -1000000 ≤ c 5 0 ∧ c 5 0 ≤ 1000000
    have := hE.2
    omega
  | 2, _ => exact hE.1 v (h2 rfl)
  | 3, _ => exact Or.inr rfl
  | 4, _ =>
    show (if _ then (1 : Int) else 0) = 0 ∨ (if _ then (1 : Int) else 0) = 1
    split <;> simp
  | 5, _ =>
    show (if _ then (1 : Int) else 0) = 0 ∨ (if _ then (1 : Int) else 0) = 1
    split <;> simp
  | 6, _ =>
    show (if _ then (1 : Int) else 0) = 0 ∨ (if _ then (1 : Int) else 0) = 1
    split <;> simp
  | 7, _ =>
    show (if _ then (1 : Int) else 0) = 0 ∨ (if _ then (1 : Int) else 0) = 1
    split <;> simp
  | 8, _ =>
    show (if _ then (0 : Int) else 1) = 0 ∨ (if _ then (0 : Int) else 1) = 1
    split <;> simp
  | 9, _ =>
    show (if _ then (0 : Int) else 1) = 0 ∨ (if _ then (0 : Int) else 1) = 1
    split <;> simp
  | n + 10, h => omega
theorem ite01 {P : Prop} [Decidable P] : (if P then (1 : Int) else 0) = 0 ∨ (if P then (1 : Int) else 0) = 1 := by split <;> simp
theorem jnd_sum {op : Nat} {x y : Int} (h : 15 ≤ op ∧ op ≤ 21) (hx : -1000000 ≤ x ∧ x ≤ 1000000) (hy : -1000000 ≤ y ∧ y ≤ 1000000) : -1000000 ≤ jnd op x y ∧ jnd op x y ≤ 1000000 := by
  have h1 : op = 15 ∨ op = 16 ∨ op = 17 ∨ op = 18 ∨ op = 19 ∨ op = 20 ∨ op = 21 := by omega
  rcases h1 with rfl | rfl | rfl | rfl | rfl | rfl | rfl
  · exact hld_le _
  · exact hld_le _
  · exact hld_le _
  · show -1000000 ≤ (if y = 0 then (0 : Int) else x.fdiv y) ∧ (if y = 0 then (0 : Int) else x.fdiv y) ≤ 1000000
    split
    · omega
    · next h => exact fd_le hx h
  · show -1000000 ≤ (if y = 0 then (0 : Int) else x.fmod y) ∧ (if y = 0 then (0 : Int) else x.fmod y) ≤ 1000000
    split
    · omega
    · next h => exact fm_le h hy
  · show -1000000 ≤ (if x < y then x else y) ∧ (if x < y then x else y) ≤ 1000000
    split <;> omega
  · show -1000000 ≤ (if y < x then x else y) ∧ (if y < x then x else y) ≤ 1000000
    split <;> omega
theorem jnd_cmp {op : Nat} {x y : Int} (h : 22 ≤ op ∧ op ≤ 24) : jnd op x y = 0 ∨ jnd op x y = 1 := by
  have h1 : op = 22 ∨ op = 23 ∨ op = 24 := by omega
  rcases h1 with rfl | rfl | rfl
  · exact ite01
  · exact ite01
  · exact ite01
theorem jnd_log {op : Nat} {x y : Int} (h : op = 25 ∨ op = 26) (hx : x = 0 ∨ x = 1) (hy : y = 0 ∨ y = 1) : jnd op x y = 0 ∨ jnd op x y = 1 := by
  rcases h with rfl | rfl
  · show x * y = 0 ∨ x * y = 1
    rcases hx with rfl | rfl <;> rcases hy with rfl | rfl <;> simp
  · exact ite01
theorem stR_ty {S : STY} {c : SC} (hE : WfE S c) {q : Nat × Nat} (hq : OkQ S q) {ts ts' : List Bool} {stk : List Int} (ht : tySt q ts = some ts') (hs : TyS ts stk) : ∃ stk', stR (nW S) c q stk = some stk' ∧ TyS ts' stk' := by
  unfold tySt at ht
  unfold stR
  by_cases h2 : q.1 ≤ 2
  · rw [if_pos h2] at ht
    cases ht
    rw [if_pos (by omega)]
    refine ⟨_, rfl, ?_, hs⟩
    have := leafS_ty hE hq (by omega)
    rwa [show decide (2 < q.1) = false from decide_eq_false (by omega)] at this
  rw [if_neg h2] at ht
  by_cases h9 : q.1 ≤ 9
  · rw [if_pos h9] at ht
    cases ht
    rw [if_pos h9]
    refine ⟨_, rfl, ?_, hs⟩
    have := leafS_ty hE hq h9
    rwa [show decide (2 < q.1) = true from decide_eq_true (by omega)] at this
  rw [if_neg h9] at ht ⊢
  by_cases h27 : q.1 = 27
  · rw [if_pos h27] at ht ⊢
    split at ht
    · next t =>
      cases ht
      match stk, hs with
      | x :: s, hs =>
        refine ⟨_, rfl, ?_, hs.2⟩
        have := hs.1
        show 1 - x = 0 ∨ 1 - x = 1
        have h3 : x = 0 ∨ x = 1 := hs.1
        omega
    · cases ht
  rw [if_neg h27] at ht ⊢
  by_cases h15 : 15 ≤ q.1 ∧ q.1 ≤ 21
  · rw [if_pos h15] at ht
    split at ht
    · next t =>
      cases ht
      match stk, hs with
      | y :: x :: s, hs =>
        exact ⟨_, rfl, jnd_sum h15 hs.2.1 hs.1, hs.2.2⟩
    · cases ht
  rw [if_neg h15] at ht
  by_cases h22 : 22 ≤ q.1 ∧ q.1 ≤ 24
  · rw [if_pos h22] at ht
    split at ht
    · next t =>
      cases ht
      match stk, hs with
      | y :: x :: s, hs =>
        exact ⟨_, rfl, jnd_cmp h22, hs.2.2⟩
    · cases ht
  rw [if_neg h22] at ht
  by_cases h25 : q.1 = 25 ∨ q.1 = 26
  · rw [if_pos h25] at ht
    split at ht
    · next t =>
      cases ht
      match stk, hs with
      | y :: x :: s, hs =>
        exact ⟨_, rfl, jnd_log h25 hs.2.1 hs.1, hs.2.2⟩
    · cases ht
  rw [if_neg h25] at ht
  cases ht
theorem runR_ty {S : STY} {c : SC} (hE : WfE S c) : ∀ (l : List (Nat × Nat)) (ts ts' : List Bool) (stk : List Int), (∀ q, q ∈ l → OkQ S q) → tyL l ts = some ts' → TyS ts stk → ∃ stk', runR (nW S) c l stk = some stk' ∧ TyS ts' stk'
  | [], ts, ts', stk, _, ht, hs => by
    cases ht
    exact ⟨_, rfl, hs⟩
  | q :: l, ts, ts', stk, hq, ht, hs => by
    have ht : (match tySt q ts with
      | some t => tyL l t
      | none => none) = some ts' := ht
    cases h : tySt q ts with
    | none => rw [h] at ht; cases ht
    | some t =>
      rw [h] at ht
      obtain ⟨s1, e1, g1⟩ := stR_ty hE (hq q List.mem_cons_self) h hs
      obtain ⟨s2, e2, g2⟩ := runR_ty hE l t ts' s1 (fun q h => hq q (List.mem_cons_of_mem _ h)) ht g1
      refine ⟨s2, ?_, g2⟩
      show (match stR (nW S) c q stk with
        | some s' => runR (nW S) c l s'
        | none => none) = _
      rw [e1]
      exact e2
