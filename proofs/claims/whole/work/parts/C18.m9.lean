/-! THE CLASS: a minute is noted; a turn -/
theorem c_leavesOutU {X : List Int} {d : Nat} {st dr rd : Int} {a s b : C3} {u : Nat} (hk : hkS (u + 8)) (p : Nat) (hp : p < 30) (x : Nat) (hx : x < 1073741824) (ha : a (u + 8) 2 = (x : Int)) : Ev X d 81 0 [Vr ((u : Int) + 8), Vi (p : Int)] [] (SHv st dr rd, ovl a s b) (fun rr hh => rr = some (Vi (if x.testBit p = true then 1 else 0)) ∧ hh = (SHv st dr rd, ovl a s b)) := by
  have e : (u : Int) + 8 = ((u + 8 : Nat) : Int) := by omega
  rw [e]
  exact c_leavesOut hk p hp x hx ha
theorem cntT_s {S : STY} {p : Nat} {f : Bool} {r : Nat} : cntT S p f (r + 1) = cntT S p f r + if isT S p f r = true then 1 else 0 := rfl
theorem cntT_mono {S : STY} {p : Nat} {f : Bool} {r : Nat} : ∀ n, r ≤ n → cntT S p f r ≤ cntT S p f n
  | 0, h => by rw [show r = 0 by omega]; exact Nat.le_refl _
  | n + 1, h => by
    by_cases g : r = n + 1
    · rw [g]; exact Nat.le_refl _
    · have := cntT_mono (S := S) (p := p) (f := f) n (show r ≤ n by omega)
      rw [cntT_s]
      split <;> omega
theorem cntT_no {S : STY} {p : Nat} {f : Bool} {r n : Nat} (h : cntT S p f r = cntT S p f n) {x : Nat} (h1 : r ≤ x) (h2 : x < n) : isT S p f x = false := by
  have a1 := cntT_mono (S := S) (p := p) (f := f) x h1
  have a2 := cntT_mono (S := S) (p := p) (f := f) n (show x + 1 ≤ n from h2)
  rw [cntT_s] at a2
  cases hx : isT S p f x with
  | false => rfl
  | true =>
    rw [hx, if_pos rfl] at a2
    omega
theorem nxT {S : STY} {p : Nat} {f : Bool} {n : Nat} (r : Nat) (hr : r ≤ n) (h : cntT S p f r < cntT S p f n) : ∃ q, r ≤ q ∧ q < n ∧ isT S p f q = true ∧ cntT S p f q = cntT S p f r ∧ ∀ x, r ≤ x → x < q → isT S p f x = false := by
  induction hk : n - r using Nat.strongRecOn generalizing r with
  | ind k ih =>
    by_cases g : r = n
    · rw [g] at h; omega
    · cases hx : isT S p f r with
      | true => exact ⟨r, Nat.le_refl r, by omega, hx, rfl, fun x h1 h2 => absurd h1 (by omega)⟩
      | false =>
        have e : cntT S p f (r + 1) = cntT S p f r := by rw [cntT_s, hx]; rfl
        obtain ⟨q, h1, h2, h3, h4, h5⟩ := ih (n - (r + 1)) (by omega) (r + 1) (by omega) (by omega) rfl
        refine ⟨q, by omega, h2, h3, by omega, fun x g1 g2 => ?_⟩
        by_cases g3 : x = r
        · rw [g3]; exact hx
        · exact h5 x (by omega) g2
theorem felsS_s {S : STY} {B : SC} {p : Nat} {c : SC} {r : Nat} : felsS S B p c (r + 1) = felS S B p (felsS S B p c r) r := rfl
theorem isT_t {S : STY} {p r : Nat} : isT S p true r = true ↔ S.1 12 r = (p : Int) ∧ S.1 11 r = 4 := by
  by_cases h1 : S.1 12 r = (p : Int) <;> by_cases h2 : S.1 11 r = 4 <;> simp [isT, h1, h2]
theorem isT_f {S : STY} {p r : Nat} : isT S p false r = true ↔ S.1 12 r = (p : Int) ∧ S.1 11 r ≠ 4 := by
  by_cases h1 : S.1 12 r = (p : Int) <;> by_cases h2 : S.1 11 r = 4 <;> simp [isT, h1, h2]
theorem felsS_sk {S : STY} {B : SC} {p : Nat} {c : SC} {r : Nat} : ∀ q, r ≤ q → (∀ x, r ≤ x → x < q → isT S p true x = false) → felsS S B p c q = felsS S B p c r
  | 0, h, _ => by rw [show r = 0 by omega]
  | q + 1, h, hx => by
    by_cases g : r = q + 1
    · rw [g]
    · rw [felsS_s]
      unfold felS
      rw [if_neg (fun h2 => by have := isT_t.mpr ⟨h2.1, h2.2.2.1⟩; rw [hx q (by omega) (by omega)] at this; cases this)]
      exact felsS_sk q (by omega) (fun x h1 h2 => hx x h1 (by omega))
theorem actS_sk {S : STY} {B : SC} {p : Nat} {c : SC} {r : Nat} (h0 : actS S B p c r = none) : ∀ q, r ≤ q → (∀ x, r ≤ x → x < q → isT S p false x = false) → actS S B p c q = none
  | 0, h, _ => by rw [← show r = 0 by omega]; exact h0
  | q + 1, h, hx => by
    by_cases g : r = q + 1
    · rw [← g]; exact h0
    · rw [actS_s (actS_sk h0 q (by omega) (fun x h1 h2 => hx x h1 (by omega)))]
      rw [if_neg (fun h2 => by have := isT_f.mpr ⟨h2.1, h2.2.2.1⟩; rw [hx q (by omega) (by omega)] at this; cases this)]
theorem wth_01 {S : STY} {c : SC} {l : List (Nat × Nat)} (hE : WfE S c) (hok : ∀ q, q ∈ l → OkQ S q) (hty : tyL l [] = some [true]) : wth (nW S) c l = 0 ∨ wth (nW S) c l = 1 := by
  obtain ⟨stk, h1, h2⟩ := runR_ty hE l [] [true] [] hok hty trivial
  unfold wth
  rw [h1]
  match stk, h2 with
  | x :: t, h2 => exact h2.1
theorem c_eNoteMinute_l {X : List Int} {d : Nat} {st dr rd : Int} {a s b : C3} {u : Nat} (hu : huS u) (m : Nat) (hm : m < 180) (x g : Nat → Nat) (hx : ∀ i, i < 8 → x i < 16) (hg : ∀ i, i < 8 → g i < 256) {a0 : C3} (ha : ∀ i, i < 8 → a0 (u + 2) i = (x i : Int)) (hb : ∀ i, i < 8 → a0 (u + 5) i = (g i : Int)) {Q : Option pm_V → pm_H → Prop} (K : ∀ a2 : C3, FrO (u + 11) (u + 12) a0 a2 → a2 (u + 11) m = b32 (pkD 4 x 8) → a2 (u + 12) m = b64 (pkD 8 g 8) → (∀ j, j ≠ m → a2 (u + 11) j = a0 (u + 11) j ∧ a2 (u + 12) j = a0 (u + 12) j) → Ev X (d + 1) 103 74 [Vr (u : Int), Vi (m : Int), Vi 8] [] (SHv st dr rd, ovl a2 s b) Q) (i : Nat) (hi : i ≤ 8) (hf : FrO (u + 11) (u + 12) a0 a) (h11 : a (u + 11) m = b32 (pkD 4 x i)) (h12 : a (u + 12) m = b64 (pkD 8 g i)) (hn : ∀ j, j ≠ m → a (u + 11) j = a0 (u + 11) j ∧ a (u + 12) j = a0 (u + 12) j) : Ev X (d + 1) 103 16 [Vr (u : Int), Vi (m : Int), Vi (i : Int)] [] (SHv st dr rd, ovl a s b) (Q) := by
  induction hkk : (8 - i) using Nat.strongRecOn generalizing i a with
  | ind kk ih =>
    have hu0 : u = 119 ∨ u = 142 := hu
    have q2 : a (u + 2) = a0 (u + 2) := hf _ (by omega)
    have q5 : a (u + 5) = a0 (u + 5) := hf _ (by omega)
    refine Ev.ite (P := 8 ≤ (i : Int)) (k := 3) (a := 74) (b := 22) (L' := [Vr (u : Int), Vi (m : Int), Vi (i : Int)]) (S' := []) (h' := ((SHv st dr rd), (ovl a s b))) (fun _ => rfl) (fun b19 => ?_) (fun b19 => ?_)
    · obtain rfl : i = 8 := by omega
      exact K a hf h11 h12 hn
    · refine Ev.steps (k := 1) (pc' := 23) (L' := [Vr (u : Int), Vi (m : Int), Vi (i : Int)]) (S' := [Vr (u : Int)]) (h' := ((SHv st dr rd), (ovl a s b))) (fun _ => rfl) ?_
      refine Ev.getr (r := ((u : Int) + 11)) rfl rfl (by omega) (shU_0 hu) rfl rfl rfl ?_
      refine Ev.steps (k := 2) (pc' := 28) (L' := [Vr (u : Int), Vi (m : Int), Vi (i : Int)]) (S' := [Vi (m : Int), Vr ((u : Int) + 11), Vi (m : Int), Vr ((u : Int) + 11)]) (h' := ((SHv st dr rd), (ovl a s b))) (fun _ => rfl) ?_
      refine Ev.iald (v := (b32 (pkD 4 x i))) rfl (by omega) (shU_11 hu) (by omega) (by omega) ((ovl_rc (by omega)).trans (h11)) ?_
      refine Ev.steps (k := 1) (pc' := 30) (L' := [Vr (u : Int), Vi (m : Int), Vi (i : Int)]) (S' := [Vr (u : Int), Vi (b32 (pkD 4 x i)), Vi (m : Int), Vr ((u : Int) + 11)]) (h' := ((SHv st dr rd), (ovl a s b))) (fun _ => rfl) ?_
      refine Ev.getr (r := ((u : Int) + 1)) rfl rfl (by omega) (shU_0 hu) rfl rfl rfl ?_
      refine Ev.getr (r := ((u : Int) + 2)) rfl rfl (by omega) (shU_1 hu) rfl rfl rfl ?_
      refine Ev.steps (k := 1) (pc' := 37) (L' := [Vr (u : Int), Vi (m : Int), Vi (i : Int)]) (S' := [Vi (i : Int), Vr ((u : Int) + 2), Vi (b32 (pkD 4 x i)), Vi (m : Int), Vr ((u : Int) + 11)]) (h' := ((SHv st dr rd), (ovl a s b))) (fun _ => rfl) ?_
      refine Ev.iald (v := (a (u + 2) i)) rfl (by omega) (shU_2 hu) (by omega) (by omega) (ovl_rc (by omega)) ?_
      refine Ev.steps (k := 3) (pc' := 41) (L' := [Vr (u : Int), Vi (m : Int), Vi (i : Int)]) (S' := [Vi (w32 ((i : Int) * 4)), Vi (a (u + 2) i), Vi (b32 (pkD 4 x i)), Vi (m : Int), Vr ((u : Int) + 11)]) (h' := ((SHv st dr rd), (ovl a s b))) (fun _ => rfl) ?_
      rw [show (w32 ((i : Int) * 4)) = ((4 * i : Nat) : Int) from (by unfold w32; omega)]
      refine Ev.steps (k := 2) (pc' := 43) (L' := [Vr (u : Int), Vi (m : Int), Vi (i : Int)]) (S' := [Vi (i_or (b32 (pkD 4 x i)) (i_shl (a (u + 2) i) ((4 * i : Nat) : Int))), Vi (m : Int), Vr ((u : Int) + 11)]) (h' := ((SHv st dr rd), (ovl a s b))) (fun _ => rfl) ?_
      rw [show (i_or (b32 (pkD 4 x i)) (i_shl (a (u + 2) i) ((4 * i : Nat) : Int))) = (b32 (pkD 4 x (i + 1))) from (by rw [q2, ha i (by omega), ← b32_s (x := x i) (by have := hx i (by omega); omega), b32_shl (by omega), b32_or, pkD_or (fun j hj => hx j (by omega))])]
      refine Ev.iast (c' := (ovl (updC a (u + 11) m (b32 (pkD 4 x (i + 1)))) s b)) rfl (by omega) (shU_11 hu) (by omega) (by omega) (ovl_wc (by omega)) ?_
      refine Ev.steps (k := 1) (pc' := 45) (L' := [Vr (u : Int), Vi (m : Int), Vi (i : Int)]) (S' := [Vr (u : Int)]) (h' := ((SHv st dr rd), (ovl (updC a (u + 11) m (b32 (pkD 4 x (i + 1)))) s b))) (fun _ => rfl) ?_
      refine Ev.getr (r := ((u : Int) + 12)) rfl rfl (by omega) (shU_0 hu) rfl rfl rfl ?_
      refine Ev.steps (k := 2) (pc' := 50) (L' := [Vr (u : Int), Vi (m : Int), Vi (i : Int)]) (S' := [Vi (m : Int), Vr ((u : Int) + 12), Vi (m : Int), Vr ((u : Int) + 12)]) (h' := ((SHv st dr rd), (ovl (updC a (u + 11) m (b32 (pkD 4 x (i + 1)))) s b))) (fun _ => rfl) ?_
      refine Ev.lald (v := (b64 (pkD 8 g i))) rfl (by omega) (shU_12 hu) (by omega) (by omega) (((ovl_rc (by omega)).trans (by show (updC a (u + 11) m (b32 (pkD 4 x (i + 1)))) (u + 12) m = _; rw [updC_nt (by omega)])).trans (h12)) ?_
      refine Ev.steps (k := 1) (pc' := 52) (L' := [Vr (u : Int), Vi (m : Int), Vi (i : Int)]) (S' := [Vr (u : Int), Vl (b64 (pkD 8 g i)), Vi (m : Int), Vr ((u : Int) + 12)]) (h' := ((SHv st dr rd), (ovl (updC a (u + 11) m (b32 (pkD 4 x (i + 1)))) s b))) (fun _ => rfl) ?_
      refine Ev.getr (r := ((u : Int) + 1)) rfl rfl (by omega) (shU_0 hu) rfl rfl rfl ?_
      refine Ev.getr (r := ((u : Int) + 5)) rfl rfl (by omega) (shU_1 hu) rfl rfl rfl ?_
      refine Ev.steps (k := 1) (pc' := 59) (L' := [Vr (u : Int), Vi (m : Int), Vi (i : Int)]) (S' := [Vi (i : Int), Vr ((u : Int) + 5), Vl (b64 (pkD 8 g i)), Vi (m : Int), Vr ((u : Int) + 12)]) (h' := ((SHv st dr rd), (ovl (updC a (u + 11) m (b32 (pkD 4 x (i + 1)))) s b))) (fun _ => rfl) ?_
      refine Ev.iald (v := (a (u + 5) i)) rfl (by omega) (shU_5 hu) (by omega) (by omega) ((ovl_rc (by omega)).trans (by show (updC a (u + 11) m (b32 (pkD 4 x (i + 1)))) (u + 5) i = _; rw [updC_nt (by omega)])) ?_
      refine Ev.steps (k := 4) (pc' := 65) (L' := [Vr (u : Int), Vi (m : Int), Vi (i : Int)]) (S' := [Vi (w32 ((i : Int) * 8)), Vl (a (u + 5) i), Vl (b64 (pkD 8 g i)), Vi (m : Int), Vr ((u : Int) + 12)]) (h' := ((SHv st dr rd), (ovl (updC a (u + 11) m (b32 (pkD 4 x (i + 1)))) s b))) (fun _ => rfl) ?_
      rw [show (w32 ((i : Int) * 8)) = ((8 * i : Nat) : Int) from (by unfold w32; omega)]
      refine Ev.steps (k := 2) (pc' := 67) (L' := [Vr (u : Int), Vi (m : Int), Vi (i : Int)]) (S' := [Vl (l_or (b64 (pkD 8 g i)) (l_shl (a (u + 5) i) ((8 * i : Nat) : Int))), Vi (m : Int), Vr ((u : Int) + 12)]) (h' := ((SHv st dr rd), (ovl (updC a (u + 11) m (b32 (pkD 4 x (i + 1)))) s b))) (fun _ => rfl) ?_
      rw [show (l_or (b64 (pkD 8 g i)) (l_shl (a (u + 5) i) ((8 * i : Nat) : Int))) = (b64 (pkD 8 g (i + 1))) from (by rw [q5, hb i (by omega), ← b64_s (x := g i) (by have := hg i (by omega); omega), b64_shl (by omega), b64_or, pkD_or (fun j hj => hg j (by omega))])]
      refine Ev.last (c' := (ovl (updC (updC a (u + 11) m (b32 (pkD 4 x (i + 1)))) (u + 12) m (b64 (pkD 8 g (i + 1)))) s b)) rfl (by omega) (shU_12 hu) (by omega) (by omega) (ovl_wc (by omega)) ?_
      refine Ev.steps (k := 1) (pc' := 71) (L' := [Vr (u : Int), Vi (m : Int), Vi (w32 ((i : Int) + 1))]) (S' := []) (h' := ((SHv st dr rd), (ovl (updC (updC a (u + 11) m (b32 (pkD 4 x (i + 1)))) (u + 12) m (b64 (pkD 8 g (i + 1)))) s b))) (fun _ => rfl) ?_
      rw [show (w32 ((i : Int) + 1)) = ((i : Int) + 1) from w32_id (by unfold R32; omega)]
      refine Ev.steps (k := 1) (pc' := 16) (L' := [Vr (u : Int), Vi (m : Int), Vi ((i : Int) + 1)]) (S' := []) (h' := ((SHv st dr rd), (ovl (updC (updC a (u + 11) m (b32 (pkD 4 x (i + 1)))) (u + 12) m (b64 (pkD 8 g (i + 1)))) s b))) (fun _ => rfl) ?_
      refine ih _ (by omega) (a := (updC (updC a (u + 11) m (b32 (pkD 4 x (i + 1)))) (u + 12) m (b64 (pkD 8 g (i + 1))))) (i + 1) (by omega) ((hf.up (by omega)).up (by omega)) ?_ ?_ (fun j hj => ?_) rfl
      · rw [updC_row (by omega), updC_sm]
      · rw [updC_sm]
      · rw [updC_row (by omega), updC_nt (by omega), updC_nt (by omega), updC_row (by omega)]
        exact hn j hj
theorem c_eNoteMinute {X : List Int} {d : Nat} {st dr rd : Int} {a s b : C3} {u : Nat} (hu : huS u) {S : STY} {E c : SC} (hC : RsC S c a u) (hWY : WfY S) (m : Nat) (hm : m < 180) (h5 : c 5 0 = (m : Int)) (hD : DyU S E a u c m (nW S)) (hc : c = aftS S E (m + 1)) (hH : HsH (nW S) (fun m => aftS S E (m + 1)) a u m) : Ev X (d + 1) 103 0 [Vr (u : Int), Vi (m : Int), Vx] [] (SHv st dr rd, ovl a s b) (fun rr hh => rr = none ∧ ∃ a' : C3, hh = (SHv st dr rd, ovl a' s b) ∧ FrO (u + 11) (u + 18) a a' ∧ a' (u + 13) = a (u + 13) ∧ DyU S E a' u c (m + 1) 0 ∧ HsH (nW S) (fun m => aftS S E (m + 1)) a' u (m + 1)) := by
  have hu0 : u = 119 ∨ u = 142 := hu
  have hW8 := hWY.2.2.1.1
  obtain ⟨q0, q1, q2, q3, q4, q5, q6, q7, q8, q9, q10⟩ := id hC
  refine Ev.steps (k := 1) (pc' := 1) (L' := [Vr (u : Int), Vi (m : Int), Vx]) (S' := [Vr (u : Int)]) (h' := ((SHv st dr rd), (ovl a s b))) (fun _ => rfl) ?_
  refine Ev.getr (r := ((u : Int) + 11)) rfl rfl (by omega) (shU_0 hu) rfl rfl rfl ?_
  refine Ev.steps (k := 2) (pc' := 6) (L' := [Vr (u : Int), Vi (m : Int), Vx]) (S' := [Vi 0, Vi (m : Int), Vr ((u : Int) + 11)]) (h' := ((SHv st dr rd), (ovl a s b))) (fun _ => rfl) ?_
  refine Ev.iast (c' := (ovl (updC a (u + 11) m 0) s b)) rfl (by omega) (shU_11 hu) (by omega) (by omega) (ovl_wc (by omega)) ?_
  refine Ev.steps (k := 1) (pc' := 8) (L' := [Vr (u : Int), Vi (m : Int), Vx]) (S' := [Vr (u : Int)]) (h' := ((SHv st dr rd), (ovl (updC a (u + 11) m 0) s b))) (fun _ => rfl) ?_
  refine Ev.getr (r := ((u : Int) + 12)) rfl rfl (by omega) (shU_0 hu) rfl rfl rfl ?_
  refine Ev.steps (k := 2) (pc' := 13) (L' := [Vr (u : Int), Vi (m : Int), Vx]) (S' := [Vl 0, Vi (m : Int), Vr ((u : Int) + 12)]) (h' := ((SHv st dr rd), (ovl (updC a (u + 11) m 0) s b))) (fun _ => rfl) ?_
  refine Ev.last (c' := (ovl (updC (updC a (u + 11) m 0) (u + 12) m 0) s b)) rfl (by omega) (shU_12 hu) (by omega) (by omega) (ovl_wc (by omega)) ?_
  refine Ev.steps (k := 2) (pc' := 16) (L' := [Vr (u : Int), Vi (m : Int), Vi 0]) (S' := []) (h' := ((SHv st dr rd), (ovl (updC (updC a (u + 11) m 0) (u + 12) m 0) s b))) (fun _ => rfl) ?_
  refine c_eNoteMinute_l hu m hm (fun i => (a (u + 2) i).toNat) (fun r => livB (nW S) c r) (fun i hi => by have := q1 i hi; show (a (u + 2) i).toNat < 16; omega) (fun i hi => livB_lt hW8) (a0 := (updC (updC a (u + 11) m 0) (u + 12) m 0)) (fun i hi => by have := q1 i hi; rw [updC_row (by omega), updC_row (by omega)]; exact (Int.toNat_of_nonneg this.1).symm) (fun i hi => by rw [updC_row (by omega), updC_row (by omega)]; exact q6 i hi) (fun a2 k1 k2 k3 k4 => ?_) 0 (by omega) FrO.rf (by rw [updC_row (by omega), updC_sm]; rfl) (by rw [updC_sm]; rfl) (fun _ _ => ⟨rfl, rfl⟩)
  have F : ∀ o, o < u + 11 ∨ u + 12 < o → a2 o = a o := fun o ho => by rw [k1 o ho, updC_row (by omega), updC_row (by omega)]
  have hH2 : HsH (nW S) (fun m => aftS S E (m + 1)) a2 u (m + 1) := fun j hj => by
    by_cases g : j = m
    · subst g
      refine ⟨fun i => (a (u + 2) i).toNat, fun i hi => ?_, fun p hp => ?_, k2, ?_⟩
      · have := q1 i hi
        show (a (u + 2) i).toNat < 8
        omega
      · show (((a (u + 2) p).toNat : Nat) : Int) = aftS S E (j + 1) 0 p
        rw [← hc, ← q0 p hp]
        exact Int.toNat_of_nonneg (q1 p (by omega)).1
      · rw [k3, hc]
    · obtain ⟨k5, k6⟩ := k4 j g
      rw [k5, k6, updC_row (o := u + 12) (by omega), updC_nt (by omega), updC_nt (by omega), updC_row (by omega)]
      exact hH j (by omega)
  refine Ev.steps (k := 1) (pc' := 75) (L' := [Vr (u : Int), Vi (m : Int), Vi 8]) (S' := [Vr (u : Int)]) (h' := ((SHv st dr rd), (ovl a2 s b))) (fun _ => rfl) ?_
  refine Ev.getr (r := ((u : Int) + 14)) rfl rfl (by omega) (shU_0 hu) rfl rfl rfl ?_
  refine Ev.steps (k := 1) (pc' := 79) (L' := [Vr (u : Int), Vi (m : Int), Vi 8]) (S' := [Vr (u : Int), Vr ((u : Int) + 14)]) (h' := ((SHv st dr rd), (ovl a2 s b))) (fun _ => rfl) ?_
  refine Ev.getr (r := ((u : Int) + 1)) rfl rfl (by omega) (shU_0 hu) rfl rfl rfl ?_
  refine Ev.call (k := 0) (pc1 := 82) (L1 := [Vr (u : Int), Vi (m : Int), Vi 8]) (S1 := [Vr ((u : Int) + 1), Vr ((u : Int) + 14)]) (h1 := ((SHv st dr rd), (ovl a2 s b))) (m' := 104) (as := [Vr ((u : Int) + 14), Vr ((u : Int) + 1)]) (S' := []) (L0 := [Vr ((u : Int) + 14), Vr ((u : Int) + 1), Vx, Vx]) (fun _ => rfl) rfl rfl rfl rfl (stpC_of rfl (pm_recv_of (by omega) (shU_14 hu))) rfl (c_dNoteMinute hu (hC.fr (fun o g1 g2 => F o (by omega))) hWY m hm h5 (hD.fr (fun o g1 g2 => F o (by omega)) rfl rfl) hc) (fun r h' hq => ?_)
  obtain ⟨rfl, a3, rfl, g1, g2⟩ := hq
  show Ev X _ _ 85 [Vr (u : Int), Vi (m : Int), Vi 8] [] ((SHv st dr rd), (ovl a3 s b)) _
  refine Ev.fin (k := 1) (r := none) (h' := ((SHv st dr rd), (ovl a3 s b))) (fun _ => rfl) ?_
  refine ⟨rfl, a3, rfl, fun o ho => ?_, ?_, g2, hH2.fr (g1 _ (by omega)) (g1 _ (by omega))⟩
  · rw [g1 o (by omega), F o (by omega)]
  · rw [g1 (u + 13) (by omega), F (u + 13) (by omega)]
theorem c_turn_f {X : List Int} {d : Nat} {st dr rd : Int} {a s b : C3} {u : Nat} (hu : huS u) {y : Nat} (hy : hyS y) {S : STY} {E : SC} (hWY : WfY S) (p f0 f1 f2 n : Nat) (hp : p < nW S) {c0 : SC} (hK0 : WfK S c0 n) {a0 : C3} (hseg : SgT S a0 y p true f0 f1) (hRA : ∀ r, r < nL S → RuC S a0 y r) (xo : Nat) (hxo : xo < 1073741824) (hxa : a0 (u + 8) 2 = (xo : Int)) (hxb : ∀ r, r < nL S → (xo.testBit r = true ↔ E 2 r ≠ 0)) {Q : Option pm_V → pm_H → Prop} (K : ∀ (a2 : C3) (i2 : Nat) (z : pm_V), RsC S (felsS S E p c0 (nL S)) a2 u → FrO (u + 1) (u + 7) a0 a2 → Ev X (d + 4) 80 129 [Vr (u : Int), Vr (y : Int), Vi (p : Int), Vi (f1 : Int), Vi (f2 : Int), Vi (i2 : Int), z] [] (SHv st dr rd, ovl a2 s b) Q) (r i : Nat) (z : pm_V) (hr : r ≤ nL S) (hi : i = f0 + cntT S p true r) (hF : FrO (u + 1) (u + 7) a0 a) (hC : RsC S (felsS S E p c0 r) a u) : Ev X (d + 4) 80 33 [Vr (u : Int), Vr (y : Int), Vi (p : Int), Vi (f1 : Int), Vi (f2 : Int), Vi (i : Int), z] [] (SHv st dr rd, ovl a s b) (Q) := by
  induction hkk : (nL S - r) using Nat.strongRecOn generalizing r i z a with
  | ind kk ih =>
    have hu0 : u = 119 ∨ u = 142 := hu
    have hy0 : y = 2 ∨ y = 58 := hy
    have hk8 : hkS (u + 8) := by show u + 8 = 8 ∨ u + 8 = 64 ∨ u + 8 = 116 ∨ u + 8 = 127 ∨ u + 8 = 150 ∨ u + 8 = 161; omega
    have hL30 := hWY.2.2.2.2.1.1
    have hW8 := hWY.2.2.1.1
    have hmo := cntT_mono (S := S) (p := p) (f := true) (nL S) hr
    refine Ev.ite (P := (f1 : Int) ≤ (i : Int)) (k := 3) (a := 129) (b := 39) (L' := [Vr (u : Int), Vr (y : Int), Vi (p : Int), Vi (f1 : Int), Vi (f2 : Int), Vi (i : Int), z]) (S' := []) (h' := ((SHv st dr rd), (ovl a s b))) (fun _ => rfl) (fun b36 => ?_) (fun b36 => ?_)
    · have e0 : felsS S E p c0 (nL S) = felsS S E p c0 r := felsS_sk (nL S) hr (fun x h1 h2 => cntT_no (by have := hseg.1; omega) h1 h2)
      rw [← e0] at hC
      exact K a i z hC hF
    · obtain ⟨q, n1, n2, n3, n4, n5⟩ := nxT r hr (show cntT S p true r < cntT S p true (nL S) by have := hseg.1; omega)
      have hsg : SgT S a y p true f0 f1 := by unfold SgT at hseg ⊢; rw [hF (y + 12) (by omega)]; exact hseg
      have hq12 : a (y + 12) i = (q : Int) := by rw [hi, ← n4]; exact hsg.2.2 q n2 n3
      have hRu : RuC S a y q := by
        have := hRA q n2
        unfold RuC at this ⊢
        rw [hF (y + 14 + q) (by omega), hF (y + 11) (by omega)]
        exact this
      obtain ⟨-, -, -, -, l0, l1, l2, v5, v6, v7, v8, v9, v10⟩ := id hRu
      obtain ⟨-, -, -, -, -, hq5, hq6, hq7⟩ := hWY.2.2.2.2.2.2.2.2.2.2.2 q n2
      have h4 := isT_t.mp n3
      have v10 := v10 h4.2
      have hq7 := hq7 h4.2
      have hlo : a (u + 8) 2 = (xo : Int) := by rw [hF (u + 8) (by omega)]; exact hxa
      have hseg1 := hseg.2.1
      have e0 : felsS S E p c0 q = felsS S E p c0 r := felsS_sk q n1 n5
      rw [← e0] at hC
      obtain ⟨hK, hK5, hKl⟩ := felsS_wf (B := E) (p := p) hK0 q
      have hWC := hK.1
      have hsum := wth_sum hWC.wfe hq7.1 hq7.2
      have ht01 := wth_01 hWC.wfe hq5 hq6
      have ecn : cntT S p true (q + 1) = cntT S p true r + 1 := by rw [cntT_s, n3, n4]; rfl
      refine Ev.steps (k := 1) (pc' := 40) (L' := [Vr (u : Int), Vr (y : Int), Vi (p : Int), Vi (f1 : Int), Vi (f2 : Int), Vi (i : Int), z]) (S' := [Vr (y : Int)]) (h' := ((SHv st dr rd), (ovl a s b))) (fun _ => rfl) ?_
      refine Ev.getr (r := ((y : Int) + 9)) rfl rfl (by omega) (shY_0 hy) rfl rfl rfl ?_
      refine Ev.steps (k := 1) (pc' := 44) (L' := [Vr (u : Int), Vr (y : Int), Vi (p : Int), Vi (f1 : Int), Vi (f2 : Int), Vi (i : Int), z]) (S' := [Vr (y : Int), Vr ((y : Int) + 9)]) (h' := ((SHv st dr rd), (ovl a s b))) (fun _ => rfl) ?_
      refine Ev.getr (r := ((y : Int) + 12)) rfl rfl (by omega) (shY_0 hy) rfl rfl rfl ?_
      refine Ev.steps (k := 1) (pc' := 49) (L' := [Vr (u : Int), Vr (y : Int), Vi (p : Int), Vi (f1 : Int), Vi (f2 : Int), Vi (i : Int), z]) (S' := [Vi (i : Int), Vr ((y : Int) + 12), Vr ((y : Int) + 9)]) (h' := ((SHv st dr rd), (ovl a s b))) (fun _ => rfl) ?_
      refine Ev.iald (v := (q : Int)) rfl (by omega) (shY_12 hy) (by omega) (by omega) ((ovl_rc (by omega)).trans (hq12)) ?_
      refine Ev.aald (r := ((y + 14 + q : Nat) : Int)) rfl (by omega) (shY_9 hy) rfl (by omega) (by omega) (ruL_at q (by omega)) ?_
      refine Ev.steps (k := 2) (pc' := 54) (L' := [Vr (u : Int), Vr (y : Int), Vi (p : Int), Vi (f1 : Int), Vi (f2 : Int), Vi (i : Int), Vr ((y + 14 + q : Nat) : Int)]) (S' := [Vr (u : Int)]) (h' := ((SHv st dr rd), (ovl a s b))) (fun _ => rfl) ?_
      refine Ev.getr (r := ((u : Int) + 8)) rfl rfl (by omega) (shU_0 hu) rfl rfl rfl ?_
      refine Ev.steps (k := 1) (pc' := 58) (L' := [Vr (u : Int), Vr (y : Int), Vi (p : Int), Vi (f1 : Int), Vi (f2 : Int), Vi (i : Int), Vr ((y + 14 + q : Nat) : Int)]) (S' := [Vr (y : Int), Vr ((u : Int) + 8)]) (h' := ((SHv st dr rd), (ovl a s b))) (fun _ => rfl) ?_
      refine Ev.getr (r := ((y : Int) + 12)) rfl rfl (by omega) (shY_0 hy) rfl rfl rfl ?_
      refine Ev.steps (k := 1) (pc' := 63) (L' := [Vr (u : Int), Vr (y : Int), Vi (p : Int), Vi (f1 : Int), Vi (f2 : Int), Vi (i : Int), Vr ((y + 14 + q : Nat) : Int)]) (S' := [Vi (i : Int), Vr ((y : Int) + 12), Vr ((u : Int) + 8)]) (h' := ((SHv st dr rd), (ovl a s b))) (fun _ => rfl) ?_
      refine Ev.iald (v := (q : Int)) rfl (by omega) (shY_12 hy) (by omega) (by omega) ((ovl_rc (by omega)).trans (hq12)) ?_
      refine Ev.call (k := 0) (pc1 := 64) (L1 := [Vr (u : Int), Vr (y : Int), Vi (p : Int), Vi (f1 : Int), Vi (f2 : Int), Vi (i : Int), Vr ((y + 14 + q : Nat) : Int)]) (S1 := [Vi (q : Int), Vr ((u : Int) + 8)]) (h1 := ((SHv st dr rd), (ovl a s b))) (m' := 81) (as := [Vr ((u : Int) + 8), Vi (q : Int)]) (S' := []) (L0 := [Vr ((u : Int) + 8), Vi (q : Int)]) (fun _ => rfl) rfl rfl rfl rfl (stpC_of rfl (pm_recv_of (by omega) (shU_8 hu))) rfl (c_leavesOutU hk8 q (by omega) xo hxo hlo) (fun r h' hq => ?_)
      obtain ⟨rfl, rfl⟩ := hq
      by_cases c64 : xo.testBit q = true
      · rw [if_pos c64]
        show Ev X _ _ 67 [Vr (u : Int), Vr (y : Int), Vi (p : Int), Vi (f1 : Int), Vi (f2 : Int), Vi (i : Int), Vr ((y + 14 + q : Nat) : Int)] [Vi 1] ((SHv st dr rd), (ovl a s b)) _
        refine Ev.steps (k := 2) (pc' := 126) (L' := [Vr (u : Int), Vr (y : Int), Vi (p : Int), Vi (f1 : Int), Vi (f2 : Int), Vi (w32 ((i : Int) + 1)), Vr ((y + 14 + q : Nat) : Int)]) (S' := []) (h' := ((SHv st dr rd), (ovl a s b))) (fun _ => rfl) ?_
        rw [show (w32 ((i : Int) + 1)) = ((i : Int) + 1) from w32_id (by unfold R32; omega)]
        refine Ev.steps (k := 1) (pc' := 33) (L' := [Vr (u : Int), Vr (y : Int), Vi (p : Int), Vi (f1 : Int), Vi (f2 : Int), Vi ((i : Int) + 1), Vr ((y + 14 + q : Nat) : Int)]) (S' := []) (h' := ((SHv st dr rd), (ovl a s b))) (fun _ => rfl) ?_
        refine ih _ (by omega) (q + 1) (i + 1) _ (by omega) (by omega) hF ?_ rfl
        rw [felsS_s]
        unfold felS
        rw [if_neg (fun h => (hxb q n2).mp c64 h.2.1)]
        exact hC
      · rw [if_neg c64]
        show Ev X _ _ 67 [Vr (u : Int), Vr (y : Int), Vi (p : Int), Vi (f1 : Int), Vi (f2 : Int), Vi (i : Int), Vr ((y + 14 + q : Nat) : Int)] [Vi 0] ((SHv st dr rd), (ovl a s b)) _
        refine Ev.steps (k := 2) (pc' := 71) (L' := [Vr (u : Int), Vr (y : Int), Vi (p : Int), Vi (f1 : Int), Vi (f2 : Int), Vi (i : Int), Vr ((y + 14 + q : Nat) : Int)]) (S' := [Vr (u : Int)]) (h' := ((SHv st dr rd), (ovl a s b))) (fun _ => rfl) ?_
        refine Ev.getr (r := ((u : Int) + 1)) rfl rfl (by omega) (shU_0 hu) rfl rfl rfl ?_
        refine Ev.steps (k := 1) (pc' := 75) (L' := [Vr (u : Int), Vr (y : Int), Vi (p : Int), Vi (f1 : Int), Vi (f2 : Int), Vi (i : Int), Vr ((y + 14 + q : Nat) : Int)]) (S' := [Vr (y : Int), Vr ((u : Int) + 1)]) (h' := ((SHv st dr rd), (ovl a s b))) (fun _ => rfl) ?_
        refine Ev.getr (r := ((y : Int) + 11)) rfl rfl (by omega) (shY_0 hy) rfl rfl rfl ?_
        refine Ev.steps (k := 1) (pc' := 80) (L' := [Vr (u : Int), Vr (y : Int), Vi (p : Int), Vi (f1 : Int), Vi (f2 : Int), Vi (i : Int), Vr ((y + 14 + q : Nat) : Int)]) (S' := [Vr ((y + 14 + q : Nat) : Int), Vr ((y : Int) + 11), Vr ((u : Int) + 1)]) (h' := ((SHv st dr rd), (ovl a s b))) (fun _ => rfl) ?_
        refine Ev.getf (v := (l1 : Int)) rfl rfl (by omega) (shRu hy (by omega)) rfl rfl ((ovl_rc (by omega)).trans (v6)) ?_
        refine Ev.steps (k := 1) (pc' := 85) (L' := [Vr (u : Int), Vr (y : Int), Vi (p : Int), Vi (f1 : Int), Vi (f2 : Int), Vi (i : Int), Vr ((y + 14 + q : Nat) : Int)]) (S' := [Vr ((y + 14 + q : Nat) : Int), Vi (l1 : Int), Vr ((y : Int) + 11), Vr ((u : Int) + 1)]) (h' := ((SHv st dr rd), (ovl a s b))) (fun _ => rfl) ?_
        refine Ev.getf (v := (l2 : Int)) rfl rfl (by omega) (shRu hy (by omega)) rfl rfl ((ovl_rc (by omega)).trans (v7)) ?_
        refine Ev.call (k := 0) (pc1 := 88) (L1 := [Vr (u : Int), Vr (y : Int), Vi (p : Int), Vi (f1 : Int), Vi (f2 : Int), Vi (i : Int), Vr ((y + 14 + q : Nat) : Int)]) (S1 := [Vi (l2 : Int), Vi (l1 : Int), Vr ((y : Int) + 11), Vr ((u : Int) + 1)]) (h1 := ((SHv st dr rd), (ovl a s b))) (m' := 82) (as := [Vr ((u : Int) + 1), Vr ((y : Int) + 11), Vi (l1 : Int), Vi (l2 : Int)]) (S' := []) (L0 := [Vr ((u : Int) + 1), Vr ((y : Int) + 11), Vi (l1 : Int), Vi (l2 : Int), Vx, Vx, Vx, Vx, Vx]) (fun _ => rfl) rfl rfl rfl rfl (stpC_of rfl (pm_recv_of (by omega) (shU_1 hu))) rfl (c_worth hu hy l1 l2 (S.2 (2 * q + 1)) true hWY hWC hC v9 v8 hq5 hq6) (fun r h' hq => ?_)
        obtain ⟨a1, rfl, rfl, w1⟩ := hq
        have hC1 := hC.fr (fun o g1 g2 => w1 o (by omega))
        show Ev X _ _ 91 [Vr (u : Int), Vr (y : Int), Vi (p : Int), Vi (f1 : Int), Vi (f2 : Int), Vi (i : Int), Vr ((y + 14 + q : Nat) : Int)] [Vi (wth (nW S) (felsS S E p c0 q) (S.2 (2 * q + 1)))] ((SHv st dr rd), (ovl a1 s b)) _
        refine Ev.ite (P := (wth (nW S) (felsS S E p c0 q) (S.2 (2 * q + 1))) = 0) (k := 1) (a := 123) (b := 94) (L' := [Vr (u : Int), Vr (y : Int), Vi (p : Int), Vi (f1 : Int), Vi (f2 : Int), Vi (i : Int), Vr ((y + 14 + q : Nat) : Int)]) (S' := []) (h' := ((SHv st dr rd), (ovl a1 s b))) (fun _ => rfl) (fun b91 => ?_) (fun b91 => ?_)
        · refine Ev.steps (k := 1) (pc' := 126) (L' := [Vr (u : Int), Vr (y : Int), Vi (p : Int), Vi (f1 : Int), Vi (f2 : Int), Vi (w32 ((i : Int) + 1)), Vr ((y + 14 + q : Nat) : Int)]) (S' := []) (h' := ((SHv st dr rd), (ovl a1 s b))) (fun _ => rfl) ?_
          rw [show (w32 ((i : Int) + 1)) = ((i : Int) + 1) from w32_id (by unfold R32; omega)]
          refine Ev.steps (k := 1) (pc' := 33) (L' := [Vr (u : Int), Vr (y : Int), Vi (p : Int), Vi (f1 : Int), Vi (f2 : Int), Vi ((i : Int) + 1), Vr ((y + 14 + q : Nat) : Int)]) (S' := []) (h' := ((SHv st dr rd), (ovl a1 s b))) (fun _ => rfl) ?_
          refine ih _ (by omega) (a := a1) (q + 1) (i + 1) _ (by omega) (by omega) (hF.tr (w1.wd (by omega) (by omega))) ?_ rfl
          rw [felsS_s]
          unfold felS
          rw [if_neg (fun h => by have := h.2.2.2; omega)]
          exact hC1
        · refine Ev.steps (k := 1) (pc' := 95) (L' := [Vr (u : Int), Vr (y : Int), Vi (p : Int), Vi (f1 : Int), Vi (f2 : Int), Vi (i : Int), Vr ((y + 14 + q : Nat) : Int)]) (S' := [Vr (u : Int)]) (h' := ((SHv st dr rd), (ovl a1 s b))) (fun _ => rfl) ?_
          refine Ev.getr (r := ((u : Int) + 1)) rfl rfl (by omega) (shU_0 hu) rfl rfl rfl ?_
          refine Ev.steps (k := 2) (pc' := 100) (L' := [Vr (u : Int), Vr (y : Int), Vi (p : Int), Vi (f1 : Int), Vi (f2 : Int), Vi (i : Int), Vr ((y + 14 + q : Nat) : Int)]) (S' := [Vr (u : Int), Vi (p : Int), Vr ((u : Int) + 1)]) (h' := ((SHv st dr rd), (ovl a1 s b))) (fun _ => rfl) ?_
          refine Ev.getr (r := ((u : Int) + 1)) rfl rfl (by omega) (shU_0 hu) rfl rfl rfl ?_
          refine Ev.steps (k := 1) (pc' := 104) (L' := [Vr (u : Int), Vr (y : Int), Vi (p : Int), Vi (f1 : Int), Vi (f2 : Int), Vi (i : Int), Vr ((y + 14 + q : Nat) : Int)]) (S' := [Vr (y : Int), Vr ((u : Int) + 1), Vi (p : Int), Vr ((u : Int) + 1)]) (h' := ((SHv st dr rd), (ovl a1 s b))) (fun _ => rfl) ?_
          refine Ev.getr (r := ((y : Int) + 11)) rfl rfl (by omega) (shY_0 hy) rfl rfl rfl ?_
          refine Ev.steps (k := 1) (pc' := 109) (L' := [Vr (u : Int), Vr (y : Int), Vi (p : Int), Vi (f1 : Int), Vi (f2 : Int), Vi (i : Int), Vr ((y + 14 + q : Nat) : Int)]) (S' := [Vr ((y + 14 + q : Nat) : Int), Vr ((y : Int) + 11), Vr ((u : Int) + 1), Vi (p : Int), Vr ((u : Int) + 1)]) (h' := ((SHv st dr rd), (ovl a1 s b))) (fun _ => rfl) ?_
          refine Ev.getf (v := (l0 : Int)) rfl rfl (by omega) (shRu hy (by omega)) rfl rfl ((ovl_rc (by omega)).trans (((congrFun (w1 (y + 14 + q) (by omega)) 4).trans v5))) ?_
          refine Ev.steps (k := 1) (pc' := 114) (L' := [Vr (u : Int), Vr (y : Int), Vi (p : Int), Vi (f1 : Int), Vi (f2 : Int), Vi (i : Int), Vr ((y + 14 + q : Nat) : Int)]) (S' := [Vr ((y + 14 + q : Nat) : Int), Vi (l0 : Int), Vr ((y : Int) + 11), Vr ((u : Int) + 1), Vi (p : Int), Vr ((u : Int) + 1)]) (h' := ((SHv st dr rd), (ovl a1 s b))) (fun _ => rfl) ?_
          refine Ev.getf (v := (l1 : Int)) rfl rfl (by omega) (shRu hy (by omega)) rfl rfl ((ovl_rc (by omega)).trans (((congrFun (w1 (y + 14 + q) (by omega)) 5).trans v6))) ?_
          refine Ev.call (k := 0) (pc1 := 117) (L1 := [Vr (u : Int), Vr (y : Int), Vi (p : Int), Vi (f1 : Int), Vi (f2 : Int), Vi (i : Int), Vr ((y + 14 + q : Nat) : Int)]) (S1 := [Vi (l1 : Int), Vi (l0 : Int), Vr ((y : Int) + 11), Vr ((u : Int) + 1), Vi (p : Int), Vr ((u : Int) + 1)]) (h1 := ((SHv st dr rd), (ovl a1 s b))) (m' := 82) (as := [Vr ((u : Int) + 1), Vr ((y : Int) + 11), Vi (l0 : Int), Vi (l1 : Int)]) (S' := [Vi (p : Int), Vr ((u : Int) + 1)]) (L0 := [Vr ((u : Int) + 1), Vr ((y : Int) + 11), Vi (l0 : Int), Vi (l1 : Int), Vx, Vx, Vx, Vx, Vx]) (fun _ => rfl) rfl rfl rfl rfl (stpC_of rfl (pm_recv_of (by omega) (shU_1 hu))) rfl (c_worth hu hy l0 l1 (S.2 (2 * q)) false hWY hWC hC1 (by rw [w1 (y + 11) (by omega)]; exact v10) (by have := v9.lt; omega) hq7.1 hq7.2) (fun r h' hq => ?_)
          obtain ⟨a2, rfl, rfl, g3⟩ := hq
          have hC2 := hC1.fr (fun o g1 g2 => g3 o (by omega))
          show Ev X _ _ 120 [Vr (u : Int), Vr (y : Int), Vi (p : Int), Vi (f1 : Int), Vi (f2 : Int), Vi (i : Int), Vr ((y + 14 + q : Nat) : Int)] [Vi (wth (nW S) (felsS S E p c0 q) (S.2 (2 * q))), Vi (p : Int), Vr ((u : Int) + 1)] ((SHv st dr rd), (ovl a2 s b)) _
          refine Ev.call (k := 0) (pc1 := 120) (L1 := [Vr (u : Int), Vr (y : Int), Vi (p : Int), Vi (f1 : Int), Vi (f2 : Int), Vi (i : Int), Vr ((y + 14 + q : Nat) : Int)]) (S1 := [Vi (wth (nW S) (felsS S E p c0 q) (S.2 (2 * q))), Vi (p : Int), Vr ((u : Int) + 1)]) (h1 := ((SHv st dr rd), (ovl a2 s b))) (m' := 91) (as := [Vr ((u : Int) + 1), Vi (p : Int), Vi (wth (nW S) (felsS S E p c0 q) (S.2 (2 * q)))]) (S' := []) (L0 := [Vr ((u : Int) + 1), Vi (p : Int), Vi (wth (nW S) (felsS S E p c0 q) (S.2 (2 * q)))]) (fun _ => rfl) rfl rfl rfl rfl (stpC_of rfl (pm_recv_of (by omega) (shU_1 hu))) rfl (c_feel hu hC2 hWY hWC p hp (wth (nW S) (felsS S E p c0 q) (S.2 (2 * q))) hsum) (fun r h' hq => ?_)
          obtain ⟨rfl, a3, rfl, g4, g5⟩ := hq
          show Ev X _ _ 123 [Vr (u : Int), Vr (y : Int), Vi (p : Int), Vi (f1 : Int), Vi (f2 : Int), Vi (i : Int), Vr ((y + 14 + q : Nat) : Int)] [] ((SHv st dr rd), (ovl a3 s b)) _
          refine Ev.steps (k := 1) (pc' := 126) (L' := [Vr (u : Int), Vr (y : Int), Vi (p : Int), Vi (f1 : Int), Vi (f2 : Int), Vi (w32 ((i : Int) + 1)), Vr ((y + 14 + q : Nat) : Int)]) (S' := []) (h' := ((SHv st dr rd), (ovl a3 s b))) (fun _ => rfl) ?_
          rw [show (w32 ((i : Int) + 1)) = ((i : Int) + 1) from w32_id (by unfold R32; omega)]
          refine Ev.steps (k := 1) (pc' := 33) (L' := [Vr (u : Int), Vr (y : Int), Vi (p : Int), Vi (f1 : Int), Vi (f2 : Int), Vi ((i : Int) + 1), Vr ((y + 14 + q : Nat) : Int)]) (S' := []) (h' := ((SHv st dr rd), (ovl a3 s b))) (fun _ => rfl) ?_
          refine ih _ (by omega) (a := a3) (q + 1) (i + 1) _ (by omega) (by omega) (((hF.tr (w1.wd (by omega) (by omega))).tr (g3.wd (by omega) (by omega))).tr g5) ?_ rfl
          rw [felsS_s]
          unfold felS
          rw [if_pos ⟨h4.1, Classical.not_not.mp (fun h => c64 ((hxb q n2).mpr h)), h4.2, by omega⟩]
          exact g4
