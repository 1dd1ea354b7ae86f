/-! THE REFERENCE: numbers, tests and sums -/
theorem m_held {X : List Int} {d : Nat} {st dr rd : Int} {a s b : C3} (v : Int) : Ev X d 214 0 [Vl v, Vx] [] (SHv st dr rd, ovl a s b) (fun rr hh => rr = some (Vl (hld v)) ∧ hh = (SHv st dr rd, ovl a s b)) := by
  refine Ev.ite (P := (l_cmp v 1000000) ≤ 0) (k := 4) (a := 14) (b := 8) (L' := [Vl v, Vx]) (S' := []) (h' := ((SHv st dr rd), (ovl a s b))) (fun _ => rfl) (fun b5 => ?_) (fun b5 => ?_)
  · rw [lc_le] at b5
    refine Ev.ite (P := 0 ≤ (l_cmp v (-1000000))) (k := 4) (a := 28) (b := 22) (L' := [Vl v, Vx]) (S' := []) (h' := ((SHv st dr rd), (ovl a s b))) (fun _ => rfl) (fun b19 => ?_) (fun b19 => ?_)
    · rw [lc_ge] at b19
      refine Ev.fin (k := 2) (r := (some (Vl v))) (h' := ((SHv st dr rd), (ovl a s b))) (fun _ => rfl) ?_
      refine ⟨?_, rfl⟩
      unfold hld
      first | (rw [if_pos (by omega)]) | (rw [if_neg (by omega), if_pos (by omega)]) | (rw [if_neg (by omega), if_neg (by omega)])
    · rw [lc_ge] at b19
      refine Ev.fin (k := 3) (r := (some (Vl (-1000000)))) (h' := ((SHv st dr rd), (ovl a s b))) (fun _ => rfl) ?_
      refine ⟨?_, rfl⟩
      unfold hld
      first | (rw [if_pos (by omega)]) | (rw [if_neg (by omega), if_pos (by omega)]) | (rw [if_neg (by omega), if_neg (by omega)])
  · rw [lc_le] at b5
    refine Ev.fin (k := 3) (r := (some (Vl 1000000))) (h' := ((SHv st dr rd), (ovl a s b))) (fun _ => rfl) ?_
    refine ⟨?_, rfl⟩
    unfold hld
    first | (rw [if_pos (by omega)]) | (rw [if_neg (by omega), if_pos (by omega)]) | (rw [if_neg (by omega), if_neg (by omega)])
theorem ov_w {x y : Int} (ha : R13 x) : w64 (l_div x y - 1) = l_div x y - 1 := by
  rw [l_div_td ha]
  have := td_le x y
  exact w64_id (by unfold R64; omega)
theorem mul_bd {x y : Int} (hx : -1000000 ≤ x ∧ x ≤ 1000000) (hy : -1000000 ≤ y ∧ y ≤ 1000000) : -1000000000000 ≤ x * y ∧ x * y ≤ 1000000000000 := by
  have h1 : (x * y).natAbs ≤ 1000000 * 1000000 := by
    rw [Int.natAbs_mul]
    exact Nat.mul_le_mul (by omega) (by omega)
  omega
theorem fd_mul {x y : Int} (hx : -1000000 ≤ x ∧ x ≤ 1000000) (hy : -1000000 ≤ y ∧ y ≤ 1000000) (h0 : y ≠ 0) : -2000000 ≤ y * x.fdiv y ∧ y * x.fdiv y ≤ 2000000 := by
  have h1 := Int.fmod_def x y
  have h2 := fm_le (x := x) h0 hy
  omega
theorem alS_succ {q : Nat} {c : SC} {p : Nat} {but : Int} : AloneS (q + 1) c p but ↔ AloneS q c p but ∧ (q ≠ p → (q : Int) ≠ but → c 1 q ≠ 0 → c 0 q ≠ c 0 p) := by
  constructor
  · exact fun h => ⟨fun r hr => h r (by omega), fun h1 h2 h3 => h q (by omega) h1 h2 h3⟩
  · intro h r hr h1 h2 h3
    by_cases hq : r = q
    · subst hq
      exact h.2 h1 h2 h3
    · exact h.1 r (by omega) h1 h2 h3
/-- the numbers that are piled up, from the last one on -/
def hpS (r : Nat → Int) : List Int → Prop
  | [] => True
  | x :: t => r t.length = x ∧ hpS r t
theorem hpS_up {s : SC} {n : Nat} {v : Int} : ∀ t : List Int, t.length ≤ n → hpS (s 217) t → hpS (updC s 217 n v 217) t
  | [], _, _ => trivial
  | x :: t, hn, h => by
    have hn : t.length + 1 ≤ n := hn
    exact ⟨by rw [updC_if, if_neg (by omega)]; exact h.1, hpS_up t (by omega) h.2⟩
theorem tyL_cons {q : Nat × Nat} {l : List (Nat × Nat)} {ts ts' : List Bool} (h : tyL (q :: l) ts = some ts') : ∃ t, tySt q ts = some t ∧ tyL l t = some ts' := by
  have h : (match tySt q ts with
    | some t => tyL l t
    | none => none) = some ts' := h
  cases h1 : tySt q ts with
  | none => rw [h1] at h; cases h
  | some t => rw [h1] at h; exact ⟨t, rfl, h⟩
theorem stR_leaf {n : Nat} {c : SC} {q : Nat × Nat} {s s' : List Int} (h : stR n c q s = some s') (h9 : q.1 ≤ 9) : s' = leafS n c q.1 q.2 :: s := by
  unfold stR at h
  rw [if_pos h9] at h
  exact (Option.some.inj h).symm
theorem stR_not {n : Nat} {c : SC} {q : Nat × Nat} {s s' : List Int} (h : stR n c q s = some s') (h9 : q.1 = 27) : ∃ x t, s = x :: t ∧ s' = (1 - x) :: t := by
  unfold stR at h
  rw [if_neg (by omega), if_pos h9] at h
  split at h
  · next x t => exact ⟨x, t, rfl, (Option.some.inj h).symm⟩
  · cases h
theorem stR_bin {n : Nat} {c : SC} {q : Nat × Nat} {s s' : List Int} (h : stR n c q s = some s') (h9 : ¬ q.1 ≤ 9) (h27 : q.1 ≠ 27) : ∃ x y t, s = y :: x :: t ∧ s' = jnd q.1 x y :: t := by
  unfold stR at h
  rw [if_neg h9, if_neg h27] at h
  split at h
  · next y x t => exact ⟨x, y, t, rfl, (Option.some.inj h).symm⟩
  · cases h
theorem TyS_len : ∀ {ts : List Bool} {s : List Int}, TyS ts s → ts.length = s.length
  | [], [], _ => rfl
  | _ :: _, _ :: _, h => congrArg (· + 1) (TyS_len h.2)
theorem TyV.bd {t : Bool} {x : Int} (h : TyV t x) : -1000000 ≤ x ∧ x ≤ 1000000 := by
  unfold TyV at h
  split at h <;> omega
theorem tySt_bin {q : Nat × Nat} {ts ts' : List Bool} (h : tySt q ts = some ts') (h9 : ¬ q.1 ≤ 9) (h27 : q.1 ≠ 27) : 15 ≤ q.1 ∧ q.1 ≤ 26 := by
  unfold tySt at h
  rw [if_neg (by omega), if_neg h9, if_neg h27] at h
  split at h
  · omega
  · split at h
    · omega
    · split at h
      · omega
      · cases h
theorem m_over {X : List Int} {d : Nat} {st dr rd : Int} {a s b : C3} (x y : Int) (ha : R13 x) : Ev X d 215 0 [Vl x, Vx, Vl y, Vx, Vx, Vx] [] (SHv st dr rd, ovl a s b) (fun rr hh => rr = some (Vl (if y = 0 then 0 else x.fdiv y)) ∧ hh = (SHv st dr rd, ovl a s b)) := by
  refine Ev.ite (P := (l_cmp y 0) ≠ 0) (k := 4) (a := 8) (b := 6) (L' := [Vl x, Vx, Vl y, Vx, Vx, Vx]) (S' := []) (h' := ((SHv st dr rd), (ovl a s b))) (fun _ => rfl) (fun b3 => ?_) (fun b3 => ?_)
  · rw [lc_ne] at b3
    refine Ev.steps (k := 2) (pc' := 10) (L' := [Vl x, Vx, Vl y, Vx, Vx, Vx]) (S' := [Vl y, Vl x]) (h' := ((SHv st dr rd), (ovl a s b))) (fun _ => rfl) ?_
    refine Ev.simple (pc' := 11) (L' := [Vl x, Vx, Vl y, Vx, Vx, Vx]) (S' := [Vl (l_div x y)]) rfl (if_neg (by simpa using b3)) ?_
    refine Ev.steps (k := 3) (pc' := 15) (L' := [Vl x, Vx, Vl y, Vx, Vl (l_div x y), Vx]) (S' := [Vl y, Vl x]) (h' := ((SHv st dr rd), (ovl a s b))) (fun _ => rfl) ?_
    refine Ev.simple (pc' := 16) (L' := [Vl x, Vx, Vl y, Vx, Vl (l_div x y), Vx]) (S' := [Vl (l_rem x y)]) rfl (if_neg (by simpa using b3)) ?_
    refine Ev.ite (P := (l_cmp (l_rem x y) 0) = 0) (k := 3) (a := 53) (b := 21) (L' := [Vl x, Vx, Vl y, Vx, Vl (l_div x y), Vx]) (S' := []) (h' := ((SHv st dr rd), (ovl a s b))) (fun _ => rfl) (fun b18 => ?_) (fun b18 => ?_)
    · rw [lc_eq] at b18
      refine Ev.fin (k := 2) (r := (some (Vl (l_div x y)))) (h' := ((SHv st dr rd), (ovl a s b))) (fun _ => rfl) ?_
      refine ⟨?_, rfl⟩
      first | rw [if_pos (by omega)] | (rw [if_neg b3]; first | rw [ov_a ha b18] | rw [ov_b ha b3 b18 (by omega)] | rw [ov_w ha, ov_c ha b3 b18 (by omega)])
    · rw [lc_eq] at b18
      refine Ev.ite (P := 0 ≤ (l_cmp x 0)) (k := 4) (a := 31) (b := 27) (L' := [Vl x, Vx, Vl y, Vx, Vl (l_div x y), Vx]) (S' := []) (h' := ((SHv st dr rd), (ovl a s b))) (fun _ => rfl) (fun b24 => ?_) (fun b24 => ?_)
      · rw [lc_ge] at b24
        refine Ev.ite (P := 0 ≤ (l_cmp y 0)) (k := 5) (a := 42) (b := 38) (L' := [Vl x, Vx, Vl y, Vx, Vl (l_div x y), Vx]) (S' := [Vi 0]) (h' := ((SHv st dr rd), (ovl a s b))) (fun _ => rfl) (fun b35 => ?_) (fun b35 => ?_)
        · rw [lc_ge] at b35
          refine Ev.fin (k := 4) (r := (some (Vl (l_div x y)))) (h' := ((SHv st dr rd), (ovl a s b))) (fun _ => rfl) ?_
          refine ⟨?_, rfl⟩
          first | rw [if_pos (by omega)] | (rw [if_neg b3]; first | rw [ov_a ha b18] | rw [ov_b ha b3 b18 (by omega)] | rw [ov_w ha, ov_c ha b3 b18 (by omega)])
        · rw [lc_ge] at b35
          refine Ev.fin (k := 8) (r := (some (Vl (w64 ((l_div x y) - 1))))) (h' := ((SHv st dr rd), (ovl a s b))) (fun _ => rfl) ?_
          refine ⟨?_, rfl⟩
          first | rw [if_pos (by omega)] | (rw [if_neg b3]; first | rw [ov_a ha b18] | rw [ov_b ha b3 b18 (by omega)] | rw [ov_w ha, ov_c ha b3 b18 (by omega)])
      · rw [lc_ge] at b24
        refine Ev.ite (P := 0 ≤ (l_cmp y 0)) (k := 6) (a := 42) (b := 38) (L' := [Vl x, Vx, Vl y, Vx, Vl (l_div x y), Vx]) (S' := [Vi 1]) (h' := ((SHv st dr rd), (ovl a s b))) (fun _ => rfl) (fun b35 => ?_) (fun b35 => ?_)
        · rw [lc_ge] at b35
          refine Ev.fin (k := 7) (r := (some (Vl (w64 ((l_div x y) - 1))))) (h' := ((SHv st dr rd), (ovl a s b))) (fun _ => rfl) ?_
          refine ⟨?_, rfl⟩
          first | rw [if_pos (by omega)] | (rw [if_neg b3]; first | rw [ov_a ha b18] | rw [ov_b ha b3 b18 (by omega)] | rw [ov_w ha, ov_c ha b3 b18 (by omega)])
        · rw [lc_ge] at b35
          refine Ev.fin (k := 5) (r := (some (Vl (l_div x y)))) (h' := ((SHv st dr rd), (ovl a s b))) (fun _ => rfl) ?_
          refine ⟨?_, rfl⟩
          first | rw [if_pos (by omega)] | (rw [if_neg b3]; first | rw [ov_a ha b18] | rw [ov_b ha b3 b18 (by omega)] | rw [ov_w ha, ov_c ha b3 b18 (by omega)])
  · rw [lc_ne] at b3
    refine Ev.fin (k := 2) (r := (some (Vl 0))) (h' := ((SHv st dr rd), (ovl a s b))) (fun _ => rfl) ?_
    refine ⟨?_, rfl⟩
    first | rw [if_pos (by omega)] | (rw [if_neg b3]; first | rw [ov_a ha b18] | rw [ov_b ha b3 b18 (by omega)] | rw [ov_w ha, ov_c ha b3 b18 (by omega)])
theorem m_joined {X : List Int} {d : Nat} {st dr rd : Int} {a s b : C3} (op x y : Int) (ho : 15 ≤ op ∧ op ≤ 26) (hx : -1000000 ≤ x ∧ x ≤ 1000000) (hy : -1000000 ≤ y ∧ y ≤ 1000000) : Ev X (d + 1) 213 0 [Vi op, Vl x, Vx, Vl y, Vx] [] (SHv st dr rd, ovl a s b) (fun rr hh => rr = some (Vl (jnd op.toNat x y)) ∧ hh = (SHv st dr rd, ovl a s b)) := by
  have hm := mul_bd hx hy
  refine Ev.steps (k := 1) (pc' := 1) (L' := [Vi op, Vl x, Vx, Vl y, Vx]) (S' := [Vi op]) (h' := ((SHv st dr rd), (ovl a s b))) (fun _ => rfl) ?_
  rcases (show op = 15 ∨ op = 16 ∨ op = 17 ∨ op = 18 ∨ op = 19 ∨ op = 20 ∨ op = 21 ∨ op = 22 ∨ op = 23 ∨ op = 24 ∨ op = 25 ∨ (op ≠ 15 ∧ op ≠ 16 ∧ op ≠ 17 ∧ op ≠ 18 ∧ op ≠ 19 ∧ op ≠ 20 ∧ op ≠ 21 ∧ op ≠ 22 ∧ op ≠ 23 ∧ op ≠ 24 ∧ op ≠ 25) by omega) with b1 | b1 | b1 | b1 | b1 | b1 | b1 | b1 | b1 | b1 | b1 | b1
  · rw [b1]
    refine Ev.steps (k := 4) (pc' := 63) (L' := [Vi 15, Vl x, Vx, Vl y, Vx]) (S' := [Vl (w64 (x + y))]) (h' := ((SHv st dr rd), (ovl a s b))) (fun _ => rfl) ?_
    rw [show (w64 (x + y)) = (x + y) from w64_id (by unfold R64; omega)]
    refine Ev.call (k := 0) (pc1 := 63) (L1 := [Vi 15, Vl x, Vx, Vl y, Vx]) (S1 := [Vl (x + y)]) (h1 := ((SHv st dr rd), (ovl a s b))) (m' := 214) (as := [Vl (x + y)]) (S' := []) (L0 := [Vl (x + y), Vx]) (fun _ => rfl) rfl rfl rfl rfl rfl rfl (m_held (x + y)) (fun r h' hq => ?_)
    obtain ⟨rfl, rfl⟩ := hq
    show Ev X _ _ 66 [Vi 15, Vl x, Vx, Vl y, Vx] [Vl (hld (x + y))] ((SHv st dr rd), (ovl a s b)) _
    refine Ev.fin (k := 1) (r := (some (Vl (hld (x + y))))) (h' := ((SHv st dr rd), (ovl a s b))) (fun _ => rfl) ?_
    refine ⟨?_, rfl⟩
    rfl
  · rw [b1]
    refine Ev.steps (k := 4) (pc' := 70) (L' := [Vi 16, Vl x, Vx, Vl y, Vx]) (S' := [Vl (w64 (x - y))]) (h' := ((SHv st dr rd), (ovl a s b))) (fun _ => rfl) ?_
    rw [show (w64 (x - y)) = (x - y) from w64_id (by unfold R64; omega)]
    refine Ev.call (k := 0) (pc1 := 70) (L1 := [Vi 16, Vl x, Vx, Vl y, Vx]) (S1 := [Vl (x - y)]) (h1 := ((SHv st dr rd), (ovl a s b))) (m' := 214) (as := [Vl (x - y)]) (S' := []) (L0 := [Vl (x - y), Vx]) (fun _ => rfl) rfl rfl rfl rfl rfl rfl (m_held (x - y)) (fun r h' hq => ?_)
    obtain ⟨rfl, rfl⟩ := hq
    show Ev X _ _ 73 [Vi 16, Vl x, Vx, Vl y, Vx] [Vl (hld (x - y))] ((SHv st dr rd), (ovl a s b)) _
    refine Ev.fin (k := 1) (r := (some (Vl (hld (x - y))))) (h' := ((SHv st dr rd), (ovl a s b))) (fun _ => rfl) ?_
    refine ⟨?_, rfl⟩
    rfl
  · rw [b1]
    refine Ev.steps (k := 4) (pc' := 77) (L' := [Vi 17, Vl x, Vx, Vl y, Vx]) (S' := [Vl (w64 (x * y))]) (h' := ((SHv st dr rd), (ovl a s b))) (fun _ => rfl) ?_
    rw [show (w64 (x * y)) = (x * y) from w64_id (by unfold R64; omega)]
    refine Ev.call (k := 0) (pc1 := 77) (L1 := [Vi 17, Vl x, Vx, Vl y, Vx]) (S1 := [Vl (x * y)]) (h1 := ((SHv st dr rd), (ovl a s b))) (m' := 214) (as := [Vl (x * y)]) (S' := []) (L0 := [Vl (x * y), Vx]) (fun _ => rfl) rfl rfl rfl rfl rfl rfl (m_held (x * y)) (fun r h' hq => ?_)
    obtain ⟨rfl, rfl⟩ := hq
    show Ev X _ _ 80 [Vi 17, Vl x, Vx, Vl y, Vx] [Vl (hld (x * y))] ((SHv st dr rd), (ovl a s b)) _
    refine Ev.fin (k := 1) (r := (some (Vl (hld (x * y))))) (h' := ((SHv st dr rd), (ovl a s b))) (fun _ => rfl) ?_
    refine ⟨?_, rfl⟩
    rfl
  · rw [b1]
    refine Ev.call (k := 3) (pc1 := 83) (L1 := [Vi 18, Vl x, Vx, Vl y, Vx]) (S1 := [Vl y, Vl x]) (h1 := ((SHv st dr rd), (ovl a s b))) (m' := 215) (as := [Vl x, Vl y]) (S' := []) (L0 := [Vl x, Vx, Vl y, Vx, Vx, Vx]) (fun _ => rfl) rfl rfl rfl rfl rfl rfl (m_over x y (by omega)) (fun r h' hq => ?_)
    obtain ⟨rfl, rfl⟩ := hq
    show Ev X _ _ 86 [Vi 18, Vl x, Vx, Vl y, Vx] [Vl (if y = 0 then 0 else x.fdiv y)] ((SHv st dr rd), (ovl a s b)) _
    refine Ev.fin (k := 1) (r := (some (Vl (if y = 0 then 0 else x.fdiv y)))) (h' := ((SHv st dr rd), (ovl a s b))) (fun _ => rfl) ?_
    refine ⟨?_, rfl⟩
    rfl
  · rw [b1]
    refine Ev.ite (P := (l_cmp y 0) ≠ 0) (k := 5) (a := 97) (b := 93) (L' := [Vi 19, Vl x, Vx, Vl y, Vx]) (S' := []) (h' := ((SHv st dr rd), (ovl a s b))) (fun _ => rfl) (fun b90 => ?_) (fun b90 => ?_)
    · rw [lc_ne] at b90
      refine Ev.call (k := 4) (pc1 := 101) (L1 := [Vi 19, Vl x, Vx, Vl y, Vx]) (S1 := [Vl y, Vl x, Vl y, Vl x]) (h1 := ((SHv st dr rd), (ovl a s b))) (m' := 215) (as := [Vl x, Vl y]) (S' := [Vl y, Vl x]) (L0 := [Vl x, Vx, Vl y, Vx, Vx, Vx]) (fun _ => rfl) rfl rfl rfl rfl rfl rfl (m_over x y (by omega)) (fun r h' hq => ?_)
      obtain ⟨rfl, rfl⟩ := hq
      rw [if_neg b90]
      have hm2 := fd_mul hx hy b90
      generalize hz : x.fdiv y = z at hm2 ⊢
      show Ev X _ _ 104 [Vi 19, Vl x, Vx, Vl y, Vx] [Vl z, Vl y, Vl x] ((SHv st dr rd), (ovl a s b)) _
      refine Ev.steps (k := 1) (pc' := 105) (L' := [Vi 19, Vl x, Vx, Vl y, Vx]) (S' := [Vl (w64 (y * z)), Vl x]) (h' := ((SHv st dr rd), (ovl a s b))) (fun _ => rfl) ?_
      rw [show (w64 (y * z)) = (y * z) from w64_id (by unfold R64; omega)]
      refine Ev.steps (k := 1) (pc' := 106) (L' := [Vi 19, Vl x, Vx, Vl y, Vx]) (S' := [Vl (w64 (x - (y * z)))]) (h' := ((SHv st dr rd), (ovl a s b))) (fun _ => rfl) ?_
      rw [show (w64 (x - (y * z))) = (x - (y * z)) from w64_id (by unfold R64; omega)]
      refine Ev.fin (k := 1) (r := (some (Vl (x - (y * z))))) (h' := ((SHv st dr rd), (ovl a s b))) (fun _ => rfl) ?_
      refine ⟨?_, rfl⟩
      show _ = some (Vl (if y = 0 then 0 else x.fmod y))
      first | (rw [if_neg b90, Int.fmod_def, hz]) | rw [if_pos (by omega)]
    · rw [lc_ne] at b90
      refine Ev.fin (k := 3) (r := (some (Vl 0))) (h' := ((SHv st dr rd), (ovl a s b))) (fun _ => rfl) ?_
      refine ⟨?_, rfl⟩
      show _ = some (Vl (if y = 0 then 0 else x.fmod y))
      first | (rw [if_neg b90, Int.fmod_def, hz]) | rw [if_pos (by omega)]
  · rw [b1]
    refine Ev.ite (P := 0 ≤ (l_cmp x y)) (k := 5) (a := 117) (b := 113) (L' := [Vi 20, Vl x, Vx, Vl y, Vx]) (S' := []) (h' := ((SHv st dr rd), (ovl a s b))) (fun _ => rfl) (fun b110 => ?_) (fun b110 => ?_)
    · rw [lc_ge] at b110
      refine Ev.fin (k := 2) (r := (some (Vl y))) (h' := ((SHv st dr rd), (ovl a s b))) (fun _ => rfl) ?_
      refine ⟨?_, rfl⟩
      show _ = some (Vl (if x < y then x else y))
      first | rw [if_pos (by omega)] | rw [if_neg (by omega)]
    · rw [lc_ge] at b110
      refine Ev.fin (k := 3) (r := (some (Vl x))) (h' := ((SHv st dr rd), (ovl a s b))) (fun _ => rfl) ?_
      refine ⟨?_, rfl⟩
      show _ = some (Vl (if x < y then x else y))
      first | rw [if_pos (by omega)] | rw [if_neg (by omega)]
  · rw [b1]
    refine Ev.ite (P := (l_cmp x y) ≤ 0) (k := 5) (a := 129) (b := 125) (L' := [Vi 21, Vl x, Vx, Vl y, Vx]) (S' := []) (h' := ((SHv st dr rd), (ovl a s b))) (fun _ => rfl) (fun b122 => ?_) (fun b122 => ?_)
    · rw [lc_le] at b122
      refine Ev.fin (k := 2) (r := (some (Vl y))) (h' := ((SHv st dr rd), (ovl a s b))) (fun _ => rfl) ?_
      refine ⟨?_, rfl⟩
      show _ = some (Vl (if y < x then x else y))
      first | rw [if_pos (by omega)] | rw [if_neg (by omega)]
    · rw [lc_le] at b122
      refine Ev.fin (k := 3) (r := (some (Vl x))) (h' := ((SHv st dr rd), (ovl a s b))) (fun _ => rfl) ?_
      refine ⟨?_, rfl⟩
      show _ = some (Vl (if y < x then x else y))
      first | rw [if_pos (by omega)] | rw [if_neg (by omega)]
  · rw [b1]
    refine Ev.ite (P := 0 ≤ (l_cmp x y)) (k := 5) (a := 141) (b := 137) (L' := [Vi 22, Vl x, Vx, Vl y, Vx]) (S' := []) (h' := ((SHv st dr rd), (ovl a s b))) (fun _ => rfl) (fun b134 => ?_) (fun b134 => ?_)
    · rw [lc_ge] at b134
      refine Ev.fin (k := 2) (r := (some (Vl 0))) (h' := ((SHv st dr rd), (ovl a s b))) (fun _ => rfl) ?_
      refine ⟨?_, rfl⟩
      show _ = some (Vl (if x < y then 1 else 0))
      first | rw [if_pos (by omega)] | rw [if_neg (by omega)]
    · rw [lc_ge] at b134
      refine Ev.fin (k := 3) (r := (some (Vl 1))) (h' := ((SHv st dr rd), (ovl a s b))) (fun _ => rfl) ?_
      refine ⟨?_, rfl⟩
      show _ = some (Vl (if x < y then 1 else 0))
      first | rw [if_pos (by omega)] | rw [if_neg (by omega)]
  · rw [b1]
    refine Ev.ite (P := (l_cmp x y) ≤ 0) (k := 5) (a := 153) (b := 149) (L' := [Vi 23, Vl x, Vx, Vl y, Vx]) (S' := []) (h' := ((SHv st dr rd), (ovl a s b))) (fun _ => rfl) (fun b146 => ?_) (fun b146 => ?_)
    · rw [lc_le] at b146
      refine Ev.fin (k := 2) (r := (some (Vl 0))) (h' := ((SHv st dr rd), (ovl a s b))) (fun _ => rfl) ?_
      refine ⟨?_, rfl⟩
      show _ = some (Vl (if y < x then 1 else 0))
      first | rw [if_pos (by omega)] | rw [if_neg (by omega)]
    · rw [lc_le] at b146
      refine Ev.fin (k := 3) (r := (some (Vl 1))) (h' := ((SHv st dr rd), (ovl a s b))) (fun _ => rfl) ?_
      refine ⟨?_, rfl⟩
      show _ = some (Vl (if y < x then 1 else 0))
      first | rw [if_pos (by omega)] | rw [if_neg (by omega)]
  · rw [b1]
    refine Ev.ite (P := (l_cmp x y) ≠ 0) (k := 5) (a := 165) (b := 161) (L' := [Vi 24, Vl x, Vx, Vl y, Vx]) (S' := []) (h' := ((SHv st dr rd), (ovl a s b))) (fun _ => rfl) (fun b158 => ?_) (fun b158 => ?_)
    · rw [lc_ne] at b158
      refine Ev.fin (k := 2) (r := (some (Vl 0))) (h' := ((SHv st dr rd), (ovl a s b))) (fun _ => rfl) ?_
      refine ⟨?_, rfl⟩
      show _ = some (Vl (if x = y then 1 else 0))
      first | rw [if_pos (by omega)] | rw [if_neg (by omega)]
    · rw [lc_ne] at b158
      refine Ev.fin (k := 3) (r := (some (Vl 1))) (h' := ((SHv st dr rd), (ovl a s b))) (fun _ => rfl) ?_
      refine ⟨?_, rfl⟩
      show _ = some (Vl (if x = y then 1 else 0))
      first | rw [if_pos (by omega)] | rw [if_neg (by omega)]
  · rw [b1]
    refine Ev.steps (k := 4) (pc' := 170) (L' := [Vi 25, Vl x, Vx, Vl y, Vx]) (S' := [Vl (w64 (x * y))]) (h' := ((SHv st dr rd), (ovl a s b))) (fun _ => rfl) ?_
    rw [show (w64 (x * y)) = (x * y) from w64_id (by unfold R64; omega)]
    refine Ev.fin (k := 1) (r := (some (Vl (x * y)))) (h' := ((SHv st dr rd), (ovl a s b))) (fun _ => rfl) ?_
    refine ⟨?_, rfl⟩
    rfl
  · refine Ev.tswd (dflt := 170) rfl (by omega) (by decide) ?_
    show Ev X _ _ 171 [Vi op, Vl x, Vx, Vl y, Vx] [] ((SHv st dr rd), (ovl a s b)) _
    refine Ev.steps (k := 3) (pc' := 174) (L' := [Vi op, Vl x, Vx, Vl y, Vx]) (S' := [Vl (w64 (x + y))]) (h' := ((SHv st dr rd), (ovl a s b))) (fun _ => rfl) ?_
    rw [show (w64 (x + y)) = (x + y) from w64_id (by unfold R64; omega)]
    refine Ev.ite (P := (l_cmp (x + y) 0) ≤ 0) (k := 3) (a := 183) (b := 179) (L' := [Vi op, Vl x, Vx, Vl y, Vx]) (S' := []) (h' := ((SHv st dr rd), (ovl a s b))) (fun _ => rfl) (fun b176 => ?_) (fun b176 => ?_)
    · rw [lc_le] at b176
      refine Ev.fin (k := 2) (r := (some (Vl 0))) (h' := ((SHv st dr rd), (ovl a s b))) (fun _ => rfl) ?_
      refine ⟨?_, rfl⟩
      obtain rfl : op = 26 := by omega
      show _ = some (Vl (if 0 < x + y then 1 else 0))
      first | rw [if_pos (by omega)] | rw [if_neg (by omega)]
    · rw [lc_le] at b176
      refine Ev.fin (k := 3) (r := (some (Vl 1))) (h' := ((SHv st dr rd), (ovl a s b))) (fun _ => rfl) ?_
      refine ⟨?_, rfl⟩
      obtain rfl : op = 26 := by omega
      show _ = some (Vl (if 0 < x + y then 1 else 0))
      first | rw [if_pos (by omega)] | rw [if_neg (by omega)]
theorem m_others_l {X : List Int} {d : Nat} {st dr rd : Int} {a s b : C3} (p : Nat) (but : Int) {S : STY} {bk e : Nat} {c_b : SC} (hY_b : RepY S b bk) (hWY : WfY S) (hS_b : SimM S c_b b e) (hWC : WfC S c_b) (hp : p < nW S) (q : Nat) (n : Int) (hq : q ≤ nW S) (hn : 0 ≤ n ∧ n ≤ q) (hi : n = 0 ↔ AloneS q c_b p but) : Ev X d 212 5 [Vr 166, Vi (p : Int), Vi but, Vi n, Vi (q : Int)] [] (SHv st dr rd, ovl a s b) (fun rr hh => ∃ n : Int, rr = some (Vi n) ∧ hh = (SHv st dr rd, ovl a s b) ∧ 0 ≤ n ∧ (n = 0 ↔ AloneS (nW S) c_b p but)) := by
  induction hk : (nW S - q) using Nat.strongRecOn generalizing q n with
  | ind k ih =>
    obtain ⟨hb2_b, h12_b, h168_b, h169_b, h170_b, h171_b, h173_b, h172_b, h174_b, h176_b, h178_b, h175_b, h177_b, h179_b, h180_b, h184_b⟩ := id hY_b
    obtain ⟨s0_b, s1_b, s2_b, s3_b, s4_b, s5_b, s7_b, s9_b, s6_b, s8_b, he_b, he2_b⟩ := id hS_b
    obtain ⟨wR, wD, wW, wT, wL, wC, wdoor, wWI, wTI, wCl, wRu⟩ := id hWY
    obtain ⟨k0, k1, k2, k3, k4, k5, k7, k9⟩ := id hWC
    refine Ev.steps (k := 5) (pc' := 15) (L' := [Vr 166, Vi (p : Int), Vi but, Vi n, Vi (q : Int)]) (S' := [Vi (b 166 12), Vr 170, Vi (q : Int)]) (h' := ((SHv st dr rd), (ovl a s b))) (fun _ => rfl) ?_
    rw [h12_b]
    refine Ev.iald (v := ((nW S : Nat) : Int)) rfl (by decide) rfl (by omega) (by omega) (h170_b) ?_
    refine Ev.ite (P := ((nW S : Nat) : Int) ≤ (q : Int)) (k := 1) (a := 71) (b := 19) (L' := [Vr 166, Vi (p : Int), Vi but, Vi n, Vi (q : Int)]) (S' := []) (h' := ((SHv st dr rd), (ovl a s b))) (fun _ => rfl) (fun b16 => ?_) (fun b16 => ?_)
    · refine Ev.fin (k := 2) (r := (some (Vi n))) (h' := ((SHv st dr rd), (ovl a s b))) (fun _ => rfl) ?_
      obtain rfl : q = nW S := by omega
      exact ⟨n, rfl, rfl, hn.1, hi⟩
    · refine Ev.ite (P := (q : Int) = (p : Int)) (k := 4) (a := 62) (b := 26) (L' := [Vr 166, Vi (p : Int), Vi but, Vi n, Vi (q : Int)]) (S' := [Vi n]) (h' := ((SHv st dr rd), (ovl a s b))) (fun _ => rfl) (fun b23 => ?_) (fun b23 => ?_)
      · refine Ev.steps (k := 2) (pc' := 64) (L' := [Vr 166, Vi (p : Int), Vi but, Vi n, Vi (q : Int)]) (S' := [Vi (w32 (n + 0))]) (h' := ((SHv st dr rd), (ovl a s b))) (fun _ => rfl) ?_
        rw [show (w32 (n + 0)) = n by unfold w32; omega]
        refine Ev.steps (k := 2) (pc' := 68) (L' := [Vr 166, Vi (p : Int), Vi but, Vi n, Vi (w32 ((q : Int) + 1))]) (S' := []) (h' := ((SHv st dr rd), (ovl a s b))) (fun _ => rfl) ?_
        rw [show (w32 ((q : Int) + 1)) = ((q : Int) + 1) from w32_id (by unfold R32; omega)]
        refine Ev.steps (k := 1) (pc' := 5) (L' := [Vr 166, Vi (p : Int), Vi but, Vi n, Vi ((q : Int) + 1)]) (S' := []) (h' := ((SHv st dr rd), (ovl a s b))) (fun _ => rfl) ?_
        refine ih _ (by omega) (q + 1) n (by omega) (by omega) ?_ rfl
        rw [alS_succ]
        first | exact hi.trans ⟨fun h => ⟨h, fun h1 h2 h3 => by omega⟩, fun h => h.1⟩ | exact ⟨fun h => absurd h (by omega), fun h => absurd (h.2 (fun h => b23 (by rw [h])) b29 b39) b55⟩
      · refine Ev.ite (P := (q : Int) = but) (k := 3) (a := 62) (b := 32) (L' := [Vr 166, Vi (p : Int), Vi but, Vi n, Vi (q : Int)]) (S' := [Vi n]) (h' := ((SHv st dr rd), (ovl a s b))) (fun _ => rfl) (fun b29 => ?_) (fun b29 => ?_)
        · refine Ev.steps (k := 2) (pc' := 64) (L' := [Vr 166, Vi (p : Int), Vi but, Vi n, Vi (q : Int)]) (S' := [Vi (w32 (n + 0))]) (h' := ((SHv st dr rd), (ovl a s b))) (fun _ => rfl) ?_
          rw [show (w32 (n + 0)) = n by unfold w32; omega]
          refine Ev.steps (k := 2) (pc' := 68) (L' := [Vr 166, Vi (p : Int), Vi but, Vi n, Vi (w32 ((q : Int) + 1))]) (S' := []) (h' := ((SHv st dr rd), (ovl a s b))) (fun _ => rfl) ?_
          rw [show (w32 ((q : Int) + 1)) = ((q : Int) + 1) from w32_id (by unfold R32; omega)]
          refine Ev.steps (k := 1) (pc' := 5) (L' := [Vr 166, Vi (p : Int), Vi but, Vi n, Vi ((q : Int) + 1)]) (S' := []) (h' := ((SHv st dr rd), (ovl a s b))) (fun _ => rfl) ?_
          refine ih _ (by omega) (q + 1) n (by omega) (by omega) ?_ rfl
          rw [alS_succ]
          first | exact hi.trans ⟨fun h => ⟨h, fun h1 h2 h3 => by omega⟩, fun h => h.1⟩ | exact ⟨fun h => absurd h (by omega), fun h => absurd (h.2 (fun h => b23 (by rw [h])) b29 b39) b55⟩
        · refine Ev.steps (k := 3) (pc' := 38) (L' := [Vr 166, Vi (p : Int), Vi but, Vi n, Vi (q : Int)]) (S' := [Vi (q : Int), Vr 214, Vi n]) (h' := ((SHv st dr rd), (ovl a s b))) (fun _ => rfl) ?_
          refine Ev.zald (v := (c_b 1 q)) rfl (by decide) rfl (by omega) (by omega) (s1_b q (by omega)) ?_
          refine Ev.ite (P := (c_b 1 q) = 0) (k := 1) (a := 62) (b := 42) (L' := [Vr 166, Vi (p : Int), Vi but, Vi n, Vi (q : Int)]) (S' := [Vi n]) (h' := ((SHv st dr rd), (ovl a s b))) (fun _ => rfl) (fun b39 => ?_) (fun b39 => ?_)
          · refine Ev.steps (k := 2) (pc' := 64) (L' := [Vr 166, Vi (p : Int), Vi but, Vi n, Vi (q : Int)]) (S' := [Vi (w32 (n + 0))]) (h' := ((SHv st dr rd), (ovl a s b))) (fun _ => rfl) ?_
            rw [show (w32 (n + 0)) = n by unfold w32; omega]
            refine Ev.steps (k := 2) (pc' := 68) (L' := [Vr 166, Vi (p : Int), Vi but, Vi n, Vi (w32 ((q : Int) + 1))]) (S' := []) (h' := ((SHv st dr rd), (ovl a s b))) (fun _ => rfl) ?_
            rw [show (w32 ((q : Int) + 1)) = ((q : Int) + 1) from w32_id (by unfold R32; omega)]
            refine Ev.steps (k := 1) (pc' := 5) (L' := [Vr 166, Vi (p : Int), Vi but, Vi n, Vi ((q : Int) + 1)]) (S' := []) (h' := ((SHv st dr rd), (ovl a s b))) (fun _ => rfl) ?_
            refine ih _ (by omega) (q + 1) n (by omega) (by omega) ?_ rfl
            rw [alS_succ]
            first | exact hi.trans ⟨fun h => ⟨h, fun h1 h2 h3 => by omega⟩, fun h => h.1⟩ | exact ⟨fun h => absurd h (by omega), fun h => absurd (h.2 (fun h => b23 (by rw [h])) b29 b39) b55⟩
          · refine Ev.steps (k := 3) (pc' := 48) (L' := [Vr 166, Vi (p : Int), Vi but, Vi n, Vi (q : Int)]) (S' := [Vi (q : Int), Vr 213, Vi n]) (h' := ((SHv st dr rd), (ovl a s b))) (fun _ => rfl) ?_
            refine Ev.iald (v := (c_b 0 q)) rfl (by decide) rfl (by omega) (by omega) (s0_b q (by omega)) ?_
            refine Ev.steps (k := 3) (pc' := 54) (L' := [Vr 166, Vi (p : Int), Vi but, Vi n, Vi (q : Int)]) (S' := [Vi (p : Int), Vr 213, Vi (c_b 0 q), Vi n]) (h' := ((SHv st dr rd), (ovl a s b))) (fun _ => rfl) ?_
            refine Ev.iald (v := (c_b 0 p)) rfl (by decide) rfl (by omega) (by omega) (s0_b p (by omega)) ?_
            refine Ev.ite (P := (c_b 0 q) ≠ (c_b 0 p)) (k := 1) (a := 62) (b := 58) (L' := [Vr 166, Vi (p : Int), Vi but, Vi n, Vi (q : Int)]) (S' := [Vi n]) (h' := ((SHv st dr rd), (ovl a s b))) (fun _ => rfl) (fun b55 => ?_) (fun b55 => ?_)
            · refine Ev.steps (k := 2) (pc' := 64) (L' := [Vr 166, Vi (p : Int), Vi but, Vi n, Vi (q : Int)]) (S' := [Vi (w32 (n + 0))]) (h' := ((SHv st dr rd), (ovl a s b))) (fun _ => rfl) ?_
              rw [show (w32 (n + 0)) = n by unfold w32; omega]
              refine Ev.steps (k := 2) (pc' := 68) (L' := [Vr 166, Vi (p : Int), Vi but, Vi n, Vi (w32 ((q : Int) + 1))]) (S' := []) (h' := ((SHv st dr rd), (ovl a s b))) (fun _ => rfl) ?_
              rw [show (w32 ((q : Int) + 1)) = ((q : Int) + 1) from w32_id (by unfold R32; omega)]
              refine Ev.steps (k := 1) (pc' := 5) (L' := [Vr 166, Vi (p : Int), Vi but, Vi n, Vi ((q : Int) + 1)]) (S' := []) (h' := ((SHv st dr rd), (ovl a s b))) (fun _ => rfl) ?_
              refine ih _ (by omega) (q + 1) n (by omega) (by omega) ?_ rfl
              rw [alS_succ]
              first | exact hi.trans ⟨fun h => ⟨h, fun h1 h2 h3 => by omega⟩, fun h => h.1⟩ | exact ⟨fun h => absurd h (by omega), fun h => absurd (h.2 (fun h => b23 (by rw [h])) b29 b39) b55⟩
            · refine Ev.steps (k := 3) (pc' := 64) (L' := [Vr 166, Vi (p : Int), Vi but, Vi n, Vi (q : Int)]) (S' := [Vi (w32 (n + 1))]) (h' := ((SHv st dr rd), (ovl a s b))) (fun _ => rfl) ?_
              rw [show (w32 (n + 1)) = (n + 1) from w32_id (by unfold R32; omega)]
              refine Ev.steps (k := 2) (pc' := 68) (L' := [Vr 166, Vi (p : Int), Vi but, Vi (n + 1), Vi (w32 ((q : Int) + 1))]) (S' := []) (h' := ((SHv st dr rd), (ovl a s b))) (fun _ => rfl) ?_
              rw [show (w32 ((q : Int) + 1)) = ((q : Int) + 1) from w32_id (by unfold R32; omega)]
              refine Ev.steps (k := 1) (pc' := 5) (L' := [Vr 166, Vi (p : Int), Vi but, Vi (n + 1), Vi ((q : Int) + 1)]) (S' := []) (h' := ((SHv st dr rd), (ovl a s b))) (fun _ => rfl) ?_
              refine ih _ (by omega) (q + 1) (n + 1) (by omega) (by omega) ?_ rfl
              rw [alS_succ]
              first | exact hi.trans ⟨fun h => ⟨h, fun h1 h2 h3 => by omega⟩, fun h => h.1⟩ | exact ⟨fun h => absurd h (by omega), fun h => absurd (h.2 (fun h => b23 (by rw [h])) b29 b39) b55⟩
theorem m_others {X : List Int} {d : Nat} {st dr rd : Int} {a s b : C3} (p : Nat) (but : Int) {S : STY} {bk e : Nat} {c_b : SC} (hY_b : RepY S b bk) (hWY : WfY S) (hS_b : SimM S c_b b e) (hWC : WfC S c_b) (hp : p < nW S) : Ev X d 212 0 [Vr 166, Vi (p : Int), Vi but, Vx, Vx] [] (SHv st dr rd, ovl a s b) (fun rr hh => ∃ n : Int, rr = some (Vi n) ∧ hh = (SHv st dr rd, ovl a s b) ∧ 0 ≤ n ∧ (n = 0 ↔ AloneS (nW S) c_b p but)) := by
  refine Ev.steps (k := 4) (pc' := 5) (L' := [Vr 166, Vi (p : Int), Vi but, Vi 0, Vi 0]) (S' := []) (h' := ((SHv st dr rd), (ovl a s b))) (fun _ => rfl) ?_
  exact m_others_l p but hY_b hWY hS_b hWC hp 0 0 (by omega) (by omega) ⟨fun _ q hq => absurd hq (by omega), fun _ => rfl⟩
theorem m_leaf {X : List Int} {d : Nat} {st dr rd : Int} {a s b : C3} (op v : Nat) {S : STY} {bk e : Nat} {c_b : SC} (hY_b : RepY S b bk) (hWY : WfY S) (hS_b : SimM S c_b b e) (hWC : WfC S c_b) (hq : OkQ S (op, v)) (ho : op ≤ 9) : Ev X (d + 1) 211 0 [Vr 166, Vi (op : Int), Vi (v : Int), Vx, Vx] [] (SHv st dr rd, ovl a s b) (fun rr hh => rr = some (Vl (leafS (nW S) c_b op v)) ∧ hh = (SHv st dr rd, ovl a s b)) := by
  obtain ⟨hb2_b, h12_b, h168_b, h169_b, h170_b, h171_b, h173_b, h172_b, h174_b, h176_b, h178_b, h175_b, h177_b, h179_b, h180_b, h184_b⟩ := id hY_b
  obtain ⟨s0_b, s1_b, s2_b, s3_b, s4_b, s5_b, s7_b, s9_b, s6_b, s8_b, he_b, he2_b⟩ := id hS_b
  obtain ⟨wR, wD, wW, wT, wL, wC, wdoor, wWI, wTI, wCl, wRu⟩ := id hWY
  obtain ⟨k0, k1, k2, k3, k4, k5, k7, k9⟩ := id hWC
  obtain ⟨q0, q2, q3, q4, q5, q6, q7, q8, q9⟩ := hq
  dsimp only at q0 q2 q3 q4 q5 q6 q7 q8 q9
  have hv : v ≤ 9999 := by omega
  obtain ⟨p, hp⟩ : ∃ p, v / 8 = p := ⟨_, rfl⟩
  obtain ⟨o, ho8⟩ : ∃ o, v % 8 = o := ⟨_, rfl⟩
  refine Ev.steps (k := 3) (pc' := 4) (L' := [Vr 166, Vi (op : Int), Vi (v : Int), Vx, Vx]) (S' := [Vi (i_div (v : Int) 8)]) (h' := ((SHv st dr rd), (ovl a s b))) (fun _ => rfl) ?_
  rw [show (i_div (v : Int) 8) = (p : Int) from by rw [← hp]; exact i_div8 v (by omega)]
  refine Ev.steps (k := 4) (pc' := 9) (L' := [Vr 166, Vi (op : Int), Vi (v : Int), Vi (p : Int), Vx]) (S' := [Vi (i_rem (v : Int) 8)]) (h' := ((SHv st dr rd), (ovl a s b))) (fun _ => rfl) ?_
  rw [show (i_rem (v : Int) 8) = (o : Int) from by rw [← ho8]; exact i_rem8 v (by omega)]
  refine Ev.steps (k := 2) (pc' := 12) (L' := [Vr 166, Vi (op : Int), Vi (v : Int), Vi (p : Int), Vi (o : Int)]) (S' := [Vi (op : Int)]) (h' := ((SHv st dr rd), (ovl a s b))) (fun _ => rfl) ?_
  rcases (show (op : Int) = 0 ∨ (op : Int) = 1 ∨ (op : Int) = 2 ∨ (op : Int) = 3 ∨ (op : Int) = 4 ∨ (op : Int) = 5 ∨ (op : Int) = 6 ∨ (op : Int) = 7 ∨ (op : Int) = 8 ∨ ((op : Int) ≠ 0 ∧ (op : Int) ≠ 1 ∧ (op : Int) ≠ 2 ∧ (op : Int) ≠ 3 ∧ (op : Int) ≠ 4 ∧ (op : Int) ≠ 5 ∧ (op : Int) ≠ 6 ∧ (op : Int) ≠ 7 ∧ (op : Int) ≠ 8) by omega) with b12 | b12 | b12 | b12 | b12 | b12 | b12 | b12 | b12 | b12
  · rw [b12]
    refine Ev.fin (k := 4) (r := (some (Vl (v : Int)))) (h' := ((SHv st dr rd), (ovl a s b))) (fun _ => rfl) ?_
    refine ⟨?_, rfl⟩
    obtain rfl : op = 0 := by omega
    rfl
  · rw [b12]
    refine Ev.steps (k := 3) (pc' := 71) (L' := [Vr 166, Vi 1, Vi (v : Int), Vi (p : Int), Vi (o : Int)]) (S' := [Vi (b 166 65)]) (h' := ((SHv st dr rd), (ovl a s b))) (fun _ => rfl) ?_
    rw [s5_b]
    refine Ev.fin (k := 2) (r := (some (Vl (c_b 5 0)))) (h' := ((SHv st dr rd), (ovl a s b))) (fun _ => rfl) ?_
    refine ⟨?_, rfl⟩
    obtain rfl : op = 1 := by omega
    rfl
  · rw [b12]
    refine Ev.steps (k := 4) (pc' := 78) (L' := [Vr 166, Vi 2, Vi (v : Int), Vi (p : Int), Vi (o : Int)]) (S' := [Vi (v : Int), Vr 216]) (h' := ((SHv st dr rd), (ovl a s b))) (fun _ => rfl) ?_
    refine Ev.iald (v := (c_b 3 v)) rfl (by decide) rfl (by omega) (by omega) (s3_b v (by omega)) ?_
    refine Ev.fin (k := 2) (r := (some (Vl (c_b 3 v)))) (h' := ((SHv st dr rd), (ovl a s b))) (fun _ => rfl) ?_
    refine ⟨?_, rfl⟩
    obtain rfl : op = 2 := by omega
    rfl
  · rw [b12]
    refine Ev.fin (k := 3) (r := (some (Vl 1))) (h' := ((SHv st dr rd), (ovl a s b))) (fun _ => rfl) ?_
    refine ⟨?_, rfl⟩
    obtain rfl : op = 3 := by omega
    rfl
  · rw [b12]
    refine Ev.steps (k := 4) (pc' := 88) (L' := [Vr 166, Vi 4, Vi (v : Int), Vi (p : Int), Vi (o : Int)]) (S' := [Vi (p : Int), Vr 213]) (h' := ((SHv st dr rd), (ovl a s b))) (fun _ => rfl) ?_
    refine Ev.iald (v := (c_b 0 p)) rfl (by decide) rfl (by omega) (by omega) (s0_b p (by omega)) ?_
    refine Ev.ite (P := (c_b 0 p) ≠ (o : Int)) (k := 2) (a := 98) (b := 94) (L' := [Vr 166, Vi 4, Vi (v : Int), Vi (p : Int), Vi (o : Int)]) (S' := []) (h' := ((SHv st dr rd), (ovl a s b))) (fun _ => rfl) (fun b91 => ?_) (fun b91 => ?_)
    · refine Ev.fin (k := 2) (r := (some (Vl 0))) (h' := ((SHv st dr rd), (ovl a s b))) (fun _ => rfl) ?_
      obtain rfl : op = 4 := by omega
      refine ⟨?_, rfl⟩
      show _ = some (Vl (if c_b 0 (v / 8) = ((v % 8 : Nat) : Int) then 1 else 0))
      first | rw [hp, ho8] | rw [hp] | skip
      first | rw [if_pos (by omega)] | rw [if_neg (by omega)]
    · refine Ev.fin (k := 3) (r := (some (Vl 1))) (h' := ((SHv st dr rd), (ovl a s b))) (fun _ => rfl) ?_
      obtain rfl : op = 4 := by omega
      refine ⟨?_, rfl⟩
      show _ = some (Vl (if c_b 0 (v / 8) = ((v % 8 : Nat) : Int) then 1 else 0))
      first | rw [hp, ho8] | rw [hp] | skip
      first | rw [if_pos (by omega)] | rw [if_neg (by omega)]
  · rw [b12]
    refine Ev.steps (k := 4) (pc' := 106) (L' := [Vr 166, Vi 5, Vi (v : Int), Vi (p : Int), Vi (o : Int)]) (S' := [Vi (o : Int), Vr 215]) (h' := ((SHv st dr rd), (ovl a s b))) (fun _ => rfl) ?_
    refine Ev.iald (v := (c_b 2 o)) rfl (by decide) rfl (by omega) (by omega) (s2_b o (by omega)) ?_
    refine Ev.steps (k := 3) (pc' := 111) (L' := [Vr 166, Vi 5, Vi (v : Int), Vi (p : Int), Vi (o : Int)]) (S' := [Vi (w32 (100 + (p : Int))), Vi (c_b 2 o)]) (h' := ((SHv st dr rd), (ovl a s b))) (fun _ => rfl) ?_
    rw [show (w32 (100 + (p : Int))) = (100 + (p : Int)) from w32_id (by unfold R32; omega)]
    refine Ev.ite (P := (c_b 2 o) ≠ (100 + (p : Int))) (k := 1) (a := 118) (b := 114) (L' := [Vr 166, Vi 5, Vi (v : Int), Vi (p : Int), Vi (o : Int)]) (S' := []) (h' := ((SHv st dr rd), (ovl a s b))) (fun _ => rfl) (fun b111 => ?_) (fun b111 => ?_)
    · refine Ev.fin (k := 2) (r := (some (Vl 0))) (h' := ((SHv st dr rd), (ovl a s b))) (fun _ => rfl) ?_
      obtain rfl : op = 5 := by omega
      refine ⟨?_, rfl⟩
      show _ = some (Vl (if c_b 2 (v % 8) = 100 + ((v / 8 : Nat) : Int) then 1 else 0))
      first | rw [hp, ho8] | rw [hp] | skip
      first | rw [if_pos (by omega)] | rw [if_neg (by omega)]
    · refine Ev.fin (k := 3) (r := (some (Vl 1))) (h' := ((SHv st dr rd), (ovl a s b))) (fun _ => rfl) ?_
      obtain rfl : op = 5 := by omega
      refine ⟨?_, rfl⟩
      show _ = some (Vl (if c_b 2 (v % 8) = 100 + ((v / 8 : Nat) : Int) then 1 else 0))
      first | rw [hp, ho8] | rw [hp] | skip
      first | rw [if_pos (by omega)] | rw [if_neg (by omega)]
  · rw [b12]
    refine Ev.steps (k := 4) (pc' := 125) (L' := [Vr 166, Vi 6, Vi (v : Int), Vi (p : Int), Vi (o : Int)]) (S' := [Vi (p : Int), Vr 214]) (h' := ((SHv st dr rd), (ovl a s b))) (fun _ => rfl) ?_
    refine Ev.zald (v := (c_b 1 p)) rfl (by decide) rfl (by omega) (by omega) (s1_b p (by omega)) ?_
    refine Ev.ite (P := (c_b 1 p) = 0) (k := 1) (a := 159) (b := 129) (L' := [Vr 166, Vi 6, Vi (v : Int), Vi (p : Int), Vi (o : Int)]) (S' := []) (h' := ((SHv st dr rd), (ovl a s b))) (fun _ => rfl) (fun b126 => ?_) (fun b126 => ?_)
    · refine Ev.fin (k := 2) (r := (some (Vl 0))) (h' := ((SHv st dr rd), (ovl a s b))) (fun _ => rfl) ?_
      obtain rfl : op = 6 := by omega
      refine ⟨?_, rfl⟩
      show _ = some (Vl (if c_b 1 (v / 8) ≠ 0 ∧ c_b 1 (v % 8) ≠ 0 ∧ c_b 0 (v / 8) = c_b 0 (v % 8) then 1 else 0))
      first | rw [hp, ho8] | rw [hp] | skip
      first | rw [if_pos (by omega)] | rw [if_neg (by omega)]
    · refine Ev.steps (k := 3) (pc' := 135) (L' := [Vr 166, Vi 6, Vi (v : Int), Vi (p : Int), Vi (o : Int)]) (S' := [Vi (o : Int), Vr 214]) (h' := ((SHv st dr rd), (ovl a s b))) (fun _ => rfl) ?_
      refine Ev.zald (v := (c_b 1 o)) rfl (by decide) rfl (by omega) (by omega) (s1_b o (by omega)) ?_
      refine Ev.ite (P := (c_b 1 o) = 0) (k := 1) (a := 159) (b := 139) (L' := [Vr 166, Vi 6, Vi (v : Int), Vi (p : Int), Vi (o : Int)]) (S' := []) (h' := ((SHv st dr rd), (ovl a s b))) (fun _ => rfl) (fun b136 => ?_) (fun b136 => ?_)
      · refine Ev.fin (k := 2) (r := (some (Vl 0))) (h' := ((SHv st dr rd), (ovl a s b))) (fun _ => rfl) ?_
        obtain rfl : op = 6 := by omega
        refine ⟨?_, rfl⟩
        show _ = some (Vl (if c_b 1 (v / 8) ≠ 0 ∧ c_b 1 (v % 8) ≠ 0 ∧ c_b 0 (v / 8) = c_b 0 (v % 8) then 1 else 0))
        first | rw [hp, ho8] | rw [hp] | skip
        first | rw [if_pos (by omega)] | rw [if_neg (by omega)]
      · refine Ev.steps (k := 3) (pc' := 144) (L' := [Vr 166, Vi 6, Vi (v : Int), Vi (p : Int), Vi (o : Int)]) (S' := [Vi (p : Int), Vr 213]) (h' := ((SHv st dr rd), (ovl a s b))) (fun _ => rfl) ?_
        refine Ev.iald (v := (c_b 0 p)) rfl (by decide) rfl (by omega) (by omega) (s0_b p (by omega)) ?_
        refine Ev.steps (k := 3) (pc' := 151) (L' := [Vr 166, Vi 6, Vi (v : Int), Vi (p : Int), Vi (o : Int)]) (S' := [Vi (o : Int), Vr 213, Vi (c_b 0 p)]) (h' := ((SHv st dr rd), (ovl a s b))) (fun _ => rfl) ?_
        refine Ev.iald (v := (c_b 0 o)) rfl (by decide) rfl (by omega) (by omega) (s0_b o (by omega)) ?_
        refine Ev.ite (P := (c_b 0 p) ≠ (c_b 0 o)) (k := 1) (a := 159) (b := 155) (L' := [Vr 166, Vi 6, Vi (v : Int), Vi (p : Int), Vi (o : Int)]) (S' := []) (h' := ((SHv st dr rd), (ovl a s b))) (fun _ => rfl) (fun b152 => ?_) (fun b152 => ?_)
        · refine Ev.fin (k := 2) (r := (some (Vl 0))) (h' := ((SHv st dr rd), (ovl a s b))) (fun _ => rfl) ?_
          obtain rfl : op = 6 := by omega
          refine ⟨?_, rfl⟩
          show _ = some (Vl (if c_b 1 (v / 8) ≠ 0 ∧ c_b 1 (v % 8) ≠ 0 ∧ c_b 0 (v / 8) = c_b 0 (v % 8) then 1 else 0))
          first | rw [hp, ho8] | rw [hp] | skip
          first | rw [if_pos (by omega)] | rw [if_neg (by omega)]
        · refine Ev.fin (k := 3) (r := (some (Vl 1))) (h' := ((SHv st dr rd), (ovl a s b))) (fun _ => rfl) ?_
          obtain rfl : op = 6 := by omega
          refine ⟨?_, rfl⟩
          show _ = some (Vl (if c_b 1 (v / 8) ≠ 0 ∧ c_b 1 (v % 8) ≠ 0 ∧ c_b 0 (v / 8) = c_b 0 (v % 8) then 1 else 0))
          first | rw [hp, ho8] | rw [hp] | skip
          first | rw [if_pos (by omega)] | rw [if_neg (by omega)]
  · rw [b12]
    refine Ev.call (k := 4) (pc1 := 164) (L1 := [Vr 166, Vi 7, Vi (v : Int), Vi (p : Int), Vi (o : Int)]) (S1 := [Vi (-1), Vi (p : Int), Vr 166]) (h1 := ((SHv st dr rd), (ovl a s b))) (m' := 212) (as := [Vr 166, Vi (p : Int), Vi (-1)]) (S' := []) (L0 := [Vr 166, Vi (p : Int), Vi (-1), Vx, Vx]) (fun _ => rfl) rfl rfl rfl rfl rfl rfl (m_others p (-1) hY_b hWY hS_b hWC (by omega)) (fun r h' hq => ?_)
    obtain ⟨n, rfl, rfl, hn0, hn⟩ := hq
    show Ev X _ _ 167 [Vr 166, Vi 7, Vi (v : Int), Vi (p : Int), Vi (o : Int)] [Vi n] ((SHv st dr rd), (ovl a s b)) _
    refine Ev.ite (P := n ≠ 0) (k := 1) (a := 174) (b := 170) (L' := [Vr 166, Vi 7, Vi (v : Int), Vi (p : Int), Vi (o : Int)]) (S' := []) (h' := ((SHv st dr rd), (ovl a s b))) (fun _ => rfl) (fun b167 => ?_) (fun b167 => ?_)
    · refine Ev.fin (k := 2) (r := (some (Vl 0))) (h' := ((SHv st dr rd), (ovl a s b))) (fun _ => rfl) ?_
      obtain rfl : op = 7 := by omega
      refine ⟨?_, rfl⟩
      show _ = some (Vl (if AloneS (nW S) c_b (v / 8) (-1) then 1 else 0))
      first | rw [hp, ho8] | rw [hp] | skip
      first | rw [if_neg (fun h => b167 (hn.mpr h))] | rw [if_pos (hn.mp (by omega))]
    · refine Ev.fin (k := 3) (r := (some (Vl 1))) (h' := ((SHv st dr rd), (ovl a s b))) (fun _ => rfl) ?_
      obtain rfl : op = 7 := by omega
      refine ⟨?_, rfl⟩
      show _ = some (Vl (if AloneS (nW S) c_b (v / 8) (-1) then 1 else 0))
      first | rw [hp, ho8] | rw [hp] | skip
      first | rw [if_neg (fun h => b167 (hn.mpr h))] | rw [if_pos (hn.mp (by omega))]
  · rw [b12]
    refine Ev.steps (k := 4) (pc' := 181) (L' := [Vr 166, Vi 8, Vi (v : Int), Vi (p : Int), Vi (o : Int)]) (S' := [Vi (p : Int), Vr 214]) (h' := ((SHv st dr rd), (ovl a s b))) (fun _ => rfl) ?_
    refine Ev.zald (v := (c_b 1 p)) rfl (by decide) rfl (by omega) (by omega) (s1_b p (by omega)) ?_
    refine Ev.ite (P := (c_b 1 p) = 0) (k := 1) (a := 189) (b := 185) (L' := [Vr 166, Vi 8, Vi (v : Int), Vi (p : Int), Vi (o : Int)]) (S' := []) (h' := ((SHv st dr rd), (ovl a s b))) (fun _ => rfl) (fun b182 => ?_) (fun b182 => ?_)
    · refine Ev.fin (k := 2) (r := (some (Vl 1))) (h' := ((SHv st dr rd), (ovl a s b))) (fun _ => rfl) ?_
      obtain rfl : op = 8 := by omega
      refine ⟨?_, rfl⟩
      show _ = some (Vl (if c_b 1 (v / 8) ≠ 0 then 0 else 1))
      first | rw [hp, ho8] | rw [hp] | skip
      first | rw [if_pos (by omega)] | rw [if_neg (by omega)]
    · refine Ev.fin (k := 3) (r := (some (Vl 0))) (h' := ((SHv st dr rd), (ovl a s b))) (fun _ => rfl) ?_
      obtain rfl : op = 8 := by omega
      refine ⟨?_, rfl⟩
      show _ = some (Vl (if c_b 1 (v / 8) ≠ 0 then 0 else 1))
      first | rw [hp, ho8] | rw [hp] | skip
      first | rw [if_pos (by omega)] | rw [if_neg (by omega)]
  · refine Ev.tswd (dflt := 179) rfl (by omega) (by decide) ?_
    show Ev X _ _ 191 [Vr 166, Vi (op : Int), Vi (v : Int), Vi (p : Int), Vi (o : Int)] [] ((SHv st dr rd), (ovl a s b)) _
    refine Ev.steps (k := 5) (pc' := 201) (L' := [Vr 166, Vi (op : Int), Vi (v : Int), Vi (p : Int), Vi (o : Int)]) (S' := [Vi (b 166 64), Vi 64, Vr 212]) (h' := ((SHv st dr rd), (ovl a s b))) (fun _ => rfl) ?_
    rw [he_b]
    refine Ev.steps (k := 1) (pc' := 202) (L' := [Vr 166, Vi (op : Int), Vi (v : Int), Vi (p : Int), Vi (o : Int)]) (S' := [Vi (w32 (64 * (e : Int))), Vr 212]) (h' := ((SHv st dr rd), (ovl a s b))) (fun _ => rfl) ?_
    rw [show (w32 (64 * (e : Int))) = (64 * (e : Int)) from w32_id (by unfold R32; omega)]
    refine Ev.steps (k := 3) (pc' := 206) (L' := [Vr 166, Vi (op : Int), Vi (v : Int), Vi (p : Int), Vi (o : Int)]) (S' := [Vi (w32 (8 * (p : Int))), Vi (64 * (e : Int)), Vr 212]) (h' := ((SHv st dr rd), (ovl a s b))) (fun _ => rfl) ?_
    rw [show (w32 (8 * (p : Int))) = (8 * (p : Int)) from w32_id (by unfold R32; omega)]
    refine Ev.steps (k := 1) (pc' := 207) (L' := [Vr 166, Vi (op : Int), Vi (v : Int), Vi (p : Int), Vi (o : Int)]) (S' := [Vi (w32 ((64 * (e : Int)) + (8 * (p : Int)))), Vr 212]) (h' := ((SHv st dr rd), (ovl a s b))) (fun _ => rfl) ?_
    rw [show (w32 ((64 * (e : Int)) + (8 * (p : Int)))) = ((64 * (e : Int)) + (8 * (p : Int))) from w32_id (by unfold R32; omega)]
    refine Ev.steps (k := 2) (pc' := 210) (L' := [Vr 166, Vi (op : Int), Vi (v : Int), Vi (p : Int), Vi (o : Int)]) (S' := [Vi (w32 (((64 * (e : Int)) + (8 * (p : Int))) + (o : Int))), Vr 212]) (h' := ((SHv st dr rd), (ovl a s b))) (fun _ => rfl) ?_
    rw [show (w32 (((64 * (e : Int)) + (8 * (p : Int))) + (o : Int))) = (((64 * (e : Int)) + (8 * (p : Int))) + (o : Int)) from w32_id (by unfold R32; omega)]
    refine Ev.iald (v := (b 212 (((64 * e + 8 * p) + o)))) rfl (by decide) rfl (by omega) (by omega) (rfl) ?_
    refine Ev.ite (P := (b 212 (((64 * e + 8 * p) + o))) ≠ (-1)) (k := 2) (a := 219) (b := 215) (L' := [Vr 166, Vi (op : Int), Vi (v : Int), Vi (p : Int), Vi (o : Int)]) (S' := []) (h' := ((SHv st dr rd), (ovl a s b))) (fun _ => rfl) (fun b212 => ?_) (fun b212 => ?_)
    · refine Ev.fin (k := 2) (r := (some (Vl 1))) (h' := ((SHv st dr rd), (ovl a s b))) (fun _ => rfl) ?_
      obtain rfl : op = 9 := by omega
      have e4 := s4_b v (by omega)
      rw [show 64 * e + v = 64 * e + 8 * p + o by omega] at e4
      refine ⟨?_, rfl⟩
      show _ = some (Vl (if c_b 4 v = -1 then 0 else 1))
      first | rw [hp, ho8] | rw [hp] | skip
      first | rw [if_pos (by omega)] | rw [if_neg (by omega)]
    · refine Ev.fin (k := 3) (r := (some (Vl 0))) (h' := ((SHv st dr rd), (ovl a s b))) (fun _ => rfl) ?_
      obtain rfl : op = 9 := by omega
      have e4 := s4_b v (by omega)
      rw [show 64 * e + v = 64 * e + 8 * p + o by omega] at e4
      refine ⟨?_, rfl⟩
      show _ = some (Vl (if c_b 4 v = -1 then 0 else 1))
      first | rw [hp, ho8] | rw [hp] | skip
      first | rw [if_pos (by omega)] | rw [if_neg (by omega)]
