/-! THE CLASS: numbers, what a step finds and joins -/
theorem ix_lt {x y : Int} (hx : -2147483648 ≤ x ∧ x < 2147483648) (hy : -2147483648 ≤ y ∧ y < 2147483648) : (0 ≤ i_xor x y) = (x < 0 ↔ y < 0) := by
  have e : ∀ z : Int, -2147483648 ≤ z ∧ z < 2147483648 → (BitVec.ofInt 32 z).msb = decide (z < 0) := fun z hz => by
    rw [BitVec.msb_eq_toInt, BitVec.toInt_ofInt, Int.bmod_def]
    congr 1
    apply propext
    split <;> omega
  have h : (i_xor x y < 0) = ((BitVec.ofInt 32 x ^^^ BitVec.ofInt 32 y).msb = true) := by
    unfold i_xor
    rw [← Int32.toInt_toBitVec, Int32.toBitVec_xor, Int32.toBitVec_ofInt, Int32.toBitVec_ofInt, BitVec.msb_eq_toInt, decide_eq_true_iff]
  rw [BitVec.msb_xor, e x hx, e y hy] at h
  have h2 : (0 ≤ i_xor x y) = ¬ (i_xor x y < 0) := propext ⟨fun g => by omega, fun g => by omega⟩
  rw [h2, h]
  by_cases h3 : x < 0 <;> by_cases h4 : y < 0 <;> simp [h3, h4]
abbrev M6 (x : Int) : Prop := -1000000 ≤ x ∧ x ≤ 1000000
theorem M6.r {x : Int} (h : M6 x) : R13 x := by have : -1000000 ≤ x ∧ x ≤ 1000000 := h; exact ⟨by omega, by omega⟩
theorem tv_a {a b : Int} (ha : R13 a) (h : a.tdiv b * b = a) : a.tdiv b = a.fdiv b := by
  have := ov_a (a := a) (b := b) ha (by rw [l_rem_tm ha, Int.tmod_def, Int.mul_comm]; omega)
  rwa [l_div_td ha] at this
theorem tm_0 {a b : Int} (h : a.tdiv b * b ≠ a) : a.tmod b ≠ 0 := by
  rw [Int.tmod_def, Int.mul_comm]
  omega
theorem tv_b {a b : Int} (ha : R13 a) (hb : b ≠ 0) (hs : a < 0 ↔ b < 0) : a.tdiv b = a.fdiv b := by
  by_cases h : a.tdiv b * b = a
  · exact tv_a ha h
  · have := ov_b (a := a) (b := b) ha hb (by rw [l_rem_tm ha]; exact tm_0 h) hs
    rwa [l_div_td ha] at this
theorem tv_c {a b : Int} (ha : R13 a) (hb : b ≠ 0) (h : a.tdiv b * b ≠ a) (hs : ¬ (a < 0 ↔ b < 0)) : a.tdiv b - 1 = a.fdiv b := by
  have := ov_c (a := a) (b := b) ha hb (by rw [l_rem_tm ha]; exact tm_0 h) hs
  rwa [l_div_td ha] at this
theorem i_div_td {x y : Int} (hx : M6 x) : i_div x y = x.tdiv y := by
  unfold i_div
  have := td_le x y
  have hx : -1000000 ≤ x ∧ x ≤ 1000000 := hx
  exact w32_id (by unfold R32; omega)
theorem i_rem_tm {x y : Int} (hx : M6 x) : i_rem x y = x.tmod y := by
  unfold i_rem
  rw [i_div_td hx, Int.mul_comm, ← Int.tmod_def]
  have := tm_le x y
  have hx : -1000000 ≤ x ∧ x ≤ 1000000 := hx
  exact w32_id (by unfold R32; omega)
theorem td_mul {x y : Int} (hx : M6 x) : -1000000 ≤ x.tdiv y * y ∧ x.tdiv y * y ≤ 1000000 := by
  have h1 := Int.tmod_def x y
  have h2 : (x.tdiv y * y).natAbs ≤ x.natAbs := by
    rw [Int.natAbs_mul, Int.natAbs_tdiv]
    exact Nat.div_mul_le_self _ _
  have hx : -1000000 ≤ x ∧ x ≤ 1000000 := hx
  omega
theorem c_min4 {X : List Int} {d : Nat} {st dr rd : Int} {a s b : C3} (x y : Int) : Ev X d 23 0 [Vi x, Vi y] [] (SHv st dr rd, ovl a s b) (fun rr hh => rr = some (Vi (if x ≤ y then x else y)) ∧ hh = (SHv st dr rd, ovl a s b)) := by
  refine Ev.ite (P := y < x) (k := 3) (a := 9) (b := 5) (L' := [Vi x, Vi y]) (S' := []) (h' := ((SHv st dr rd), (ovl a s b))) (fun _ => rfl) (fun b2 => ?_) (fun b2 => ?_)
  · refine Ev.fin (k := 2) (r := (some (Vi y))) (h' := ((SHv st dr rd), (ovl a s b))) (fun _ => rfl) ?_
    refine ⟨?_, rfl⟩
    first | rfl | rw [if_pos (by omega)] | rw [if_neg (by omega)]
  · refine Ev.fin (k := 3) (r := (some (Vi x))) (h' := ((SHv st dr rd), (ovl a s b))) (fun _ => rfl) ?_
    refine ⟨?_, rfl⟩
    first | rfl | rw [if_pos (by omega)] | rw [if_neg (by omega)]
theorem c_max4 {X : List Int} {d : Nat} {st dr rd : Int} {a s b : C3} (x y : Int) : Ev X d 83 0 [Vi x, Vi y] [] (SHv st dr rd, ovl a s b) (fun rr hh => rr = some (Vi (if y ≤ x then x else y)) ∧ hh = (SHv st dr rd, ovl a s b)) := by
  refine Ev.ite (P := x < y) (k := 3) (a := 9) (b := 5) (L' := [Vi x, Vi y]) (S' := []) (h' := ((SHv st dr rd), (ovl a s b))) (fun _ => rfl) (fun b2 => ?_) (fun b2 => ?_)
  · refine Ev.fin (k := 2) (r := (some (Vi y))) (h' := ((SHv st dr rd), (ovl a s b))) (fun _ => rfl) ?_
    refine ⟨?_, rfl⟩
    first | rfl | rw [if_pos (by omega)] | rw [if_neg (by omega)]
  · refine Ev.fin (k := 3) (r := (some (Vi x))) (h' := ((SHv st dr rd), (ovl a s b))) (fun _ => rfl) ?_
    refine ⟨?_, rfl⟩
    first | rfl | rw [if_pos (by omega)] | rw [if_neg (by omega)]
theorem c_min8 {X : List Int} {d : Nat} {st dr rd : Int} {a s b : C3} (x y : Int) : Ev X d 86 0 [Vl x, Vx, Vl y, Vx] [] (SHv st dr rd, ovl a s b) (fun rr hh => rr = some (Vl (if x ≤ y then x else y)) ∧ hh = (SHv st dr rd, ovl a s b)) := by
  refine Ev.ite (P := 0 < (l_cmp x y)) (k := 4) (a := 10) (b := 6) (L' := [Vl x, Vx, Vl y, Vx]) (S' := []) (h' := ((SHv st dr rd), (ovl a s b))) (fun _ => rfl) (fun b3 => ?_) (fun b3 => ?_)
  · rw [lc_gt] at b3
    refine Ev.fin (k := 2) (r := (some (Vl y))) (h' := ((SHv st dr rd), (ovl a s b))) (fun _ => rfl) ?_
    refine ⟨?_, rfl⟩
    first | rfl | rw [if_pos (by omega)] | rw [if_neg (by omega)]
  · rw [lc_gt] at b3
    refine Ev.fin (k := 3) (r := (some (Vl x))) (h' := ((SHv st dr rd), (ovl a s b))) (fun _ => rfl) ?_
    refine ⟨?_, rfl⟩
    first | rfl | rw [if_pos (by omega)] | rw [if_neg (by omega)]
theorem c_max8 {X : List Int} {d : Nat} {st dr rd : Int} {a s b : C3} (x y : Int) : Ev X d 87 0 [Vl x, Vx, Vl y, Vx] [] (SHv st dr rd, ovl a s b) (fun rr hh => rr = some (Vl (if y ≤ x then x else y)) ∧ hh = (SHv st dr rd, ovl a s b)) := by
  refine Ev.ite (P := (l_cmp x y) < 0) (k := 4) (a := 10) (b := 6) (L' := [Vl x, Vx, Vl y, Vx]) (S' := []) (h' := ((SHv st dr rd), (ovl a s b))) (fun _ => rfl) (fun b3 => ?_) (fun b3 => ?_)
  · rw [lc_lt] at b3
    refine Ev.fin (k := 2) (r := (some (Vl y))) (h' := ((SHv st dr rd), (ovl a s b))) (fun _ => rfl) ?_
    refine ⟨?_, rfl⟩
    first | rfl | rw [if_pos (by omega)] | rw [if_neg (by omega)]
  · rw [lc_lt] at b3
    refine Ev.fin (k := 3) (r := (some (Vl x))) (h' := ((SHv st dr rd), (ovl a s b))) (fun _ => rfl) ?_
    refine ⟨?_, rfl⟩
    first | rfl | rw [if_pos (by omega)] | rw [if_neg (by omega)]
theorem c_within {X : List Int} {d : Nat} {st dr rd : Int} {a s b : C3} {u : Nat} (hu : huS u) (v : Int) : Ev X (d + 1) 85 0 [Vr ((u : Int) + 1), Vl v, Vx] [] (SHv st dr rd, ovl a s b) (fun rr hh => rr = some (Vi (hld v)) ∧ hh = (SHv st dr rd, ovl a s b)) := by
  refine Ev.call (k := 3) (pc1 := 7) (L1 := [Vr ((u : Int) + 1), Vl v, Vx]) (S1 := [Vl v, Vl 1000000, Vl (-1000000)]) (h1 := ((SHv st dr rd), (ovl a s b))) (m' := 86) (as := [Vl 1000000, Vl v]) (S' := [Vl (-1000000)]) (L0 := [Vl 1000000, Vx, Vl v, Vx]) (fun _ => rfl) rfl rfl rfl rfl rfl rfl (c_min8 1000000 v) (fun r h' hq => ?_)
  obtain ⟨rfl, rfl⟩ := hq
  show Ev X _ _ 10 [Vr ((u : Int) + 1), Vl v, Vx] [Vl (if (1000000 : Int) ≤ v then 1000000 else v), Vl (-1000000)] ((SHv st dr rd), (ovl a s b)) _
  refine Ev.call (k := 0) (pc1 := 10) (L1 := [Vr ((u : Int) + 1), Vl v, Vx]) (S1 := [Vl (if (1000000 : Int) ≤ v then 1000000 else v), Vl (-1000000)]) (h1 := ((SHv st dr rd), (ovl a s b))) (m' := 87) (as := [Vl (-1000000), Vl (if (1000000 : Int) ≤ v then 1000000 else v)]) (S' := []) (L0 := [Vl (-1000000), Vx, Vl (if (1000000 : Int) ≤ v then 1000000 else v), Vx]) (fun _ => rfl) rfl rfl rfl rfl rfl rfl (c_max8 (-1000000) (if (1000000 : Int) ≤ v then 1000000 else v)) (fun r h' hq => ?_)
  obtain ⟨rfl, rfl⟩ := hq
  rw [show (if (if (1000000 : Int) ≤ v then 1000000 else v) ≤ -1000000 then (-1000000 : Int) else (if (1000000 : Int) ≤ v then 1000000 else v)) = hld v by
    unfold hld
    split <;> split <;> (try split) <;> omega]
  show Ev X _ _ 13 [Vr ((u : Int) + 1), Vl v, Vx] [Vl (hld v)] ((SHv st dr rd), (ovl a s b)) _
  refine Ev.steps (k := 1) (pc' := 14) (L' := [Vr ((u : Int) + 1), Vl v, Vx]) (S' := [Vi (w32 (hld v))]) (h' := ((SHv st dr rd), (ovl a s b))) (fun _ => rfl) ?_
  rw [show (w32 (hld v)) = (hld v) from (by have := hld_le v; unfold w32; omega)]
  refine Ev.fin (k := 1) (r := (some (Vi (hld v)))) (h' := ((SHv st dr rd), (ovl a s b))) (fun _ => rfl) ?_
  exact ⟨rfl, rfl⟩
theorem c_floorDiv {X : List Int} {d : Nat} {st dr rd : Int} {a s b : C3} (x y : Int) (hx : M6 x) (hy : M6 y) (h0 : y ≠ 0) : Ev X d 88 0 [Vi x, Vi y, Vx] [] (SHv st dr rd, ovl a s b) (fun rr hh => rr = some (Vi (x.fdiv y)) ∧ hh = (SHv st dr rd, ovl a s b)) := by
  have hx2 : -1000000 ≤ x ∧ x ≤ 1000000 := hx
  have hy2 : -1000000 ≤ y ∧ y ≤ 1000000 := hy
  have ht := td_le x y
  have hm := td_mul (y := y) hx
  refine Ev.steps (k := 2) (pc' := 2) (L' := [Vi x, Vi y, Vx]) (S' := [Vi y, Vi x]) (h' := ((SHv st dr rd), (ovl a s b))) (fun _ => rfl) ?_
  refine Ev.simple (pc' := 3) (L' := [Vi x, Vi y, Vx]) (S' := [Vi (i_div x y)]) rfl (if_neg (by omega)) ?_
  rw [show (i_div x y) = (x.tdiv y) from i_div_td hx]
  refine Ev.ite (P := 0 ≤ (i_xor x y)) (k := 5) (a := 21) (b := 10) (L' := [Vi x, Vi y, Vi (x.tdiv y)]) (S' := []) (h' := ((SHv st dr rd), (ovl a s b))) (fun _ => rfl) (fun b7 => ?_) (fun b7 => ?_)
  · rw [ix_lt (by omega) (by omega)] at b7
    refine Ev.fin (k := 2) (r := (some (Vi (x.tdiv y)))) (h' := ((SHv st dr rd), (ovl a s b))) (fun _ => rfl) ?_
    refine ⟨?_, rfl⟩
    first | rw [tv_c hx.r h0 b14 b7] | rw [tv_a hx.r b14] | rw [tv_b hx.r h0 b7]
  · rw [ix_lt (by omega) (by omega)] at b7
    refine Ev.steps (k := 3) (pc' := 13) (L' := [Vi x, Vi y, Vi (x.tdiv y)]) (S' := [Vi (w32 ((x.tdiv y) * y))]) (h' := ((SHv st dr rd), (ovl a s b))) (fun _ => rfl) ?_
    rw [show (w32 ((x.tdiv y) * y)) = (x.tdiv y * y) from w32_id (by unfold R32; omega)]
    refine Ev.ite (P := (x.tdiv y * y) = x) (k := 2) (a := 21) (b := 17) (L' := [Vi x, Vi y, Vi (x.tdiv y)]) (S' := []) (h' := ((SHv st dr rd), (ovl a s b))) (fun _ => rfl) (fun b14 => ?_) (fun b14 => ?_)
    · refine Ev.fin (k := 2) (r := (some (Vi (x.tdiv y)))) (h' := ((SHv st dr rd), (ovl a s b))) (fun _ => rfl) ?_
      refine ⟨?_, rfl⟩
      first | rw [tv_c hx.r h0 b14 b7] | rw [tv_a hx.r b14] | rw [tv_b hx.r h0 b7]
    · refine Ev.steps (k := 3) (pc' := 20) (L' := [Vi x, Vi y, Vi (x.tdiv y)]) (S' := [Vi (w32 ((x.tdiv y) - 1))]) (h' := ((SHv st dr rd), (ovl a s b))) (fun _ => rfl) ?_
      rw [show (w32 ((x.tdiv y) - 1)) = (x.tdiv y - 1) from w32_id (by unfold R32; omega)]
      refine Ev.fin (k := 1) (r := (some (Vi (x.tdiv y - 1)))) (h' := ((SHv st dr rd), (ovl a s b))) (fun _ => rfl) ?_
      refine ⟨?_, rfl⟩
      first | rw [tv_c hx.r h0 b14 b7] | rw [tv_a hx.r b14] | rw [tv_b hx.r h0 b7]
theorem c_floorMod {X : List Int} {d : Nat} {st dr rd : Int} {a s b : C3} (x y : Int) (hx : M6 x) (hy : M6 y) (h0 : y ≠ 0) : Ev X d 89 0 [Vi x, Vi y, Vx] [] (SHv st dr rd, ovl a s b) (fun rr hh => rr = some (Vi (x.fmod y)) ∧ hh = (SHv st dr rd, ovl a s b)) := by
  have hx2 : -1000000 ≤ x ∧ x ≤ 1000000 := hx
  have hy2 : -1000000 ≤ y ∧ y ≤ 1000000 := hy
  have ht := tm_le x y
  have hd := Int.tmod_def x y
  have hf := Int.fmod_def x y
  refine Ev.steps (k := 2) (pc' := 2) (L' := [Vi x, Vi y, Vx]) (S' := [Vi y, Vi x]) (h' := ((SHv st dr rd), (ovl a s b))) (fun _ => rfl) ?_
  refine Ev.simple (pc' := 3) (L' := [Vi x, Vi y, Vx]) (S' := [Vi (i_rem x y)]) rfl (if_neg (by omega)) ?_
  rw [show (i_rem x y) = (x.tmod y) from i_rem_tm hx]
  refine Ev.ite (P := 0 ≤ (i_xor x y)) (k := 5) (a := 18) (b := 10) (L' := [Vi x, Vi y, Vi (x.tmod y)]) (S' := []) (h' := ((SHv st dr rd), (ovl a s b))) (fun _ => rfl) (fun b7 => ?_) (fun b7 => ?_)
  · rw [ix_lt (by omega) (by omega)] at b7
    refine Ev.fin (k := 2) (r := (some (Vi (x.tmod y)))) (h' := ((SHv st dr rd), (ovl a s b))) (fun _ => rfl) ?_
    refine ⟨?_, rfl⟩
    first
      | (rw [← tv_c hx.r h0 (by rw [Int.mul_comm]; omega) b7, Int.mul_sub, Int.mul_one] at hf; rw [show x.fmod y = x.tmod y + y by omega]; done)
      | (rw [← tv_a hx.r (by rw [Int.mul_comm]; omega)] at hf; rw [show x.fmod y = x.tmod y by omega]; done)
      | (rw [← tv_b hx.r h0 b7] at hf; rw [show x.fmod y = x.tmod y by omega]; done)
  · rw [ix_lt (by omega) (by omega)] at b7
    refine Ev.ite (P := (x.tmod y) = 0) (k := 2) (a := 18) (b := 14) (L' := [Vi x, Vi y, Vi (x.tmod y)]) (S' := []) (h' := ((SHv st dr rd), (ovl a s b))) (fun _ => rfl) (fun b11 => ?_) (fun b11 => ?_)
    · refine Ev.fin (k := 2) (r := (some (Vi (x.tmod y)))) (h' := ((SHv st dr rd), (ovl a s b))) (fun _ => rfl) ?_
      refine ⟨?_, rfl⟩
      first
        | (rw [← tv_c hx.r h0 (by rw [Int.mul_comm]; omega) b7, Int.mul_sub, Int.mul_one] at hf; rw [show x.fmod y = x.tmod y + y by omega]; done)
        | (rw [← tv_a hx.r (by rw [Int.mul_comm]; omega)] at hf; rw [show x.fmod y = x.tmod y by omega]; done)
        | (rw [← tv_b hx.r h0 b7] at hf; rw [show x.fmod y = x.tmod y by omega]; done)
    · refine Ev.steps (k := 3) (pc' := 17) (L' := [Vi x, Vi y, Vi (x.tmod y)]) (S' := [Vi (w32 ((x.tmod y) + y))]) (h' := ((SHv st dr rd), (ovl a s b))) (fun _ => rfl) ?_
      rw [show (w32 ((x.tmod y) + y)) = (x.tmod y + y) from w32_id (by unfold R32; omega)]
      refine Ev.fin (k := 1) (r := (some (Vi (x.tmod y + y)))) (h' := ((SHv st dr rd), (ovl a s b))) (fun _ => rfl) ?_
      refine ⟨?_, rfl⟩
      first
        | (rw [← tv_c hx.r h0 (by rw [Int.mul_comm]; omega) b7, Int.mul_sub, Int.mul_one] at hf; rw [show x.fmod y = x.tmod y + y by omega]; done)
        | (rw [← tv_a hx.r (by rw [Int.mul_comm]; omega)] at hf; rw [show x.fmod y = x.tmod y by omega]; done)
        | (rw [← tv_b hx.r h0 b7] at hf; rw [show x.fmod y = x.tmod y by omega]; done)
theorem c_joined_15 {X : List Int} {d : Nat} {st dr rd : Int} {a s b : C3} {u : Nat} (hu : huS u) (x y : Int) (hx : M6 x) (hy : M6 y) : Ev X (d + 2) 84 0 [Vr ((u : Int) + 1), Vi 43, Vi x, Vi y] [] (SHv st dr rd, ovl a s b) (fun rr hh => rr = some (Vi (jnd 15 x y)) ∧ hh = (SHv st dr rd, ovl a s b)) := by
  have hu0 : u = 119 ∨ u = 142 := hu
  have hx2 : -1000000 ≤ x ∧ x ≤ 1000000 := hx
  have hy2 : -1000000 ≤ y ∧ y ≤ 1000000 := hy
  refine Ev.steps (k := 8) (pc' := 90) (L' := [Vr ((u : Int) + 1), Vi 43, Vi x, Vi y]) (S' := [Vl (w64 (x + y)), Vr ((u : Int) + 1)]) (h' := ((SHv st dr rd), (ovl a s b))) (fun _ => rfl) ?_
  rw [show (w64 (x + y)) = (x + y) from w64_id (by unfold R64; omega)]
  refine Ev.call (k := 0) (pc1 := 90) (L1 := [Vr ((u : Int) + 1), Vi 43, Vi x, Vi y]) (S1 := [Vl (x + y), Vr ((u : Int) + 1)]) (h1 := ((SHv st dr rd), (ovl a s b))) (m' := 85) (as := [Vr ((u : Int) + 1), Vl (x + y)]) (S' := []) (L0 := [Vr ((u : Int) + 1), Vl (x + y), Vx]) (fun _ => rfl) rfl rfl rfl rfl (stpC_of rfl (pm_recv_of (by omega) (shU_1 hu))) rfl (c_within hu (x + y)) (fun r h' hq => ?_)
  obtain ⟨rfl, rfl⟩ := hq
  show Ev X _ _ 93 [Vr ((u : Int) + 1), Vi 43, Vi x, Vi y] [Vi (hld (x + y))] ((SHv st dr rd), (ovl a s b)) _
  refine Ev.fin (k := 1) (r := (some (Vi (hld (x + y))))) (h' := ((SHv st dr rd), (ovl a s b))) (fun _ => rfl) ?_
  refine ⟨?_, rfl⟩
  show _ = some (Vi (hld (x + y)))
  first | rfl | rw [if_pos (by omega)] | rw [if_neg (by omega)] | (congr 2; split <;> split <;> omega)
theorem c_joined_16 {X : List Int} {d : Nat} {st dr rd : Int} {a s b : C3} {u : Nat} (hu : huS u) (x y : Int) (hx : M6 x) (hy : M6 y) : Ev X (d + 2) 84 0 [Vr ((u : Int) + 1), Vi 45, Vi x, Vi y] [] (SHv st dr rd, ovl a s b) (fun rr hh => rr = some (Vi (jnd 16 x y)) ∧ hh = (SHv st dr rd, ovl a s b)) := by
  have hu0 : u = 119 ∨ u = 142 := hu
  have hx2 : -1000000 ≤ x ∧ x ≤ 1000000 := hx
  have hy2 : -1000000 ≤ y ∧ y ≤ 1000000 := hy
  refine Ev.steps (k := 8) (pc' := 100) (L' := [Vr ((u : Int) + 1), Vi 45, Vi x, Vi y]) (S' := [Vl (w64 (x - y)), Vr ((u : Int) + 1)]) (h' := ((SHv st dr rd), (ovl a s b))) (fun _ => rfl) ?_
  rw [show (w64 (x - y)) = (x - y) from w64_id (by unfold R64; omega)]
  refine Ev.call (k := 0) (pc1 := 100) (L1 := [Vr ((u : Int) + 1), Vi 45, Vi x, Vi y]) (S1 := [Vl (x - y), Vr ((u : Int) + 1)]) (h1 := ((SHv st dr rd), (ovl a s b))) (m' := 85) (as := [Vr ((u : Int) + 1), Vl (x - y)]) (S' := []) (L0 := [Vr ((u : Int) + 1), Vl (x - y), Vx]) (fun _ => rfl) rfl rfl rfl rfl (stpC_of rfl (pm_recv_of (by omega) (shU_1 hu))) rfl (c_within hu (x - y)) (fun r h' hq => ?_)
  obtain ⟨rfl, rfl⟩ := hq
  show Ev X _ _ 103 [Vr ((u : Int) + 1), Vi 45, Vi x, Vi y] [Vi (hld (x - y))] ((SHv st dr rd), (ovl a s b)) _
  refine Ev.fin (k := 1) (r := (some (Vi (hld (x - y))))) (h' := ((SHv st dr rd), (ovl a s b))) (fun _ => rfl) ?_
  refine ⟨?_, rfl⟩
  show _ = some (Vi (hld (x - y)))
  first | rfl | rw [if_pos (by omega)] | rw [if_neg (by omega)] | (congr 2; split <;> split <;> omega)
theorem c_joined_17 {X : List Int} {d : Nat} {st dr rd : Int} {a s b : C3} {u : Nat} (hu : huS u) (x y : Int) (hx : M6 x) (hy : M6 y) : Ev X (d + 2) 84 0 [Vr ((u : Int) + 1), Vi 42, Vi x, Vi y] [] (SHv st dr rd, ovl a s b) (fun rr hh => rr = some (Vi (jnd 17 x y)) ∧ hh = (SHv st dr rd, ovl a s b)) := by
  have hu0 : u = 119 ∨ u = 142 := hu
  have hx2 : -1000000 ≤ x ∧ x ≤ 1000000 := hx
  have hy2 : -1000000 ≤ y ∧ y ≤ 1000000 := hy
  have hmb := mul_bd hx hy
  refine Ev.steps (k := 8) (pc' := 110) (L' := [Vr ((u : Int) + 1), Vi 42, Vi x, Vi y]) (S' := [Vl (w64 (x * y)), Vr ((u : Int) + 1)]) (h' := ((SHv st dr rd), (ovl a s b))) (fun _ => rfl) ?_
  rw [show (w64 (x * y)) = (x * y) from w64_id (by unfold R64; omega)]
  refine Ev.call (k := 0) (pc1 := 110) (L1 := [Vr ((u : Int) + 1), Vi 42, Vi x, Vi y]) (S1 := [Vl (x * y), Vr ((u : Int) + 1)]) (h1 := ((SHv st dr rd), (ovl a s b))) (m' := 85) (as := [Vr ((u : Int) + 1), Vl (x * y)]) (S' := []) (L0 := [Vr ((u : Int) + 1), Vl (x * y), Vx]) (fun _ => rfl) rfl rfl rfl rfl (stpC_of rfl (pm_recv_of (by omega) (shU_1 hu))) rfl (c_within hu (x * y)) (fun r h' hq => ?_)
  obtain ⟨rfl, rfl⟩ := hq
  show Ev X _ _ 113 [Vr ((u : Int) + 1), Vi 42, Vi x, Vi y] [Vi (hld (x * y))] ((SHv st dr rd), (ovl a s b)) _
  refine Ev.fin (k := 1) (r := (some (Vi (hld (x * y))))) (h' := ((SHv st dr rd), (ovl a s b))) (fun _ => rfl) ?_
  refine ⟨?_, rfl⟩
  show _ = some (Vi (hld (x * y)))
  first | rfl | rw [if_pos (by omega)] | rw [if_neg (by omega)] | (congr 2; split <;> split <;> omega)
theorem c_joined_18 {X : List Int} {d : Nat} {st dr rd : Int} {a s b : C3} {u : Nat} (hu : huS u) (x y : Int) (hx : M6 x) (hy : M6 y) : Ev X (d + 2) 84 0 [Vr ((u : Int) + 1), Vi 47, Vi x, Vi y] [] (SHv st dr rd, ovl a s b) (fun rr hh => rr = some (Vi (jnd 18 x y)) ∧ hh = (SHv st dr rd, ovl a s b)) := by
  have hu0 : u = 119 ∨ u = 142 := hu
  have hx2 : -1000000 ≤ x ∧ x ≤ 1000000 := hx
  have hy2 : -1000000 ≤ y ∧ y ≤ 1000000 := hy
  refine Ev.ite (P := y ≠ 0) (k := 4) (a := 122) (b := 118) (L' := [Vr ((u : Int) + 1), Vi 47, Vi x, Vi y]) (S' := []) (h' := ((SHv st dr rd), (ovl a s b))) (fun _ => rfl) (fun b115 => ?_) (fun b115 => ?_)
  · refine Ev.call (k := 2) (pc1 := 124) (L1 := [Vr ((u : Int) + 1), Vi 47, Vi x, Vi y]) (S1 := [Vi y, Vi x]) (h1 := ((SHv st dr rd), (ovl a s b))) (m' := 88) (as := [Vi x, Vi y]) (S' := []) (L0 := [Vi x, Vi y, Vx]) (fun _ => rfl) rfl rfl rfl rfl rfl rfl (c_floorDiv x y hx hy b115) (fun r h' hq => ?_)
    obtain ⟨rfl, rfl⟩ := hq
    show Ev X _ _ 127 [Vr ((u : Int) + 1), Vi 47, Vi x, Vi y] [Vi (x.fdiv y)] ((SHv st dr rd), (ovl a s b)) _
    refine Ev.fin (k := 1) (r := (some (Vi (x.fdiv y)))) (h' := ((SHv st dr rd), (ovl a s b))) (fun _ => rfl) ?_
    refine ⟨?_, rfl⟩
    show _ = some (Vi (if y = 0 then 0 else x.fdiv y))
    first | rfl | rw [if_pos (by omega)] | rw [if_neg (by omega)] | (congr 2; split <;> split <;> omega)
  · refine Ev.fin (k := 3) (r := (some (Vi 0))) (h' := ((SHv st dr rd), (ovl a s b))) (fun _ => rfl) ?_
    refine ⟨?_, rfl⟩
    show _ = some (Vi (if y = 0 then 0 else x.fdiv y))
    first | rfl | rw [if_pos (by omega)] | rw [if_neg (by omega)] | (congr 2; split <;> split <;> omega)
theorem c_joined_19 {X : List Int} {d : Nat} {st dr rd : Int} {a s b : C3} {u : Nat} (hu : huS u) (x y : Int) (hx : M6 x) (hy : M6 y) : Ev X (d + 2) 84 0 [Vr ((u : Int) + 1), Vi 37, Vi x, Vi y] [] (SHv st dr rd, ovl a s b) (fun rr hh => rr = some (Vi (jnd 19 x y)) ∧ hh = (SHv st dr rd, ovl a s b)) := by
  have hu0 : u = 119 ∨ u = 142 := hu
  have hx2 : -1000000 ≤ x ∧ x ≤ 1000000 := hx
  have hy2 : -1000000 ≤ y ∧ y ≤ 1000000 := hy
  refine Ev.ite (P := y ≠ 0) (k := 4) (a := 136) (b := 132) (L' := [Vr ((u : Int) + 1), Vi 37, Vi x, Vi y]) (S' := []) (h' := ((SHv st dr rd), (ovl a s b))) (fun _ => rfl) (fun b129 => ?_) (fun b129 => ?_)
  · refine Ev.call (k := 2) (pc1 := 138) (L1 := [Vr ((u : Int) + 1), Vi 37, Vi x, Vi y]) (S1 := [Vi y, Vi x]) (h1 := ((SHv st dr rd), (ovl a s b))) (m' := 89) (as := [Vi x, Vi y]) (S' := []) (L0 := [Vi x, Vi y, Vx]) (fun _ => rfl) rfl rfl rfl rfl rfl rfl (c_floorMod x y hx hy b129) (fun r h' hq => ?_)
    obtain ⟨rfl, rfl⟩ := hq
    show Ev X _ _ 141 [Vr ((u : Int) + 1), Vi 37, Vi x, Vi y] [Vi (x.fmod y)] ((SHv st dr rd), (ovl a s b)) _
    refine Ev.fin (k := 1) (r := (some (Vi (x.fmod y)))) (h' := ((SHv st dr rd), (ovl a s b))) (fun _ => rfl) ?_
    refine ⟨?_, rfl⟩
    show _ = some (Vi (if y = 0 then 0 else x.fmod y))
    first | rfl | rw [if_pos (by omega)] | rw [if_neg (by omega)] | (congr 2; split <;> split <;> omega)
  · refine Ev.fin (k := 3) (r := (some (Vi 0))) (h' := ((SHv st dr rd), (ovl a s b))) (fun _ => rfl) ?_
    refine ⟨?_, rfl⟩
    show _ = some (Vi (if y = 0 then 0 else x.fmod y))
    first | rfl | rw [if_pos (by omega)] | rw [if_neg (by omega)] | (congr 2; split <;> split <;> omega)
theorem c_joined_20 {X : List Int} {d : Nat} {st dr rd : Int} {a s b : C3} {u : Nat} (hu : huS u) (x y : Int) (hx : M6 x) (hy : M6 y) : Ev X (d + 2) 84 0 [Vr ((u : Int) + 1), Vi 281, Vi x, Vi y] [] (SHv st dr rd, ovl a s b) (fun rr hh => rr = some (Vi (jnd 20 x y)) ∧ hh = (SHv st dr rd, ovl a s b)) := by
  have hu0 : u = 119 ∨ u = 142 := hu
  have hx2 : -1000000 ≤ x ∧ x ≤ 1000000 := hx
  have hy2 : -1000000 ≤ y ∧ y ≤ 1000000 := hy
  refine Ev.call (k := 4) (pc1 := 177) (L1 := [Vr ((u : Int) + 1), Vi 281, Vi x, Vi y]) (S1 := [Vi y, Vi x]) (h1 := ((SHv st dr rd), (ovl a s b))) (m' := 23) (as := [Vi x, Vi y]) (S' := []) (L0 := [Vi x, Vi y]) (fun _ => rfl) rfl rfl rfl rfl rfl rfl (c_min4 x y) (fun r h' hq => ?_)
  obtain ⟨rfl, rfl⟩ := hq
  show Ev X _ _ 180 [Vr ((u : Int) + 1), Vi 281, Vi x, Vi y] [Vi (if x ≤ y then x else y)] ((SHv st dr rd), (ovl a s b)) _
  refine Ev.fin (k := 1) (r := (some (Vi (if x ≤ y then x else y)))) (h' := ((SHv st dr rd), (ovl a s b))) (fun _ => rfl) ?_
  refine ⟨?_, rfl⟩
  show _ = some (Vi (if x < y then x else y))
  first | rfl | rw [if_pos (by omega)] | rw [if_neg (by omega)] | (congr 2; split <;> split <;> omega)
theorem c_joined_21 {X : List Int} {d : Nat} {st dr rd : Int} {a s b : C3} {u : Nat} (hu : huS u) (x y : Int) (hx : M6 x) (hy : M6 y) : Ev X (d + 2) 84 0 [Vr ((u : Int) + 1), Vi 282, Vi x, Vi y] [] (SHv st dr rd, ovl a s b) (fun rr hh => rr = some (Vi (jnd 21 x y)) ∧ hh = (SHv st dr rd, ovl a s b)) := by
  have hu0 : u = 119 ∨ u = 142 := hu
  have hx2 : -1000000 ≤ x ∧ x ≤ 1000000 := hx
  have hy2 : -1000000 ≤ y ∧ y ≤ 1000000 := hy
  refine Ev.call (k := 4) (pc1 := 183) (L1 := [Vr ((u : Int) + 1), Vi 282, Vi x, Vi y]) (S1 := [Vi y, Vi x]) (h1 := ((SHv st dr rd), (ovl a s b))) (m' := 83) (as := [Vi x, Vi y]) (S' := []) (L0 := [Vi x, Vi y]) (fun _ => rfl) rfl rfl rfl rfl rfl rfl (c_max4 x y) (fun r h' hq => ?_)
  obtain ⟨rfl, rfl⟩ := hq
  show Ev X _ _ 186 [Vr ((u : Int) + 1), Vi 282, Vi x, Vi y] [Vi (if y ≤ x then x else y)] ((SHv st dr rd), (ovl a s b)) _
  refine Ev.fin (k := 1) (r := (some (Vi (if y ≤ x then x else y)))) (h' := ((SHv st dr rd), (ovl a s b))) (fun _ => rfl) ?_
  refine ⟨?_, rfl⟩
  show _ = some (Vi (if y < x then x else y))
  first | rfl | rw [if_pos (by omega)] | rw [if_neg (by omega)] | (congr 2; split <;> split <;> omega)
theorem c_joined_22 {X : List Int} {d : Nat} {st dr rd : Int} {a s b : C3} {u : Nat} (hu : huS u) (x y : Int) (hx : M6 x) (hy : M6 y) : Ev X (d + 2) 84 0 [Vr ((u : Int) + 1), Vi 60, Vi x, Vi y] [] (SHv st dr rd, ovl a s b) (fun rr hh => rr = some (Vi (jnd 22 x y)) ∧ hh = (SHv st dr rd, ovl a s b)) := by
  have hu0 : u = 119 ∨ u = 142 := hu
  have hx2 : -1000000 ≤ x ∧ x ≤ 1000000 := hx
  have hy2 : -1000000 ≤ y ∧ y ≤ 1000000 := hy
  refine Ev.ite (P := y ≤ x) (k := 5) (a := 151) (b := 147) (L' := [Vr ((u : Int) + 1), Vi 60, Vi x, Vi y]) (S' := []) (h' := ((SHv st dr rd), (ovl a s b))) (fun _ => rfl) (fun b144 => ?_) (fun b144 => ?_)
  · refine Ev.fin (k := 2) (r := (some (Vi 0))) (h' := ((SHv st dr rd), (ovl a s b))) (fun _ => rfl) ?_
    refine ⟨?_, rfl⟩
    show _ = some (Vi (if x < y then 1 else 0))
    first | rfl | rw [if_pos (by omega)] | rw [if_neg (by omega)] | (congr 2; split <;> split <;> omega)
  · refine Ev.fin (k := 3) (r := (some (Vi 1))) (h' := ((SHv st dr rd), (ovl a s b))) (fun _ => rfl) ?_
    refine ⟨?_, rfl⟩
    show _ = some (Vi (if x < y then 1 else 0))
    first | rfl | rw [if_pos (by omega)] | rw [if_neg (by omega)] | (congr 2; split <;> split <;> omega)
theorem c_joined_23 {X : List Int} {d : Nat} {st dr rd : Int} {a s b : C3} {u : Nat} (hu : huS u) (x y : Int) (hx : M6 x) (hy : M6 y) : Ev X (d + 2) 84 0 [Vr ((u : Int) + 1), Vi 62, Vi x, Vi y] [] (SHv st dr rd, ovl a s b) (fun rr hh => rr = some (Vi (jnd 23 x y)) ∧ hh = (SHv st dr rd, ovl a s b)) := by
  have hu0 : u = 119 ∨ u = 142 := hu
  have hx2 : -1000000 ≤ x ∧ x ≤ 1000000 := hx
  have hy2 : -1000000 ≤ y ∧ y ≤ 1000000 := hy
  refine Ev.ite (P := x ≤ y) (k := 5) (a := 162) (b := 158) (L' := [Vr ((u : Int) + 1), Vi 62, Vi x, Vi y]) (S' := []) (h' := ((SHv st dr rd), (ovl a s b))) (fun _ => rfl) (fun b155 => ?_) (fun b155 => ?_)
  · refine Ev.fin (k := 2) (r := (some (Vi 0))) (h' := ((SHv st dr rd), (ovl a s b))) (fun _ => rfl) ?_
    refine ⟨?_, rfl⟩
    show _ = some (Vi (if y < x then 1 else 0))
    first | rfl | rw [if_pos (by omega)] | rw [if_neg (by omega)] | (congr 2; split <;> split <;> omega)
  · refine Ev.fin (k := 3) (r := (some (Vi 1))) (h' := ((SHv st dr rd), (ovl a s b))) (fun _ => rfl) ?_
    refine ⟨?_, rfl⟩
    show _ = some (Vi (if y < x then 1 else 0))
    first | rfl | rw [if_pos (by omega)] | rw [if_neg (by omega)] | (congr 2; split <;> split <;> omega)
theorem c_joined_24 {X : List Int} {d : Nat} {st dr rd : Int} {a s b : C3} {u : Nat} (hu : huS u) (x y : Int) (hx : M6 x) (hy : M6 y) : Ev X (d + 2) 84 0 [Vr ((u : Int) + 1), Vi 61, Vi x, Vi y] [] (SHv st dr rd, ovl a s b) (fun rr hh => rr = some (Vi (jnd 24 x y)) ∧ hh = (SHv st dr rd, ovl a s b)) := by
  have hu0 : u = 119 ∨ u = 142 := hu
  have hx2 : -1000000 ≤ x ∧ x ≤ 1000000 := hx
  have hy2 : -1000000 ≤ y ∧ y ≤ 1000000 := hy
  refine Ev.ite (P := x ≠ y) (k := 5) (a := 173) (b := 169) (L' := [Vr ((u : Int) + 1), Vi 61, Vi x, Vi y]) (S' := []) (h' := ((SHv st dr rd), (ovl a s b))) (fun _ => rfl) (fun b166 => ?_) (fun b166 => ?_)
  · refine Ev.fin (k := 2) (r := (some (Vi 0))) (h' := ((SHv st dr rd), (ovl a s b))) (fun _ => rfl) ?_
    refine ⟨?_, rfl⟩
    show _ = some (Vi (if x = y then 1 else 0))
    first | rfl | rw [if_pos (by omega)] | rw [if_neg (by omega)] | (congr 2; split <;> split <;> omega)
  · refine Ev.fin (k := 3) (r := (some (Vi 1))) (h' := ((SHv st dr rd), (ovl a s b))) (fun _ => rfl) ?_
    refine ⟨?_, rfl⟩
    show _ = some (Vi (if x = y then 1 else 0))
    first | rfl | rw [if_pos (by omega)] | rw [if_neg (by omega)] | (congr 2; split <;> split <;> omega)
theorem c_joined {X : List Int} {d : Nat} {st dr rd : Int} {a s b : C3} {u : Nat} (hu : huS u) (op : Nat) (ho : 15 ≤ op ∧ op ≤ 24) (x y : Int) (hx : M6 x) (hy : M6 y) : Ev X (d + 2) 84 0 [Vr ((u : Int) + 1), Vi ((encT op : Nat) : Int), Vi x, Vi y] [] (SHv st dr rd, ovl a s b) (fun rr hh => rr = some (Vi (jnd op x y)) ∧ hh = (SHv st dr rd, ovl a s b)) := by
  have hu0 : u = 119 ∨ u = 142 := hu
  rcases (show op = 15 ∨ op = 16 ∨ op = 17 ∨ op = 18 ∨ op = 19 ∨ op = 20 ∨ op = 21 ∨ op = 22 ∨ op = 23 ∨ op = 24 by omega) with rfl | rfl | rfl | rfl | rfl | rfl | rfl | rfl | rfl | rfl
  · exact c_joined_15 hu x y hx hy
  · exact c_joined_16 hu x y hx hy
  · exact c_joined_17 hu x y hx hy
  · exact c_joined_18 hu x y hx hy
  · exact c_joined_19 hu x y hx hy
  · exact c_joined_20 hu x y hx hy
  · exact c_joined_21 hu x y hx hy
  · exact c_joined_22 hu x y hx hy
  · exact c_joined_23 hu x y hx hy
  · exact c_joined_24 hu x y hx hy
theorem and7 (x : Nat) : x &&& 7 = x % 8 := Nat.and_two_pow_sub_one_eq_mod x 3
theorem enc_a {p o : Nat} (hp : p < 8) (ho : o < 8) : i_and ((p + 8 * o : Nat) : Int) 7 = (p : Int) := by
  rw [show (7 : Int) = ((7 : Nat) : Int) from rfl, i_and_nat (by omega) (by omega), and7]
  omega
theorem enc_b {p o : Nat} (hp : p < 8) (ho : o < 8) : i_and (i_ushr ((p + 8 * o : Nat) : Int) 3) 7 = (o : Int) := by
  rw [show (3 : Int) = ((3 : Nat) : Int) from rfl, i_ushr_nat (by omega) (by omega), show (7 : Int) = ((7 : Nat) : Int) from rfl, i_and_nat (by omega) (by omega), and7]
  omega
theorem c_found_1 {X : List Int} {d : Nat} {st dr rd : Int} {a s b : C3} {u : Nat} (hu : huS u) {S : STY} {c : SC} (hC : RsC S c a u) (hW8 : nW S ≤ 8) (p o : Nat) (hp : p < 8) (ho : o < 8)  : Ev X (d + 1) 90 0 [Vr ((u : Int) + 1), Vi 279, Vi ((p + 8 * o : Nat) : Int), Vx, Vx] [] (SHv st dr rd, ovl a s b) (fun rr hh => rr = some (Vi (leafS (nW S) c 1 (8 * p + o))) ∧ hh = (SHv st dr rd, ovl a s b)) := by
  have hu0 : u = 119 ∨ u = 142 := hu
  obtain ⟨q0, q1, q2, q3, q4, q5, q6, q7, q8, q9, q10⟩ := id hC
  have e1 : (8 * p + o) / 8 = p := by omega
  have e2 : (8 * p + o) % 8 = o := by omega
  refine Ev.steps (k := 3) (pc' := 4) (L' := [Vr ((u : Int) + 1), Vi 279, Vi ((p + 8 * o : Nat) : Int), Vx, Vx]) (S' := [Vi (i_and ((p + 8 * o : Nat) : Int) 7)]) (h' := ((SHv st dr rd), (ovl a s b))) (fun _ => rfl) ?_
  rw [show (i_and ((p + 8 * o : Nat) : Int) 7) = (p : Int) from enc_a hp ho]
  refine Ev.steps (k := 6) (pc' := 11) (L' := [Vr ((u : Int) + 1), Vi 279, Vi ((p + 8 * o : Nat) : Int), Vi (p : Int), Vx]) (S' := [Vi (i_and (i_ushr ((p + 8 * o : Nat) : Int) 3) 7)]) (h' := ((SHv st dr rd), (ovl a s b))) (fun _ => rfl) ?_
  rw [show (i_and (i_ushr ((p + 8 * o : Nat) : Int) 3) 7) = (o : Int) from enc_b hp ho]
  refine Ev.steps (k := 4) (pc' := 147) (L' := [Vr ((u : Int) + 1), Vi 279, Vi ((p + 8 * o : Nat) : Int), Vi (p : Int), Vi (o : Int)]) (S' := [Vr ((u : Int) + 1)]) (h' := ((SHv st dr rd), (ovl a s b))) (fun _ => rfl) ?_
  refine Ev.getf (v := (a (u + 1) 6)) rfl rfl (by omega) (shU_1 hu) rfl rfl (ovl_rc (by omega)) ?_
  refine Ev.fin (k := 1) (r := (some (Vi (a (u + 1) 6)))) (h' := ((SHv st dr rd), (ovl a s b))) (fun _ => rfl) ?_
  refine ⟨?_, rfl⟩
  show _ = some (Vi (c 5 0))
  rw [q8]
theorem c_found_2 {X : List Int} {d : Nat} {st dr rd : Int} {a s b : C3} {u : Nat} (hu : huS u) {S : STY} {c : SC} (hC : RsC S c a u) (hW8 : nW S ≤ 8) (p o : Nat) (hp : p < 8) (ho : o < 8) (hpW : p < nW S) : Ev X (d + 1) 90 0 [Vr ((u : Int) + 1), Vi 280, Vi ((p + 8 * o : Nat) : Int), Vx, Vx] [] (SHv st dr rd, ovl a s b) (fun rr hh => rr = some (Vi (leafS (nW S) c 2 p)) ∧ hh = (SHv st dr rd, ovl a s b)) := by
  have hu0 : u = 119 ∨ u = 142 := hu
  obtain ⟨q0, q1, q2, q3, q4, q5, q6, q7, q8, q9, q10⟩ := id hC
  have e1 : (8 * p + o) / 8 = p := by omega
  have e2 : (8 * p + o) % 8 = o := by omega
  refine Ev.steps (k := 3) (pc' := 4) (L' := [Vr ((u : Int) + 1), Vi 280, Vi ((p + 8 * o : Nat) : Int), Vx, Vx]) (S' := [Vi (i_and ((p + 8 * o : Nat) : Int) 7)]) (h' := ((SHv st dr rd), (ovl a s b))) (fun _ => rfl) ?_
  rw [show (i_and ((p + 8 * o : Nat) : Int) 7) = (p : Int) from enc_a hp ho]
  refine Ev.steps (k := 6) (pc' := 11) (L' := [Vr ((u : Int) + 1), Vi 280, Vi ((p + 8 * o : Nat) : Int), Vi (p : Int), Vx]) (S' := [Vi (i_and (i_ushr ((p + 8 * o : Nat) : Int) 3) 7)]) (h' := ((SHv st dr rd), (ovl a s b))) (fun _ => rfl) ?_
  rw [show (i_and (i_ushr ((p + 8 * o : Nat) : Int) 3) 7) = (o : Int) from enc_b hp ho]
  refine Ev.steps (k := 4) (pc' := 152) (L' := [Vr ((u : Int) + 1), Vi 280, Vi ((p + 8 * o : Nat) : Int), Vi (p : Int), Vi (o : Int)]) (S' := [Vr ((u : Int) + 1)]) (h' := ((SHv st dr rd), (ovl a s b))) (fun _ => rfl) ?_
  refine Ev.getr (r := ((u : Int) + 4)) rfl rfl (by omega) (shU_1 hu) rfl rfl rfl ?_
  refine Ev.steps (k := 1) (pc' := 156) (L' := [Vr ((u : Int) + 1), Vi 280, Vi ((p + 8 * o : Nat) : Int), Vi (p : Int), Vi (o : Int)]) (S' := [Vi (p : Int), Vr ((u : Int) + 4)]) (h' := ((SHv st dr rd), (ovl a s b))) (fun _ => rfl) ?_
  refine Ev.iald (v := (a (u + 4) p)) rfl (by omega) (shU_4 hu) (by omega) (by omega) (ovl_rc (by omega)) ?_
  refine Ev.fin (k := 1) (r := (some (Vi (a (u + 4) p)))) (h' := ((SHv st dr rd), (ovl a s b))) (fun _ => rfl) ?_
  refine ⟨?_, rfl⟩
  show _ = some (Vi (c 3 p))
  rw [q5 p hpW]
theorem c_found_3 {X : List Int} {d : Nat} {st dr rd : Int} {a s b : C3} {u : Nat} (hu : huS u) {S : STY} {c : SC} (hC : RsC S c a u) (hW8 : nW S ≤ 8) (p o : Nat) (hp : p < 8) (ho : o < 8)  : Ev X (d + 1) 90 0 [Vr ((u : Int) + 1), Vi 272, Vi ((p + 8 * o : Nat) : Int), Vx, Vx] [] (SHv st dr rd, ovl a s b) (fun rr hh => rr = some (Vi (leafS (nW S) c 3 (8 * p + o))) ∧ hh = (SHv st dr rd, ovl a s b)) := by
  have hu0 : u = 119 ∨ u = 142 := hu
  obtain ⟨q0, q1, q2, q3, q4, q5, q6, q7, q8, q9, q10⟩ := id hC
  have e1 : (8 * p + o) / 8 = p := by omega
  have e2 : (8 * p + o) % 8 = o := by omega
  refine Ev.steps (k := 3) (pc' := 4) (L' := [Vr ((u : Int) + 1), Vi 272, Vi ((p + 8 * o : Nat) : Int), Vx, Vx]) (S' := [Vi (i_and ((p + 8 * o : Nat) : Int) 7)]) (h' := ((SHv st dr rd), (ovl a s b))) (fun _ => rfl) ?_
  rw [show (i_and ((p + 8 * o : Nat) : Int) 7) = (p : Int) from enc_a hp ho]
  refine Ev.steps (k := 6) (pc' := 11) (L' := [Vr ((u : Int) + 1), Vi 272, Vi ((p + 8 * o : Nat) : Int), Vi (p : Int), Vx]) (S' := [Vi (i_and (i_ushr ((p + 8 * o : Nat) : Int) 3) 7)]) (h' := ((SHv st dr rd), (ovl a s b))) (fun _ => rfl) ?_
  rw [show (i_and (i_ushr ((p + 8 * o : Nat) : Int) 3) 7) = (o : Int) from enc_b hp ho]
  refine Ev.fin (k := 5) (r := (some (Vi 1))) (h' := ((SHv st dr rd), (ovl a s b))) (fun _ => rfl) ?_
  refine ⟨?_, rfl⟩
  show _ = some (Vi 1)
  rfl
theorem c_found_4 {X : List Int} {d : Nat} {st dr rd : Int} {a s b : C3} {u : Nat} (hu : huS u) {S : STY} {c : SC} (hC : RsC S c a u) (hW8 : nW S ≤ 8) (p o : Nat) (hp : p < 8) (ho : o < 8) (hpW : p < nW S) : Ev X (d + 1) 90 0 [Vr ((u : Int) + 1), Vi 273, Vi ((p + 8 * o : Nat) : Int), Vx, Vx] [] (SHv st dr rd, ovl a s b) (fun rr hh => rr = some (Vi (leafS (nW S) c 4 (8 * p + o))) ∧ hh = (SHv st dr rd, ovl a s b)) := by
  have hu0 : u = 119 ∨ u = 142 := hu
  obtain ⟨q0, q1, q2, q3, q4, q5, q6, q7, q8, q9, q10⟩ := id hC
  have e1 : (8 * p + o) / 8 = p := by omega
  have e2 : (8 * p + o) % 8 = o := by omega
  have g0 := q0 p hpW
  refine Ev.steps (k := 3) (pc' := 4) (L' := [Vr ((u : Int) + 1), Vi 273, Vi ((p + 8 * o : Nat) : Int), Vx, Vx]) (S' := [Vi (i_and ((p + 8 * o : Nat) : Int) 7)]) (h' := ((SHv st dr rd), (ovl a s b))) (fun _ => rfl) ?_
  rw [show (i_and ((p + 8 * o : Nat) : Int) 7) = (p : Int) from enc_a hp ho]
  refine Ev.steps (k := 6) (pc' := 11) (L' := [Vr ((u : Int) + 1), Vi 273, Vi ((p + 8 * o : Nat) : Int), Vi (p : Int), Vx]) (S' := [Vi (i_and (i_ushr ((p + 8 * o : Nat) : Int) 3) 7)]) (h' := ((SHv st dr rd), (ovl a s b))) (fun _ => rfl) ?_
  rw [show (i_and (i_ushr ((p + 8 * o : Nat) : Int) 3) 7) = (o : Int) from enc_b hp ho]
  refine Ev.steps (k := 4) (pc' := 159) (L' := [Vr ((u : Int) + 1), Vi 273, Vi ((p + 8 * o : Nat) : Int), Vi (p : Int), Vi (o : Int)]) (S' := [Vr ((u : Int) + 1)]) (h' := ((SHv st dr rd), (ovl a s b))) (fun _ => rfl) ?_
  refine Ev.getr (r := ((u : Int) + 2)) rfl rfl (by omega) (shU_1 hu) rfl rfl rfl ?_
  refine Ev.steps (k := 1) (pc' := 163) (L' := [Vr ((u : Int) + 1), Vi 273, Vi ((p + 8 * o : Nat) : Int), Vi (p : Int), Vi (o : Int)]) (S' := [Vi (p : Int), Vr ((u : Int) + 2)]) (h' := ((SHv st dr rd), (ovl a s b))) (fun _ => rfl) ?_
  refine Ev.iald (v := (a (u + 2) p)) rfl (by omega) (shU_2 hu) (by omega) (by omega) (ovl_rc (by omega)) ?_
  refine Ev.ite (P := (a (u + 2) p) ≠ (o : Int)) (k := 2) (a := 173) (b := 169) (L' := [Vr ((u : Int) + 1), Vi 273, Vi ((p + 8 * o : Nat) : Int), Vi (p : Int), Vi (o : Int)]) (S' := []) (h' := ((SHv st dr rd), (ovl a s b))) (fun _ => rfl) (fun b166 => ?_) (fun b166 => ?_)
  · refine Ev.fin (k := 2) (r := (some (Vi 0))) (h' := ((SHv st dr rd), (ovl a s b))) (fun _ => rfl) ?_
    refine ⟨?_, rfl⟩
    show _ = some (Vi (if c 0 ((8 * p + o) / 8) = (((8 * p + o) % 8 : Nat) : Int) then 1 else 0))
    try rw [e1]
    try rw [e2]
    first | rfl | (rw [if_pos (by omega)]; done) | (rw [if_neg (by omega)]; done)
  · refine Ev.fin (k := 3) (r := (some (Vi 1))) (h' := ((SHv st dr rd), (ovl a s b))) (fun _ => rfl) ?_
    refine ⟨?_, rfl⟩
    show _ = some (Vi (if c 0 ((8 * p + o) / 8) = (((8 * p + o) % 8 : Nat) : Int) then 1 else 0))
    try rw [e1]
    try rw [e2]
    first | rfl | (rw [if_pos (by omega)]; done) | (rw [if_neg (by omega)]; done)
theorem c_found_5 {X : List Int} {d : Nat} {st dr rd : Int} {a s b : C3} {u : Nat} (hu : huS u) {S : STY} {c : SC} (hC : RsC S c a u) (hW8 : nW S ≤ 8) (p o : Nat) (hp : p < 8) (ho : o < 8) (hpW : p < nW S) (hoT : o < nT S) (hth : 0 ≤ c 2 o ∧ (c 2 o < 8 ∨ 100 ≤ c 2 o)) : Ev X (d + 1) 90 0 [Vr ((u : Int) + 1), Vi 274, Vi ((p + 8 * o : Nat) : Int), Vx, Vx] [] (SHv st dr rd, ovl a s b) (fun rr hh => rr = some (Vi (leafS (nW S) c 5 (8 * p + o))) ∧ hh = (SHv st dr rd, ovl a s b)) := by
  have hu0 : u = 119 ∨ u = 142 := hu
  obtain ⟨q0, q1, q2, q3, q4, q5, q6, q7, q8, q9, q10⟩ := id hC
  have e1 : (8 * p + o) / 8 = p := by omega
  have e2 : (8 * p + o) % 8 = o := by omega
  have g0 := q2 o hoT
  unfold plc at g0
  have g1 : (c 2 o = 100 + (p : Int)) = (a (u + 3) o = 8 + (p : Int)) := propext ⟨fun h => by rw [g0]; split <;> omega, fun h => by rw [g0] at h; split at h <;> omega⟩
  refine Ev.steps (k := 3) (pc' := 4) (L' := [Vr ((u : Int) + 1), Vi 274, Vi ((p + 8 * o : Nat) : Int), Vx, Vx]) (S' := [Vi (i_and ((p + 8 * o : Nat) : Int) 7)]) (h' := ((SHv st dr rd), (ovl a s b))) (fun _ => rfl) ?_
  rw [show (i_and ((p + 8 * o : Nat) : Int) 7) = (p : Int) from enc_a hp ho]
  refine Ev.steps (k := 6) (pc' := 11) (L' := [Vr ((u : Int) + 1), Vi 274, Vi ((p + 8 * o : Nat) : Int), Vi (p : Int), Vx]) (S' := [Vi (i_and (i_ushr ((p + 8 * o : Nat) : Int) 3) 7)]) (h' := ((SHv st dr rd), (ovl a s b))) (fun _ => rfl) ?_
  rw [show (i_and (i_ushr ((p + 8 * o : Nat) : Int) 3) 7) = (o : Int) from enc_b hp ho]
  refine Ev.steps (k := 4) (pc' := 176) (L' := [Vr ((u : Int) + 1), Vi 274, Vi ((p + 8 * o : Nat) : Int), Vi (p : Int), Vi (o : Int)]) (S' := [Vr ((u : Int) + 1)]) (h' := ((SHv st dr rd), (ovl a s b))) (fun _ => rfl) ?_
  refine Ev.getr (r := ((u : Int) + 3)) rfl rfl (by omega) (shU_1 hu) rfl rfl rfl ?_
  refine Ev.steps (k := 1) (pc' := 181) (L' := [Vr ((u : Int) + 1), Vi 274, Vi ((p + 8 * o : Nat) : Int), Vi (p : Int), Vi (o : Int)]) (S' := [Vi (o : Int), Vr ((u : Int) + 3)]) (h' := ((SHv st dr rd), (ovl a s b))) (fun _ => rfl) ?_
  refine Ev.iald (v := (a (u + 3) o)) rfl (by omega) (shU_3 hu) (by omega) (by omega) (ovl_rc (by omega)) ?_
  refine Ev.steps (k := 3) (pc' := 186) (L' := [Vr ((u : Int) + 1), Vi 274, Vi ((p + 8 * o : Nat) : Int), Vi (p : Int), Vi (o : Int)]) (S' := [Vi (w32 (8 + (p : Int))), Vi (a (u + 3) o)]) (h' := ((SHv st dr rd), (ovl a s b))) (fun _ => rfl) ?_
  rw [show (w32 (8 + (p : Int))) = (8 + (p : Int)) from w32_id (by unfold R32; omega)]
  refine Ev.ite (P := (a (u + 3) o) ≠ (8 + (p : Int))) (k := 1) (a := 193) (b := 189) (L' := [Vr ((u : Int) + 1), Vi 274, Vi ((p + 8 * o : Nat) : Int), Vi (p : Int), Vi (o : Int)]) (S' := []) (h' := ((SHv st dr rd), (ovl a s b))) (fun _ => rfl) (fun b186 => ?_) (fun b186 => ?_)
  · refine Ev.fin (k := 2) (r := (some (Vi 0))) (h' := ((SHv st dr rd), (ovl a s b))) (fun _ => rfl) ?_
    refine ⟨?_, rfl⟩
    show _ = some (Vi (if c 2 ((8 * p + o) % 8) = 100 + (((8 * p + o) / 8 : Nat) : Int) then 1 else 0))
    try rw [e1]
    try rw [e2]
    first | rfl | (rw [if_pos (by omega)]; done) | (rw [if_neg (by omega)]; done)
  · refine Ev.fin (k := 3) (r := (some (Vi 1))) (h' := ((SHv st dr rd), (ovl a s b))) (fun _ => rfl) ?_
    refine ⟨?_, rfl⟩
    show _ = some (Vi (if c 2 ((8 * p + o) % 8) = 100 + (((8 * p + o) / 8 : Nat) : Int) then 1 else 0))
    try rw [e1]
    try rw [e2]
    first | rfl | (rw [if_pos (by omega)]; done) | (rw [if_neg (by omega)]; done)
theorem c_found_6 {X : List Int} {d : Nat} {st dr rd : Int} {a s b : C3} {u : Nat} (hu : huS u) {S : STY} {c : SC} (hC : RsC S c a u) (hW8 : nW S ≤ 8) (p o : Nat) (hp : p < 8) (ho : o < 8) (hpW : p < nW S) (hoW : o < nW S) : Ev X (d + 1) 90 0 [Vr ((u : Int) + 1), Vi 275, Vi ((p + 8 * o : Nat) : Int), Vx, Vx] [] (SHv st dr rd, ovl a s b) (fun rr hh => rr = some (Vi (leafS (nW S) c 6 (8 * p + o))) ∧ hh = (SHv st dr rd, ovl a s b)) := by
  have hu0 : u = 119 ∨ u = 142 := hu
  obtain ⟨q0, q1, q2, q3, q4, q5, q6, q7, q8, q9, q10⟩ := id hC
  have e1 : (8 * p + o) / 8 = p := by omega
  have e2 : (8 * p + o) % 8 = o := by omega
  have g0 := q0 p hpW
  have g1 := q0 o hoW
  refine Ev.steps (k := 3) (pc' := 4) (L' := [Vr ((u : Int) + 1), Vi 275, Vi ((p + 8 * o : Nat) : Int), Vx, Vx]) (S' := [Vi (i_and ((p + 8 * o : Nat) : Int) 7)]) (h' := ((SHv st dr rd), (ovl a s b))) (fun _ => rfl) ?_
  rw [show (i_and ((p + 8 * o : Nat) : Int) 7) = (p : Int) from enc_a hp ho]
  refine Ev.steps (k := 6) (pc' := 11) (L' := [Vr ((u : Int) + 1), Vi 275, Vi ((p + 8 * o : Nat) : Int), Vi (p : Int), Vx]) (S' := [Vi (i_and (i_ushr ((p + 8 * o : Nat) : Int) 3) 7)]) (h' := ((SHv st dr rd), (ovl a s b))) (fun _ => rfl) ?_
  rw [show (i_and (i_ushr ((p + 8 * o : Nat) : Int) 3) 7) = (o : Int) from enc_b hp ho]
  refine Ev.call (k := 5) (pc1 := 197) (L1 := [Vr ((u : Int) + 1), Vi 275, Vi ((p + 8 * o : Nat) : Int), Vi (p : Int), Vi (o : Int)]) (S1 := [Vi (p : Int), Vr ((u : Int) + 1)]) (h1 := ((SHv st dr rd), (ovl a s b))) (m' := 79) (as := [Vr ((u : Int) + 1), Vi (p : Int)]) (S' := []) (L0 := [Vr ((u : Int) + 1), Vi (p : Int)]) (fun _ => rfl) rfl rfl rfl rfl (stpC_of rfl (pm_recv_of (by omega) (shU_1 hu))) rfl (c_lives hu p (by omega) (alvB (nW S) c) (by have := alvB_lt (c := c) hW8; omega) q9) (fun r h' hq => ?_)
  obtain ⟨rfl, rfl⟩ := hq
  by_cases c197 : (alvB (nW S) c).testBit p = true
  · rw [if_pos c197]
    show Ev X _ _ 200 [Vr ((u : Int) + 1), Vi 275, Vi ((p + 8 * o : Nat) : Int), Vi (p : Int), Vi (o : Int)] [Vi 1] ((SHv st dr rd), (ovl a s b)) _
    refine Ev.call (k := 3) (pc1 := 206) (L1 := [Vr ((u : Int) + 1), Vi 275, Vi ((p + 8 * o : Nat) : Int), Vi (p : Int), Vi (o : Int)]) (S1 := [Vi (o : Int), Vr ((u : Int) + 1)]) (h1 := ((SHv st dr rd), (ovl a s b))) (m' := 79) (as := [Vr ((u : Int) + 1), Vi (o : Int)]) (S' := []) (L0 := [Vr ((u : Int) + 1), Vi (o : Int)]) (fun _ => rfl) rfl rfl rfl rfl (stpC_of rfl (pm_recv_of (by omega) (shU_1 hu))) rfl (c_lives hu o (by omega) (alvB (nW S) c) (by have := alvB_lt (c := c) hW8; omega) q9) (fun r h' hq => ?_)
    obtain ⟨rfl, rfl⟩ := hq
    by_cases c206 : (alvB (nW S) c).testBit o = true
    · rw [if_pos c206]
      show Ev X _ _ 209 [Vr ((u : Int) + 1), Vi 275, Vi ((p + 8 * o : Nat) : Int), Vi (p : Int), Vi (o : Int)] [Vi 1] ((SHv st dr rd), (ovl a s b)) _
      refine Ev.steps (k := 2) (pc' := 213) (L' := [Vr ((u : Int) + 1), Vi 275, Vi ((p + 8 * o : Nat) : Int), Vi (p : Int), Vi (o : Int)]) (S' := [Vr ((u : Int) + 1)]) (h' := ((SHv st dr rd), (ovl a s b))) (fun _ => rfl) ?_
      refine Ev.getr (r := ((u : Int) + 2)) rfl rfl (by omega) (shU_1 hu) rfl rfl rfl ?_
      refine Ev.steps (k := 1) (pc' := 217) (L' := [Vr ((u : Int) + 1), Vi 275, Vi ((p + 8 * o : Nat) : Int), Vi (p : Int), Vi (o : Int)]) (S' := [Vi (p : Int), Vr ((u : Int) + 2)]) (h' := ((SHv st dr rd), (ovl a s b))) (fun _ => rfl) ?_
      refine Ev.iald (v := (a (u + 2) p)) rfl (by omega) (shU_2 hu) (by omega) (by omega) (ovl_rc (by omega)) ?_
      refine Ev.steps (k := 1) (pc' := 219) (L' := [Vr ((u : Int) + 1), Vi 275, Vi ((p + 8 * o : Nat) : Int), Vi (p : Int), Vi (o : Int)]) (S' := [Vr ((u : Int) + 1), Vi (a (u + 2) p)]) (h' := ((SHv st dr rd), (ovl a s b))) (fun _ => rfl) ?_
      refine Ev.getr (r := ((u : Int) + 2)) rfl rfl (by omega) (shU_1 hu) rfl rfl rfl ?_
      refine Ev.steps (k := 1) (pc' := 224) (L' := [Vr ((u : Int) + 1), Vi 275, Vi ((p + 8 * o : Nat) : Int), Vi (p : Int), Vi (o : Int)]) (S' := [Vi (o : Int), Vr ((u : Int) + 2), Vi (a (u + 2) p)]) (h' := ((SHv st dr rd), (ovl a s b))) (fun _ => rfl) ?_
      refine Ev.iald (v := (a (u + 2) o)) rfl (by omega) (shU_2 hu) (by omega) (by omega) (ovl_rc (by omega)) ?_
      refine Ev.ite (P := (a (u + 2) p) ≠ (a (u + 2) o)) (k := 1) (a := 232) (b := 228) (L' := [Vr ((u : Int) + 1), Vi 275, Vi ((p + 8 * o : Nat) : Int), Vi (p : Int), Vi (o : Int)]) (S' := []) (h' := ((SHv st dr rd), (ovl a s b))) (fun _ => rfl) (fun b225 => ?_) (fun b225 => ?_)
      · refine Ev.fin (k := 2) (r := (some (Vi 0))) (h' := ((SHv st dr rd), (ovl a s b))) (fun _ => rfl) ?_
        refine ⟨?_, rfl⟩
        show _ = some (Vi (if c 1 ((8 * p + o) / 8) ≠ 0 ∧ c 1 ((8 * p + o) % 8) ≠ 0 ∧ c 0 ((8 * p + o) / 8) = c 0 ((8 * p + o) % 8) then 1 else 0))
        rw [e1, e2]
        try rw [alvB_tb] at c197
        try rw [alvB_tb] at c206
        first | (rw [if_pos (by omega)]; done) | (rw [if_neg (by omega)]; done)
      · refine Ev.fin (k := 3) (r := (some (Vi 1))) (h' := ((SHv st dr rd), (ovl a s b))) (fun _ => rfl) ?_
        refine ⟨?_, rfl⟩
        show _ = some (Vi (if c 1 ((8 * p + o) / 8) ≠ 0 ∧ c 1 ((8 * p + o) % 8) ≠ 0 ∧ c 0 ((8 * p + o) / 8) = c 0 ((8 * p + o) % 8) then 1 else 0))
        rw [e1, e2]
        try rw [alvB_tb] at c197
        try rw [alvB_tb] at c206
        first | (rw [if_pos (by omega)]; done) | (rw [if_neg (by omega)]; done)
    · rw [if_neg c206]
      show Ev X _ _ 209 [Vr ((u : Int) + 1), Vi 275, Vi ((p + 8 * o : Nat) : Int), Vi (p : Int), Vi (o : Int)] [Vi 0] ((SHv st dr rd), (ovl a s b)) _
      refine Ev.fin (k := 3) (r := (some (Vi 0))) (h' := ((SHv st dr rd), (ovl a s b))) (fun _ => rfl) ?_
      refine ⟨?_, rfl⟩
      show _ = some (Vi (if c 1 ((8 * p + o) / 8) ≠ 0 ∧ c 1 ((8 * p + o) % 8) ≠ 0 ∧ c 0 ((8 * p + o) / 8) = c 0 ((8 * p + o) % 8) then 1 else 0))
      rw [e1, e2]
      try rw [alvB_tb] at c197
      try rw [alvB_tb] at c206
      first | (rw [if_pos (by omega)]; done) | (rw [if_neg (by omega)]; done)
  · rw [if_neg c197]
    show Ev X _ _ 200 [Vr ((u : Int) + 1), Vi 275, Vi ((p + 8 * o : Nat) : Int), Vi (p : Int), Vi (o : Int)] [Vi 0] ((SHv st dr rd), (ovl a s b)) _
    refine Ev.fin (k := 3) (r := (some (Vi 0))) (h' := ((SHv st dr rd), (ovl a s b))) (fun _ => rfl) ?_
    refine ⟨?_, rfl⟩
    show _ = some (Vi (if c 1 ((8 * p + o) / 8) ≠ 0 ∧ c 1 ((8 * p + o) % 8) ≠ 0 ∧ c 0 ((8 * p + o) / 8) = c 0 ((8 * p + o) % 8) then 1 else 0))
    rw [e1, e2]
    try rw [alvB_tb] at c197
    try rw [alvB_tb] at c206
    first | (rw [if_pos (by omega)]; done) | (rw [if_neg (by omega)]; done)
theorem c_found_8 {X : List Int} {d : Nat} {st dr rd : Int} {a s b : C3} {u : Nat} (hu : huS u) {S : STY} {c : SC} (hC : RsC S c a u) (hW8 : nW S ≤ 8) (p o : Nat) (hp : p < 8) (ho : o < 8) (hpW : p < nW S) : Ev X (d + 1) 90 0 [Vr ((u : Int) + 1), Vi 277, Vi ((p + 8 * o : Nat) : Int), Vx, Vx] [] (SHv st dr rd, ovl a s b) (fun rr hh => rr = some (Vi (leafS (nW S) c 8 (8 * p + o))) ∧ hh = (SHv st dr rd, ovl a s b)) := by
  have hu0 : u = 119 ∨ u = 142 := hu
  obtain ⟨q0, q1, q2, q3, q4, q5, q6, q7, q8, q9, q10⟩ := id hC
  have e1 : (8 * p + o) / 8 = p := by omega
  have e2 : (8 * p + o) % 8 = o := by omega
  refine Ev.steps (k := 3) (pc' := 4) (L' := [Vr ((u : Int) + 1), Vi 277, Vi ((p + 8 * o : Nat) : Int), Vx, Vx]) (S' := [Vi (i_and ((p + 8 * o : Nat) : Int) 7)]) (h' := ((SHv st dr rd), (ovl a s b))) (fun _ => rfl) ?_
  rw [show (i_and ((p + 8 * o : Nat) : Int) 7) = (p : Int) from enc_a hp ho]
  refine Ev.steps (k := 6) (pc' := 11) (L' := [Vr ((u : Int) + 1), Vi 277, Vi ((p + 8 * o : Nat) : Int), Vi (p : Int), Vx]) (S' := [Vi (i_and (i_ushr ((p + 8 * o : Nat) : Int) 3) 7)]) (h' := ((SHv st dr rd), (ovl a s b))) (fun _ => rfl) ?_
  rw [show (i_and (i_ushr ((p + 8 * o : Nat) : Int) 3) 7) = (o : Int) from enc_b hp ho]
  refine Ev.call (k := 5) (pc1 := 262) (L1 := [Vr ((u : Int) + 1), Vi 277, Vi ((p + 8 * o : Nat) : Int), Vi (p : Int), Vi (o : Int)]) (S1 := [Vi (p : Int), Vr ((u : Int) + 1)]) (h1 := ((SHv st dr rd), (ovl a s b))) (m' := 79) (as := [Vr ((u : Int) + 1), Vi (p : Int)]) (S' := []) (L0 := [Vr ((u : Int) + 1), Vi (p : Int)]) (fun _ => rfl) rfl rfl rfl rfl (stpC_of rfl (pm_recv_of (by omega) (shU_1 hu))) rfl (c_lives hu p (by omega) (alvB (nW S) c) (by have := alvB_lt (c := c) hW8; omega) q9) (fun r h' hq => ?_)
  obtain ⟨rfl, rfl⟩ := hq
  by_cases c262 : (alvB (nW S) c).testBit p = true
  · rw [if_pos c262]
    show Ev X _ _ 265 [Vr ((u : Int) + 1), Vi 277, Vi ((p + 8 * o : Nat) : Int), Vi (p : Int), Vi (o : Int)] [Vi 1] ((SHv st dr rd), (ovl a s b)) _
    refine Ev.fin (k := 4) (r := (some (Vi 0))) (h' := ((SHv st dr rd), (ovl a s b))) (fun _ => rfl) ?_
    refine ⟨?_, rfl⟩
    show _ = some (Vi (if c 1 ((8 * p + o) / 8) ≠ 0 then 0 else 1))
    rw [e1]
    rw [alvB_tb] at c262
    first | (rw [if_pos (by omega)]; done) | (rw [if_neg (by omega)]; done)
  · rw [if_neg c262]
    show Ev X _ _ 265 [Vr ((u : Int) + 1), Vi 277, Vi ((p + 8 * o : Nat) : Int), Vi (p : Int), Vi (o : Int)] [Vi 0] ((SHv st dr rd), (ovl a s b)) _
    refine Ev.fin (k := 3) (r := (some (Vi 1))) (h' := ((SHv st dr rd), (ovl a s b))) (fun _ => rfl) ?_
    refine ⟨?_, rfl⟩
    show _ = some (Vi (if c 1 ((8 * p + o) / 8) ≠ 0 then 0 else 1))
    rw [e1]
    rw [alvB_tb] at c262
    first | (rw [if_pos (by omega)]; done) | (rw [if_neg (by omega)]; done)
theorem c_found_9 {X : List Int} {d : Nat} {st dr rd : Int} {a s b : C3} {u : Nat} (hu : huS u) {S : STY} {c : SC} (hC : RsC S c a u) (hW8 : nW S ≤ 8) (p o : Nat) (hp : p < 8) (ho : o < 8) (hpW : p < nW S) (hoW : o < nW S) : Ev X (d + 1) 90 0 [Vr ((u : Int) + 1), Vi 278, Vi ((p + 8 * o : Nat) : Int), Vx, Vx] [] (SHv st dr rd, ovl a s b) (fun rr hh => rr = some (Vi (leafS (nW S) c 9 (8 * p + o))) ∧ hh = (SHv st dr rd, ovl a s b)) := by
  have hu0 : u = 119 ∨ u = 142 := hu
  obtain ⟨q0, q1, q2, q3, q4, q5, q6, q7, q8, q9, q10⟩ := id hC
  have e1 : (8 * p + o) / 8 = p := by omega
  have e2 : (8 * p + o) % 8 = o := by omega
  have g0 := q7 p o hpW hoW
  refine Ev.steps (k := 3) (pc' := 4) (L' := [Vr ((u : Int) + 1), Vi 278, Vi ((p + 8 * o : Nat) : Int), Vx, Vx]) (S' := [Vi (i_and ((p + 8 * o : Nat) : Int) 7)]) (h' := ((SHv st dr rd), (ovl a s b))) (fun _ => rfl) ?_
  rw [show (i_and ((p + 8 * o : Nat) : Int) 7) = (p : Int) from enc_a hp ho]
  refine Ev.steps (k := 6) (pc' := 11) (L' := [Vr ((u : Int) + 1), Vi 278, Vi ((p + 8 * o : Nat) : Int), Vi (p : Int), Vx]) (S' := [Vi (i_and (i_ushr ((p + 8 * o : Nat) : Int) 3) 7)]) (h' := ((SHv st dr rd), (ovl a s b))) (fun _ => rfl) ?_
  rw [show (i_and (i_ushr ((p + 8 * o : Nat) : Int) 3) 7) = (o : Int) from enc_b hp ho]
  refine Ev.steps (k := 4) (pc' := 275) (L' := [Vr ((u : Int) + 1), Vi 278, Vi ((p + 8 * o : Nat) : Int), Vi (p : Int), Vi (o : Int)]) (S' := [Vr ((u : Int) + 1)]) (h' := ((SHv st dr rd), (ovl a s b))) (fun _ => rfl) ?_
  refine Ev.getr (r := ((u : Int) + 6)) rfl rfl (by omega) (shU_1 hu) rfl rfl rfl ?_
  refine Ev.steps (k := 3) (pc' := 282) (L' := [Vr ((u : Int) + 1), Vi 278, Vi ((p + 8 * o : Nat) : Int), Vi (p : Int), Vi (o : Int)]) (S' := [Vi (w32 ((p : Int) * 8)), Vr ((u : Int) + 6)]) (h' := ((SHv st dr rd), (ovl a s b))) (fun _ => rfl) ?_
  rw [show (w32 ((p : Int) * 8)) = (8 * (p : Int)) from (by unfold w32; omega)]
  refine Ev.steps (k := 2) (pc' := 285) (L' := [Vr ((u : Int) + 1), Vi 278, Vi ((p + 8 * o : Nat) : Int), Vi (p : Int), Vi (o : Int)]) (S' := [Vi (w32 ((8 * (p : Int)) + (o : Int))), Vr ((u : Int) + 6)]) (h' := ((SHv st dr rd), (ovl a s b))) (fun _ => rfl) ?_
  rw [show (w32 ((8 * (p : Int)) + (o : Int))) = ((8 * p + o : Nat) : Int) from (by unfold w32; omega)]
  refine Ev.iald (v := (a (u + 6) ((8 * p + o)))) rfl (by omega) (shU_6 hu) (by omega) (by omega) (ovl_rc (by omega)) ?_
  refine Ev.ite (P := (a (u + 6) ((8 * p + o))) = (-1)) (k := 2) (a := 294) (b := 290) (L' := [Vr ((u : Int) + 1), Vi 278, Vi ((p + 8 * o : Nat) : Int), Vi (p : Int), Vi (o : Int)]) (S' := []) (h' := ((SHv st dr rd), (ovl a s b))) (fun _ => rfl) (fun b287 => ?_) (fun b287 => ?_)
  · refine Ev.fin (k := 2) (r := (some (Vi 0))) (h' := ((SHv st dr rd), (ovl a s b))) (fun _ => rfl) ?_
    refine ⟨?_, rfl⟩
    show _ = some (Vi (if c 4 (8 * p + o) = -1 then 0 else 1))
    first | (rw [if_pos (by omega)]; done) | (rw [if_neg (by omega)]; done)
  · refine Ev.fin (k := 3) (r := (some (Vi 1))) (h' := ((SHv st dr rd), (ovl a s b))) (fun _ => rfl) ?_
    refine ⟨?_, rfl⟩
    show _ = some (Vi (if c 4 (8 * p + o) = -1 then 0 else 1))
    first | (rw [if_pos (by omega)]; done) | (rw [if_neg (by omega)]; done)
theorem c_found_7 {X : List Int} {d : Nat} {st dr rd : Int} {a s b : C3} {u : Nat} (hu : huS u) {S : STY} {c : SC} (hC : RsC S c a u) (hW8 : nW S ≤ 8) (p o : Nat) (hp : p < 8) (ho : o < 8) (hpW : p < nW S) (hr : 0 ≤ c 0 p ∧ c 0 p < 8) : Ev X (d + 1) 90 0 [Vr ((u : Int) + 1), Vi 276, Vi ((p + 8 * o : Nat) : Int), Vx, Vx] [] (SHv st dr rd, ovl a s b) (fun rr hh => rr = some (Vi (leafS (nW S) c 7 (8 * p + o))) ∧ hh = (SHv st dr rd, ovl a s b)) := by
  have hu0 : u = 119 ∨ u = 142 := hu
  obtain ⟨q0, q1, q2, q3, q4, q5, q6, q7, q8, q9, q10⟩ := id hC
  have e1 : (8 * p + o) / 8 = p := by omega
  have e2 : (8 * p + o) % 8 = o := by omega
  have g0 := q0 p hpW
  have g1 := q6 (c 0 p).toNat (by omega)
  rw [show (c 0 p).toNat = (a (u + 2) p).toNat by rw [g0]] at g1
  have hl := livB_lt (c := c) (r := (a (u + 2) p).toNat) hW8
  have hp2 : 2 ^ p ≤ 2 ^ 7 := Nat.pow_le_pow_right (by omega) (by omega)
  have gA : ¬ (i_and (a (u + 5) (a (u + 2) p).toNat) (i_xor (i_shl 1 (p : Int)) (-1)) ≠ 0) ↔ AloneS (nW S) c p (-1) := by
    rw [g1, i_shl1 (by omega), i_andn_nat (by omega) (by omega), Classical.not_not]
    unfold livB
    rw [bts_andn (g := fun q => decide (q ≠ p ∧ c 1 q ≠ 0 ∧ c 0 q = c 0 p)) (fun q hq => by
      rw [decide_eq_true_iff, decide_eq_true_iff, g0, Int.toNat_of_nonneg hr.1]
      exact ⟨fun g => ⟨⟨g.2.1, g.2.2⟩, g.1⟩, fun g => ⟨g.2, g.1.1, g.1.2⟩⟩)]
    constructor
    · intro h q hq h1 h2 h3 h4
      have h5 : (bts (fun q => decide (q ≠ p ∧ c 1 q ≠ 0 ∧ c 0 q = c 0 p)) (nW S)).testBit q = true := bts_bit.mpr ⟨hq, decide_eq_true ⟨h1, h3, h4⟩⟩
      rw [show bts (fun q => decide (q ≠ p ∧ c 1 q ≠ 0 ∧ c 0 q = c 0 p)) (nW S) = 0 by omega, Nat.zero_testBit] at h5
      cases h5
    · intro h
      have h6 : bts (fun q => decide (q ≠ p ∧ c 1 q ≠ 0 ∧ c 0 q = c 0 p)) (nW S) = 0 := nat_bits (fun q => by
        rw [bts_bit, decide_eq_true_iff, Nat.zero_testBit]
        exact ⟨fun g => absurd g.2.2.2 (h q g.1 g.2.1 (by omega) g.2.2.1), fun g => absurd g (by decide)⟩)
      rw [h6]
      rfl
  refine Ev.steps (k := 3) (pc' := 4) (L' := [Vr ((u : Int) + 1), Vi 276, Vi ((p + 8 * o : Nat) : Int), Vx, Vx]) (S' := [Vi (i_and ((p + 8 * o : Nat) : Int) 7)]) (h' := ((SHv st dr rd), (ovl a s b))) (fun _ => rfl) ?_
  rw [show (i_and ((p + 8 * o : Nat) : Int) 7) = (p : Int) from enc_a hp ho]
  refine Ev.steps (k := 6) (pc' := 11) (L' := [Vr ((u : Int) + 1), Vi 276, Vi ((p + 8 * o : Nat) : Int), Vi (p : Int), Vx]) (S' := [Vi (i_and (i_ushr ((p + 8 * o : Nat) : Int) 3) 7)]) (h' := ((SHv st dr rd), (ovl a s b))) (fun _ => rfl) ?_
  rw [show (i_and (i_ushr ((p + 8 * o : Nat) : Int) 3) 7) = (o : Int) from enc_b hp ho]
  refine Ev.steps (k := 4) (pc' := 235) (L' := [Vr ((u : Int) + 1), Vi 276, Vi ((p + 8 * o : Nat) : Int), Vi (p : Int), Vi (o : Int)]) (S' := [Vr ((u : Int) + 1)]) (h' := ((SHv st dr rd), (ovl a s b))) (fun _ => rfl) ?_
  refine Ev.getr (r := ((u : Int) + 5)) rfl rfl (by omega) (shU_1 hu) rfl rfl rfl ?_
  refine Ev.steps (k := 1) (pc' := 239) (L' := [Vr ((u : Int) + 1), Vi 276, Vi ((p + 8 * o : Nat) : Int), Vi (p : Int), Vi (o : Int)]) (S' := [Vr ((u : Int) + 1), Vr ((u : Int) + 5)]) (h' := ((SHv st dr rd), (ovl a s b))) (fun _ => rfl) ?_
  refine Ev.getr (r := ((u : Int) + 2)) rfl rfl (by omega) (shU_1 hu) rfl rfl rfl ?_
  refine Ev.steps (k := 1) (pc' := 243) (L' := [Vr ((u : Int) + 1), Vi 276, Vi ((p + 8 * o : Nat) : Int), Vi (p : Int), Vi (o : Int)]) (S' := [Vi (p : Int), Vr ((u : Int) + 2), Vr ((u : Int) + 5)]) (h' := ((SHv st dr rd), (ovl a s b))) (fun _ => rfl) ?_
  refine Ev.iald (v := (a (u + 2) p)) rfl (by omega) (shU_2 hu) (by omega) (by omega) (ovl_rc (by omega)) ?_
  refine Ev.iald (v := (a (u + 5) (a (u + 2) p).toNat)) rfl (by omega) (shU_5 hu) (by omega) (by omega) (ovl_rc (by omega)) ?_
  refine Ev.ite (P := (i_and (a (u + 5) (a (u + 2) p).toNat) (i_xor (i_shl 1 (p : Int)) (-1))) ≠ 0) (k := 7) (a := 258) (b := 254) (L' := [Vr ((u : Int) + 1), Vi 276, Vi ((p + 8 * o : Nat) : Int), Vi (p : Int), Vi (o : Int)]) (S' := []) (h' := ((SHv st dr rd), (ovl a s b))) (fun _ => rfl) (fun b251 => ?_) (fun b251 => ?_)
  · refine Ev.fin (k := 2) (r := (some (Vi 0))) (h' := ((SHv st dr rd), (ovl a s b))) (fun _ => rfl) ?_
    refine ⟨?_, rfl⟩
    show _ = some (Vi (if AloneS (nW S) c ((8 * p + o) / 8) (-1) then 1 else 0))
    rw [e1]
    first | (rw [if_pos (by exact gA.mp b251)]; done) | (rw [if_neg (by exact fun h => gA.mpr h b251)]; done)
  · refine Ev.fin (k := 3) (r := (some (Vi 1))) (h' := ((SHv st dr rd), (ovl a s b))) (fun _ => rfl) ?_
    refine ⟨?_, rfl⟩
    show _ = some (Vi (if AloneS (nW S) c ((8 * p + o) / 8) (-1) then 1 else 0))
    rw [e1]
    first | (rw [if_pos (by exact gA.mp b251)]; done) | (rw [if_neg (by exact fun h => gA.mpr h b251)]; done)
theorem c_found_0 {X : List Int} {d : Nat} {st dr rd : Int} {a s b : C3} {u : Nat} (hu : huS u) (w : Nat) (hw : w ≤ 9999) : Ev X (d + 1) 90 0 [Vr ((u : Int) + 1), Vi 301, Vi (w : Int), Vx, Vx] [] (SHv st dr rd, ovl a s b) (fun rr hh => rr = some (Vi (w : Int)) ∧ hh = (SHv st dr rd, ovl a s b)) := by
  have hu0 : u = 119 ∨ u = 142 := hu
  refine Ev.fin (k := 14) (r := (some (Vi (w : Int)))) (h' := ((SHv st dr rd), (ovl a s b))) (fun _ => rfl) ?_
  exact ⟨rfl, rfl⟩
