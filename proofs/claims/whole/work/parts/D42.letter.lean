/-! letters of names, on both sides -/
def lenV : Nat → Nat → Nat
  | 0, _ => 0
  | k + 1, n => if n = 0 then 0 else lenV k (n / 256) + 1
theorem lenV_le : ∀ k n, lenV k n ≤ k
  | 0, _ => Nat.le_refl 0
  | k + 1, n => by
    have := lenV_le k (n / 256)
    show (if n = 0 then 0 else lenV k (n / 256) + 1) ≤ k + 1
    split <;> omega
theorem div_s {x b i : Nat} (hb : 0 < b) : x / b ^ (i + 1) = x / b / b ^ i := by
  rw [Nat.pow_succ, Nat.mul_comm, Nat.div_div_eq_div_mul]
theorem len_cv : ∀ (k w : Nat), vdN k w → ∀ i, (cvF w k / 32 ^ i ≠ 0 ↔ i < lenV k w)
  | 0, w, h, i => by
    show (0 / 32 ^ i ≠ 0 ↔ i < 0)
    rw [Nat.zero_div]
    exact ⟨fun g => absurd rfl g, fun g => absurd g (Nat.not_lt_zero i)⟩
  | k + 1, w, h, i => by
    show ((cvF (w / 256) k * 32 + w % 32) / 32 ^ i ≠ 0 ↔ i < if w = 0 then 0 else lenV k (w / 256) + 1)
    by_cases h0 : w = 0
    · rw [if_pos h0, h0, show 0 / 256 = 0 from rfl, cvF_0, Nat.zero_mul, Nat.zero_add, show 0 % 32 = 0 from rfl, Nat.zero_div]
      exact ⟨fun g => absurd rfl g, fun g => absurd g (Nat.not_lt_zero i)⟩
    · rw [if_neg h0]
      have hl := (h.resolve_left h0).1
      match i with
      | 0 =>
        rw [Nat.pow_zero, Nat.div_one]
        exact ⟨fun _ => by omega, fun _ => by omega⟩
      | i + 1 =>
        rw [div_s (by omega), show (cvF (w / 256) k * 32 + w % 32) / 32 = cvF (w / 256) k by omega, len_cv k (w / 256) (h.resolve_left h0).2 i]
        omega
theorem len_w : ∀ (k w : Nat), vdN k w → ∀ i, (w / 256 ^ i ≠ 0 ↔ i < lenV k w)
  | 0, w, h, i => by
    have h : w = 0 := h
    rw [h, Nat.zero_div]
    exact ⟨fun g => absurd rfl g, fun g => absurd g (Nat.not_lt_zero i)⟩
  | k + 1, w, h, i => by
    show (w / 256 ^ i ≠ 0 ↔ i < if w = 0 then 0 else lenV k (w / 256) + 1)
    by_cases h0 : w = 0
    · rw [if_pos h0, h0, Nat.zero_div]
      exact ⟨fun g => absurd rfl g, fun g => absurd g (Nat.not_lt_zero i)⟩
    · rw [if_neg h0]
      match i with
      | 0 =>
        rw [Nat.pow_zero, Nat.div_one]
        exact ⟨fun _ => by omega, fun _ => h0⟩
      | i + 1 =>
        rw [div_s (by omega), len_w k (w / 256) (h.resolve_left h0).2 i]
        omega
theorem dig_w : ∀ (k w : Nat), vdN k w → ∀ j, j < lenV k w → cvF w k / 32 ^ j % 32 + 96 = w / 256 ^ j % 256
  | 0, w, h, j, hj => absurd hj (Nat.not_lt_zero j)
  | k + 1, w, h, j, hj => by
    have hj : j < if w = 0 then 0 else lenV k (w / 256) + 1 := hj
    show (cvF (w / 256) k * 32 + w % 32) / 32 ^ j % 32 + 96 = w / 256 ^ j % 256
    by_cases h0 : w = 0
    · rw [if_pos h0] at hj
      exact absurd hj (Nat.not_lt_zero j)
    · rw [if_neg h0] at hj
      have hl := (h.resolve_left h0).1
      match j with
      | 0 =>
        rw [show 32 ^ 0 = 1 from rfl, Nat.div_one, Nat.div_one]
        omega
      | j + 1 =>
        rw [div_s (by omega), div_s (by omega), show (cvF (w / 256) k * 32 + w % 32) / 32 = cvF (w / 256) k by omega]
        exact dig_w k (w / 256) (h.resolve_left h0).2 j (by omega)
/-- letter k of a name -/
def letS (w : Nat) (k : Int) : Int := if 0 ≤ k ∧ k < ((lenV 6 w : Nat) : Int) then ((w / 256 ^ (lenV 6 w - 1 - k.toNat) % 256 : Nat) : Int) else -1
def aLetter (G : GST) (kd wh k : Int) : Int := if kd = 0 ∧ okR G wh then letS ((gS G).1 1 wh.toNat).toNat k else if kd = 1 ∧ okW G wh then letS ((gS G).1 2 wh.toNat).toNat k else if kd = 2 ∧ okT G wh then letS ((gS G).1 3 wh.toNat).toNat k else -1
/-- names are letters -/
def NmV (S : STY) : Prop := ∀ kd, kd < 3 → ∀ k, k < cntN S.1 kd → 0 ≤ S.1 (1 + kd) k ∧ vdN 6 (S.1 (1 + kd) k).toNat
theorem c_nameL_e {X : List Int} {d : Nat} {st dr rd : Int} {a s b : C3} {z : Nat} (hz : hyS z) (q wh m w : Nat) (hq : q < 6) (hw8 : wh < 8) (hm : wh < m) (hc : a (z + 1) q = (m : Int)) (hv : vdN 6 w) (hn : a (z + 2) (q * 8 + wh) = ((cvF w 6 : Nat) : Int)) (k : Nat) (hk : k < 6) : Ev X d 69 79 [Vr (z : Int), Vi (q : Int), Vi (wh : Int), Vi (k : Int), Vi ((cvF w 6 : Nat) : Int), Vi ((lenV 6 w : Nat) : Int), Vi 6] [] (SHv st dr rd, ovl a s b) (fun rr hh => rr = some (Vi (letS w (k : Int))) ∧ hh = (SHv st dr rd, ovl a s b)) := by
  have hl6 := lenV_le 6 w
  have hcl := cvF_lt 6 w
  have hz0 : z = 2 ∨ z = 58 := hz
  refine Ev.ite (P := (k : Int) < ((lenV 6 w : Nat) : Int)) (k := 3) (a := 87) (b := 85) (L' := [Vr (z : Int), Vi (q : Int), Vi (wh : Int), Vi (k : Int), Vi ((cvF w 6 : Nat) : Int), Vi ((lenV 6 w : Nat) : Int), Vi 6]) (S' := []) (h' := ((SHv st dr rd), (ovl a s b))) (fun _ => rfl) (fun b82 => ?_) (fun b82 => ?_)
  · refine Ev.steps (k := 5) (pc' := 95) (L' := [Vr (z : Int), Vi (q : Int), Vi (wh : Int), Vi (k : Int), Vi ((cvF w 6 : Nat) : Int), Vi ((lenV 6 w : Nat) : Int), Vi 6]) (S' := [Vi (w32 (((lenV 6 w : Nat) : Int) - 1)), Vi ((cvF w 6 : Nat) : Int), Vi 96]) (h' := ((SHv st dr rd), (ovl a s b))) (fun _ => rfl) ?_
    rw [show (w32 (((lenV 6 w : Nat) : Int) - 1)) = ((lenV 6 w - 1 : Nat) : Int) from (by unfold w32; omega)]
    refine Ev.steps (k := 2) (pc' := 97) (L' := [Vr (z : Int), Vi (q : Int), Vi (wh : Int), Vi (k : Int), Vi ((cvF w 6 : Nat) : Int), Vi ((lenV 6 w : Nat) : Int), Vi 6]) (S' := [Vi (w32 (((lenV 6 w - 1 : Nat) : Int) - (k : Int))), Vi ((cvF w 6 : Nat) : Int), Vi 96]) (h' := ((SHv st dr rd), (ovl a s b))) (fun _ => rfl) ?_
    rw [show (w32 (((lenV 6 w - 1 : Nat) : Int) - (k : Int))) = ((lenV 6 w - 1 - k : Nat) : Int) from (by unfold w32; omega)]
    refine Ev.steps (k := 2) (pc' := 99) (L' := [Vr (z : Int), Vi (q : Int), Vi (wh : Int), Vi (k : Int), Vi ((cvF w 6 : Nat) : Int), Vi ((lenV 6 w : Nat) : Int), Vi 6]) (S' := [Vi (w32 (((lenV 6 w - 1 - k : Nat) : Int) * 5)), Vi ((cvF w 6 : Nat) : Int), Vi 96]) (h' := ((SHv st dr rd), (ovl a s b))) (fun _ => rfl) ?_
    rw [show (w32 (((lenV 6 w - 1 - k : Nat) : Int) * 5)) = ((5 * (lenV 6 w - 1 - k) : Nat) : Int) from (by unfold w32; omega)]
    refine Ev.steps (k := 1) (pc' := 100) (L' := [Vr (z : Int), Vi (q : Int), Vi (wh : Int), Vi (k : Int), Vi ((cvF w 6 : Nat) : Int), Vi ((lenV 6 w : Nat) : Int), Vi 6]) (S' := [Vi (i_ushr ((cvF w 6 : Nat) : Int) ((5 * (lenV 6 w - 1 - k) : Nat) : Int)), Vi 96]) (h' := ((SHv st dr rd), (ovl a s b))) (fun _ => rfl) ?_
    rw [show (i_ushr ((cvF w 6 : Nat) : Int) ((5 * (lenV 6 w - 1 - k) : Nat) : Int)) = ((cvF w 6 / 2 ^ (5 * (lenV 6 w - 1 - k)) : Nat) : Int) from (i_ushr_nat (by omega) (by omega))]
    refine Ev.steps (k := 2) (pc' := 103) (L' := [Vr (z : Int), Vi (q : Int), Vi (wh : Int), Vi (k : Int), Vi ((cvF w 6 : Nat) : Int), Vi ((lenV 6 w : Nat) : Int), Vi 6]) (S' := [Vi (i_and ((cvF w 6 / 2 ^ (5 * (lenV 6 w - 1 - k)) : Nat) : Int) 31), Vi 96]) (h' := ((SHv st dr rd), (ovl a s b))) (fun _ => rfl) ?_
    rw [show (i_and ((cvF w 6 / 2 ^ (5 * (lenV 6 w - 1 - k)) : Nat) : Int) 31) = ((cvF w 6 / 2 ^ (5 * (lenV 6 w - 1 - k)) % 32 : Nat) : Int) from (by rw [show (31 : Int) = ((31 : Nat) : Int) from rfl, i_and_nat (by have := Nat.div_le_self (cvF w 6) (2 ^ (5 * (lenV 6 w - 1 - k))); omega) (by omega)]; congr 1; exact Nat.and_two_pow_sub_one_eq_mod _ 5)]
    refine Ev.steps (k := 1) (pc' := 104) (L' := [Vr (z : Int), Vi (q : Int), Vi (wh : Int), Vi (k : Int), Vi ((cvF w 6 : Nat) : Int), Vi ((lenV 6 w : Nat) : Int), Vi 6]) (S' := [Vi (w32 (96 + ((cvF w 6 / 2 ^ (5 * (lenV 6 w - 1 - k)) % 32 : Nat) : Int)))]) (h' := ((SHv st dr rd), (ovl a s b))) (fun _ => rfl) ?_
    rw [show (w32 (96 + ((cvF w 6 / 2 ^ (5 * (lenV 6 w - 1 - k)) % 32 : Nat) : Int))) = ((w / 256 ^ (lenV 6 w - 1 - k) % 256 : Nat) : Int) from (by have hd := dig_w 6 w hv (lenV 6 w - 1 - k) (by omega); rw [show 32 ^ (lenV 6 w - 1 - k) = 2 ^ (5 * (lenV 6 w - 1 - k)) by rw [Nat.pow_mul]] at hd; unfold w32; omega)]
    refine Ev.fin (k := 1) (r := (some (Vi ((w / 256 ^ (lenV 6 w - 1 - k) % 256 : Nat) : Int)))) (h' := ((SHv st dr rd), (ovl a s b))) (fun _ => rfl) ?_
    refine ⟨?_, rfl⟩
    unfold letS
    first
      | (rw [if_neg (by omega)]; done)
      | (rw [if_pos ⟨by omega, by omega⟩, Int.toNat_natCast]; done)
  · refine Ev.fin (k := 2) (r := (some (Vi (-1)))) (h' := ((SHv st dr rd), (ovl a s b))) (fun _ => rfl) ?_
    refine ⟨?_, rfl⟩
    unfold letS
    first
      | (rw [if_neg (by omega)]; done)
      | (rw [if_pos ⟨by omega, by omega⟩, Int.toNat_natCast]; done)
theorem c_nameL_l {X : List Int} {d : Nat} {st dr rd : Int} {a s b : C3} {z : Nat} (hz : hyS z) (q wh m w : Nat) (hq : q < 6) (hw8 : wh < 8) (hm : wh < m) (hc : a (z + 1) q = (m : Int)) (hv : vdN 6 w) (hn : a (z + 2) (q * 8 + wh) = ((cvF w 6 : Nat) : Int)) (k : Nat) (hk : k < 6) (i : Nat) (hi : i ≤ 6) : Ev X (d + 1) 69 46 [Vr (z : Int), Vi (q : Int), Vi (wh : Int), Vi (k : Int), Vi ((cvF w 6 : Nat) : Int), Vi ((min i (lenV 6 w) : Nat) : Int), Vi (i : Int)] [] (SHv st dr rd, ovl a s b) (fun rr hh => rr = some (Vi (letS w (k : Int))) ∧ hh = (SHv st dr rd, ovl a s b)) := by
  induction hkk : (6 - i) using Nat.strongRecOn generalizing i with
  | ind kk ih =>
    have hz0 : z = 2 ∨ z = 58 := hz
    have hl6 := lenV_le 6 w
    have hcl := cvF_lt 6 w
    refine Ev.ite (P := 6 ≤ (i : Int)) (k := 3) (a := 79) (b := 53) (L' := [Vr (z : Int), Vi (q : Int), Vi (wh : Int), Vi (k : Int), Vi ((cvF w 6 : Nat) : Int), Vi ((min i (lenV 6 w) : Nat) : Int), Vi (i : Int)]) (S' := []) (h' := ((SHv st dr rd), (ovl a s b))) (fun _ => rfl) (fun b50 => ?_) (fun b50 => ?_)
    · obtain rfl : i = 6 := by omega
      rw [show min 6 (lenV 6 w) = lenV 6 w by omega]
      exact c_nameL_e hz q wh m w hq hw8 hm hc hv hn k hk
    · refine Ev.steps (k := 5) (pc' := 61) (L' := [Vr (z : Int), Vi (q : Int), Vi (wh : Int), Vi (k : Int), Vi ((cvF w 6 : Nat) : Int), Vi ((min i (lenV 6 w) : Nat) : Int), Vi (i : Int)]) (S' := [Vi (w32 ((i : Int) * 5)), Vi ((cvF w 6 : Nat) : Int), Vi ((min i (lenV 6 w) : Nat) : Int)]) (h' := ((SHv st dr rd), (ovl a s b))) (fun _ => rfl) ?_
      rw [show (w32 ((i : Int) * 5)) = ((5 * i : Nat) : Int) from (by unfold w32; omega)]
      refine Ev.steps (k := 1) (pc' := 62) (L' := [Vr (z : Int), Vi (q : Int), Vi (wh : Int), Vi (k : Int), Vi ((cvF w 6 : Nat) : Int), Vi ((min i (lenV 6 w) : Nat) : Int), Vi (i : Int)]) (S' := [Vi (i_ushr ((cvF w 6 : Nat) : Int) ((5 * i : Nat) : Int)), Vi ((min i (lenV 6 w) : Nat) : Int)]) (h' := ((SHv st dr rd), (ovl a s b))) (fun _ => rfl) ?_
      rw [show (i_ushr ((cvF w 6 : Nat) : Int) ((5 * i : Nat) : Int)) = ((cvF w 6 / 2 ^ (5 * i) : Nat) : Int) from (i_ushr_nat (by omega) (by omega))]
      refine Ev.ite (P := ((cvF w 6 / 2 ^ (5 * i) : Nat) : Int) ≠ 0) (k := 1) (a := 69) (b := 65) (L' := [Vr (z : Int), Vi (q : Int), Vi (wh : Int), Vi (k : Int), Vi ((cvF w 6 : Nat) : Int), Vi ((min i (lenV 6 w) : Nat) : Int), Vi (i : Int)]) (S' := [Vi ((min i (lenV 6 w) : Nat) : Int)]) (h' := ((SHv st dr rd), (ovl a s b))) (fun _ => rfl) (fun b62 => ?_) (fun b62 => ?_)
      · refine Ev.steps (k := 2) (pc' := 71) (L' := [Vr (z : Int), Vi (q : Int), Vi (wh : Int), Vi (k : Int), Vi ((cvF w 6 : Nat) : Int), Vi ((min i (lenV 6 w) : Nat) : Int), Vi (i : Int)]) (S' := [Vi (w32 (((min i (lenV 6 w) : Nat) : Int) + 1))]) (h' := ((SHv st dr rd), (ovl a s b))) (fun _ => rfl) ?_
        rw [show (w32 (((min i (lenV 6 w) : Nat) : Int) + 1)) = ((min (i + 1) (lenV 6 w) : Nat) : Int) from (by unfold w32; first | (have hlc := (len_cv 6 w hv i).mp (by rw [show 32 = 2 ^ 5 from rfl, ← Nat.pow_mul]; omega); omega) | (have hlc := fun g => (len_cv 6 w hv i).mpr g; rw [show 32 = 2 ^ 5 from rfl, ← Nat.pow_mul] at hlc; omega))]
        refine Ev.steps (k := 2) (pc' := 76) (L' := [Vr (z : Int), Vi (q : Int), Vi (wh : Int), Vi (k : Int), Vi ((cvF w 6 : Nat) : Int), Vi ((min (i + 1) (lenV 6 w) : Nat) : Int), Vi (w32 ((i : Int) + 1))]) (S' := []) (h' := ((SHv st dr rd), (ovl a s b))) (fun _ => rfl) ?_
        rw [show (w32 ((i : Int) + 1)) = ((i : Int) + 1) from w32_id (by unfold R32; omega)]
        refine Ev.steps (k := 1) (pc' := 46) (L' := [Vr (z : Int), Vi (q : Int), Vi (wh : Int), Vi (k : Int), Vi ((cvF w 6 : Nat) : Int), Vi ((min (i + 1) (lenV 6 w) : Nat) : Int), Vi ((i : Int) + 1)]) (S' := []) (h' := ((SHv st dr rd), (ovl a s b))) (fun _ => rfl) ?_
        exact ih _ (by omega) (i + 1) (by omega) rfl
      · refine Ev.steps (k := 3) (pc' := 71) (L' := [Vr (z : Int), Vi (q : Int), Vi (wh : Int), Vi (k : Int), Vi ((cvF w 6 : Nat) : Int), Vi ((min i (lenV 6 w) : Nat) : Int), Vi (i : Int)]) (S' := [Vi (w32 (((min i (lenV 6 w) : Nat) : Int) + 0))]) (h' := ((SHv st dr rd), (ovl a s b))) (fun _ => rfl) ?_
        rw [show (w32 (((min i (lenV 6 w) : Nat) : Int) + 0)) = ((min (i + 1) (lenV 6 w) : Nat) : Int) from (by unfold w32; first | (have hlc := (len_cv 6 w hv i).mp (by rw [show 32 = 2 ^ 5 from rfl, ← Nat.pow_mul]; omega); omega) | (have hlc := fun g => (len_cv 6 w hv i).mpr g; rw [show 32 = 2 ^ 5 from rfl, ← Nat.pow_mul] at hlc; omega))]
        refine Ev.steps (k := 2) (pc' := 76) (L' := [Vr (z : Int), Vi (q : Int), Vi (wh : Int), Vi (k : Int), Vi ((cvF w 6 : Nat) : Int), Vi ((min (i + 1) (lenV 6 w) : Nat) : Int), Vi (w32 ((i : Int) + 1))]) (S' := []) (h' := ((SHv st dr rd), (ovl a s b))) (fun _ => rfl) ?_
        rw [show (w32 ((i : Int) + 1)) = ((i : Int) + 1) from w32_id (by unfold R32; omega)]
        refine Ev.steps (k := 1) (pc' := 46) (L' := [Vr (z : Int), Vi (q : Int), Vi (wh : Int), Vi (k : Int), Vi ((cvF w 6 : Nat) : Int), Vi ((min (i + 1) (lenV 6 w) : Nat) : Int), Vi ((i : Int) + 1)]) (S' := []) (h' := ((SHv st dr rd), (ovl a s b))) (fun _ => rfl) ?_
        exact ih _ (by omega) (i + 1) (by omega) rfl
theorem c_nameLetter {X : List Int} {d : Nat} {st dr rd : Int} {a s b : C3} {z : Nat} (hz : hyS z) (q wh m w : Nat) (hq0 : q < 6) (hw8 : wh < 8) (hm : wh < m) (hc : a (z + 1) q = (m : Int)) (hv : vdN 6 w) (hn : a (z + 2) (q * 8 + wh) = ((cvF w 6 : Nat) : Int)) (k : Int) : Ev X (d + 1) 69 0 [Vr (z : Int), Vi (q : Int), Vi (wh : Int), Vi k, Vx, Vx, Vx] [] (SHv st dr rd, ovl a s b) (fun rr hh => rr = some (Vi (letS w k)) ∧ hh = (SHv st dr rd, ovl a s b)) := by
  have hz0 : z = 2 ∨ z = 58 := hz
  have hl6 := lenV_le 6 w
  have hnn : ∀ (j : Nat), k = (j : Int) → letS w k = letS w (j : Int) := fun j h => by rw [h]
  refine Ev.call (k := 3) (pc1 := 3) (L1 := [Vr (z : Int), Vi (q : Int), Vi (wh : Int), Vi k, Vx, Vx, Vx]) (S1 := [Vi (wh : Int), Vi (q : Int), Vr (z : Int)]) (h1 := ((SHv st dr rd), (ovl a s b))) (m' := 70) (as := [Vr (z : Int), Vi (q : Int), Vi (wh : Int)]) (S' := []) (L0 := [Vr (z : Int), Vi (q : Int), Vi (wh : Int)]) (fun _ => rfl) rfl rfl rfl rfl (stpC_of rfl (pm_recv_of (by omega) (shY_0 hz))) rfl (c_there hz q hq0 (wh : Int)) (fun r h' hq => ?_)
  obtain ⟨rfl, rfl⟩ := hq
  rw [if_pos (by rw [hc]; omega)]
  show Ev X _ _ 6 [Vr (z : Int), Vi (q : Int), Vi (wh : Int), Vi k, Vx, Vx, Vx] [Vi 1] ((SHv st dr rd), (ovl a s b)) _
  refine Ev.ite (P := 8 ≤ (wh : Int)) (k := 4) (a := 25) (b := 15) (L' := [Vr (z : Int), Vi (q : Int), Vi (wh : Int), Vi k, Vx, Vx, Vx]) (S' := []) (h' := ((SHv st dr rd), (ovl a s b))) (fun _ => rfl) (fun b12 => ?_) (fun b12 => ?_)
  · exfalso; omega
  · refine Ev.ite (P := k < 0) (k := 2) (a := 25) (b := 19) (L' := [Vr (z : Int), Vi (q : Int), Vi (wh : Int), Vi k, Vx, Vx, Vx]) (S' := []) (h' := ((SHv st dr rd), (ovl a s b))) (fun _ => rfl) (fun b16 => ?_) (fun b16 => ?_)
    · refine Ev.fin (k := 2) (r := (some (Vi (-1)))) (h' := ((SHv st dr rd), (ovl a s b))) (fun _ => rfl) ?_
      refine ⟨?_, rfl⟩
      unfold letS
      rw [if_neg (by omega)]
    · refine Ev.ite (P := k < 6) (k := 3) (a := 27) (b := 25) (L' := [Vr (z : Int), Vi (q : Int), Vi (wh : Int), Vi k, Vx, Vx, Vx]) (S' := []) (h' := ((SHv st dr rd), (ovl a s b))) (fun _ => rfl) (fun b22 => ?_) (fun b22 => ?_)
      · refine Ev.steps (k := 1) (pc' := 28) (L' := [Vr (z : Int), Vi (q : Int), Vi (wh : Int), Vi k, Vx, Vx, Vx]) (S' := [Vr (z : Int)]) (h' := ((SHv st dr rd), (ovl a s b))) (fun _ => rfl) ?_
        refine Ev.getr (r := ((z : Int) + 2)) rfl rfl (by omega) (shY_0 hz) rfl rfl rfl ?_
        refine Ev.steps (k := 3) (pc' := 35) (L' := [Vr (z : Int), Vi (q : Int), Vi (wh : Int), Vi k, Vx, Vx, Vx]) (S' := [Vi (w32 ((q : Int) * 8)), Vr ((z : Int) + 2)]) (h' := ((SHv st dr rd), (ovl a s b))) (fun _ => rfl) ?_
        rw [show (w32 ((q : Int) * 8)) = ((q : Int) * 8) from w32_id (by unfold R32; omega)]
        refine Ev.steps (k := 2) (pc' := 37) (L' := [Vr (z : Int), Vi (q : Int), Vi (wh : Int), Vi k, Vx, Vx, Vx]) (S' := [Vi (w32 (((q : Int) * 8) + (wh : Int))), Vr ((z : Int) + 2)]) (h' := ((SHv st dr rd), (ovl a s b))) (fun _ => rfl) ?_
        rw [show (w32 (((q : Int) * 8) + (wh : Int))) = (((q : Int) * 8) + (wh : Int)) from w32_id (by unfold R32; omega)]
        refine Ev.iald (v := ((cvF w 6 : Nat) : Int)) rfl (by omega) (shY_2 hz) (by omega) (by omega) ((ovl_rc (by omega)).trans (hn)) ?_
        refine Ev.steps (k := 5) (pc' := 46) (L' := [Vr (z : Int), Vi (q : Int), Vi (wh : Int), Vi k, Vi ((cvF w 6 : Nat) : Int), Vi 0, Vi 0]) (S' := []) (h' := ((SHv st dr rd), (ovl a s b))) (fun _ => rfl) ?_
        obtain ⟨j, rfl⟩ : ∃ j : Nat, k = (j : Int) := ⟨k.toNat, by omega⟩
        exact c_nameL_l hz q wh m w hq0 hw8 hm hc hv hn j (by omega) 0 (by omega)
      · refine Ev.fin (k := 2) (r := (some (Vi (-1)))) (h' := ((SHv st dr rd), (ovl a s b))) (fun _ => rfl) ?_
        refine ⟨?_, rfl⟩
        unfold letS
        rw [if_neg (by omega)]

