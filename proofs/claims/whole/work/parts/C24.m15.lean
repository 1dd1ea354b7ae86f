/-! THE CLASS: the finder -/
def ddN (H : Nat → SC) (v : Nat) (n : Nat) : Nat := lst (fun m => decide (H m 1 v = 0)) n
def clB (W : Nat) (c : SC) (rv : Int) (p : Nat) : Nat := if c 0 p ≠ rv ∨ c 1 p = 0 then witB W c p else 0
theorem clB_lt {W : Nat} {c : SC} {rv : Int} {p : Nat} (hW : W ≤ 8) : clB W c rv p < 256 := by
  have := witB_lt (W := W) (c := c) (r := p) hW
  unfold clB
  split <;> omega
abbrev DmH (H : Nat → SC) (v n : Nat) : Prop := ∀ m m', m ≤ m' → m' < n → H m 1 v = 0 → H m' 1 v = 0
def LkR (W : Nat) (H : Nat → SC) (n v : Nat) (a : SC) (M : Nat) : Prop := ∀ m, m < M → a 140 m = ((witB W (H m) v : Nat) : Int) ∧ a 139 m = b64 (pkD 8 (clB W (H m) (H (n - 1) 0 v)) W)
def LkC (W : Nat) (H : Nat → SC) (n v : Nat) (a : SC) : Prop := a 138 2 = (n : Int) ∧ a 138 3 = (W : Int) ∧ a 138 4 = (v : Int) ∧ a 138 5 = ((ddN H v n : Nat) : Int) ∧ a 138 6 = ((alvB W (H (n - 1)) : Nat) : Int) ∧ LkR W H n v a n
theorem ddN_s {H : Nat → SC} {v n m : Nat} (hD : DmH H v n) (hm : m < n) : ddN H v (m + 1) = ddN H v m + if H m 1 v ≠ 0 then 1 else 0 := by
  unfold ddN
  rw [lst_s]
  have hle := lst_le (fun m => decide (H m 1 v = 0)) m
  by_cases h : lst (fun m => decide (H m 1 v = 0)) m < m
  · have h2 := of_decide_eq_true (lst_sat _ m h)
    have h3 := hD _ m (by omega) hm h2
    rw [if_pos h, if_neg (fun g => g h3)]
    rfl
  · rw [if_neg h]
    have e : lst (fun m => decide (H m 1 v = 0)) m = m := by omega
    by_cases g : H m 1 v = 0
    · rw [if_pos (decide_eq_true g), if_neg (fun g2 => g2 g), e]
      rfl
    · rw [if_neg (fun g2 => g (of_decide_eq_true g2)), if_pos g, e]
theorem c_look_p {X : List Int} {d : Nat} {st dr rd : Int} {a s b : C3} {u : Nat} (hu : huS u) {W n : Nat} {H : Nat → SC} (hn : n ≤ 180) (hW : W ≤ 8) (v rv : Nat) (hv : v < W) (hrv : H (n - 1) 0 v = (rv : Int)) (m : Nat) (hm : m < n) {a0 : C3} {Q : Option pm_V → pm_H → Prop} (hH0 : HsH W H a0 u n) (K : ∀ a2 : C3, FrO 139 139 a0 a2 → (∀ j, j ≠ m → a2 139 j = a0 139 j) → a2 139 m = b64 (pkD 8 (clB W (H m) (H (n - 1) 0 v)) W) → Ev X (d + 4) 131 173 [Vr 138, Vr (u : Int), Vi (W : Int), Vi (v : Int), Vi (rv : Int), Vi (m : Int), Vi (W : Int)] [] (SHv st dr rd, ovl a2 s b) Q) (p : Nat) (hp : p ≤ W) (hf : FrO 139 139 a0 a) (hj : ∀ j, j ≠ m → a 139 j = a0 139 j) (h9 : a 139 m = b64 (pkD 8 (clB W (H m) (H (n - 1) 0 v)) p)) : Ev X (d + 4) 131 112 [Vr 138, Vr (u : Int), Vi (W : Int), Vi (v : Int), Vi (rv : Int), Vi (m : Int), Vi (p : Int)] [] (SHv st dr rd, ovl a s b) (Q) := by
  induction hkk : (W - p) using Nat.strongRecOn generalizing p a with
  | ind kk ih =>
    have hu0 : u = 119 ∨ u = 142 := hu
    have hH : HsH W H a u n := hH0.fr (hf _ (by omega)) (hf _ (by omega))
    have hcl : ∀ i, clB W (H m) (H (n - 1) 0 v) i < 256 := fun i => clB_lt hW
    have hpk := pkD_or (w := 8) (x := clB W (H m) (H (n - 1) 0 v)) (n := p) (fun i _ => hcl i)
    have hwp := witB_lt (W := W) (c := H m) (r := p) hW
    refine Ev.ite (P := (W : Int) ≤ (p : Int)) (k := 3) (a := 173) (b := 118) (L' := [Vr 138, Vr (u : Int), Vi (W : Int), Vi (v : Int), Vi (rv : Int), Vi (m : Int), Vi (p : Int)]) (S' := []) (h' := ((SHv st dr rd), (ovl a s b))) (fun _ => rfl) (fun b115 => ?_) (fun b115 => ?_)
    · obtain rfl : p = W := by omega
      exact K a hf hj h9
    · refine Ev.call (k := 3) (pc1 := 123) (L1 := [Vr 138, Vr (u : Int), Vi (W : Int), Vi (v : Int), Vi (rv : Int), Vi (m : Int), Vi (p : Int)]) (S1 := [Vi (m : Int), Vi (p : Int), Vr (u : Int)]) (h1 := ((SHv st dr rd), (ovl a s b))) (m' := 107) (as := [Vr (u : Int), Vi (p : Int), Vi (m : Int)]) (S' := []) (L0 := [Vr (u : Int), Vi (p : Int), Vi (m : Int)]) (fun _ => rfl) rfl rfl rfl rfl (stpC_of rfl (pm_recv_of (by omega) (shU_0 hu))) rfl (c_roomThen hu hH hn hW p m hm (by omega)) (fun r h' hq => ?_)
      obtain ⟨rfl, rfl⟩ := hq
      show Ev X _ _ 126 [Vr 138, Vr (u : Int), Vi (W : Int), Vi (v : Int), Vi (rv : Int), Vi (m : Int), Vi (p : Int)] [Vi (H m 0 p)] ((SHv st dr rd), (ovl a s b)) _
      refine Ev.ite (P := (H m 0 p) ≠ (rv : Int)) (k := 2) (a := 142) (b := 131) (L' := [Vr 138, Vr (u : Int), Vi (W : Int), Vi (v : Int), Vi (rv : Int), Vi (m : Int), Vi (p : Int)]) (S' := []) (h' := ((SHv st dr rd), (ovl a s b))) (fun _ => rfl) (fun b128 => ?_) (fun b128 => ?_)
      · refine Ev.steps (k := 4) (pc' := 149) (L' := [Vr 138, Vr (u : Int), Vi (W : Int), Vi (v : Int), Vi (rv : Int), Vi (m : Int), Vi (p : Int)]) (S' := [Vi (m : Int), Vr 139, Vi (m : Int), Vr 139]) (h' := ((SHv st dr rd), (ovl a s b))) (fun _ => rfl) ?_
        refine Ev.lald (v := (b64 (pkD 8 (clB W (H m) (H (n - 1) 0 v)) p))) rfl (by decide) rfl (by omega) (by omega) (h9) ?_
        refine Ev.call (k := 3) (pc1 := 155) (L1 := [Vr 138, Vr (u : Int), Vi (W : Int), Vi (v : Int), Vi (rv : Int), Vi (m : Int), Vi (p : Int)]) (S1 := [Vi (m : Int), Vi (p : Int), Vr (u : Int), Vl (b64 (pkD 8 (clB W (H m) (H (n - 1) 0 v)) p)), Vi (m : Int), Vr 139]) (h1 := ((SHv st dr rd), (ovl a s b))) (m' := 122) (as := [Vr (u : Int), Vi (p : Int), Vi (m : Int)]) (S' := [Vl (b64 (pkD 8 (clB W (H m) (H (n - 1) 0 v)) p)), Vi (m : Int), Vr 139]) (L0 := [Vr (u : Int), Vi (p : Int), Vi (m : Int)]) (fun _ => rfl) rfl rfl rfl rfl (stpC_of rfl (pm_recv_of (by omega) (shU_0 hu))) rfl (c_witnesses hu hH hn hW p m hm (by omega)) (fun r h' hq => ?_)
        obtain ⟨rfl, rfl⟩ := hq
        show Ev X _ _ 158 [Vr 138, Vr (u : Int), Vi (W : Int), Vi (v : Int), Vi (rv : Int), Vi (m : Int), Vi (p : Int)] [Vi ((witB W (H m) p : Nat) : Int), Vl (b64 (pkD 8 (clB W (H m) (H (n - 1) 0 v)) p)), Vi (m : Int), Vr 139] ((SHv st dr rd), (ovl a s b)) _
        refine Ev.steps (k := 4) (pc' := 164) (L' := [Vr 138, Vr (u : Int), Vi (W : Int), Vi (v : Int), Vi (rv : Int), Vi (m : Int), Vi (p : Int)]) (S' := [Vi (w32 ((p : Int) * 8)), Vl ((witB W (H m) p : Nat) : Int), Vl (b64 (pkD 8 (clB W (H m) (H (n - 1) 0 v)) p)), Vi (m : Int), Vr 139]) (h' := ((SHv st dr rd), (ovl a s b))) (fun _ => rfl) ?_
        rw [show (w32 ((p : Int) * 8)) = ((8 * p : Nat) : Int) from (by unfold w32; omega)]
        refine Ev.steps (k := 2) (pc' := 166) (L' := [Vr 138, Vr (u : Int), Vi (W : Int), Vi (v : Int), Vi (rv : Int), Vi (m : Int), Vi (p : Int)]) (S' := [Vl (l_or (b64 (pkD 8 (clB W (H m) (H (n - 1) 0 v)) p)) (l_shl ((witB W (H m) p : Nat) : Int) ((8 * p : Nat) : Int))), Vi (m : Int), Vr 139]) (h' := ((SHv st dr rd), (ovl a s b))) (fun _ => rfl) ?_
        rw [show (l_or (b64 (pkD 8 (clB W (H m) (H (n - 1) 0 v)) p)) (l_shl ((witB W (H m) p : Nat) : Int) ((8 * p : Nat) : Int))) = (b64 (pkD 8 (clB W (H m) (H (n - 1) 0 v)) (p + 1))) from (by rw [← b64_s (x := witB W (H m) p) (by omega), b64_shl (by omega), b64_or, ← hpk, show clB W (H m) (H (n - 1) 0 v) p = witB W (H m) p by unfold clB; rw [if_pos (by first | exact Or.inl (by rw [hrv]; exact b128) | exact Or.inr (Classical.not_not.mp c136))]])]
        refine Ev.last (c' := (ovl (updC a 139 m (b64 (pkD 8 (clB W (H m) (H (n - 1) 0 v)) (p + 1)))) s b)) rfl (by decide) rfl (by omega) (by omega) (ovl_wc (by decide)) ?_
        refine Ev.steps (k := 1) (pc' := 170) (L' := [Vr 138, Vr (u : Int), Vi (W : Int), Vi (v : Int), Vi (rv : Int), Vi (m : Int), Vi (w32 ((p : Int) + 1))]) (S' := []) (h' := ((SHv st dr rd), (ovl (updC a 139 m (b64 (pkD 8 (clB W (H m) (H (n - 1) 0 v)) (p + 1)))) s b))) (fun _ => rfl) ?_
        rw [show (w32 ((p : Int) + 1)) = ((p : Int) + 1) from w32_id (by unfold R32; omega)]
        refine Ev.steps (k := 1) (pc' := 112) (L' := [Vr 138, Vr (u : Int), Vi (W : Int), Vi (v : Int), Vi (rv : Int), Vi (m : Int), Vi ((p : Int) + 1)]) (S' := []) (h' := ((SHv st dr rd), (ovl (updC a 139 m (b64 (pkD 8 (clB W (H m) (H (n - 1) 0 v)) (p + 1)))) s b))) (fun _ => rfl) ?_
        refine ih _ (by omega) (a := (updC a 139 m (b64 (pkD 8 (clB W (H m) (H (n - 1) 0 v)) (p + 1))))) (p + 1) (by omega) (by first | exact hf | exact hf.up (by omega)) (fun j hjm => by first | exact hj j hjm | (rw [updC_nt (by omega)]; exact hj j hjm)) ?_ rfl
        first
          | (rw [updC_sm]; done)
          | (rw [h9, ← hpk, show clB W (H m) (H (n - 1) 0 v) p = 0 by unfold clB; rw [if_neg (fun h => h.elim (fun h => b128 (by rw [← hrv]; exact h)) (fun h => c136 h))], Nat.zero_mul, Nat.or_zero])
      · refine Ev.call (k := 3) (pc1 := 136) (L1 := [Vr 138, Vr (u : Int), Vi (W : Int), Vi (v : Int), Vi (rv : Int), Vi (m : Int), Vi (p : Int)]) (S1 := [Vi (m : Int), Vi (p : Int), Vr (u : Int)]) (h1 := ((SHv st dr rd), (ovl a s b))) (m' := 109) (as := [Vr (u : Int), Vi (p : Int), Vi (m : Int)]) (S' := []) (L0 := [Vr (u : Int), Vi (p : Int), Vi (m : Int)]) (fun _ => rfl) rfl rfl rfl rfl (stpC_of rfl (pm_recv_of (by omega) (shU_0 hu))) rfl (c_livedThen hu hH hn hW p m hm (by omega)) (fun r h' hq => ?_)
        obtain ⟨rfl, rfl⟩ := hq
        by_cases c136 : H m 1 p ≠ 0
        · rw [if_pos c136]
          show Ev X _ _ 139 [Vr 138, Vr (u : Int), Vi (W : Int), Vi (v : Int), Vi (rv : Int), Vi (m : Int), Vi (p : Int)] [Vi 1] ((SHv st dr rd), (ovl a s b)) _
          refine Ev.steps (k := 2) (pc' := 170) (L' := [Vr 138, Vr (u : Int), Vi (W : Int), Vi (v : Int), Vi (rv : Int), Vi (m : Int), Vi (w32 ((p : Int) + 1))]) (S' := []) (h' := ((SHv st dr rd), (ovl a s b))) (fun _ => rfl) ?_
          rw [show (w32 ((p : Int) + 1)) = ((p : Int) + 1) from w32_id (by unfold R32; omega)]
          refine Ev.steps (k := 1) (pc' := 112) (L' := [Vr 138, Vr (u : Int), Vi (W : Int), Vi (v : Int), Vi (rv : Int), Vi (m : Int), Vi ((p : Int) + 1)]) (S' := []) (h' := ((SHv st dr rd), (ovl a s b))) (fun _ => rfl) ?_
          refine ih _ (by omega) (a := a) (p + 1) (by omega) (by first | exact hf | exact hf.up (by omega)) (fun j hjm => by first | exact hj j hjm | (rw [updC_nt (by omega)]; exact hj j hjm)) ?_ rfl
          first
            | (rw [updC_sm]; done)
            | (rw [h9, ← hpk, show clB W (H m) (H (n - 1) 0 v) p = 0 by unfold clB; rw [if_neg (fun h => h.elim (fun h => b128 (by rw [← hrv]; exact h)) (fun h => c136 h))], Nat.zero_mul, Nat.or_zero])
        · rw [if_neg c136]
          show Ev X _ _ 139 [Vr 138, Vr (u : Int), Vi (W : Int), Vi (v : Int), Vi (rv : Int), Vi (m : Int), Vi (p : Int)] [Vi 0] ((SHv st dr rd), (ovl a s b)) _
          refine Ev.steps (k := 5) (pc' := 149) (L' := [Vr 138, Vr (u : Int), Vi (W : Int), Vi (v : Int), Vi (rv : Int), Vi (m : Int), Vi (p : Int)]) (S' := [Vi (m : Int), Vr 139, Vi (m : Int), Vr 139]) (h' := ((SHv st dr rd), (ovl a s b))) (fun _ => rfl) ?_
          refine Ev.lald (v := (b64 (pkD 8 (clB W (H m) (H (n - 1) 0 v)) p))) rfl (by decide) rfl (by omega) (by omega) (h9) ?_
          refine Ev.call (k := 3) (pc1 := 155) (L1 := [Vr 138, Vr (u : Int), Vi (W : Int), Vi (v : Int), Vi (rv : Int), Vi (m : Int), Vi (p : Int)]) (S1 := [Vi (m : Int), Vi (p : Int), Vr (u : Int), Vl (b64 (pkD 8 (clB W (H m) (H (n - 1) 0 v)) p)), Vi (m : Int), Vr 139]) (h1 := ((SHv st dr rd), (ovl a s b))) (m' := 122) (as := [Vr (u : Int), Vi (p : Int), Vi (m : Int)]) (S' := [Vl (b64 (pkD 8 (clB W (H m) (H (n - 1) 0 v)) p)), Vi (m : Int), Vr 139]) (L0 := [Vr (u : Int), Vi (p : Int), Vi (m : Int)]) (fun _ => rfl) rfl rfl rfl rfl (stpC_of rfl (pm_recv_of (by omega) (shU_0 hu))) rfl (c_witnesses hu hH hn hW p m hm (by omega)) (fun r h' hq => ?_)
          obtain ⟨rfl, rfl⟩ := hq
          show Ev X _ _ 158 [Vr 138, Vr (u : Int), Vi (W : Int), Vi (v : Int), Vi (rv : Int), Vi (m : Int), Vi (p : Int)] [Vi ((witB W (H m) p : Nat) : Int), Vl (b64 (pkD 8 (clB W (H m) (H (n - 1) 0 v)) p)), Vi (m : Int), Vr 139] ((SHv st dr rd), (ovl a s b)) _
          refine Ev.steps (k := 4) (pc' := 164) (L' := [Vr 138, Vr (u : Int), Vi (W : Int), Vi (v : Int), Vi (rv : Int), Vi (m : Int), Vi (p : Int)]) (S' := [Vi (w32 ((p : Int) * 8)), Vl ((witB W (H m) p : Nat) : Int), Vl (b64 (pkD 8 (clB W (H m) (H (n - 1) 0 v)) p)), Vi (m : Int), Vr 139]) (h' := ((SHv st dr rd), (ovl a s b))) (fun _ => rfl) ?_
          rw [show (w32 ((p : Int) * 8)) = ((8 * p : Nat) : Int) from (by unfold w32; omega)]
          refine Ev.steps (k := 2) (pc' := 166) (L' := [Vr 138, Vr (u : Int), Vi (W : Int), Vi (v : Int), Vi (rv : Int), Vi (m : Int), Vi (p : Int)]) (S' := [Vl (l_or (b64 (pkD 8 (clB W (H m) (H (n - 1) 0 v)) p)) (l_shl ((witB W (H m) p : Nat) : Int) ((8 * p : Nat) : Int))), Vi (m : Int), Vr 139]) (h' := ((SHv st dr rd), (ovl a s b))) (fun _ => rfl) ?_
          rw [show (l_or (b64 (pkD 8 (clB W (H m) (H (n - 1) 0 v)) p)) (l_shl ((witB W (H m) p : Nat) : Int) ((8 * p : Nat) : Int))) = (b64 (pkD 8 (clB W (H m) (H (n - 1) 0 v)) (p + 1))) from (by rw [← b64_s (x := witB W (H m) p) (by omega), b64_shl (by omega), b64_or, ← hpk, show clB W (H m) (H (n - 1) 0 v) p = witB W (H m) p by unfold clB; rw [if_pos (by first | exact Or.inl (by rw [hrv]; exact b128) | exact Or.inr (Classical.not_not.mp c136))]])]
          refine Ev.last (c' := (ovl (updC a 139 m (b64 (pkD 8 (clB W (H m) (H (n - 1) 0 v)) (p + 1)))) s b)) rfl (by decide) rfl (by omega) (by omega) (ovl_wc (by decide)) ?_
          refine Ev.steps (k := 1) (pc' := 170) (L' := [Vr 138, Vr (u : Int), Vi (W : Int), Vi (v : Int), Vi (rv : Int), Vi (m : Int), Vi (w32 ((p : Int) + 1))]) (S' := []) (h' := ((SHv st dr rd), (ovl (updC a 139 m (b64 (pkD 8 (clB W (H m) (H (n - 1) 0 v)) (p + 1)))) s b))) (fun _ => rfl) ?_
          rw [show (w32 ((p : Int) + 1)) = ((p : Int) + 1) from w32_id (by unfold R32; omega)]
          refine Ev.steps (k := 1) (pc' := 112) (L' := [Vr 138, Vr (u : Int), Vi (W : Int), Vi (v : Int), Vi (rv : Int), Vi (m : Int), Vi ((p : Int) + 1)]) (S' := []) (h' := ((SHv st dr rd), (ovl (updC a 139 m (b64 (pkD 8 (clB W (H m) (H (n - 1) 0 v)) (p + 1)))) s b))) (fun _ => rfl) ?_
          refine ih _ (by omega) (a := (updC a 139 m (b64 (pkD 8 (clB W (H m) (H (n - 1) 0 v)) (p + 1))))) (p + 1) (by omega) (by first | exact hf | exact hf.up (by omega)) (fun j hjm => by first | exact hj j hjm | (rw [updC_nt (by omega)]; exact hj j hjm)) ?_ rfl
          first
            | (rw [updC_sm]; done)
            | (rw [h9, ← hpk, show clB W (H m) (H (n - 1) 0 v) p = 0 by unfold clB; rw [if_neg (fun h => h.elim (fun h => b128 (by rw [← hrv]; exact h)) (fun h => c136 h))], Nat.zero_mul, Nat.or_zero])
theorem c_look_m {X : List Int} {d : Nat} {st dr rd : Int} {a s b : C3} {u : Nat} (hu : huS u) {W n : Nat} {H : Nat → SC} (hn : n ≤ 180) (hW : W ≤ 8) (v rv : Nat) (hv : v < W) (hrv : H (n - 1) 0 v = (rv : Int)) (hD : DmH H v n) {a0 : C3} (hH0 : HsH W H a0 u n) (m : Nat) (z : pm_V) (hm : m ≤ n) (hf : FrO 138 140 a0 a) (h2 : a 138 2 = (n : Int)) (h3 : a 138 3 = (W : Int)) (h4 : a 138 4 = (v : Int)) (h5 : a 138 5 = ((ddN H v m : Nat) : Int)) (h6 : a 138 6 = ((alvB W (H (n - 1)) : Nat) : Int)) (hL : LkR W H n v a m) : Ev X (d + 4) 131 54 [Vr 138, Vr (u : Int), Vi (W : Int), Vi (v : Int), Vi (rv : Int), Vi (m : Int), z] [] (SHv st dr rd, ovl a s b) (fun rr hh => rr = none ∧ ∃ a' : C3, hh = (SHv st dr rd, ovl a' s b) ∧ FrO 138 140 a0 a' ∧ LkC W H n v a') := by
  induction hkk : (n - m) using Nat.strongRecOn generalizing m z a with
  | ind kk ih =>
    have hu0 : u = 119 ∨ u = 142 := hu
    have hH : HsH W H a u n := hH0.fr (hf _ (by omega)) (hf _ (by omega))
    have hdl := lst_le (fun m => decide (H m 1 v = 0)) m
    have hdd : ddN H v m ≤ m := hdl
    clear hdl
    refine Ev.steps (k := 3) (pc' := 60) (L' := [Vr 138, Vr (u : Int), Vi (W : Int), Vi (v : Int), Vi (rv : Int), Vi (m : Int), z]) (S' := [Vi (a 138 2), Vi (m : Int)]) (h' := ((SHv st dr rd), (ovl a s b))) (fun _ => rfl) ?_
    rw [h2]
    refine Ev.ite (P := (n : Int) ≤ (m : Int)) (k := 1) (a := 179) (b := 63) (L' := [Vr 138, Vr (u : Int), Vi (W : Int), Vi (v : Int), Vi (rv : Int), Vi (m : Int), z]) (S' := []) (h' := ((SHv st dr rd), (ovl a s b))) (fun _ => rfl) (fun b60 => ?_) (fun b60 => ?_)
    · refine Ev.fin (k := 1) (r := none) (h' := ((SHv st dr rd), (ovl a s b))) (fun _ => rfl) ?_
      obtain rfl : m = n := by omega
      exact ⟨rfl, a, rfl, hf, h2, h3, h4, h5, h6, hL⟩
    · refine Ev.call (k := 6) (pc1 := 73) (L1 := [Vr 138, Vr (u : Int), Vi (W : Int), Vi (v : Int), Vi (rv : Int), Vi (m : Int), z]) (S1 := [Vi (m : Int), Vi (v : Int), Vr (u : Int), Vi (m : Int), Vr 140]) (h1 := ((SHv st dr rd), (ovl a s b))) (m' := 122) (as := [Vr (u : Int), Vi (v : Int), Vi (m : Int)]) (S' := [Vi (m : Int), Vr 140]) (L0 := [Vr (u : Int), Vi (v : Int), Vi (m : Int)]) (fun _ => rfl) rfl rfl rfl rfl (stpC_of rfl (pm_recv_of (by omega) (shU_0 hu))) rfl (c_witnesses hu hH hn hW v m (by omega) hv) (fun r h' hq => ?_)
      obtain ⟨rfl, rfl⟩ := hq
      show Ev X _ _ 76 [Vr 138, Vr (u : Int), Vi (W : Int), Vi (v : Int), Vi (rv : Int), Vi (m : Int), z] [Vi ((witB W (H m) v : Nat) : Int), Vi (m : Int), Vr 140] ((SHv st dr rd), (ovl a s b)) _
      refine Ev.iast (c' := (ovl (updC a 140 m ((witB W (H m) v : Nat) : Int)) s b)) rfl (by decide) rfl (by omega) (by omega) (ovl_wc (by decide)) ?_
      refine Ev.steps (k := 3) (pc' := 82) (L' := [Vr 138, Vr (u : Int), Vi (W : Int), Vi (v : Int), Vi (rv : Int), Vi (m : Int), z]) (S' := [Vi (a 138 5), Vr 138]) (h' := ((SHv st dr rd), (ovl (updC a 140 m ((witB W (H m) v : Nat) : Int)) s b))) (fun _ => rfl) ?_
      rw [h5]
      refine Ev.call (k := 3) (pc1 := 86) (L1 := [Vr 138, Vr (u : Int), Vi (W : Int), Vi (v : Int), Vi (rv : Int), Vi (m : Int), z]) (S1 := [Vi (m : Int), Vi (v : Int), Vr (u : Int), Vi ((ddN H v m : Nat) : Int), Vr 138]) (h1 := ((SHv st dr rd), (ovl (updC a 140 m ((witB W (H m) v : Nat) : Int)) s b))) (m' := 109) (as := [Vr (u : Int), Vi (v : Int), Vi (m : Int)]) (S' := [Vi ((ddN H v m : Nat) : Int), Vr 138]) (L0 := [Vr (u : Int), Vi (v : Int), Vi (m : Int)]) (fun _ => rfl) rfl rfl rfl rfl (stpC_of rfl (pm_recv_of (by omega) (shU_0 hu))) rfl (c_livedThen hu (a := updC a 140 m ((witB W (H m) v : Nat) : Int)) (hH.fr (updC_row (by omega)) (updC_row (by omega))) hn hW v m (by omega) hv) (fun r h' hq => ?_)
      obtain ⟨rfl, rfl⟩ := hq
      by_cases c86 : H m 1 v ≠ 0
      · rw [if_pos c86]
        show Ev X _ _ 89 [Vr 138, Vr (u : Int), Vi (W : Int), Vi (v : Int), Vi (rv : Int), Vi (m : Int), z] [Vi 1, Vi ((ddN H v m : Nat) : Int), Vr 138] ((SHv st dr rd), (ovl (updC a 140 m ((witB W (H m) v : Nat) : Int)) s b)) _
        refine Ev.steps (k := 4) (pc' := 98) (L' := [Vr 138, Vr (u : Int), Vi (W : Int), Vi (v : Int), Vi (rv : Int), Vi (m : Int), z]) (S' := [Vi (w32 (((ddN H v m : Nat) : Int) + 1)), Vr 138]) (h' := ((SHv st dr rd), (ovl (updC a 140 m ((witB W (H m) v : Nat) : Int)) s b))) (fun _ => rfl) ?_
        rw [show (w32 (((ddN H v m : Nat) : Int) + 1)) = (((ddN H v m : Nat) : Int) + 1) from w32_id (by unfold R32; omega)]
        refine Ev.putf (c' := (ovl (updC (updC a 140 m ((witB W (H m) v : Nat) : Int)) 138 5 (((ddN H v m : Nat) : Int) + 1)) s b)) rfl (by decide) rfl rfl rfl (ovl_wc (by decide)) ?_
        refine Ev.steps (k := 4) (pc' := 108) (L' := [Vr 138, Vr (u : Int), Vi (W : Int), Vi (v : Int), Vi (rv : Int), Vi (m : Int), z]) (S' := [Vl 0, Vi (m : Int), Vr 139]) (h' := ((SHv st dr rd), (ovl (updC (updC a 140 m ((witB W (H m) v : Nat) : Int)) 138 5 (((ddN H v m : Nat) : Int) + 1)) s b))) (fun _ => rfl) ?_
        refine Ev.last (c' := (ovl (updC (updC (updC a 140 m ((witB W (H m) v : Nat) : Int)) 138 5 (((ddN H v m : Nat) : Int) + 1)) 139 m 0) s b)) rfl (by decide) rfl (by omega) (by omega) (ovl_wc (by decide)) ?_
        refine Ev.steps (k := 2) (pc' := 112) (L' := [Vr 138, Vr (u : Int), Vi (W : Int), Vi (v : Int), Vi (rv : Int), Vi (m : Int), Vi 0]) (S' := []) (h' := ((SHv st dr rd), (ovl (updC (updC (updC a 140 m ((witB W (H m) v : Nat) : Int)) 138 5 (((ddN H v m : Nat) : Int) + 1)) 139 m 0) s b))) (fun _ => rfl) ?_
        have hds := ddN_s hD (show m < n by omega)
        first | rw [if_pos c86] at hds | rw [if_neg c86] at hds
        refine c_look_p hu hn hW v rv hv hrv m (by omega) (a0 := (updC (updC (updC a 140 m ((witB W (H m) v : Nat) : Int)) 138 5 (((ddN H v m : Nat) : Int) + 1)) 139 m 0)) (hH.fr (by rw [updC_row (by omega), updC_row (by omega), updC_row (by omega)]) (by rw [updC_row (by omega), updC_row (by omega), updC_row (by omega)])) (fun a2 k1 k2 k3 => ?_) 0 (by omega) FrO.rf (fun _ _ => rfl) (by rw [updC_sm]; rfl)
        have F8 : a2 138 = updC a 138 5 (((ddN H v m : Nat) : Int) + 1) 138 := by rw [k1 138 (by omega), updC_row (by omega)]; rfl
        refine Ev.steps (k := 1) (pc' := 176) (L' := [Vr 138, Vr (u : Int), Vi (W : Int), Vi (v : Int), Vi (rv : Int), Vi (w32 ((m : Int) + 1)), Vi (W : Int)]) (S' := []) (h' := ((SHv st dr rd), (ovl a2 s b))) (fun _ => rfl) ?_
        rw [show (w32 ((m : Int) + 1)) = ((m : Int) + 1) from w32_id (by unfold R32; omega)]
        refine Ev.steps (k := 1) (pc' := 54) (L' := [Vr 138, Vr (u : Int), Vi (W : Int), Vi (v : Int), Vi (rv : Int), Vi ((m : Int) + 1), Vi (W : Int)]) (S' := []) (h' := ((SHv st dr rd), (ovl a2 s b))) (fun _ => rfl) ?_
        refine ih _ (by omega) (a := a2) (m + 1) _ (by omega) ?_ ?_ ?_ ?_ ?_ ?_ (fun j hj => ?_) rfl
        · intro o ho
          rw [k1 o (by omega), updC_row (by omega), updC_row (by omega), updC_row (by omega), hf o ho]
        · rw [F8, updC_nt (by omega)]; exact h2
        · rw [F8, updC_nt (by omega)]; exact h3
        · rw [F8, updC_nt (by omega)]; exact h4
        · rw [F8, updC_sm, hds]
          omega
        · rw [F8, updC_nt (by omega)]; exact h6
        · by_cases g : j = m
          · subst g
            refine ⟨?_, k3⟩
            rw [k1 140 (by omega), updC_row (by omega), updC_row (by omega), updC_sm]
          · obtain ⟨l1, l2⟩ := hL j (by omega)
            refine ⟨?_, ?_⟩
            · rw [k1 140 (by omega), updC_row (by omega), updC_row (by omega), updC_nt (by omega)]
              exact l1
            · rw [k2 j g, updC_nt (by omega), updC_row (by omega), updC_row (by omega)]
              exact l2
      · rw [if_neg c86]
        show Ev X _ _ 89 [Vr 138, Vr (u : Int), Vi (W : Int), Vi (v : Int), Vi (rv : Int), Vi (m : Int), z] [Vi 0, Vi ((ddN H v m : Nat) : Int), Vr 138] ((SHv st dr rd), (ovl (updC a 140 m ((witB W (H m) v : Nat) : Int)) s b)) _
        refine Ev.steps (k := 3) (pc' := 98) (L' := [Vr 138, Vr (u : Int), Vi (W : Int), Vi (v : Int), Vi (rv : Int), Vi (m : Int), z]) (S' := [Vi (w32 (((ddN H v m : Nat) : Int) + 0)), Vr 138]) (h' := ((SHv st dr rd), (ovl (updC a 140 m ((witB W (H m) v : Nat) : Int)) s b))) (fun _ => rfl) ?_
        rw [show (w32 (((ddN H v m : Nat) : Int) + 0)) = ((ddN H v m : Nat) : Int) by unfold w32; omega]
        refine Ev.putf (c' := (ovl (updC (updC a 140 m ((witB W (H m) v : Nat) : Int)) 138 5 ((ddN H v m : Nat) : Int)) s b)) rfl (by decide) rfl rfl rfl (ovl_wc (by decide)) ?_
        refine Ev.steps (k := 4) (pc' := 108) (L' := [Vr 138, Vr (u : Int), Vi (W : Int), Vi (v : Int), Vi (rv : Int), Vi (m : Int), z]) (S' := [Vl 0, Vi (m : Int), Vr 139]) (h' := ((SHv st dr rd), (ovl (updC (updC a 140 m ((witB W (H m) v : Nat) : Int)) 138 5 ((ddN H v m : Nat) : Int)) s b))) (fun _ => rfl) ?_
        refine Ev.last (c' := (ovl (updC (updC (updC a 140 m ((witB W (H m) v : Nat) : Int)) 138 5 ((ddN H v m : Nat) : Int)) 139 m 0) s b)) rfl (by decide) rfl (by omega) (by omega) (ovl_wc (by decide)) ?_
        refine Ev.steps (k := 2) (pc' := 112) (L' := [Vr 138, Vr (u : Int), Vi (W : Int), Vi (v : Int), Vi (rv : Int), Vi (m : Int), Vi 0]) (S' := []) (h' := ((SHv st dr rd), (ovl (updC (updC (updC a 140 m ((witB W (H m) v : Nat) : Int)) 138 5 ((ddN H v m : Nat) : Int)) 139 m 0) s b))) (fun _ => rfl) ?_
        have hds := ddN_s hD (show m < n by omega)
        first | rw [if_pos c86] at hds | rw [if_neg c86] at hds
        refine c_look_p hu hn hW v rv hv hrv m (by omega) (a0 := (updC (updC (updC a 140 m ((witB W (H m) v : Nat) : Int)) 138 5 ((ddN H v m : Nat) : Int)) 139 m 0)) (hH.fr (by rw [updC_row (by omega), updC_row (by omega), updC_row (by omega)]) (by rw [updC_row (by omega), updC_row (by omega), updC_row (by omega)])) (fun a2 k1 k2 k3 => ?_) 0 (by omega) FrO.rf (fun _ _ => rfl) (by rw [updC_sm]; rfl)
        have F8 : a2 138 = updC a 138 5 ((ddN H v m : Nat) : Int) 138 := by rw [k1 138 (by omega), updC_row (by omega)]; rfl
        refine Ev.steps (k := 1) (pc' := 176) (L' := [Vr 138, Vr (u : Int), Vi (W : Int), Vi (v : Int), Vi (rv : Int), Vi (w32 ((m : Int) + 1)), Vi (W : Int)]) (S' := []) (h' := ((SHv st dr rd), (ovl a2 s b))) (fun _ => rfl) ?_
        rw [show (w32 ((m : Int) + 1)) = ((m : Int) + 1) from w32_id (by unfold R32; omega)]
        refine Ev.steps (k := 1) (pc' := 54) (L' := [Vr 138, Vr (u : Int), Vi (W : Int), Vi (v : Int), Vi (rv : Int), Vi ((m : Int) + 1), Vi (W : Int)]) (S' := []) (h' := ((SHv st dr rd), (ovl a2 s b))) (fun _ => rfl) ?_
        refine ih _ (by omega) (a := a2) (m + 1) _ (by omega) ?_ ?_ ?_ ?_ ?_ ?_ (fun j hj => ?_) rfl
        · intro o ho
          rw [k1 o (by omega), updC_row (by omega), updC_row (by omega), updC_row (by omega), hf o ho]
        · rw [F8, updC_nt (by omega)]; exact h2
        · rw [F8, updC_nt (by omega)]; exact h3
        · rw [F8, updC_nt (by omega)]; exact h4
        · rw [F8, updC_sm, hds]
          omega
        · rw [F8, updC_nt (by omega)]; exact h6
        · by_cases g : j = m
          · subst g
            refine ⟨?_, k3⟩
            rw [k1 140 (by omega), updC_row (by omega), updC_row (by omega), updC_sm]
          · obtain ⟨l1, l2⟩ := hL j (by omega)
            refine ⟨?_, ?_⟩
            · rw [k1 140 (by omega), updC_row (by omega), updC_row (by omega), updC_nt (by omega)]
              exact l1
            · rw [k2 j g, updC_nt (by omega), updC_row (by omega), updC_row (by omega)]
              exact l2
theorem c_look {X : List Int} {d : Nat} {st dr rd : Int} {a s b : C3} {u : Nat} (hu : huS u) {W n : Nat} {H : Nat → SC} (hH : HsH W H a u n) (hn : n ≤ 180) (hn0 : 0 < n) (hW : W ≤ 8) (v : Nat) (hv : v < W) (hD : DmH H v n) (h7 : a u 7 = (n : Int)) : Ev X (d + 4) 131 0 [Vr 138, Vr (u : Int), Vi (W : Int), Vi (v : Int), Vx, Vx, Vx] [] (SHv st dr rd, ovl a s b) (fun rr hh => rr = none ∧ ∃ a' : C3, hh = (SHv st dr rd, ovl a' s b) ∧ FrO 138 140 a a' ∧ LkC W H n v a') := by
  have hu0 : u = 119 ∨ u = 142 := hu
  have hr8 := hH.rm (m := n - 1) (p := v) (by omega) hv hW
  obtain ⟨rv, hrv⟩ : ∃ rv : Nat, H (n - 1) 0 v = (rv : Int) := ⟨(H (n - 1) 0 v).toNat, by omega⟩
  refine Ev.steps (k := 2) (pc' := 2) (L' := [Vr 138, Vr (u : Int), Vi (W : Int), Vi (v : Int), Vx, Vx, Vx]) (S' := [Vr (u : Int), Vr 138]) (h' := ((SHv st dr rd), (ovl a s b))) (fun _ => rfl) ?_
  refine Ev.getf (v := (n : Int)) rfl rfl (by omega) (shU_0 hu) rfl rfl ((ovl_rc (by omega)).trans (h7)) ?_
  refine Ev.call (k := 1) (pc1 := 8) (L1 := [Vr 138, Vr (u : Int), Vi (W : Int), Vi (v : Int), Vx, Vx, Vx]) (S1 := [Vi 180, Vi (n : Int), Vr 138]) (h1 := ((SHv st dr rd), (ovl a s b))) (m' := 23) (as := [Vi (n : Int), Vi 180]) (S' := [Vr 138]) (L0 := [Vi (n : Int), Vi 180]) (fun _ => rfl) rfl rfl rfl rfl rfl rfl (c_min4 (n : Int) 180) (fun r h' hq => ?_)
  obtain ⟨rfl, rfl⟩ := hq
  rw [if_pos (by omega)]
  show Ev X _ _ 11 [Vr 138, Vr (u : Int), Vi (W : Int), Vi (v : Int), Vx, Vx, Vx] [Vi (n : Int), Vr 138] ((SHv st dr rd), (ovl a s b)) _
  refine Ev.putf (c' := (ovl (updC a 138 2 (n : Int)) s b)) rfl (by decide) rfl rfl rfl (ovl_wc (by decide)) ?_
  refine Ev.steps (k := 2) (pc' := 16) (L' := [Vr 138, Vr (u : Int), Vi (W : Int), Vi (v : Int), Vx, Vx, Vx]) (S' := [Vi (W : Int), Vr 138]) (h' := ((SHv st dr rd), (ovl (updC a 138 2 (n : Int)) s b))) (fun _ => rfl) ?_
  refine Ev.putf (c' := (ovl (updC (updC a 138 2 (n : Int)) 138 3 (W : Int)) s b)) rfl (by decide) rfl rfl rfl (ovl_wc (by decide)) ?_
  refine Ev.steps (k := 2) (pc' := 21) (L' := [Vr 138, Vr (u : Int), Vi (W : Int), Vi (v : Int), Vx, Vx, Vx]) (S' := [Vi (v : Int), Vr 138]) (h' := ((SHv st dr rd), (ovl (updC (updC a 138 2 (n : Int)) 138 3 (W : Int)) s b))) (fun _ => rfl) ?_
  refine Ev.putf (c' := (ovl (updC (updC (updC a 138 2 (n : Int)) 138 3 (W : Int)) 138 4 (v : Int)) s b)) rfl (by decide) rfl rfl rfl (ovl_wc (by decide)) ?_
  refine Ev.call (k := 3) (pc1 := 27) (L1 := [Vr 138, Vr (u : Int), Vi (W : Int), Vi (v : Int), Vx, Vx, Vx]) (S1 := [Vi (W : Int), Vr (u : Int), Vr 138]) (h1 := ((SHv st dr rd), (ovl (updC (updC (updC a 138 2 (n : Int)) 138 3 (W : Int)) 138 4 (v : Int)) s b))) (m' := 132) (as := [Vr (u : Int), Vi (W : Int)]) (S' := [Vr 138]) (L0 := [Vr (u : Int), Vi (W : Int), Vx, Vx]) (fun _ => rfl) rfl rfl rfl rfl (stpC_of rfl (pm_recv_of (by omega) (shU_0 hu))) rfl (c_livingLast hu (hH.fr (a' := (updC (updC (updC a 138 2 (n : Int)) 138 3 (W : Int)) 138 4 (v : Int))) (by rw [updC_row (by omega), updC_row (by omega), updC_row (by omega)]) (by rw [updC_row (by omega), updC_row (by omega), updC_row (by omega)])) hn hn0 hW (by rw [updC_row (by omega), updC_row (by omega), updC_row (by omega)]; exact h7)) (fun r h' hq => ?_)
  obtain ⟨rfl, rfl⟩ := hq
  show Ev X _ _ 30 [Vr 138, Vr (u : Int), Vi (W : Int), Vi (v : Int), Vx, Vx, Vx] [Vi ((alvB W (H (n - 1)) : Nat) : Int), Vr 138] ((SHv st dr rd), (ovl (updC (updC (updC a 138 2 (n : Int)) 138 3 (W : Int)) 138 4 (v : Int)) s b)) _
  refine Ev.putf (c' := (ovl (updC (updC (updC (updC a 138 2 (n : Int)) 138 3 (W : Int)) 138 4 (v : Int)) 138 6 ((alvB W (H (n - 1)) : Nat) : Int)) s b)) rfl (by decide) rfl rfl rfl (ovl_wc (by decide)) ?_
  refine Ev.steps (k := 6) (pc' := 41) (L' := [Vr 138, Vr (u : Int), Vi (W : Int), Vi (v : Int), Vx, Vx, Vx]) (S' := [Vi (w32 ((n : Int) - 1)), Vi (v : Int), Vr (u : Int)]) (h' := ((SHv st dr rd), (ovl (updC (updC (updC (updC a 138 2 (n : Int)) 138 3 (W : Int)) 138 4 (v : Int)) 138 6 ((alvB W (H (n - 1)) : Nat) : Int)) s b))) (fun _ => rfl) ?_
  rw [show (w32 ((n : Int) - 1)) = ((n - 1 : Nat) : Int) from (by unfold w32; omega)]
  refine Ev.call (k := 0) (pc1 := 41) (L1 := [Vr 138, Vr (u : Int), Vi (W : Int), Vi (v : Int), Vx, Vx, Vx]) (S1 := [Vi ((n - 1 : Nat) : Int), Vi (v : Int), Vr (u : Int)]) (h1 := ((SHv st dr rd), (ovl (updC (updC (updC (updC a 138 2 (n : Int)) 138 3 (W : Int)) 138 4 (v : Int)) 138 6 ((alvB W (H (n - 1)) : Nat) : Int)) s b))) (m' := 107) (as := [Vr (u : Int), Vi (v : Int), Vi ((n - 1 : Nat) : Int)]) (S' := []) (L0 := [Vr (u : Int), Vi (v : Int), Vi ((n - 1 : Nat) : Int)]) (fun _ => rfl) rfl rfl rfl rfl (stpC_of rfl (pm_recv_of (by omega) (shU_0 hu))) rfl (c_roomThen hu (hH.fr (a' := (updC (updC (updC (updC a 138 2 (n : Int)) 138 3 (W : Int)) 138 4 (v : Int)) 138 6 ((alvB W (H (n - 1)) : Nat) : Int))) (by rw [updC_row (by omega), updC_row (by omega), updC_row (by omega), updC_row (by omega)]) (by rw [updC_row (by omega), updC_row (by omega), updC_row (by omega), updC_row (by omega)])) hn hW v (n - 1) (by omega) hv) (fun r h' hq => ?_)
  obtain ⟨rfl, rfl⟩ := hq
  rw [hrv]
  show Ev X _ _ 44 [Vr 138, Vr (u : Int), Vi (W : Int), Vi (v : Int), Vx, Vx, Vx] [Vi (rv : Int)] ((SHv st dr rd), (ovl (updC (updC (updC (updC a 138 2 (n : Int)) 138 3 (W : Int)) 138 4 (v : Int)) 138 6 ((alvB W (H (n - 1)) : Nat) : Int)) s b)) _
  refine Ev.steps (k := 3) (pc' := 48) (L' := [Vr 138, Vr (u : Int), Vi (W : Int), Vi (v : Int), Vi (rv : Int), Vx, Vx]) (S' := [Vi 0, Vr 138]) (h' := ((SHv st dr rd), (ovl (updC (updC (updC (updC a 138 2 (n : Int)) 138 3 (W : Int)) 138 4 (v : Int)) 138 6 ((alvB W (H (n - 1)) : Nat) : Int)) s b))) (fun _ => rfl) ?_
  refine Ev.putf (c' := (ovl (updC (updC (updC (updC (updC a 138 2 (n : Int)) 138 3 (W : Int)) 138 4 (v : Int)) 138 6 ((alvB W (H (n - 1)) : Nat) : Int)) 138 5 0) s b)) rfl (by decide) rfl rfl rfl (ovl_wc (by decide)) ?_
  refine Ev.steps (k := 2) (pc' := 54) (L' := [Vr 138, Vr (u : Int), Vi (W : Int), Vi (v : Int), Vi (rv : Int), Vi 0, Vx]) (S' := []) (h' := ((SHv st dr rd), (ovl (updC (updC (updC (updC (updC a 138 2 (n : Int)) 138 3 (W : Int)) 138 4 (v : Int)) 138 6 ((alvB W (H (n - 1)) : Nat) : Int)) 138 5 0) s b))) (fun _ => rfl) ?_
  refine c_look_m hu hn hW v rv hv hrv hD (a0 := a) hH 0 _ (by omega) ?_ ?_ ?_ ?_ ?_ ?_ (fun j hj => absurd hj (by omega))
  · exact ((((FrO.rf.up (by omega)).up (by omega)).up (by omega)).up (by omega)).up (by omega)
  · rw [updC_nt (by omega), updC_nt (by omega), updC_nt (by omega), updC_nt (by omega), updC_sm]
  · rw [updC_nt (by omega), updC_nt (by omega), updC_nt (by omega), updC_sm]
  · rw [updC_nt (by omega), updC_nt (by omega), updC_sm]
  · rw [updC_sm]; rfl
  · rw [updC_nt (by omega), updC_sm]
