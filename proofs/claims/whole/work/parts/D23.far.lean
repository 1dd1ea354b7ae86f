/-! THE CLASS SETTLES: how many doors lead where -/
def fw0 (S : STY) (r t : Nat) : Nat := if r = t then 0 else if S.1 4 (8 * r + t) ≠ 0 then 1 else 8
def fwT (S : STY) : Nat → Nat → Nat → Nat
  | 0, r, t => fw0 S r t
  | k + 1, r, t => if fwT S k r t ≤ fwT S k r k + fwT S k k t then fwT S k r t else fwT S k r k + fwT S k k t
theorem fw_s {S : STY} {k r t : Nat} : fwT S (k + 1) r t = if fwT S k r t ≤ fwT S k r k + fwT S k k t then fwT S k r t else fwT S k r k + fwT S k k t := rfl
theorem fw_d {S : STY} {r : Nat} : ∀ k, fwT S k r r = 0
  | 0 => if_pos rfl
  | k + 1 => by rw [fw_s, fw_d k, if_pos (by omega)]
theorem fw_8 {S : STY} : ∀ k r t, fwT S k r t ≤ 8
  | 0, r, t => by
    show fw0 S r t ≤ 8
    unfold fw0
    split
    · omega
    · split <;> omega
  | k + 1, r, t => by
    have := fw_8 (S := S) k r t
    rw [fw_s]
    split <;> omega
theorem fw_c {S : STY} {k r : Nat} : fwT S (k + 1) r k = fwT S k r k := by rw [fw_s, if_pos (by omega)]
theorem fw_r {S : STY} {k t : Nat} : fwT S (k + 1) k t = fwT S k k t := by rw [fw_s, fw_d, if_pos (by omega)]
theorem fw_le {S : STY} {k r t : Nat} : fwT S (k + 1) r t ≤ fwT S k r t ∧ fwT S (k + 1) r t ≤ fwT S k r k + fwT S k k t := by
  rw [fw_s]
  split <;> omega
theorem fw_or {S : STY} {k r t : Nat} : fwT S (k + 1) r t = fwT S k r t ∨ fwT S (k + 1) r t = fwT S k r k + fwT S k k t := by
  rw [fw_s]
  split
  · exact Or.inl rfl
  · exact Or.inr rfl
theorem fw_tri {S : STY} : ∀ k m r t, m < k → fwT S k r t ≤ fwT S k r m + fwT S k m t
  | 0, m, r, t, h => absurd h (by omega)
  | k + 1, m, r, t, h => by
    have h1 := fw_le (S := S) (k := k) (r := r) (t := t)
    by_cases hm : m = k
    · subst hm
      rw [fw_c, fw_r]
      exact h1.2
    · have t1 := fw_tri (S := S) k m r t (by omega)
      have t2 := fw_tri (S := S) k m k t (by omega)
      have t3 := fw_tri (S := S) k m r k (by omega)
      rcases fw_or (S := S) (k := k) (r := r) (t := m) with e1 | e1 <;> rcases fw_or (S := S) (k := k) (r := m) (t := t) with e2 | e2 <;> rw [e1, e2] <;> omega
theorem fw_0le {S : STY} {r t : Nat} : ∀ k, fwT S k r t ≤ fw0 S r t
  | 0 => Nat.le_refl _
  | k + 1 => Nat.le_trans fw_le.1 (fw_0le k)
theorem wk_cat {S : STY} {t m : Nat} {i : Nat} (h : wkS S t i m = true) : ∀ (j r : Nat), wkS S m j r = true → wkS S t (i + j) r = true
  | 0, r, hr => by
    rw [wkS_0.mp hr]
    exact h
  | j + 1, r, hr => by
    rcases wkS_s.mp hr with e | ⟨o, ho, hd, hw⟩
    · rw [e]
      exact wkS_le _ (by omega) h
    · rw [← Nat.add_assoc]
      exact wkS_s.mpr (Or.inr ⟨o, ho, hd, wk_cat h j o hw⟩)
theorem fw_wk {S : STY} (hD : WfD S) : ∀ k r t, k ≤ 8 → r < 8 → t < 8 → fwT S k r t < 8 → wkS S t (fwT S k r t) r = true
  | 0, r, t, _, hr, ht, h => by
    have h : fw0 S r t < 8 := h
    show wkS S t (fw0 S r t) r = true
    unfold fw0 at h ⊢
    by_cases e : r = t
    · rw [if_pos e]
      exact wkS_0.mpr e
    · rw [if_neg e] at h ⊢
      by_cases e2 : S.1 4 (8 * r + t) ≠ 0
      · rw [if_pos e2]
        exact wkS_s.mpr (Or.inr ⟨t, (hD r t hr ht e2).2.1, e2, wkS_0.mpr rfl⟩)
      · rw [if_neg e2] at h
        exact absurd h (by omega)
  | k + 1, r, t, hk, hr, ht, h => by
    rcases fw_or (S := S) (k := k) (r := r) (t := t) with e | e
    · rw [e] at h ⊢
      exact fw_wk hD k r t (by omega) hr ht h
    · rw [e] at h ⊢
      rw [Nat.add_comm]
      exact wk_cat (fw_wk hD k k t (by omega) (by omega) ht (by omega)) _ r (fw_wk hD k r k (by omega) hr (by omega) (by omega))
theorem fw_up {S : STY} (hR : nR S ≤ 8) {t : Nat} : ∀ (d r : Nat), r < 8 → wkS S t d r = true → fwT S 8 r t ≤ d
  | 0, r, hr, h => by
    rw [wkS_0.mp h, fw_d]
    omega
  | d + 1, r, hr, h => by
    rcases wkS_s.mp h with e | ⟨o, ho, hd, hw⟩
    · rw [e, fw_d]
      omega
    · have h1 := fw_up hR d o (by omega) hw
      have h2 := fw_tri (S := S) 8 o r t (by omega)
      have h3 := fw_0le (S := S) (r := r) (t := o) 8
      have h4 : fw0 S r o ≤ 1 := by
        unfold fw0
        split
        · omega
        · first
            | omega
            | (rw [if_pos hd]; omega)
      omega
theorem fw_dst {S : STY} (hD : WfD S) (hR : nR S ≤ 8) {r t : Nat} (hr : r < nR S) (ht : t < 8) : (dstS S t r < 9 → fwT S 8 r t = dstS S t r) ∧ (9 ≤ dstS S t r → fwT S 8 r t = 8) := by
  have h8 := fw_8 (S := S) 8 r t
  constructor
  · intro h
    have h1 := dst_lt hr h
    have h2 := fw_up hR _ r (by omega) (dst_wk h (Nat.le_refl _))
    have h3 := dst_of (fw_wk hD 8 r t (Nat.le_refl _) (by omega) ht (by omega))
    omega
  · intro h
    by_cases g : fwT S 8 r t < 8
    · have h3 := dst_of (fw_wk hD 8 r t (Nat.le_refl _) (by omega) ht g)
      omega
    · omega
theorem c_measure2 {X : List Int} {d : Nat} {st dr rd : Int} {a s b : C3} {z : Nat} (hz : hyS z) {S : STY} {a0 : C3} (by0 room to : Nat) (hby : by0 < 8) (hro : room < 8) (hto : to ≤ 8) (hf : FrO (z + 4) (z + 4) a0 a) (hI : ∀ r t, r < 8 → t < 8 → a (z + 4) (8 * r + t) = if 8 * r + t < 8 * room + to then ((fwT S (by0 + 1) r t : Nat) : Int) else ((fwT S by0 r t : Nat) : Int)) : Ev X (d + 1) 58 83 [Vr (z : Int), Vi (by0 : Int), Vi (room : Int), Vi (to : Int)] [] (SHv st dr rd, ovl a s b) (fun rr hh => rr = none ∧ ∃ a' : C3, hh = (SHv st dr rd, ovl a' s b) ∧ FrO (z + 4) (z + 4) a0 a' ∧ ∀ r t, r < 8 → t < 8 → a' (z + 4) (8 * r + t) = ((fwT S 8 r t : Nat) : Int)) := by
  induction hkk : (90 * (8 - by0) + 9 * (8 - room) + (8 - to)) using Nat.strongRecOn generalizing by0 room to a with
  | ind kk ih =>
    have hz0 : z = 2 ∨ z = 58 := hz
    refine Ev.ite (P := 8 ≤ (to : Int)) (k := 3) (a := 143) (b := 89) (L' := [Vr (z : Int), Vi (by0 : Int), Vi (room : Int), Vi (to : Int)]) (S' := []) (h' := ((SHv st dr rd), (ovl a s b))) (fun _ => rfl) (fun b86 => ?_) (fun b86 => ?_)
    · refine Ev.steps (k := 1) (pc' := 146) (L' := [Vr (z : Int), Vi (by0 : Int), Vi (w32 ((room : Int) + 1)), Vi (to : Int)]) (S' := []) (h' := ((SHv st dr rd), (ovl a s b))) (fun _ => rfl) ?_
      rw [show (w32 ((room : Int) + 1)) = ((room : Int) + 1) from w32_id (by unfold R32; omega)]
      refine Ev.ite (P := 8 ≤ ((room : Int) + 1)) (k := 4) (a := 149) (b := 81) (L' := [Vr (z : Int), Vi (by0 : Int), Vi ((room : Int) + 1), Vi (to : Int)]) (S' := []) (h' := ((SHv st dr rd), (ovl a s b))) (fun _ => rfl) (fun b78 => ?_) (fun b78 => ?_)
      · refine Ev.steps (k := 1) (pc' := 152) (L' := [Vr (z : Int), Vi (w32 ((by0 : Int) + 1)), Vi ((room : Int) + 1), Vi (to : Int)]) (S' := []) (h' := ((SHv st dr rd), (ovl a s b))) (fun _ => rfl) ?_
        rw [show (w32 ((by0 : Int) + 1)) = ((by0 : Int) + 1) from w32_id (by unfold R32; omega)]
        refine Ev.ite (P := 8 ≤ ((by0 : Int) + 1)) (k := 4) (a := 155) (b := 73) (L' := [Vr (z : Int), Vi ((by0 : Int) + 1), Vi ((room : Int) + 1), Vi (to : Int)]) (S' := []) (h' := ((SHv st dr rd), (ovl a s b))) (fun _ => rfl) (fun b70 => ?_) (fun b70 => ?_)
        · refine Ev.fin (k := 1) (r := none) (h' := ((SHv st dr rd), (ovl a s b))) (fun _ => rfl) ?_
          exact ⟨rfl, a, rfl, hf, fun r t hr ht => by
            obtain rfl : by0 = 7 := by omega
            rw [hI r t hr ht, if_pos (by omega)]⟩
        · refine Ev.steps (k := 7) (pc' := 83) (L' := [Vr (z : Int), Vi ((by0 : Int) + 1), Vi 0, Vi 0]) (S' := []) (h' := ((SHv st dr rd), (ovl a s b))) (fun _ => rfl) ?_
          refine ih _ (by omega) (a := a) (by0 + 1) 0 0 (by omega) (by omega) (by omega) (by first | exact hf | exact hf.up (by omega)) (fun r t hr ht => ?_) rfl
          first
            | (rw [updC_if]
               by_cases h : 8 * r + t = room * 8 + to
               · obtain rfl : r = room := by omega
                 obtain rfl : t = to := by omega
                 rw [if_pos h, if_pos (by omega)]
               · rw [if_neg h, hI r t hr ht]
                 by_cases h2 : 8 * r + t < 8 * room + to
                 · rw [if_pos h2, if_pos (by omega)]
                 · rw [if_neg h2, if_neg (by omega)])
            | (rw [hI r t hr ht]
               by_cases h2 : 8 * r + t < 8 * room + to
               · rw [if_pos h2]
                 first | (rw [if_pos (by omega)]; done) | (rw [if_neg (by omega)]; done)
               · rw [if_neg h2]
                 first | (rw [if_neg (by omega)]; done) | (exfalso; omega))
      · refine Ev.steps (k := 2) (pc' := 83) (L' := [Vr (z : Int), Vi (by0 : Int), Vi ((room : Int) + 1), Vi 0]) (S' := []) (h' := ((SHv st dr rd), (ovl a s b))) (fun _ => rfl) ?_
        refine ih _ (by omega) (a := a) by0 (room + 1) 0 (by omega) (by omega) (by omega) (by first | exact hf | exact hf.up (by omega)) (fun r t hr ht => ?_) rfl
        first
          | (rw [updC_if]
             by_cases h : 8 * r + t = room * 8 + to
             · obtain rfl : r = room := by omega
               obtain rfl : t = to := by omega
               rw [if_pos h, if_pos (by omega)]
             · rw [if_neg h, hI r t hr ht]
               by_cases h2 : 8 * r + t < 8 * room + to
               · rw [if_pos h2, if_pos (by omega)]
               · rw [if_neg h2, if_neg (by omega)])
          | (rw [hI r t hr ht]
             by_cases h2 : 8 * r + t < 8 * room + to
             · rw [if_pos h2]
               first | (rw [if_pos (by omega)]; done) | (rw [if_neg (by omega)]; done)
             · rw [if_neg h2]
               first | (rw [if_neg (by omega)]; done) | (exfalso; omega))
    · have h1 : a (z + 4) (room * 8 + to) = ((fwT S by0 room to : Nat) : Int) := by
        rw [show room * 8 + to = 8 * room + to by omega, hI room to hro (by omega), if_neg (by omega)]
      have h2 : a (z + 4) (room * 8 + by0) = ((fwT S by0 room by0 : Nat) : Int) := by
        rw [show room * 8 + by0 = 8 * room + by0 by omega, hI room by0 hro hby, fw_c]
        split <;> rfl
      have h3 : a (z + 4) (by0 * 8 + to) = ((fwT S by0 by0 to : Nat) : Int) := by
        rw [show by0 * 8 + to = 8 * by0 + to by omega, hI by0 to hby (by omega), fw_r]
        split <;> rfl
      have g1 := fw_8 (S := S) by0 room to
      have g2 := fw_8 (S := S) by0 room by0
      have g3 := fw_8 (S := S) by0 by0 to
      refine Ev.steps (k := 1) (pc' := 90) (L' := [Vr (z : Int), Vi (by0 : Int), Vi (room : Int), Vi (to : Int)]) (S' := [Vr (z : Int)]) (h' := ((SHv st dr rd), (ovl a s b))) (fun _ => rfl) ?_
      refine Ev.getr (r := ((z : Int) + 4)) rfl rfl (by omega) (shY_0 hz) rfl rfl rfl ?_
      refine Ev.steps (k := 3) (pc' := 97) (L' := [Vr (z : Int), Vi (by0 : Int), Vi (room : Int), Vi (to : Int)]) (S' := [Vi (w32 ((room : Int) * 8)), Vr ((z : Int) + 4)]) (h' := ((SHv st dr rd), (ovl a s b))) (fun _ => rfl) ?_
      rw [show (w32 ((room : Int) * 8)) = ((room : Int) * 8) from w32_id (by unfold R32; omega)]
      refine Ev.steps (k := 2) (pc' := 99) (L' := [Vr (z : Int), Vi (by0 : Int), Vi (room : Int), Vi (to : Int)]) (S' := [Vi (w32 (((room : Int) * 8) + (to : Int))), Vr ((z : Int) + 4)]) (h' := ((SHv st dr rd), (ovl a s b))) (fun _ => rfl) ?_
      rw [show (w32 (((room : Int) * 8) + (to : Int))) = (((room : Int) * 8) + (to : Int)) from w32_id (by unfold R32; omega)]
      refine Ev.steps (k := 1) (pc' := 100) (L' := [Vr (z : Int), Vi (by0 : Int), Vi (room : Int), Vi (to : Int)]) (S' := [Vr (z : Int), Vi (((room : Int) * 8) + (to : Int)), Vr ((z : Int) + 4)]) (h' := ((SHv st dr rd), (ovl a s b))) (fun _ => rfl) ?_
      refine Ev.getr (r := ((z : Int) + 4)) rfl rfl (by omega) (shY_0 hz) rfl rfl rfl ?_
      refine Ev.steps (k := 3) (pc' := 107) (L' := [Vr (z : Int), Vi (by0 : Int), Vi (room : Int), Vi (to : Int)]) (S' := [Vi (w32 ((room : Int) * 8)), Vr ((z : Int) + 4), Vi (((room : Int) * 8) + (to : Int)), Vr ((z : Int) + 4)]) (h' := ((SHv st dr rd), (ovl a s b))) (fun _ => rfl) ?_
      rw [show (w32 ((room : Int) * 8)) = ((room : Int) * 8) from w32_id (by unfold R32; omega)]
      refine Ev.steps (k := 2) (pc' := 109) (L' := [Vr (z : Int), Vi (by0 : Int), Vi (room : Int), Vi (to : Int)]) (S' := [Vi (w32 (((room : Int) * 8) + (to : Int))), Vr ((z : Int) + 4), Vi (((room : Int) * 8) + (to : Int)), Vr ((z : Int) + 4)]) (h' := ((SHv st dr rd), (ovl a s b))) (fun _ => rfl) ?_
      rw [show (w32 (((room : Int) * 8) + (to : Int))) = (((room : Int) * 8) + (to : Int)) from w32_id (by unfold R32; omega)]
      refine Ev.iald (v := ((fwT S by0 room to : Nat) : Int)) rfl (by omega) (shY_4 hz) (by omega) (by omega) ((ovl_rc (by omega)).trans (h1)) ?_
      refine Ev.steps (k := 1) (pc' := 111) (L' := [Vr (z : Int), Vi (by0 : Int), Vi (room : Int), Vi (to : Int)]) (S' := [Vr (z : Int), Vi ((fwT S by0 room to : Nat) : Int), Vi (((room : Int) * 8) + (to : Int)), Vr ((z : Int) + 4)]) (h' := ((SHv st dr rd), (ovl a s b))) (fun _ => rfl) ?_
      refine Ev.getr (r := ((z : Int) + 4)) rfl rfl (by omega) (shY_0 hz) rfl rfl rfl ?_
      refine Ev.steps (k := 3) (pc' := 118) (L' := [Vr (z : Int), Vi (by0 : Int), Vi (room : Int), Vi (to : Int)]) (S' := [Vi (w32 ((room : Int) * 8)), Vr ((z : Int) + 4), Vi ((fwT S by0 room to : Nat) : Int), Vi (((room : Int) * 8) + (to : Int)), Vr ((z : Int) + 4)]) (h' := ((SHv st dr rd), (ovl a s b))) (fun _ => rfl) ?_
      rw [show (w32 ((room : Int) * 8)) = ((room : Int) * 8) from w32_id (by unfold R32; omega)]
      refine Ev.steps (k := 2) (pc' := 120) (L' := [Vr (z : Int), Vi (by0 : Int), Vi (room : Int), Vi (to : Int)]) (S' := [Vi (w32 (((room : Int) * 8) + (by0 : Int))), Vr ((z : Int) + 4), Vi ((fwT S by0 room to : Nat) : Int), Vi (((room : Int) * 8) + (to : Int)), Vr ((z : Int) + 4)]) (h' := ((SHv st dr rd), (ovl a s b))) (fun _ => rfl) ?_
      rw [show (w32 (((room : Int) * 8) + (by0 : Int))) = (((room : Int) * 8) + (by0 : Int)) from w32_id (by unfold R32; omega)]
      refine Ev.iald (v := ((fwT S by0 room by0 : Nat) : Int)) rfl (by omega) (shY_4 hz) (by omega) (by omega) ((ovl_rc (by omega)).trans (h2)) ?_
      refine Ev.steps (k := 1) (pc' := 122) (L' := [Vr (z : Int), Vi (by0 : Int), Vi (room : Int), Vi (to : Int)]) (S' := [Vr (z : Int), Vi ((fwT S by0 room by0 : Nat) : Int), Vi ((fwT S by0 room to : Nat) : Int), Vi (((room : Int) * 8) + (to : Int)), Vr ((z : Int) + 4)]) (h' := ((SHv st dr rd), (ovl a s b))) (fun _ => rfl) ?_
      refine Ev.getr (r := ((z : Int) + 4)) rfl rfl (by omega) (shY_0 hz) rfl rfl rfl ?_
      refine Ev.steps (k := 3) (pc' := 129) (L' := [Vr (z : Int), Vi (by0 : Int), Vi (room : Int), Vi (to : Int)]) (S' := [Vi (w32 ((by0 : Int) * 8)), Vr ((z : Int) + 4), Vi ((fwT S by0 room by0 : Nat) : Int), Vi ((fwT S by0 room to : Nat) : Int), Vi (((room : Int) * 8) + (to : Int)), Vr ((z : Int) + 4)]) (h' := ((SHv st dr rd), (ovl a s b))) (fun _ => rfl) ?_
      rw [show (w32 ((by0 : Int) * 8)) = ((by0 : Int) * 8) from w32_id (by unfold R32; omega)]
      refine Ev.steps (k := 2) (pc' := 131) (L' := [Vr (z : Int), Vi (by0 : Int), Vi (room : Int), Vi (to : Int)]) (S' := [Vi (w32 (((by0 : Int) * 8) + (to : Int))), Vr ((z : Int) + 4), Vi ((fwT S by0 room by0 : Nat) : Int), Vi ((fwT S by0 room to : Nat) : Int), Vi (((room : Int) * 8) + (to : Int)), Vr ((z : Int) + 4)]) (h' := ((SHv st dr rd), (ovl a s b))) (fun _ => rfl) ?_
      rw [show (w32 (((by0 : Int) * 8) + (to : Int))) = (((by0 : Int) * 8) + (to : Int)) from w32_id (by unfold R32; omega)]
      refine Ev.iald (v := ((fwT S by0 by0 to : Nat) : Int)) rfl (by omega) (shY_4 hz) (by omega) (by omega) ((ovl_rc (by omega)).trans (h3)) ?_
      refine Ev.steps (k := 1) (pc' := 133) (L' := [Vr (z : Int), Vi (by0 : Int), Vi (room : Int), Vi (to : Int)]) (S' := [Vi (w32 (((fwT S by0 room by0 : Nat) : Int) + ((fwT S by0 by0 to : Nat) : Int))), Vi ((fwT S by0 room to : Nat) : Int), Vi (((room : Int) * 8) + (to : Int)), Vr ((z : Int) + 4)]) (h' := ((SHv st dr rd), (ovl a s b))) (fun _ => rfl) ?_
      rw [show (w32 (((fwT S by0 room by0 : Nat) : Int) + ((fwT S by0 by0 to : Nat) : Int))) = (((fwT S by0 room by0 : Nat) : Int) + ((fwT S by0 by0 to : Nat) : Int)) from w32_id (by unfold R32; omega)]
      refine Ev.call (k := 0) (pc1 := 133) (L1 := [Vr (z : Int), Vi (by0 : Int), Vi (room : Int), Vi (to : Int)]) (S1 := [Vi (((fwT S by0 room by0 : Nat) : Int) + ((fwT S by0 by0 to : Nat) : Int)), Vi ((fwT S by0 room to : Nat) : Int), Vi (((room : Int) * 8) + (to : Int)), Vr ((z : Int) + 4)]) (h1 := ((SHv st dr rd), (ovl a s b))) (m' := 23) (as := [Vi ((fwT S by0 room to : Nat) : Int), Vi (((fwT S by0 room by0 : Nat) : Int) + ((fwT S by0 by0 to : Nat) : Int))]) (S' := [Vi (((room : Int) * 8) + (to : Int)), Vr ((z : Int) + 4)]) (L0 := [Vi ((fwT S by0 room to : Nat) : Int), Vi (((fwT S by0 room by0 : Nat) : Int) + ((fwT S by0 by0 to : Nat) : Int))]) (fun _ => rfl) rfl rfl rfl rfl rfl rfl (c_min4 ((fwT S by0 room to : Nat) : Int) (((fwT S by0 room by0 : Nat) : Int) + ((fwT S by0 by0 to : Nat) : Int))) (fun r h' hq => ?_)
      obtain ⟨rfl, rfl⟩ := hq
      rw [show (if ((fwT S by0 room to : Nat) : Int) ≤ (((fwT S by0 room by0 : Nat) : Int) + ((fwT S by0 by0 to : Nat) : Int)) then ((fwT S by0 room to : Nat) : Int) else (((fwT S by0 room by0 : Nat) : Int) + ((fwT S by0 by0 to : Nat) : Int))) = ((fwT S (by0 + 1) room to : Nat) : Int) by rw [fw_s]; split <;> split <;> omega]
      show Ev X _ _ 136 [Vr (z : Int), Vi (by0 : Int), Vi (room : Int), Vi (to : Int)] [Vi ((fwT S (by0 + 1) room to : Nat) : Int), Vi (((room : Int) * 8) + (to : Int)), Vr ((z : Int) + 4)] ((SHv st dr rd), (ovl a s b)) _
      refine Ev.iast (c' := (ovl (updC a (z + 4) ((room * 8 + to)) ((fwT S (by0 + 1) room to : Nat) : Int)) s b)) rfl (by omega) (shY_4 hz) (by omega) (by omega) (ovl_wc (by omega)) ?_
      refine Ev.steps (k := 1) (pc' := 140) (L' := [Vr (z : Int), Vi (by0 : Int), Vi (room : Int), Vi (w32 ((to : Int) + 1))]) (S' := []) (h' := ((SHv st dr rd), (ovl (updC a (z + 4) ((room * 8 + to)) ((fwT S (by0 + 1) room to : Nat) : Int)) s b))) (fun _ => rfl) ?_
      rw [show (w32 ((to : Int) + 1)) = ((to : Int) + 1) from w32_id (by unfold R32; omega)]
      refine Ev.steps (k := 1) (pc' := 83) (L' := [Vr (z : Int), Vi (by0 : Int), Vi (room : Int), Vi ((to : Int) + 1)]) (S' := []) (h' := ((SHv st dr rd), (ovl (updC a (z + 4) ((room * 8 + to)) ((fwT S (by0 + 1) room to : Nat) : Int)) s b))) (fun _ => rfl) ?_
      refine ih _ (by omega) (a := (updC a (z + 4) ((room * 8 + to)) ((fwT S (by0 + 1) room to : Nat) : Int))) by0 room (to + 1) (by omega) (by omega) (by omega) (by first | exact hf | exact hf.up (by omega)) (fun r t hr ht => ?_) rfl
      first
        | (rw [updC_if]
           by_cases h : 8 * r + t = room * 8 + to
           · obtain rfl : r = room := by omega
             obtain rfl : t = to := by omega
             rw [if_pos h, if_pos (by omega)]
           · rw [if_neg h, hI r t hr ht]
             by_cases h2 : 8 * r + t < 8 * room + to
             · rw [if_pos h2, if_pos (by omega)]
             · rw [if_neg h2, if_neg (by omega)])
        | (rw [hI r t hr ht]
           by_cases h2 : 8 * r + t < 8 * room + to
           · rw [if_pos h2]
             first | (rw [if_pos (by omega)]; done) | (rw [if_neg (by omega)]; done)
           · rw [if_neg h2]
             first | (rw [if_neg (by omega)]; done) | (exfalso; omega))
theorem c_measure1 {X : List Int} {d : Nat} {st dr rd : Int} {a s b : C3} {z : Nat} (hz : hyS z) {S : STY} {a0 : C3} (hD : DoC S.1 a0 z) (room to : Nat) (x3 : pm_V) (hro : room < 8) (hto : to ≤ 8) (hf : FrO (z + 4) (z + 4) a0 a) (hI : ∀ r t, r < 8 → t < 8 → 8 * r + t < 8 * room + to → a (z + 4) (8 * r + t) = ((fw0 S r t : Nat) : Int)) : Ev X (d + 1) 58 10 [Vr (z : Int), Vi (room : Int), Vi (to : Int), x3] [] (SHv st dr rd, ovl a s b) (fun rr hh => rr = none ∧ ∃ a' : C3, hh = (SHv st dr rd, ovl a' s b) ∧ FrO (z + 4) (z + 4) a0 a' ∧ ∀ r t, r < 8 → t < 8 → a' (z + 4) (8 * r + t) = ((fwT S 8 r t : Nat) : Int)) := by
  induction hkk : (9 * (8 - room) + (8 - to)) using Nat.strongRecOn generalizing room to x3 a with
  | ind kk ih =>
    have hz0 : z = 2 ∨ z = 58 := hz
    have hD2 : DoC S.1 a z := by
      unfold DoC
      rw [hf _ (by omega)]
      exact hD
    refine Ev.ite (P := 8 ≤ (to : Int)) (k := 3) (a := 59) (b := 16) (L' := [Vr (z : Int), Vi (room : Int), Vi (to : Int), x3]) (S' := []) (h' := ((SHv st dr rd), (ovl a s b))) (fun _ => rfl) (fun b13 => ?_) (fun b13 => ?_)
    · refine Ev.steps (k := 1) (pc' := 62) (L' := [Vr (z : Int), Vi (w32 ((room : Int) + 1)), Vi (to : Int), x3]) (S' := []) (h' := ((SHv st dr rd), (ovl a s b))) (fun _ => rfl) ?_
      rw [show (w32 ((room : Int) + 1)) = ((room : Int) + 1) from w32_id (by unfold R32; omega)]
      refine Ev.ite (P := 8 ≤ ((room : Int) + 1)) (k := 4) (a := 65) (b := 8) (L' := [Vr (z : Int), Vi ((room : Int) + 1), Vi (to : Int), x3]) (S' := []) (h' := ((SHv st dr rd), (ovl a s b))) (fun _ => rfl) (fun b5 => ?_) (fun b5 => ?_)
      · refine Ev.steps (k := 12) (pc' := 83) (L' := [Vr (z : Int), Vi 0, Vi 0, Vi 0]) (S' := []) (h' := ((SHv st dr rd), (ovl a s b))) (fun _ => rfl) ?_
        refine c_measure2 hz (S := S) (a0 := a0) 0 0 0 (by omega) (by omega) (by omega) hf (fun r t hr ht => ?_)
        rw [if_neg (by omega), hI r t hr ht (by omega)]
        rfl
      · refine Ev.steps (k := 2) (pc' := 10) (L' := [Vr (z : Int), Vi ((room : Int) + 1), Vi 0, x3]) (S' := []) (h' := ((SHv st dr rd), (ovl a s b))) (fun _ => rfl) ?_
        refine ih _ (by omega) (a := a) (room + 1) 0 _ (by omega) (by omega) (by first | exact hf | exact hf.up (by omega)) (fun r t hr ht hlt => ?_) rfl
        first
          | (rw [updC_if]
             by_cases h : 8 * r + t = room * 8 + to
             · obtain rfl : r = room := by omega
               obtain rfl : t = to := by omega
               rw [if_pos h]
               unfold fw0
               first
                 | (rw [if_pos (by omega)]; rfl)
                 | (rw [if_neg (by omega), if_pos (by have := c19.2.2; rwa [Int.toNat_natCast, Int.toNat_natCast] at this)]; rfl)
                 | (rw [if_neg (by omega), if_neg (fun g => c19 ⟨by omega, by omega, by rwa [Int.toNat_natCast, Int.toNat_natCast]⟩)]; rfl)
             · rw [if_neg h, hI r t hr ht (by omega)])
          | (exact hI r t hr ht (by omega))
    · refine Ev.call (k := 3) (pc1 := 19) (L1 := [Vr (z : Int), Vi (room : Int), Vi (to : Int), x3]) (S1 := [Vi (to : Int), Vi (room : Int), Vr (z : Int)]) (h1 := ((SHv st dr rd), (ovl a s b))) (m' := 39) (as := [Vr (z : Int), Vi (room : Int), Vi (to : Int)]) (S' := []) (L0 := [Vr (z : Int), Vi (room : Int), Vi (to : Int)]) (fun _ => rfl) rfl rfl rfl rfl (stpC_of rfl (pm_recv_of (by omega) (shY_0 hz))) rfl (c_doorBetween hz (N := S.1) hD2 (room : Int) (to : Int)) (fun r h' hq => ?_)
      obtain ⟨rfl, rfl⟩ := hq
      by_cases c19 : DbC S.1 (room : Int) (to : Int)
      · rw [if_pos c19]
        show Ev X _ _ 22 [Vr (z : Int), Vi (room : Int), Vi (to : Int), x3] [Vi 1] ((SHv st dr rd), (ovl a s b)) _
        refine Ev.steps (k := 5) (pc' := 33) (L' := [Vr (z : Int), Vi (room : Int), Vi (to : Int), Vi 1]) (S' := [Vr (z : Int)]) (h' := ((SHv st dr rd), (ovl a s b))) (fun _ => rfl) ?_
        refine Ev.getr (r := ((z : Int) + 4)) rfl rfl (by omega) (shY_0 hz) rfl rfl rfl ?_
        refine Ev.steps (k := 3) (pc' := 40) (L' := [Vr (z : Int), Vi (room : Int), Vi (to : Int), Vi 1]) (S' := [Vi (w32 ((room : Int) * 8)), Vr ((z : Int) + 4)]) (h' := ((SHv st dr rd), (ovl a s b))) (fun _ => rfl) ?_
        rw [show (w32 ((room : Int) * 8)) = ((room : Int) * 8) from w32_id (by unfold R32; omega)]
        refine Ev.steps (k := 2) (pc' := 42) (L' := [Vr (z : Int), Vi (room : Int), Vi (to : Int), Vi 1]) (S' := [Vi (w32 (((room : Int) * 8) + (to : Int))), Vr ((z : Int) + 4)]) (h' := ((SHv st dr rd), (ovl a s b))) (fun _ => rfl) ?_
        rw [show (w32 (((room : Int) * 8) + (to : Int))) = (((room : Int) * 8) + (to : Int)) from w32_id (by unfold R32; omega)]
        refine Ev.ite (P := (room : Int) ≠ (to : Int)) (k := 3) (a := 51) (b := 47) (L' := [Vr (z : Int), Vi (room : Int), Vi (to : Int), Vi 1]) (S' := [Vi (((room : Int) * 8) + (to : Int)), Vr ((z : Int) + 4)]) (h' := ((SHv st dr rd), (ovl a s b))) (fun _ => rfl) (fun b44 => ?_) (fun b44 => ?_)
        · refine Ev.steps (k := 1) (pc' := 52) (L' := [Vr (z : Int), Vi (room : Int), Vi (to : Int), Vi 1]) (S' := [Vi 1, Vi (((room : Int) * 8) + (to : Int)), Vr ((z : Int) + 4)]) (h' := ((SHv st dr rd), (ovl a s b))) (fun _ => rfl) ?_
          refine Ev.iast (c' := (ovl (updC a (z + 4) ((room * 8 + to)) 1) s b)) rfl (by omega) (shY_4 hz) (by omega) (by omega) (ovl_wc (by omega)) ?_
          refine Ev.steps (k := 1) (pc' := 56) (L' := [Vr (z : Int), Vi (room : Int), Vi (w32 ((to : Int) + 1)), Vi 1]) (S' := []) (h' := ((SHv st dr rd), (ovl (updC a (z + 4) ((room * 8 + to)) 1) s b))) (fun _ => rfl) ?_
          rw [show (w32 ((to : Int) + 1)) = ((to : Int) + 1) from w32_id (by unfold R32; omega)]
          refine Ev.steps (k := 1) (pc' := 10) (L' := [Vr (z : Int), Vi (room : Int), Vi ((to : Int) + 1), Vi 1]) (S' := []) (h' := ((SHv st dr rd), (ovl (updC a (z + 4) ((room * 8 + to)) 1) s b))) (fun _ => rfl) ?_
          refine ih _ (by omega) (a := (updC a (z + 4) ((room * 8 + to)) 1)) room (to + 1) _ (by omega) (by omega) (by first | exact hf | exact hf.up (by omega)) (fun r t hr ht hlt => ?_) rfl
          first
            | (rw [updC_if]
               by_cases h : 8 * r + t = room * 8 + to
               · obtain rfl : r = room := by omega
                 obtain rfl : t = to := by omega
                 rw [if_pos h]
                 unfold fw0
                 first
                   | (rw [if_pos (by omega)]; rfl)
                   | (rw [if_neg (by omega), if_pos (by have := c19.2.2; rwa [Int.toNat_natCast, Int.toNat_natCast] at this)]; rfl)
                   | (rw [if_neg (by omega), if_neg (fun g => c19 ⟨by omega, by omega, by rwa [Int.toNat_natCast, Int.toNat_natCast]⟩)]; rfl)
               · rw [if_neg h, hI r t hr ht (by omega)])
            | (exact hI r t hr ht (by omega))
        · refine Ev.steps (k := 2) (pc' := 52) (L' := [Vr (z : Int), Vi (room : Int), Vi (to : Int), Vi 1]) (S' := [Vi 0, Vi (((room : Int) * 8) + (to : Int)), Vr ((z : Int) + 4)]) (h' := ((SHv st dr rd), (ovl a s b))) (fun _ => rfl) ?_
          refine Ev.iast (c' := (ovl (updC a (z + 4) ((room * 8 + to)) 0) s b)) rfl (by omega) (shY_4 hz) (by omega) (by omega) (ovl_wc (by omega)) ?_
          refine Ev.steps (k := 1) (pc' := 56) (L' := [Vr (z : Int), Vi (room : Int), Vi (w32 ((to : Int) + 1)), Vi 1]) (S' := []) (h' := ((SHv st dr rd), (ovl (updC a (z + 4) ((room * 8 + to)) 0) s b))) (fun _ => rfl) ?_
          rw [show (w32 ((to : Int) + 1)) = ((to : Int) + 1) from w32_id (by unfold R32; omega)]
          refine Ev.steps (k := 1) (pc' := 10) (L' := [Vr (z : Int), Vi (room : Int), Vi ((to : Int) + 1), Vi 1]) (S' := []) (h' := ((SHv st dr rd), (ovl (updC a (z + 4) ((room * 8 + to)) 0) s b))) (fun _ => rfl) ?_
          refine ih _ (by omega) (a := (updC a (z + 4) ((room * 8 + to)) 0)) room (to + 1) _ (by omega) (by omega) (by first | exact hf | exact hf.up (by omega)) (fun r t hr ht hlt => ?_) rfl
          first
            | (rw [updC_if]
               by_cases h : 8 * r + t = room * 8 + to
               · obtain rfl : r = room := by omega
                 obtain rfl : t = to := by omega
                 rw [if_pos h]
                 unfold fw0
                 first
                   | (rw [if_pos (by omega)]; rfl)
                   | (rw [if_neg (by omega), if_pos (by have := c19.2.2; rwa [Int.toNat_natCast, Int.toNat_natCast] at this)]; rfl)
                   | (rw [if_neg (by omega), if_neg (fun g => c19 ⟨by omega, by omega, by rwa [Int.toNat_natCast, Int.toNat_natCast]⟩)]; rfl)
               · rw [if_neg h, hI r t hr ht (by omega)])
            | (exact hI r t hr ht (by omega))
      · rw [if_neg c19]
        show Ev X _ _ 22 [Vr (z : Int), Vi (room : Int), Vi (to : Int), x3] [Vi 0] ((SHv st dr rd), (ovl a s b)) _
        refine Ev.steps (k := 4) (pc' := 33) (L' := [Vr (z : Int), Vi (room : Int), Vi (to : Int), Vi 8]) (S' := [Vr (z : Int)]) (h' := ((SHv st dr rd), (ovl a s b))) (fun _ => rfl) ?_
        refine Ev.getr (r := ((z : Int) + 4)) rfl rfl (by omega) (shY_0 hz) rfl rfl rfl ?_
        refine Ev.steps (k := 3) (pc' := 40) (L' := [Vr (z : Int), Vi (room : Int), Vi (to : Int), Vi 8]) (S' := [Vi (w32 ((room : Int) * 8)), Vr ((z : Int) + 4)]) (h' := ((SHv st dr rd), (ovl a s b))) (fun _ => rfl) ?_
        rw [show (w32 ((room : Int) * 8)) = ((room : Int) * 8) from w32_id (by unfold R32; omega)]
        refine Ev.steps (k := 2) (pc' := 42) (L' := [Vr (z : Int), Vi (room : Int), Vi (to : Int), Vi 8]) (S' := [Vi (w32 (((room : Int) * 8) + (to : Int))), Vr ((z : Int) + 4)]) (h' := ((SHv st dr rd), (ovl a s b))) (fun _ => rfl) ?_
        rw [show (w32 (((room : Int) * 8) + (to : Int))) = (((room : Int) * 8) + (to : Int)) from w32_id (by unfold R32; omega)]
        refine Ev.ite (P := (room : Int) ≠ (to : Int)) (k := 3) (a := 51) (b := 47) (L' := [Vr (z : Int), Vi (room : Int), Vi (to : Int), Vi 8]) (S' := [Vi (((room : Int) * 8) + (to : Int)), Vr ((z : Int) + 4)]) (h' := ((SHv st dr rd), (ovl a s b))) (fun _ => rfl) (fun b44 => ?_) (fun b44 => ?_)
        · refine Ev.steps (k := 1) (pc' := 52) (L' := [Vr (z : Int), Vi (room : Int), Vi (to : Int), Vi 8]) (S' := [Vi 8, Vi (((room : Int) * 8) + (to : Int)), Vr ((z : Int) + 4)]) (h' := ((SHv st dr rd), (ovl a s b))) (fun _ => rfl) ?_
          refine Ev.iast (c' := (ovl (updC a (z + 4) ((room * 8 + to)) 8) s b)) rfl (by omega) (shY_4 hz) (by omega) (by omega) (ovl_wc (by omega)) ?_
          refine Ev.steps (k := 1) (pc' := 56) (L' := [Vr (z : Int), Vi (room : Int), Vi (w32 ((to : Int) + 1)), Vi 8]) (S' := []) (h' := ((SHv st dr rd), (ovl (updC a (z + 4) ((room * 8 + to)) 8) s b))) (fun _ => rfl) ?_
          rw [show (w32 ((to : Int) + 1)) = ((to : Int) + 1) from w32_id (by unfold R32; omega)]
          refine Ev.steps (k := 1) (pc' := 10) (L' := [Vr (z : Int), Vi (room : Int), Vi ((to : Int) + 1), Vi 8]) (S' := []) (h' := ((SHv st dr rd), (ovl (updC a (z + 4) ((room * 8 + to)) 8) s b))) (fun _ => rfl) ?_
          refine ih _ (by omega) (a := (updC a (z + 4) ((room * 8 + to)) 8)) room (to + 1) _ (by omega) (by omega) (by first | exact hf | exact hf.up (by omega)) (fun r t hr ht hlt => ?_) rfl
          first
            | (rw [updC_if]
               by_cases h : 8 * r + t = room * 8 + to
               · obtain rfl : r = room := by omega
                 obtain rfl : t = to := by omega
                 rw [if_pos h]
                 unfold fw0
                 first
                   | (rw [if_pos (by omega)]; rfl)
                   | (rw [if_neg (by omega), if_pos (by have := c19.2.2; rwa [Int.toNat_natCast, Int.toNat_natCast] at this)]; rfl)
                   | (rw [if_neg (by omega), if_neg (fun g => c19 ⟨by omega, by omega, by rwa [Int.toNat_natCast, Int.toNat_natCast]⟩)]; rfl)
               · rw [if_neg h, hI r t hr ht (by omega)])
            | (exact hI r t hr ht (by omega))
        · refine Ev.steps (k := 2) (pc' := 52) (L' := [Vr (z : Int), Vi (room : Int), Vi (to : Int), Vi 8]) (S' := [Vi 0, Vi (((room : Int) * 8) + (to : Int)), Vr ((z : Int) + 4)]) (h' := ((SHv st dr rd), (ovl a s b))) (fun _ => rfl) ?_
          refine Ev.iast (c' := (ovl (updC a (z + 4) ((room * 8 + to)) 0) s b)) rfl (by omega) (shY_4 hz) (by omega) (by omega) (ovl_wc (by omega)) ?_
          refine Ev.steps (k := 1) (pc' := 56) (L' := [Vr (z : Int), Vi (room : Int), Vi (w32 ((to : Int) + 1)), Vi 8]) (S' := []) (h' := ((SHv st dr rd), (ovl (updC a (z + 4) ((room * 8 + to)) 0) s b))) (fun _ => rfl) ?_
          rw [show (w32 ((to : Int) + 1)) = ((to : Int) + 1) from w32_id (by unfold R32; omega)]
          refine Ev.steps (k := 1) (pc' := 10) (L' := [Vr (z : Int), Vi (room : Int), Vi ((to : Int) + 1), Vi 8]) (S' := []) (h' := ((SHv st dr rd), (ovl (updC a (z + 4) ((room * 8 + to)) 0) s b))) (fun _ => rfl) ?_
          refine ih _ (by omega) (a := (updC a (z + 4) ((room * 8 + to)) 0)) room (to + 1) _ (by omega) (by omega) (by first | exact hf | exact hf.up (by omega)) (fun r t hr ht hlt => ?_) rfl
          first
            | (rw [updC_if]
               by_cases h : 8 * r + t = room * 8 + to
               · obtain rfl : r = room := by omega
                 obtain rfl : t = to := by omega
                 rw [if_pos h]
                 unfold fw0
                 first
                   | (rw [if_pos (by omega)]; rfl)
                   | (rw [if_neg (by omega), if_pos (by have := c19.2.2; rwa [Int.toNat_natCast, Int.toNat_natCast] at this)]; rfl)
                   | (rw [if_neg (by omega), if_neg (fun g => c19 ⟨by omega, by omega, by rwa [Int.toNat_natCast, Int.toNat_natCast]⟩)]; rfl)
               · rw [if_neg h, hI r t hr ht (by omega)])
            | (exact hI r t hr ht (by omega))
theorem c_measure {X : List Int} {d : Nat} {st dr rd : Int} {a s b : C3} {z : Nat} (hz : hyS z) {S : STY} (hD : DoC S.1 a z) : Ev X (d + 1) 58 0 [Vr (z : Int), Vx, Vx, Vx] [] (SHv st dr rd, ovl a s b) (fun rr hh => rr = none ∧ ∃ a' : C3, hh = (SHv st dr rd, ovl a' s b) ∧ FrO (z + 4) (z + 4) a a' ∧ ∀ r t, r < 8 → t < 8 → a' (z + 4) (8 * r + t) = ((fwT S 8 r t : Nat) : Int)) := by
  refine Ev.steps (k := 7) (pc' := 10) (L' := [Vr (z : Int), Vi 0, Vi 0, Vx]) (S' := []) (h' := ((SHv st dr rd), (ovl a s b))) (fun _ => rfl) ?_
  exact c_measure1 hz hD 0 0 Vx (by omega) (by omega) FrO.rf (fun r t _ _ h => absurd h (by omega))
