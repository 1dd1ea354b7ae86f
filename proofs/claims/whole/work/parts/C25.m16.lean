/-! THE CLASS: spans, who could -/
theorem hrdF_b {H : Nat → SC} {N x : Nat} : ∀ p, hrdF H N x p = bts (fun k => decide (x.testBit k = true ∧ H N 1 k ≠ 0)) p
  | 0 => rfl
  | p + 1 => by
    rw [hrdF_s, bts_s, hrdF_b p]
    by_cases h : x.testBit p = true ∧ H N 1 p ≠ 0
    · rw [if_pos h, if_pos (decide_eq_true h)]
    · rw [if_neg h, if_neg (fun g => h (of_decide_eq_true g)), Nat.add_zero]
theorem hrdF_tb {H : Nat → SC} {N x p k : Nat} : (hrdF H N x p).testBit k = true ↔ k < p ∧ x.testBit k = true ∧ H N 1 k ≠ 0 := by
  rw [hrdF_b, bts_bit, decide_eq_true_iff]
theorem cldF_b {W : Nat} {H : Nat → SC} {N y v : Nat} : ∀ p, cldF W H N y v p = bts (fun k => decide (CanF W H N y v k)) p
  | 0 => rfl
  | p + 1 => by
    rw [cldF_s, bts_s, cldF_b p]
    by_cases h : CanF W H N y v p
    · rw [if_pos h, if_pos (decide_eq_true h)]
    · rw [if_neg h, if_neg (fun g => h (of_decide_eq_true g))]
      exact (Nat.add_zero _).symm
theorem cldF_tb {W : Nat} {H : Nat → SC} {N y v p k : Nat} : (cldF W H N y v p).testBit k = true ↔ k < p ∧ CanF W H N y v k := by
  rw [cldF_b, bts_bit, decide_eq_true_iff]
theorem hrd_and {W : Nat} {H : Nat → SC} {N x : Nat} : x &&& alvB W (H N) = hrdF H N x W := nat_bits (fun k => by
  rw [Nat.testBit_and, Bool.and_eq_true, alvB_tb, hrdF_tb]
  exact ⟨fun h => ⟨h.2.1, h.1, h.2.2⟩, fun h => ⟨h.2.1, h.1, h.2.2⟩⟩)
theorem hrdF_256 {W : Nat} {H : Nat → SC} {N x : Nat} (hW : W ≤ 8) : hrdF H N x W < 256 := by
  have h1 := hrdF_lt H N x W
  have h2 := pw8 hW
  omega
theorem wit_ne {W : Nat} {c : SC} {v y : Nat} : (witB W c v &&& y ≠ 0) ↔ ∃ p, p < W ∧ y.testBit p = true ∧ seeS c p v ≠ 0 := by
  constructor
  · intro h
    apply Classical.byContradiction
    intro hn
    apply h
    apply nat_bits
    intro k
    rw [Nat.testBit_and, Bool.and_eq_true, witB_see, Nat.zero_testBit]
    exact ⟨fun g => absurd ⟨k, g.1.1, g.2, g.1.2⟩ hn, fun g => absurd g (by decide)⟩
  · rintro ⟨p, h1, h2, h3⟩ h
    have : (witB W c v &&& y).testBit p = true := by
      rw [Nat.testBit_and, Bool.and_eq_true, witB_see]
      exact ⟨⟨h1, h3⟩, h2⟩
    rw [h, Nat.zero_testBit] at this
    cases this
theorem see_a {c : SC} {p o : Nat} (h : c 1 o ≠ 0) : seeS c p o ≠ 0 ↔ seeS c p o = 1 := by
  unfold seeS
  by_cases g : p = o ∨ c 1 p = 0 ∨ c 0 p ≠ c 0 o
  · rw [if_pos g]
    exact ⟨fun g => absurd rfl g, fun g => absurd g (by omega)⟩
  · rw [if_neg g, if_pos h]
    exact ⟨fun _ => rfl, fun _ => by omega⟩
theorem see_d {c : SC} {p o : Nat} (h : c 1 o = 0) : seeS c p o ≠ 0 ↔ seeS c p o = 2 := by
  unfold seeS
  by_cases g : p = o ∨ c 1 p = 0 ∨ c 0 p ≠ c 0 o
  · rw [if_pos g]
    exact ⟨fun g => absurd rfl g, fun g => absurd g (by omega)⟩
  · rw [if_neg g, if_neg (fun g => g h)]
    exact ⟨fun _ => rfl, fun _ => by omega⟩
theorem see_a2 {c : SC} {p o : Nat} (h : seeS c p o = 1) : c 1 o ≠ 0 := by
  intro h2
  have := (see_d (p := p) h2).mp (by omega)
  omega
theorem see_d2 {c : SC} {p o : Nat} (h : seeS c p o = 2) : c 1 o = 0 := by
  apply Classical.byContradiction
  intro h2
  have := (see_a (p := p) h2).mp (by omega)
  omega
theorem ddN_a {H : Nat → SC} {v n m : Nat} (h : m < ddN H v n) : H m 1 v ≠ 0 := by
  have := lst_min (fun m => decide (H m 1 v = 0)) n m h
  exact of_decide_eq_false this
theorem ddN_d {H : Nat → SC} {v n m : Nat} (hD : DmH H v n) (h : ddN H v n ≤ m) (hm : m < n) : H m 1 v = 0 :=
  hD _ m h hm (of_decide_eq_true (lst_sat (fun m => decide (H m 1 v = 0)) n (by unfold ddN at h; omega)))
theorem spf_dd {W : Nat} {H : Nat → SC} {y v n : Nat} (hD : DmH H v n) : ∀ m, ddN H v n ≤ m → m ≤ n → spfF W H y v m = spfF W H y v (ddN H v n)
  | 0, h, _ => by rw [show ddN H v n = 0 by omega]
  | m + 1, h, hm => by
    by_cases g : ddN H v n = m + 1
    · rw [g]
    · rw [spfF_s, if_neg]
      · exact spf_dd hD m (by omega) (by omega)
      · rintro ⟨p, -, -, h3⟩
        exact see_a2 h3 (ddN_d hD (by omega) (by omega))
/-- the span as the class has it -/
def SpC (W : Nat) (H : Nat → SC) (n y v : Nat) (a : SC) : Prop := a 138 7 = ((spfF W H y v n : Nat) : Int) ∧ a 138 8 = ((sptF W H (n - 1) y v : Nat) : Int)
theorem LkC.fr {W : Nat} {H : Nat → SC} {n v : Nat} {a a' : SC} (h : LkC W H n v a) (h8 : ∀ i, i < 7 → a' 138 i = a 138 i) (h9 : a' 139 = a 139) (h0 : a' 140 = a 140) : LkC W H n v a' := by
  unfold LkC LkR at *
  rw [h8 2 (by omega), h8 3 (by omega), h8 4 (by omega), h8 5 (by omega), h8 6 (by omega), h9, h0]
  exact h
theorem c_span_f {X : List Int} {d : Nat} {st dr rd : Int} {a s b : C3} {W n v : Nat} {H : Nat → SC} (hn : n ≤ 180) (hn0 : 0 < n) (hW : W ≤ 8) (hD : DmH H v n) (hdv : H (n - 1) 1 v = 0) (x : Int) (y : Nat) (hy : y < 256) {a0 : C3} {Q : Option pm_V → pm_H → Prop} (hL0 : LkC W H n v a0) (K : ∀ (a2 : C3) (z : Int), (∀ o, o ≠ 138 → a2 o = a0 o) → (∀ i, i ≠ 7 → a2 138 i = a0 138 i) → a2 138 7 = ((spfF W H y v n : Nat) : Int) → Ev X d 133 58 [Vr 138, Vi x, Vi (y : Int), Vi z] [] (SHv st dr rd, ovl a2 s b) Q) (M : Nat) (mi : Int) (hmi : mi = (M : Int) - 1) (sF : Nat) (hM : M ≤ ddN H v n) (ho : ∀ o, o ≠ 138 → a o = a0 o) (hi : ∀ i, i ≠ 7 → a 138 i = a0 138 i) (h7 : a 138 7 = (sF : Int)) (hs : (sF = 0 ∧ spfF W H y v (ddN H v n) = spfF W H y v M) ∨ (sF ≠ 0 ∧ sF = spfF W H y v (ddN H v n))) : Ev X d 133 19 [Vr 138, Vi x, Vi (y : Int), Vi mi] [] (SHv st dr rd, ovl a s b) (Q) := by
  induction hkk : (M) using Nat.strongRecOn generalizing M mi sF a with
  | ind kk ih =>
    have hLk := hL0
    have hdl := lst_le (fun m => decide (H m 1 v = 0)) n
    have hdd : ddN H v n < n := by
      by_cases g : ddN H v n < n
      · exact g
      · exact absurd hdv (ddN_a (n := n) (by omega))
    clear hdl
    have hds := spf_dd (W := W) (y := y) hD n (by omega) (Nat.le_refl n)
    refine Ev.ite (P := mi < 0) (k := 2) (a := 58) (b := 23) (L' := [Vr 138, Vi x, Vi (y : Int), Vi mi]) (S' := []) (h' := ((SHv st dr rd), (ovl a s b))) (fun _ => rfl) (fun b20 => ?_) (fun b20 => ?_)
    · refine K a mi ho hi ?_
      rw [h7, hds]
      rcases hs with ⟨s1, s2⟩ | ⟨s1, s2⟩
      · have : M = 0 := by omega
        subst this
        rw [s1, s2]
        rfl
      · rw [s2]
    · refine Ev.steps (k := 2) (pc' := 27) (L' := [Vr 138, Vi x, Vi (y : Int), Vi mi]) (S' := [Vi (a 138 7)]) (h' := ((SHv st dr rd), (ovl a s b))) (fun _ => rfl) ?_
      rw [h7]
      refine Ev.ite (P := (sF : Int) ≠ 0) (k := 1) (a := 58) (b := 30) (L' := [Vr 138, Vi x, Vi (y : Int), Vi mi]) (S' := []) (h' := ((SHv st dr rd), (ovl a s b))) (fun _ => rfl) (fun b27 => ?_) (fun b27 => ?_)
      · refine K a mi ho hi ?_
        rw [h7, hds]
        rcases hs with ⟨s1, s2⟩ | ⟨s1, s2⟩
        · have : M = 0 := by omega
          subst this
          rw [s1, s2]
          rfl
        · rw [s2]
      · obtain ⟨M1, hM1⟩ : ∃ M1, M = M1 + 1 := ⟨M - 1, by omega⟩
        have hwt : mi.toNat = M - 1 := by omega
        have hwv : a 140 mi.toNat = ((witB W (H (M - 1)) v : Nat) : Int) := by rw [ho 140 (by omega), hwt]; exact (hLk.2.2.2.2.2 (M - 1) (by omega)).1
        have hwl := witB_lt (W := W) (c := H (M - 1)) (r := v) hW
        have hne := fun (_ : Unit) => wit_ne (W := W) (c := H (M - 1)) (v := v) (y := y)
        have hal := ddN_a (H := H) (v := v) (n := n) (m := M - 1) (by omega)
        have hMM : M - 1 + 1 = M := by omega
        have hsp := fun (_ : Unit) => spfF_s (W := W) (H := H) (y := y) (v := v) (m := M - 1)
        rw [hMM] at hsp
        refine Ev.steps (k := 4) (pc' := 36) (L' := [Vr 138, Vi x, Vi (y : Int), Vi mi]) (S' := [Vi mi, Vr 140, Vr 138]) (h' := ((SHv st dr rd), (ovl a s b))) (fun _ => rfl) ?_
        refine Ev.iald (v := ((witB W (H (M - 1)) v : Nat) : Int)) rfl (by decide) rfl (by omega) (by omega) (hwv) ?_
        refine Ev.steps (k := 2) (pc' := 39) (L' := [Vr 138, Vi x, Vi (y : Int), Vi mi]) (S' := [Vi (i_and ((witB W (H (M - 1)) v : Nat) : Int) (y : Int)), Vr 138]) (h' := ((SHv st dr rd), (ovl a s b))) (fun _ => rfl) ?_
        rw [show (i_and ((witB W (H (M - 1)) v : Nat) : Int) (y : Int)) = ((witB W (H (M - 1)) v &&& y : Nat) : Int) from (i_and_nat (by omega) (by omega))]
        refine Ev.ite (P := ((witB W (H (M - 1)) v &&& y : Nat) : Int) = 0) (k := 1) (a := 48) (b := 42) (L' := [Vr 138, Vi x, Vi (y : Int), Vi mi]) (S' := [Vr 138]) (h' := ((SHv st dr rd), (ovl a s b))) (fun _ => rfl) (fun b39 => ?_) (fun b39 => ?_)
        · refine Ev.steps (k := 1) (pc' := 49) (L' := [Vr 138, Vi x, Vi (y : Int), Vi mi]) (S' := [Vi 0, Vr 138]) (h' := ((SHv st dr rd), (ovl a s b))) (fun _ => rfl) ?_
          refine Ev.putf (c' := (ovl (updC a 138 7 0) s b)) rfl (by decide) rfl rfl rfl (ovl_wc (by decide)) ?_
          refine Ev.steps (k := 1) (pc' := 55) (L' := [Vr 138, Vi x, Vi (y : Int), Vi (w32 (mi + (-1)))]) (S' := []) (h' := ((SHv st dr rd), (ovl (updC a 138 7 0) s b))) (fun _ => rfl) ?_
          rw [show (w32 (mi + (-1))) = (mi - 1) from (by unfold w32; omega)]
          refine Ev.steps (k := 1) (pc' := 19) (L' := [Vr 138, Vi x, Vi (y : Int), Vi (mi - 1)]) (S' := []) (h' := ((SHv st dr rd), (ovl (updC a 138 7 0) s b))) (fun _ => rfl) ?_
          first
            | (have hw : witB W (H (M - 1)) v &&& y ≠ 0 := by omega
               obtain ⟨p, p1, p2, p3⟩ := (hne ()).mp hw
               have hsp := (hsp ()).trans (if_pos ⟨p, p1, p2, (see_a hal).mp p3⟩)
               refine ih (M - 1) (by omega) (a := (updC a 138 7 0)) (M - 1) _ (by omega) M (by omega) (fun o h => by rw [updC_row h]; exact ho o h) (fun i h => by rw [updC_nt (by omega)]; exact hi i h) (by rw [updC_sm]) (Or.inr ⟨by omega, ?_⟩) rfl
               rcases hs with ⟨s1, s2⟩ | ⟨s1, s2⟩
               · rw [s2, hsp]
               · omega)
            | (have hw : ¬ (witB W (H (M - 1)) v &&& y ≠ 0) := by omega
               have hsp := (hsp ()).trans (if_neg (fun ⟨p, p1, p2, p3⟩ => hw ((hne ()).mpr ⟨p, p1, p2, (see_a hal).mpr p3⟩)))
               refine ih (M - 1) (by omega) (a := (updC a 138 7 0)) (M - 1) _ (by omega) 0 (by omega) (fun o h => by rw [updC_row h]; exact ho o h) (fun i h => by rw [updC_nt (by omega)]; exact hi i h) (by rw [updC_sm]; rfl) (Or.inl ⟨rfl, ?_⟩) rfl
               rcases hs with ⟨s1, s2⟩ | ⟨s1, s2⟩
               · rw [s2, hsp]
               · omega)
        · refine Ev.steps (k := 3) (pc' := 45) (L' := [Vr 138, Vi x, Vi (y : Int), Vi mi]) (S' := [Vi (w32 (mi + 1)), Vr 138]) (h' := ((SHv st dr rd), (ovl a s b))) (fun _ => rfl) ?_
          rw [show (w32 (mi + 1)) = (M : Int) from (by unfold w32; omega)]
          refine Ev.steps (k := 1) (pc' := 49) (L' := [Vr 138, Vi x, Vi (y : Int), Vi mi]) (S' := [Vi (M : Int), Vr 138]) (h' := ((SHv st dr rd), (ovl a s b))) (fun _ => rfl) ?_
          refine Ev.putf (c' := (ovl (updC a 138 7 (M : Int)) s b)) rfl (by decide) rfl rfl rfl (ovl_wc (by decide)) ?_
          refine Ev.steps (k := 1) (pc' := 55) (L' := [Vr 138, Vi x, Vi (y : Int), Vi (w32 (mi + (-1)))]) (S' := []) (h' := ((SHv st dr rd), (ovl (updC a 138 7 (M : Int)) s b))) (fun _ => rfl) ?_
          rw [show (w32 (mi + (-1))) = (mi - 1) from (by unfold w32; omega)]
          refine Ev.steps (k := 1) (pc' := 19) (L' := [Vr 138, Vi x, Vi (y : Int), Vi (mi - 1)]) (S' := []) (h' := ((SHv st dr rd), (ovl (updC a 138 7 (M : Int)) s b))) (fun _ => rfl) ?_
          first
            | (have hw : witB W (H (M - 1)) v &&& y ≠ 0 := by omega
               obtain ⟨p, p1, p2, p3⟩ := (hne ()).mp hw
               have hsp := (hsp ()).trans (if_pos ⟨p, p1, p2, (see_a hal).mp p3⟩)
               refine ih (M - 1) (by omega) (a := (updC a 138 7 (M : Int))) (M - 1) _ (by omega) M (by omega) (fun o h => by rw [updC_row h]; exact ho o h) (fun i h => by rw [updC_nt (by omega)]; exact hi i h) (by rw [updC_sm]) (Or.inr ⟨by omega, ?_⟩) rfl
               rcases hs with ⟨s1, s2⟩ | ⟨s1, s2⟩
               · rw [s2, hsp]
               · omega)
            | (have hw : ¬ (witB W (H (M - 1)) v &&& y ≠ 0) := by omega
               have hsp := (hsp ()).trans (if_neg (fun ⟨p, p1, p2, p3⟩ => hw ((hne ()).mpr ⟨p, p1, p2, (see_a hal).mpr p3⟩)))
               refine ih (M - 1) (by omega) (a := (updC a 138 7 (M : Int))) (M - 1) _ (by omega) 0 (by omega) (fun o h => by rw [updC_row h]; exact ho o h) (fun i h => by rw [updC_nt (by omega)]; exact hi i h) (by rw [updC_sm]; rfl) (Or.inl ⟨rfl, ?_⟩) rfl
               rcases hs with ⟨s1, s2⟩ | ⟨s1, s2⟩
               · rw [s2, hsp]
               · omega)
theorem c_span_t {X : List Int} {d : Nat} {st dr rd : Int} {a s b : C3} {W n v : Nat} {H : Nat → SC} (hn : n ≤ 180) (hn0 : 0 < n) (hW : W ≤ 8) (hD : DmH H v n) (hdv : H (n - 1) 1 v = 0) (x : Int) (y : Nat) (hy : y < 256) {a0 : C3} {Q : Option pm_V → pm_H → Prop} (hL0 : LkC W H n v a0) (K : ∀ (a2 : C3), (∀ o, o ≠ 138 → a2 o = a0 o) → (∀ i, i ≠ 8 → a2 138 i = a0 138 i) → a2 138 8 = ((sptF W H (n - 1) y v : Nat) : Int) → Q none (SHv st dr rd, ovl a2 s b)) (m : Nat) (hm1 : ddN H v n ≤ m) (hm2 : m ≤ n - 1) (ho : ∀ o, o ≠ 138 → a o = a0 o) (hi : ∀ i, i ≠ 8 → a 138 i = a0 138 i) (h8 : a 138 8 = (m : Int)) (hs : ∀ j, j < m → fdF W H y v j = false) : Ev X d 133 71 [Vr 138, Vi x, Vi (y : Int), Vi (m : Int)] [] (SHv st dr rd, ovl a s b) (Q) := by
  induction hkk : (n - m) using Nat.strongRecOn generalizing m a with
  | ind kk ih =>
    have hLk := hL0
    have hdl := lst_le (fun m => decide (H m 1 v = 0)) n
    have hdd : ddN H v n < n := by
      by_cases g : ddN H v n < n
      · exact g
      · exact absurd hdv (ddN_a (n := n) (by omega))
    clear hdl
    have h2 : a 138 2 = (n : Int) := by rw [hi 2 (by omega)]; exact hLk.1
    have hwv : a 140 m = ((witB W (H m) v : Nat) : Int) := by rw [ho 140 (by omega)]; exact (hLk.2.2.2.2.2 m (by omega)).1
    have hwl := witB_lt (W := W) (c := H m) (r := v) hW
    have hne := fun (_ : Unit) => wit_ne (W := W) (c := H m) (v := v) (y := y)
    have hdm := ddN_d hD hm1 (by omega)
    have hfd : Unit → (fdF W H y v m = true ↔ witB W (H m) v &&& y ≠ 0) := fun _ => by
      unfold fdF
      rw [decide_eq_true_iff, hne ()]
      exact ⟨fun ⟨p, p1, p2, p3⟩ => ⟨p, p1, p2, (see_d hdm).mpr p3⟩, fun ⟨p, p1, p2, p3⟩ => ⟨p, p1, p2, (see_d hdm).mp p3⟩⟩
    have hst : Unit → (m = n - 1 ∨ fdF W H y v m = true) → sptF W H (n - 1) y v = m := fun _ h => by
      unfold sptF
      rw [show n - 1 + 1 = n by omega]
      by_cases g : fdF W H y v m = true
      · rw [lst_eq g hs (by omega), if_pos (by omega)]
      · have e : lst (fdF W H y v) n = n := lst_no (fun j hj => by
          by_cases g2 : j = m
          · rw [g2]
            exact Bool.eq_false_iff.mpr g
          · refine hs j ?_
            rcases h with h | h
            · omega
            · exact absurd h g)
        rw [e, if_neg (by omega)]
        rcases h with h | h
        · exact h.symm
        · exact absurd h g
    refine Ev.steps (k := 3) (pc' := 76) (L' := [Vr 138, Vi x, Vi (y : Int), Vi (m : Int)]) (S' := [Vi (a 138 2), Vi (m : Int)]) (h' := ((SHv st dr rd), (ovl a s b))) (fun _ => rfl) ?_
    rw [h2]
    refine Ev.steps (k := 2) (pc' := 78) (L' := [Vr 138, Vi x, Vi (y : Int), Vi (m : Int)]) (S' := [Vi (w32 ((n : Int) - 1)), Vi (m : Int)]) (h' := ((SHv st dr rd), (ovl a s b))) (fun _ => rfl) ?_
    rw [show (w32 ((n : Int) - 1)) = ((n - 1 : Nat) : Int) from (by unfold w32; omega)]
    refine Ev.ite (P := ((n - 1 : Nat) : Int) ≤ (m : Int)) (k := 1) (a := 105) (b := 81) (L' := [Vr 138, Vi x, Vi (y : Int), Vi (m : Int)]) (S' := []) (h' := ((SHv st dr rd), (ovl a s b))) (fun _ => rfl) (fun b78 => ?_) (fun b78 => ?_)
    · refine Ev.fin (k := 1) (r := none) (h' := ((SHv st dr rd), (ovl a s b))) (fun _ => rfl) ?_
      refine K a ho hi ?_
      rw [h8, hst () (by first | exact Or.inr ((hfd ()).mpr (by omega)) | exact Or.inl (by omega))]
    · refine Ev.steps (k := 3) (pc' := 86) (L' := [Vr 138, Vi x, Vi (y : Int), Vi (m : Int)]) (S' := [Vi (m : Int), Vr 140]) (h' := ((SHv st dr rd), (ovl a s b))) (fun _ => rfl) ?_
      refine Ev.iald (v := ((witB W (H m) v : Nat) : Int)) rfl (by decide) rfl (by omega) (by omega) (hwv) ?_
      refine Ev.steps (k := 2) (pc' := 89) (L' := [Vr 138, Vi x, Vi (y : Int), Vi (m : Int)]) (S' := [Vi (i_and ((witB W (H m) v : Nat) : Int) (y : Int))]) (h' := ((SHv st dr rd), (ovl a s b))) (fun _ => rfl) ?_
      rw [show (i_and ((witB W (H m) v : Nat) : Int) (y : Int)) = ((witB W (H m) v &&& y : Nat) : Int) from (i_and_nat (by omega) (by omega))]
      refine Ev.ite (P := ((witB W (H m) v &&& y : Nat) : Int) ≠ 0) (k := 1) (a := 105) (b := 92) (L' := [Vr 138, Vi x, Vi (y : Int), Vi (m : Int)]) (S' := []) (h' := ((SHv st dr rd), (ovl a s b))) (fun _ => rfl) (fun b89 => ?_) (fun b89 => ?_)
      · refine Ev.fin (k := 1) (r := none) (h' := ((SHv st dr rd), (ovl a s b))) (fun _ => rfl) ?_
        refine K a ho hi ?_
        rw [h8, hst () (by first | exact Or.inr ((hfd ()).mpr (by omega)) | exact Or.inl (by omega))]
      · refine Ev.steps (k := 4) (pc' := 96) (L' := [Vr 138, Vi x, Vi (y : Int), Vi (m : Int)]) (S' := [Vi (w32 ((m : Int) + 1)), Vr 138]) (h' := ((SHv st dr rd), (ovl a s b))) (fun _ => rfl) ?_
        rw [show (w32 ((m : Int) + 1)) = ((m : Int) + 1) from w32_id (by unfold R32; omega)]
        refine Ev.putf (c' := (ovl (updC a 138 8 ((m : Int) + 1)) s b)) rfl (by decide) rfl rfl rfl (ovl_wc (by decide)) ?_
        refine Ev.steps (k := 1) (pc' := 102) (L' := [Vr 138, Vi x, Vi (y : Int), Vi (w32 ((m : Int) + 1))]) (S' := []) (h' := ((SHv st dr rd), (ovl (updC a 138 8 ((m : Int) + 1)) s b))) (fun _ => rfl) ?_
        rw [show (w32 ((m : Int) + 1)) = ((m : Int) + 1) from w32_id (by unfold R32; omega)]
        refine Ev.steps (k := 1) (pc' := 71) (L' := [Vr 138, Vi x, Vi (y : Int), Vi ((m : Int) + 1)]) (S' := []) (h' := ((SHv st dr rd), (ovl (updC a 138 8 ((m : Int) + 1)) s b))) (fun _ => rfl) ?_
        refine ih _ (by omega) (a := (updC a 138 8 ((m : Int) + 1))) (m + 1) (by omega) (by omega) (fun o h => by rw [updC_row h]; exact ho o h) (fun i h => by rw [updC_nt (by omega)]; exact hi i h) (by rw [updC_sm]; omega) (fun j hj => ?_) rfl
        by_cases g : j = m
        · rw [g]
          exact Bool.eq_false_iff.mpr (fun h => absurd ((hfd ()).mp h) (by omega))
        · exact hs j (by omega)
theorem c_setSpan {X : List Int} {d : Nat} {st dr rd : Int} {a s b : C3} {W n v : Nat} {H : Nat → SC} (hn : n ≤ 180) (hn0 : 0 < n) (hW : W ≤ 8) (hD : DmH H v n) (hdv : H (n - 1) 1 v = 0) (x : Nat) (hx : x < 256) (hL : LkC W H n v a) : Ev X d 133 0 [Vr 138, Vi (x : Int), Vx, Vx] [] (SHv st dr rd, ovl a s b) (fun rr hh => rr = none ∧ ∃ a' : C3, hh = (SHv st dr rd, ovl a' s b) ∧ (∀ o, o ≠ 138 → a' o = a o) ∧ LkC W H n v a' ∧ SpC W H n (hrdF H (n - 1) x W) v a') := by
  have hLk := hL
  have hdl := lst_le (fun m => decide (H m 1 v = 0)) n
  have hdd : ddN H v n < n := by
    by_cases g : ddN H v n < n
    · exact g
    · exact absurd hdv (ddN_a (n := n) (by omega))
  clear hdl
  obtain ⟨l2, l3, l4, l5, l6, lR⟩ := id hLk
  have hy := hrdF_256 (W := W) (H := H) (N := n - 1) (x := x) hW
  have hal := alvB_lt (c := H (n - 1)) hW
  refine Ev.steps (k := 3) (pc' := 5) (L' := [Vr 138, Vi (x : Int), Vx, Vx]) (S' := [Vi (a 138 6), Vi (x : Int)]) (h' := ((SHv st dr rd), (ovl a s b))) (fun _ => rfl) ?_
  rw [l6]
  refine Ev.steps (k := 1) (pc' := 6) (L' := [Vr 138, Vi (x : Int), Vx, Vx]) (S' := [Vi (i_and (x : Int) ((alvB W (H (n - 1)) : Nat) : Int))]) (h' := ((SHv st dr rd), (ovl a s b))) (fun _ => rfl) ?_
  rw [show (i_and (x : Int) ((alvB W (H (n - 1)) : Nat) : Int)) = ((hrdF H (n - 1) x W : Nat) : Int) from (by rw [i_and_nat (by omega) (by omega), hrd_and])]
  refine Ev.steps (k := 3) (pc' := 9) (L' := [Vr 138, Vi (x : Int), Vi ((hrdF H (n - 1) x W : Nat) : Int), Vx]) (S' := [Vi 0, Vr 138]) (h' := ((SHv st dr rd), (ovl a s b))) (fun _ => rfl) ?_
  refine Ev.putf (c' := (ovl (updC a 138 7 0) s b)) rfl (by decide) rfl rfl rfl (ovl_wc (by decide)) ?_
  refine Ev.steps (k := 2) (pc' := 16) (L' := [Vr 138, Vi (x : Int), Vi ((hrdF H (n - 1) x W : Nat) : Int), Vx]) (S' := [Vi (a 138 5)]) (h' := ((SHv st dr rd), (ovl (updC a 138 7 0) s b))) (fun _ => rfl) ?_
  rw [l5]
  refine Ev.steps (k := 2) (pc' := 18) (L' := [Vr 138, Vi (x : Int), Vi ((hrdF H (n - 1) x W : Nat) : Int), Vx]) (S' := [Vi (w32 (((ddN H v n : Nat) : Int) - 1))]) (h' := ((SHv st dr rd), (ovl (updC a 138 7 0) s b))) (fun _ => rfl) ?_
  rw [show (w32 (((ddN H v n : Nat) : Int) - 1)) = (((ddN H v n : Nat) : Int) - 1) from (by unfold w32; omega)]
  refine Ev.steps (k := 1) (pc' := 19) (L' := [Vr 138, Vi (x : Int), Vi ((hrdF H (n - 1) x W : Nat) : Int), Vi (((ddN H v n : Nat) : Int) - 1)]) (S' := []) (h' := ((SHv st dr rd), (ovl (updC a 138 7 0) s b))) (fun _ => rfl) ?_
  have hL1 : LkC W H n v (updC a 138 7 0) := hLk.fr (fun i hi => updC_nt (by omega)) (updC_row (by omega)) (updC_row (by omega))
  refine c_span_f hn hn0 hW hD hdv (x : Int) _ hy (a0 := (updC a 138 7 0)) hL1 (fun a2 zz k1 k2 k3 => ?_) (ddN H v n) _ rfl 0 (Nat.le_refl _) (fun _ _ => rfl) (fun _ _ => rfl) (by rw [updC_sm]; rfl) (Or.inl ⟨rfl, rfl⟩)
  have hL2 : LkC W H n v a2 := hL1.fr (fun i hi => k2 i (by omega)) (k1 139 (by omega)) (k1 140 (by omega))
  have k5 := hL2.2.2.2.1
  refine Ev.steps (k := 3) (pc' := 63) (L' := [Vr 138, Vi (x : Int), Vi ((hrdF H (n - 1) x W : Nat) : Int), Vi zz]) (S' := [Vi (a2 138 5), Vr 138]) (h' := ((SHv st dr rd), (ovl a2 s b))) (fun _ => rfl) ?_
  rw [k5]
  refine Ev.putf (c' := (ovl (updC a2 138 8 ((ddN H v n : Nat) : Int)) s b)) rfl (by decide) rfl rfl rfl (ovl_wc (by decide)) ?_
  refine Ev.steps (k := 2) (pc' := 70) (L' := [Vr 138, Vi (x : Int), Vi ((hrdF H (n - 1) x W : Nat) : Int), Vi zz]) (S' := [Vi (a2 138 5)]) (h' := ((SHv st dr rd), (ovl (updC a2 138 8 ((ddN H v n : Nat) : Int)) s b))) (fun _ => rfl) ?_
  rw [k5]
  refine Ev.steps (k := 1) (pc' := 71) (L' := [Vr 138, Vi (x : Int), Vi ((hrdF H (n - 1) x W : Nat) : Int), Vi ((ddN H v n : Nat) : Int)]) (S' := []) (h' := ((SHv st dr rd), (ovl (updC a2 138 8 ((ddN H v n : Nat) : Int)) s b))) (fun _ => rfl) ?_
  have hL3 : LkC W H n v (updC a2 138 8 ((ddN H v n : Nat) : Int)) := hL2.fr (fun i hi => updC_nt (by omega)) (updC_row (by omega)) (updC_row (by omega))
  refine c_span_t hn hn0 hW hD hdv (x : Int) _ hy (a0 := (updC a2 138 8 ((ddN H v n : Nat) : Int))) hL3 (fun a4 k6 k7 k8 => ?_) (ddN H v n) (Nat.le_refl _) (by omega) (fun _ _ => rfl) (fun _ _ => rfl) (by rw [updC_sm]) (fun j hj => ?_)
  · refine ⟨rfl, a4, rfl, fun o h => ?_, hL3.fr (fun i hi => k7 i (by omega)) (k6 139 (by omega)) (k6 140 (by omega)), ?_, k8⟩
    · rw [k6 o h, updC_row h, k1 o h, updC_row h]
    · rw [k7 7 (by omega), updC_nt (by omega)]
      exact k3
  · unfold fdF
    exact decide_eq_false (fun ⟨p, p1, p2, p3⟩ => ddN_a hj (see_d2 p3))
