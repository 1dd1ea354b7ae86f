/-! THE CLASS: the fewest; more who are asked never harm -/
abbrev KilH (W : Nat) (H : Nat → SC) (v n : Nat) : Prop := ∃ K, K < W ∧ K ≠ v ∧ H (ddN H v n) 1 K ≠ 0 ∧ H (ddN H v n) 0 K = H (n - 1) 0 v
theorem bitS_s {x k : Nat} : bitS x (k + 1) = bitS x k + if x.testBit k = true then 1 else 0 := rfl
theorem bitS_mo {A B : Nat} (h : ∀ k, A.testBit k = true → B.testBit k = true) : ∀ k, bitS A k ≤ bitS B k
  | 0 => Nat.le_refl 0
  | k + 1 => by
    have := bitS_mo h k
    rw [bitS_s, bitS_s]
    by_cases g : A.testBit k = true
    · rw [if_pos g, if_pos (h k g)]; omega
    · rw [if_neg g]
      split <;> omega
theorem bitS_ml {A B j : Nat} (h : ∀ k, A.testBit k = true → B.testBit k = true) (h1 : ¬ A.testBit j = true) (h2 : B.testBit j = true) : ∀ k, j < k → bitS A k < bitS B k
  | 0, hk => absurd hk (by omega)
  | k + 1, hk => by
    rw [bitS_s, bitS_s]
    by_cases g : j = k
    · rw [← g, if_neg h1, if_pos h2]
      have := bitS_mo h j
      omega
    · have := bitS_ml h h1 h2 k (by omega)
      by_cases g2 : A.testBit k = true
      · rw [if_pos g2, if_pos (h k g2)]; omega
      · rw [if_neg g2]
        split <;> omega
theorem bitS_ps {A j : Nat} (h : A.testBit j = true) : ∀ k, j < k → 1 ≤ bitS A k
  | 0, hk => absurd hk (by omega)
  | k + 1, hk => by
    rw [bitS_s]
    by_cases g : j = k
    · rw [← g, if_pos h]; omega
    · have := bitS_ps h k (by omega)
      omega
theorem spf_mo {W : Nat} {H : Nat → SC} {y y' v : Nat} (h : ∀ k, y.testBit k = true → y'.testBit k = true) : ∀ m, spfF W H y v m ≤ spfF W H y' v m
  | 0 => Nat.le_refl 0
  | m + 1 => by
    have h1 := spf_mo (W := W) (H := H) (v := v) h m
    have h2 := spfF_le (W := W) (H := H) (y := y) (v := v) m
    rw [spfF_s, spfF_s]
    by_cases g : ∃ p, p < W ∧ y.testBit p = true ∧ seeS (H m) p v = 1
    · rw [if_pos g]
      obtain ⟨p, p1, p2, p3⟩ := g
      rw [if_pos ⟨p, p1, h p p2, p3⟩]
      exact Nat.le_refl _
    · rw [if_neg g]
      split
      · exact Nat.le_trans h2 (Nat.le_succ m)
      · exact h1
theorem spt_mo {W : Nat} {H : Nat → SC} {N y y' v : Nat} (h : ∀ k, y.testBit k = true → y'.testBit k = true) : sptF W H N y' v ≤ sptF W H N y v := by
  have h0 := sptF_le (W := W) (H := H) (N := N) (y := y') (v := v)
  by_cases g : lst (fdF W H y v) (N + 1) < N + 1
  · have h1 : ∃ p, p < W ∧ y.testBit p = true ∧ seeS (H (lst (fdF W H y v) (N + 1))) p v = 2 := of_decide_eq_true (lst_sat (fdF W H y v) (N + 1) g)
    obtain ⟨p, p1, p2, p3⟩ := h1
    have h2 := lst_of (f := fdF W H y' v) (n := N + 1) (k := lst (fdF W H y v) (N + 1)) (decide_eq_true ⟨p, p1, h p p2, p3⟩)
    have e : sptF W H N y v = lst (fdF W H y v) (N + 1) := by unfold sptF; rw [if_pos g]
    have e2 : sptF W H N y' v = lst (fdF W H y' v) (N + 1) := by unfold sptF; rw [if_pos (Nat.lt_of_le_of_lt h2 g)]
    rw [e, e2]
    exact h2
  · have e : sptF W H N y v = N := by unfold sptF; rw [if_neg g]
    rw [e]
    exact h0
theorem can_mo {W : Nat} {H : Nat → SC} {N y y' v p : Nat} (h : ∀ k, y.testBit k = true → y'.testBit k = true) (hc : CanF W H N y' v p) : CanF W H N y v p := by
  refine ⟨hc.1, fun ha => hc.2 (fun m h1 h2 => ?_)⟩
  have e1 := spf_mo (W := W) (H := H) (v := v) h (N + 1)
  have e2 := spt_mo (W := W) (H := H) (N := N) (v := v) h
  obtain ⟨q, q1, q2, q3, q4⟩ := ha m (Nat.lt_of_lt_of_le h1 (Nat.succ_le_succ e2)) (Nat.le_trans e1 h2)
  exact ⟨q, q1, q2, h q q3, q4⟩
theorem can_kil {W : Nat} {H : Nat → SC} {n y v K : Nat} (hD : DmH H v n) (hdv : H (n - 1) 1 v = 0) (hn0 : 0 < n) (hK1 : K ≠ v) (hK2 : H (ddN H v n) 1 K ≠ 0) (hK3 : H (ddN H v n) 0 K = H (n - 1) 0 v) : CanF W H (n - 1) y v K := by
  obtain ⟨h1, h2⟩ := spf_spt (W := W) (y := y) hD hdv hn0
  refine ⟨hK1, fun ha => ?_⟩
  have hn1 : n - 1 + 1 = n := by omega
  obtain ⟨q, -, -, -, q4⟩ := ha (ddN H v n) (Nat.lt_succ_of_le h2) (by rw [hn1]; exact h1)
  rcases q4 with q4 | ⟨-, q5⟩
  · exact hK2 (see_d2 q4)
  · exact q5 hK3
/-- if it is known by a set, it is known by all -/
theorem kno_mo {W : Nat} {H : Nat → SC} {n y y' v : Nat} (hW : W ≤ 8) (hD : DmH H v n) (hdv : H (n - 1) 1 v = 0) (hn0 : 0 < n) (hK : KilH W H v n) (h : ∀ k, y.testBit k = true → y'.testBit k = true) (hk : bcS (cldF W H (n - 1) y v W) = 1) : bcS (cldF W H (n - 1) y' v W) = 1 := by
  obtain ⟨K, k1, k2, k3, k4⟩ := hK
  have h1 : ∀ k, (cldF W H (n - 1) y' v W).testBit k = true → (cldF W H (n - 1) y v W).testBit k = true := fun k g => by
    rw [cldF_tb] at g ⊢
    exact ⟨g.1, can_mo h g.2⟩
  have h2 := bitS_mo h1 8
  have h3 : (cldF W H (n - 1) y' v W).testBit K = true := cldF_tb.mpr ⟨k1, can_kil hD hdv hn0 k2 k3 k4⟩
  have h4 := bitS_ps h3 8 (by omega)
  show bitS _ 8 = 1
  have hk : bitS (cldF W H (n - 1) y v W) 8 = 1 := hk
  omega
theorem hrd_sub {W : Nat} {H : Nat → SC} {N x : Nat} (hx : x < 2 ^ W) : hrdF H N x W = x ↔ ∀ k, x.testBit k = true → (alvB W (H N)).testBit k = true := by
  constructor
  · intro h k hk
    rw [← h, hrdF_tb] at hk
    exact alvB_tb.mpr ⟨hk.1, hk.2.2⟩
  · intro h
    apply nat_bits
    intro k
    rw [hrdF_tb]
    refine ⟨fun g => g.2.1, fun g => ?_⟩
    have := alvB_tb.mp (h k g)
    exact ⟨this.1, g, this.2⟩
theorem alv_self {W : Nat} {H : Nat → SC} {N : Nat} : hrdF H N (alvB W (H N)) W = alvB W (H N) := nat_bits (fun k => by
  rw [hrdF_tb, alvB_tb]
  exact ⟨fun h => ⟨h.1, h.2.2⟩, fun h => ⟨h.1, h, h.2⟩⟩)
theorem alv_2W {W : Nat} {c : SC} : alvB W c < 2 ^ W := bts_lt _ W
theorem andn_0 {x y : Nat} : x &&& (x ^^^ y) = 0 ↔ ∀ k, x.testBit k = true → y.testBit k = true := by
  constructor
  · intro h k hk
    have : (x &&& (x ^^^ y)).testBit k = false := by rw [h, Nat.zero_testBit]
    rw [Nat.testBit_and, Nat.testBit_xor, hk] at this
    cases hy : y.testBit k with
    | true => rfl
    | false => rw [hy] at this; cases this
  · intro h
    apply nat_bits
    intro k
    rw [Nat.testBit_and, Nat.testBit_xor, Bool.and_eq_true, Nat.zero_testBit]
    refine ⟨fun g => ?_, fun g => absurd g (by decide)⟩
    have g1 := g.1
    have g2 := g.2
    rw [g1, h k g1] at g2
    exact absurd g2 (by decide)
theorem sub_le {A B : Nat} (h : ∀ k, A.testBit k = true → B.testBit k = true) : A ≤ B := by
  have e : A = A &&& B := nat_bits (fun k => by
    rw [Nat.testBit_and, Bool.and_eq_true]
    exact ⟨fun g => ⟨g, h k g⟩, fun g => g.1⟩)
  rw [e]
  exact Nat.and_le_right
theorem sub_lt {A B : Nat} (h : ∀ k, A.testBit k = true → B.testBit k = true) (hne : A ≠ B) (hB : B < 256) : bcS A < bcS B := by
  have : ∃ j, ¬ A.testBit j = true ∧ B.testBit j = true := by
    apply Classical.byContradiction
    intro hn
    apply hne
    apply nat_bits
    intro k
    refine ⟨h k, fun g => ?_⟩
    apply Classical.byContradiction
    intro g2
    exact hn ⟨k, g2, g⟩
  obtain ⟨j, j1, j2⟩ := this
  refine bitS_ml h j1 j2 8 ?_
  apply Classical.byContradiction
  intro hj
  have : B < 2 ^ j := Nat.lt_of_lt_of_le (show B < 2 ^ 8 from hB) (Nat.pow_le_pow_right (by omega) (by omega))
  rw [Nat.testBit_lt_two_pow this] at j2
  cases j2
/-- what is not known by all is known by none -/
theorem ls_none {W : Nat} {H : Nat → SC} {n v : Nat} (hW : W ≤ 8) (hD : DmH H v n) (hdv : H (n - 1) 1 v = 0) (hn0 : 0 < n) (hK : KilH W H v n) (hno : ¬ bcS (cldF W H (n - 1) (hrdF H (n - 1) (alvB W (H (n - 1))) W) v W) = 1) : ∀ k, k ≤ 2 ^ W → lsF W H (n - 1) v k = -1
  | 0, _ => rfl
  | k + 1, hk => by
    rw [lsF_s, if_neg]
    · exact ls_none hW hD hdv hn0 hK hno k (by omega)
    · rintro ⟨h1, -, h3⟩
      apply hno
      rw [alv_self]
      exact kno_mo hW hD hdv hn0 hK ((hrd_sub (by omega)).mp h1) h3
theorem c_few_l {X : List Int} {d : Nat} {st dr rd : Int} {a s b : C3} {W n v : Nat} {H : Nat → SC} (hn : n ≤ 180) (hn0 : 0 < n) (hW : W ≤ 8) (hD : DmH H v n) (hdv : H (n - 1) 1 v = 0) {a0 : C3} (hkn : bcS (cldF W H (n - 1) (hrdF H (n - 1) (alvB W (H (n - 1))) W) v W) = 1) (k best : Nat) (z : pm_V) (hk : k ≤ 2 ^ W) (hb : best < 256) (ho : ∀ o, o ≠ 138 → a o = a0 o) (hL : LkC W H n v a) (hI : (lsF W H (n - 1) v k = -1 ∧ best = alvB W (H (n - 1)) ∧ k ≤ alvB W (H (n - 1))) ∨ lsF W H (n - 1) v k = (best : Int)) : Ev X (d + 3) 138 20 [Vr 138, Vi (best : Int), Vi (k : Int), z] [] (SHv st dr rd, ovl a s b) (fun rr hh => rr = some (Vi (lstF W H (n - 1) v)) ∧ ∃ a' : C3, hh = (SHv st dr rd, ovl a' s b) ∧ (∀ o, o ≠ 138 → a' o = a0 o) ∧ LkC W H n v a') := by
  induction hkk : (2 ^ W - k) using Nat.strongRecOn generalizing k best z a with
  | ind kk ih =>
    obtain ⟨l2, l3, l4, l5, l6, lR⟩ := id hL
    have hal := alv_2W (W := W) (c := H (n - 1))
    have hp8 := pw8 hW
    have hls := fun (_ : Unit) => lsF_s (W := W) (H := H) (N := n - 1) (v := v) (x := k)
    have hsu := fun (h : k < 2 ^ W) => (andn_0 (x := k) (y := alvB W (H (n - 1)))).trans (hrd_sub (H := H) (N := n - 1) h).symm
    have hle : k &&& (k ^^^ alvB W (H (n - 1))) = 0 → k ≤ alvB W (H (n - 1)) := fun h => sub_le (andn_0.mp h)
    have hlt : Unit → k &&& (k ^^^ alvB W (H (n - 1))) = 0 → k ≠ alvB W (H (n - 1)) → bcS k < bcS (alvB W (H (n - 1))) := fun _ h g => sub_lt (andn_0.mp h) g (by omega)
    have hself : k = alvB W (H (n - 1)) → k &&& (k ^^^ alvB W (H (n - 1))) = 0 := fun h => by rw [h]; exact andn_0.mpr (fun _ g => g)
    clear hself
    refine Ev.steps (k := 4) (pc' := 26) (L' := [Vr 138, Vi (best : Int), Vi (k : Int), z]) (S' := [Vi (a 138 3), Vi 1, Vi (k : Int)]) (h' := ((SHv st dr rd), (ovl a s b))) (fun _ => rfl) ?_
    rw [l3]
    refine Ev.steps (k := 1) (pc' := 27) (L' := [Vr 138, Vi (best : Int), Vi (k : Int), z]) (S' := [Vi (i_shl 1 (W : Int)), Vi (k : Int)]) (h' := ((SHv st dr rd), (ovl a s b))) (fun _ => rfl) ?_
    rw [show (i_shl 1 (W : Int)) = ((2 ^ W : Nat) : Int) from (i_shl1 (by omega))]
    refine Ev.ite (P := ((2 ^ W : Nat) : Int) ≤ (k : Int)) (k := 1) (a := 78) (b := 30) (L' := [Vr 138, Vi (best : Int), Vi (k : Int), z]) (S' := []) (h' := ((SHv st dr rd), (ovl a s b))) (fun _ => rfl) (fun b27 => ?_) (fun b27 => ?_)
    · refine Ev.fin (k := 2) (r := (some (Vi (best : Int)))) (h' := ((SHv st dr rd), (ovl a s b))) (fun _ => rfl) ?_
      refine ⟨?_, a, rfl, ho, hL⟩
      have e : k = 2 ^ W := by omega
      rcases hI with ⟨i1, i2, i3⟩ | i1
      · omega
      · rw [← i1, e]
        rfl
    · refine Ev.steps (k := 3) (pc' := 35) (L' := [Vr 138, Vi (best : Int), Vi (k : Int), z]) (S' := [Vi (a 138 6), Vi (k : Int)]) (h' := ((SHv st dr rd), (ovl a s b))) (fun _ => rfl) ?_
      rw [l6]
      refine Ev.steps (k := 3) (pc' := 38) (L' := [Vr 138, Vi (best : Int), Vi (k : Int), z]) (S' := [Vi (i_and (k : Int) (i_xor ((alvB W (H (n - 1)) : Nat) : Int) (-1)))]) (h' := ((SHv st dr rd), (ovl a s b))) (fun _ => rfl) ?_
      rw [show (i_and (k : Int) (i_xor ((alvB W (H (n - 1)) : Nat) : Int) (-1))) = ((k &&& (k ^^^ alvB W (H (n - 1))) : Nat) : Int) from (i_andn_nat (by omega) (by omega))]
      refine Ev.ite (P := ((k &&& (k ^^^ alvB W (H (n - 1))) : Nat) : Int) ≠ 0) (k := 1) (a := 45) (b := 41) (L' := [Vr 138, Vi (best : Int), Vi (k : Int), z]) (S' := []) (h' := ((SHv st dr rd), (ovl a s b))) (fun _ => rfl) (fun b38 => ?_) (fun b38 => ?_)
      · refine Ev.steps (k := 5) (pc' := 75) (L' := [Vr 138, Vi (best : Int), Vi (w32 ((k : Int) + 1)), Vi 0]) (S' := []) (h' := ((SHv st dr rd), (ovl a s b))) (fun _ => rfl) ?_
        rw [show (w32 ((k : Int) + 1)) = ((k : Int) + 1) from w32_id (by unfold R32; omega)]
        refine Ev.steps (k := 1) (pc' := 20) (L' := [Vr 138, Vi (best : Int), Vi ((k : Int) + 1), Vi 0]) (S' := []) (h' := ((SHv st dr rd), (ovl a s b))) (fun _ => rfl) ?_
        have hk2 : k < 2 ^ W := by omega
        have hls := hls ()
        have hsu := hsu hk2
        refine ih _ (by omega) (a := a) (k + 1) best _ (by omega) hb ho hL ?_ rfl
        have hlt := hlt ()
        clear ih
        by_cases hc : hrdF H (n - 1) k W = k ∧ (lsF W H (n - 1) v k = -1 ∨ bcS k < bcS (lsF W H (n - 1) v k).toNat) ∧ bcS (cldF W H (n - 1) k v W) = 1
        · have hls := hls.trans (if_pos hc)
          obtain ⟨h1, h2, h3⟩ := hc
          have hsb := hsu.mpr h1
          rcases hI with ⟨i1, i2, i3⟩ | i1
          · by_cases hkL : k = alvB W (H (n - 1))
            · exact Or.inr (by rw [hls, i2, hkL])
            · exfalso
              have hbc := hlt hsb hkL
              rw [← i2] at hbc
              first
                | (rw [h1] at c64; exact c64 h3)
                | omega
          · exfalso
            rw [i1, Int.toNat_natCast] at h2
            have hbc : bcS k < bcS best := by omega
            first
              | (rw [h1] at c64; exact c64 h3)
              | omega
        · have hls := hls.trans (if_neg hc)
          rw [hls]
          rcases hI with ⟨i1, i2, i3⟩ | i1
          · refine Or.inl ⟨i1, i2, ?_⟩
            by_cases hkL : k = alvB W (H (n - 1))
            · exfalso
              apply hc
              have e := alv_self (W := W) (H := H) (N := n - 1)
              rw [← hkL] at e
              refine ⟨e, Or.inl i1, ?_⟩
              rw [← hkL, e] at hkn
              exact hkn
            · omega
          · exact Or.inr i1
      · refine Ev.call (k := 6) (pc1 := 52) (L1 := [Vr 138, Vi (best : Int), Vi (k : Int), Vi 1]) (S1 := [Vi (k : Int)]) (h1 := ((SHv st dr rd), (ovl a s b))) (m' := 140) (as := [Vi (k : Int)]) (S' := []) (L0 := [Vi (k : Int)]) (fun _ => rfl) rfl rfl rfl rfl rfl rfl (c_bitCount k (by omega)) (fun r h' hq => ?_)
        obtain ⟨rfl, rfl⟩ := hq
        show Ev X _ _ 55 [Vr 138, Vi (best : Int), Vi (k : Int), Vi 1] [Vi ((bcS k : Nat) : Int)] ((SHv st dr rd), (ovl a s b)) _
        refine Ev.call (k := 1) (pc1 := 56) (L1 := [Vr 138, Vi (best : Int), Vi (k : Int), Vi 1]) (S1 := [Vi (best : Int), Vi ((bcS k : Nat) : Int)]) (h1 := ((SHv st dr rd), (ovl a s b))) (m' := 140) (as := [Vi (best : Int)]) (S' := [Vi ((bcS k : Nat) : Int)]) (L0 := [Vi (best : Int)]) (fun _ => rfl) rfl rfl rfl rfl rfl rfl (c_bitCount best hb) (fun r h' hq => ?_)
        obtain ⟨rfl, rfl⟩ := hq
        show Ev X _ _ 59 [Vr 138, Vi (best : Int), Vi (k : Int), Vi 1] [Vi ((bcS best : Nat) : Int), Vi ((bcS k : Nat) : Int)] ((SHv st dr rd), (ovl a s b)) _
        refine Ev.ite (P := ((bcS best : Nat) : Int) ≤ ((bcS k : Nat) : Int)) (k := 1) (a := 72) (b := 62) (L' := [Vr 138, Vi (best : Int), Vi (k : Int), Vi 1]) (S' := []) (h' := ((SHv st dr rd), (ovl a s b))) (fun _ => rfl) (fun b59 => ?_) (fun b59 => ?_)
        · refine Ev.steps (k := 1) (pc' := 75) (L' := [Vr 138, Vi (best : Int), Vi (w32 ((k : Int) + 1)), Vi 1]) (S' := []) (h' := ((SHv st dr rd), (ovl a s b))) (fun _ => rfl) ?_
          rw [show (w32 ((k : Int) + 1)) = ((k : Int) + 1) from w32_id (by unfold R32; omega)]
          refine Ev.steps (k := 1) (pc' := 20) (L' := [Vr 138, Vi (best : Int), Vi ((k : Int) + 1), Vi 1]) (S' := []) (h' := ((SHv st dr rd), (ovl a s b))) (fun _ => rfl) ?_
          have hk2 : k < 2 ^ W := by omega
          have hls := hls ()
          have hsu := hsu hk2
          refine ih _ (by omega) (a := a) (k + 1) best _ (by omega) hb ho hL ?_ rfl
          have hlt := hlt ()
          clear ih
          by_cases hc : hrdF H (n - 1) k W = k ∧ (lsF W H (n - 1) v k = -1 ∨ bcS k < bcS (lsF W H (n - 1) v k).toNat) ∧ bcS (cldF W H (n - 1) k v W) = 1
          · have hls := hls.trans (if_pos hc)
            obtain ⟨h1, h2, h3⟩ := hc
            have hsb := hsu.mpr h1
            rcases hI with ⟨i1, i2, i3⟩ | i1
            · by_cases hkL : k = alvB W (H (n - 1))
              · exact Or.inr (by rw [hls, i2, hkL])
              · exfalso
                have hbc := hlt hsb hkL
                rw [← i2] at hbc
                first
                  | (rw [h1] at c64; exact c64 h3)
                  | omega
            · exfalso
              rw [i1, Int.toNat_natCast] at h2
              have hbc : bcS k < bcS best := by omega
              first
                | (rw [h1] at c64; exact c64 h3)
                | omega
          · have hls := hls.trans (if_neg hc)
            rw [hls]
            rcases hI with ⟨i1, i2, i3⟩ | i1
            · refine Or.inl ⟨i1, i2, ?_⟩
              by_cases hkL : k = alvB W (H (n - 1))
              · exfalso
                apply hc
                have e := alv_self (W := W) (H := H) (N := n - 1)
                rw [← hkL] at e
                refine ⟨e, Or.inl i1, ?_⟩
                rw [← hkL, e] at hkn
                exact hkn
              · omega
            · exact Or.inr i1
        · refine Ev.call (k := 2) (pc1 := 64) (L1 := [Vr 138, Vi (best : Int), Vi (k : Int), Vi 1]) (S1 := [Vi (k : Int), Vr 138]) (h1 := ((SHv st dr rd), (ovl a s b))) (m' := 139) (as := [Vr 138, Vi (k : Int)]) (S' := []) (L0 := [Vr 138, Vi (k : Int)]) (fun _ => rfl) rfl rfl rfl rfl rfl rfl (c_known hn hn0 hW hD hdv k (by omega) hL) (fun r h' hq => ?_)
          obtain ⟨rfl, a2, rfl, g1, g2⟩ := hq
          by_cases c64 : bcS (cldF W H (n - 1) (hrdF H (n - 1) k W) v W) = 1
          · rw [if_pos c64]
            show Ev X _ _ 67 [Vr 138, Vi (best : Int), Vi (k : Int), Vi 1] [Vi 1] ((SHv st dr rd), (ovl a2 s b)) _
            refine Ev.steps (k := 4) (pc' := 75) (L' := [Vr 138, Vi (k : Int), Vi (w32 ((k : Int) + 1)), Vi 1]) (S' := []) (h' := ((SHv st dr rd), (ovl a2 s b))) (fun _ => rfl) ?_
            rw [show (w32 ((k : Int) + 1)) = ((k : Int) + 1) from w32_id (by unfold R32; omega)]
            refine Ev.steps (k := 1) (pc' := 20) (L' := [Vr 138, Vi (k : Int), Vi ((k : Int) + 1), Vi 1]) (S' := []) (h' := ((SHv st dr rd), (ovl a2 s b))) (fun _ => rfl) ?_
            have hk2 : k < 2 ^ W := by omega
            have hls := hls ()
            have hsu := hsu hk2
            refine ih _ (by omega) (a := a2) (k + 1) k _ (by omega) (by omega) (fun o h => (g1 o h).trans (ho o h)) g2 (Or.inr ?_) rfl
            have hsb : k &&& (k ^^^ alvB W (H (n - 1))) = 0 := by omega
            have hh := hsu.mp hsb
            have hbk : bcS k < bcS best := by omega
            rw [hh] at c64
            have hor : lsF W H (n - 1) v k = -1 ∨ bcS k < bcS (lsF W H (n - 1) v k).toNat := by
              rcases hI with ⟨i1, i2, i3⟩ | i1
              · exact Or.inl i1
              · rw [i1, Int.toNat_natCast]
                exact Or.inr hbk
            exact hls.trans (if_pos ⟨hh, hor, c64⟩)
          · rw [if_neg c64]
            show Ev X _ _ 67 [Vr 138, Vi (best : Int), Vi (k : Int), Vi 1] [Vi 0] ((SHv st dr rd), (ovl a2 s b)) _
            refine Ev.steps (k := 2) (pc' := 75) (L' := [Vr 138, Vi (best : Int), Vi (w32 ((k : Int) + 1)), Vi 1]) (S' := []) (h' := ((SHv st dr rd), (ovl a2 s b))) (fun _ => rfl) ?_
            rw [show (w32 ((k : Int) + 1)) = ((k : Int) + 1) from w32_id (by unfold R32; omega)]
            refine Ev.steps (k := 1) (pc' := 20) (L' := [Vr 138, Vi (best : Int), Vi ((k : Int) + 1), Vi 1]) (S' := []) (h' := ((SHv st dr rd), (ovl a2 s b))) (fun _ => rfl) ?_
            have hk2 : k < 2 ^ W := by omega
            have hls := hls ()
            have hsu := hsu hk2
            refine ih _ (by omega) (a := a2) (k + 1) best _ (by omega) hb (fun o h => (g1 o h).trans (ho o h)) g2 ?_ rfl
            have hlt := hlt ()
            clear ih
            by_cases hc : hrdF H (n - 1) k W = k ∧ (lsF W H (n - 1) v k = -1 ∨ bcS k < bcS (lsF W H (n - 1) v k).toNat) ∧ bcS (cldF W H (n - 1) k v W) = 1
            · have hls := hls.trans (if_pos hc)
              obtain ⟨h1, h2, h3⟩ := hc
              have hsb := hsu.mpr h1
              rcases hI with ⟨i1, i2, i3⟩ | i1
              · by_cases hkL : k = alvB W (H (n - 1))
                · exact Or.inr (by rw [hls, i2, hkL])
                · exfalso
                  have hbc := hlt hsb hkL
                  rw [← i2] at hbc
                  first
                    | (rw [h1] at c64; exact c64 h3)
                    | omega
              · exfalso
                rw [i1, Int.toNat_natCast] at h2
                have hbc : bcS k < bcS best := by omega
                first
                  | (rw [h1] at c64; exact c64 h3)
                  | omega
            · have hls := hls.trans (if_neg hc)
              rw [hls]
              rcases hI with ⟨i1, i2, i3⟩ | i1
              · refine Or.inl ⟨i1, i2, ?_⟩
                by_cases hkL : k = alvB W (H (n - 1))
                · exfalso
                  apply hc
                  have e := alv_self (W := W) (H := H) (N := n - 1)
                  rw [← hkL] at e
                  refine ⟨e, Or.inl i1, ?_⟩
                  rw [← hkL, e] at hkn
                  exact hkn
                · omega
              · exact Or.inr i1
theorem c_fewest {X : List Int} {d : Nat} {st dr rd : Int} {a s b : C3} {W n v : Nat} {H : Nat → SC} (hn : n ≤ 180) (hn0 : 0 < n) (hW : W ≤ 8) (hD : DmH H v n) (hdv : H (n - 1) 1 v = 0) (hK : KilH W H v n) (hL : LkC W H n v a) : Ev X (d + 3) 138 0 [Vr 138, Vx, Vx, Vx] [] (SHv st dr rd, ovl a s b) (fun rr hh => rr = some (Vi (lstF W H (n - 1) v)) ∧ ∃ a' : C3, hh = (SHv st dr rd, ovl a' s b) ∧ (∀ o, o ≠ 138 → a' o = a o) ∧ LkC W H n v a') := by
  obtain ⟨l2, l3, l4, l5, l6, lR⟩ := id hL
  have hal := alv_2W (W := W) (c := H (n - 1))
  have hp8 := pw8 hW
  refine Ev.steps (k := 3) (pc' := 5) (L' := [Vr 138, Vx, Vx, Vx]) (S' := [Vi (a 138 6), Vr 138]) (h' := ((SHv st dr rd), (ovl a s b))) (fun _ => rfl) ?_
  rw [l6]
  refine Ev.call (k := 0) (pc1 := 5) (L1 := [Vr 138, Vx, Vx, Vx]) (S1 := [Vi ((alvB W (H (n - 1)) : Nat) : Int), Vr 138]) (h1 := ((SHv st dr rd), (ovl a s b))) (m' := 139) (as := [Vr 138, Vi ((alvB W (H (n - 1)) : Nat) : Int)]) (S' := []) (L0 := [Vr 138, Vi ((alvB W (H (n - 1)) : Nat) : Int)]) (fun _ => rfl) rfl rfl rfl rfl rfl rfl (c_known hn hn0 hW hD hdv (alvB W (H (n - 1))) (by omega) hL) (fun r h' hq => ?_)
  obtain ⟨rfl, a2, rfl, g1, g2⟩ := hq
  by_cases c5 : bcS (cldF W H (n - 1) (hrdF H (n - 1) (alvB W (H (n - 1))) W) v W) = 1
  · rw [if_pos c5]
    show Ev X _ _ 8 [Vr 138, Vx, Vx, Vx] [Vi 1] ((SHv st dr rd), (ovl a2 s b)) _
    refine Ev.steps (k := 3) (pc' := 17) (L' := [Vr 138, Vx, Vx, Vx]) (S' := [Vi (a2 138 6)]) (h' := ((SHv st dr rd), (ovl a2 s b))) (fun _ => rfl) ?_
    rw [g2.2.2.2.2.1]
    refine Ev.steps (k := 3) (pc' := 20) (L' := [Vr 138, Vi ((alvB W (H (n - 1)) : Nat) : Int), Vi 0, Vx]) (S' := []) (h' := ((SHv st dr rd), (ovl a2 s b))) (fun _ => rfl) ?_
    exact c_few_l hn hn0 hW hD hdv (a0 := a) c5 0 _ _ (by omega) (by omega) g1 g2 (Or.inl ⟨rfl, rfl, by omega⟩)
  · rw [if_neg c5]
    show Ev X _ _ 8 [Vr 138, Vx, Vx, Vx] [Vi 0] ((SHv st dr rd), (ovl a2 s b)) _
    refine Ev.fin (k := 3) (r := (some (Vi (-1)))) (h' := ((SHv st dr rd), (ovl a2 s b))) (fun _ => rfl) ?_
    exact ⟨by rw [show lstF W H (n - 1) v = -1 from ls_none hW hD hdv hn0 hK c5 (2 ^ W) (Nat.le_refl _)], a2, rfl, g1, g2⟩
