/-! THE CLASS READS: statements -/
def Gq (z q1 q2 c : Nat) (a a' : SC) : Prop := (z < q1 ∧ q1 ≤ z + 55 ∧ q1 ≠ z + 1) ∧ (z < q2 ∧ q2 ≤ z + 55 ∧ q2 ≠ z + 1) ∧ (∀ o, o ≠ 114 → o ≠ z → o ≠ z + 11 → o ≠ q1 → o ≠ q2 → a' o = a o) ∧ ∀ i, i < c → a' (z + 11) i = a (z + 11) i
theorem Gq.tr {z q1 q2 c c1 : Nat} {a a1 a2 : SC} (h : Gq z q1 q2 c a a1) (h' : Gz z c1 a1 a2) (hc : c ≤ c1) : Gq z q1 q2 c a a2 := ⟨h.1, h.2.1, fun o h1 h2 h3 h4 h5 => (h'.1 o h1 h2 h3).trans (h.2.2.1 o h1 h2 h3 h4 h5), fun i hi => (h'.2 i (by omega)).trans (h.2.2.2 i hi)⟩
theorem Gq.fs {z q1 q2 c : Nat} {a a1 : SC} (h : Gq z q1 q2 c a a1) : FsZ z a a1 := fun o h1 h2 => by
  have h3 := h.1
  have h4 := h.2.1
  exact h.2.2.1 o h1 (by omega) (by omega) (by omega) (by omega)
theorem Gq.bd {W : TXT} {N : SC} {z q1 q2 p c c1 K : Nat} {a0 a a1 : SC} {e : PF} (h : Gq z q1 q2 c1 a0 a) (hX : XoC W N z p c K a) (hc : c ≤ 1200) (hb : BdT W a e a1) : BdS W z a0 e a1 := by
  have h2 := (Gz.rf (z := z) (c := 0) (a := a)).bd hX hc hb
  exact ⟨h.fs.tr h2.1.s, h2.2⟩
theorem Gq.bz {W : TXT} {z q1 q2 c1 : Nat} {a0 a a1 : SC} {e : PF} (h : Gq z q1 q2 c1 a0 a) (hb : BdZ W z a e a1) : BdS W z a0 e a1 := ⟨h.fs.tr hb.1.s, hb.2⟩
theorem Gq.up {z q1 q2 c : Nat} {a a1 : SC} {o i : Nat} {v : Int} (h : Gq z q1 q2 c a a1) (ho : (o = q1 ∨ o = q2) ∧ o ≠ z + 11) : Gq z q1 q2 c a (updC a1 o i v) := ⟨h.1, h.2.1, fun o' h1 h2 h3 h4 h5 => by rw [updC_row (by omega)]; exact h.2.2.1 o' h1 h2 h3 h4 h5, fun j hj => by rw [updC_row (by omega)]; exact h.2.2.2 j hj⟩
theorem NmC.nm {N a : SC} {z i : Nat} {v : Int} (h : NmC N a z) (hi : ∀ j k, j < 3 → k < cntN N j → 8 * ixN j + k ≠ i) : NmC N (updC a (z + 2) i v) z := by
  intro j hj
  obtain ⟨g1, g2, g3⟩ := h j hj
  refine ⟨g1, by rw [updC_row (by omega)]; exact g2, fun k hk => ?_⟩
  have := hi j k hj hk
  rw [updC_nt (by omega)]
  exact g3 k hk
theorem XoC.nm {W : TXT} {N : SC} {z p c K i : Nat} {a : SC} {v : Int} (h : XoC W N z p c K a) (hi : ∀ j k, j < 3 → k < cntN N j → 8 * ixN j + k ≠ i) : XoC W N z p c K (updC a (z + 2) i v) := by
  have hz : z = 2 ∨ z = 58 := h.hz
  exact ⟨h.1.fo (updC_row (by omega)) (updC_row (by omega)) (updC_row (by omega)), h.2.1.nm hi, by rw [updC_row (by omega)]; exact h.2.2.1, by rw [updC_row (by omega)]; exact h.2.2.2.1, h.2.2.2.2⟩
/-- a statement's body was read: q its sort, n so many there were -/
def BoC (W : TXT) (S : STY) (z q n : Nat) (a : SC) (x : Except PF (STY × Nat)) (a' : SC) : Prop := ResC x (fun r => ∃ c' : Nat, XoC W S.1 z r.2 c' 8 a' ∧ c' ≤ r.2 ∧ FsZ z a a' ∧ ∀ a2 : SC, (∀ o, z < o → o ≤ z + 55 → o ≠ z + 1 → a2 o = a' o) → (∀ i, a2 (z + 1) i = if i = q then (n : Int) + 1 else a' (z + 1) i) → PaC r.1 a2 z c') (fun e => BdS W z a e a')
abbrev PoB (st dr : Int) (s b : C3) (W : TXT) (S : STY) (z q n : Nat) (a : SC) (x : Except PF (STY × Nat)) : Option pm_V → pm_H → Prop := fun rr hh => rr = none ∧ ∃ a' : C3, hh = (SHv st dr (z : Int), ovl a' s b) ∧ BoC W S z q n a x a'
theorem XoC.tv {W : TXT} {N : SC} {z p c K : Nat} {a : SC} (h : XoC W N z p c K a) (hc : tC W p = 300) : a 114 7 = ((cvF (tV W p) 6 : Nat) : Int) ∧ vdN 6 (tV W p) := ⟨h.1.2.2.2.2.2.2.1 hc, ((tok_pr h.le.1 h.1.1.1).2.2.2.2.2.1 hc).1⟩
theorem c_given {X : List Int} {st dr : Int} {s b : C3} {W : TXT} {S : STY} {z : Nat} (hz : hyS z) {kd q n K : Nat} (hkd : kd < 3) (hq : q = ixN kd) (d : Nat) (a0 : C3) (p0 c0 : Nat) (hd : 4 ≤ d) (X0 : XoC W S.1 z p0 c0 K a0) (hc0 : c0 ≤ p0) (hn : cntN S.1 kd = n) (h8 : n < 8) : Ev X d 33 0 [Vr 114, Vi (q : Int)] [] (SHv st dr (z : Int), ovl a0 s b) (fun rr hh => rr = none ∧ ∃ a' : C3, hh = (SHv st dr (z : Int), ovl a' s b) ∧ ResC (givT W S.1 p0) (fun r => XoC W S.1 z r.2 c0 K a' ∧ vdN 6 r.1 ∧ Gq z (z + 2) (z + 2) c0 a0 a' ∧ (∀ i, a' (z + 2) i = if i = 8 * q + n then ((cvF r.1 6 : Nat) : Int) else a0 (z + 2) i) ∧ a' (z + 11) = a0 (z + 11)) (fun e => BdS W z a0 e a')) := by
  have hz1 := z11 hz
  have hz0 : z = 2 ∨ z = 58 := hz
  obtain ⟨d, rfl⟩ : ∃ d1, d = d1 + 4 := ⟨d - 4, by omega⟩
  have Q0 := X0.le
  have hcn : a0 (z + 1) q = (n : Int) := by rw [hq, (X0.2.1 kd hkd).2.1, hn]
  have hq6 : q < 6 := by rw [hq]; unfold ixN; split <;> omega
  have hni : ∀ j k, j < 3 → k < cntN S.1 j → 8 * ixN j + k ≠ q * 8 + n := by
    intro j k hj hk
    have := (X0.2.1 j hj).1
    by_cases h : j = kd
    · subst h
      rw [hq]; omega
    · rw [hq]
      unfold ixN
      split <;> split <;> omega
  have G0 : Gq z (z + 2) (z + 2) c0 a0 a0 := ⟨by omega, by omega, fun _ _ _ _ _ _ => rfl, fun _ _ => rfl⟩
  refine Ev.steps (k := 2) (pc' := 4) (L' := [Vr 114, Vi (q : Int)]) (S' := [Vi (a0 114 5)]) (h' := ((SHv st dr (z : Int)), (ovl a0 s b))) (fun _ => rfl) ?_
  rw [X0.t5]
  refine Ev.ite (P := ((tC W p0 : Nat) : Int) = 300) (k := 2) (a := 22) (b := 10) (L' := [Vr 114, Vi (q : Int)]) (S' := []) (h' := ((SHv st dr (z : Int)), (ovl a0 s b))) (fun _ => rfl) (fun b7 => ?_) (fun b7 => ?_)
  · refine Ev.steps (k := 4) (pc' := 30) (L' := [Vr 114, Vi (q : Int)]) (S' := [Vi (a0 114 7), Vr (z : Int)]) (h' := ((SHv st dr (z : Int)), (ovl a0 s b))) (fun _ => rfl) ?_
    rw [(X0.tv (by omega)).1]
    refine Ev.call (k := 0) (pc1 := 30) (L1 := [Vr 114, Vi (q : Int)]) (S1 := [Vi ((cvF (tV W p0) 6 : Nat) : Int), Vr (z : Int)]) (h1 := ((SHv st dr (z : Int)), (ovl a0 s b))) (m' := 34) (as := [Vr (z : Int), Vi ((cvF (tV W p0) 6 : Nat) : Int)]) (S' := []) (L0 := [Vr (z : Int), Vi ((cvF (tV W p0) 6 : Nat) : Int)]) (fun _ => rfl) rfl rfl rfl rfl (stpC_of rfl (pm_recv_of (by omega) (shY_0 hz))) rfl (c_hasName hz (w := tV W p0) (X0.tv (by omega)).2 X0.2.1) (fun r h' hq => ?_)
    obtain ⟨rfl, rfl⟩ := hq
    by_cases c30 : hasN S.1 (tV W p0)
    · rw [if_pos c30]
      show Ev X _ _ 33 [Vr 114, Vi (q : Int)] [Vi 1] ((SHv st dr (z : Int)), (ovl a0 s b)) _
      refine Ev.steps (k := 5) (pc' := 42) (L' := [Vr 114, Vi (q : Int)]) (S' := [Vi (a0 114 6), Vi 2, Vr 114]) (h' := ((SHv st dr (z : Int)), (ovl a0 s b))) (fun _ => rfl) ?_
      rw [X0.t6]
      refine Ev.call (k := 0) (pc1 := 42) (L1 := [Vr 114, Vi (q : Int)]) (S1 := [Vi ((tA W p0 : Nat) : Int), Vi 2, Vr 114]) (h1 := ((SHv st dr (z : Int)), (ovl a0 s b))) (m' := 29) (as := [Vr 114, Vi 2, Vi ((tA W p0 : Nat) : Int)]) (S' := []) (L0 := [Vr 114, Vi 2, Vi ((tA W p0 : Nat) : Int)]) (fun _ => rfl) rfl rfl rfl rfl rfl rfl (c_fail_t X0.1 2 ((tA W p0 : Nat) : Int) (by decide)) (fun r h' hq => ?_)
      obtain ⟨rfl, a1, rfl, hq⟩ := hq
      rcases hq with hq
      · have hb1 := hq
        have B1 := G0.bd X0 (by omega) hb1
        show Ev X _ _ 45 [Vr 114, Vi (q : Int)] [] ((SHv st dr (z : Int)), (ovl a1 s b)) _
        refine Ev.fin (k := 2) (r := none) (h' := ((SHv st dr (z : Int)), (ovl a1 s b))) (fun _ => rfl) ?_
        refine ⟨rfl, _, rfl, ?_⟩
        unfold givT
        first
          | (rw [if_pos (by omega)]
             exact Or.inr ⟨_, rfl, B1⟩)
          | (rw [if_neg (by omega), if_pos (by assumption)]
             exact Or.inr ⟨_, rfl, B1⟩)
    · rw [if_neg c30]
      show Ev X _ _ 33 [Vr 114, Vi (q : Int)] [Vi 0] ((SHv st dr (z : Int)), (ovl a0 s b)) _
      refine Ev.steps (k := 6) (pc' := 57) (L' := [Vr 114, Vi (q : Int)]) (S' := [Vi (a0 114 7), Vi (q : Int), Vr (z : Int)]) (h' := ((SHv st dr (z : Int)), (ovl a0 s b))) (fun _ => rfl) ?_
      rw [(X0.tv (by omega)).1]
      refine Ev.call (k := 0) (pc1 := 57) (L1 := [Vr 114, Vi (q : Int)]) (S1 := [Vi ((cvF (tV W p0) 6 : Nat) : Int), Vi (q : Int), Vr (z : Int)]) (h1 := ((SHv st dr (z : Int)), (ovl a0 s b))) (m' := 36) (as := [Vr (z : Int), Vi (q : Int), Vi ((cvF (tV W p0) 6 : Nat) : Int)]) (S' := []) (L0 := [Vr (z : Int), Vi (q : Int), Vi ((cvF (tV W p0) 6 : Nat) : Int)]) (fun _ => rfl) rfl rfl rfl rfl (stpC_of rfl (pm_recv_of (by omega) (shY_0 hz))) rfl (c_giveName hz (q := q) (n := n) hq6 h8 hcn ((cvF (tV W p0) 6 : Nat) : Int)) (fun r h' hq => ?_)
      obtain ⟨rfl, hq⟩ := hq
      obtain ⟨a2, ha2⟩ : ∃ x : C3, x = updC a0 (z + 2) (q * 8 + n) ((cvF (tV W p0) 6 : Nat) : Int) := ⟨_, rfl⟩
      rw [← ha2] at hq
      obtain rfl := hq
      have X2 : XoC W S.1 z p0 c0 K a2 := by rw [ha2]; exact X0.nm hni
      have G2 : Gq z (z + 2) (z + 2) c0 a0 a2 := by rw [ha2]; exact G0.up (by omega)
      show Ev X _ _ 60 [Vr 114, Vi (q : Int)] [] ((SHv st dr (z : Int)), (ovl a2 s b)) _
      refine Ev.call (k := 1) (pc1 := 61) (L1 := [Vr 114, Vi (q : Int)]) (S1 := [Vr 114]) (h1 := ((SHv st dr (z : Int)), (ovl a2 s b))) (m' := 27) (as := [Vr 114]) (S' := []) (L0 := [Vr 114, Vx, Vx, Vx, Vx]) (fun _ => rfl) rfl rfl rfl rfl rfl rfl (c_next X2.1) (fun r h' hq => ?_)
      obtain ⟨rfl, a3, rfl, hq⟩ := hq
      rcases hq with ⟨p3, hx3, ho3⟩ | ⟨e3, hx3, hb3⟩
      · have X3 := X2.nx ho3
        have L3 : p0 < p3 := X2.lt (by omega) hx3
        have G3 := G2.tr (ho3.1.gz (c := c0) X2.hz) (by omega)
        have R3 : a3 (z + 11) = a2 (z + 11) := ho3.1 _ (by omega)
        have Q3 := X3.le
        show Ev X _ _ 64 [Vr 114, Vi (q : Int)] [] ((SHv st dr (z : Int)), (ovl a3 s b)) _
        refine Ev.fin (k := 1) (r := none) (h' := ((SHv st dr (z : Int)), (ovl a3 s b))) (fun _ => rfl) ?_
        refine ⟨rfl, _, rfl, ?_⟩
        unfold givT
        rw [if_neg (by omega), if_neg (by assumption), hx3, bnX_o]
        refine Or.inl ⟨_, rfl, X3, (X0.tv (by omega)).2, G3, fun i => ?_, (ho3.1 _ (by omega)).trans (by rw [ha2, updC_row (by omega)])⟩
        rw [show a3 (z + 2) i = a2 (z + 2) i from congrFun (ho3.1 _ (by omega)) i, ha2, updC_if, show q * 8 + n = 8 * q + n by omega]
      · have B3 := G2.bd X2 (by omega) hb3
        show Ev X _ _ 64 [Vr 114, Vi (q : Int)] [] ((SHv st dr (z : Int)), (ovl a3 s b)) _
        refine Ev.fin (k := 1) (r := none) (h' := ((SHv st dr (z : Int)), (ovl a3 s b))) (fun _ => rfl) ?_
        refine ⟨rfl, _, rfl, ?_⟩
        unfold givT
        rw [if_neg (by omega), if_neg (by assumption), hx3, bnX_e]
        exact Or.inr ⟨_, rfl, B3⟩
  · refine Ev.steps (k := 4) (pc' := 16) (L' := [Vr 114, Vi (q : Int)]) (S' := [Vi (a0 114 6), Vi 1, Vr 114]) (h' := ((SHv st dr (z : Int)), (ovl a0 s b))) (fun _ => rfl) ?_
    rw [X0.t6]
    refine Ev.call (k := 0) (pc1 := 16) (L1 := [Vr 114, Vi (q : Int)]) (S1 := [Vi ((tA W p0 : Nat) : Int), Vi 1, Vr 114]) (h1 := ((SHv st dr (z : Int)), (ovl a0 s b))) (m' := 29) (as := [Vr 114, Vi 1, Vi ((tA W p0 : Nat) : Int)]) (S' := []) (L0 := [Vr 114, Vi 1, Vi ((tA W p0 : Nat) : Int)]) (fun _ => rfl) rfl rfl rfl rfl rfl rfl (c_fail_t X0.1 1 ((tA W p0 : Nat) : Int) (by decide)) (fun r h' hq => ?_)
    obtain ⟨rfl, a4, rfl, hq⟩ := hq
    rcases hq with hq
    · have hb4 := hq
      have B4 := G0.bd X0 (by omega) hb4
      show Ev X _ _ 19 [Vr 114, Vi (q : Int)] [] ((SHv st dr (z : Int)), (ovl a4 s b)) _
      refine Ev.fin (k := 2) (r := none) (h' := ((SHv st dr (z : Int)), (ovl a4 s b))) (fun _ => rfl) ?_
      refine ⟨rfl, _, rfl, ?_⟩
      unfold givT
      first
        | (rw [if_pos (by omega)]
           exact Or.inr ⟨_, rfl, B4⟩)
        | (rw [if_neg (by omega), if_pos (by assumption)]
           exact Or.inr ⟨_, rfl, B4⟩)
theorem Gq.gg {z q2 c : Nat} {a a1 a2 : SC} (h : Gq z (z + 2) q2 c a a1) (h' : Gq z (z + 2) (z + 2) c a1 a2) : Gq z (z + 2) q2 c a a2 := ⟨h.1, h.2.1, fun o h1 h2 h3 h4 h5 => (h'.2.2.1 o h1 h2 h3 h4 h4).trans (h.2.2.1 o h1 h2 h3 h4 h5), fun i hi => (h'.2.2.2 i hi).trans (h.2.2.2 i hi)⟩
theorem Gq.bs {W : TXT} {z q1 q2 c : Nat} {a a1 a2 : SC} {e : PF} (h : Gq z q1 q2 c a a1) (h' : BdS W z a1 e a2) : BdS W z a e a2 := ⟨h.fs.tr h'.1, h'.2⟩
theorem BdS.r1 {W : TXT} {z : Nat} {a a1 : SC} {e : PF} (h : BdS W z a e a1) (hz : hyS z) : a1 (z + 1) = a (z + 1) := h.1 _ (z11 hz).2.1 (by omega)
theorem c_who {X : List Int} {st dr : Int} {s b : C3} {W : TXT} {S : STY} {z : Nat} (hz : hyS z) {n : Nat} (d : Nat) (a0 : C3) (p0 c0 : Nat) (hd : 6 ≤ d) (X0 : XoC W S.1 z p0 c0 8 a0) (P0 : PaC S a0 z c0) (hl : nL S ≤ 30) (hC : nC S ≤ 12) (hc0 : c0 ≤ p0) (ht : tC W p0 ≠ 302) (hn0 : S.1 0 2 = (n : Int)) (h8 : n < 8) : Ev X d 41 0 [Vr 114, Vi 2, Vr ((z : Int) + 7), Vx, Vx] [] (SHv st dr (z : Int), ovl a0 s b) (PoB st dr s b W S z 2 n a0 (whoT W S p0)) := by
  have hz1 := z11 hz
  have hz0 : z = 2 ∨ z = 58 := hz
  obtain ⟨d, rfl⟩ : ∃ d1, d = d1 + 6 := ⟨d - 6, by omega⟩
  have Q0 := X0.le
  have hkd : 1 < 3 := by decide
  have hq : 2 = ixN 1 := rfl
  have hn : cntN S.1 1 = n := by rw [cnt_1, hn0, Int.toNat_natCast]
  have hcn : a0 (z + 1) 2 = (n : Int) := by rw [P0.1 2 (by omega), hn0]
  have G0 : Gq z (z + 2) (z + 7) c0 a0 a0 := ⟨by omega, by omega, fun _ _ _ _ _ _ => rfl, fun _ _ => rfl⟩
  refine Ev.call (k := 1) (pc1 := 1) (L1 := [Vr 114, Vi 2, Vr ((z : Int) + 7), Vx, Vx]) (S1 := [Vr 114]) (h1 := ((SHv st dr (z : Int)), (ovl a0 s b))) (m' := 27) (as := [Vr 114]) (S' := []) (L0 := [Vr 114, Vx, Vx, Vx, Vx]) (fun _ => rfl) rfl rfl rfl rfl rfl rfl (c_next X0.1) (fun r h' hq => ?_)
  obtain ⟨rfl, a5, rfl, hq⟩ := hq
  rcases hq with ⟨p5, hx5, ho5⟩ | ⟨e5, hx5, hb5⟩
  · have X5 := X0.nx ho5
    have L5 : p0 < p5 := X0.lt (by omega) hx5
    have G5 := G0.tr (ho5.1.gz (c := c0) X0.hz) (by omega)
    have R5 : a5 (z + 11) = a0 (z + 11) := ho5.1 _ (by omega)
    have Q5 := X5.le
    show Ev X _ _ 4 [Vr 114, Vi 2, Vr ((z : Int) + 7), Vx, Vx] [] ((SHv st dr (z : Int)), (ovl a5 s b)) _
    refine Ev.call (k := 2) (pc1 := 6) (L1 := [Vr 114, Vi 2, Vr ((z : Int) + 7), Vx, Vx]) (S1 := [Vi 2, Vr 114]) (h1 := ((SHv st dr (z : Int)), (ovl a5 s b))) (m' := 33) (as := [Vr 114, Vi 2]) (S' := []) (L0 := [Vr 114, Vi 2]) (fun _ => rfl) rfl rfl rfl rfl rfl rfl (c_given hz hkd hq _ _ _ _ (by omega) X5 (by omega) hn h8) (fun r h' hq => ?_)
    obtain ⟨rfl, a6, rfl, hq9⟩ := hq
    have hq := hq9
    rcases hq with ⟨⟨w6, p6⟩, hx6, X6, V6, g6, N6, T6⟩ | ⟨e6, hx6, hb6⟩
    · dsimp only at X6 V6 N6
      have L6 : p5 < p6 := by
        obtain ⟨h1, -, -, h4, -⟩ := giv_ok hx6
        rw [show p6 = tE W p5 from h4]
        exact tok_lt X5.le.1 X5.1.1.1 (by omega) (by omega)
      have G6 := G5.gg g6
      have Q6 := X6.le
      show Ev X _ _ 9 [Vr 114, Vi 2, Vr ((z : Int) + 7), Vx, Vx] [] ((SHv st dr (z : Int)), (ovl a6 s b)) _
      refine Ev.call (k := 2) (pc1 := 13) (L1 := [Vr 114, Vi 2, Vr ((z : Int) + 7), Vx, Vx]) (S1 := [Vi 259, Vr 114]) (h1 := ((SHv st dr (z : Int)), (ovl a6 s b))) (m' := 42) (as := [Vr 114, Vi 259]) (S' := []) (L0 := [Vr 114, Vi 259]) (fun _ => rfl) rfl rfl rfl rfl rfl rfl (c_expect X6.1 259) (fun r h' hq => ?_)
      obtain ⟨rfl, a7, rfl, hq⟩ := hq
      rcases hq with ⟨p7, hx7, ho7⟩ | ⟨e7, hx7, hb7⟩
      · have X7 := X6.nx ho7
        have L7 : p6 < p7 := by
          obtain ⟨h1, h2⟩ := exp_ok hx7
          exact X6.lt (by omega) (by unfold expT at hx7; rwa [if_neg (by omega)] at hx7)
        have G7 := G6.tr (ho7.1.gz (c := c0) X6.hz) (by omega)
        have R7 : a7 (z + 11) = a6 (z + 11) := ho7.1 _ (by omega)
        have Q7 := X7.le
        show Ev X _ _ 16 [Vr 114, Vi 2, Vr ((z : Int) + 7), Vx, Vx] [] ((SHv st dr (z : Int)), (ovl a7 s b)) _
        refine Ev.call (k := 3) (pc1 := 19) (L1 := [Vr 114, Vi 2, Vr ((z : Int) + 7), Vx, Vx]) (S1 := [Vi (-1), Vi 0, Vr 114]) (h1 := ((SHv st dr (z : Int)), (ovl a7 s b))) (m' := 38) (as := [Vr 114, Vi 0, Vi (-1)]) (S' := []) (L0 := [Vr 114, Vi 0, Vi (-1), Vx]) (fun _ => rfl) rfl rfl rfl rfl rfl rfl (c_asked X7.hz X7.1 (kd := 0) (q := 0) X7.2.1 (by decide) rfl (-1) rfl) (fun r h' hq => ?_)
        obtain ⟨a8, rfl, hq⟩ := hq
        rcases hq with ⟨⟨i8, p8⟩, hx8, rfl, ho8⟩ | ⟨e8, hx8, ⟨v8, rfl, hv8⟩, hb8⟩
        · have K8 := ask_ok hx8
          dsimp only at K8 ho8
          have X8 := X7.nx ho8
          have L8 : p7 < p8 := by
            rw [show p8 = tE W p7 from K8.2.2.2.2.1]
            exact tok_lt X7.le.1 X7.1.1.1 (by omega) (by omega)
          have I8 := K8.2.2.1
          have J8 := (X7.2.1 0 (by decide)).1
          have G8 := G7.tr (ho8.1.gz (c := c0) X7.hz) (by omega)
          have R8 : a8 (z + 11) = a7 (z + 11) := ho8.1 _ (by omega)
          have Q8 := X8.le
          clear K8
          show Ev X _ _ 22 [Vr 114, Vi 2, Vr ((z : Int) + 7), Vx, Vx] [Vi ((i8 : Nat) : Int)] ((SHv st dr (z : Int)), (ovl a8 s b)) _
          refine Ev.steps (k := 3) (pc' := 27) (L' := [Vr 114, Vi 2, Vr ((z : Int) + 7), Vi ((i8 : Nat) : Int), Vx]) (S' := [Vr (z : Int)]) (h' := ((SHv st dr (z : Int)), (ovl a8 s b))) (fun _ => rfl) ?_
          refine Ev.getr (r := ((z : Int) + 1)) rfl rfl (by omega) (shY_0 hz) rfl rfl rfl ?_
          refine Ev.steps (k := 1) (pc' := 31) (L' := [Vr 114, Vi 2, Vr ((z : Int) + 7), Vi ((i8 : Nat) : Int), Vx]) (S' := [Vi 2, Vr ((z : Int) + 1)]) (h' := ((SHv st dr (z : Int)), (ovl a8 s b))) (fun _ => rfl) ?_
          refine Ev.iald (v := (n : Int)) rfl (by omega) (shY_1 hz) (by omega) (by omega) ((ovl_rc (by omega)).trans (((congrFun (G8.2.2.1 (z + 1) (by omega) (by omega) (by omega) (by omega) (by omega)) 2).trans hcn))) ?_
          refine Ev.ite (P := ((i8 : Nat) : Int) = (-1)) (k := 4) (a := 51) (b := 39) (L' := [Vr 114, Vi 2, Vr ((z : Int) + 7), Vi ((i8 : Nat) : Int), Vi (n : Int)]) (S' := []) (h' := ((SHv st dr (z : Int)), (ovl a8 s b))) (fun _ => rfl) (fun b36 => ?_) (fun b36 => ?_)
          · refine Ev.fin (k := 1) (r := none) (h' := ((SHv st dr (z : Int)), (ovl a8 s b))) (fun _ => rfl) ?_
            exfalso; omega
          · refine Ev.steps (k := 2) (pc' := 42) (L' := [Vr 114, Vi 2, Vr ((z : Int) + 7), Vi ((i8 : Nat) : Int), Vi (n : Int)]) (S' := [Vr ((z : Int) + 7), Vi (n : Int)]) (h' := ((SHv st dr (z : Int)), (ovl a8 s b))) (fun _ => rfl) ?_
            refine Ev.alen (v := 8) rfl (by omega) (shY_7 hz) rfl rfl ?_
            refine Ev.ite (P := 8 ≤ (n : Int)) (k := 1) (a := 51) (b := 46) (L' := [Vr 114, Vi 2, Vr ((z : Int) + 7), Vi ((i8 : Nat) : Int), Vi (n : Int)]) (S' := []) (h' := ((SHv st dr (z : Int)), (ovl a8 s b))) (fun _ => rfl) (fun b43 => ?_) (fun b43 => ?_)
            · refine Ev.fin (k := 1) (r := none) (h' := ((SHv st dr (z : Int)), (ovl a8 s b))) (fun _ => rfl) ?_
              exfalso; omega
            · refine Ev.steps (k := 3) (pc' := 50) (L' := [Vr 114, Vi 2, Vr ((z : Int) + 7), Vi ((i8 : Nat) : Int), Vi (n : Int)]) (S' := [Vi ((i8 : Nat) : Int), Vi (n : Int), Vr ((z : Int) + 7)]) (h' := ((SHv st dr (z : Int)), (ovl a8 s b))) (fun _ => rfl) ?_
              refine Ev.iast (c' := (ovl (updC a8 (z + 7) n ((i8 : Nat) : Int)) s b)) rfl (by omega) (shY_7 hz) (by omega) (by omega) (ovl_wc (by omega)) ?_
              refine Ev.fin (k := 1) (r := none) (h' := ((SHv st dr (z : Int)), (ovl (updC a8 (z + 7) n ((i8 : Nat) : Int)) s b))) (fun _ => rfl) ?_
              refine ⟨rfl, _, rfl, ?_⟩
              have eN : nW S = n := hn
              unfold whoT
              rw [hx5, bnX_o, hx6, bnX_o, hx7, bnX_o, hx8, bnX_o]
              refine Or.inl ⟨_, rfl, c0, X8.up (by omega), by dsimp only; omega, (G8.fs).up (by omega), fun a2 h1 h2 => ?_⟩
              dsimp only
              rw [eN]
              refine P0.who hn0 h8 hl hC V6 (fun o o1 o2 o3 o4 o5 => ?_) (fun i => ?_) (fun i => ?_) (fun j => ?_)
              · rw [h1 o o1 o2 o3, updC_row (by omega)]
                by_cases h11 : o = z + 11
                · rw [h11, R8, R7, T6, R5]
                · exact G8.2.2.1 o (by omega) (by omega) h11 o4 o5
              · rw [h2, updC_row (by omega), congrFun (G8.2.2.1 (z + 1) (by omega) (by omega) (by omega) (by omega) (by omega)) i]
              · rw [h1 (z + 2) (by omega) (by omega) (by omega), updC_row (by omega), congrFun (ho8.1 (z + 2) (by omega)) i, congrFun (ho7.1 (z + 2) (by omega)) i, N6, congrFun (ho5.1 (z + 2) (by omega)) i]
              · rw [h1 (z + 7) (by omega) (by omega) (by omega), updC_if, congrFun (ho8.1 (z + 7) (by omega)) j, congrFun (ho7.1 (z + 7) (by omega)) j, congrFun (g6.2.2.1 (z + 7) (by omega) (by omega) (by omega) (by omega) (by omega)) j, congrFun (ho5.1 (z + 7) (by omega)) j]
        · have B8 := G7.bd X7 (by omega) hb8
          show Ev X _ _ 22 [Vr 114, Vi 2, Vr ((z : Int) + 7), Vx, Vx] [Vi v8] ((SHv st dr (z : Int)), (ovl a8 s b)) _
          refine Ev.steps (k := 3) (pc' := 27) (L' := [Vr 114, Vi 2, Vr ((z : Int) + 7), Vi v8, Vx]) (S' := [Vr (z : Int)]) (h' := ((SHv st dr (z : Int)), (ovl a8 s b))) (fun _ => rfl) ?_
          refine Ev.getr (r := ((z : Int) + 1)) rfl rfl (by omega) (shY_0 hz) rfl rfl rfl ?_
          refine Ev.steps (k := 1) (pc' := 31) (L' := [Vr 114, Vi 2, Vr ((z : Int) + 7), Vi v8, Vx]) (S' := [Vi 2, Vr ((z : Int) + 1)]) (h' := ((SHv st dr (z : Int)), (ovl a8 s b))) (fun _ => rfl) ?_
          refine Ev.iald (v := (n : Int)) rfl (by omega) (shY_1 hz) (by omega) (by omega) ((ovl_rc (by omega)).trans (((congrFun (B8.r1 hz) 2).trans hcn))) ?_
          refine Ev.ite (P := v8 = (-1)) (k := 4) (a := 51) (b := 39) (L' := [Vr 114, Vi 2, Vr ((z : Int) + 7), Vi v8, Vi (n : Int)]) (S' := []) (h' := ((SHv st dr (z : Int)), (ovl a8 s b))) (fun _ => rfl) (fun b36 => ?_) (fun b36 => ?_)
          · refine Ev.fin (k := 1) (r := none) (h' := ((SHv st dr (z : Int)), (ovl a8 s b))) (fun _ => rfl) ?_
            refine ⟨rfl, _, rfl, ?_⟩
            unfold whoT
            rw [hx5, bnX_o, hx6, bnX_o, hx7, bnX_o, hx8, bnX_e]
            exact Or.inr ⟨_, rfl, B8⟩
          · refine Ev.steps (k := 2) (pc' := 42) (L' := [Vr 114, Vi 2, Vr ((z : Int) + 7), Vi v8, Vi (n : Int)]) (S' := [Vr ((z : Int) + 7), Vi (n : Int)]) (h' := ((SHv st dr (z : Int)), (ovl a8 s b))) (fun _ => rfl) ?_
            refine Ev.alen (v := 8) rfl (by omega) (shY_7 hz) rfl rfl ?_
            refine Ev.ite (P := 8 ≤ (n : Int)) (k := 1) (a := 51) (b := 46) (L' := [Vr 114, Vi 2, Vr ((z : Int) + 7), Vi v8, Vi (n : Int)]) (S' := []) (h' := ((SHv st dr (z : Int)), (ovl a8 s b))) (fun _ => rfl) (fun b43 => ?_) (fun b43 => ?_)
            · refine Ev.fin (k := 1) (r := none) (h' := ((SHv st dr (z : Int)), (ovl a8 s b))) (fun _ => rfl) ?_
              refine ⟨rfl, _, rfl, ?_⟩
              unfold whoT
              rw [hx5, bnX_o, hx6, bnX_o, hx7, bnX_o, hx8, bnX_e]
              exact Or.inr ⟨_, rfl, B8⟩
            · refine Ev.steps (k := 3) (pc' := 50) (L' := [Vr 114, Vi 2, Vr ((z : Int) + 7), Vi v8, Vi (n : Int)]) (S' := [Vi v8, Vi (n : Int), Vr ((z : Int) + 7)]) (h' := ((SHv st dr (z : Int)), (ovl a8 s b))) (fun _ => rfl) ?_
              refine Ev.iast (c' := (ovl (updC a8 (z + 7) n v8) s b)) rfl (by omega) (shY_7 hz) (by omega) (by omega) (ovl_wc (by omega)) ?_
              refine Ev.fin (k := 1) (r := none) (h' := ((SHv st dr (z : Int)), (ovl (updC a8 (z + 7) n v8) s b))) (fun _ => rfl) ?_
              refine ⟨rfl, _, rfl, ?_⟩
              unfold whoT
              rw [hx5, bnX_o, hx6, bnX_o, hx7, bnX_o, hx8, bnX_e]
              exact Or.inr ⟨_, rfl, B8.up hz (by omega)⟩
      · have B7 := G6.bd X6 (by omega) hb7
        show Ev X _ _ 16 [Vr 114, Vi 2, Vr ((z : Int) + 7), Vx, Vx] [] ((SHv st dr (z : Int)), (ovl a7 s b)) _
        refine Ev.call (k := 3) (pc1 := 19) (L1 := [Vr 114, Vi 2, Vr ((z : Int) + 7), Vx, Vx]) (S1 := [Vi (-1), Vi 0, Vr 114]) (h1 := ((SHv st dr (z : Int)), (ovl a7 s b))) (m' := 38) (as := [Vr 114, Vi 0, Vi (-1)]) (S' := []) (L0 := [Vr 114, Vi 0, Vi (-1), Vx]) (fun _ => rfl) rfl rfl rfl rfl rfl rfl (c_asked_br B7.2.2.1 0 (-1)) (fun r h' hq => ?_)
        obtain ⟨rfl, rfl⟩ := hq
        show Ev X _ _ 22 [Vr 114, Vi 2, Vr ((z : Int) + 7), Vx, Vx] [Vi (-1)] ((SHv st dr (z : Int)), (ovl a7 s b)) _
        refine Ev.steps (k := 3) (pc' := 27) (L' := [Vr 114, Vi 2, Vr ((z : Int) + 7), Vi (-1), Vx]) (S' := [Vr (z : Int)]) (h' := ((SHv st dr (z : Int)), (ovl a7 s b))) (fun _ => rfl) ?_
        refine Ev.getr (r := ((z : Int) + 1)) rfl rfl (by omega) (shY_0 hz) rfl rfl rfl ?_
        refine Ev.steps (k := 1) (pc' := 31) (L' := [Vr 114, Vi 2, Vr ((z : Int) + 7), Vi (-1), Vx]) (S' := [Vi 2, Vr ((z : Int) + 1)]) (h' := ((SHv st dr (z : Int)), (ovl a7 s b))) (fun _ => rfl) ?_
        refine Ev.iald (v := (n : Int)) rfl (by omega) (shY_1 hz) (by omega) (by omega) ((ovl_rc (by omega)).trans (((congrFun (B7.r1 hz) 2).trans hcn))) ?_
        refine Ev.fin (k := 5) (r := none) (h' := ((SHv st dr (z : Int)), (ovl a7 s b))) (fun _ => rfl) ?_
        refine ⟨rfl, _, rfl, ?_⟩
        unfold whoT
        rw [hx5, bnX_o, hx6, bnX_o, hx7, bnX_e]
        exact Or.inr ⟨_, rfl, B7⟩
    · have B6 := G5.bs hb6
      show Ev X _ _ 9 [Vr 114, Vi 2, Vr ((z : Int) + 7), Vx, Vx] [] ((SHv st dr (z : Int)), (ovl a6 s b)) _
      refine Ev.call (k := 2) (pc1 := 13) (L1 := [Vr 114, Vi 2, Vr ((z : Int) + 7), Vx, Vx]) (S1 := [Vi 259, Vr 114]) (h1 := ((SHv st dr (z : Int)), (ovl a6 s b))) (m' := 42) (as := [Vr 114, Vi 259]) (S' := []) (L0 := [Vr 114, Vi 259]) (fun _ => rfl) rfl rfl rfl rfl rfl rfl (c_expect_br B6.2.2.1 259 (by decide)) (fun r h' hq => ?_)
      obtain ⟨rfl, rfl⟩ := hq
      show Ev X _ _ 16 [Vr 114, Vi 2, Vr ((z : Int) + 7), Vx, Vx] [] ((SHv st dr (z : Int)), (ovl a6 s b)) _
      refine Ev.call (k := 3) (pc1 := 19) (L1 := [Vr 114, Vi 2, Vr ((z : Int) + 7), Vx, Vx]) (S1 := [Vi (-1), Vi 0, Vr 114]) (h1 := ((SHv st dr (z : Int)), (ovl a6 s b))) (m' := 38) (as := [Vr 114, Vi 0, Vi (-1)]) (S' := []) (L0 := [Vr 114, Vi 0, Vi (-1), Vx]) (fun _ => rfl) rfl rfl rfl rfl rfl rfl (c_asked_br B6.2.2.1 0 (-1)) (fun r h' hq => ?_)
      obtain ⟨rfl, rfl⟩ := hq
      show Ev X _ _ 22 [Vr 114, Vi 2, Vr ((z : Int) + 7), Vx, Vx] [Vi (-1)] ((SHv st dr (z : Int)), (ovl a6 s b)) _
      refine Ev.steps (k := 3) (pc' := 27) (L' := [Vr 114, Vi 2, Vr ((z : Int) + 7), Vi (-1), Vx]) (S' := [Vr (z : Int)]) (h' := ((SHv st dr (z : Int)), (ovl a6 s b))) (fun _ => rfl) ?_
      refine Ev.getr (r := ((z : Int) + 1)) rfl rfl (by omega) (shY_0 hz) rfl rfl rfl ?_
      refine Ev.steps (k := 1) (pc' := 31) (L' := [Vr 114, Vi 2, Vr ((z : Int) + 7), Vi (-1), Vx]) (S' := [Vi 2, Vr ((z : Int) + 1)]) (h' := ((SHv st dr (z : Int)), (ovl a6 s b))) (fun _ => rfl) ?_
      refine Ev.iald (v := (n : Int)) rfl (by omega) (shY_1 hz) (by omega) (by omega) ((ovl_rc (by omega)).trans (((congrFun (B6.r1 hz) 2).trans hcn))) ?_
      refine Ev.fin (k := 5) (r := none) (h' := ((SHv st dr (z : Int)), (ovl a6 s b))) (fun _ => rfl) ?_
      refine ⟨rfl, _, rfl, ?_⟩
      unfold whoT
      rw [hx5, bnX_o, hx6, bnX_e]
      exact Or.inr ⟨_, rfl, B6⟩
  · have B5 := G0.bd X0 (by omega) hb5
    show Ev X _ _ 4 [Vr 114, Vi 2, Vr ((z : Int) + 7), Vx, Vx] [] ((SHv st dr (z : Int)), (ovl a5 s b)) _
    refine Ev.call (k := 2) (pc1 := 6) (L1 := [Vr 114, Vi 2, Vr ((z : Int) + 7), Vx, Vx]) (S1 := [Vi 2, Vr 114]) (h1 := ((SHv st dr (z : Int)), (ovl a5 s b))) (m' := 33) (as := [Vr 114, Vi 2]) (S' := []) (L0 := [Vr 114, Vi 2]) (fun _ => rfl) rfl rfl rfl rfl rfl rfl (c_given_br B5.2.2.1 2) (fun r h' hq => ?_)
    obtain ⟨rfl, rfl⟩ := hq
    show Ev X _ _ 9 [Vr 114, Vi 2, Vr ((z : Int) + 7), Vx, Vx] [] ((SHv st dr (z : Int)), (ovl a5 s b)) _
    refine Ev.call (k := 2) (pc1 := 13) (L1 := [Vr 114, Vi 2, Vr ((z : Int) + 7), Vx, Vx]) (S1 := [Vi 259, Vr 114]) (h1 := ((SHv st dr (z : Int)), (ovl a5 s b))) (m' := 42) (as := [Vr 114, Vi 259]) (S' := []) (L0 := [Vr 114, Vi 259]) (fun _ => rfl) rfl rfl rfl rfl rfl rfl (c_expect_br B5.2.2.1 259 (by decide)) (fun r h' hq => ?_)
    obtain ⟨rfl, rfl⟩ := hq
    show Ev X _ _ 16 [Vr 114, Vi 2, Vr ((z : Int) + 7), Vx, Vx] [] ((SHv st dr (z : Int)), (ovl a5 s b)) _
    refine Ev.call (k := 3) (pc1 := 19) (L1 := [Vr 114, Vi 2, Vr ((z : Int) + 7), Vx, Vx]) (S1 := [Vi (-1), Vi 0, Vr 114]) (h1 := ((SHv st dr (z : Int)), (ovl a5 s b))) (m' := 38) (as := [Vr 114, Vi 0, Vi (-1)]) (S' := []) (L0 := [Vr 114, Vi 0, Vi (-1), Vx]) (fun _ => rfl) rfl rfl rfl rfl rfl rfl (c_asked_br B5.2.2.1 0 (-1)) (fun r h' hq => ?_)
    obtain ⟨rfl, rfl⟩ := hq
    show Ev X _ _ 22 [Vr 114, Vi 2, Vr ((z : Int) + 7), Vx, Vx] [Vi (-1)] ((SHv st dr (z : Int)), (ovl a5 s b)) _
    refine Ev.steps (k := 3) (pc' := 27) (L' := [Vr 114, Vi 2, Vr ((z : Int) + 7), Vi (-1), Vx]) (S' := [Vr (z : Int)]) (h' := ((SHv st dr (z : Int)), (ovl a5 s b))) (fun _ => rfl) ?_
    refine Ev.getr (r := ((z : Int) + 1)) rfl rfl (by omega) (shY_0 hz) rfl rfl rfl ?_
    refine Ev.steps (k := 1) (pc' := 31) (L' := [Vr 114, Vi 2, Vr ((z : Int) + 7), Vi (-1), Vx]) (S' := [Vi 2, Vr ((z : Int) + 1)]) (h' := ((SHv st dr (z : Int)), (ovl a5 s b))) (fun _ => rfl) ?_
    refine Ev.iald (v := (n : Int)) rfl (by omega) (shY_1 hz) (by omega) (by omega) ((ovl_rc (by omega)).trans (((congrFun (B5.r1 hz) 2).trans hcn))) ?_
    refine Ev.fin (k := 5) (r := none) (h' := ((SHv st dr (z : Int)), (ovl a5 s b))) (fun _ => rfl) ?_
    refine ⟨rfl, _, rfl, ?_⟩
    unfold whoT
    rw [hx5, bnX_e]
    exact Or.inr ⟨_, rfl, B5⟩
theorem c_thing {X : List Int} {st dr : Int} {s b : C3} {W : TXT} {S : STY} {z : Nat} (hz : hyS z) {n : Nat} (d : Nat) (a0 : C3) (p0 c0 : Nat) (hd : 6 ≤ d) (X0 : XoC W S.1 z p0 c0 8 a0) (P0 : PaC S a0 z c0) (hl : nL S ≤ 30) (hC : nC S ≤ 12) (hc0 : c0 ≤ p0) (ht : tC W p0 ≠ 302) (hn0 : S.1 0 3 = (n : Int)) (h8 : n < 8) : Ev X d 41 0 [Vr 114, Vi 3, Vr ((z : Int) + 8), Vx, Vx] [] (SHv st dr (z : Int), ovl a0 s b) (PoB st dr s b W S z 3 n a0 (thiT W S p0)) := by
  have hz1 := z11 hz
  have hz0 : z = 2 ∨ z = 58 := hz
  obtain ⟨d, rfl⟩ : ∃ d1, d = d1 + 6 := ⟨d - 6, by omega⟩
  have Q0 := X0.le
  have hkd : 2 < 3 := by decide
  have hq : 3 = ixN 2 := rfl
  have hn : cntN S.1 2 = n := by rw [cnt_2, hn0, Int.toNat_natCast]
  have hcn : a0 (z + 1) 3 = (n : Int) := by rw [P0.1 3 (by omega), hn0]
  have G0 : Gq z (z + 2) (z + 8) c0 a0 a0 := ⟨by omega, by omega, fun _ _ _ _ _ _ => rfl, fun _ _ => rfl⟩
  refine Ev.call (k := 1) (pc1 := 1) (L1 := [Vr 114, Vi 3, Vr ((z : Int) + 8), Vx, Vx]) (S1 := [Vr 114]) (h1 := ((SHv st dr (z : Int)), (ovl a0 s b))) (m' := 27) (as := [Vr 114]) (S' := []) (L0 := [Vr 114, Vx, Vx, Vx, Vx]) (fun _ => rfl) rfl rfl rfl rfl rfl rfl (c_next X0.1) (fun r h' hq => ?_)
  obtain ⟨rfl, a9, rfl, hq⟩ := hq
  rcases hq with ⟨p9, hx9, ho9⟩ | ⟨e9, hx9, hb9⟩
  · have X9 := X0.nx ho9
    have L9 : p0 < p9 := X0.lt (by omega) hx9
    have G9 := G0.tr (ho9.1.gz (c := c0) X0.hz) (by omega)
    have R9 : a9 (z + 11) = a0 (z + 11) := ho9.1 _ (by omega)
    have Q9 := X9.le
    show Ev X _ _ 4 [Vr 114, Vi 3, Vr ((z : Int) + 8), Vx, Vx] [] ((SHv st dr (z : Int)), (ovl a9 s b)) _
    refine Ev.call (k := 2) (pc1 := 6) (L1 := [Vr 114, Vi 3, Vr ((z : Int) + 8), Vx, Vx]) (S1 := [Vi 3, Vr 114]) (h1 := ((SHv st dr (z : Int)), (ovl a9 s b))) (m' := 33) (as := [Vr 114, Vi 3]) (S' := []) (L0 := [Vr 114, Vi 3]) (fun _ => rfl) rfl rfl rfl rfl rfl rfl (c_given hz hkd hq _ _ _ _ (by omega) X9 (by omega) hn h8) (fun r h' hq => ?_)
    obtain ⟨rfl, a10, rfl, hq9⟩ := hq
    have hq := hq9
    rcases hq with ⟨⟨w10, p10⟩, hx10, X10, V10, g10, N10, T10⟩ | ⟨e10, hx10, hb10⟩
    · dsimp only at X10 V10 N10
      have L10 : p9 < p10 := by
        obtain ⟨h1, -, -, h4, -⟩ := giv_ok hx10
        rw [show p10 = tE W p9 from h4]
        exact tok_lt X9.le.1 X9.1.1.1 (by omega) (by omega)
      have G10 := G9.gg g10
      have Q10 := X10.le
      show Ev X _ _ 9 [Vr 114, Vi 3, Vr ((z : Int) + 8), Vx, Vx] [] ((SHv st dr (z : Int)), (ovl a10 s b)) _
      refine Ev.call (k := 2) (pc1 := 13) (L1 := [Vr 114, Vi 3, Vr ((z : Int) + 8), Vx, Vx]) (S1 := [Vi 259, Vr 114]) (h1 := ((SHv st dr (z : Int)), (ovl a10 s b))) (m' := 42) (as := [Vr 114, Vi 259]) (S' := []) (L0 := [Vr 114, Vi 259]) (fun _ => rfl) rfl rfl rfl rfl rfl rfl (c_expect X10.1 259) (fun r h' hq => ?_)
      obtain ⟨rfl, a11, rfl, hq⟩ := hq
      rcases hq with ⟨p11, hx11, ho11⟩ | ⟨e11, hx11, hb11⟩
      · have X11 := X10.nx ho11
        have L11 : p10 < p11 := by
          obtain ⟨h1, h2⟩ := exp_ok hx11
          exact X10.lt (by omega) (by unfold expT at hx11; rwa [if_neg (by omega)] at hx11)
        have G11 := G10.tr (ho11.1.gz (c := c0) X10.hz) (by omega)
        have R11 : a11 (z + 11) = a10 (z + 11) := ho11.1 _ (by omega)
        have Q11 := X11.le
        show Ev X _ _ 16 [Vr 114, Vi 3, Vr ((z : Int) + 8), Vx, Vx] [] ((SHv st dr (z : Int)), (ovl a11 s b)) _
        refine Ev.call (k := 3) (pc1 := 19) (L1 := [Vr 114, Vi 3, Vr ((z : Int) + 8), Vx, Vx]) (S1 := [Vi (-1), Vi 0, Vr 114]) (h1 := ((SHv st dr (z : Int)), (ovl a11 s b))) (m' := 38) (as := [Vr 114, Vi 0, Vi (-1)]) (S' := []) (L0 := [Vr 114, Vi 0, Vi (-1), Vx]) (fun _ => rfl) rfl rfl rfl rfl rfl rfl (c_asked X11.hz X11.1 (kd := 0) (q := 0) X11.2.1 (by decide) rfl (-1) rfl) (fun r h' hq => ?_)
        obtain ⟨a12, rfl, hq⟩ := hq
        rcases hq with ⟨⟨i12, p12⟩, hx12, rfl, ho12⟩ | ⟨e12, hx12, ⟨v12, rfl, hv12⟩, hb12⟩
        · have K12 := ask_ok hx12
          dsimp only at K12 ho12
          have X12 := X11.nx ho12
          have L12 : p11 < p12 := by
            rw [show p12 = tE W p11 from K12.2.2.2.2.1]
            exact tok_lt X11.le.1 X11.1.1.1 (by omega) (by omega)
          have I12 := K12.2.2.1
          have J12 := (X11.2.1 0 (by decide)).1
          have G12 := G11.tr (ho12.1.gz (c := c0) X11.hz) (by omega)
          have R12 : a12 (z + 11) = a11 (z + 11) := ho12.1 _ (by omega)
          have Q12 := X12.le
          clear K12
          show Ev X _ _ 22 [Vr 114, Vi 3, Vr ((z : Int) + 8), Vx, Vx] [Vi ((i12 : Nat) : Int)] ((SHv st dr (z : Int)), (ovl a12 s b)) _
          refine Ev.steps (k := 3) (pc' := 27) (L' := [Vr 114, Vi 3, Vr ((z : Int) + 8), Vi ((i12 : Nat) : Int), Vx]) (S' := [Vr (z : Int)]) (h' := ((SHv st dr (z : Int)), (ovl a12 s b))) (fun _ => rfl) ?_
          refine Ev.getr (r := ((z : Int) + 1)) rfl rfl (by omega) (shY_0 hz) rfl rfl rfl ?_
          refine Ev.steps (k := 1) (pc' := 31) (L' := [Vr 114, Vi 3, Vr ((z : Int) + 8), Vi ((i12 : Nat) : Int), Vx]) (S' := [Vi 3, Vr ((z : Int) + 1)]) (h' := ((SHv st dr (z : Int)), (ovl a12 s b))) (fun _ => rfl) ?_
          refine Ev.iald (v := (n : Int)) rfl (by omega) (shY_1 hz) (by omega) (by omega) ((ovl_rc (by omega)).trans (((congrFun (G12.2.2.1 (z + 1) (by omega) (by omega) (by omega) (by omega) (by omega)) 3).trans hcn))) ?_
          refine Ev.ite (P := ((i12 : Nat) : Int) = (-1)) (k := 4) (a := 51) (b := 39) (L' := [Vr 114, Vi 3, Vr ((z : Int) + 8), Vi ((i12 : Nat) : Int), Vi (n : Int)]) (S' := []) (h' := ((SHv st dr (z : Int)), (ovl a12 s b))) (fun _ => rfl) (fun b36 => ?_) (fun b36 => ?_)
          · refine Ev.fin (k := 1) (r := none) (h' := ((SHv st dr (z : Int)), (ovl a12 s b))) (fun _ => rfl) ?_
            exfalso; omega
          · refine Ev.steps (k := 2) (pc' := 42) (L' := [Vr 114, Vi 3, Vr ((z : Int) + 8), Vi ((i12 : Nat) : Int), Vi (n : Int)]) (S' := [Vr ((z : Int) + 8), Vi (n : Int)]) (h' := ((SHv st dr (z : Int)), (ovl a12 s b))) (fun _ => rfl) ?_
            refine Ev.alen (v := 8) rfl (by omega) (shY_8 hz) rfl rfl ?_
            refine Ev.ite (P := 8 ≤ (n : Int)) (k := 1) (a := 51) (b := 46) (L' := [Vr 114, Vi 3, Vr ((z : Int) + 8), Vi ((i12 : Nat) : Int), Vi (n : Int)]) (S' := []) (h' := ((SHv st dr (z : Int)), (ovl a12 s b))) (fun _ => rfl) (fun b43 => ?_) (fun b43 => ?_)
            · refine Ev.fin (k := 1) (r := none) (h' := ((SHv st dr (z : Int)), (ovl a12 s b))) (fun _ => rfl) ?_
              exfalso; omega
            · refine Ev.steps (k := 3) (pc' := 50) (L' := [Vr 114, Vi 3, Vr ((z : Int) + 8), Vi ((i12 : Nat) : Int), Vi (n : Int)]) (S' := [Vi ((i12 : Nat) : Int), Vi (n : Int), Vr ((z : Int) + 8)]) (h' := ((SHv st dr (z : Int)), (ovl a12 s b))) (fun _ => rfl) ?_
              refine Ev.iast (c' := (ovl (updC a12 (z + 8) n ((i12 : Nat) : Int)) s b)) rfl (by omega) (shY_8 hz) (by omega) (by omega) (ovl_wc (by omega)) ?_
              refine Ev.fin (k := 1) (r := none) (h' := ((SHv st dr (z : Int)), (ovl (updC a12 (z + 8) n ((i12 : Nat) : Int)) s b))) (fun _ => rfl) ?_
              refine ⟨rfl, _, rfl, ?_⟩
              have eN : nT S = n := hn
              unfold thiT
              rw [hx9, bnX_o, hx10, bnX_o, hx11, bnX_o, hx12, bnX_o]
              refine Or.inl ⟨_, rfl, c0, X12.up (by omega), by dsimp only; omega, (G12.fs).up (by omega), fun a2 h1 h2 => ?_⟩
              dsimp only
              rw [eN]
              refine P0.thing hn0 h8 hl hC V10 (fun o o1 o2 o3 o4 o5 => ?_) (fun i => ?_) (fun i => ?_) (fun j => ?_)
              · rw [h1 o o1 o2 o3, updC_row (by omega)]
                by_cases h11 : o = z + 11
                · rw [h11, R12, R11, T10, R9]
                · exact G12.2.2.1 o (by omega) (by omega) h11 o4 o5
              · rw [h2, updC_row (by omega), congrFun (G12.2.2.1 (z + 1) (by omega) (by omega) (by omega) (by omega) (by omega)) i]
              · rw [h1 (z + 2) (by omega) (by omega) (by omega), updC_row (by omega), congrFun (ho12.1 (z + 2) (by omega)) i, congrFun (ho11.1 (z + 2) (by omega)) i, N10, congrFun (ho9.1 (z + 2) (by omega)) i]
              · rw [h1 (z + 8) (by omega) (by omega) (by omega), updC_if, congrFun (ho12.1 (z + 8) (by omega)) j, congrFun (ho11.1 (z + 8) (by omega)) j, congrFun (g10.2.2.1 (z + 8) (by omega) (by omega) (by omega) (by omega) (by omega)) j, congrFun (ho9.1 (z + 8) (by omega)) j]
        · have B12 := G11.bd X11 (by omega) hb12
          show Ev X _ _ 22 [Vr 114, Vi 3, Vr ((z : Int) + 8), Vx, Vx] [Vi v12] ((SHv st dr (z : Int)), (ovl a12 s b)) _
          refine Ev.steps (k := 3) (pc' := 27) (L' := [Vr 114, Vi 3, Vr ((z : Int) + 8), Vi v12, Vx]) (S' := [Vr (z : Int)]) (h' := ((SHv st dr (z : Int)), (ovl a12 s b))) (fun _ => rfl) ?_
          refine Ev.getr (r := ((z : Int) + 1)) rfl rfl (by omega) (shY_0 hz) rfl rfl rfl ?_
          refine Ev.steps (k := 1) (pc' := 31) (L' := [Vr 114, Vi 3, Vr ((z : Int) + 8), Vi v12, Vx]) (S' := [Vi 3, Vr ((z : Int) + 1)]) (h' := ((SHv st dr (z : Int)), (ovl a12 s b))) (fun _ => rfl) ?_
          refine Ev.iald (v := (n : Int)) rfl (by omega) (shY_1 hz) (by omega) (by omega) ((ovl_rc (by omega)).trans (((congrFun (B12.r1 hz) 3).trans hcn))) ?_
          refine Ev.ite (P := v12 = (-1)) (k := 4) (a := 51) (b := 39) (L' := [Vr 114, Vi 3, Vr ((z : Int) + 8), Vi v12, Vi (n : Int)]) (S' := []) (h' := ((SHv st dr (z : Int)), (ovl a12 s b))) (fun _ => rfl) (fun b36 => ?_) (fun b36 => ?_)
          · refine Ev.fin (k := 1) (r := none) (h' := ((SHv st dr (z : Int)), (ovl a12 s b))) (fun _ => rfl) ?_
            refine ⟨rfl, _, rfl, ?_⟩
            unfold thiT
            rw [hx9, bnX_o, hx10, bnX_o, hx11, bnX_o, hx12, bnX_e]
            exact Or.inr ⟨_, rfl, B12⟩
          · refine Ev.steps (k := 2) (pc' := 42) (L' := [Vr 114, Vi 3, Vr ((z : Int) + 8), Vi v12, Vi (n : Int)]) (S' := [Vr ((z : Int) + 8), Vi (n : Int)]) (h' := ((SHv st dr (z : Int)), (ovl a12 s b))) (fun _ => rfl) ?_
            refine Ev.alen (v := 8) rfl (by omega) (shY_8 hz) rfl rfl ?_
            refine Ev.ite (P := 8 ≤ (n : Int)) (k := 1) (a := 51) (b := 46) (L' := [Vr 114, Vi 3, Vr ((z : Int) + 8), Vi v12, Vi (n : Int)]) (S' := []) (h' := ((SHv st dr (z : Int)), (ovl a12 s b))) (fun _ => rfl) (fun b43 => ?_) (fun b43 => ?_)
            · refine Ev.fin (k := 1) (r := none) (h' := ((SHv st dr (z : Int)), (ovl a12 s b))) (fun _ => rfl) ?_
              refine ⟨rfl, _, rfl, ?_⟩
              unfold thiT
              rw [hx9, bnX_o, hx10, bnX_o, hx11, bnX_o, hx12, bnX_e]
              exact Or.inr ⟨_, rfl, B12⟩
            · refine Ev.steps (k := 3) (pc' := 50) (L' := [Vr 114, Vi 3, Vr ((z : Int) + 8), Vi v12, Vi (n : Int)]) (S' := [Vi v12, Vi (n : Int), Vr ((z : Int) + 8)]) (h' := ((SHv st dr (z : Int)), (ovl a12 s b))) (fun _ => rfl) ?_
              refine Ev.iast (c' := (ovl (updC a12 (z + 8) n v12) s b)) rfl (by omega) (shY_8 hz) (by omega) (by omega) (ovl_wc (by omega)) ?_
              refine Ev.fin (k := 1) (r := none) (h' := ((SHv st dr (z : Int)), (ovl (updC a12 (z + 8) n v12) s b))) (fun _ => rfl) ?_
              refine ⟨rfl, _, rfl, ?_⟩
              unfold thiT
              rw [hx9, bnX_o, hx10, bnX_o, hx11, bnX_o, hx12, bnX_e]
              exact Or.inr ⟨_, rfl, B12.up hz (by omega)⟩
      · have B11 := G10.bd X10 (by omega) hb11
        show Ev X _ _ 16 [Vr 114, Vi 3, Vr ((z : Int) + 8), Vx, Vx] [] ((SHv st dr (z : Int)), (ovl a11 s b)) _
        refine Ev.call (k := 3) (pc1 := 19) (L1 := [Vr 114, Vi 3, Vr ((z : Int) + 8), Vx, Vx]) (S1 := [Vi (-1), Vi 0, Vr 114]) (h1 := ((SHv st dr (z : Int)), (ovl a11 s b))) (m' := 38) (as := [Vr 114, Vi 0, Vi (-1)]) (S' := []) (L0 := [Vr 114, Vi 0, Vi (-1), Vx]) (fun _ => rfl) rfl rfl rfl rfl rfl rfl (c_asked_br B11.2.2.1 0 (-1)) (fun r h' hq => ?_)
        obtain ⟨rfl, rfl⟩ := hq
        show Ev X _ _ 22 [Vr 114, Vi 3, Vr ((z : Int) + 8), Vx, Vx] [Vi (-1)] ((SHv st dr (z : Int)), (ovl a11 s b)) _
        refine Ev.steps (k := 3) (pc' := 27) (L' := [Vr 114, Vi 3, Vr ((z : Int) + 8), Vi (-1), Vx]) (S' := [Vr (z : Int)]) (h' := ((SHv st dr (z : Int)), (ovl a11 s b))) (fun _ => rfl) ?_
        refine Ev.getr (r := ((z : Int) + 1)) rfl rfl (by omega) (shY_0 hz) rfl rfl rfl ?_
        refine Ev.steps (k := 1) (pc' := 31) (L' := [Vr 114, Vi 3, Vr ((z : Int) + 8), Vi (-1), Vx]) (S' := [Vi 3, Vr ((z : Int) + 1)]) (h' := ((SHv st dr (z : Int)), (ovl a11 s b))) (fun _ => rfl) ?_
        refine Ev.iald (v := (n : Int)) rfl (by omega) (shY_1 hz) (by omega) (by omega) ((ovl_rc (by omega)).trans (((congrFun (B11.r1 hz) 3).trans hcn))) ?_
        refine Ev.fin (k := 5) (r := none) (h' := ((SHv st dr (z : Int)), (ovl a11 s b))) (fun _ => rfl) ?_
        refine ⟨rfl, _, rfl, ?_⟩
        unfold thiT
        rw [hx9, bnX_o, hx10, bnX_o, hx11, bnX_e]
        exact Or.inr ⟨_, rfl, B11⟩
    · have B10 := G9.bs hb10
      show Ev X _ _ 9 [Vr 114, Vi 3, Vr ((z : Int) + 8), Vx, Vx] [] ((SHv st dr (z : Int)), (ovl a10 s b)) _
      refine Ev.call (k := 2) (pc1 := 13) (L1 := [Vr 114, Vi 3, Vr ((z : Int) + 8), Vx, Vx]) (S1 := [Vi 259, Vr 114]) (h1 := ((SHv st dr (z : Int)), (ovl a10 s b))) (m' := 42) (as := [Vr 114, Vi 259]) (S' := []) (L0 := [Vr 114, Vi 259]) (fun _ => rfl) rfl rfl rfl rfl rfl rfl (c_expect_br B10.2.2.1 259 (by decide)) (fun r h' hq => ?_)
      obtain ⟨rfl, rfl⟩ := hq
      show Ev X _ _ 16 [Vr 114, Vi 3, Vr ((z : Int) + 8), Vx, Vx] [] ((SHv st dr (z : Int)), (ovl a10 s b)) _
      refine Ev.call (k := 3) (pc1 := 19) (L1 := [Vr 114, Vi 3, Vr ((z : Int) + 8), Vx, Vx]) (S1 := [Vi (-1), Vi 0, Vr 114]) (h1 := ((SHv st dr (z : Int)), (ovl a10 s b))) (m' := 38) (as := [Vr 114, Vi 0, Vi (-1)]) (S' := []) (L0 := [Vr 114, Vi 0, Vi (-1), Vx]) (fun _ => rfl) rfl rfl rfl rfl rfl rfl (c_asked_br B10.2.2.1 0 (-1)) (fun r h' hq => ?_)
      obtain ⟨rfl, rfl⟩ := hq
      show Ev X _ _ 22 [Vr 114, Vi 3, Vr ((z : Int) + 8), Vx, Vx] [Vi (-1)] ((SHv st dr (z : Int)), (ovl a10 s b)) _
      refine Ev.steps (k := 3) (pc' := 27) (L' := [Vr 114, Vi 3, Vr ((z : Int) + 8), Vi (-1), Vx]) (S' := [Vr (z : Int)]) (h' := ((SHv st dr (z : Int)), (ovl a10 s b))) (fun _ => rfl) ?_
      refine Ev.getr (r := ((z : Int) + 1)) rfl rfl (by omega) (shY_0 hz) rfl rfl rfl ?_
      refine Ev.steps (k := 1) (pc' := 31) (L' := [Vr 114, Vi 3, Vr ((z : Int) + 8), Vi (-1), Vx]) (S' := [Vi 3, Vr ((z : Int) + 1)]) (h' := ((SHv st dr (z : Int)), (ovl a10 s b))) (fun _ => rfl) ?_
      refine Ev.iald (v := (n : Int)) rfl (by omega) (shY_1 hz) (by omega) (by omega) ((ovl_rc (by omega)).trans (((congrFun (B10.r1 hz) 3).trans hcn))) ?_
      refine Ev.fin (k := 5) (r := none) (h' := ((SHv st dr (z : Int)), (ovl a10 s b))) (fun _ => rfl) ?_
      refine ⟨rfl, _, rfl, ?_⟩
      unfold thiT
      rw [hx9, bnX_o, hx10, bnX_e]
      exact Or.inr ⟨_, rfl, B10⟩
  · have B9 := G0.bd X0 (by omega) hb9
    show Ev X _ _ 4 [Vr 114, Vi 3, Vr ((z : Int) + 8), Vx, Vx] [] ((SHv st dr (z : Int)), (ovl a9 s b)) _
    refine Ev.call (k := 2) (pc1 := 6) (L1 := [Vr 114, Vi 3, Vr ((z : Int) + 8), Vx, Vx]) (S1 := [Vi 3, Vr 114]) (h1 := ((SHv st dr (z : Int)), (ovl a9 s b))) (m' := 33) (as := [Vr 114, Vi 3]) (S' := []) (L0 := [Vr 114, Vi 3]) (fun _ => rfl) rfl rfl rfl rfl rfl rfl (c_given_br B9.2.2.1 3) (fun r h' hq => ?_)
    obtain ⟨rfl, rfl⟩ := hq
    show Ev X _ _ 9 [Vr 114, Vi 3, Vr ((z : Int) + 8), Vx, Vx] [] ((SHv st dr (z : Int)), (ovl a9 s b)) _
    refine Ev.call (k := 2) (pc1 := 13) (L1 := [Vr 114, Vi 3, Vr ((z : Int) + 8), Vx, Vx]) (S1 := [Vi 259, Vr 114]) (h1 := ((SHv st dr (z : Int)), (ovl a9 s b))) (m' := 42) (as := [Vr 114, Vi 259]) (S' := []) (L0 := [Vr 114, Vi 259]) (fun _ => rfl) rfl rfl rfl rfl rfl rfl (c_expect_br B9.2.2.1 259 (by decide)) (fun r h' hq => ?_)
    obtain ⟨rfl, rfl⟩ := hq
    show Ev X _ _ 16 [Vr 114, Vi 3, Vr ((z : Int) + 8), Vx, Vx] [] ((SHv st dr (z : Int)), (ovl a9 s b)) _
    refine Ev.call (k := 3) (pc1 := 19) (L1 := [Vr 114, Vi 3, Vr ((z : Int) + 8), Vx, Vx]) (S1 := [Vi (-1), Vi 0, Vr 114]) (h1 := ((SHv st dr (z : Int)), (ovl a9 s b))) (m' := 38) (as := [Vr 114, Vi 0, Vi (-1)]) (S' := []) (L0 := [Vr 114, Vi 0, Vi (-1), Vx]) (fun _ => rfl) rfl rfl rfl rfl rfl rfl (c_asked_br B9.2.2.1 0 (-1)) (fun r h' hq => ?_)
    obtain ⟨rfl, rfl⟩ := hq
    show Ev X _ _ 22 [Vr 114, Vi 3, Vr ((z : Int) + 8), Vx, Vx] [Vi (-1)] ((SHv st dr (z : Int)), (ovl a9 s b)) _
    refine Ev.steps (k := 3) (pc' := 27) (L' := [Vr 114, Vi 3, Vr ((z : Int) + 8), Vi (-1), Vx]) (S' := [Vr (z : Int)]) (h' := ((SHv st dr (z : Int)), (ovl a9 s b))) (fun _ => rfl) ?_
    refine Ev.getr (r := ((z : Int) + 1)) rfl rfl (by omega) (shY_0 hz) rfl rfl rfl ?_
    refine Ev.steps (k := 1) (pc' := 31) (L' := [Vr 114, Vi 3, Vr ((z : Int) + 8), Vi (-1), Vx]) (S' := [Vi 3, Vr ((z : Int) + 1)]) (h' := ((SHv st dr (z : Int)), (ovl a9 s b))) (fun _ => rfl) ?_
    refine Ev.iald (v := (n : Int)) rfl (by omega) (shY_1 hz) (by omega) (by omega) ((ovl_rc (by omega)).trans (((congrFun (B9.r1 hz) 3).trans hcn))) ?_
    refine Ev.fin (k := 5) (r := none) (h' := ((SHv st dr (z : Int)), (ovl a9 s b))) (fun _ => rfl) ?_
    refine ⟨rfl, _, rfl, ?_⟩
    unfold thiT
    rw [hx9, bnX_e]
    exact Or.inr ⟨_, rfl, B9⟩
