/-! THE CLASS READS: sums -/
/-- the class is at the token behind p, c steps of code are told, K signs may still begin -/
def XoC (W : TXT) (N : SC) (z p c K : Nat) (a : SC) : Prop := TkC W p a ∧ NmC N a z ∧ a z 9 = (c : Int) ∧ a 114 8 = 8 - (K : Int) ∧ K ≤ 8 ∧ hyS z
def Gz (z c : Nat) (a a' : SC) : Prop := FrZ z a a' ∧ ∀ i, i < c → a' (z + 11) i = a (z + 11) i
def BdZ (W : TXT) (z : Nat) (a : SC) (e : PF) (a' : SC) : Prop := FrZ z a a' ∧ BaC W a' ∧ BrC e a' ∧ CdB a' z
def YoC (W : TXT) (N : SC) (z p c K : Nat) (a : SC) (D : Nat) (x : Except PF (List (Nat × Nat) × Nat)) (a' : SC) : Prop := ResC x (fun r => ∃ c' : Nat, XoC W N z r.2 c' K a' ∧ Gz z c a a' ∧ CoC (a' (z + 11)) D c r.1 c' ∧ c' + p ≤ c + r.2) (fun e => BdZ W z a e a')
abbrev PoX (st dr : Int) (s b : C3) (W : TXT) (N : SC) (z p c K : Nat) (a : SC) (D : Nat) (x : Except PF (List (Nat × Nat) × Nat)) : Option pm_V → pm_H → Prop := fun rr hh => rr = none ∧ ∃ a' : C3, hh = (SHv st dr (z : Int), ovl a' s b) ∧ YoC W N z p c K a D x a'
def MOk (X : List Int) (st dr : Int) (s b : C3) (W : TXT) (N : SC) (z m : Nat) (L : List pm_V) (K : Nat) (P : PRS) (D h : Nat) : Prop := ∀ (d : Nat) (a : C3) (p c : Nat), h ≤ d → XoC W N z p c K a → c ≤ p → Ev X d m 0 L [] (SHv st dr (z : Int), ovl a s b) (PoX st dr s b W N z p c K a D (P p))
theorem Gz.rf {z c : Nat} {a : SC} : Gz z c a a := ⟨FrZ.rf, fun _ _ => rfl⟩
theorem Gz.tr {z c c1 : Nat} {a a1 a2 : SC} (h : Gz z c a a1) (h' : Gz z c1 a1 a2) (hc : c ≤ c1) : Gz z c a a2 := ⟨h.1.tr h'.1, fun i hi => (h'.2 i (by omega)).trans (h.2 i hi)⟩
theorem z11 {z : Nat} (h : hyS z) : z ≠ 114 ∧ z + 1 ≠ 114 ∧ z + 2 ≠ 114 ∧ z + 11 ≠ 114 ∧ 1 ≠ z ∧ 1 ≠ z + 11 ∧ 115 ≠ z ∧ 115 ≠ z + 11 := by
  have h : z = 2 ∨ z = 58 := h
  omega
theorem FrO.gz {z c : Nat} {a a' : SC} (h : FrO 114 114 a a') (hz : hyS z) : Gz z c a a' := ⟨h.z, fun i _ => by rw [h (z + 11) (by have := z11 hz; omega)]⟩
section XO
variable {W : TXT} {N : SC} {z p c K : Nat} {a : SC}
theorem XoC.hz (h : XoC W N z p c K a) : hyS z := h.2.2.2.2.2
theorem XoC.t5 (h : XoC W N z p c K a) : a 114 5 = ((tC W p : Nat) : Int) := h.1.2.2.2.2.1
theorem XoC.t7 (h : XoC W N z p c K a) (hc : tC W p = 301) : a 114 7 = ((tV W p : Nat) : Int) := h.1.2.2.2.2.2.2.2.1 hc
theorem XoC.t8 (h : XoC W N z p c K a) : a 114 8 = 8 - (K : Int) := h.2.2.2.1
theorem XoC.le (h : XoC W N z p c K a) : p ≤ W.2 ∧ W.2 ≤ 1200 ∧ K ≤ 8 := ⟨h.1.2.2.2.2.2.2.2.2.2, h.1.1.1.1, h.2.2.2.2.1⟩
theorem XoC.lt {p1 : Nat} (h : XoC W N z p c K a) (hc : tC W p ≠ 302) (hx : gotT W p = .ok p1) : p < p1 := by
  rw [(got_ok hx).1]
  exact tok_lt h.1.2.2.2.2.2.2.2.2.2 h.1.1.1 hc h.1.2.2.2.2.2.2.2.2.1
theorem XoC.nx {p1 : Nat} {a1 : SC} (h : XoC W N z p c K a) (ho : OkT W a p1 a1) : XoC W N z p1 c K a1 := by
  have hz := z11 h.hz
  exact ⟨ho.2.2, h.2.1.fo (ho.1 _ (by omega)) (ho.1 _ (by omega)), by rw [ho.1 z (by omega)]; exact h.2.2.1, by rw [ho.2.1]; exact h.2.2.2.1, h.2.2.2.2⟩
theorem XoC.o8 {K1 : Nat} {v : Int} (h : XoC W N z p c K a) (hv : v = 8 - (K1 : Int)) (hK : K1 ≤ 8) : XoC W N z p c K1 (updC a 114 8 v) := by
  have hz := z11 h.hz
  refine ⟨⟨h.1.1.fo rfl rfl rfl, h.1.2⟩, h.2.1.fo (updC_row (by omega)) (updC_row (by omega)), by rw [updC_row (by omega)]; exact h.2.2.1, by rw [updC_sm]; exact hv, hK, h.2.2.2.2.2⟩
theorem Gz.o8 {z c : Nat} {a0 a : SC} {v : Int} (h : Gz z c a0 a) (hz : hyS z) : Gz z c a0 (updC a 114 8 v) := h.tr ((FrO.rf.up (by omega)).gz hz) (Nat.le_refl c)
theorem BdZ.o8 {W : TXT} {z : Nat} {a0 a : SC} {e : PF} {v : Int} (h : BdZ W z a0 e a) (hz : hyS z) : BdZ W z a0 e (updC a 114 8 v) := by
  have hz := z11 hz
  refine ⟨h.1.up (by omega), h.2.1.fo rfl rfl rfl, h.2.2.1, ?_⟩
  unfold CdB
  rw [updC_row (by omega)]
  exact h.2.2.2
theorem Gz.bd {W : TXT} {N : SC} {z p c c1 K : Nat} {a0 a a1 : SC} {e : PF} (h : Gz z c1 a0 a) (hX : XoC W N z p c K a) (hc : c ≤ 1200) (hb : BdT W a e a1) : BdZ W z a0 e a1 := by
  have hz := z11 hX.hz
  refine ⟨h.1.tr hb.1.z, hb.2.1, hb.2.2, ?_⟩
  unfold CdB
  rw [hb.1 z (by omega), hX.2.2.1]
  omega
theorem Gz.bz {W : TXT} {z c1 : Nat} {a0 a a1 : SC} {e : PF} (h : Gz z c1 a0 a) (hb : BdZ W z a e a1) : BdZ W z a0 e a1 := ⟨h.1.tr hb.1, hb.2⟩
theorem BdZ.st {W : TXT} {z : Nat} {a0 a a1 : SC} {e : PF} (h : BdZ W z a0 e a) (hz : hyS z) (f1 : FrZ z a a1) (f2 : a1 114 = a 114) (f3 : CdB a1 z) : BdZ W z a0 e a1 := by
  have hz := z11 hz
  exact ⟨h.1.tr f1, h.2.1.fo (f1 _ (by omega) (by omega) (by omega)) (f1 _ (by omega) (by omega) (by omega)) (by rw [f2]), h.2.2.1.fo f2, f3⟩
end XO
theorem c_emitX {X : List Int} {d : Nat} {st dr rd : Int} {a s b : C3} {W : TXT} {N : SC} {z p c K : Nat} (hX : XoC W N z p c K a) (h12 : c < 1200) (t o : Nat) (ht : t < 512) (ho : o < 4194304) : Ev X d 49 0 [Vr (z : Int), Vi (t : Int), Vi (o : Int)] [] (SHv st dr rd, ovl a s b) (fun rr hh => rr = some (Vi (c : Int)) ∧ ∃ a' : C3, hh = (SHv st dr rd, ovl a' s b) ∧ XoC W N z p (c + 1) K a' ∧ Gz z c a a' ∧ a' (z + 11) c = ((t + 512 * o : Nat) : Int)) := by
  have hz := z11 hX.hz
  refine (c_emit hX.hz hX.2.2.1 h12 t o ht ho).mono ?_
  rintro r h' ⟨h1, h2⟩
  refine ⟨h1, _, h2, ⟨hX.1.fo ?_ ?_ ?_, hX.2.1.fo ?_ ?_, ?_, ?_, hX.2.2.2.2⟩, ⟨(FrZ.rf.up (by omega)).up (by omega), fun i hi => ?_⟩, ?_⟩
  · rw [updC_row (by omega), updC_row (by omega)]
  · rw [updC_row (by omega), updC_row (by omega)]
  · rw [updC_row (by omega), updC_row (by omega)]
  · rw [updC_row (by omega), updC_row (by omega)]
  · rw [updC_row (by omega), updC_row (by omega)]
  · rw [updC_sm]
    omega
  · rw [updC_row (by omega), updC_row (by omega)]
    exact hX.2.2.2.1
  · rw [updC_row (by omega), updC_nt (by omega)]
  · rw [updC_row (by omega), updC_sm]
theorem c_opensX {X : List Int} {d : Nat} {st dr rd : Int} {a s b : C3} {W : TXT} {N : SC} {z p c K : Nat} (hX : XoC W N z p c K a) (g : Nat) : Ev X (d + 2) 51 0 [Vr 114, Vi (g : Int)] [] (SHv st dr rd, ovl a s b)
    (fun rr hh => ∃ a' : C3, hh = (SHv st dr rd, ovl a' s b) ∧ ResC (opnT W g K p) (fun p1 => rr = some (Vi 1) ∧ FrO 114 114 a a' ∧ ∀ K1, K = K1 + 1 → XoC W N z p1 c K1 a') (fun e => (rr = some (Vi 0) ∨ rr = some (Vi 1)) ∧ BdT W a e a')) := by
  have hz := z11 hX.hz
  refine (c_opens hX.1 g K hX.2.2.2.2.1 hX.2.2.2.1).mono ?_
  rintro r h' ⟨a1, h1, h2⟩
  refine ⟨a1, h1, ?_⟩
  rcases h2 with ⟨p1, hx, g1, g2, g3, g4⟩ | ⟨e, hx, h3⟩
  · refine Or.inl ⟨p1, hx, g1, g2, fun K1 hK => ⟨g4, hX.2.1.fo (g2 _ (by omega)) (g2 _ (by omega)), by rw [g2 z (by omega)]; exact hX.2.2.1, by rw [g3]; omega, by have := hX.le; omega, hX.hz⟩⟩
  · exact Or.inr ⟨e, hx, h3⟩
theorem c_part_br {X : List Int} {d : Nat} {st dr rd : Int} {a s b : C3} {e : PF} (hB : BrC e a)  : Ev X (d + 3) 48 0 [Vr 114] [] (SHv st dr rd, ovl a s b) (fun rr hh => rr = none ∧ hh = (SHv st dr rd, ovl a s b)) := by
  refine Ev.steps (k := 2) (pc' := 4) (L' := [Vr 114]) (S' := [Vi (a 114 5)]) (h' := ((SHv st dr rd), (ovl a s b))) (fun _ => rfl) ?_
  rw [hB.2.2.2]
  refine Ev.steps (k := 4) (pc' := 36) (L' := [Vr 114]) (S' := [Vi (a 114 5)]) (h' := ((SHv st dr rd), (ovl a s b))) (fun _ => rfl) ?_
  rw [hB.2.2.2]
  refine Ev.steps (k := 4) (pc' := 65) (L' := [Vr 114]) (S' := [Vi (a 114 5)]) (h' := ((SHv st dr rd), (ovl a s b))) (fun _ => rfl) ?_
  rw [hB.2.2.2]
  refine Ev.steps (k := 4) (pc' := 99) (L' := [Vr 114]) (S' := [Vi (a 114 5)]) (h' := ((SHv st dr rd), (ovl a s b))) (fun _ => rfl) ?_
  rw [hB.2.2.2]
  refine Ev.steps (k := 4) (pc' := 109) (L' := [Vr 114]) (S' := [Vi (a 114 5)]) (h' := ((SHv st dr rd), (ovl a s b))) (fun _ => rfl) ?_
  rw [hB.2.2.2]
  refine Ev.call (k := 4) (pc1 := 125) (L1 := [Vr 114]) (S1 := [Vi 40, Vr 114]) (h1 := ((SHv st dr rd), (ovl a s b))) (m' := 51) (as := [Vr 114, Vi 40]) (S' := []) (L0 := [Vr 114, Vi 40]) (fun _ => rfl) rfl rfl rfl rfl rfl rfl (c_opens_br hB 40 (by decide)) (fun r h' hq => ?_)
  obtain ⟨rfl, rfl⟩ := hq
  show Ev X _ _ 128 [Vr 114] [Vi 0] ((SHv st dr rd), (ovl a s b)) _
  refine Ev.fin (k := 2) (r := none) (h' := ((SHv st dr rd), (ovl a s b))) (fun _ => rfl) ?_
  exact ⟨rfl, rfl⟩
theorem c_product_brl {X : List Int} {d : Nat} {st dr rd : Int} {a s b : C3} {e : PF} (hB : BrC e a) (i : Int) (x : pm_V) : Ev X (d + 0) 47 6 [Vr 114, Vi i, x] [] (SHv st dr rd, ovl a s b) (fun rr hh => rr = none ∧ hh = (SHv st dr rd, ovl a s b)) := by
  refine Ev.ite (P := 1200 ≤ i) (k := 3) (a := 69) (b := 13) (L' := [Vr 114, Vi i, x]) (S' := []) (h' := ((SHv st dr rd), (ovl a s b))) (fun _ => rfl) (fun b10 => ?_) (fun b10 => ?_)
  · refine Ev.fin (k := 1) (r := none) (h' := ((SHv st dr rd), (ovl a s b))) (fun _ => rfl) ?_
    exact ⟨rfl, rfl⟩
  · refine Ev.steps (k := 2) (pc' := 17) (L' := [Vr 114, Vi i, x]) (S' := [Vi (a 114 5)]) (h' := ((SHv st dr rd), (ovl a s b))) (fun _ => rfl) ?_
    rw [hB.2.2.2]
    refine Ev.steps (k := 4) (pc' := 26) (L' := [Vr 114, Vi i, x]) (S' := [Vi (a 114 5)]) (h' := ((SHv st dr rd), (ovl a s b))) (fun _ => rfl) ?_
    rw [hB.2.2.2]
    refine Ev.steps (k := 4) (pc' := 35) (L' := [Vr 114, Vi i, x]) (S' := [Vi (a 114 5)]) (h' := ((SHv st dr rd), (ovl a s b))) (fun _ => rfl) ?_
    rw [hB.2.2.2]
    refine Ev.fin (k := 3) (r := none) (h' := ((SHv st dr rd), (ovl a s b))) (fun _ => rfl) ?_
    exact ⟨rfl, rfl⟩
theorem c_product_br {X : List Int} {d : Nat} {st dr rd : Int} {a s b : C3} {e : PF} (hB : BrC e a)  : Ev X (d + 4) 47 0 [Vr 114, Vx, Vx] [] (SHv st dr rd, ovl a s b) (fun rr hh => rr = none ∧ hh = (SHv st dr rd, ovl a s b)) := by
  refine Ev.call (k := 1) (pc1 := 1) (L1 := [Vr 114, Vx, Vx]) (S1 := [Vr 114]) (h1 := ((SHv st dr rd), (ovl a s b))) (m' := 48) (as := [Vr 114]) (S' := []) (L0 := [Vr 114]) (fun _ => rfl) rfl rfl rfl rfl rfl rfl (c_part_br hB) (fun r h' hq => ?_)
  obtain ⟨rfl, rfl⟩ := hq
  show Ev X _ _ 4 [Vr 114, Vx, Vx] [] ((SHv st dr rd), (ovl a s b)) _
  refine Ev.steps (k := 2) (pc' := 6) (L' := [Vr 114, Vi 0, Vx]) (S' := []) (h' := ((SHv st dr rd), (ovl a s b))) (fun _ => rfl) ?_
  exact c_product_brl hB 0 Vx
theorem c_sum_brl {X : List Int} {d : Nat} {st dr rd : Int} {a s b : C3} {e : PF} (hB : BrC e a) (i : Int) (x : pm_V) : Ev X (d + 0) 46 6 [Vr 114, Vi i, x] [] (SHv st dr rd, ovl a s b) (fun rr hh => rr = none ∧ hh = (SHv st dr rd, ovl a s b)) := by
  refine Ev.ite (P := 1200 ≤ i) (k := 3) (a := 60) (b := 13) (L' := [Vr 114, Vi i, x]) (S' := []) (h' := ((SHv st dr rd), (ovl a s b))) (fun _ => rfl) (fun b10 => ?_) (fun b10 => ?_)
  · refine Ev.fin (k := 1) (r := none) (h' := ((SHv st dr rd), (ovl a s b))) (fun _ => rfl) ?_
    exact ⟨rfl, rfl⟩
  · refine Ev.steps (k := 2) (pc' := 17) (L' := [Vr 114, Vi i, x]) (S' := [Vi (a 114 5)]) (h' := ((SHv st dr rd), (ovl a s b))) (fun _ => rfl) ?_
    rw [hB.2.2.2]
    refine Ev.steps (k := 4) (pc' := 26) (L' := [Vr 114, Vi i, x]) (S' := [Vi (a 114 5)]) (h' := ((SHv st dr rd), (ovl a s b))) (fun _ => rfl) ?_
    rw [hB.2.2.2]
    refine Ev.fin (k := 3) (r := none) (h' := ((SHv st dr rd), (ovl a s b))) (fun _ => rfl) ?_
    exact ⟨rfl, rfl⟩
theorem c_sum_br {X : List Int} {d : Nat} {st dr rd : Int} {a s b : C3} {e : PF} (hB : BrC e a)  : Ev X (d + 5) 46 0 [Vr 114, Vx, Vx] [] (SHv st dr rd, ovl a s b) (fun rr hh => rr = none ∧ hh = (SHv st dr rd, ovl a s b)) := by
  refine Ev.call (k := 1) (pc1 := 1) (L1 := [Vr 114, Vx, Vx]) (S1 := [Vr 114]) (h1 := ((SHv st dr rd), (ovl a s b))) (m' := 47) (as := [Vr 114]) (S' := []) (L0 := [Vr 114, Vx, Vx]) (fun _ => rfl) rfl rfl rfl rfl rfl rfl (c_product_br hB) (fun r h' hq => ?_)
  obtain ⟨rfl, rfl⟩ := hq
  show Ev X _ _ 4 [Vr 114, Vx, Vx] [] ((SHv st dr rd), (ovl a s b)) _
  refine Ev.steps (k := 2) (pc' := 6) (L' := [Vr 114, Vi 0, Vx]) (S' := []) (h' := ((SHv st dr rd), (ovl a s b))) (fun _ => rfl) ?_
  exact c_sum_brl hB 0 Vx
theorem c_pair {X : List Int} {st dr : Int} {s b : C3} {W : TXT} {N : SC} {z : Nat} (hz : hyS z) {K K1 : Nat} {I : PRS} {D h : Nat} (hI : K ≠ 0 → K = K1 + 1 ∧ MOk X st dr s b W N z 46 [Vr 114, Vx, Vx] K1 I D h) (d : Nat) (a0 : C3) (p0 c0 : Nat) (hd : h + 6 ≤ d) (X0 : XoC W N z p0 c0 K a0) (hc0 : c0 ≤ p0) (ht : tC W p0 = 281 ∨ tC W p0 = 282) : Ev X d 50 0 [Vr 114, Vx] [] (SHv st dr (z : Int), ovl a0 s b) (PoX st dr s b W N z p0 c0 K a0 (D + 1) (paiT W K I p0)) := by
  have hz1 := z11 hz
  obtain ⟨d, rfl⟩ : ∃ d1, d = d1 + 6 := ⟨d - 6, by omega⟩
  have G0 : Gz z c0 a0 a0 := Gz.rf
  have Q0 := X0.le
  refine Ev.steps (k := 2) (pc' := 4) (L' := [Vr 114, Vx]) (S' := [Vi (a0 114 5)]) (h' := ((SHv st dr (z : Int)), (ovl a0 s b))) (fun _ => rfl) ?_
  rw [X0.t5]
  refine Ev.call (k := 2) (pc1 := 6) (L1 := [Vr 114, Vi ((tC W p0 : Nat) : Int)]) (S1 := [Vr 114]) (h1 := ((SHv st dr (z : Int)), (ovl a0 s b))) (m' := 27) (as := [Vr 114]) (S' := []) (L0 := [Vr 114, Vx, Vx, Vx, Vx]) (fun _ => rfl) rfl rfl rfl rfl rfl rfl (c_next X0.1) (fun r h' hq => ?_)
  obtain ⟨rfl, a1, rfl, hq⟩ := hq
  rcases hq with ⟨p1, hx1, ho1⟩ | ⟨e1, hx1, hb1⟩
  · have X1 := X0.nx ho1
    have L1 : p0 < p1 := X0.lt (by omega) hx1
    have G1 := G0.tr (ho1.1.gz (c := c0) X0.hz) (by omega)
    have R1 : a1 (z + 11) = a0 (z + 11) := ho1.1 _ (by omega)
    have Q1 := X1.le
    show Ev X _ _ 9 [Vr 114, Vi ((tC W p0 : Nat) : Int)] [] ((SHv st dr (z : Int)), (ovl a1 s b)) _
    refine Ev.call (k := 2) (pc1 := 12) (L1 := [Vr 114, Vi ((tC W p0 : Nat) : Int)]) (S1 := [Vi 40, Vr 114]) (h1 := ((SHv st dr (z : Int)), (ovl a1 s b))) (m' := 51) (as := [Vr 114, Vi 40]) (S' := []) (L0 := [Vr 114, Vi 40]) (fun _ => rfl) rfl rfl rfl rfl rfl rfl (c_opensX X1 40) (fun r h' hq => ?_)
    obtain ⟨a2, rfl, hq⟩ := hq
    rcases hq with ⟨p2, hx2, rfl, ho2, hX2⟩ | ⟨e2, hx2, rfl | rfl, hb2⟩
    · have K2 := opn_ok hx2
      obtain ⟨hK, HI⟩ := hI K2.2.1
      have X2 := hX2 K1 hK
      have L2 : p1 < p2 := by
        rw [K2.2.2.1]
        exact tok_lt X1.le.1 X1.1.1.1 (by omega) (by omega)
      have G2 := G1.tr (ho2.gz (c := c0) X1.hz) (by omega)
      have Q2 := X2.le
      clear K2
      show Ev X _ _ 15 [Vr 114, Vi ((tC W p0 : Nat) : Int)] [Vi 1] ((SHv st dr (z : Int)), (ovl a2 s b)) _
      refine Ev.call (k := 2) (pc1 := 19) (L1 := [Vr 114, Vi ((tC W p0 : Nat) : Int)]) (S1 := [Vr 114]) (h1 := ((SHv st dr (z : Int)), (ovl a2 s b))) (m' := 46) (as := [Vr 114]) (S' := []) (L0 := [Vr 114, Vx, Vx]) (fun _ => rfl) rfl rfl rfl rfl rfl rfl (HI _ _ _ _ (by omega) X2 (by omega)) (fun r h' hq => ?_)
      obtain ⟨rfl, a3, rfl, hq⟩ := hq
      rcases hq with ⟨⟨l3, p3⟩, hx3, c3, X3, g3, o3, h3⟩ | ⟨e3, hx3, hb3⟩
      · have L3 := o3.lt
        have G3 := G2.tr g3 (by omega)
        have Q3 := X3.le
        dsimp only at h3
        show Ev X _ _ 22 [Vr 114, Vi ((tC W p0 : Nat) : Int)] [] ((SHv st dr (z : Int)), (ovl a3 s b)) _
        refine Ev.call (k := 2) (pc1 := 25) (L1 := [Vr 114, Vi ((tC W p0 : Nat) : Int)]) (S1 := [Vi 44, Vr 114]) (h1 := ((SHv st dr (z : Int)), (ovl a3 s b))) (m' := 42) (as := [Vr 114, Vi 44]) (S' := []) (L0 := [Vr 114, Vi 44]) (fun _ => rfl) rfl rfl rfl rfl rfl rfl (c_expect X3.1 44) (fun r h' hq => ?_)
        obtain ⟨rfl, a4, rfl, hq⟩ := hq
        rcases hq with ⟨p4, hx4, ho4⟩ | ⟨e4, hx4, hb4⟩
        · have X4 := X3.nx ho4
          have L4 : p3 < p4 := by
            obtain ⟨h1, h2⟩ := exp_ok hx4
            exact X3.lt (by omega) (by unfold expT at hx4; rwa [if_neg (by omega)] at hx4)
          have G4 := G3.tr (ho4.1.gz (c := c3) X3.hz) (by omega)
          have R4 : a4 (z + 11) = a3 (z + 11) := ho4.1 _ (by omega)
          have Q4 := X4.le
          show Ev X _ _ 28 [Vr 114, Vi ((tC W p0 : Nat) : Int)] [] ((SHv st dr (z : Int)), (ovl a4 s b)) _
          refine Ev.call (k := 1) (pc1 := 29) (L1 := [Vr 114, Vi ((tC W p0 : Nat) : Int)]) (S1 := [Vr 114]) (h1 := ((SHv st dr (z : Int)), (ovl a4 s b))) (m' := 46) (as := [Vr 114]) (S' := []) (L0 := [Vr 114, Vx, Vx]) (fun _ => rfl) rfl rfl rfl rfl rfl rfl (HI _ _ _ _ (by omega) X4 (by omega)) (fun r h' hq => ?_)
          obtain ⟨rfl, a5, rfl, hq⟩ := hq
          rcases hq with ⟨⟨l5, p5⟩, hx5, c5, X5, g5, o5, h5⟩ | ⟨e5, hx5, hb5⟩
          · have L5 := o5.lt
            have G5 := G4.tr g5 (by omega)
            have Q5 := X5.le
            dsimp only at h5
            show Ev X _ _ 32 [Vr 114, Vi ((tC W p0 : Nat) : Int)] [] ((SHv st dr (z : Int)), (ovl a5 s b)) _
            refine Ev.call (k := 2) (pc1 := 35) (L1 := [Vr 114, Vi ((tC W p0 : Nat) : Int)]) (S1 := [Vi 41, Vr 114]) (h1 := ((SHv st dr (z : Int)), (ovl a5 s b))) (m' := 42) (as := [Vr 114, Vi 41]) (S' := []) (L0 := [Vr 114, Vi 41]) (fun _ => rfl) rfl rfl rfl rfl rfl rfl (c_expect X5.1 41) (fun r h' hq => ?_)
            obtain ⟨rfl, a6, rfl, hq⟩ := hq
            rcases hq with ⟨p6, hx6, ho6⟩ | ⟨e6, hx6, hb6⟩
            · have X6 := X5.nx ho6
              have L6 : p5 < p6 := by
                obtain ⟨h1, h2⟩ := exp_ok hx6
                exact X5.lt (by omega) (by unfold expT at hx6; rwa [if_neg (by omega)] at hx6)
              have G6 := G5.tr (ho6.1.gz (c := c5) X5.hz) (by omega)
              have R6 : a6 (z + 11) = a5 (z + 11) := ho6.1 _ (by omega)
              have Q6 := X6.le
              show Ev X _ _ 38 [Vr 114, Vi ((tC W p0 : Nat) : Int)] [] ((SHv st dr (z : Int)), (ovl a6 s b)) _
              refine Ev.steps (k := 3) (pc' := 43) (L' := [Vr 114, Vi ((tC W p0 : Nat) : Int)]) (S' := [Vi (a6 114 8), Vr 114]) (h' := ((SHv st dr (z : Int)), (ovl a6 s b))) (fun _ => rfl) ?_
              rw [X6.t8]
              refine Ev.steps (k := 2) (pc' := 45) (L' := [Vr 114, Vi ((tC W p0 : Nat) : Int)]) (S' := [Vi (w32 ((8 - (K1 : Int)) - 1)), Vr 114]) (h' := ((SHv st dr (z : Int)), (ovl a6 s b))) (fun _ => rfl) ?_
              rw [show (w32 ((8 - (K1 : Int)) - 1)) = ((8 - (K1 : Int)) - 1) from w32_id (by unfold R32; omega)]
              refine Ev.putf (c' := (ovl (updC a6 114 8 ((8 - (K1 : Int)) - 1)) s b)) rfl (by decide) rfl rfl rfl (ovl_wc (by decide)) ?_
              refine Ev.call (k := 4) (pc1 := 54) (L1 := [Vr 114, Vi ((tC W p0 : Nat) : Int)]) (S1 := [Vi 0, Vi ((tC W p0 : Nat) : Int), Vr (z : Int)]) (h1 := ((SHv st dr (z : Int)), (ovl (updC a6 114 8 ((8 - (K1 : Int)) - 1)) s b))) (m' := 49) (as := [Vr (z : Int), Vi ((tC W p0 : Nat) : Int), Vi 0]) (S' := []) (L0 := [Vr (z : Int), Vi ((tC W p0 : Nat) : Int), Vi 0]) (fun _ => rfl) rfl rfl rfl rfl (stpC_of rfl (pm_recv_of (by omega) (shY_0 hz))) rfl (c_emitX (a := (updC a6 114 8 ((8 - (K1 : Int)) - 1))) (X6.o8 (K1 := K) (by omega) (by omega)) (by omega) (tC W p0) 0 (by omega) (by omega)) (fun r h' hq => ?_)
              obtain ⟨rfl, hq⟩ := hq
              rcases hq with ⟨a7, rfl, X7, g7, E7⟩
              · have G7 := (G6.o8 hz).tr g7 (by omega)
                have Q7 := X7.le
                show Ev X _ _ 57 [Vr 114, Vi ((tC W p0 : Nat) : Int)] [Vi ((c5 : Nat) : Int)] ((SHv st dr (z : Int)), (ovl a7 s b)) _
                refine Ev.fin (k := 2) (r := none) (h' := ((SHv st dr (z : Int)), (ovl a7 s b))) (fun _ => rfl) ?_
                refine ⟨rfl, _, rfl, ?_⟩
                unfold paiT
                rw [hx1, bnX_o, hx2, bnX_o, hx3, bnX_o, hx4, bnX_o, hx5, bnX_o, hx6, bnX_o]
                have e1 : ∀ i, i < c5 → a7 (z + 11) i = a5 (z + 11) i := fun i hi => (g7.2 i hi).trans (by rw [updC_row (by omega), R6])
                have e2 : ∀ i, i < c3 → a7 (z + 11) i = a3 (z + 11) i := fun i hi => (e1 i (by omega)).trans ((g5.2 i (by omega)).trans (by rw [R4]))
                refine Or.inl ⟨_, rfl, _, X7, G7, CoC.bin (D' := D) (by split <;> omega) (by split <;> omega) ((o3.cg (fun i _ hi => e2 i hi)).mo (by omega)) (o5.cg (fun i _ hi => e1 i hi)) (Nat.le_refl _) ?_, by dsimp only; omega⟩
                rw [E7]
                split
                · next hc => rw [hc]; rfl
                · next hc => rw [show tC W p0 = 282 by omega]; rfl
            · have B6 := G5.bd X5 (by omega) hb6
              show Ev X _ _ 38 [Vr 114, Vi ((tC W p0 : Nat) : Int)] [] ((SHv st dr (z : Int)), (ovl a6 s b)) _
              refine Ev.steps (k := 5) (pc' := 45) (L' := [Vr 114, Vi ((tC W p0 : Nat) : Int)]) (S' := [Vi (w32 ((a6 114 8) - 1)), Vr 114]) (h' := ((SHv st dr (z : Int)), (ovl a6 s b))) (fun _ => rfl) ?_
              refine Ev.putf (c' := (ovl (updC a6 114 8 (w32 ((a6 114 8) - 1))) s b)) rfl (by decide) rfl rfl rfl (ovl_wc (by decide)) ?_
              refine Ev.call (k := 4) (pc1 := 54) (L1 := [Vr 114, Vi ((tC W p0 : Nat) : Int)]) (S1 := [Vi 0, Vi ((tC W p0 : Nat) : Int), Vr (z : Int)]) (h1 := ((SHv st dr (z : Int)), (ovl (updC a6 114 8 (w32 ((a6 114 8) - 1))) s b))) (m' := 49) (as := [Vr (z : Int), Vi ((tC W p0 : Nat) : Int), Vi 0]) (S' := []) (L0 := [Vr (z : Int), Vi ((tC W p0 : Nat) : Int), Vi 0]) (fun _ => rfl) rfl rfl rfl rfl (stpC_of rfl (pm_recv_of (by omega) (shY_0 hz))) rfl (c_emit_br hz (B6.o8 hz).2.2.2 ((tC W p0 : Nat) : Int) 0) (fun r h' hq => ?_)
              obtain ⟨v8, a8, rfl, rfl, f1, f2, f3⟩ := hq
              have B8 := (B6.o8 hz).st hz f1 f2 f3
              show Ev X _ _ 57 [Vr 114, Vi ((tC W p0 : Nat) : Int)] [Vi v8] ((SHv st dr (z : Int)), (ovl a8 s b)) _
              refine Ev.fin (k := 2) (r := none) (h' := ((SHv st dr (z : Int)), (ovl a8 s b))) (fun _ => rfl) ?_
              refine ⟨rfl, _, rfl, ?_⟩
              unfold paiT
              rw [hx1, bnX_o, hx2, bnX_o, hx3, bnX_o, hx4, bnX_o, hx5, bnX_o, hx6, bnX_e]
              exact Or.inr ⟨_, rfl, B8⟩
          · have B5 := G4.bz hb5
            show Ev X _ _ 32 [Vr 114, Vi ((tC W p0 : Nat) : Int)] [] ((SHv st dr (z : Int)), (ovl a5 s b)) _
            refine Ev.call (k := 2) (pc1 := 35) (L1 := [Vr 114, Vi ((tC W p0 : Nat) : Int)]) (S1 := [Vi 41, Vr 114]) (h1 := ((SHv st dr (z : Int)), (ovl a5 s b))) (m' := 42) (as := [Vr 114, Vi 41]) (S' := []) (L0 := [Vr 114, Vi 41]) (fun _ => rfl) rfl rfl rfl rfl rfl rfl (c_expect_br B5.2.2.1 41 (by decide)) (fun r h' hq => ?_)
            obtain ⟨rfl, rfl⟩ := hq
            show Ev X _ _ 38 [Vr 114, Vi ((tC W p0 : Nat) : Int)] [] ((SHv st dr (z : Int)), (ovl a5 s b)) _
            refine Ev.steps (k := 5) (pc' := 45) (L' := [Vr 114, Vi ((tC W p0 : Nat) : Int)]) (S' := [Vi (w32 ((a5 114 8) - 1)), Vr 114]) (h' := ((SHv st dr (z : Int)), (ovl a5 s b))) (fun _ => rfl) ?_
            refine Ev.putf (c' := (ovl (updC a5 114 8 (w32 ((a5 114 8) - 1))) s b)) rfl (by decide) rfl rfl rfl (ovl_wc (by decide)) ?_
            refine Ev.call (k := 4) (pc1 := 54) (L1 := [Vr 114, Vi ((tC W p0 : Nat) : Int)]) (S1 := [Vi 0, Vi ((tC W p0 : Nat) : Int), Vr (z : Int)]) (h1 := ((SHv st dr (z : Int)), (ovl (updC a5 114 8 (w32 ((a5 114 8) - 1))) s b))) (m' := 49) (as := [Vr (z : Int), Vi ((tC W p0 : Nat) : Int), Vi 0]) (S' := []) (L0 := [Vr (z : Int), Vi ((tC W p0 : Nat) : Int), Vi 0]) (fun _ => rfl) rfl rfl rfl rfl (stpC_of rfl (pm_recv_of (by omega) (shY_0 hz))) rfl (c_emit_br hz (B5.o8 hz).2.2.2 ((tC W p0 : Nat) : Int) 0) (fun r h' hq => ?_)
            obtain ⟨v9, a9, rfl, rfl, f1, f2, f3⟩ := hq
            have B9 := (B5.o8 hz).st hz f1 f2 f3
            show Ev X _ _ 57 [Vr 114, Vi ((tC W p0 : Nat) : Int)] [Vi v9] ((SHv st dr (z : Int)), (ovl a9 s b)) _
            refine Ev.fin (k := 2) (r := none) (h' := ((SHv st dr (z : Int)), (ovl a9 s b))) (fun _ => rfl) ?_
            refine ⟨rfl, _, rfl, ?_⟩
            unfold paiT
            rw [hx1, bnX_o, hx2, bnX_o, hx3, bnX_o, hx4, bnX_o, hx5, bnX_e]
            exact Or.inr ⟨_, rfl, B9⟩
        · have B4 := G3.bd X3 (by omega) hb4
          show Ev X _ _ 28 [Vr 114, Vi ((tC W p0 : Nat) : Int)] [] ((SHv st dr (z : Int)), (ovl a4 s b)) _
          refine Ev.call (k := 1) (pc1 := 29) (L1 := [Vr 114, Vi ((tC W p0 : Nat) : Int)]) (S1 := [Vr 114]) (h1 := ((SHv st dr (z : Int)), (ovl a4 s b))) (m' := 46) (as := [Vr 114]) (S' := []) (L0 := [Vr 114, Vx, Vx]) (fun _ => rfl) rfl rfl rfl rfl rfl rfl (c_sum_br B4.2.2.1) (fun r h' hq => ?_)
          obtain ⟨rfl, rfl⟩ := hq
          show Ev X _ _ 32 [Vr 114, Vi ((tC W p0 : Nat) : Int)] [] ((SHv st dr (z : Int)), (ovl a4 s b)) _
          refine Ev.call (k := 2) (pc1 := 35) (L1 := [Vr 114, Vi ((tC W p0 : Nat) : Int)]) (S1 := [Vi 41, Vr 114]) (h1 := ((SHv st dr (z : Int)), (ovl a4 s b))) (m' := 42) (as := [Vr 114, Vi 41]) (S' := []) (L0 := [Vr 114, Vi 41]) (fun _ => rfl) rfl rfl rfl rfl rfl rfl (c_expect_br B4.2.2.1 41 (by decide)) (fun r h' hq => ?_)
          obtain ⟨rfl, rfl⟩ := hq
          show Ev X _ _ 38 [Vr 114, Vi ((tC W p0 : Nat) : Int)] [] ((SHv st dr (z : Int)), (ovl a4 s b)) _
          refine Ev.steps (k := 5) (pc' := 45) (L' := [Vr 114, Vi ((tC W p0 : Nat) : Int)]) (S' := [Vi (w32 ((a4 114 8) - 1)), Vr 114]) (h' := ((SHv st dr (z : Int)), (ovl a4 s b))) (fun _ => rfl) ?_
          refine Ev.putf (c' := (ovl (updC a4 114 8 (w32 ((a4 114 8) - 1))) s b)) rfl (by decide) rfl rfl rfl (ovl_wc (by decide)) ?_
          refine Ev.call (k := 4) (pc1 := 54) (L1 := [Vr 114, Vi ((tC W p0 : Nat) : Int)]) (S1 := [Vi 0, Vi ((tC W p0 : Nat) : Int), Vr (z : Int)]) (h1 := ((SHv st dr (z : Int)), (ovl (updC a4 114 8 (w32 ((a4 114 8) - 1))) s b))) (m' := 49) (as := [Vr (z : Int), Vi ((tC W p0 : Nat) : Int), Vi 0]) (S' := []) (L0 := [Vr (z : Int), Vi ((tC W p0 : Nat) : Int), Vi 0]) (fun _ => rfl) rfl rfl rfl rfl (stpC_of rfl (pm_recv_of (by omega) (shY_0 hz))) rfl (c_emit_br hz (B4.o8 hz).2.2.2 ((tC W p0 : Nat) : Int) 0) (fun r h' hq => ?_)
          obtain ⟨v11, a11, rfl, rfl, f1, f2, f3⟩ := hq
          have B11 := (B4.o8 hz).st hz f1 f2 f3
          show Ev X _ _ 57 [Vr 114, Vi ((tC W p0 : Nat) : Int)] [Vi v11] ((SHv st dr (z : Int)), (ovl a11 s b)) _
          refine Ev.fin (k := 2) (r := none) (h' := ((SHv st dr (z : Int)), (ovl a11 s b))) (fun _ => rfl) ?_
          refine ⟨rfl, _, rfl, ?_⟩
          unfold paiT
          rw [hx1, bnX_o, hx2, bnX_o, hx3, bnX_o, hx4, bnX_e]
          exact Or.inr ⟨_, rfl, B11⟩
      · have B3 := G2.bz hb3
        show Ev X _ _ 22 [Vr 114, Vi ((tC W p0 : Nat) : Int)] [] ((SHv st dr (z : Int)), (ovl a3 s b)) _
        refine Ev.call (k := 2) (pc1 := 25) (L1 := [Vr 114, Vi ((tC W p0 : Nat) : Int)]) (S1 := [Vi 44, Vr 114]) (h1 := ((SHv st dr (z : Int)), (ovl a3 s b))) (m' := 42) (as := [Vr 114, Vi 44]) (S' := []) (L0 := [Vr 114, Vi 44]) (fun _ => rfl) rfl rfl rfl rfl rfl rfl (c_expect_br B3.2.2.1 44 (by decide)) (fun r h' hq => ?_)
        obtain ⟨rfl, rfl⟩ := hq
        show Ev X _ _ 28 [Vr 114, Vi ((tC W p0 : Nat) : Int)] [] ((SHv st dr (z : Int)), (ovl a3 s b)) _
        refine Ev.call (k := 1) (pc1 := 29) (L1 := [Vr 114, Vi ((tC W p0 : Nat) : Int)]) (S1 := [Vr 114]) (h1 := ((SHv st dr (z : Int)), (ovl a3 s b))) (m' := 46) (as := [Vr 114]) (S' := []) (L0 := [Vr 114, Vx, Vx]) (fun _ => rfl) rfl rfl rfl rfl rfl rfl (c_sum_br B3.2.2.1) (fun r h' hq => ?_)
        obtain ⟨rfl, rfl⟩ := hq
        show Ev X _ _ 32 [Vr 114, Vi ((tC W p0 : Nat) : Int)] [] ((SHv st dr (z : Int)), (ovl a3 s b)) _
        refine Ev.call (k := 2) (pc1 := 35) (L1 := [Vr 114, Vi ((tC W p0 : Nat) : Int)]) (S1 := [Vi 41, Vr 114]) (h1 := ((SHv st dr (z : Int)), (ovl a3 s b))) (m' := 42) (as := [Vr 114, Vi 41]) (S' := []) (L0 := [Vr 114, Vi 41]) (fun _ => rfl) rfl rfl rfl rfl rfl rfl (c_expect_br B3.2.2.1 41 (by decide)) (fun r h' hq => ?_)
        obtain ⟨rfl, rfl⟩ := hq
        show Ev X _ _ 38 [Vr 114, Vi ((tC W p0 : Nat) : Int)] [] ((SHv st dr (z : Int)), (ovl a3 s b)) _
        refine Ev.steps (k := 5) (pc' := 45) (L' := [Vr 114, Vi ((tC W p0 : Nat) : Int)]) (S' := [Vi (w32 ((a3 114 8) - 1)), Vr 114]) (h' := ((SHv st dr (z : Int)), (ovl a3 s b))) (fun _ => rfl) ?_
        refine Ev.putf (c' := (ovl (updC a3 114 8 (w32 ((a3 114 8) - 1))) s b)) rfl (by decide) rfl rfl rfl (ovl_wc (by decide)) ?_
        refine Ev.call (k := 4) (pc1 := 54) (L1 := [Vr 114, Vi ((tC W p0 : Nat) : Int)]) (S1 := [Vi 0, Vi ((tC W p0 : Nat) : Int), Vr (z : Int)]) (h1 := ((SHv st dr (z : Int)), (ovl (updC a3 114 8 (w32 ((a3 114 8) - 1))) s b))) (m' := 49) (as := [Vr (z : Int), Vi ((tC W p0 : Nat) : Int), Vi 0]) (S' := []) (L0 := [Vr (z : Int), Vi ((tC W p0 : Nat) : Int), Vi 0]) (fun _ => rfl) rfl rfl rfl rfl (stpC_of rfl (pm_recv_of (by omega) (shY_0 hz))) rfl (c_emit_br hz (B3.o8 hz).2.2.2 ((tC W p0 : Nat) : Int) 0) (fun r h' hq => ?_)
        obtain ⟨v13, a13, rfl, rfl, f1, f2, f3⟩ := hq
        have B13 := (B3.o8 hz).st hz f1 f2 f3
        show Ev X _ _ 57 [Vr 114, Vi ((tC W p0 : Nat) : Int)] [Vi v13] ((SHv st dr (z : Int)), (ovl a13 s b)) _
        refine Ev.fin (k := 2) (r := none) (h' := ((SHv st dr (z : Int)), (ovl a13 s b))) (fun _ => rfl) ?_
        refine ⟨rfl, _, rfl, ?_⟩
        unfold paiT
        rw [hx1, bnX_o, hx2, bnX_o, hx3, bnX_e]
        exact Or.inr ⟨_, rfl, B13⟩
    · have B2 := G1.bd X1 (by omega) hb2
      show Ev X _ _ 15 [Vr 114, Vi ((tC W p0 : Nat) : Int)] [Vi 0] ((SHv st dr (z : Int)), (ovl a2 s b)) _
      refine Ev.fin (k := 2) (r := none) (h' := ((SHv st dr (z : Int)), (ovl a2 s b))) (fun _ => rfl) ?_
      refine ⟨rfl, _, rfl, ?_⟩
      unfold paiT
      rw [hx1, bnX_o, hx2, bnX_e]
      exact Or.inr ⟨_, rfl, B2⟩
    · have B2 := G1.bd X1 (by omega) hb2
      show Ev X _ _ 15 [Vr 114, Vi ((tC W p0 : Nat) : Int)] [Vi 1] ((SHv st dr (z : Int)), (ovl a2 s b)) _
      refine Ev.call (k := 2) (pc1 := 19) (L1 := [Vr 114, Vi ((tC W p0 : Nat) : Int)]) (S1 := [Vr 114]) (h1 := ((SHv st dr (z : Int)), (ovl a2 s b))) (m' := 46) (as := [Vr 114]) (S' := []) (L0 := [Vr 114, Vx, Vx]) (fun _ => rfl) rfl rfl rfl rfl rfl rfl (c_sum_br B2.2.2.1) (fun r h' hq => ?_)
      obtain ⟨rfl, rfl⟩ := hq
      show Ev X _ _ 22 [Vr 114, Vi ((tC W p0 : Nat) : Int)] [] ((SHv st dr (z : Int)), (ovl a2 s b)) _
      refine Ev.call (k := 2) (pc1 := 25) (L1 := [Vr 114, Vi ((tC W p0 : Nat) : Int)]) (S1 := [Vi 44, Vr 114]) (h1 := ((SHv st dr (z : Int)), (ovl a2 s b))) (m' := 42) (as := [Vr 114, Vi 44]) (S' := []) (L0 := [Vr 114, Vi 44]) (fun _ => rfl) rfl rfl rfl rfl rfl rfl (c_expect_br B2.2.2.1 44 (by decide)) (fun r h' hq => ?_)
      obtain ⟨rfl, rfl⟩ := hq
      show Ev X _ _ 28 [Vr 114, Vi ((tC W p0 : Nat) : Int)] [] ((SHv st dr (z : Int)), (ovl a2 s b)) _
      refine Ev.call (k := 1) (pc1 := 29) (L1 := [Vr 114, Vi ((tC W p0 : Nat) : Int)]) (S1 := [Vr 114]) (h1 := ((SHv st dr (z : Int)), (ovl a2 s b))) (m' := 46) (as := [Vr 114]) (S' := []) (L0 := [Vr 114, Vx, Vx]) (fun _ => rfl) rfl rfl rfl rfl rfl rfl (c_sum_br B2.2.2.1) (fun r h' hq => ?_)
      obtain ⟨rfl, rfl⟩ := hq
      show Ev X _ _ 32 [Vr 114, Vi ((tC W p0 : Nat) : Int)] [] ((SHv st dr (z : Int)), (ovl a2 s b)) _
      refine Ev.call (k := 2) (pc1 := 35) (L1 := [Vr 114, Vi ((tC W p0 : Nat) : Int)]) (S1 := [Vi 41, Vr 114]) (h1 := ((SHv st dr (z : Int)), (ovl a2 s b))) (m' := 42) (as := [Vr 114, Vi 41]) (S' := []) (L0 := [Vr 114, Vi 41]) (fun _ => rfl) rfl rfl rfl rfl rfl rfl (c_expect_br B2.2.2.1 41 (by decide)) (fun r h' hq => ?_)
      obtain ⟨rfl, rfl⟩ := hq
      show Ev X _ _ 38 [Vr 114, Vi ((tC W p0 : Nat) : Int)] [] ((SHv st dr (z : Int)), (ovl a2 s b)) _
      refine Ev.steps (k := 5) (pc' := 45) (L' := [Vr 114, Vi ((tC W p0 : Nat) : Int)]) (S' := [Vi (w32 ((a2 114 8) - 1)), Vr 114]) (h' := ((SHv st dr (z : Int)), (ovl a2 s b))) (fun _ => rfl) ?_
      refine Ev.putf (c' := (ovl (updC a2 114 8 (w32 ((a2 114 8) - 1))) s b)) rfl (by decide) rfl rfl rfl (ovl_wc (by decide)) ?_
      refine Ev.call (k := 4) (pc1 := 54) (L1 := [Vr 114, Vi ((tC W p0 : Nat) : Int)]) (S1 := [Vi 0, Vi ((tC W p0 : Nat) : Int), Vr (z : Int)]) (h1 := ((SHv st dr (z : Int)), (ovl (updC a2 114 8 (w32 ((a2 114 8) - 1))) s b))) (m' := 49) (as := [Vr (z : Int), Vi ((tC W p0 : Nat) : Int), Vi 0]) (S' := []) (L0 := [Vr (z : Int), Vi ((tC W p0 : Nat) : Int), Vi 0]) (fun _ => rfl) rfl rfl rfl rfl (stpC_of rfl (pm_recv_of (by omega) (shY_0 hz))) rfl (c_emit_br hz (B2.o8 hz).2.2.2 ((tC W p0 : Nat) : Int) 0) (fun r h' hq => ?_)
      obtain ⟨v16, a16, rfl, rfl, f1, f2, f3⟩ := hq
      have B16 := (B2.o8 hz).st hz f1 f2 f3
      show Ev X _ _ 57 [Vr 114, Vi ((tC W p0 : Nat) : Int)] [Vi v16] ((SHv st dr (z : Int)), (ovl a16 s b)) _
      refine Ev.fin (k := 2) (r := none) (h' := ((SHv st dr (z : Int)), (ovl a16 s b))) (fun _ => rfl) ?_
      refine ⟨rfl, _, rfl, ?_⟩
      unfold paiT
      rw [hx1, bnX_o, hx2, bnX_e]
      exact Or.inr ⟨_, rfl, B16⟩
  · have B1 := G0.bd X0 (by omega) hb1
    show Ev X _ _ 9 [Vr 114, Vi ((tC W p0 : Nat) : Int)] [] ((SHv st dr (z : Int)), (ovl a1 s b)) _
    refine Ev.call (k := 2) (pc1 := 12) (L1 := [Vr 114, Vi ((tC W p0 : Nat) : Int)]) (S1 := [Vi 40, Vr 114]) (h1 := ((SHv st dr (z : Int)), (ovl a1 s b))) (m' := 51) (as := [Vr 114, Vi 40]) (S' := []) (L0 := [Vr 114, Vi 40]) (fun _ => rfl) rfl rfl rfl rfl rfl rfl (c_opens_br B1.2.2.1 40 (by decide)) (fun r h' hq => ?_)
    obtain ⟨rfl, rfl⟩ := hq
    show Ev X _ _ 15 [Vr 114, Vi ((tC W p0 : Nat) : Int)] [Vi 0] ((SHv st dr (z : Int)), (ovl a1 s b)) _
    refine Ev.fin (k := 2) (r := none) (h' := ((SHv st dr (z : Int)), (ovl a1 s b))) (fun _ => rfl) ?_
    refine ⟨rfl, _, rfl, ?_⟩
    unfold paiT
    rw [hx1, bnX_e]
    exact Or.inr ⟨_, rfl, B1⟩
theorem c_part {X : List Int} {st dr : Int} {s b : C3} {W : TXT} {N : SC} {z : Nat} (hz : hyS z) {K K1 : Nat} {I : PRS} {D h : Nat} (hI : K ≠ 0 → K = K1 + 1 ∧ MOk X st dr s b W N z 46 [Vr 114, Vx, Vx] K1 I D h) : MOk X st dr s b W N z 48 [Vr 114] K (prtT W N K I) (D + 1) (h + 7) := by
  intro d a0 p0 c0 hd X0 hc0
  have hz1 := z11 hz
  obtain ⟨d, rfl⟩ : ∃ d1, d = d1 + 7 := ⟨d - 7, by omega⟩
  have G0 : Gz z c0 a0 a0 := Gz.rf
  have Q0 := X0.le
  have hl0 : tC W p0 ≠ 302 → p0 < W.2 := fun h => Nat.lt_of_lt_of_le (tok_lt X0.le.1 X0.1.1.1 h X0.1.2.2.2.2.2.2.2.2.1) (tok_rg X0.le.1 X0.1.1.1).2
  have hv0 : tC W p0 = 301 → tV W p0 ≤ 9999 := (tok_pr X0.le.1 X0.1.1.1).2.2.2.2.2.2.1
  refine Ev.steps (k := 2) (pc' := 4) (L' := [Vr 114]) (S' := [Vi (a0 114 5)]) (h' := ((SHv st dr (z : Int)), (ovl a0 s b))) (fun _ => rfl) ?_
  rw [X0.t5]
  refine Ev.ite (P := ((tC W p0 : Nat) : Int) ≠ 301) (k := 2) (a := 32) (b := 10) (L' := [Vr 114]) (S' := []) (h' := ((SHv st dr (z : Int)), (ovl a0 s b))) (fun _ => rfl) (fun b7 => ?_) (fun b7 => ?_)
  · refine Ev.steps (k := 2) (pc' := 36) (L' := [Vr 114]) (S' := [Vi (a0 114 5)]) (h' := ((SHv st dr (z : Int)), (ovl a0 s b))) (fun _ => rfl) ?_
    rw [X0.t5]
    refine Ev.ite (P := ((tC W p0 : Nat) : Int) ≠ 279) (k := 2) (a := 61) (b := 42) (L' := [Vr 114]) (S' := []) (h' := ((SHv st dr (z : Int)), (ovl a0 s b))) (fun _ => rfl) (fun b39 => ?_) (fun b39 => ?_)
    · refine Ev.steps (k := 2) (pc' := 65) (L' := [Vr 114]) (S' := [Vi (a0 114 5)]) (h' := ((SHv st dr (z : Int)), (ovl a0 s b))) (fun _ => rfl) ?_
      rw [X0.t5]
      refine Ev.ite (P := ((tC W p0 : Nat) : Int) ≠ 280) (k := 2) (a := 95) (b := 71) (L' := [Vr 114]) (S' := []) (h' := ((SHv st dr (z : Int)), (ovl a0 s b))) (fun _ => rfl) (fun b68 => ?_) (fun b68 => ?_)
      · refine Ev.steps (k := 2) (pc' := 99) (L' := [Vr 114]) (S' := [Vi (a0 114 5)]) (h' := ((SHv st dr (z : Int)), (ovl a0 s b))) (fun _ => rfl) ?_
        rw [X0.t5]
        refine Ev.ite (P := ((tC W p0 : Nat) : Int) = 281) (k := 2) (a := 115) (b := 105) (L' := [Vr 114]) (S' := []) (h' := ((SHv st dr (z : Int)), (ovl a0 s b))) (fun _ => rfl) (fun b102 => ?_) (fun b102 => ?_)
        · refine Ev.call (k := 1) (pc1 := 116) (L1 := [Vr 114]) (S1 := [Vr 114]) (h1 := ((SHv st dr (z : Int)), (ovl a0 s b))) (m' := 50) (as := [Vr 114]) (S' := []) (L0 := [Vr 114, Vx]) (fun _ => rfl) rfl rfl rfl rfl rfl rfl (c_pair hz hI _ _ _ _ (by omega) X0 hc0 (by omega)) (fun r h' hq => ?_)
          obtain ⟨rfl, a99, rfl, hq⟩ := hq
          rcases hq with hq
          · show Ev X _ _ 119 [Vr 114] [] ((SHv st dr (z : Int)), (ovl a99 s b)) _
            refine Ev.fin (k := 2) (r := none) (h' := ((SHv st dr (z : Int)), (ovl a99 s b))) (fun _ => rfl) ?_
            refine ⟨rfl, _, rfl, ?_⟩
            unfold prtT
            rw [if_neg (by omega), if_neg (by omega), if_neg (by omega), if_pos (by omega)]
            exact hq
        · refine Ev.steps (k := 2) (pc' := 109) (L' := [Vr 114]) (S' := [Vi (a0 114 5)]) (h' := ((SHv st dr (z : Int)), (ovl a0 s b))) (fun _ => rfl) ?_
          rw [X0.t5]
          refine Ev.ite (P := ((tC W p0 : Nat) : Int) ≠ 282) (k := 2) (a := 122) (b := 115) (L' := [Vr 114]) (S' := []) (h' := ((SHv st dr (z : Int)), (ovl a0 s b))) (fun _ => rfl) (fun b112 => ?_) (fun b112 => ?_)
          · refine Ev.call (k := 2) (pc1 := 125) (L1 := [Vr 114]) (S1 := [Vi 40, Vr 114]) (h1 := ((SHv st dr (z : Int)), (ovl a0 s b))) (m' := 51) (as := [Vr 114, Vi 40]) (S' := []) (L0 := [Vr 114, Vi 40]) (fun _ => rfl) rfl rfl rfl rfl rfl rfl (c_opensX X0 40) (fun r h' hq => ?_)
            obtain ⟨a17, rfl, hq⟩ := hq
            rcases hq with ⟨p17, hx17, rfl, ho17, hX17⟩ | ⟨e17, hx17, rfl | rfl, hb17⟩
            · have K17 := opn_ok hx17
              obtain ⟨hK, HI⟩ := hI K17.2.1
              have X17 := hX17 K1 hK
              have L17 : p0 < p17 := by
                rw [K17.2.2.1]
                exact tok_lt X0.le.1 X0.1.1.1 (by omega) (by omega)
              have G17 := G0.tr (ho17.gz (c := c0) X0.hz) (by omega)
              have Q17 := X17.le
              clear K17
              show Ev X _ _ 128 [Vr 114] [Vi 1] ((SHv st dr (z : Int)), (ovl a17 s b)) _
              refine Ev.call (k := 2) (pc1 := 132) (L1 := [Vr 114]) (S1 := [Vr 114]) (h1 := ((SHv st dr (z : Int)), (ovl a17 s b))) (m' := 46) (as := [Vr 114]) (S' := []) (L0 := [Vr 114, Vx, Vx]) (fun _ => rfl) rfl rfl rfl rfl rfl rfl (HI _ _ _ _ (by omega) X17 (by omega)) (fun r h' hq => ?_)
              obtain ⟨rfl, a18, rfl, hq⟩ := hq
              rcases hq with ⟨⟨l18, p18⟩, hx18, c18, X18, g18, o18, h18⟩ | ⟨e18, hx18, hb18⟩
              · have L18 := o18.lt
                have G18 := G17.tr g18 (by omega)
                have Q18 := X18.le
                dsimp only at h18
                show Ev X _ _ 135 [Vr 114] [] ((SHv st dr (z : Int)), (ovl a18 s b)) _
                refine Ev.call (k := 2) (pc1 := 138) (L1 := [Vr 114]) (S1 := [Vi 41, Vr 114]) (h1 := ((SHv st dr (z : Int)), (ovl a18 s b))) (m' := 42) (as := [Vr 114, Vi 41]) (S' := []) (L0 := [Vr 114, Vi 41]) (fun _ => rfl) rfl rfl rfl rfl rfl rfl (c_expect X18.1 41) (fun r h' hq => ?_)
                obtain ⟨rfl, a19, rfl, hq⟩ := hq
                rcases hq with ⟨p19, hx19, ho19⟩ | ⟨e19, hx19, hb19⟩
                · have X19 := X18.nx ho19
                  have L19 : p18 < p19 := by
                    obtain ⟨h1, h2⟩ := exp_ok hx19
                    exact X18.lt (by omega) (by unfold expT at hx19; rwa [if_neg (by omega)] at hx19)
                  have G19 := G18.tr (ho19.1.gz (c := c18) X18.hz) (by omega)
                  have R19 : a19 (z + 11) = a18 (z + 11) := ho19.1 _ (by omega)
                  have Q19 := X19.le
                  show Ev X _ _ 141 [Vr 114] [] ((SHv st dr (z : Int)), (ovl a19 s b)) _
                  refine Ev.steps (k := 3) (pc' := 146) (L' := [Vr 114]) (S' := [Vi (a19 114 8), Vr 114]) (h' := ((SHv st dr (z : Int)), (ovl a19 s b))) (fun _ => rfl) ?_
                  rw [X19.t8]
                  refine Ev.steps (k := 2) (pc' := 148) (L' := [Vr 114]) (S' := [Vi (w32 ((8 - (K1 : Int)) - 1)), Vr 114]) (h' := ((SHv st dr (z : Int)), (ovl a19 s b))) (fun _ => rfl) ?_
                  rw [show (w32 ((8 - (K1 : Int)) - 1)) = ((8 - (K1 : Int)) - 1) from w32_id (by unfold R32; omega)]
                  refine Ev.putf (c' := (ovl (updC a19 114 8 ((8 - (K1 : Int)) - 1)) s b)) rfl (by decide) rfl rfl rfl (ovl_wc (by decide)) ?_
                  refine Ev.fin (k := 1) (r := none) (h' := ((SHv st dr (z : Int)), (ovl (updC a19 114 8 ((8 - (K1 : Int)) - 1)) s b))) (fun _ => rfl) ?_
                  refine ⟨rfl, _, rfl, ?_⟩
                  unfold prtT parT
                  rw [if_neg (by omega), if_neg (by omega), if_neg (by omega), if_neg (by omega), hx17, bnX_o, hx18, bnX_o, hx19, bnX_o]
                  exact Or.inl ⟨_, rfl, _, X19.o8 (by omega) (by omega), G19.o8 hz, (o18.cg (fun i _ _ => by rw [updC_row (by omega), R19])).mo (by omega), by dsimp only; omega⟩
                · have B19 := G18.bd X18 (by omega) hb19
                  show Ev X _ _ 141 [Vr 114] [] ((SHv st dr (z : Int)), (ovl a19 s b)) _
                  refine Ev.steps (k := 5) (pc' := 148) (L' := [Vr 114]) (S' := [Vi (w32 ((a19 114 8) - 1)), Vr 114]) (h' := ((SHv st dr (z : Int)), (ovl a19 s b))) (fun _ => rfl) ?_
                  refine Ev.putf (c' := (ovl (updC a19 114 8 (w32 ((a19 114 8) - 1))) s b)) rfl (by decide) rfl rfl rfl (ovl_wc (by decide)) ?_
                  refine Ev.fin (k := 1) (r := none) (h' := ((SHv st dr (z : Int)), (ovl (updC a19 114 8 (w32 ((a19 114 8) - 1))) s b))) (fun _ => rfl) ?_
                  refine ⟨rfl, _, rfl, ?_⟩
                  unfold prtT parT
                  first
                    | (rw [if_pos (by omega), hx17, bnX_o, hx18, bnX_o, hx19, bnX_e]
                       exact Or.inr ⟨_, rfl, B19.o8 hz⟩)
                    | (rw [if_neg (by omega), if_pos (by omega), hx17, bnX_o, hx18, bnX_o, hx19, bnX_e]
                       exact Or.inr ⟨_, rfl, B19.o8 hz⟩)
                    | (rw [if_neg (by omega), if_neg (by omega), if_pos (by omega), hx17, bnX_o, hx18, bnX_o, hx19, bnX_e]
                       exact Or.inr ⟨_, rfl, B19.o8 hz⟩)
                    | (rw [if_neg (by omega), if_neg (by omega), if_neg (by omega), if_neg (by omega), hx17, bnX_o, hx18, bnX_o, hx19, bnX_e]
                       exact Or.inr ⟨_, rfl, B19.o8 hz⟩)
              · have B18 := G17.bz hb18
                show Ev X _ _ 135 [Vr 114] [] ((SHv st dr (z : Int)), (ovl a18 s b)) _
                refine Ev.call (k := 2) (pc1 := 138) (L1 := [Vr 114]) (S1 := [Vi 41, Vr 114]) (h1 := ((SHv st dr (z : Int)), (ovl a18 s b))) (m' := 42) (as := [Vr 114, Vi 41]) (S' := []) (L0 := [Vr 114, Vi 41]) (fun _ => rfl) rfl rfl rfl rfl rfl rfl (c_expect_br B18.2.2.1 41 (by decide)) (fun r h' hq => ?_)
                obtain ⟨rfl, rfl⟩ := hq
                show Ev X _ _ 141 [Vr 114] [] ((SHv st dr (z : Int)), (ovl a18 s b)) _
                refine Ev.steps (k := 5) (pc' := 148) (L' := [Vr 114]) (S' := [Vi (w32 ((a18 114 8) - 1)), Vr 114]) (h' := ((SHv st dr (z : Int)), (ovl a18 s b))) (fun _ => rfl) ?_
                refine Ev.putf (c' := (ovl (updC a18 114 8 (w32 ((a18 114 8) - 1))) s b)) rfl (by decide) rfl rfl rfl (ovl_wc (by decide)) ?_
                refine Ev.fin (k := 1) (r := none) (h' := ((SHv st dr (z : Int)), (ovl (updC a18 114 8 (w32 ((a18 114 8) - 1))) s b))) (fun _ => rfl) ?_
                refine ⟨rfl, _, rfl, ?_⟩
                unfold prtT parT
                first
                  | (rw [if_pos (by omega), hx17, bnX_o, hx18, bnX_e]
                     exact Or.inr ⟨_, rfl, B18.o8 hz⟩)
                  | (rw [if_neg (by omega), if_pos (by omega), hx17, bnX_o, hx18, bnX_e]
                     exact Or.inr ⟨_, rfl, B18.o8 hz⟩)
                  | (rw [if_neg (by omega), if_neg (by omega), if_pos (by omega), hx17, bnX_o, hx18, bnX_e]
                     exact Or.inr ⟨_, rfl, B18.o8 hz⟩)
                  | (rw [if_neg (by omega), if_neg (by omega), if_neg (by omega), if_neg (by omega), hx17, bnX_o, hx18, bnX_e]
                     exact Or.inr ⟨_, rfl, B18.o8 hz⟩)
            · have B17 := G0.bd X0 (by omega) hb17
              show Ev X _ _ 128 [Vr 114] [Vi 0] ((SHv st dr (z : Int)), (ovl a17 s b)) _
              refine Ev.fin (k := 2) (r := none) (h' := ((SHv st dr (z : Int)), (ovl a17 s b))) (fun _ => rfl) ?_
              refine ⟨rfl, _, rfl, ?_⟩
              unfold prtT parT
              first
                | (rw [if_pos (by omega), hx17, bnX_e]
                   exact Or.inr ⟨_, rfl, B17⟩)
                | (rw [if_neg (by omega), if_pos (by omega), hx17, bnX_e]
                   exact Or.inr ⟨_, rfl, B17⟩)
                | (rw [if_neg (by omega), if_neg (by omega), if_pos (by omega), hx17, bnX_e]
                   exact Or.inr ⟨_, rfl, B17⟩)
                | (rw [if_neg (by omega), if_neg (by omega), if_neg (by omega), if_neg (by omega), hx17, bnX_e]
                   exact Or.inr ⟨_, rfl, B17⟩)
            · have B17 := G0.bd X0 (by omega) hb17
              show Ev X _ _ 128 [Vr 114] [Vi 1] ((SHv st dr (z : Int)), (ovl a17 s b)) _
              refine Ev.call (k := 2) (pc1 := 132) (L1 := [Vr 114]) (S1 := [Vr 114]) (h1 := ((SHv st dr (z : Int)), (ovl a17 s b))) (m' := 46) (as := [Vr 114]) (S' := []) (L0 := [Vr 114, Vx, Vx]) (fun _ => rfl) rfl rfl rfl rfl rfl rfl (c_sum_br B17.2.2.1) (fun r h' hq => ?_)
              obtain ⟨rfl, rfl⟩ := hq
              show Ev X _ _ 135 [Vr 114] [] ((SHv st dr (z : Int)), (ovl a17 s b)) _
              refine Ev.call (k := 2) (pc1 := 138) (L1 := [Vr 114]) (S1 := [Vi 41, Vr 114]) (h1 := ((SHv st dr (z : Int)), (ovl a17 s b))) (m' := 42) (as := [Vr 114, Vi 41]) (S' := []) (L0 := [Vr 114, Vi 41]) (fun _ => rfl) rfl rfl rfl rfl rfl rfl (c_expect_br B17.2.2.1 41 (by decide)) (fun r h' hq => ?_)
              obtain ⟨rfl, rfl⟩ := hq
              show Ev X _ _ 141 [Vr 114] [] ((SHv st dr (z : Int)), (ovl a17 s b)) _
              refine Ev.steps (k := 5) (pc' := 148) (L' := [Vr 114]) (S' := [Vi (w32 ((a17 114 8) - 1)), Vr 114]) (h' := ((SHv st dr (z : Int)), (ovl a17 s b))) (fun _ => rfl) ?_
              refine Ev.putf (c' := (ovl (updC a17 114 8 (w32 ((a17 114 8) - 1))) s b)) rfl (by decide) rfl rfl rfl (ovl_wc (by decide)) ?_
              refine Ev.fin (k := 1) (r := none) (h' := ((SHv st dr (z : Int)), (ovl (updC a17 114 8 (w32 ((a17 114 8) - 1))) s b))) (fun _ => rfl) ?_
              refine ⟨rfl, _, rfl, ?_⟩
              unfold prtT parT
              first
                | (rw [if_pos (by omega), hx17, bnX_e]
                   exact Or.inr ⟨_, rfl, B17.o8 hz⟩)
                | (rw [if_neg (by omega), if_pos (by omega), hx17, bnX_e]
                   exact Or.inr ⟨_, rfl, B17.o8 hz⟩)
                | (rw [if_neg (by omega), if_neg (by omega), if_pos (by omega), hx17, bnX_e]
                   exact Or.inr ⟨_, rfl, B17.o8 hz⟩)
                | (rw [if_neg (by omega), if_neg (by omega), if_neg (by omega), if_neg (by omega), hx17, bnX_e]
                   exact Or.inr ⟨_, rfl, B17.o8 hz⟩)
          · refine Ev.call (k := 1) (pc1 := 116) (L1 := [Vr 114]) (S1 := [Vr 114]) (h1 := ((SHv st dr (z : Int)), (ovl a0 s b))) (m' := 50) (as := [Vr 114]) (S' := []) (L0 := [Vr 114, Vx]) (fun _ => rfl) rfl rfl rfl rfl rfl rfl (c_pair hz hI _ _ _ _ (by omega) X0 hc0 (by omega)) (fun r h' hq => ?_)
            obtain ⟨rfl, a99, rfl, hq⟩ := hq
            rcases hq with hq
            · show Ev X _ _ 119 [Vr 114] [] ((SHv st dr (z : Int)), (ovl a99 s b)) _
              refine Ev.fin (k := 2) (r := none) (h' := ((SHv st dr (z : Int)), (ovl a99 s b))) (fun _ => rfl) ?_
              refine ⟨rfl, _, rfl, ?_⟩
              unfold prtT
              rw [if_neg (by omega), if_neg (by omega), if_neg (by omega), if_pos (by omega)]
              exact hq
      · refine Ev.call (k := 1) (pc1 := 72) (L1 := [Vr 114]) (S1 := [Vr 114]) (h1 := ((SHv st dr (z : Int)), (ovl a0 s b))) (m' := 27) (as := [Vr 114]) (S' := []) (L0 := [Vr 114, Vx, Vx, Vx, Vx]) (fun _ => rfl) rfl rfl rfl rfl rfl rfl (c_next X0.1) (fun r h' hq => ?_)
        obtain ⟨rfl, a21, rfl, hq⟩ := hq
        rcases hq with ⟨p21, hx21, ho21⟩ | ⟨e21, hx21, hb21⟩
        · have X21 := X0.nx ho21
          have L21 : p0 < p21 := X0.lt (by omega) hx21
          have G21 := G0.tr (ho21.1.gz (c := c0) X0.hz) (by omega)
          have R21 : a21 (z + 11) = a0 (z + 11) := ho21.1 _ (by omega)
          have Q21 := X21.le
          show Ev X _ _ 75 [Vr 114] [] ((SHv st dr (z : Int)), (ovl a21 s b)) _
          refine Ev.call (k := 6) (pc1 := 85) (L1 := [Vr 114]) (S1 := [Vi (-1), Vi 2, Vr 114, Vi 280, Vr (z : Int)]) (h1 := ((SHv st dr (z : Int)), (ovl a21 s b))) (m' := 38) (as := [Vr 114, Vi 2, Vi (-1)]) (S' := [Vi 280, Vr (z : Int)]) (L0 := [Vr 114, Vi 2, Vi (-1), Vx]) (fun _ => rfl) rfl rfl rfl rfl rfl rfl (c_asked X21.hz X21.1 (kd := 1) (q := 2) X21.2.1 (by decide) rfl (-1) rfl) (fun r h' hq => ?_)
          obtain ⟨a22, rfl, hq⟩ := hq
          rcases hq with ⟨⟨i22, p22⟩, hx22, rfl, ho22⟩ | ⟨e22, hx22, ⟨v22, rfl, hv22⟩, hb22⟩
          · have K22 := ask_ok hx22
            have X22 := X21.nx ho22
            have L22 : p21 < p22 := by
              rw [show p22 = tE W p21 from K22.2.2.2.2.1]
              exact tok_lt X21.le.1 X21.1.1.1 (by omega) (by omega)
            have I22 := K22.2.2.1
            have J22 := (X21.2.1 1 (by decide)).1
            have G22 := G21.tr (ho22.1.gz (c := c0) X21.hz) (by omega)
            have R22 : a22 (z + 11) = a21 (z + 11) := ho22.1 _ (by omega)
            have Q22 := X22.le
            clear K22
            show Ev X _ _ 88 [Vr 114] [Vi ((i22 : Nat) : Int), Vi 280, Vr (z : Int)] ((SHv st dr (z : Int)), (ovl a22 s b)) _
            refine Ev.call (k := 0) (pc1 := 88) (L1 := [Vr 114]) (S1 := [Vi ((i22 : Nat) : Int), Vi 280, Vr (z : Int)]) (h1 := ((SHv st dr (z : Int)), (ovl a22 s b))) (m' := 49) (as := [Vr (z : Int), Vi 280, Vi ((i22 : Nat) : Int)]) (S' := []) (L0 := [Vr (z : Int), Vi 280, Vi ((i22 : Nat) : Int)]) (fun _ => rfl) rfl rfl rfl rfl (stpC_of rfl (pm_recv_of (by omega) (shY_0 hz))) rfl (c_emitX (a := a22) X22 (by omega) 280 (i22) (by omega) (by omega)) (fun r h' hq => ?_)
            obtain ⟨rfl, hq⟩ := hq
            rcases hq with ⟨a23, rfl, X23, g23, E23⟩
            · have G23 := G22.tr g23 (by omega)
              have Q23 := X23.le
              show Ev X _ _ 91 [Vr 114] [Vi ((c0 : Nat) : Int)] ((SHv st dr (z : Int)), (ovl a23 s b)) _
              refine Ev.fin (k := 3) (r := none) (h' := ((SHv st dr (z : Int)), (ovl a23 s b))) (fun _ => rfl) ?_
              refine ⟨rfl, _, rfl, ?_⟩
              unfold prtT
              rw [if_neg (by omega), if_neg (by omega), if_pos (by omega), hx21, bnX_o, hx22, bnX_o]
              exact Or.inl ⟨_, rfl, _, X23, G23, CoC.leaf (q := (2, i22)) (by show 2 ≤ 9; omega) (by omega) E23, by dsimp only; omega⟩
          · have B22 := G21.bd X21 (by omega) hb22
            show Ev X _ _ 88 [Vr 114] [Vi v22, Vi 280, Vr (z : Int)] ((SHv st dr (z : Int)), (ovl a22 s b)) _
            refine Ev.call (k := 0) (pc1 := 88) (L1 := [Vr 114]) (S1 := [Vi v22, Vi 280, Vr (z : Int)]) (h1 := ((SHv st dr (z : Int)), (ovl a22 s b))) (m' := 49) (as := [Vr (z : Int), Vi 280, Vi v22]) (S' := []) (L0 := [Vr (z : Int), Vi 280, Vi v22]) (fun _ => rfl) rfl rfl rfl rfl (stpC_of rfl (pm_recv_of (by omega) (shY_0 hz))) rfl (c_emit_br hz (B22).2.2.2 280 v22) (fun r h' hq => ?_)
            obtain ⟨v24, a24, rfl, rfl, f1, f2, f3⟩ := hq
            have B24 := (B22).st hz f1 f2 f3
            show Ev X _ _ 91 [Vr 114] [Vi v24] ((SHv st dr (z : Int)), (ovl a24 s b)) _
            refine Ev.fin (k := 3) (r := none) (h' := ((SHv st dr (z : Int)), (ovl a24 s b))) (fun _ => rfl) ?_
            refine ⟨rfl, _, rfl, ?_⟩
            unfold prtT parT
            first
              | (rw [if_pos (by omega), hx21, bnX_o, hx22, bnX_e]
                 exact Or.inr ⟨_, rfl, B24⟩)
              | (rw [if_neg (by omega), if_pos (by omega), hx21, bnX_o, hx22, bnX_e]
                 exact Or.inr ⟨_, rfl, B24⟩)
              | (rw [if_neg (by omega), if_neg (by omega), if_pos (by omega), hx21, bnX_o, hx22, bnX_e]
                 exact Or.inr ⟨_, rfl, B24⟩)
              | (rw [if_neg (by omega), if_neg (by omega), if_neg (by omega), if_neg (by omega), hx21, bnX_o, hx22, bnX_e]
                 exact Or.inr ⟨_, rfl, B24⟩)
        · have B21 := G0.bd X0 (by omega) hb21
          show Ev X _ _ 75 [Vr 114] [] ((SHv st dr (z : Int)), (ovl a21 s b)) _
          refine Ev.call (k := 6) (pc1 := 85) (L1 := [Vr 114]) (S1 := [Vi (-1), Vi 2, Vr 114, Vi 280, Vr (z : Int)]) (h1 := ((SHv st dr (z : Int)), (ovl a21 s b))) (m' := 38) (as := [Vr 114, Vi 2, Vi (-1)]) (S' := [Vi 280, Vr (z : Int)]) (L0 := [Vr 114, Vi 2, Vi (-1), Vx]) (fun _ => rfl) rfl rfl rfl rfl rfl rfl (c_asked_br B21.2.2.1 2 (-1)) (fun r h' hq => ?_)
          obtain ⟨rfl, rfl⟩ := hq
          show Ev X _ _ 88 [Vr 114] [Vi (-1), Vi 280, Vr (z : Int)] ((SHv st dr (z : Int)), (ovl a21 s b)) _
          refine Ev.call (k := 0) (pc1 := 88) (L1 := [Vr 114]) (S1 := [Vi (-1), Vi 280, Vr (z : Int)]) (h1 := ((SHv st dr (z : Int)), (ovl a21 s b))) (m' := 49) (as := [Vr (z : Int), Vi 280, Vi (-1)]) (S' := []) (L0 := [Vr (z : Int), Vi 280, Vi (-1)]) (fun _ => rfl) rfl rfl rfl rfl (stpC_of rfl (pm_recv_of (by omega) (shY_0 hz))) rfl (c_emit_br hz (B21).2.2.2 280 (-1)) (fun r h' hq => ?_)
          obtain ⟨v25, a25, rfl, rfl, f1, f2, f3⟩ := hq
          have B25 := (B21).st hz f1 f2 f3
          show Ev X _ _ 91 [Vr 114] [Vi v25] ((SHv st dr (z : Int)), (ovl a25 s b)) _
          refine Ev.fin (k := 3) (r := none) (h' := ((SHv st dr (z : Int)), (ovl a25 s b))) (fun _ => rfl) ?_
          refine ⟨rfl, _, rfl, ?_⟩
          unfold prtT parT
          first
            | (rw [if_pos (by omega), hx21, bnX_e]
               exact Or.inr ⟨_, rfl, B25⟩)
            | (rw [if_neg (by omega), if_pos (by omega), hx21, bnX_e]
               exact Or.inr ⟨_, rfl, B25⟩)
            | (rw [if_neg (by omega), if_neg (by omega), if_pos (by omega), hx21, bnX_e]
               exact Or.inr ⟨_, rfl, B25⟩)
            | (rw [if_neg (by omega), if_neg (by omega), if_neg (by omega), if_neg (by omega), hx21, bnX_e]
               exact Or.inr ⟨_, rfl, B25⟩)
    · refine Ev.call (k := 4) (pc1 := 50) (L1 := [Vr 114]) (S1 := [Vi 0, Vi 279, Vr (z : Int)]) (h1 := ((SHv st dr (z : Int)), (ovl a0 s b))) (m' := 49) (as := [Vr (z : Int), Vi 279, Vi 0]) (S' := []) (L0 := [Vr (z : Int), Vi 279, Vi 0]) (fun _ => rfl) rfl rfl rfl rfl (stpC_of rfl (pm_recv_of (by omega) (shY_0 hz))) rfl (c_emitX (a := a0) X0 (by omega) 279 0 (by omega) (by omega)) (fun r h' hq => ?_)
      obtain ⟨rfl, hq⟩ := hq
      rcases hq with ⟨a26, rfl, X26, g26, E26⟩
      · have G26 := G0.tr g26 (by omega)
        have Q26 := X26.le
        show Ev X _ _ 53 [Vr 114] [Vi ((c0 : Nat) : Int)] ((SHv st dr (z : Int)), (ovl a26 s b)) _
        refine Ev.call (k := 2) (pc1 := 55) (L1 := [Vr 114]) (S1 := [Vr 114]) (h1 := ((SHv st dr (z : Int)), (ovl a26 s b))) (m' := 27) (as := [Vr 114]) (S' := []) (L0 := [Vr 114, Vx, Vx, Vx, Vx]) (fun _ => rfl) rfl rfl rfl rfl rfl rfl (c_next X26.1) (fun r h' hq => ?_)
        obtain ⟨rfl, a27, rfl, hq⟩ := hq
        rcases hq with ⟨p27, hx27, ho27⟩ | ⟨e27, hx27, hb27⟩
        · have X27 := X26.nx ho27
          have L27 : p0 < p27 := X26.lt (by omega) hx27
          have G27 := G26.tr (ho27.1.gz (c := (c0 + 1)) X26.hz) (by omega)
          have R27 : a27 (z + 11) = a26 (z + 11) := ho27.1 _ (by omega)
          have Q27 := X27.le
          show Ev X _ _ 58 [Vr 114] [] ((SHv st dr (z : Int)), (ovl a27 s b)) _
          refine Ev.fin (k := 2) (r := none) (h' := ((SHv st dr (z : Int)), (ovl a27 s b))) (fun _ => rfl) ?_
          refine ⟨rfl, _, rfl, ?_⟩
          unfold prtT
          have e : a27 (z + 11) c0 = a26 (z + 11) c0 := by rw [R27]
          rw [E26] at e
          first
            | (rw [if_pos (by omega), hx27, bnX_o]
               exact Or.inl ⟨_, rfl, _, X27, G27, CoC.leaf (q := (0, tV W p0)) (by show 0 ≤ 9; omega) (by omega) e, by dsimp only; omega⟩)
            | (rw [if_neg (by omega), if_pos (by omega), hx27, bnX_o]
               exact Or.inl ⟨_, rfl, _, X27, G27, CoC.leaf (q := (1, 0)) (by show 1 ≤ 9; omega) (by omega) e, by dsimp only; omega⟩)
        · have B27 := G26.bd X26 (by omega) hb27
          show Ev X _ _ 58 [Vr 114] [] ((SHv st dr (z : Int)), (ovl a27 s b)) _
          refine Ev.fin (k := 2) (r := none) (h' := ((SHv st dr (z : Int)), (ovl a27 s b))) (fun _ => rfl) ?_
          refine ⟨rfl, _, rfl, ?_⟩
          unfold prtT parT
          first
            | (rw [if_pos (by omega), hx27, bnX_e]
               exact Or.inr ⟨_, rfl, B27⟩)
            | (rw [if_neg (by omega), if_pos (by omega), hx27, bnX_e]
               exact Or.inr ⟨_, rfl, B27⟩)
            | (rw [if_neg (by omega), if_neg (by omega), if_pos (by omega), hx27, bnX_e]
               exact Or.inr ⟨_, rfl, B27⟩)
            | (rw [if_neg (by omega), if_neg (by omega), if_neg (by omega), if_neg (by omega), hx27, bnX_e]
               exact Or.inr ⟨_, rfl, B27⟩)
  · refine Ev.steps (k := 5) (pc' := 21) (L' := [Vr 114]) (S' := [Vi (a0 114 7), Vi 301, Vr (z : Int)]) (h' := ((SHv st dr (z : Int)), (ovl a0 s b))) (fun _ => rfl) ?_
    rw [X0.t7 (by omega)]
    refine Ev.call (k := 0) (pc1 := 21) (L1 := [Vr 114]) (S1 := [Vi ((tV W p0 : Nat) : Int), Vi 301, Vr (z : Int)]) (h1 := ((SHv st dr (z : Int)), (ovl a0 s b))) (m' := 49) (as := [Vr (z : Int), Vi 301, Vi ((tV W p0 : Nat) : Int)]) (S' := []) (L0 := [Vr (z : Int), Vi 301, Vi ((tV W p0 : Nat) : Int)]) (fun _ => rfl) rfl rfl rfl rfl (stpC_of rfl (pm_recv_of (by omega) (shY_0 hz))) rfl (c_emitX (a := a0) X0 (by omega) 301 (tV W p0) (by omega) (by omega)) (fun r h' hq => ?_)
    obtain ⟨rfl, hq⟩ := hq
    rcases hq with ⟨a28, rfl, X28, g28, E28⟩
    · have G28 := G0.tr g28 (by omega)
      have Q28 := X28.le
      show Ev X _ _ 24 [Vr 114] [Vi ((c0 : Nat) : Int)] ((SHv st dr (z : Int)), (ovl a28 s b)) _
      refine Ev.call (k := 2) (pc1 := 26) (L1 := [Vr 114]) (S1 := [Vr 114]) (h1 := ((SHv st dr (z : Int)), (ovl a28 s b))) (m' := 27) (as := [Vr 114]) (S' := []) (L0 := [Vr 114, Vx, Vx, Vx, Vx]) (fun _ => rfl) rfl rfl rfl rfl rfl rfl (c_next X28.1) (fun r h' hq => ?_)
      obtain ⟨rfl, a29, rfl, hq⟩ := hq
      rcases hq with ⟨p29, hx29, ho29⟩ | ⟨e29, hx29, hb29⟩
      · have X29 := X28.nx ho29
        have L29 : p0 < p29 := X28.lt (by omega) hx29
        have G29 := G28.tr (ho29.1.gz (c := (c0 + 1)) X28.hz) (by omega)
        have R29 : a29 (z + 11) = a28 (z + 11) := ho29.1 _ (by omega)
        have Q29 := X29.le
        show Ev X _ _ 29 [Vr 114] [] ((SHv st dr (z : Int)), (ovl a29 s b)) _
        refine Ev.fin (k := 2) (r := none) (h' := ((SHv st dr (z : Int)), (ovl a29 s b))) (fun _ => rfl) ?_
        refine ⟨rfl, _, rfl, ?_⟩
        unfold prtT
        have e : a29 (z + 11) c0 = a28 (z + 11) c0 := by rw [R29]
        rw [E28] at e
        first
          | (rw [if_pos (by omega), hx29, bnX_o]
             exact Or.inl ⟨_, rfl, _, X29, G29, CoC.leaf (q := (0, tV W p0)) (by show 0 ≤ 9; omega) (by omega) e, by dsimp only; omega⟩)
          | (rw [if_neg (by omega), if_pos (by omega), hx29, bnX_o]
             exact Or.inl ⟨_, rfl, _, X29, G29, CoC.leaf (q := (1, 0)) (by show 1 ≤ 9; omega) (by omega) e, by dsimp only; omega⟩)
      · have B29 := G28.bd X28 (by omega) hb29
        show Ev X _ _ 29 [Vr 114] [] ((SHv st dr (z : Int)), (ovl a29 s b)) _
        refine Ev.fin (k := 2) (r := none) (h' := ((SHv st dr (z : Int)), (ovl a29 s b))) (fun _ => rfl) ?_
        refine ⟨rfl, _, rfl, ?_⟩
        unfold prtT parT
        first
          | (rw [if_pos (by omega), hx29, bnX_e]
             exact Or.inr ⟨_, rfl, B29⟩)
          | (rw [if_neg (by omega), if_pos (by omega), hx29, bnX_e]
             exact Or.inr ⟨_, rfl, B29⟩)
          | (rw [if_neg (by omega), if_neg (by omega), if_pos (by omega), hx29, bnX_e]
             exact Or.inr ⟨_, rfl, B29⟩)
          | (rw [if_neg (by omega), if_neg (by omega), if_neg (by omega), if_neg (by omega), hx29, bnX_e]
             exact Or.inr ⟨_, rfl, B29⟩)
theorem enc_opA {c : Nat} (h : opA c ≠ 0) : 15 ≤ opA c ∧ opA c ≤ 24 ∧ encT (opA c) = c := by
  unfold opA at h ⊢
  by_cases h1 : c = 43
  · rw [if_pos h1]; exact ⟨by omega, by omega, h1.symm⟩
  · rw [if_neg h1] at h ⊢
    by_cases h2 : c = 45
    · rw [if_pos h2]; exact ⟨by omega, by omega, h2.symm⟩
    · rw [if_neg h2] at h
      exact absurd rfl h
theorem enc_opM {c : Nat} (h : opM c ≠ 0) : 15 ≤ opM c ∧ opM c ≤ 24 ∧ encT (opM c) = c := by
  unfold opM at h ⊢
  by_cases h1 : c = 42
  · rw [if_pos h1]; exact ⟨by omega, by omega, h1.symm⟩
  · rw [if_neg h1] at h ⊢
    by_cases h2 : c = 47
    · rw [if_pos h2]; exact ⟨by omega, by omega, h2.symm⟩
    · rw [if_neg h2] at h ⊢
      by_cases h3 : c = 37
      · rw [if_pos h3]; exact ⟨by omega, by omega, h3.symm⟩
      · rw [if_neg h3] at h
        exact absurd rfl h
theorem opA_z {c : Nat} : opA c = 0 ↔ c ≠ 43 ∧ c ≠ 45 := by
  unfold opA
  split
  · omega
  · split <;> omega
theorem opM_z {c : Nat} : opM c = 0 ↔ c ≠ 42 ∧ c ≠ 47 ∧ c ≠ 37 := by
  unfold opM
  split
  · omega
  · split
    · omega
    · split <;> omega
theorem c_product_l {X : List Int} {st dr : Int} {s b : C3} {W : TXT} {N : SC} {z : Nat} (hz : hyS z) {K : Nat} {P : PRS} {D h : Nat} (hP : MOk X st dr s b W N z 48 [Vr 114] K P D h) {a00 : C3} {p00 c00 : Nat} (d i : Nat) (x : pm_V) (l0 : List (Nat × Nat)) (a0 : C3) (p0 c0 : Nat) (hd : h + 5 ≤ d) (hi : i ≤ 1200) (X0 : XoC W N z p0 c0 K a0) (hc0 : c0 ≤ p0) (G0 : Gz z c00 a00 a0) (o0 : CoC (a0 (z + 11)) (D + 1) c00 l0 c0) (h0 : c0 + p00 ≤ c00 + p0) : Ev X d 47 6 [Vr 114, Vi (i : Int), x] [] (SHv st dr (z : Int), ovl a0 s b) (PoX st dr s b W N z p00 c00 K a00 (D + 1) (chnL W opM P (1200 - i) l0 p0)) := by
  induction hk : 1200 - i using Nat.strongRecOn generalizing i x l0 a0 p0 c0 d with
  | ind kk ih =>
    have hz1 := z11 hz
    obtain ⟨d, rfl⟩ : ∃ d1, d = d1 + 5 := ⟨d - 5, by omega⟩
    have Q0 := X0.le
    have L0 := o0.lt
    refine Ev.ite (P := 1200 ≤ (i : Int)) (k := 3) (a := 69) (b := 13) (L' := [Vr 114, Vi (i : Int), x]) (S' := []) (h' := ((SHv st dr (z : Int)), (ovl a0 s b))) (fun _ => rfl) (fun b10 => ?_) (fun b10 => ?_)
    · refine Ev.fin (k := 1) (r := none) (h' := ((SHv st dr (z : Int)), (ovl a0 s b))) (fun _ => rfl) ?_
      refine ⟨rfl, _, rfl, ?_⟩
      have e : chnL W opM P kk l0 p0 = .ok (l0, p0) := by
        match kk, hk with
        | 0, _ => rfl
        | F + 1, _ =>
          show (if opM (tC W p0) = 0 then Except.ok (l0, p0) else _) = _
          rw [if_pos (by rw [opM_z]; omega)]
      rw [e]
      exact Or.inl ⟨_, rfl, c0, X0, G0, o0, h0⟩
    · refine Ev.steps (k := 2) (pc' := 17) (L' := [Vr 114, Vi (i : Int), x]) (S' := [Vi (a0 114 5)]) (h' := ((SHv st dr (z : Int)), (ovl a0 s b))) (fun _ => rfl) ?_
      rw [X0.t5]
      refine Ev.ite (P := ((tC W p0 : Nat) : Int) = 42) (k := 2) (a := 40) (b := 22) (L' := [Vr 114, Vi (i : Int), x]) (S' := []) (h' := ((SHv st dr (z : Int)), (ovl a0 s b))) (fun _ => rfl) (fun b19 => ?_) (fun b19 => ?_)
      · refine Ev.steps (k := 2) (pc' := 44) (L' := [Vr 114, Vi (i : Int), x]) (S' := [Vi (a0 114 5)]) (h' := ((SHv st dr (z : Int)), (ovl a0 s b))) (fun _ => rfl) ?_
        rw [X0.t5]
        refine Ev.call (k := 2) (pc1 := 46) (L1 := [Vr 114, Vi (i : Int), Vi ((tC W p0 : Nat) : Int)]) (S1 := [Vr 114]) (h1 := ((SHv st dr (z : Int)), (ovl a0 s b))) (m' := 27) (as := [Vr 114]) (S' := []) (L0 := [Vr 114, Vx, Vx, Vx, Vx]) (fun _ => rfl) rfl rfl rfl rfl rfl rfl (c_next X0.1) (fun r h' hq => ?_)
        obtain ⟨rfl, a30, rfl, hq⟩ := hq
        rcases hq with ⟨p30, hx30, ho30⟩ | ⟨e30, hx30, hb30⟩
        · have X30 := X0.nx ho30
          have L30 : p0 < p30 := X0.lt (by omega) hx30
          have G30 := G0.tr (ho30.1.gz (c := c0) X0.hz) (by omega)
          have R30 : a30 (z + 11) = a0 (z + 11) := ho30.1 _ (by omega)
          have Q30 := X30.le
          show Ev X _ _ 49 [Vr 114, Vi (i : Int), Vi ((tC W p0 : Nat) : Int)] [] ((SHv st dr (z : Int)), (ovl a30 s b)) _
          refine Ev.call (k := 1) (pc1 := 50) (L1 := [Vr 114, Vi (i : Int), Vi ((tC W p0 : Nat) : Int)]) (S1 := [Vr 114]) (h1 := ((SHv st dr (z : Int)), (ovl a30 s b))) (m' := 48) (as := [Vr 114]) (S' := []) (L0 := [Vr 114]) (fun _ => rfl) rfl rfl rfl rfl rfl rfl (hP _ _ _ _ (by omega) X30 (by omega)) (fun r h' hq => ?_)
          obtain ⟨rfl, a31, rfl, hq⟩ := hq
          rcases hq with ⟨⟨l31, p31⟩, hx31, c31, X31, g31, o31, h31⟩ | ⟨e31, hx31, hb31⟩
          · have L31 := o31.lt
            have G31 := G30.tr g31 (by omega)
            have Q31 := X31.le
            dsimp only at h31
            show Ev X _ _ 53 [Vr 114, Vi (i : Int), Vi ((tC W p0 : Nat) : Int)] [] ((SHv st dr (z : Int)), (ovl a31 s b)) _
            refine Ev.call (k := 4) (pc1 := 59) (L1 := [Vr 114, Vi (i : Int), Vi ((tC W p0 : Nat) : Int)]) (S1 := [Vi 0, Vi ((tC W p0 : Nat) : Int), Vr (z : Int)]) (h1 := ((SHv st dr (z : Int)), (ovl a31 s b))) (m' := 49) (as := [Vr (z : Int), Vi ((tC W p0 : Nat) : Int), Vi 0]) (S' := []) (L0 := [Vr (z : Int), Vi ((tC W p0 : Nat) : Int), Vi 0]) (fun _ => rfl) rfl rfl rfl rfl (stpC_of rfl (pm_recv_of (by omega) (shY_0 hz))) rfl (c_emitX (a := a31) X31 (by omega) (tC W p0) 0 (by omega) (by omega)) (fun r h' hq => ?_)
            obtain ⟨rfl, hq⟩ := hq
            rcases hq with ⟨a32, rfl, X32, g32, E32⟩
            · have G32 := G31.tr g32 (by omega)
              have Q32 := X32.le
              show Ev X _ _ 62 [Vr 114, Vi (i : Int), Vi ((tC W p0 : Nat) : Int)] [Vi ((c31 : Nat) : Int)] ((SHv st dr (z : Int)), (ovl a32 s b)) _
              refine Ev.steps (k := 2) (pc' := 66) (L' := [Vr 114, Vi (w32 ((i : Int) + 1)), Vi ((tC W p0 : Nat) : Int)]) (S' := []) (h' := ((SHv st dr (z : Int)), (ovl a32 s b))) (fun _ => rfl) ?_
              rw [show (w32 ((i : Int) + 1)) = ((i : Int) + 1) from w32_id (by unfold R32; omega)]
              refine Ev.steps (k := 1) (pc' := 6) (L' := [Vr 114, Vi ((i : Int) + 1), Vi ((tC W p0 : Nat) : Int)]) (S' := []) (h' := ((SHv st dr (z : Int)), (ovl a32 s b))) (fun _ => rfl) ?_
              obtain ⟨F, rfl⟩ : ∃ F, kk = F + 1 := ⟨kk - 1, by omega⟩
              have hop : opM (tC W p0) ≠ 0 := by rw [ne_eq, opM_z]; omega
              have hoc : 15 ≤ opM (tC W p0) ∧ opM (tC W p0) ≤ 24 ∧ encT (opM (tC W p0)) = tC W p0 := enc_opM hop
              show Ev X _ _ _ _ _ _ (PoX st dr s b W N z p00 c00 K a00 (D + 1) (if opM (tC W p0) = 0 then .ok (l0, p0) else bnX (gotT W p0) (fun p1 => bnX (P p1) (fun r => chnL W opM P F (l0 ++ (r.1 ++ [(opM (tC W p0), 0)])) r.2))))
              rw [if_neg hop, hx30, bnX_o, hx31, bnX_o]
              have e1 : ∀ j, j < c31 → a32 (z + 11) j = a31 (z + 11) j := fun j hj => g32.2 j hj
              have e2 : ∀ j, j < c0 → a32 (z + 11) j = a0 (z + 11) j := fun j hj => (e1 j (by omega)).trans ((g31.2 j hj).trans (by rw [R30]))
              exact ih F (by omega) _ (i + 1) _ (l0 ++ (l31 ++ [(opM (tC W p0), 0)])) a32 p31 (c31 + 1) (by omega) (by omega) X32 (by omega) G32 (CoC.bin (D' := D) hoc.1 hoc.2.1 (o0.cg (fun j _ hj => e2 j hj)) (o31.cg (fun j _ hj => e1 j hj)) (Nat.le_refl _) (by rw [E32, hoc.2.2]; rfl)) (by omega) (by omega)
          · have B31 := G30.bz hb31
            show Ev X _ _ 53 [Vr 114, Vi (i : Int), Vi ((tC W p0 : Nat) : Int)] [] ((SHv st dr (z : Int)), (ovl a31 s b)) _
            refine Ev.call (k := 4) (pc1 := 59) (L1 := [Vr 114, Vi (i : Int), Vi ((tC W p0 : Nat) : Int)]) (S1 := [Vi 0, Vi ((tC W p0 : Nat) : Int), Vr (z : Int)]) (h1 := ((SHv st dr (z : Int)), (ovl a31 s b))) (m' := 49) (as := [Vr (z : Int), Vi ((tC W p0 : Nat) : Int), Vi 0]) (S' := []) (L0 := [Vr (z : Int), Vi ((tC W p0 : Nat) : Int), Vi 0]) (fun _ => rfl) rfl rfl rfl rfl (stpC_of rfl (pm_recv_of (by omega) (shY_0 hz))) rfl (c_emit_br hz (B31).2.2.2 ((tC W p0 : Nat) : Int) 0) (fun r h' hq => ?_)
            obtain ⟨v33, a33, rfl, rfl, f1, f2, f3⟩ := hq
            have B33 := (B31).st hz f1 f2 f3
            show Ev X _ _ 62 [Vr 114, Vi (i : Int), Vi ((tC W p0 : Nat) : Int)] [Vi v33] ((SHv st dr (z : Int)), (ovl a33 s b)) _
            refine Ev.steps (k := 2) (pc' := 66) (L' := [Vr 114, Vi (w32 ((i : Int) + 1)), Vi ((tC W p0 : Nat) : Int)]) (S' := []) (h' := ((SHv st dr (z : Int)), (ovl a33 s b))) (fun _ => rfl) ?_
            rw [show (w32 ((i : Int) + 1)) = ((i : Int) + 1) from w32_id (by unfold R32; omega)]
            refine Ev.steps (k := 1) (pc' := 6) (L' := [Vr 114, Vi ((i : Int) + 1), Vi ((tC W p0 : Nat) : Int)]) (S' := []) (h' := ((SHv st dr (z : Int)), (ovl a33 s b))) (fun _ => rfl) ?_
            refine (c_product_brl B33.2.2.1 _ _).mono ?_
            rintro r h' ⟨h1, h2⟩
            refine ⟨h1, _, h2, ?_⟩
            obtain ⟨F, rfl⟩ : ∃ F, kk = F + 1 := ⟨kk - 1, by omega⟩
            have hop : opM (tC W p0) ≠ 0 := by rw [ne_eq, opM_z]; omega
            show YoC W N z p00 c00 K a00 (D + 1) (if opM (tC W p0) = 0 then .ok (l0, p0) else bnX (gotT W p0) (fun p1 => bnX (P p1) (fun r => chnL W opM P F (l0 ++ (r.1 ++ [(opM (tC W p0), 0)])) r.2))) _
            rw [if_neg hop, hx30, bnX_o, hx31, bnX_e]
            exact Or.inr ⟨_, rfl, B33⟩
        · have B30 := G0.bd X0 (by omega) hb30
          show Ev X _ _ 49 [Vr 114, Vi (i : Int), Vi ((tC W p0 : Nat) : Int)] [] ((SHv st dr (z : Int)), (ovl a30 s b)) _
          refine Ev.call (k := 1) (pc1 := 50) (L1 := [Vr 114, Vi (i : Int), Vi ((tC W p0 : Nat) : Int)]) (S1 := [Vr 114]) (h1 := ((SHv st dr (z : Int)), (ovl a30 s b))) (m' := 48) (as := [Vr 114]) (S' := []) (L0 := [Vr 114]) (fun _ => rfl) rfl rfl rfl rfl rfl rfl (c_part_br B30.2.2.1) (fun r h' hq => ?_)
          obtain ⟨rfl, rfl⟩ := hq
          show Ev X _ _ 53 [Vr 114, Vi (i : Int), Vi ((tC W p0 : Nat) : Int)] [] ((SHv st dr (z : Int)), (ovl a30 s b)) _
          refine Ev.call (k := 4) (pc1 := 59) (L1 := [Vr 114, Vi (i : Int), Vi ((tC W p0 : Nat) : Int)]) (S1 := [Vi 0, Vi ((tC W p0 : Nat) : Int), Vr (z : Int)]) (h1 := ((SHv st dr (z : Int)), (ovl a30 s b))) (m' := 49) (as := [Vr (z : Int), Vi ((tC W p0 : Nat) : Int), Vi 0]) (S' := []) (L0 := [Vr (z : Int), Vi ((tC W p0 : Nat) : Int), Vi 0]) (fun _ => rfl) rfl rfl rfl rfl (stpC_of rfl (pm_recv_of (by omega) (shY_0 hz))) rfl (c_emit_br hz (B30).2.2.2 ((tC W p0 : Nat) : Int) 0) (fun r h' hq => ?_)
          obtain ⟨v35, a35, rfl, rfl, f1, f2, f3⟩ := hq
          have B35 := (B30).st hz f1 f2 f3
          show Ev X _ _ 62 [Vr 114, Vi (i : Int), Vi ((tC W p0 : Nat) : Int)] [Vi v35] ((SHv st dr (z : Int)), (ovl a35 s b)) _
          refine Ev.steps (k := 2) (pc' := 66) (L' := [Vr 114, Vi (w32 ((i : Int) + 1)), Vi ((tC W p0 : Nat) : Int)]) (S' := []) (h' := ((SHv st dr (z : Int)), (ovl a35 s b))) (fun _ => rfl) ?_
          rw [show (w32 ((i : Int) + 1)) = ((i : Int) + 1) from w32_id (by unfold R32; omega)]
          refine Ev.steps (k := 1) (pc' := 6) (L' := [Vr 114, Vi ((i : Int) + 1), Vi ((tC W p0 : Nat) : Int)]) (S' := []) (h' := ((SHv st dr (z : Int)), (ovl a35 s b))) (fun _ => rfl) ?_
          refine (c_product_brl B35.2.2.1 _ _).mono ?_
          rintro r h' ⟨h1, h2⟩
          refine ⟨h1, _, h2, ?_⟩
          obtain ⟨F, rfl⟩ : ∃ F, kk = F + 1 := ⟨kk - 1, by omega⟩
          have hop : opM (tC W p0) ≠ 0 := by rw [ne_eq, opM_z]; omega
          show YoC W N z p00 c00 K a00 (D + 1) (if opM (tC W p0) = 0 then .ok (l0, p0) else bnX (gotT W p0) (fun p1 => bnX (P p1) (fun r => chnL W opM P F (l0 ++ (r.1 ++ [(opM (tC W p0), 0)])) r.2))) _
          rw [if_neg hop, hx30, bnX_e]
          exact Or.inr ⟨_, rfl, B35⟩
      · refine Ev.steps (k := 2) (pc' := 26) (L' := [Vr 114, Vi (i : Int), x]) (S' := [Vi (a0 114 5)]) (h' := ((SHv st dr (z : Int)), (ovl a0 s b))) (fun _ => rfl) ?_
        rw [X0.t5]
        refine Ev.ite (P := ((tC W p0 : Nat) : Int) = 47) (k := 2) (a := 40) (b := 31) (L' := [Vr 114, Vi (i : Int), x]) (S' := []) (h' := ((SHv st dr (z : Int)), (ovl a0 s b))) (fun _ => rfl) (fun b28 => ?_) (fun b28 => ?_)
        · refine Ev.steps (k := 2) (pc' := 44) (L' := [Vr 114, Vi (i : Int), x]) (S' := [Vi (a0 114 5)]) (h' := ((SHv st dr (z : Int)), (ovl a0 s b))) (fun _ => rfl) ?_
          rw [X0.t5]
          refine Ev.call (k := 2) (pc1 := 46) (L1 := [Vr 114, Vi (i : Int), Vi ((tC W p0 : Nat) : Int)]) (S1 := [Vr 114]) (h1 := ((SHv st dr (z : Int)), (ovl a0 s b))) (m' := 27) (as := [Vr 114]) (S' := []) (L0 := [Vr 114, Vx, Vx, Vx, Vx]) (fun _ => rfl) rfl rfl rfl rfl rfl rfl (c_next X0.1) (fun r h' hq => ?_)
          obtain ⟨rfl, a36, rfl, hq⟩ := hq
          rcases hq with ⟨p36, hx36, ho36⟩ | ⟨e36, hx36, hb36⟩
          · have X36 := X0.nx ho36
            have L36 : p0 < p36 := X0.lt (by omega) hx36
            have G36 := G0.tr (ho36.1.gz (c := c0) X0.hz) (by omega)
            have R36 : a36 (z + 11) = a0 (z + 11) := ho36.1 _ (by omega)
            have Q36 := X36.le
            show Ev X _ _ 49 [Vr 114, Vi (i : Int), Vi ((tC W p0 : Nat) : Int)] [] ((SHv st dr (z : Int)), (ovl a36 s b)) _
            refine Ev.call (k := 1) (pc1 := 50) (L1 := [Vr 114, Vi (i : Int), Vi ((tC W p0 : Nat) : Int)]) (S1 := [Vr 114]) (h1 := ((SHv st dr (z : Int)), (ovl a36 s b))) (m' := 48) (as := [Vr 114]) (S' := []) (L0 := [Vr 114]) (fun _ => rfl) rfl rfl rfl rfl rfl rfl (hP _ _ _ _ (by omega) X36 (by omega)) (fun r h' hq => ?_)
            obtain ⟨rfl, a37, rfl, hq⟩ := hq
            rcases hq with ⟨⟨l37, p37⟩, hx37, c37, X37, g37, o37, h37⟩ | ⟨e37, hx37, hb37⟩
            · have L37 := o37.lt
              have G37 := G36.tr g37 (by omega)
              have Q37 := X37.le
              dsimp only at h37
              show Ev X _ _ 53 [Vr 114, Vi (i : Int), Vi ((tC W p0 : Nat) : Int)] [] ((SHv st dr (z : Int)), (ovl a37 s b)) _
              refine Ev.call (k := 4) (pc1 := 59) (L1 := [Vr 114, Vi (i : Int), Vi ((tC W p0 : Nat) : Int)]) (S1 := [Vi 0, Vi ((tC W p0 : Nat) : Int), Vr (z : Int)]) (h1 := ((SHv st dr (z : Int)), (ovl a37 s b))) (m' := 49) (as := [Vr (z : Int), Vi ((tC W p0 : Nat) : Int), Vi 0]) (S' := []) (L0 := [Vr (z : Int), Vi ((tC W p0 : Nat) : Int), Vi 0]) (fun _ => rfl) rfl rfl rfl rfl (stpC_of rfl (pm_recv_of (by omega) (shY_0 hz))) rfl (c_emitX (a := a37) X37 (by omega) (tC W p0) 0 (by omega) (by omega)) (fun r h' hq => ?_)
              obtain ⟨rfl, hq⟩ := hq
              rcases hq with ⟨a38, rfl, X38, g38, E38⟩
              · have G38 := G37.tr g38 (by omega)
                have Q38 := X38.le
                show Ev X _ _ 62 [Vr 114, Vi (i : Int), Vi ((tC W p0 : Nat) : Int)] [Vi ((c37 : Nat) : Int)] ((SHv st dr (z : Int)), (ovl a38 s b)) _
                refine Ev.steps (k := 2) (pc' := 66) (L' := [Vr 114, Vi (w32 ((i : Int) + 1)), Vi ((tC W p0 : Nat) : Int)]) (S' := []) (h' := ((SHv st dr (z : Int)), (ovl a38 s b))) (fun _ => rfl) ?_
                rw [show (w32 ((i : Int) + 1)) = ((i : Int) + 1) from w32_id (by unfold R32; omega)]
                refine Ev.steps (k := 1) (pc' := 6) (L' := [Vr 114, Vi ((i : Int) + 1), Vi ((tC W p0 : Nat) : Int)]) (S' := []) (h' := ((SHv st dr (z : Int)), (ovl a38 s b))) (fun _ => rfl) ?_
                obtain ⟨F, rfl⟩ : ∃ F, kk = F + 1 := ⟨kk - 1, by omega⟩
                have hop : opM (tC W p0) ≠ 0 := by rw [ne_eq, opM_z]; omega
                have hoc : 15 ≤ opM (tC W p0) ∧ opM (tC W p0) ≤ 24 ∧ encT (opM (tC W p0)) = tC W p0 := enc_opM hop
                show Ev X _ _ _ _ _ _ (PoX st dr s b W N z p00 c00 K a00 (D + 1) (if opM (tC W p0) = 0 then .ok (l0, p0) else bnX (gotT W p0) (fun p1 => bnX (P p1) (fun r => chnL W opM P F (l0 ++ (r.1 ++ [(opM (tC W p0), 0)])) r.2))))
                rw [if_neg hop, hx36, bnX_o, hx37, bnX_o]
                have e1 : ∀ j, j < c37 → a38 (z + 11) j = a37 (z + 11) j := fun j hj => g38.2 j hj
                have e2 : ∀ j, j < c0 → a38 (z + 11) j = a0 (z + 11) j := fun j hj => (e1 j (by omega)).trans ((g37.2 j hj).trans (by rw [R36]))
                exact ih F (by omega) _ (i + 1) _ (l0 ++ (l37 ++ [(opM (tC W p0), 0)])) a38 p37 (c37 + 1) (by omega) (by omega) X38 (by omega) G38 (CoC.bin (D' := D) hoc.1 hoc.2.1 (o0.cg (fun j _ hj => e2 j hj)) (o37.cg (fun j _ hj => e1 j hj)) (Nat.le_refl _) (by rw [E38, hoc.2.2]; rfl)) (by omega) (by omega)
            · have B37 := G36.bz hb37
              show Ev X _ _ 53 [Vr 114, Vi (i : Int), Vi ((tC W p0 : Nat) : Int)] [] ((SHv st dr (z : Int)), (ovl a37 s b)) _
              refine Ev.call (k := 4) (pc1 := 59) (L1 := [Vr 114, Vi (i : Int), Vi ((tC W p0 : Nat) : Int)]) (S1 := [Vi 0, Vi ((tC W p0 : Nat) : Int), Vr (z : Int)]) (h1 := ((SHv st dr (z : Int)), (ovl a37 s b))) (m' := 49) (as := [Vr (z : Int), Vi ((tC W p0 : Nat) : Int), Vi 0]) (S' := []) (L0 := [Vr (z : Int), Vi ((tC W p0 : Nat) : Int), Vi 0]) (fun _ => rfl) rfl rfl rfl rfl (stpC_of rfl (pm_recv_of (by omega) (shY_0 hz))) rfl (c_emit_br hz (B37).2.2.2 ((tC W p0 : Nat) : Int) 0) (fun r h' hq => ?_)
              obtain ⟨v39, a39, rfl, rfl, f1, f2, f3⟩ := hq
              have B39 := (B37).st hz f1 f2 f3
              show Ev X _ _ 62 [Vr 114, Vi (i : Int), Vi ((tC W p0 : Nat) : Int)] [Vi v39] ((SHv st dr (z : Int)), (ovl a39 s b)) _
              refine Ev.steps (k := 2) (pc' := 66) (L' := [Vr 114, Vi (w32 ((i : Int) + 1)), Vi ((tC W p0 : Nat) : Int)]) (S' := []) (h' := ((SHv st dr (z : Int)), (ovl a39 s b))) (fun _ => rfl) ?_
              rw [show (w32 ((i : Int) + 1)) = ((i : Int) + 1) from w32_id (by unfold R32; omega)]
              refine Ev.steps (k := 1) (pc' := 6) (L' := [Vr 114, Vi ((i : Int) + 1), Vi ((tC W p0 : Nat) : Int)]) (S' := []) (h' := ((SHv st dr (z : Int)), (ovl a39 s b))) (fun _ => rfl) ?_
              refine (c_product_brl B39.2.2.1 _ _).mono ?_
              rintro r h' ⟨h1, h2⟩
              refine ⟨h1, _, h2, ?_⟩
              obtain ⟨F, rfl⟩ : ∃ F, kk = F + 1 := ⟨kk - 1, by omega⟩
              have hop : opM (tC W p0) ≠ 0 := by rw [ne_eq, opM_z]; omega
              show YoC W N z p00 c00 K a00 (D + 1) (if opM (tC W p0) = 0 then .ok (l0, p0) else bnX (gotT W p0) (fun p1 => bnX (P p1) (fun r => chnL W opM P F (l0 ++ (r.1 ++ [(opM (tC W p0), 0)])) r.2))) _
              rw [if_neg hop, hx36, bnX_o, hx37, bnX_e]
              exact Or.inr ⟨_, rfl, B39⟩
          · have B36 := G0.bd X0 (by omega) hb36
            show Ev X _ _ 49 [Vr 114, Vi (i : Int), Vi ((tC W p0 : Nat) : Int)] [] ((SHv st dr (z : Int)), (ovl a36 s b)) _
            refine Ev.call (k := 1) (pc1 := 50) (L1 := [Vr 114, Vi (i : Int), Vi ((tC W p0 : Nat) : Int)]) (S1 := [Vr 114]) (h1 := ((SHv st dr (z : Int)), (ovl a36 s b))) (m' := 48) (as := [Vr 114]) (S' := []) (L0 := [Vr 114]) (fun _ => rfl) rfl rfl rfl rfl rfl rfl (c_part_br B36.2.2.1) (fun r h' hq => ?_)
            obtain ⟨rfl, rfl⟩ := hq
            show Ev X _ _ 53 [Vr 114, Vi (i : Int), Vi ((tC W p0 : Nat) : Int)] [] ((SHv st dr (z : Int)), (ovl a36 s b)) _
            refine Ev.call (k := 4) (pc1 := 59) (L1 := [Vr 114, Vi (i : Int), Vi ((tC W p0 : Nat) : Int)]) (S1 := [Vi 0, Vi ((tC W p0 : Nat) : Int), Vr (z : Int)]) (h1 := ((SHv st dr (z : Int)), (ovl a36 s b))) (m' := 49) (as := [Vr (z : Int), Vi ((tC W p0 : Nat) : Int), Vi 0]) (S' := []) (L0 := [Vr (z : Int), Vi ((tC W p0 : Nat) : Int), Vi 0]) (fun _ => rfl) rfl rfl rfl rfl (stpC_of rfl (pm_recv_of (by omega) (shY_0 hz))) rfl (c_emit_br hz (B36).2.2.2 ((tC W p0 : Nat) : Int) 0) (fun r h' hq => ?_)
            obtain ⟨v41, a41, rfl, rfl, f1, f2, f3⟩ := hq
            have B41 := (B36).st hz f1 f2 f3
            show Ev X _ _ 62 [Vr 114, Vi (i : Int), Vi ((tC W p0 : Nat) : Int)] [Vi v41] ((SHv st dr (z : Int)), (ovl a41 s b)) _
            refine Ev.steps (k := 2) (pc' := 66) (L' := [Vr 114, Vi (w32 ((i : Int) + 1)), Vi ((tC W p0 : Nat) : Int)]) (S' := []) (h' := ((SHv st dr (z : Int)), (ovl a41 s b))) (fun _ => rfl) ?_
            rw [show (w32 ((i : Int) + 1)) = ((i : Int) + 1) from w32_id (by unfold R32; omega)]
            refine Ev.steps (k := 1) (pc' := 6) (L' := [Vr 114, Vi ((i : Int) + 1), Vi ((tC W p0 : Nat) : Int)]) (S' := []) (h' := ((SHv st dr (z : Int)), (ovl a41 s b))) (fun _ => rfl) ?_
            refine (c_product_brl B41.2.2.1 _ _).mono ?_
            rintro r h' ⟨h1, h2⟩
            refine ⟨h1, _, h2, ?_⟩
            obtain ⟨F, rfl⟩ : ∃ F, kk = F + 1 := ⟨kk - 1, by omega⟩
            have hop : opM (tC W p0) ≠ 0 := by rw [ne_eq, opM_z]; omega
            show YoC W N z p00 c00 K a00 (D + 1) (if opM (tC W p0) = 0 then .ok (l0, p0) else bnX (gotT W p0) (fun p1 => bnX (P p1) (fun r => chnL W opM P F (l0 ++ (r.1 ++ [(opM (tC W p0), 0)])) r.2))) _
            rw [if_neg hop, hx36, bnX_e]
            exact Or.inr ⟨_, rfl, B41⟩
        · refine Ev.steps (k := 2) (pc' := 35) (L' := [Vr 114, Vi (i : Int), x]) (S' := [Vi (a0 114 5)]) (h' := ((SHv st dr (z : Int)), (ovl a0 s b))) (fun _ => rfl) ?_
          rw [X0.t5]
          refine Ev.ite (P := ((tC W p0 : Nat) : Int) ≠ 37) (k := 2) (a := 69) (b := 40) (L' := [Vr 114, Vi (i : Int), x]) (S' := []) (h' := ((SHv st dr (z : Int)), (ovl a0 s b))) (fun _ => rfl) (fun b37 => ?_) (fun b37 => ?_)
          · refine Ev.fin (k := 1) (r := none) (h' := ((SHv st dr (z : Int)), (ovl a0 s b))) (fun _ => rfl) ?_
            refine ⟨rfl, _, rfl, ?_⟩
            have e : chnL W opM P kk l0 p0 = .ok (l0, p0) := by
              match kk, hk with
              | 0, _ => rfl
              | F + 1, _ =>
                show (if opM (tC W p0) = 0 then Except.ok (l0, p0) else _) = _
                rw [if_pos (by rw [opM_z]; omega)]
            rw [e]
            exact Or.inl ⟨_, rfl, c0, X0, G0, o0, h0⟩
          · refine Ev.steps (k := 2) (pc' := 44) (L' := [Vr 114, Vi (i : Int), x]) (S' := [Vi (a0 114 5)]) (h' := ((SHv st dr (z : Int)), (ovl a0 s b))) (fun _ => rfl) ?_
            rw [X0.t5]
            refine Ev.call (k := 2) (pc1 := 46) (L1 := [Vr 114, Vi (i : Int), Vi ((tC W p0 : Nat) : Int)]) (S1 := [Vr 114]) (h1 := ((SHv st dr (z : Int)), (ovl a0 s b))) (m' := 27) (as := [Vr 114]) (S' := []) (L0 := [Vr 114, Vx, Vx, Vx, Vx]) (fun _ => rfl) rfl rfl rfl rfl rfl rfl (c_next X0.1) (fun r h' hq => ?_)
            obtain ⟨rfl, a42, rfl, hq⟩ := hq
            rcases hq with ⟨p42, hx42, ho42⟩ | ⟨e42, hx42, hb42⟩
            · have X42 := X0.nx ho42
              have L42 : p0 < p42 := X0.lt (by omega) hx42
              have G42 := G0.tr (ho42.1.gz (c := c0) X0.hz) (by omega)
              have R42 : a42 (z + 11) = a0 (z + 11) := ho42.1 _ (by omega)
              have Q42 := X42.le
              show Ev X _ _ 49 [Vr 114, Vi (i : Int), Vi ((tC W p0 : Nat) : Int)] [] ((SHv st dr (z : Int)), (ovl a42 s b)) _
              refine Ev.call (k := 1) (pc1 := 50) (L1 := [Vr 114, Vi (i : Int), Vi ((tC W p0 : Nat) : Int)]) (S1 := [Vr 114]) (h1 := ((SHv st dr (z : Int)), (ovl a42 s b))) (m' := 48) (as := [Vr 114]) (S' := []) (L0 := [Vr 114]) (fun _ => rfl) rfl rfl rfl rfl rfl rfl (hP _ _ _ _ (by omega) X42 (by omega)) (fun r h' hq => ?_)
              obtain ⟨rfl, a43, rfl, hq⟩ := hq
              rcases hq with ⟨⟨l43, p43⟩, hx43, c43, X43, g43, o43, h43⟩ | ⟨e43, hx43, hb43⟩
              · have L43 := o43.lt
                have G43 := G42.tr g43 (by omega)
                have Q43 := X43.le
                dsimp only at h43
                show Ev X _ _ 53 [Vr 114, Vi (i : Int), Vi ((tC W p0 : Nat) : Int)] [] ((SHv st dr (z : Int)), (ovl a43 s b)) _
                refine Ev.call (k := 4) (pc1 := 59) (L1 := [Vr 114, Vi (i : Int), Vi ((tC W p0 : Nat) : Int)]) (S1 := [Vi 0, Vi ((tC W p0 : Nat) : Int), Vr (z : Int)]) (h1 := ((SHv st dr (z : Int)), (ovl a43 s b))) (m' := 49) (as := [Vr (z : Int), Vi ((tC W p0 : Nat) : Int), Vi 0]) (S' := []) (L0 := [Vr (z : Int), Vi ((tC W p0 : Nat) : Int), Vi 0]) (fun _ => rfl) rfl rfl rfl rfl (stpC_of rfl (pm_recv_of (by omega) (shY_0 hz))) rfl (c_emitX (a := a43) X43 (by omega) (tC W p0) 0 (by omega) (by omega)) (fun r h' hq => ?_)
                obtain ⟨rfl, hq⟩ := hq
                rcases hq with ⟨a44, rfl, X44, g44, E44⟩
                · have G44 := G43.tr g44 (by omega)
                  have Q44 := X44.le
                  show Ev X _ _ 62 [Vr 114, Vi (i : Int), Vi ((tC W p0 : Nat) : Int)] [Vi ((c43 : Nat) : Int)] ((SHv st dr (z : Int)), (ovl a44 s b)) _
                  refine Ev.steps (k := 2) (pc' := 66) (L' := [Vr 114, Vi (w32 ((i : Int) + 1)), Vi ((tC W p0 : Nat) : Int)]) (S' := []) (h' := ((SHv st dr (z : Int)), (ovl a44 s b))) (fun _ => rfl) ?_
                  rw [show (w32 ((i : Int) + 1)) = ((i : Int) + 1) from w32_id (by unfold R32; omega)]
                  refine Ev.steps (k := 1) (pc' := 6) (L' := [Vr 114, Vi ((i : Int) + 1), Vi ((tC W p0 : Nat) : Int)]) (S' := []) (h' := ((SHv st dr (z : Int)), (ovl a44 s b))) (fun _ => rfl) ?_
                  obtain ⟨F, rfl⟩ : ∃ F, kk = F + 1 := ⟨kk - 1, by omega⟩
                  have hop : opM (tC W p0) ≠ 0 := by rw [ne_eq, opM_z]; omega
                  have hoc : 15 ≤ opM (tC W p0) ∧ opM (tC W p0) ≤ 24 ∧ encT (opM (tC W p0)) = tC W p0 := enc_opM hop
                  show Ev X _ _ _ _ _ _ (PoX st dr s b W N z p00 c00 K a00 (D + 1) (if opM (tC W p0) = 0 then .ok (l0, p0) else bnX (gotT W p0) (fun p1 => bnX (P p1) (fun r => chnL W opM P F (l0 ++ (r.1 ++ [(opM (tC W p0), 0)])) r.2))))
                  rw [if_neg hop, hx42, bnX_o, hx43, bnX_o]
                  have e1 : ∀ j, j < c43 → a44 (z + 11) j = a43 (z + 11) j := fun j hj => g44.2 j hj
                  have e2 : ∀ j, j < c0 → a44 (z + 11) j = a0 (z + 11) j := fun j hj => (e1 j (by omega)).trans ((g43.2 j hj).trans (by rw [R42]))
                  exact ih F (by omega) _ (i + 1) _ (l0 ++ (l43 ++ [(opM (tC W p0), 0)])) a44 p43 (c43 + 1) (by omega) (by omega) X44 (by omega) G44 (CoC.bin (D' := D) hoc.1 hoc.2.1 (o0.cg (fun j _ hj => e2 j hj)) (o43.cg (fun j _ hj => e1 j hj)) (Nat.le_refl _) (by rw [E44, hoc.2.2]; rfl)) (by omega) (by omega)
              · have B43 := G42.bz hb43
                show Ev X _ _ 53 [Vr 114, Vi (i : Int), Vi ((tC W p0 : Nat) : Int)] [] ((SHv st dr (z : Int)), (ovl a43 s b)) _
                refine Ev.call (k := 4) (pc1 := 59) (L1 := [Vr 114, Vi (i : Int), Vi ((tC W p0 : Nat) : Int)]) (S1 := [Vi 0, Vi ((tC W p0 : Nat) : Int), Vr (z : Int)]) (h1 := ((SHv st dr (z : Int)), (ovl a43 s b))) (m' := 49) (as := [Vr (z : Int), Vi ((tC W p0 : Nat) : Int), Vi 0]) (S' := []) (L0 := [Vr (z : Int), Vi ((tC W p0 : Nat) : Int), Vi 0]) (fun _ => rfl) rfl rfl rfl rfl (stpC_of rfl (pm_recv_of (by omega) (shY_0 hz))) rfl (c_emit_br hz (B43).2.2.2 ((tC W p0 : Nat) : Int) 0) (fun r h' hq => ?_)
                obtain ⟨v45, a45, rfl, rfl, f1, f2, f3⟩ := hq
                have B45 := (B43).st hz f1 f2 f3
                show Ev X _ _ 62 [Vr 114, Vi (i : Int), Vi ((tC W p0 : Nat) : Int)] [Vi v45] ((SHv st dr (z : Int)), (ovl a45 s b)) _
                refine Ev.steps (k := 2) (pc' := 66) (L' := [Vr 114, Vi (w32 ((i : Int) + 1)), Vi ((tC W p0 : Nat) : Int)]) (S' := []) (h' := ((SHv st dr (z : Int)), (ovl a45 s b))) (fun _ => rfl) ?_
                rw [show (w32 ((i : Int) + 1)) = ((i : Int) + 1) from w32_id (by unfold R32; omega)]
                refine Ev.steps (k := 1) (pc' := 6) (L' := [Vr 114, Vi ((i : Int) + 1), Vi ((tC W p0 : Nat) : Int)]) (S' := []) (h' := ((SHv st dr (z : Int)), (ovl a45 s b))) (fun _ => rfl) ?_
                refine (c_product_brl B45.2.2.1 _ _).mono ?_
                rintro r h' ⟨h1, h2⟩
                refine ⟨h1, _, h2, ?_⟩
                obtain ⟨F, rfl⟩ : ∃ F, kk = F + 1 := ⟨kk - 1, by omega⟩
                have hop : opM (tC W p0) ≠ 0 := by rw [ne_eq, opM_z]; omega
                show YoC W N z p00 c00 K a00 (D + 1) (if opM (tC W p0) = 0 then .ok (l0, p0) else bnX (gotT W p0) (fun p1 => bnX (P p1) (fun r => chnL W opM P F (l0 ++ (r.1 ++ [(opM (tC W p0), 0)])) r.2))) _
                rw [if_neg hop, hx42, bnX_o, hx43, bnX_e]
                exact Or.inr ⟨_, rfl, B45⟩
            · have B42 := G0.bd X0 (by omega) hb42
              show Ev X _ _ 49 [Vr 114, Vi (i : Int), Vi ((tC W p0 : Nat) : Int)] [] ((SHv st dr (z : Int)), (ovl a42 s b)) _
              refine Ev.call (k := 1) (pc1 := 50) (L1 := [Vr 114, Vi (i : Int), Vi ((tC W p0 : Nat) : Int)]) (S1 := [Vr 114]) (h1 := ((SHv st dr (z : Int)), (ovl a42 s b))) (m' := 48) (as := [Vr 114]) (S' := []) (L0 := [Vr 114]) (fun _ => rfl) rfl rfl rfl rfl rfl rfl (c_part_br B42.2.2.1) (fun r h' hq => ?_)
              obtain ⟨rfl, rfl⟩ := hq
              show Ev X _ _ 53 [Vr 114, Vi (i : Int), Vi ((tC W p0 : Nat) : Int)] [] ((SHv st dr (z : Int)), (ovl a42 s b)) _
              refine Ev.call (k := 4) (pc1 := 59) (L1 := [Vr 114, Vi (i : Int), Vi ((tC W p0 : Nat) : Int)]) (S1 := [Vi 0, Vi ((tC W p0 : Nat) : Int), Vr (z : Int)]) (h1 := ((SHv st dr (z : Int)), (ovl a42 s b))) (m' := 49) (as := [Vr (z : Int), Vi ((tC W p0 : Nat) : Int), Vi 0]) (S' := []) (L0 := [Vr (z : Int), Vi ((tC W p0 : Nat) : Int), Vi 0]) (fun _ => rfl) rfl rfl rfl rfl (stpC_of rfl (pm_recv_of (by omega) (shY_0 hz))) rfl (c_emit_br hz (B42).2.2.2 ((tC W p0 : Nat) : Int) 0) (fun r h' hq => ?_)
              obtain ⟨v47, a47, rfl, rfl, f1, f2, f3⟩ := hq
              have B47 := (B42).st hz f1 f2 f3
              show Ev X _ _ 62 [Vr 114, Vi (i : Int), Vi ((tC W p0 : Nat) : Int)] [Vi v47] ((SHv st dr (z : Int)), (ovl a47 s b)) _
              refine Ev.steps (k := 2) (pc' := 66) (L' := [Vr 114, Vi (w32 ((i : Int) + 1)), Vi ((tC W p0 : Nat) : Int)]) (S' := []) (h' := ((SHv st dr (z : Int)), (ovl a47 s b))) (fun _ => rfl) ?_
              rw [show (w32 ((i : Int) + 1)) = ((i : Int) + 1) from w32_id (by unfold R32; omega)]
              refine Ev.steps (k := 1) (pc' := 6) (L' := [Vr 114, Vi ((i : Int) + 1), Vi ((tC W p0 : Nat) : Int)]) (S' := []) (h' := ((SHv st dr (z : Int)), (ovl a47 s b))) (fun _ => rfl) ?_
              refine (c_product_brl B47.2.2.1 _ _).mono ?_
              rintro r h' ⟨h1, h2⟩
              refine ⟨h1, _, h2, ?_⟩
              obtain ⟨F, rfl⟩ : ∃ F, kk = F + 1 := ⟨kk - 1, by omega⟩
              have hop : opM (tC W p0) ≠ 0 := by rw [ne_eq, opM_z]; omega
              show YoC W N z p00 c00 K a00 (D + 1) (if opM (tC W p0) = 0 then .ok (l0, p0) else bnX (gotT W p0) (fun p1 => bnX (P p1) (fun r => chnL W opM P F (l0 ++ (r.1 ++ [(opM (tC W p0), 0)])) r.2))) _
              rw [if_neg hop, hx42, bnX_e]
              exact Or.inr ⟨_, rfl, B47⟩
theorem c_product {X : List Int} {st dr : Int} {s b : C3} {W : TXT} {N : SC} {z : Nat} (hz : hyS z) {K : Nat} {P : PRS} {D h : Nat} (hP : MOk X st dr s b W N z 48 [Vr 114] K P D h) : MOk X st dr s b W N z 47 [Vr 114, Vx, Vx] K (chnT W opM P) (D + 1) (h + 5) := by
  intro d a0 p0 c0 hd X0 hc0
  have hz1 := z11 hz
  obtain ⟨d, rfl⟩ : ∃ d1, d = d1 + 5 := ⟨d - 5, by omega⟩
  have G0 : Gz z c0 a0 a0 := Gz.rf
  have Q0 := X0.le
  refine Ev.call (k := 1) (pc1 := 1) (L1 := [Vr 114, Vx, Vx]) (S1 := [Vr 114]) (h1 := ((SHv st dr (z : Int)), (ovl a0 s b))) (m' := 48) (as := [Vr 114]) (S' := []) (L0 := [Vr 114]) (fun _ => rfl) rfl rfl rfl rfl rfl rfl (hP _ _ _ _ (by omega) X0 (by omega)) (fun r h' hq => ?_)
  obtain ⟨rfl, a48, rfl, hq⟩ := hq
  rcases hq with ⟨⟨l48, p48⟩, hx48, c48, X48, g48, o48, h48⟩ | ⟨e48, hx48, hb48⟩
  · have L48 := o48.lt
    have G48 := G0.tr g48 (by omega)
    have Q48 := X48.le
    dsimp only at h48
    show Ev X _ _ 4 [Vr 114, Vx, Vx] [] ((SHv st dr (z : Int)), (ovl a48 s b)) _
    refine Ev.steps (k := 2) (pc' := 6) (L' := [Vr 114, Vi 0, Vx]) (S' := []) (h' := ((SHv st dr (z : Int)), (ovl a48 s b))) (fun _ => rfl) ?_
    unfold chnT
    rw [hx48, bnX_o]
    exact c_product_l hz hP _ 0 _ l48 a48 p48 c48 (by omega) (by omega) X48 (by omega) G48 (o48.mo (by omega)) h48
  · have B48 := G0.bz hb48
    show Ev X _ _ 4 [Vr 114, Vx, Vx] [] ((SHv st dr (z : Int)), (ovl a48 s b)) _
    refine Ev.steps (k := 2) (pc' := 6) (L' := [Vr 114, Vi 0, Vx]) (S' := []) (h' := ((SHv st dr (z : Int)), (ovl a48 s b))) (fun _ => rfl) ?_
    refine (c_product_brl B48.2.2.1 _ _).mono ?_
    rintro r h' ⟨h1, h2⟩
    refine ⟨h1, _, h2, ?_⟩
    unfold chnT
    rw [hx48, bnX_e]
    exact Or.inr ⟨_, rfl, B48⟩
theorem c_sum_l {X : List Int} {st dr : Int} {s b : C3} {W : TXT} {N : SC} {z : Nat} (hz : hyS z) {K : Nat} {P : PRS} {D h : Nat} (hP : MOk X st dr s b W N z 47 [Vr 114, Vx, Vx] K P D h) {a00 : C3} {p00 c00 : Nat} (d i : Nat) (x : pm_V) (l0 : List (Nat × Nat)) (a0 : C3) (p0 c0 : Nat) (hd : h + 5 ≤ d) (hi : i ≤ 1200) (X0 : XoC W N z p0 c0 K a0) (hc0 : c0 ≤ p0) (G0 : Gz z c00 a00 a0) (o0 : CoC (a0 (z + 11)) (D + 1) c00 l0 c0) (h0 : c0 + p00 ≤ c00 + p0) : Ev X d 46 6 [Vr 114, Vi (i : Int), x] [] (SHv st dr (z : Int), ovl a0 s b) (PoX st dr s b W N z p00 c00 K a00 (D + 1) (chnL W opA P (1200 - i) l0 p0)) := by
  induction hk : 1200 - i using Nat.strongRecOn generalizing i x l0 a0 p0 c0 d with
  | ind kk ih =>
    have hz1 := z11 hz
    obtain ⟨d, rfl⟩ : ∃ d1, d = d1 + 5 := ⟨d - 5, by omega⟩
    have Q0 := X0.le
    have L0 := o0.lt
    refine Ev.ite (P := 1200 ≤ (i : Int)) (k := 3) (a := 60) (b := 13) (L' := [Vr 114, Vi (i : Int), x]) (S' := []) (h' := ((SHv st dr (z : Int)), (ovl a0 s b))) (fun _ => rfl) (fun b10 => ?_) (fun b10 => ?_)
    · refine Ev.fin (k := 1) (r := none) (h' := ((SHv st dr (z : Int)), (ovl a0 s b))) (fun _ => rfl) ?_
      refine ⟨rfl, _, rfl, ?_⟩
      have e : chnL W opA P kk l0 p0 = .ok (l0, p0) := by
        match kk, hk with
        | 0, _ => rfl
        | F + 1, _ =>
          show (if opA (tC W p0) = 0 then Except.ok (l0, p0) else _) = _
          rw [if_pos (by rw [opA_z]; omega)]
      rw [e]
      exact Or.inl ⟨_, rfl, c0, X0, G0, o0, h0⟩
    · refine Ev.steps (k := 2) (pc' := 17) (L' := [Vr 114, Vi (i : Int), x]) (S' := [Vi (a0 114 5)]) (h' := ((SHv st dr (z : Int)), (ovl a0 s b))) (fun _ => rfl) ?_
      rw [X0.t5]
      refine Ev.ite (P := ((tC W p0 : Nat) : Int) = 43) (k := 2) (a := 31) (b := 22) (L' := [Vr 114, Vi (i : Int), x]) (S' := []) (h' := ((SHv st dr (z : Int)), (ovl a0 s b))) (fun _ => rfl) (fun b19 => ?_) (fun b19 => ?_)
      · refine Ev.steps (k := 2) (pc' := 35) (L' := [Vr 114, Vi (i : Int), x]) (S' := [Vi (a0 114 5)]) (h' := ((SHv st dr (z : Int)), (ovl a0 s b))) (fun _ => rfl) ?_
        rw [X0.t5]
        refine Ev.call (k := 2) (pc1 := 37) (L1 := [Vr 114, Vi (i : Int), Vi ((tC W p0 : Nat) : Int)]) (S1 := [Vr 114]) (h1 := ((SHv st dr (z : Int)), (ovl a0 s b))) (m' := 27) (as := [Vr 114]) (S' := []) (L0 := [Vr 114, Vx, Vx, Vx, Vx]) (fun _ => rfl) rfl rfl rfl rfl rfl rfl (c_next X0.1) (fun r h' hq => ?_)
        obtain ⟨rfl, a49, rfl, hq⟩ := hq
        rcases hq with ⟨p49, hx49, ho49⟩ | ⟨e49, hx49, hb49⟩
        · have X49 := X0.nx ho49
          have L49 : p0 < p49 := X0.lt (by omega) hx49
          have G49 := G0.tr (ho49.1.gz (c := c0) X0.hz) (by omega)
          have R49 : a49 (z + 11) = a0 (z + 11) := ho49.1 _ (by omega)
          have Q49 := X49.le
          show Ev X _ _ 40 [Vr 114, Vi (i : Int), Vi ((tC W p0 : Nat) : Int)] [] ((SHv st dr (z : Int)), (ovl a49 s b)) _
          refine Ev.call (k := 1) (pc1 := 41) (L1 := [Vr 114, Vi (i : Int), Vi ((tC W p0 : Nat) : Int)]) (S1 := [Vr 114]) (h1 := ((SHv st dr (z : Int)), (ovl a49 s b))) (m' := 47) (as := [Vr 114]) (S' := []) (L0 := [Vr 114, Vx, Vx]) (fun _ => rfl) rfl rfl rfl rfl rfl rfl (hP _ _ _ _ (by omega) X49 (by omega)) (fun r h' hq => ?_)
          obtain ⟨rfl, a50, rfl, hq⟩ := hq
          rcases hq with ⟨⟨l50, p50⟩, hx50, c50, X50, g50, o50, h50⟩ | ⟨e50, hx50, hb50⟩
          · have L50 := o50.lt
            have G50 := G49.tr g50 (by omega)
            have Q50 := X50.le
            dsimp only at h50
            show Ev X _ _ 44 [Vr 114, Vi (i : Int), Vi ((tC W p0 : Nat) : Int)] [] ((SHv st dr (z : Int)), (ovl a50 s b)) _
            refine Ev.call (k := 4) (pc1 := 50) (L1 := [Vr 114, Vi (i : Int), Vi ((tC W p0 : Nat) : Int)]) (S1 := [Vi 0, Vi ((tC W p0 : Nat) : Int), Vr (z : Int)]) (h1 := ((SHv st dr (z : Int)), (ovl a50 s b))) (m' := 49) (as := [Vr (z : Int), Vi ((tC W p0 : Nat) : Int), Vi 0]) (S' := []) (L0 := [Vr (z : Int), Vi ((tC W p0 : Nat) : Int), Vi 0]) (fun _ => rfl) rfl rfl rfl rfl (stpC_of rfl (pm_recv_of (by omega) (shY_0 hz))) rfl (c_emitX (a := a50) X50 (by omega) (tC W p0) 0 (by omega) (by omega)) (fun r h' hq => ?_)
            obtain ⟨rfl, hq⟩ := hq
            rcases hq with ⟨a51, rfl, X51, g51, E51⟩
            · have G51 := G50.tr g51 (by omega)
              have Q51 := X51.le
              show Ev X _ _ 53 [Vr 114, Vi (i : Int), Vi ((tC W p0 : Nat) : Int)] [Vi ((c50 : Nat) : Int)] ((SHv st dr (z : Int)), (ovl a51 s b)) _
              refine Ev.steps (k := 2) (pc' := 57) (L' := [Vr 114, Vi (w32 ((i : Int) + 1)), Vi ((tC W p0 : Nat) : Int)]) (S' := []) (h' := ((SHv st dr (z : Int)), (ovl a51 s b))) (fun _ => rfl) ?_
              rw [show (w32 ((i : Int) + 1)) = ((i : Int) + 1) from w32_id (by unfold R32; omega)]
              refine Ev.steps (k := 1) (pc' := 6) (L' := [Vr 114, Vi ((i : Int) + 1), Vi ((tC W p0 : Nat) : Int)]) (S' := []) (h' := ((SHv st dr (z : Int)), (ovl a51 s b))) (fun _ => rfl) ?_
              obtain ⟨F, rfl⟩ : ∃ F, kk = F + 1 := ⟨kk - 1, by omega⟩
              have hop : opA (tC W p0) ≠ 0 := by rw [ne_eq, opA_z]; omega
              have hoc : 15 ≤ opA (tC W p0) ∧ opA (tC W p0) ≤ 24 ∧ encT (opA (tC W p0)) = tC W p0 := enc_opA hop
              show Ev X _ _ _ _ _ _ (PoX st dr s b W N z p00 c00 K a00 (D + 1) (if opA (tC W p0) = 0 then .ok (l0, p0) else bnX (gotT W p0) (fun p1 => bnX (P p1) (fun r => chnL W opA P F (l0 ++ (r.1 ++ [(opA (tC W p0), 0)])) r.2))))
              rw [if_neg hop, hx49, bnX_o, hx50, bnX_o]
              have e1 : ∀ j, j < c50 → a51 (z + 11) j = a50 (z + 11) j := fun j hj => g51.2 j hj
              have e2 : ∀ j, j < c0 → a51 (z + 11) j = a0 (z + 11) j := fun j hj => (e1 j (by omega)).trans ((g50.2 j hj).trans (by rw [R49]))
              exact ih F (by omega) _ (i + 1) _ (l0 ++ (l50 ++ [(opA (tC W p0), 0)])) a51 p50 (c50 + 1) (by omega) (by omega) X51 (by omega) G51 (CoC.bin (D' := D) hoc.1 hoc.2.1 (o0.cg (fun j _ hj => e2 j hj)) (o50.cg (fun j _ hj => e1 j hj)) (Nat.le_refl _) (by rw [E51, hoc.2.2]; rfl)) (by omega) (by omega)
          · have B50 := G49.bz hb50
            show Ev X _ _ 44 [Vr 114, Vi (i : Int), Vi ((tC W p0 : Nat) : Int)] [] ((SHv st dr (z : Int)), (ovl a50 s b)) _
            refine Ev.call (k := 4) (pc1 := 50) (L1 := [Vr 114, Vi (i : Int), Vi ((tC W p0 : Nat) : Int)]) (S1 := [Vi 0, Vi ((tC W p0 : Nat) : Int), Vr (z : Int)]) (h1 := ((SHv st dr (z : Int)), (ovl a50 s b))) (m' := 49) (as := [Vr (z : Int), Vi ((tC W p0 : Nat) : Int), Vi 0]) (S' := []) (L0 := [Vr (z : Int), Vi ((tC W p0 : Nat) : Int), Vi 0]) (fun _ => rfl) rfl rfl rfl rfl (stpC_of rfl (pm_recv_of (by omega) (shY_0 hz))) rfl (c_emit_br hz (B50).2.2.2 ((tC W p0 : Nat) : Int) 0) (fun r h' hq => ?_)
            obtain ⟨v52, a52, rfl, rfl, f1, f2, f3⟩ := hq
            have B52 := (B50).st hz f1 f2 f3
            show Ev X _ _ 53 [Vr 114, Vi (i : Int), Vi ((tC W p0 : Nat) : Int)] [Vi v52] ((SHv st dr (z : Int)), (ovl a52 s b)) _
            refine Ev.steps (k := 2) (pc' := 57) (L' := [Vr 114, Vi (w32 ((i : Int) + 1)), Vi ((tC W p0 : Nat) : Int)]) (S' := []) (h' := ((SHv st dr (z : Int)), (ovl a52 s b))) (fun _ => rfl) ?_
            rw [show (w32 ((i : Int) + 1)) = ((i : Int) + 1) from w32_id (by unfold R32; omega)]
            refine Ev.steps (k := 1) (pc' := 6) (L' := [Vr 114, Vi ((i : Int) + 1), Vi ((tC W p0 : Nat) : Int)]) (S' := []) (h' := ((SHv st dr (z : Int)), (ovl a52 s b))) (fun _ => rfl) ?_
            refine (c_sum_brl B52.2.2.1 _ _).mono ?_
            rintro r h' ⟨h1, h2⟩
            refine ⟨h1, _, h2, ?_⟩
            obtain ⟨F, rfl⟩ : ∃ F, kk = F + 1 := ⟨kk - 1, by omega⟩
            have hop : opA (tC W p0) ≠ 0 := by rw [ne_eq, opA_z]; omega
            show YoC W N z p00 c00 K a00 (D + 1) (if opA (tC W p0) = 0 then .ok (l0, p0) else bnX (gotT W p0) (fun p1 => bnX (P p1) (fun r => chnL W opA P F (l0 ++ (r.1 ++ [(opA (tC W p0), 0)])) r.2))) _
            rw [if_neg hop, hx49, bnX_o, hx50, bnX_e]
            exact Or.inr ⟨_, rfl, B52⟩
        · have B49 := G0.bd X0 (by omega) hb49
          show Ev X _ _ 40 [Vr 114, Vi (i : Int), Vi ((tC W p0 : Nat) : Int)] [] ((SHv st dr (z : Int)), (ovl a49 s b)) _
          refine Ev.call (k := 1) (pc1 := 41) (L1 := [Vr 114, Vi (i : Int), Vi ((tC W p0 : Nat) : Int)]) (S1 := [Vr 114]) (h1 := ((SHv st dr (z : Int)), (ovl a49 s b))) (m' := 47) (as := [Vr 114]) (S' := []) (L0 := [Vr 114, Vx, Vx]) (fun _ => rfl) rfl rfl rfl rfl rfl rfl (c_product_br B49.2.2.1) (fun r h' hq => ?_)
          obtain ⟨rfl, rfl⟩ := hq
          show Ev X _ _ 44 [Vr 114, Vi (i : Int), Vi ((tC W p0 : Nat) : Int)] [] ((SHv st dr (z : Int)), (ovl a49 s b)) _
          refine Ev.call (k := 4) (pc1 := 50) (L1 := [Vr 114, Vi (i : Int), Vi ((tC W p0 : Nat) : Int)]) (S1 := [Vi 0, Vi ((tC W p0 : Nat) : Int), Vr (z : Int)]) (h1 := ((SHv st dr (z : Int)), (ovl a49 s b))) (m' := 49) (as := [Vr (z : Int), Vi ((tC W p0 : Nat) : Int), Vi 0]) (S' := []) (L0 := [Vr (z : Int), Vi ((tC W p0 : Nat) : Int), Vi 0]) (fun _ => rfl) rfl rfl rfl rfl (stpC_of rfl (pm_recv_of (by omega) (shY_0 hz))) rfl (c_emit_br hz (B49).2.2.2 ((tC W p0 : Nat) : Int) 0) (fun r h' hq => ?_)
          obtain ⟨v54, a54, rfl, rfl, f1, f2, f3⟩ := hq
          have B54 := (B49).st hz f1 f2 f3
          show Ev X _ _ 53 [Vr 114, Vi (i : Int), Vi ((tC W p0 : Nat) : Int)] [Vi v54] ((SHv st dr (z : Int)), (ovl a54 s b)) _
          refine Ev.steps (k := 2) (pc' := 57) (L' := [Vr 114, Vi (w32 ((i : Int) + 1)), Vi ((tC W p0 : Nat) : Int)]) (S' := []) (h' := ((SHv st dr (z : Int)), (ovl a54 s b))) (fun _ => rfl) ?_
          rw [show (w32 ((i : Int) + 1)) = ((i : Int) + 1) from w32_id (by unfold R32; omega)]
          refine Ev.steps (k := 1) (pc' := 6) (L' := [Vr 114, Vi ((i : Int) + 1), Vi ((tC W p0 : Nat) : Int)]) (S' := []) (h' := ((SHv st dr (z : Int)), (ovl a54 s b))) (fun _ => rfl) ?_
          refine (c_sum_brl B54.2.2.1 _ _).mono ?_
          rintro r h' ⟨h1, h2⟩
          refine ⟨h1, _, h2, ?_⟩
          obtain ⟨F, rfl⟩ : ∃ F, kk = F + 1 := ⟨kk - 1, by omega⟩
          have hop : opA (tC W p0) ≠ 0 := by rw [ne_eq, opA_z]; omega
          show YoC W N z p00 c00 K a00 (D + 1) (if opA (tC W p0) = 0 then .ok (l0, p0) else bnX (gotT W p0) (fun p1 => bnX (P p1) (fun r => chnL W opA P F (l0 ++ (r.1 ++ [(opA (tC W p0), 0)])) r.2))) _
          rw [if_neg hop, hx49, bnX_e]
          exact Or.inr ⟨_, rfl, B54⟩
      · refine Ev.steps (k := 2) (pc' := 26) (L' := [Vr 114, Vi (i : Int), x]) (S' := [Vi (a0 114 5)]) (h' := ((SHv st dr (z : Int)), (ovl a0 s b))) (fun _ => rfl) ?_
        rw [X0.t5]
        refine Ev.ite (P := ((tC W p0 : Nat) : Int) ≠ 45) (k := 2) (a := 60) (b := 31) (L' := [Vr 114, Vi (i : Int), x]) (S' := []) (h' := ((SHv st dr (z : Int)), (ovl a0 s b))) (fun _ => rfl) (fun b28 => ?_) (fun b28 => ?_)
        · refine Ev.fin (k := 1) (r := none) (h' := ((SHv st dr (z : Int)), (ovl a0 s b))) (fun _ => rfl) ?_
          refine ⟨rfl, _, rfl, ?_⟩
          have e : chnL W opA P kk l0 p0 = .ok (l0, p0) := by
            match kk, hk with
            | 0, _ => rfl
            | F + 1, _ =>
              show (if opA (tC W p0) = 0 then Except.ok (l0, p0) else _) = _
              rw [if_pos (by rw [opA_z]; omega)]
          rw [e]
          exact Or.inl ⟨_, rfl, c0, X0, G0, o0, h0⟩
        · refine Ev.steps (k := 2) (pc' := 35) (L' := [Vr 114, Vi (i : Int), x]) (S' := [Vi (a0 114 5)]) (h' := ((SHv st dr (z : Int)), (ovl a0 s b))) (fun _ => rfl) ?_
          rw [X0.t5]
          refine Ev.call (k := 2) (pc1 := 37) (L1 := [Vr 114, Vi (i : Int), Vi ((tC W p0 : Nat) : Int)]) (S1 := [Vr 114]) (h1 := ((SHv st dr (z : Int)), (ovl a0 s b))) (m' := 27) (as := [Vr 114]) (S' := []) (L0 := [Vr 114, Vx, Vx, Vx, Vx]) (fun _ => rfl) rfl rfl rfl rfl rfl rfl (c_next X0.1) (fun r h' hq => ?_)
          obtain ⟨rfl, a55, rfl, hq⟩ := hq
          rcases hq with ⟨p55, hx55, ho55⟩ | ⟨e55, hx55, hb55⟩
          · have X55 := X0.nx ho55
            have L55 : p0 < p55 := X0.lt (by omega) hx55
            have G55 := G0.tr (ho55.1.gz (c := c0) X0.hz) (by omega)
            have R55 : a55 (z + 11) = a0 (z + 11) := ho55.1 _ (by omega)
            have Q55 := X55.le
            show Ev X _ _ 40 [Vr 114, Vi (i : Int), Vi ((tC W p0 : Nat) : Int)] [] ((SHv st dr (z : Int)), (ovl a55 s b)) _
            refine Ev.call (k := 1) (pc1 := 41) (L1 := [Vr 114, Vi (i : Int), Vi ((tC W p0 : Nat) : Int)]) (S1 := [Vr 114]) (h1 := ((SHv st dr (z : Int)), (ovl a55 s b))) (m' := 47) (as := [Vr 114]) (S' := []) (L0 := [Vr 114, Vx, Vx]) (fun _ => rfl) rfl rfl rfl rfl rfl rfl (hP _ _ _ _ (by omega) X55 (by omega)) (fun r h' hq => ?_)
            obtain ⟨rfl, a56, rfl, hq⟩ := hq
            rcases hq with ⟨⟨l56, p56⟩, hx56, c56, X56, g56, o56, h56⟩ | ⟨e56, hx56, hb56⟩
            · have L56 := o56.lt
              have G56 := G55.tr g56 (by omega)
              have Q56 := X56.le
              dsimp only at h56
              show Ev X _ _ 44 [Vr 114, Vi (i : Int), Vi ((tC W p0 : Nat) : Int)] [] ((SHv st dr (z : Int)), (ovl a56 s b)) _
              refine Ev.call (k := 4) (pc1 := 50) (L1 := [Vr 114, Vi (i : Int), Vi ((tC W p0 : Nat) : Int)]) (S1 := [Vi 0, Vi ((tC W p0 : Nat) : Int), Vr (z : Int)]) (h1 := ((SHv st dr (z : Int)), (ovl a56 s b))) (m' := 49) (as := [Vr (z : Int), Vi ((tC W p0 : Nat) : Int), Vi 0]) (S' := []) (L0 := [Vr (z : Int), Vi ((tC W p0 : Nat) : Int), Vi 0]) (fun _ => rfl) rfl rfl rfl rfl (stpC_of rfl (pm_recv_of (by omega) (shY_0 hz))) rfl (c_emitX (a := a56) X56 (by omega) (tC W p0) 0 (by omega) (by omega)) (fun r h' hq => ?_)
              obtain ⟨rfl, hq⟩ := hq
              rcases hq with ⟨a57, rfl, X57, g57, E57⟩
              · have G57 := G56.tr g57 (by omega)
                have Q57 := X57.le
                show Ev X _ _ 53 [Vr 114, Vi (i : Int), Vi ((tC W p0 : Nat) : Int)] [Vi ((c56 : Nat) : Int)] ((SHv st dr (z : Int)), (ovl a57 s b)) _
                refine Ev.steps (k := 2) (pc' := 57) (L' := [Vr 114, Vi (w32 ((i : Int) + 1)), Vi ((tC W p0 : Nat) : Int)]) (S' := []) (h' := ((SHv st dr (z : Int)), (ovl a57 s b))) (fun _ => rfl) ?_
                rw [show (w32 ((i : Int) + 1)) = ((i : Int) + 1) from w32_id (by unfold R32; omega)]
                refine Ev.steps (k := 1) (pc' := 6) (L' := [Vr 114, Vi ((i : Int) + 1), Vi ((tC W p0 : Nat) : Int)]) (S' := []) (h' := ((SHv st dr (z : Int)), (ovl a57 s b))) (fun _ => rfl) ?_
                obtain ⟨F, rfl⟩ : ∃ F, kk = F + 1 := ⟨kk - 1, by omega⟩
                have hop : opA (tC W p0) ≠ 0 := by rw [ne_eq, opA_z]; omega
                have hoc : 15 ≤ opA (tC W p0) ∧ opA (tC W p0) ≤ 24 ∧ encT (opA (tC W p0)) = tC W p0 := enc_opA hop
                show Ev X _ _ _ _ _ _ (PoX st dr s b W N z p00 c00 K a00 (D + 1) (if opA (tC W p0) = 0 then .ok (l0, p0) else bnX (gotT W p0) (fun p1 => bnX (P p1) (fun r => chnL W opA P F (l0 ++ (r.1 ++ [(opA (tC W p0), 0)])) r.2))))
                rw [if_neg hop, hx55, bnX_o, hx56, bnX_o]
                have e1 : ∀ j, j < c56 → a57 (z + 11) j = a56 (z + 11) j := fun j hj => g57.2 j hj
                have e2 : ∀ j, j < c0 → a57 (z + 11) j = a0 (z + 11) j := fun j hj => (e1 j (by omega)).trans ((g56.2 j hj).trans (by rw [R55]))
                exact ih F (by omega) _ (i + 1) _ (l0 ++ (l56 ++ [(opA (tC W p0), 0)])) a57 p56 (c56 + 1) (by omega) (by omega) X57 (by omega) G57 (CoC.bin (D' := D) hoc.1 hoc.2.1 (o0.cg (fun j _ hj => e2 j hj)) (o56.cg (fun j _ hj => e1 j hj)) (Nat.le_refl _) (by rw [E57, hoc.2.2]; rfl)) (by omega) (by omega)
            · have B56 := G55.bz hb56
              show Ev X _ _ 44 [Vr 114, Vi (i : Int), Vi ((tC W p0 : Nat) : Int)] [] ((SHv st dr (z : Int)), (ovl a56 s b)) _
              refine Ev.call (k := 4) (pc1 := 50) (L1 := [Vr 114, Vi (i : Int), Vi ((tC W p0 : Nat) : Int)]) (S1 := [Vi 0, Vi ((tC W p0 : Nat) : Int), Vr (z : Int)]) (h1 := ((SHv st dr (z : Int)), (ovl a56 s b))) (m' := 49) (as := [Vr (z : Int), Vi ((tC W p0 : Nat) : Int), Vi 0]) (S' := []) (L0 := [Vr (z : Int), Vi ((tC W p0 : Nat) : Int), Vi 0]) (fun _ => rfl) rfl rfl rfl rfl (stpC_of rfl (pm_recv_of (by omega) (shY_0 hz))) rfl (c_emit_br hz (B56).2.2.2 ((tC W p0 : Nat) : Int) 0) (fun r h' hq => ?_)
              obtain ⟨v58, a58, rfl, rfl, f1, f2, f3⟩ := hq
              have B58 := (B56).st hz f1 f2 f3
              show Ev X _ _ 53 [Vr 114, Vi (i : Int), Vi ((tC W p0 : Nat) : Int)] [Vi v58] ((SHv st dr (z : Int)), (ovl a58 s b)) _
              refine Ev.steps (k := 2) (pc' := 57) (L' := [Vr 114, Vi (w32 ((i : Int) + 1)), Vi ((tC W p0 : Nat) : Int)]) (S' := []) (h' := ((SHv st dr (z : Int)), (ovl a58 s b))) (fun _ => rfl) ?_
              rw [show (w32 ((i : Int) + 1)) = ((i : Int) + 1) from w32_id (by unfold R32; omega)]
              refine Ev.steps (k := 1) (pc' := 6) (L' := [Vr 114, Vi ((i : Int) + 1), Vi ((tC W p0 : Nat) : Int)]) (S' := []) (h' := ((SHv st dr (z : Int)), (ovl a58 s b))) (fun _ => rfl) ?_
              refine (c_sum_brl B58.2.2.1 _ _).mono ?_
              rintro r h' ⟨h1, h2⟩
              refine ⟨h1, _, h2, ?_⟩
              obtain ⟨F, rfl⟩ : ∃ F, kk = F + 1 := ⟨kk - 1, by omega⟩
              have hop : opA (tC W p0) ≠ 0 := by rw [ne_eq, opA_z]; omega
              show YoC W N z p00 c00 K a00 (D + 1) (if opA (tC W p0) = 0 then .ok (l0, p0) else bnX (gotT W p0) (fun p1 => bnX (P p1) (fun r => chnL W opA P F (l0 ++ (r.1 ++ [(opA (tC W p0), 0)])) r.2))) _
              rw [if_neg hop, hx55, bnX_o, hx56, bnX_e]
              exact Or.inr ⟨_, rfl, B58⟩
          · have B55 := G0.bd X0 (by omega) hb55
            show Ev X _ _ 40 [Vr 114, Vi (i : Int), Vi ((tC W p0 : Nat) : Int)] [] ((SHv st dr (z : Int)), (ovl a55 s b)) _
            refine Ev.call (k := 1) (pc1 := 41) (L1 := [Vr 114, Vi (i : Int), Vi ((tC W p0 : Nat) : Int)]) (S1 := [Vr 114]) (h1 := ((SHv st dr (z : Int)), (ovl a55 s b))) (m' := 47) (as := [Vr 114]) (S' := []) (L0 := [Vr 114, Vx, Vx]) (fun _ => rfl) rfl rfl rfl rfl rfl rfl (c_product_br B55.2.2.1) (fun r h' hq => ?_)
            obtain ⟨rfl, rfl⟩ := hq
            show Ev X _ _ 44 [Vr 114, Vi (i : Int), Vi ((tC W p0 : Nat) : Int)] [] ((SHv st dr (z : Int)), (ovl a55 s b)) _
            refine Ev.call (k := 4) (pc1 := 50) (L1 := [Vr 114, Vi (i : Int), Vi ((tC W p0 : Nat) : Int)]) (S1 := [Vi 0, Vi ((tC W p0 : Nat) : Int), Vr (z : Int)]) (h1 := ((SHv st dr (z : Int)), (ovl a55 s b))) (m' := 49) (as := [Vr (z : Int), Vi ((tC W p0 : Nat) : Int), Vi 0]) (S' := []) (L0 := [Vr (z : Int), Vi ((tC W p0 : Nat) : Int), Vi 0]) (fun _ => rfl) rfl rfl rfl rfl (stpC_of rfl (pm_recv_of (by omega) (shY_0 hz))) rfl (c_emit_br hz (B55).2.2.2 ((tC W p0 : Nat) : Int) 0) (fun r h' hq => ?_)
            obtain ⟨v60, a60, rfl, rfl, f1, f2, f3⟩ := hq
            have B60 := (B55).st hz f1 f2 f3
            show Ev X _ _ 53 [Vr 114, Vi (i : Int), Vi ((tC W p0 : Nat) : Int)] [Vi v60] ((SHv st dr (z : Int)), (ovl a60 s b)) _
            refine Ev.steps (k := 2) (pc' := 57) (L' := [Vr 114, Vi (w32 ((i : Int) + 1)), Vi ((tC W p0 : Nat) : Int)]) (S' := []) (h' := ((SHv st dr (z : Int)), (ovl a60 s b))) (fun _ => rfl) ?_
            rw [show (w32 ((i : Int) + 1)) = ((i : Int) + 1) from w32_id (by unfold R32; omega)]
            refine Ev.steps (k := 1) (pc' := 6) (L' := [Vr 114, Vi ((i : Int) + 1), Vi ((tC W p0 : Nat) : Int)]) (S' := []) (h' := ((SHv st dr (z : Int)), (ovl a60 s b))) (fun _ => rfl) ?_
            refine (c_sum_brl B60.2.2.1 _ _).mono ?_
            rintro r h' ⟨h1, h2⟩
            refine ⟨h1, _, h2, ?_⟩
            obtain ⟨F, rfl⟩ : ∃ F, kk = F + 1 := ⟨kk - 1, by omega⟩
            have hop : opA (tC W p0) ≠ 0 := by rw [ne_eq, opA_z]; omega
            show YoC W N z p00 c00 K a00 (D + 1) (if opA (tC W p0) = 0 then .ok (l0, p0) else bnX (gotT W p0) (fun p1 => bnX (P p1) (fun r => chnL W opA P F (l0 ++ (r.1 ++ [(opA (tC W p0), 0)])) r.2))) _
            rw [if_neg hop, hx55, bnX_e]
            exact Or.inr ⟨_, rfl, B60⟩
theorem c_sum {X : List Int} {st dr : Int} {s b : C3} {W : TXT} {N : SC} {z : Nat} (hz : hyS z) {K : Nat} {P : PRS} {D h : Nat} (hP : MOk X st dr s b W N z 47 [Vr 114, Vx, Vx] K P D h) : MOk X st dr s b W N z 46 [Vr 114, Vx, Vx] K (chnT W opA P) (D + 1) (h + 5) := by
  intro d a0 p0 c0 hd X0 hc0
  have hz1 := z11 hz
  obtain ⟨d, rfl⟩ : ∃ d1, d = d1 + 5 := ⟨d - 5, by omega⟩
  have G0 : Gz z c0 a0 a0 := Gz.rf
  have Q0 := X0.le
  refine Ev.call (k := 1) (pc1 := 1) (L1 := [Vr 114, Vx, Vx]) (S1 := [Vr 114]) (h1 := ((SHv st dr (z : Int)), (ovl a0 s b))) (m' := 47) (as := [Vr 114]) (S' := []) (L0 := [Vr 114, Vx, Vx]) (fun _ => rfl) rfl rfl rfl rfl rfl rfl (hP _ _ _ _ (by omega) X0 (by omega)) (fun r h' hq => ?_)
  obtain ⟨rfl, a61, rfl, hq⟩ := hq
  rcases hq with ⟨⟨l61, p61⟩, hx61, c61, X61, g61, o61, h61⟩ | ⟨e61, hx61, hb61⟩
  · have L61 := o61.lt
    have G61 := G0.tr g61 (by omega)
    have Q61 := X61.le
    dsimp only at h61
    show Ev X _ _ 4 [Vr 114, Vx, Vx] [] ((SHv st dr (z : Int)), (ovl a61 s b)) _
    refine Ev.steps (k := 2) (pc' := 6) (L' := [Vr 114, Vi 0, Vx]) (S' := []) (h' := ((SHv st dr (z : Int)), (ovl a61 s b))) (fun _ => rfl) ?_
    unfold chnT
    rw [hx61, bnX_o]
    exact c_sum_l hz hP _ 0 _ l61 a61 p61 c61 (by omega) (by omega) X61 (by omega) G61 (o61.mo (by omega)) h61
  · have B61 := G0.bz hb61
    show Ev X _ _ 4 [Vr 114, Vx, Vx] [] ((SHv st dr (z : Int)), (ovl a61 s b)) _
    refine Ev.steps (k := 2) (pc' := 6) (L' := [Vr 114, Vi 0, Vx]) (S' := []) (h' := ((SHv st dr (z : Int)), (ovl a61 s b))) (fun _ => rfl) ?_
    refine (c_sum_brl B61.2.2.1 _ _).mono ?_
    rintro r h' ⟨h1, h2⟩
    refine ⟨h1, _, h2, ?_⟩
    unfold chnT
    rw [hx61, bnX_e]
    exact Or.inr ⟨_, rfl, B61⟩
theorem c_sumT {X : List Int} {st dr : Int} {s b : C3} {W : TXT} {N : SC} {z : Nat} (hz : hyS z) : ∀ K, MOk X st dr s b W N z 46 [Vr 114, Vx, Vx] K (sumT W N K) (3 * K + 3) (17 * K + 17)
  | 0 => c_sum hz (D := 2) (h := 12) (c_product hz (D := 1) (h := 7) (c_part hz (K1 := 0) (I := fun _ => .error (0, 0)) (D := 0) (h := 0) (fun h => absurd rfl h)))
  | K + 1 => c_sum hz (D := 3 * K + 3 + 1 + 1) (h := 17 * K + 17 + 7 + 5) (c_product hz (D := 3 * K + 3 + 1) (h := 17 * K + 17 + 7) (c_part hz (K1 := K) (fun _ => ⟨rfl, c_sumT hz K⟩)))
