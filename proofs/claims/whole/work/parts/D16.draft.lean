/-! THE CLASS READS: the draft, told so far -/
def FsZ (z : Nat) (a a' : SC) : Prop := ∀ o, o ≠ 114 → (o < z ∨ z + 55 < o ∨ o = z + 1) → a' o = a o
def BdS (W : TXT) (z : Nat) (a : SC) (e : PF) (a' : SC) : Prop := FsZ z a a' ∧ BaC W a' ∧ BrC e a' ∧ CdB a' z
theorem FsZ.rf {z : Nat} {a : SC} : FsZ z a a := fun _ _ _ => rfl
theorem FsZ.tr {z : Nat} {a b c : SC} (h : FsZ z a b) (h' : FsZ z b c) : FsZ z a c := fun o h1 h2 => (h' o h1 h2).trans (h o h1 h2)
theorem FrZ.s {z : Nat} {a b : SC} (h : FrZ z a b) : FsZ z a b := fun o h1 h2 => h o h1 (by omega) (by omega)
theorem FrO.s {z : Nat} {a b : SC} (h : FrO 114 114 a b) : FsZ z a b := fun o h1 _ => h o (by omega)
theorem FsZ.up {z : Nat} {a b : SC} {o i : Nat} {v : Int} (h : FsZ z a b) (ho : o = 114 ∨ (z ≤ o ∧ o ≤ z + 55 ∧ o ≠ z + 1)) : FsZ z a (updC b o i v) := fun o' h1 h2 => by
  rw [updC_row (by omega)]
  exact h o' h1 h2
theorem BdZ.sf {W : TXT} {z : Nat} {a a' : SC} {e : PF} (h : BdZ W z a e a') : BdZ W z a' e a' := ⟨FrZ.rf, h.2⟩
theorem BdS.z {W : TXT} {z : Nat} {a a' : SC} {e : PF} (h : BdS W z a e a') : BdZ W z a' e a' := ⟨FrZ.rf, h.2⟩
theorem BdS.tz {W : TXT} {z : Nat} {a a' a2 : SC} {e : PF} (h : BdS W z a e a') (h' : BdZ W z a' e a2) : BdS W z a e a2 := ⟨h.1.tr h'.1.s, h'.2⟩
theorem FsZ.bz {W : TXT} {z : Nat} {a a' a2 : SC} {e : PF} (h : FsZ z a a') (h' : BdZ W z a' e a2) : BdS W z a e a2 := ⟨h.tr h'.1.s, h'.2⟩
theorem BdS.up {W : TXT} {z : Nat} {a a' : SC} {e : PF} {o i : Nat} {v : Int} (h : BdS W z a e a') (hz : hyS z) (ho : z < o ∧ o ≤ z + 55 ∧ o ≠ z + 1) : BdS W z a e (updC a' o i v) := by
  have hz : z = 2 ∨ z = 58 := hz
  refine ⟨h.1.up (by omega), h.2.1.fo (updC_row (by omega)) (updC_row (by omega)) (by rw [updC_row (by omega)]), h.2.2.1.fo (updC_row (by omega)), ?_⟩
  unfold CdB
  rw [updC_row (by omega)]
  exact h.2.2.2
theorem XoC.up {W : TXT} {N : SC} {z p c K : Nat} {a : SC} {o i : Nat} {v : Int} (h : XoC W N z p c K a) (ho : z + 3 ≤ o ∧ o ≤ z + 55) : XoC W N z p c K (updC a o i v) := by
  have hz : z = 2 ∨ z = 58 := h.hz
  exact ⟨h.1.fo (updC_row (by omega)) (updC_row (by omega)) (updC_row (by omega)), h.2.1.fo (updC_row (by omega)) (updC_row (by omega)), by rw [updC_row (by omega)]; exact h.2.2.1, by rw [updC_row (by omega)]; exact h.2.2.2.1, h.2.2.2.2⟩
/-- the draft at z tells the story so far; c steps of code -/
def PaC (S : STY) (a : SC) (z c : Nat) : Prop :=
  (∀ i, i < 6 → a (z + 1) i = S.1 0 i) ∧ NmC S.1 a z ∧
  (∀ r, r < 8 → ∃ x : Nat, x < 256 ∧ a (z + 3) r = (x : Int) ∧ ∀ o, o < 8 → (x.testBit o = true ↔ S.1 4 (8 * r + o) ≠ 0)) ∧
  (∀ i, i < 8 → a (z + 7) i = if i < nW S then S.1 5 i else 0) ∧ (∀ i, i < 8 → a (z + 8) i = if i < nT S then S.1 6 i else 0) ∧ a (z + 6) 2 = 0 ∧
  (∀ r, r < nL S → RuC S a z r ∧ a (z + 14 + r) 6 ≤ (c : Int)) ∧
  (∀ k, k < nC S → a (z + 44 + k) 0 = S.1 7 k ∧ a (z + 44 + k) 1 = S.1 8 k ∧ a (z + 44 + k) 2 = S.1 9 k ∧ a (z + 44 + k) 3 = S.1 10 k)
theorem RuC.cd {S : STY} {a a' : SC} {z r c : Nat} (h : RuC S a z r) (h6 : a (z + 14 + r) 6 ≤ (c : Int)) (h1 : a' (z + 14 + r) = a (z + 14 + r)) (h2 : ∀ i, i < c → a' (z + 11) i = a (z + 11) i) : RuC S a' z r := by
  obtain ⟨g1, g2, g3, g4, k0, k1, k2, g5, g6, g7, g8, g9, g10⟩ := h
  unfold RuC
  rw [h1]
  refine ⟨g1, g2, g3, g4, k0, k1, k2, g5, g6, g7, g8, g9.cg (fun i _ hi => h2 i (by omega)), fun h => ?_⟩
  have hlt := g9.lt
  exact (g10 h).cg (fun i _ hi => h2 i (by omega))
theorem PaC.fr {S : STY} {a a' : SC} {z c c' : Nat} (h : PaC S a z c) (hf : ∀ o, z < o → o ≤ z + 55 → o ≠ z + 11 → a' o = a o) (hc : ∀ i, i < c → a' (z + 11) i = a (z + 11) i) (hcc : c ≤ c') (hl : nL S ≤ 30) (hC : nC S ≤ 12) : PaC S a' z c' := by
  obtain ⟨h1, h2, h3, h4, h5, h6, h7, h8⟩ := h
  refine ⟨?_, h2.fo (hf _ (by omega) (by omega) (by omega)) (hf _ (by omega) (by omega) (by omega)), ?_, ?_, ?_, ?_, fun r hr => ?_, fun k hk => ?_⟩
  · rw [hf (z + 1) (by omega) (by omega) (by omega)]; exact h1
  · rw [hf (z + 3) (by omega) (by omega) (by omega)]; exact h3
  · rw [hf (z + 7) (by omega) (by omega) (by omega)]; exact h4
  · rw [hf (z + 8) (by omega) (by omega) (by omega)]; exact h5
  · rw [hf (z + 6) (by omega) (by omega) (by omega)]; exact h6
  · have e := hf (z + 14 + r) (by omega) (by omega) (by omega)
    have g := h7 r hr
    exact ⟨g.1.cd g.2 e hc, by rw [e]; have := g.2; omega⟩
  · rw [hf (z + 44 + k) (by omega) (by omega) (by omega)]
    exact h8 k hk
theorem NmC.add {N N' a a' : SC} {z kd n w : Nat} (h : NmC N a z) (hkd : kd < 3) (hn : cntN N kd = n) (h8 : n < 8) (hv : vdN 6 w) (hc : ∀ j, j < 3 → cntN N' j = if j = kd then n + 1 else cntN N j) (ht : ∀ j k, j < 3 → N' (1 + j) k = if j = kd ∧ k = n then (w : Int) else N (1 + j) k) (h1 : ∀ j, j < 3 → a' (z + 1) (ixN j) = ((cntN N' j : Nat) : Int)) (h2 : ∀ i, a' (z + 2) i = if i = 8 * ixN kd + n then ((cvF w 6 : Nat) : Int) else a (z + 2) i) : NmC N' a' z := by
  intro j hj
  obtain ⟨g1, g2, g3⟩ := h j hj
  have hcj := hc j hj
  refine ⟨by rw [hcj]; split <;> omega, h1 j hj, fun k hk => ?_⟩
  rw [hcj] at hk
  rw [ht j k hj, h2]
  by_cases hjk : j = kd
  · subst hjk
    rw [if_pos rfl] at hk
    by_cases hkn : k = n
    · rw [if_pos ⟨rfl, hkn⟩, hkn, if_pos rfl, Int.toNat_natCast]
      exact ⟨by omega, hv, rfl⟩
    · rw [if_neg (fun g => hkn g.2), if_neg (by omega)]
      exact g3 k (by omega)
  · rw [if_neg hjk] at hk
    rw [if_neg (fun g => hjk g.1), if_neg ?_]
    · exact g3 k hk
    · unfold ixN
      split <;> split <;> omega
theorem inc_t {N : SC} {k t i : Nat} (h : t ≠ 0) : incN N k t i = N t i := updC_nt (fun g => h g.1)
theorem inc_0 {N : SC} {k i : Nat} : incN N k 0 i = if i = k then N 0 k + 1 else N 0 i := updC_if
theorem cnt_0 {N : SC} : cntN N 0 = (N 0 0).toNat := rfl
theorem cnt_1 {N : SC} : cntN N 1 = (N 0 2).toNat := rfl
theorem cnt_2 {N : SC} : cntN N 2 = (N 0 3).toNat := rfl
theorem PaC.room {S : STY} {a a' : SC} {z c n w : Nat} (h : PaC S a z c) (hn : S.1 0 0 = (n : Int)) (h8 : n < 8) (hl : nL S ≤ 30) (hC : nC S ≤ 12) (hv : vdN 6 w) (hf : ∀ o, z < o → o ≤ z + 55 → o ≠ z + 1 → o ≠ z + 2 → a' o = a o) (h1 : ∀ i, a' (z + 1) i = if i = 0 then (n : Int) + 1 else a (z + 1) i) (h2 : ∀ i, a' (z + 2) i = if i = n then ((cvF w 6 : Nat) : Int) else a (z + 2) i) : PaC (incN (updC S.1 1 n w) 0, S.2) a' z c := by
  obtain ⟨g1, g2, g3, g4, g5, g6, g7, g8⟩ := h
  refine ⟨fun i hi => ?_, g2.add (kd := 0) (n := n) (w := w) (by decide) (by rw [cnt_0, hn, Int.toNat_natCast]) h8 hv (fun j hj => ?_) (fun j k hj => ?_) (fun j hj => ?_) (fun i => ?_), ?_, ?_, ?_, ?_, fun r hr => ?_, fun k hk => ?_⟩
  · rw [h1]
    show _ = incN (updC S.1 1 n w) 0 0 i
    rw [inc_0]
    show _ = if i = 0 then S.1 0 0 + 1 else S.1 0 i
    rw [g1 i hi, hn]
  · match j, hj with
    | 0, _ =>
      show (S.1 0 0 + 1).toNat = n + 1
      rw [hn]; omega
    | 1, _ => rfl
    | 2, _ => rfl
  · show incN _ 0 (1 + j) k = _
    rw [inc_t (by omega)]
    by_cases hc : j = 0 ∧ k = n
    · rw [if_pos hc, hc.1, hc.2]
      exact updC_sm
    · rw [if_neg hc]
      exact updC_nt (fun g => hc ⟨by omega, g.2⟩)
  · rw [h1]
    match j, hj with
    | 0, _ =>
      show (n : Int) + 1 = ((S.1 0 0 + 1).toNat : Int)
      rw [hn]; omega
    | 1, _ => exact (g2 1 (by decide)).2.1
    | 2, _ => exact (g2 2 (by decide)).2.1
  · rw [h2]
    show (if i = n then _ else _) = if i = 8 * 0 + n then _ else _
    rw [show 8 * 0 + n = n by omega]
  · rw [hf (z + 3) (by omega) (by omega) (by omega) (by omega)]; exact g3
  · rw [hf (z + 7) (by omega) (by omega) (by omega) (by omega)]; exact g4
  · rw [hf (z + 8) (by omega) (by omega) (by omega) (by omega)]; exact g5
  · rw [hf (z + 6) (by omega) (by omega) (by omega) (by omega)]; exact g6
  · have hr : r < nL S := hr
    have e := hf (z + 14 + r) (by omega) (by omega) (by omega) (by omega)
    have g := g7 r hr
    exact ⟨g.1.cd g.2 e (fun i _ => by rw [hf (z + 11) (by omega) (by omega) (by omega) (by omega)]), by rw [e]; exact g.2⟩
  · have hk : k < nC S := hk
    rw [hf (z + 44 + k) (by omega) (by omega) (by omega) (by omega)]
    exact g8 k hk
theorem PaC.who {S : STY} {a a' : SC} {z c n w i : Nat} (h : PaC S a z c) (hn : S.1 0 2 = (n : Int)) (h8 : n < 8) (hl : nL S ≤ 30) (hC : nC S ≤ 12) (hv : vdN 6 w) (hf : ∀ o, z < o → o ≤ z + 55 → o ≠ z + 1 → o ≠ z + 2 → o ≠ z + 7 → a' o = a o) (h1 : ∀ i, a' (z + 1) i = if i = 2 then (n : Int) + 1 else a (z + 1) i) (h2 : ∀ i, a' (z + 2) i = if i = 16 + n then ((cvF w 6 : Nat) : Int) else a (z + 2) i) (h7 : ∀ j, a' (z + 7) j = if j = n then (i : Int) else a (z + 7) j) : PaC (incN (updC (updC S.1 2 n w) 5 n i) 2, S.2) a' z c := by
  obtain ⟨g1, g2, g3, g4, g5, g6, g7, g8⟩ := h
  refine ⟨fun i hi => ?_, g2.add (kd := 1) (n := n) (w := w) (by decide) (by rw [cnt_1, hn, Int.toNat_natCast]) h8 hv (fun j hj => ?_) (fun j k hj => ?_) (fun j hj => ?_) (fun i => ?_), ?_, fun j hj => ?_, ?_, ?_, fun r hr => ?_, fun k hk => ?_⟩
  · rw [h1]
    show _ = incN (updC (updC S.1 2 n w) 5 n _) 2 0 i
    rw [inc_0]
    show _ = if i = 2 then S.1 0 2 + 1 else S.1 0 i
    rw [g1 i hi, hn]
  · match j, hj with
    | 0, _ => rfl
    | 1, _ =>
      show (S.1 0 2 + 1).toNat = n + 1
      rw [hn]; omega
    | 2, _ => rfl
  · show incN _ 2 (1 + j) k = _
    rw [inc_t (by omega), updC_nt (by omega)]
    by_cases hc : j = 1 ∧ k = n
    · rw [if_pos hc, hc.1, hc.2]
      exact updC_sm
    · rw [if_neg hc]
      exact updC_nt (fun g => hc ⟨by omega, g.2⟩)
  · rw [h1]
    match j, hj with
    | 0, _ => exact (g2 0 (by decide)).2.1
    | 1, _ =>
      show (n : Int) + 1 = ((S.1 0 2 + 1).toNat : Int)
      rw [hn]; omega
    | 2, _ => exact (g2 2 (by decide)).2.1
  · rw [h2]
    rfl
  · rw [hf (z + 3) (by omega) (by omega) (by omega) (by omega) (by omega)]; exact g3
  · rw [h7, g4 j hj]
    show _ = if j < (S.1 0 2 + 1).toNat then incN (updC (updC S.1 2 n w) 5 n i) 2 5 j else 0
    rw [inc_t (by omega), updC_if, hn, show ((n : Int) + 1).toNat = n + 1 by omega]
    show _ = if j < n + 1 then (if j = n then (i : Int) else S.1 5 j) else 0
    have e : nW S = n := by show (S.1 0 2).toNat = n; rw [hn]; omega
    rw [e]
    by_cases hj : j = n
    · rw [if_pos hj, if_pos (by omega), if_pos hj]
    · rw [if_neg hj, if_neg hj]
      by_cases hj2 : j < n
      · rw [if_pos hj2, if_pos (by omega)]
      · rw [if_neg hj2, if_neg (by omega)]
  · rw [hf (z + 8) (by omega) (by omega) (by omega) (by omega) (by omega)]; exact g5
  · rw [hf (z + 6) (by omega) (by omega) (by omega) (by omega) (by omega)]; exact g6
  · have hr : r < nL S := hr
    have e := hf (z + 14 + r) (by omega) (by omega) (by omega) (by omega) (by omega)
    have g := g7 r hr
    exact ⟨g.1.cd g.2 e (fun i _ => by rw [hf (z + 11) (by omega) (by omega) (by omega) (by omega) (by omega)]), by rw [e]; exact g.2⟩
  · have hk : k < nC S := hk
    rw [hf (z + 44 + k) (by omega) (by omega) (by omega) (by omega) (by omega)]
    exact g8 k hk
theorem PaC.thing {S : STY} {a a' : SC} {z c n w i : Nat} (h : PaC S a z c) (hn : S.1 0 3 = (n : Int)) (h8 : n < 8) (hl : nL S ≤ 30) (hC : nC S ≤ 12) (hv : vdN 6 w) (hf : ∀ o, z < o → o ≤ z + 55 → o ≠ z + 1 → o ≠ z + 2 → o ≠ z + 8 → a' o = a o) (h1 : ∀ i, a' (z + 1) i = if i = 3 then (n : Int) + 1 else a (z + 1) i) (h2 : ∀ i, a' (z + 2) i = if i = 24 + n then ((cvF w 6 : Nat) : Int) else a (z + 2) i) (h7 : ∀ j, a' (z + 8) j = if j = n then (i : Int) else a (z + 8) j) : PaC (incN (updC (updC S.1 3 n w) 6 n i) 3, S.2) a' z c := by
  obtain ⟨g1, g2, g3, g4, g5, g6, g7, g8⟩ := h
  refine ⟨fun i hi => ?_, g2.add (kd := 2) (n := n) (w := w) (by decide) (by rw [cnt_2, hn, Int.toNat_natCast]) h8 hv (fun j hj => ?_) (fun j k hj => ?_) (fun j hj => ?_) (fun i => ?_), ?_, ?_, fun j hj => ?_, ?_, fun r hr => ?_, fun k hk => ?_⟩
  · rw [h1]
    show _ = incN (updC (updC S.1 3 n w) 6 n _) 3 0 i
    rw [inc_0]
    show _ = if i = 3 then S.1 0 3 + 1 else S.1 0 i
    rw [g1 i hi, hn]
  · match j, hj with
    | 0, _ => rfl
    | 1, _ => rfl
    | 2, _ =>
      show (S.1 0 3 + 1).toNat = n + 1
      rw [hn]; omega
  · show incN _ 3 (1 + j) k = _
    rw [inc_t (by omega), updC_nt (by omega)]
    by_cases hc : j = 2 ∧ k = n
    · rw [if_pos hc, hc.1, hc.2]
      exact updC_sm
    · rw [if_neg hc]
      exact updC_nt (fun g => hc ⟨by omega, g.2⟩)
  · rw [h1]
    match j, hj with
    | 0, _ => exact (g2 0 (by decide)).2.1
    | 1, _ => exact (g2 1 (by decide)).2.1
    | 2, _ =>
      show (n : Int) + 1 = ((S.1 0 3 + 1).toNat : Int)
      rw [hn]; omega
  · rw [h2]
    rfl
  · rw [hf (z + 3) (by omega) (by omega) (by omega) (by omega) (by omega)]; exact g3
  · rw [hf (z + 7) (by omega) (by omega) (by omega) (by omega) (by omega)]; exact g4
  · rw [h7, g5 j hj]
    show _ = if j < (S.1 0 3 + 1).toNat then incN (updC (updC S.1 3 n w) 6 n i) 3 6 j else 0
    rw [inc_t (by omega), updC_if, hn, show ((n : Int) + 1).toNat = n + 1 by omega]
    show _ = if j < n + 1 then (if j = n then (i : Int) else S.1 6 j) else 0
    have e : nT S = n := by show (S.1 0 3).toNat = n; rw [hn]; omega
    rw [e]
    by_cases hj : j = n
    · rw [if_pos hj, if_pos (by omega), if_pos hj]
    · rw [if_neg hj, if_neg hj]
      by_cases hj2 : j < n
      · rw [if_pos hj2, if_pos (by omega)]
      · rw [if_neg hj2, if_neg (by omega)]
  · rw [hf (z + 6) (by omega) (by omega) (by omega) (by omega) (by omega)]; exact g6
  · have hr : r < nL S := hr
    have e := hf (z + 14 + r) (by omega) (by omega) (by omega) (by omega) (by omega)
    have g := g7 r hr
    exact ⟨g.1.cd g.2 e (fun i _ => by rw [hf (z + 11) (by omega) (by omega) (by omega) (by omega) (by omega)]), by rw [e]; exact g.2⟩
  · have hk : k < nC S := hk
    rw [hf (z + 44 + k) (by omega) (by omega) (by omega) (by omega) (by omega)]
    exact g8 k hk
theorem NmC.cg {N N' a a' : SC} {z : Nat} (h : NmC N a z) (hc : ∀ j, j < 3 → cntN N' j = cntN N j) (ht : ∀ j k, j < 3 → N' (1 + j) k = N (1 + j) k) (h1 : ∀ j, j < 3 → a' (z + 1) (ixN j) = a (z + 1) (ixN j)) (h2 : a' (z + 2) = a (z + 2)) : NmC N' a' z := by
  intro j hj
  rw [hc j hj, h1 j hj, h2]
  refine ⟨(h j hj).1, (h j hj).2.1, fun k hk => ?_⟩
  rw [ht j k hj]
  exact (h j hj).2.2 k hk
theorem PaC.door {S : STY} {a a' : SC} {z c n r o x y : Nat} (h : PaC S a z c) (hn : S.1 0 1 = (n : Int)) (hl : nL S ≤ 30) (hC : nC S ≤ 12) (hr : r < 8) (ho : o < 8) (hro : r ≠ o) (hx : a (z + 3) r = (x : Int)) (hy : a (z + 3) o = (y : Int)) (hf : ∀ o, z < o → o ≤ z + 55 → o ≠ z + 1 → o ≠ z + 11 → o ≠ z + 3 → a' o = a o) (hco : ∀ j, j < c → a' (z + 11) j = a (z + 11) j) (h1 : ∀ i, a' (z + 1) i = if i = 1 then (n : Int) + 1 else a (z + 1) i) (h3 : ∀ j, a' (z + 3) j = if j = o then ((y ||| 2 ^ r : Nat) : Int) else if j = r then ((x ||| 2 ^ o : Nat) : Int) else a (z + 3) j) : PaC (incN (updC (updC S.1 4 (8 * r + o) 1) 4 (8 * o + r) 1) 1, S.2) a' z c := by
  obtain ⟨g1, g2, g3, g4, g5, g6, g7, g8⟩ := h
  have hp : ∀ k, k < 8 → 2 ^ k < 256 := fun k hk => by
    have : 2 ^ k ≤ 2 ^ 7 := Nat.pow_le_pow_right (by omega) (by omega)
    omega
  refine ⟨fun i hi => ?_, g2.cg (fun j hj => ?_) (fun j k hj => ?_) (fun j hj => ?_) (hf (z + 2) (by omega) (by omega) (by omega) (by omega) (by omega)), fun j hj => ?_, ?_, ?_, ?_, fun r hr => ?_, fun k hk => ?_⟩
  · rw [h1]
    show _ = incN (updC (updC S.1 4 (8 * r + o) 1) 4 (8 * o + r) 1) 1 0 i
    rw [inc_0]
    show _ = if i = 1 then S.1 0 1 + 1 else S.1 0 i
    rw [g1 i hi, hn]
  · match j, hj with
    | 0, _ => rfl
    | 1, _ => rfl
    | 2, _ => rfl
  · show incN _ 1 (1 + j) k = _
    rw [inc_t (by omega), updC_nt (by omega), updC_nt (by omega)]
  · rw [h1, if_neg]
    unfold ixN
    split <;> omega
  · show ∃ x : Nat, x < 256 ∧ a' (z + 3) j = (x : Int) ∧ ∀ o', o' < 8 → (x.testBit o' = true ↔ incN (updC (updC S.1 4 (8 * r + o) 1) 4 (8 * o + r) 1) 1 4 (8 * j + o') ≠ 0)
    obtain ⟨w, w1, w2, w3⟩ := g3 j hj
    rw [h3]
    by_cases hjo : j = o
    · rw [if_pos hjo]
      have hwy : w = y := by rw [hjo, hy] at w2; omega
      refine ⟨_, Nat.or_lt_two_pow (n := 8) (by rw [← hwy]; exact w1) (hp r hr), rfl, fun o' ho' => ?_⟩
      rw [inc_t (by omega), updC_if, updC_if, Nat.testBit_or, Bool.or_eq_true, Nat.testBit_two_pow, decide_eq_true_iff, ← hwy, w3 o' ho']
      by_cases h9 : o' = r
      · rw [if_pos (by omega)]
        exact ⟨fun _ => by decide, fun _ => Or.inr h9.symm⟩
      · rw [if_neg (by omega), if_neg (by omega)]
        exact ⟨fun g => g.elim id (fun g => absurd g.symm h9), Or.inl⟩
    · rw [if_neg hjo]
      by_cases hjr : j = r
      · rw [if_pos hjr]
        have hwx : w = x := by rw [hjr, hx] at w2; omega
        refine ⟨_, Nat.or_lt_two_pow (n := 8) (by rw [← hwx]; exact w1) (hp o ho), rfl, fun o' ho' => ?_⟩
        rw [inc_t (by omega), updC_if, updC_if, Nat.testBit_or, Bool.or_eq_true, Nat.testBit_two_pow, decide_eq_true_iff, ← hwx, w3 o' ho']
        rw [if_neg (by omega)]
        by_cases h9 : o' = o
        · rw [if_pos (by omega)]
          exact ⟨fun _ => by decide, fun _ => Or.inr h9.symm⟩
        · rw [if_neg (by omega)]
          exact ⟨fun g => g.elim id (fun g => absurd g.symm h9), Or.inl⟩
      · rw [if_neg hjr]
        refine ⟨w, w1, w2, fun o' ho' => ?_⟩
        rw [inc_t (by omega), updC_if, updC_if, if_neg (by omega), if_neg (by omega)]
        exact w3 o' ho'
  · rw [hf (z + 7) (by omega) (by omega) (by omega) (by omega) (by omega)]; exact g4
  · rw [hf (z + 8) (by omega) (by omega) (by omega) (by omega) (by omega)]; exact g5
  · rw [hf (z + 6) (by omega) (by omega) (by omega) (by omega) (by omega)]; exact g6
  · have hr : r < nL S := hr
    have e := hf (z + 14 + r) (by omega) (by omega) (by omega) (by omega) (by omega)
    have g := g7 r hr
    exact ⟨g.1.cd g.2 e hco, by rw [e]; exact g.2⟩
  · have hk : k < nC S := hk
    rw [hf (z + 44 + k) (by omega) (by omega) (by omega) (by omega) (by omega)]
    exact g8 k hk
theorem PaC.says {S : STY} {a a' : SC} {z c n i0 i1 i2 i3 : Nat} (h : PaC S a z c) (hn : S.1 0 5 = (n : Int)) (h12 : n < 12) (hl : nL S ≤ 30) (hf : ∀ o, z < o → o ≤ z + 55 → o ≠ z + 1 → o ≠ z + 11 → o ≠ z + 44 + n → a' o = a o) (hco : ∀ j, j < c → a' (z + 11) j = a (z + 11) j) (h1 : ∀ i, a' (z + 1) i = if i = 5 then (n : Int) + 1 else a (z + 1) i) (f0 : a' (z + 44 + n) 0 = i0) (f1 : a' (z + 44 + n) 1 = i1) (f2 : a' (z + 44 + n) 2 = i2) (f3 : a' (z + 44 + n) 3 = i3) : PaC (incN (updC (updC (updC (updC S.1 7 n i0) 8 n i1) 9 n i2) 10 n i3) 5, S.2) a' z c := by
  obtain ⟨g1, g2, g3, g4, g5, g6, g7, g8⟩ := h
  have eC : nC S = n := by show (S.1 0 5).toNat = n; rw [hn]; omega
  refine ⟨fun i hi => ?_, g2.cg (fun j hj => ?_) (fun j k hj => ?_) (fun j hj => ?_) (hf (z + 2) (by omega) (by omega) (by omega) (by omega) (by omega)), ?_, ?_, ?_, ?_, fun r hr => ?_, fun k hk => ?_⟩
  · rw [h1]
    show _ = incN (updC (updC (updC (updC S.1 7 n i0) 8 n i1) 9 n i2) 10 n i3) 5 0 i
    rw [inc_0]
    show _ = if i = 5 then S.1 0 5 + 1 else S.1 0 i
    rw [g1 i hi, hn]
  · match j, hj with
    | 0, _ => rfl
    | 1, _ => rfl
    | 2, _ => rfl
  · show incN _ 5 (1 + j) k = _
    rw [inc_t (by omega), updC_nt (by omega), updC_nt (by omega), updC_nt (by omega), updC_nt (by omega)]
  · rw [h1, if_neg]
    unfold ixN
    split <;> omega
  · rw [hf (z + 3) (by omega) (by omega) (by omega) (by omega) (by omega)]; exact g3
  · rw [hf (z + 7) (by omega) (by omega) (by omega) (by omega) (by omega)]; exact g4
  · rw [hf (z + 8) (by omega) (by omega) (by omega) (by omega) (by omega)]; exact g5
  · rw [hf (z + 6) (by omega) (by omega) (by omega) (by omega) (by omega)]; exact g6
  · have hr : r < nL S := hr
    have e := hf (z + 14 + r) (by omega) (by omega) (by omega) (by omega) (by omega)
    have g := g7 r hr
    exact ⟨g.1.cd g.2 e hco, by rw [e]; exact g.2⟩
  · have hk : k < (S.1 0 5 + 1).toNat := hk
    show a' (z + 44 + k) 0 = incN (updC (updC (updC (updC S.1 7 n i0) 8 n i1) 9 n i2) 10 n i3) 5 7 k ∧ a' (z + 44 + k) 1 = incN (updC (updC (updC (updC S.1 7 n i0) 8 n i1) 9 n i2) 10 n i3) 5 8 k ∧ a' (z + 44 + k) 2 = incN (updC (updC (updC (updC S.1 7 n i0) 8 n i1) 9 n i2) 10 n i3) 5 9 k ∧ a' (z + 44 + k) 3 = incN (updC (updC (updC (updC S.1 7 n i0) 8 n i1) 9 n i2) 10 n i3) 5 10 k
    rw [inc_t (by omega), inc_t (by omega), inc_t (by omega), inc_t (by omega)]
    by_cases hkn : k = n
    · subst hkn
      exact ⟨f0.trans (updC_nt (by omega) |>.trans (updC_nt (by omega)) |>.trans (updC_nt (by omega)) |>.trans updC_sm).symm, f1.trans (updC_nt (by omega) |>.trans (updC_nt (by omega)) |>.trans updC_sm).symm, f2.trans (updC_nt (by omega) |>.trans updC_sm).symm, f3.trans updC_sm.symm⟩
    · rw [hf (z + 44 + k) (by omega) (by omega) (by omega) (by omega) (by omega), updC_nt (by omega), updC_nt (by omega), updC_nt (by omega), updC_nt (by omega), updC_nt (by omega), updC_nt (by omega), updC_nt (by omega), updC_nt (by omega), updC_nt (by omega), updC_nt (by omega), updC_nt (by omega), updC_nt (by omega), updC_nt (by omega), updC_nt (by omega), updC_nt (by omega), updC_nt (by omega)]
      exact g8 k (by omega)
theorem PaC.rule {S : STY} {a a' : SC} {z c c' n kd i : Nat} {o t : Int} {l1 l2 : List (Nat × Nat)} (h : PaC S a z c) (hn : S.1 0 4 = (n : Int)) (h30 : n < 30) (hC : nC S ≤ 12) (hcc : c ≤ c') (hf : ∀ o, z < o → o ≤ z + 55 → o ≠ z + 1 → o ≠ z + 11 → o ≠ z + 14 + n → a' o = a o) (hco : ∀ j, j < c → a' (z + 11) j = a (z + 11) j) (h1 : ∀ i, a' (z + 1) i = if i = 4 then (n : Int) + 1 else a (z + 1) i)
    (f0 : a' (z + 14 + n) 0 = (kd : Int) + 262) (f1 : a' (z + 14 + n) 1 = i) (f2 : kd ≠ 5 → a' (z + 14 + n) 2 = o) (f3 : kd = 5 → a' (z + 14 + n) 3 = o ∧ a' (z + 14 + n) 2 = t) {k0 k1 : Nat} (f4 : a' (z + 14 + n) 4 = (k0 : Int)) (f5 : a' (z + 14 + n) 5 = (k1 : Int)) (f6 : a' (z + 14 + n) 6 = (c' : Int)) (h12 : c' ≤ 1200) (hl2 : CoC (a' (z + 11)) 48 k1 l2 c') (hl1 : kd = 4 → CoC (a' (z + 11)) 48 k0 l1 k1) : PaC (rulS S kd i o t l1 l2) a' z c' := by
  obtain ⟨g1, g2, g3, g4, g5, g6, g7, g8⟩ := h
  have eL : nL S = n := by show (S.1 0 4).toNat = n; rw [hn]; omega
  unfold rulS
  rw [eL]
  refine ⟨fun i hi => ?_, g2.cg (fun j hj => ?_) (fun j k hj => ?_) (fun j hj => ?_) (hf (z + 2) (by omega) (by omega) (by omega) (by omega) (by omega)), ?_, ?_, ?_, ?_, fun r hr => ?_, fun k hk => ?_⟩
  · rw [h1]
    show _ = incN (updC (updC (updC (updC S.1 11 n kd) 12 n _) 13 n o) 14 n t) 4 0 i
    rw [inc_0]
    show _ = if i = 4 then S.1 0 4 + 1 else S.1 0 i
    rw [g1 i hi, hn]
  · match j, hj with
    | 0, _ => rfl
    | 1, _ => rfl
    | 2, _ => rfl
  · show incN _ 4 (1 + j) k = _
    rw [inc_t (by omega), updC_nt (by omega), updC_nt (by omega), updC_nt (by omega), updC_nt (by omega)]
  · rw [h1, if_neg]
    unfold ixN
    split <;> omega
  · rw [hf (z + 3) (by omega) (by omega) (by omega) (by omega) (by omega)]; exact g3
  · rw [hf (z + 7) (by omega) (by omega) (by omega) (by omega) (by omega)]; exact g4
  · rw [hf (z + 8) (by omega) (by omega) (by omega) (by omega) (by omega)]; exact g5
  · rw [hf (z + 6) (by omega) (by omega) (by omega) (by omega) (by omega)]; exact g6
  · have hr : r < (S.1 0 4 + 1).toNat := hr
    unfold RuC
    dsimp only
    rw [inc_t (by omega), inc_t (by omega), inc_t (by omega), inc_t (by omega)]
    by_cases hrn : r = n
    · subst hrn
      have e1 : updC (updC (updC (updC S.1 11 r (kd : Int)) 12 r (i : Int)) 13 r o) 14 r t 11 r = kd := (updC_nt (by omega)).trans ((updC_nt (by omega)).trans ((updC_nt (by omega)).trans updC_sm))
      have e2 : updC (updC (updC (updC S.1 11 r (kd : Int)) 12 r (i : Int)) 13 r o) 14 r t 12 r = i := (updC_nt (by omega)).trans ((updC_nt (by omega)).trans updC_sm)
      have e3 : updC (updC (updC (updC S.1 11 r (kd : Int)) 12 r (i : Int)) 13 r o) 14 r t 13 r = o := (updC_nt (by omega)).trans updC_sm
      have e4 : updC (updC (updC (updC S.1 11 r (kd : Int)) 12 r (i : Int)) 13 r o) 14 r t 14 r = t := updC_sm
      rw [e1, e2, e3, e4, if_neg (by omega), if_pos rfl, if_pos rfl]
      exact ⟨⟨f0, f1, fun g => f2 (by omega), fun g => f3 (by omega), k0, k1, c', f4, f5, f6, h12, hl2, fun g => hl1 (by omega)⟩, by rw [f6]; exact Int.le_refl _⟩
    · have hr2 : r < n := by omega
      have e1 : ∀ q, q = 11 ∨ q = 12 ∨ q = 13 ∨ q = 14 → updC (updC (updC (updC S.1 11 n (kd : Int)) 12 n (i : Int)) 13 n o) 14 n t q r = S.1 q r := fun q hq => (updC_nt (by omega)).trans ((updC_nt (by omega)).trans ((updC_nt (by omega)).trans (updC_nt (by omega))))
      rw [e1 11 (by omega), e1 12 (by omega), e1 13 (by omega), e1 14 (by omega), if_neg (by omega), if_neg (by omega), if_neg (by omega), if_neg (by omega)]
      have e := hf (z + 14 + r) (by omega) (by omega) (by omega) (by omega) (by omega)
      have g := g7 r (by omega)
      have g9 := g.1.cd g.2 e hco
      unfold RuC at g9
      exact ⟨g9, by rw [e]; have := g.2; omega⟩
  · have hk : k < nC S := hk
    rw [hf (z + 44 + k) (by omega) (by omega) (by omega) (by omega) (by omega)]
    exact g8 k hk
