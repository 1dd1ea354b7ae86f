/-! THE WHOLE STATE THAT IS SAID, and what is answered. The story; the breakfast; the evening's breakfast; its minutes; the tape, how many bytes; the latest fault and its place -/
abbrev GST : Type := STY × SC × SC × Nat × ((Nat → Int) × Nat) × (Int × Int)
abbrev gS (G : GST) : STY := G.1
abbrev gB (G : GST) : SC := G.2.1
abbrev gE (G : GST) : SC := G.2.2.1
abbrev gn (G : GST) : Nat := G.2.2.2.1
abbrev gT (G : GST) : Nat → Int := G.2.2.2.2.1.1
abbrev gt (G : GST) : Nat := G.2.2.2.2.1.2
abbrev gk (G : GST) : Int := G.2.2.2.2.2.1
abbrev gp (G : GST) : Int := G.2.2.2.2.2.2
/-- the scene at the end of a minute -/
noncomputable abbrev gA (G : GST) (m : Nat) : SC := aftS (gS G) (gE G) m
abbrev okW (G : GST) (p : Int) : Prop := 0 ≤ p ∧ p < ((nW (gS G) : Nat) : Int)
abbrev okR (G : GST) (p : Int) : Prop := 0 ≤ p ∧ p < ((nR (gS G) : Nat) : Int)
abbrev okT (G : GST) (p : Int) : Prop := 0 ≤ p ∧ p < ((nT (gS G) : Nat) : Int)
abbrev okRl (G : GST) (p : Int) : Prop := 0 ≤ p ∧ p < ((nL (gS G) : Nat) : Int)
abbrev okC (G : GST) (p : Int) : Prop := 0 ≤ p ∧ p < ((nC (gS G) : Nat) : Int)
abbrev okM (G : GST) (m : Int) : Prop := 0 ≤ m ∧ m < ((gn G : Nat) : Int)
noncomputable def aWas (G : GST) (p m : Int) : Int := if okW G p ∧ okM G m then gA G (m.toNat + 1) 0 p.toNat else -1
noncomputable def aAlive (G : GST) (p m : Int) : Int := if okW G p ∧ okM G m then (if gA G (m.toNat + 1) 1 p.toNat ≠ 0 then 1 else 0) else -1
noncomputable def aWhere (G : GST) (t m : Int) : Int := if okT G t ∧ okM G m then gA G (m.toNat + 1) 2 t.toNat else -1
noncomputable def aDid (G : GST) (p m : Int) : Int := if okW G p ∧ okM G m then hdnS (gS G) (gE G) m.toNat p.toNat else -1
noncomputable def aMood (G : GST) (p m : Int) : Int := if okW G p ∧ okM G m then gA G (m.toNat + 1) 3 p.toNat else -2000000000
noncomputable def aDeed (G : GST) (k w : Int) : Int := if (0 ≤ k ∧ k < gA G (gn G) 9 0) ∧ (0 ≤ w ∧ w ≤ 5) then gA G (gn G) 8 (6 * k.toNat + w.toNat) else -1
noncomputable def aTrace (G : GST) (k w : Int) : Int := if (0 ≤ k ∧ k < gA G (gn G) 7 0) ∧ (0 ≤ w ∧ w ≤ 5) then gA G (gn G) 6 (6 * k.toNat + w.toNat) else -1
noncomputable def aSaw (G : GST) (p o m : Int) : Int := if okW G p ∧ okW G o ∧ okM G m then seeS (gA G (m.toNat + 1)) p.toNat o.toNat else -1
noncomputable def aKnows (G : GST) (p o : Int) : Int := if okW G p ∧ okW G o ∧ 0 < gn G then gA G (gn G) 4 (8 * p.toNat + o.toNat) else -1
noncomputable def aHas (G : GST) (w : Int) : Int := if w = 0 then (gS G).1 0 0 else if w = 1 then (gS G).1 0 1 else if w = 2 then (gS G).1 0 2 else if w = 3 then (gS G).1 0 3 else if w = 4 then (gS G).1 0 4 else if w = 5 then (gS G).1 0 5 else if w = 6 then (gn G : Int) else if w = 7 then gA G (gn G) 9 0 else if w = 8 then gA G (gn G) 7 0 else -1
/-- a breakfast with one rule left out -/
def outB (B : SC) (r : Nat) : SC := updC B 2 r 1
/-- a rule is needed for a deed -/
noncomputable def aNeeded (G : GST) (r k : Int) : Int := if okRl G r ∧ (0 ≤ k ∧ k < gA G (gn G) 9 0) then (if ∃ i, i < (aftS (gS G) (outB (gE G) r.toNat) (gn G) 9 0).toNat ∧ aftS (gS G) (outB (gE G) r.toNat) (gn G) 8 (6 * i) = gA G (gn G) 8 (6 * k.toNat) ∧ aftS (gS G) (outB (gE G) r.toNat) (gn G) 8 (6 * i + 1) = gA G (gn G) 8 (6 * k.toNat + 1) then 0 else 1) else -1
/-- the scenes as a finder has them -/
noncomputable abbrev gH (G : GST) : Nat → SC := fun m => gA G (m + 1)
/-- there is an evening, and this one is dead -/
abbrev isV (G : GST) (v : Int) : Prop := okW G v ∧ 0 < gn G ∧ gA G (gn G) 1 v.toNat = 0
abbrev isX (n : Nat) (x : Int) : Prop := 0 ≤ x ∧ x < ((2 ^ n : Nat) : Int)
noncomputable abbrev gY (G : GST) (x : Int) : Nat := hrdF (gH G) (gn G - 1) x.toNat (nW (gS G))
noncomputable def aSpan (G : GST) (v x : Int) (l : Bool) : Int := if isV G v ∧ isX (nW (gS G)) x then (if l = true then ((sptF (nW (gS G)) (gH G) (gn G - 1) (gY G x) v.toNat : Nat) : Int) else ((spfF (nW (gS G)) (gH G) (gY G x) v.toNat (gn G) : Nat) : Int)) else -1
noncomputable def aCould (G : GST) (v x r : Int) : Int := if isV G v ∧ isX (nW (gS G)) x ∧ isX (nR (gS G)) r ∧ r.toNat.testBit (gA G (gn G) 0 v.toNat).toNat = true then ((cldF (nW (gS G)) (gH G) (gn G - 1) (gY G x) v.toNat (nW (gS G)) : Nat) : Int) else -1
noncomputable def aLeast (G : GST) (v : Int) (s : Bool) : Int := if isV G v then (if lstF (nW (gS G)) (gH G) (gn G - 1) v.toNat = -1 ∨ s = true then lstF (nW (gS G)) (gH G) (gn G - 1) v.toNat else ((bcS (lstF (nW (gS G)) (gH G) (gn G - 1) v.toNat).toNat : Nat) : Int)) else -1
noncomputable def aFair (G : GST) (v : Int) : Int := if isV G v then (if FairF (nW (gS G)) (gH G) (gn G - 1) v.toNat then 1 else 0) else -1
/-- a claim's minute, told and had -/
abbrev cMin (G : GST) (k m : Nat) : Prop := (gS G).1 9 k ≤ m ∧ (m : Int) ≤ (gS G).1 10 k ∧ m < gn G
/-- a claim is no lie -/
abbrev cTrue (G : GST) (k : Nat) : Prop := ∀ m, m < gn G → cMin G k m → gA G (m + 1) 0 ((gS G).1 7 k).toNat = (gS G).1 8 k
/-- q, alive at the end, catches the claim in minute m -/
abbrev cCat (G : GST) (k m q : Nat) : Prop := cMin G k m ∧ gA G (m + 1) 0 ((gS G).1 7 k).toNat ≠ (gS G).1 8 k ∧ gA G (gn G) 1 q ≠ 0 ∧ seeS (gA G (m + 1)) q ((gS G).1 7 k).toNat ≠ 0
noncomputable def cFst (G : GST) (k : Nat) : Nat := lst (fun i => decide (i % 8 < nW (gS G) ∧ cCat G k (i / 8) (i % 8))) (8 * gn G)
noncomputable def aClaim (G : GST) (k : Int) : Int := if okC G k ∧ 0 < gn G then (if cTrue G k.toNat then 0 else if cFst G k.toNat < 8 * gn G then 2 else 1) else -1
noncomputable def aCaught (G : GST) (k : Int) (w : Bool) : Int := if okC G k ∧ 0 < gn G ∧ cFst G k.toNat < 8 * gn G then (if w = true then ((cFst G k.toNat % 8 : Nat) : Int) else ((cFst G k.toNat / 8 : Nat) : Int)) else -1
/-- change j of a breakfast: rules, then persons in rooms, then things in rooms -/
def chgB (S : STY) (B : SC) (j : Nat) : SC := if j < nL S then outB B j else if j < nL S + nW S * nR S then updC B 0 ((j - nL S) / nR S) (((j - nL S) % nR S : Nat) : Int) else updC B 1 ((j - nL S - nW S * nR S) / nR S) (((j - nL S - nW S * nR S) % nR S : Nat) : Int)
def chgN (S : STY) : Nat := nL S + nW S * nR S + nT S * nR S
def chgW (S : STY) (j : Nat) (w : Int) : Int := if j < nL S then (if w = 0 then 0 else if w = 1 then (j : Int) else -1) else if j < nL S + nW S * nR S then (if w = 0 then 1 else if w = 1 then (((j - nL S) / nR S : Nat) : Int) else (((j - nL S) % nR S : Nat) : Int)) else (if w = 0 then 2 else if w = 1 then (((j - nL S - nW S * nR S) / nR S : Nat) : Int) else (((j - nL S - nW S * nR S) % nR S : Nat) : Int))
noncomputable def sprJ (G : GST) : Nat := lst (fun j => decide (aftS (gS G) (chgB (gS G) (gE G) j) (gn G) 9 0 = 0)) (chgN (gS G))
noncomputable def aSpare (G : GST) (w : Int) : Int := if (0 ≤ w ∧ w ≤ 2) ∧ gA G (gn G) 9 0 ≠ 0 ∧ sprJ G < chgN (gS G) then chgW (gS G) (sprJ G) w else -1
/-- how good change j is: how many must be asked, or -1 -/
noncomputable def farV (G : GST) (j : Nat) : Int := if aftS (gS G) (chgB (gS G) (gE G) j) (gn G) 9 0 = 1 ∧ FairF (nW (gS G)) (fun m => aftS (gS G) (chgB (gS G) (gE G) j) (m + 1)) (gn G - 1) (aftS (gS G) (chgB (gS G) (gE G) j) (gn G) 8 1).toNat then ((bcS (lstF (nW (gS G)) (fun m => aftS (gS G) (chgB (gS G) (gE G) j) (m + 1)) (gn G - 1) (aftS (gS G) (chgB (gS G) (gE G) j) (gn G) 8 1).toNat).toNat : Nat) : Int) else -1
/-- the best of the changes that begin at nL, how good it is -/
noncomputable def farJ (G : GST) : Nat → Int × Int
  | 0 => (-1, -1)
  | j + 1 => if (farJ G j).2 < farV G (nL (gS G) + j) then (((nL (gS G) + j : Nat) : Int), farV G (nL (gS G) + j)) else farJ G j
noncomputable def farA (G : GST) : Int × Int := farJ G (nW (gS G) * nR (gS G) + nT (gS G) * nR (gS G))
noncomputable def aFairest (G : GST) (w : Int) : Int := if (0 ≤ w ∧ w ≤ 3) ∧ 0 < gn G ∧ (farA G).1 ≠ -1 then (if w = 3 then (farA G).2 else chgW (gS G) (farA G).1.toNat w) else -1
/-! the reference's whole state -/
def EvQ (S : STY) (E b : SC) (n : Nat) : Prop := b 202 0 = (n : Int) ∧ b 203 0 = aftS S E n 9 0 ∧ b 204 0 = aftS S E n 7 0 ∧ (∀ i, i < 6 * (aftS S E n 7 0).toNat → b 211 i = aftS S E n 6 i) ∧ (∀ i, i < 6 * (aftS S E n 9 0).toNat → b 210 i = aftS S E n 8 i) ∧ HisM S E b 0 n ∧ (0 < n → (∀ i, i < 64 → b 212 i = aftS S E n 4 i) ∧ RepB S E b 0)
def TopM (G : GST) (b : SC) : Prop := ∃ bk : Nat, RepY (gS G) b bk ∧ WfY (gS G) ∧ RepB (gS G) (gB G) b 1 ∧ WfB (gS G) (gB G) ∧ WfB (gS G) (gE G) ∧ gn G ≤ 180 ∧ EvQ (gS G) (gE G) b (gn G) ∧
  (gt G ≤ 1200 ∧ b 166 1 = ((gt G : Nat) : Int) ∧ ∀ i, i < gt G → b 167 i = gT G i ∧ 0 ≤ gT G i ∧ gT G i < 256) ∧ b 166 10 = gk G ∧ b 166 11 = gp G ∧ (∀ i, i < 90 → b 201 i = 0 ∨ b 201 i = 1)
/-- what may change without a trace -/
abbrev InX (o i : Nat) : Prop := InE 1 o i ∨ ((o = 199 ∨ o = 200) ∧ 16 ≤ i) ∨ (o = 201 ∧ 60 ≤ i) ∨ (o = 166 ∧ 72 ≤ i ∧ i ≤ 78)
def FrX (b b' : SC) : Prop := ∀ o i, ¬ InX o i → b' o i = b o i
theorem FrX.rf {b : SC} : FrX b b := fun _ _ _ => rfl
theorem FrX.tr {b b' b'' : SC} (h : FrX b b') (h' : FrX b' b'') : FrX b b'' := fun o i hn => (h' o i hn).trans (h o i hn)
theorem FrX.up {b b' : SC} {o i : Nat} {v : Int} (h : FrX b b') (hi : InX o i) : FrX b (updC b' o i v) := fun o' i' hn => by
  rw [updC_nt (fun hc => hn (by rw [hc.1, hc.2]; exact hi))]
  exact h o' i' hn
theorem FrE.fx {b b' : SC} (h : FrE 1 b b') : FrX b b' := fun o i hn => h o i (fun hc => hn (Or.inl hc))
theorem FrX.row {b b' : SC} (h : FrX b b') {o : Nat} (h1 : 167 ≤ o) (h2 : o < 199) : b' o = b o := by
  funext i
  exact h o i (by unfold InX InE; omega)
theorem RepY.fx {S : STY} {b b' : SC} {bk : Nat} (h : RepY S b bk) (hf : FrX b b') : RepY S b' bk := by
  unfold RepY at h ⊢
  rw [hf.row (o := 168) (by omega) (by omega), hf.row (o := 169) (by omega) (by omega), hf.row (o := 170) (by omega) (by omega), hf.row (o := 171) (by omega) (by omega), hf.row (o := 172) (by omega) (by omega), hf.row (o := 173) (by omega) (by omega), hf.row (o := 174) (by omega) (by omega), hf.row (o := 175) (by omega) (by omega), hf.row (o := 176) (by omega) (by omega), hf.row (o := 177) (by omega) (by omega), hf.row (o := 178) (by omega) (by omega), hf.row (o := 179) (by omega) (by omega), hf.row (o := 180) (by omega) (by omega), hf.row (o := 181) (by omega) (by omega), hf.row (o := 182) (by omega) (by omega), hf.row (o := 183) (by omega) (by omega), hf.row (o := 184) (by omega) (by omega), hf.row (o := 185) (by omega) (by omega), hf.row (o := 186) (by omega) (by omega), hf.row (o := 187) (by omega) (by omega), hf.row (o := 188) (by omega) (by omega), hf.row (o := 189) (by omega) (by omega), hf.row (o := 190) (by omega) (by omega)]
  unfold SegM at h ⊢
  rw [hf.row (o := 191) (by omega) (by omega), hf.row (o := 192) (by omega) (by omega), hf 166 12 (by unfold InX InE; omega)]
  exact h
theorem RepB.fx {S : STY} {B b b' : SC} {k : Nat} (h : RepB S B b k) (hf : FrX b b') (hW : WfY S) (hk : k < 2) : RepB S B b' k := by
  have w8 := hW.2.2.1.1
  have t8 := hW.2.2.2.1.1
  have l8 := hW.2.2.2.2.1.1
  obtain ⟨h0, h1, h2⟩ := h
  exact ⟨fun p hp => by rw [hf _ _ (by unfold InX InE; omega)]; exact h0 p hp, fun p hp => by rw [hf _ _ (by unfold InX InE; omega)]; exact h1 p hp, fun p hp => by rw [hf _ _ (by unfold InX InE; omega)]; exact h2 p hp⟩
theorem TopM.fx {G : GST} {b b' : SC} (h : TopM G b) (hf : FrX b b') (hO : ∀ i, i < 90 → b' 201 i = 0 ∨ b' 201 i = 1) : TopM G b' := by
  obtain ⟨bk, h1, h2, h3, h4, h5, h6, h7, h8, h9, h10, -⟩ := h
  have w8 := h2.2.2.1.1
  have t8 := h2.2.2.2.1.1
  obtain ⟨e1, e2, e3, e4, e5, e6, e7⟩ := h7
  obtain ⟨a1, a2, a3⟩ := aftS_wf h2 h5 (gn G) h6
  have a7 := a1.2.2.2.2.2.2.1
  have a9 := a1.2.2.2.2.2.2.2
  refine ⟨bk, h1.fx hf, h2, h3.fx hf h2 (by omega), h4, h5, h6, ⟨?_, ?_, ?_, fun i hi => ?_, fun i hi => ?_, ?_, fun hn => ⟨fun i hi => ?_, (e7 hn).2.fx hf h2 (by omega)⟩⟩, ⟨h8.1, ?_, fun i hi => ?_⟩, ?_, ?_, hO⟩
  · rw [hf _ _ (by unfold InX InE; omega)]; exact e1
  · rw [hf _ _ (by unfold InX InE; omega)]; exact e2
  · rw [hf _ _ (by unfold InX InE; omega)]; exact e3
  · rw [hf _ _ (by unfold InX InE; omega)]; exact e4 i hi
  · rw [hf _ _ (by unfold InX InE; omega)]; exact e5 i hi
  · exact e6.fr w8 t8 (fun o i g1 g2 g3 g4 => hf _ _ (by unfold InX InE; omega))
  · rw [hf _ _ (by unfold InX InE; omega)]; exact (e7 hn).1 i hi
  · rw [hf _ _ (by unfold InX InE; omega)]; exact h8.2.1
  · rw [hf _ _ (by unfold InX InE; omega)]; exact h8.2.2 i hi
  · rw [hf _ _ (by unfold InX InE; omega)]; exact h9
  · rw [hf _ _ (by unfold InX InE; omega)]; exact h10
/-- breakfast k of the reference -/
abbrev InS (k o i : Nat) : Prop := ((o = 199 ∨ o = 200) ∧ 8 * k ≤ i ∧ i < 8 * k + 8) ∨ (o = 201 ∧ 30 * k ≤ i ∧ i < 30 * k + 30)
def FrS (k : Nat) (b b' : SC) : Prop := ∀ o i, ¬ InS k o i → b' o i = b o i
theorem FrS.rf {k : Nat} {b : SC} : FrS k b b := fun _ _ _ => rfl
theorem FrS.tr {k : Nat} {b b' b'' : SC} (h : FrS k b b') (h' : FrS k b' b'') : FrS k b b'' := fun o i hn => (h' o i hn).trans (h o i hn)
theorem FrS.up {k : Nat} {b b' : SC} {o i : Nat} {v : Int} (h : FrS k b b') (hi : InS k o i) : FrS k b (updC b' o i v) := fun o' i' hn => by
  rw [updC_nt (fun hc => hn (by rw [hc.1, hc.2]; exact hi))]
  exact h o' i' hn
theorem FrS.fx {b b' : SC} (h : FrS 2 b b') : FrX b b' := fun o i hn => h o i (fun hc => hn (by unfold InX InE; unfold InS at hc; omega))
theorem FrS.row {k : Nat} {b b' : SC} (h : FrS k b b') {o : Nat} (h1 : o < 199 ∨ 202 ≤ o) : b' o = b o := by
  funext i
  exact h o i (by unfold InS; omega)
theorem RepY.fs {S : STY} {b b' : SC} {bk k : Nat} (h : RepY S b bk) (hf : FrS k b b') : RepY S b' bk := by
  unfold RepY at h ⊢
  rw [hf.row (o := 166) (by omega), hf.row (o := 168) (by omega), hf.row (o := 169) (by omega), hf.row (o := 170) (by omega), hf.row (o := 171) (by omega), hf.row (o := 172) (by omega), hf.row (o := 173) (by omega), hf.row (o := 174) (by omega), hf.row (o := 175) (by omega), hf.row (o := 176) (by omega), hf.row (o := 177) (by omega), hf.row (o := 178) (by omega), hf.row (o := 179) (by omega), hf.row (o := 180) (by omega), hf.row (o := 181) (by omega), hf.row (o := 182) (by omega), hf.row (o := 183) (by omega), hf.row (o := 184) (by omega), hf.row (o := 185) (by omega), hf.row (o := 186) (by omega), hf.row (o := 187) (by omega), hf.row (o := 188) (by omega), hf.row (o := 189) (by omega), hf.row (o := 190) (by omega)]
  unfold SegM at h ⊢
  rw [hf.row (o := 191) (by omega), hf.row (o := 192) (by omega)]
  exact h
theorem RepB.fs {S : STY} {B b b' : SC} {k j : Nat} (h : RepB S B b j) (hf : FrS k b b') (hW : WfY S) (hk : j ≠ k) : RepB S B b' j := by
  have w8 := hW.2.2.1.1
  have t8 := hW.2.2.2.1.1
  have l8 := hW.2.2.2.2.1.1
  obtain ⟨h0, h1, h2⟩ := h
  exact ⟨fun p hp => by rw [hf _ _ (by unfold InS; omega)]; exact h0 p hp, fun p hp => by rw [hf _ _ (by unfold InS; omega)]; exact h1 p hp, fun p hp => by rw [hf _ _ (by unfold InS; omega)]; exact h2 p hp⟩
/-- another breakfast -/
abbrev gsB (G : GST) (B : SC) : GST := (gS G, B, G.2.2)
theorem TopM.setB {G : GST} {b b' B : SC} (h : TopM G b) (hf : FrS 1 b b') (hB : RepB (gS G) B b' 1) (hW : WfB (gS G) B) (hO : ∀ i, i < 90 → b' 201 i = 0 ∨ b' 201 i = 1) : TopM (gsB G B) b' := by
  obtain ⟨bk, h1, h2, h3, h4, h5, h6, h7, h8, h9, h10, -⟩ := h
  obtain ⟨e1, e2, e3, e4, e5, e6, e7⟩ := h7
  refine ⟨bk, h1.fs hf, h2, hB, hW, h5, h6, ⟨?_, ?_, ?_, fun i hi => ?_, fun i hi => ?_, ?_, fun hn => ⟨fun i hi => ?_, (e7 hn).2.fs hf h2 (by decide)⟩⟩, ⟨h8.1, ?_, fun i hi => ?_⟩, ?_, ?_, hO⟩
  · rw [hf.row (by omega)]; exact e1
  · rw [hf.row (by omega)]; exact e2
  · rw [hf.row (by omega)]; exact e3
  · rw [hf.row (by omega)]; exact e4 i hi
  · rw [hf.row (by omega)]; exact e5 i hi
  · exact e6.fr h2.2.2.1.1 h2.2.2.2.1.1 (fun o i g1 g2 g3 g4 => by rw [hf.row (by omega)])
  · rw [hf.row (by omega)]; exact (e7 hn).1 i hi
  · rw [hf.row (by omega)]; exact h8.2.1
  · rw [hf.row (by omega)]; exact h8.2.2 i hi
  · rw [hf.row (by omega)]; exact h9
  · rw [hf.row (by omega)]; exact h10
/-- another evening, of the breakfast as it is -/
abbrev gsE (G : GST) (n : Nat) : GST := (gS G, gB G, gB G, n, G.2.2.2.2)
theorem TopM.setE {G : GST} {b b' : SC} {n : Nat} (h : TopM G b) (hn : n ≤ 180) (h0 : 0 < n) (hf : ∀ o i, ¬ InE 0 o i → ¬ InS 0 o i → b' o i = b o i) (hE : EvM (gS G) (gB G) b' 0 n) (hB : RepB (gS G) (gB G) b' 0) (hO : ∀ i, i < 90 → b' 201 i = 0 ∨ b' 201 i = 1) : TopM (gsE G n) b' := by
  obtain ⟨bk, h1, h2, h3, h4, h5, h6, h7, h8, h9, h10, -⟩ := h
  have w8 := h2.2.2.1.1
  have t8 := h2.2.2.2.1.1
  have l8 := h2.2.2.2.2.1.1
  have hr : ∀ o, 167 ≤ o → o < 199 → b' o = b o := fun o g1 g2 => by
    funext i
    exact hf o i (by unfold InE; omega) (by unfold InS; omega)
  have hY : RepY (gS G) b' bk := by
    unfold RepY at h1 ⊢
    rw [hr 168 (by omega) (by omega), hr 169 (by omega) (by omega), hr 170 (by omega) (by omega), hr 171 (by omega) (by omega), hr 172 (by omega) (by omega), hr 173 (by omega) (by omega), hr 174 (by omega) (by omega), hr 175 (by omega) (by omega), hr 176 (by omega) (by omega), hr 177 (by omega) (by omega), hr 178 (by omega) (by omega), hr 179 (by omega) (by omega), hr 180 (by omega) (by omega), hr 181 (by omega) (by omega), hr 182 (by omega) (by omega), hr 183 (by omega) (by omega), hr 184 (by omega) (by omega), hr 185 (by omega) (by omega), hr 186 (by omega) (by omega), hr 187 (by omega) (by omega), hr 188 (by omega) (by omega), hr 189 (by omega) (by omega), hr 190 (by omega) (by omega), hf 166 12 (by unfold InE; omega) (by unfold InS; omega)]
    unfold SegM at h1 ⊢
    rw [hr 191 (by omega) (by omega), hr 192 (by omega) (by omega)]
    exact h1
  obtain ⟨e1, e2, e3, e4, e5, e6, e7⟩ := hE
  refine ⟨bk, hY, h2, ⟨fun p hp => ?_, fun p hp => ?_, fun p hp => ?_⟩, h4, h4, hn, ⟨e1, e2, e3, fun i hi => ?_, fun i hi => ?_, e7, fun _ => ⟨fun i hi => ?_, hB⟩⟩, ⟨h8.1, ?_, fun i hi => ?_⟩, ?_, ?_, hO⟩
  · rw [hf _ _ (by unfold InE; omega) (by unfold InS; omega)]; exact h3.1 p hp
  · rw [hf _ _ (by unfold InE; omega) (by unfold InS; omega)]; exact h3.2.1 p hp
  · rw [hf _ _ (by unfold InE; omega) (by unfold InS; omega)]; exact h3.2.2 p hp
  · have := e4 i hi
    rwa [show 8640 * 0 + i = i by omega] at this
  · have := e5 i hi
    rwa [show 96 * 0 + i = i by omega] at this
  · have := e6 i hi
    rwa [show 64 * 0 + i = i by omega] at this
  · rw [hf _ _ (by unfold InE; omega) (by unfold InS; omega)]; exact h8.2.1
  · rw [hr 167 (by omega) (by omega)]; exact h8.2.2 i hi
  · rw [hf _ _ (by unfold InE; omega) (by unfold InS; omega)]; exact h9
  · rw [hf _ _ (by unfold InE; omega) (by unfold InS; omega)]; exact h10
/-- the breakfast that is told -/
def tldB (S : STY) : SC := fun t i => match t with
  | 0 => S.1 5 i
  | 1 => S.1 6 i
  | _ => 0
theorem tldB_wf {S : STY} (h : WfY S) : WfB S (tldB S) := ⟨h.2.2.2.2.2.2.2.2.1, h.2.2.2.2.2.2.2.2.2.1, fun _ _ => Or.inl rfl⟩
