/-! THE REFERENCE READS: sums and tests: what they may change -/
abbrev fxM (i : Nat) : Prop := (3 ≤ i ∧ i ≤ 9) ∨ i = 38 ∨ (45 ≤ i ∧ i ≤ 49)
/-- all that reading a sum or a test may change, from code c on -/
def FrR (j c : Nat) (b b' : SC) : Prop := ∀ o i, ¬ (o = 166 ∧ fxM i) → ¬ ((o = 191 ∨ o = 192) ∧ 1200 * j + c ≤ i ∧ i < 1200 * j + 1200) → ¬ (193 ≤ o ∧ o ≤ 198) → b' o i = b o i
/-- .. while frame f goes on, and the operators below om wait -/
def KpM (j c om f : Nat) (b b' : SC) : Prop := ∀ o i, ¬ (o = 166 ∧ fxM i) → ¬ ((o = 191 ∨ o = 192) ∧ 1200 * j + c ≤ i ∧ i < 1200 * j + 1200) → ¬ (o = 198 ∧ om ≤ i) → ¬ ((o = 194 ∨ o = 195) ∧ f ≤ i) → ¬ ((o = 193 ∨ o = 196 ∨ o = 197) ∧ f < i) → b' o i = b o i
theorem FrR.rf {j c : Nat} {b : SC} : FrR j c b b := fun _ _ _ _ _ => rfl
theorem KpM.rf {j c om f : Nat} {b : SC} : KpM j c om f b b := fun _ _ _ _ _ _ _ => rfl
theorem FrR.tr {j c c' : Nat} {b b' b'' : SC} (h : FrR j c b b') (h' : FrR j c' b' b'') (hc : c ≤ c') : FrR j c b b'' := fun o i h1 h2 h3 => (h' o i h1 (fun g => h2 ⟨g.1, by omega, g.2.2⟩) h3).trans (h o i h1 h2 h3)
theorem KpM.tr {j c c' om om' f f' : Nat} {b b' b'' : SC} (h : KpM j c om f b b') (h' : KpM j c' om' f' b' b'') (hc : c ≤ c') (ho : om ≤ om') (hf : f ≤ f') : KpM j c om f b b'' := fun o i h1 h2 h3 h4 h5 => (h' o i h1 (fun g => h2 ⟨g.1, by omega, g.2.2⟩) (fun g => h3 ⟨g.1, by omega⟩) (fun g => h4 ⟨g.1, by omega⟩) (fun g => h5 ⟨g.1, by omega⟩)).trans (h o i h1 h2 h3 h4 h5)
theorem KpM.fr {j c om f : Nat} {b b' : SC} (h : KpM j c om f b b') : FrR j c b b' := fun o i h1 h2 h3 => h o i h1 h2 (fun g => h3 (by omega)) (fun g => h3 (by omega)) (fun g => h3 (by omega))
theorem FrR.wk {j c c' : Nat} {b b' : SC} (h : FrR j c' b b') (hc : c ≤ c') : FrR j c b b' := FrR.rf.tr h hc
theorem FrN.fr {j c : Nat} {b b' : SC} (h : FrN b b') : FrR j c b b' := fun o i h1 _ _ => h o i (fun g => h1 ⟨g.1, Or.inl g.2⟩)
theorem FrN.kp {j c om f : Nat} {b b' : SC} (h : FrN b b') : KpM j c om f b b' := fun o i h1 _ _ _ _ => h o i (fun g => h1 ⟨g.1, Or.inl g.2⟩)
/-- what may change -/
abbrev alK (j c om f o i : Nat) : Prop := (o = 166 ∧ fxM i) ∨ ((o = 191 ∨ o = 192) ∧ 1200 * j + c ≤ i ∧ i < 1200 * j + 1200) ∨ (o = 198 ∧ om ≤ i) ∨ ((o = 194 ∨ o = 195) ∧ f ≤ i) ∨ ((o = 193 ∨ o = 196 ∨ o = 197) ∧ f < i)
theorem KpM.up {j c om f o i : Nat} {b b' : SC} {v : Int} (h : KpM j c om f b b') (ha : alK j c om f o i) : KpM j c om f b (updC b' o i v) := fun o' i' h1 h2 h3 h4 h5 => by
  rw [updC_nt (fun g => ?_)]
  · exact h o' i' h1 h2 h3 h4 h5
  · obtain ⟨rfl, rfl⟩ := g
    rcases ha with g | g | g | g | g
    · exact h1 g
    · exact h2 g
    · exact h3 g
    · exact h4 g
    · exact h5 g
theorem KpM.fn {j c om f : Nat} {b b' b'' : SC} (h : KpM j c om f b b') (g : FrN b' b'') : KpM j c om f b b'' := h.tr g.kp (Nat.le_refl _) (Nat.le_refl _) (Nat.le_refl _)
theorem NmM.fR {N b b' : SC} {j c : Nat} (h : NmM N b j) (hf : FrR j c b b') : NmM N b' j := by
  obtain ⟨h1, h2, h3⟩ := h
  refine ⟨h1, (hf 166 39 (by omega) (by omega) (by omega)).trans h2, fun kd hk => ?_⟩
  obtain ⟨g1, g2, g3⟩ := h3 kd hk
  have e : (coM kd = 168 ∧ noM kd = 174) ∨ (coM kd = 170 ∧ noM kd = 176) ∨ (coM kd = 171 ∧ noM kd = 178) := by
    rcases (show kd = 0 ∨ kd = 1 ∨ kd = 2 by omega) with rfl | rfl | rfl
    · exact Or.inl ⟨rfl, rfl⟩
    · exact Or.inr (Or.inl ⟨rfl, rfl⟩)
    · exact Or.inr (Or.inr ⟨rfl, rfl⟩)
  exact ⟨g1, (hf _ _ (by omega) (by omega) (by omega)).trans g2, fun k hk => (hf _ _ (by omega) (by omega) (by omega)).trans (g3 k hk)⟩
/-- broken while a sum or a test is read -/
abbrev BkM (W : TXT) (j c : Nat) (b : SC) (e : PF) (b' : SC) : Prop := FrR j c b b' ∧ BaM W b' ∧ BrM e b'
theorem BkM.wk {W : TXT} {j c c' : Nat} {b b' b'' : SC} {e : PF} (h : BkM W j c' b' e b'') (hf : FrR j c b b') (hc : c ≤ c') : BkM W j c b e b'' := ⟨hf.tr h.1 hc, h.2⟩
/-- what the frame says where a sum or a test begins -/
def FcM (ty : Bool) (b : SC) (f tc : Nat) : Prop := match ty with
  | true => (b 193 f = 1 ∨ b 193 f = 5) ∧ b 194 f = 0 ∧ b 195 f = 1
  | false => (b 194 f = 0 ∨ b 194 f = 1) ∧ ((b 193 f ≠ 1 ∧ b 193 f ≠ 5) ∨ b 195 f = 0 ∨ (tc ≠ 91 ∧ (tc < 271 ∨ 278 < tc)))
/-- what it says where one ends -/
def FdM (ty : Bool) (b b' : SC) (f tc : Nat) : Prop := match ty with
  | true => b' 194 f = 2 ∨ (b' 194 f = 1 ∧ opA tc = 0 ∧ opM tc = 0)
  | false => b' 194 f = b 194 f ∧ b' 195 f = 0
/-- where a piece of rank r begins -/
def StM (W : TXT) (N : SC) (j f r v : Nat) (ty : Bool) (c om p : Nat) (b : SC) : Prop := TkM W p b ∧ NmM N b j ∧ b 166 38 = (c : Int) ∧ b 166 48 = (om : Int) ∧ b 166 45 = ((f + 1 : Nat) : Int) ∧ b 166 46 = (f : Int) ∧ b 166 49 = 0 ∧ (∃ bs : Nat, b 197 f = (bs : Int) ∧ bs ≤ om ∧ (om = bs ∨ rkM (b 198 (om - 1)) < (r : Int))) ∧ c + om ≤ p ∧ 3 * om ≤ p + 15 * f + 3 * v ∧ FcM ty b f (tC W p)
/-- where it has ended: l1 is told, pd waits -/
def AftM (W : TXT) (j c om f r : Nat) (ty : Bool) (l : List (Nat × Nat)) (p : Nat) (b b' : SC) : Prop := KpM j c om f b b' ∧ TkM W p b' ∧ b' 166 45 = ((f + 1 : Nat) : Int) ∧ b' 166 46 = (f : Int) ∧ b' 166 49 = 1 ∧ FdM ty b b' f (tC W p) ∧ c + om + l.length ≤ p ∧ ∃ l1 pd, l = l1 ++ opL pd ∧ codM (b' 191) (b' 192) (1200 * j + c) l1 ∧ b' 166 38 = ((c + l1.length : Nat) : Int) ∧ stkM (b' 198) om pd ∧ b' 166 48 = ((om + pd.length : Nat) : Int) ∧ 3 * (om + pd.length) ≤ p + 15 * f + 15 ∧ ∀ op, op ∈ pd → (r : Int) ≤ rkM ((op : Nat) : Int)
theorem AftM.wk {W : TXT} {j c om f r r' : Nat} {ty : Bool} {l : List (Nat × Nat)} {p : Nat} {b b' : SC} (h : AftM W j c om f r' ty l p b b') (hr : r ≤ r') : AftM W j c om f r ty l p b b' := by
  obtain ⟨h1, h2, h3, h4, h5, h6, h7, l1, pd, g1, g2, g3, g4, g5, g6, g7⟩ := h
  exact ⟨h1, h2, h3, h4, h5, h6, h7, l1, pd, g1, g2, g3, g4, g5, g6, fun op ho => by have := g7 op ho; omega⟩
/-- a leaf, before the loop has noted that an operand is told -/
def LfM (W : TXT) (j c om f : Nat) (ty : Bool) (l : List (Nat × Nat)) (p : Nat) (b b' : SC) : Prop := KpM j c om f b b' ∧ TkM W p b' ∧ b' 166 45 = ((f + 1 : Nat) : Int) ∧ b' 166 46 = (f : Int) ∧ FdM ty b b' f (tC W p) ∧ codM (b' 191) (b' 192) (1200 * j + c) l ∧ b' 166 38 = ((c + l.length : Nat) : Int) ∧ b' 166 48 = (om : Int)
theorem TkM.u4 {W : TXT} {p i : Nat} {b : SC} {v : Int} (h : TkM W p b) (hi : 45 ≤ i ∧ i ≤ 49) : TkM W p (updC b 166 i v) := by
  obtain ⟨h1, h2, h3, h4, h5, h6, h7, h8, h9, h10, h11⟩ := h
  have e : ∀ k, k < 10 → updC b 166 i v 166 k = b 166 k := fun k hk => updC_nt (by omega)
  unfold TkM
  rw [e 8 (by omega), e 9 (by omega), e 5 (by omega), e 4 (by omega), e 3 (by omega), e 6 (by omega), e 7 (by omega)]
  exact ⟨h1.fo (by funext x; exact updC_nt (by omega)) (e 2 (by omega)), h2, h3, h4, h5, h6, h7, h8, h9, h10, h11⟩
theorem LfM.af {W : TXT} {j c om f r : Nat} {ty : Bool} {l : List (Nat × Nat)} {p : Nat} {b b' : SC} (h : LfM W j c om f ty l p b b') (hp : c + om + l.length ≤ p) (h3 : 3 * om ≤ p + 15 * f + 15) : AftM W j c om f r ty l p b (updC b' 166 49 1) := by
  obtain ⟨h1, h2, g3, h4, h5, h6, h7, h8⟩ := h
  refine ⟨h1.up (by omega), h2.u4 (by omega), ?_, ?_, updC_sm, ?_, hp, l, [], (List.append_nil l).symm, ?_, ?_, trivial, ?_, h3, fun _ h => absurd h List.not_mem_nil⟩
  · rw [updC_nt (by omega)]; exact g3
  · rw [updC_nt (by omega)]; exact h4
  · cases ty
    · show updC b' 166 49 1 194 f = _ ∧ updC b' 166 49 1 195 f = 0
      rw [updC_nt (by omega), updC_nt (by omega)]
      exact h5
    · show updC b' 166 49 1 194 f = _ ∨ (updC b' 166 49 1 194 f = 1 ∧ _)
      rw [updC_nt (by omega)]
      exact h5
  · exact codM_cg l _ (fun i _ _ => ⟨updC_nt (by omega), updC_nt (by omega)⟩) h6
  · rw [updC_nt (by omega)]; exact h7
  · rw [updC_nt (by omega)]; exact h8
theorem TkM.cg {W : TXT} {p : Nat} {b b' : SC} (h : TkM W p b) (e : ∀ o i, (o = 166 ∧ 2 ≤ i ∧ i ≤ 9) ∨ o = 167 → b' o i = b o i) : TkM W p b' := by
  obtain ⟨h1, h2, h3, h4, h5, h6, h7, h8, h9, h10, h11⟩ := h
  unfold TkM
  rw [e 166 8 (by omega), e 166 9 (by omega), e 166 5 (by omega), e 166 4 (by omega), e 166 3 (by omega), e 166 6 (by omega), e 166 7 (by omega)]
  exact ⟨h1.fo (by funext x; exact e 167 x (by omega)) (e 166 2 (by omega)), h2, h3, h4, h5, h6, h7, h8, h9, h10, h11⟩
theorem TkM.up {W : TXT} {p o i : Nat} {b : SC} {v : Int} (h : TkM W p b) (g : ¬ (o = 166 ∧ i < 10) ∧ o ≠ 167) : TkM W p (updC b o i v) := h.cg (fun o' i' _ => updC_nt (by omega))
theorem BkM.up {W : TXT} {j c o i : Nat} {b b' : SC} {e : PF} {v : Int} (h : BkM W j c b e b') (g : (o = 166 ∧ (i = 38 ∨ (45 ≤ i ∧ i ≤ 49))) ∨ (193 ≤ o ∧ o ≤ 198)) : BkM W j c b e (updC b' o i v) := by
  obtain ⟨h1, h2, h3, h4, h5⟩ := h
  refine ⟨fun o' i' g1 g2 g3 => ?_, h2.fo (by funext x; exact updC_nt (by omega)) (updC_nt (by omega)), h3, ?_, ?_⟩
  · rw [updC_nt (fun q => ?_)]
    · exact h1 o' i' g1 g2 g3
    · obtain ⟨rfl, rfl⟩ := q
      rcases g with g | g
      · exact g1 ⟨g.1, Or.inr g.2⟩
      · exact g3 g
  · rw [updC_nt (by omega)]; exact h4
  · rw [updC_nt (by omega)]; exact h5
theorem BdM.bk {W : TXT} {j c om f : Nat} {b b' b'' : SC} {e : PF} (h : BdM W b' e b'') (k : KpM j c om f b b') : BkM W j c b e b'' := ⟨(k.fn h.1).fr, h.2⟩
theorem m_bl {X : List Int} {d : Nat} {st dr rd : Int} {a s b : C3} {W : TXT} {p : Nat} (hk : TkM W p b) (k : Int) (h0 : 0 < k) : Ev X d 160 0 [Vr 166, Vi k, Vi ((tA W p : Nat) : Int)] [] (SHv st dr rd, ovl a s b) (fun rr hh => rr = none ∧ ∃ b' : C3, hh = (SHv st dr rd, ovl a s b') ∧ BdM W b (fltT W k p) b') := by
  refine (m_blame (b := b) k ((tA W p : Nat) : Int)).mono ?_
  rintro r h' ⟨g1, g2⟩
  rw [if_neg (by rw [hk.2.1]; decide)] at g2
  exact ⟨g1, _, g2, hk.bl h0⟩
theorem m_bl_br {X : List Int} {d : Nat} {st dr rd : Int} {a s b : C3} {e : PF} (hB : BrM e b) (k q : Int) : Ev X d 160 0 [Vr 166, Vi k, Vi q] [] (SHv st dr rd, ovl a s b) (fun rr hh => rr = none ∧ hh = (SHv st dr rd, ovl a s b)) := by
  refine (m_blame (b := b) k q).mono ?_
  rintro r h' ⟨g1, g2⟩
  rw [if_pos (by rw [hB.2.1]; exact hB.1)] at g2
  exact ⟨g1, g2⟩
theorem codM_u {b : SC} {o i k : Nat} {x : Int} {l : List (Nat × Nat)} (h : codM (b 191) (b 192) k l) (g : o ≠ 191 ∧ o ≠ 192) : codM ((updC b o i x) 191) ((updC b o i x) 192) k l := codM_cg l k (fun y _ _ => ⟨updC_nt (by omega), updC_nt (by omega)⟩) h
theorem codM_add {b : SC} {k q v : Nat} {qi vi w : Int} (hq : qi = (q : Int)) (hv : vi = (v : Int)) : codM ((updC (updC (updC b 191 k qi) 192 k vi) 166 38 w) 191) ((updC (updC (updC b 191 k qi) 192 k vi) 166 38 w) 192) k [(q, v)] := by
  refine ⟨?_, ?_, trivial⟩
  · rw [updC_nt (by omega), updC_nt (by omega), updC_sm]; exact hq
  · rw [updC_nt (by omega), updC_sm]; exact hv
/-- what the frame says of a leaf -/
def FbM (ty : Bool) (b b' : SC) (f : Nat) : Prop := match ty with
  | true => b' 194 f = 2
  | false => b' 194 f = b 194 f ∧ b' 195 f = 0
theorem FbM.fd {ty : Bool} {b b' : SC} {f tc : Nat} (h : FbM ty b b' f) : FdM ty b b' f tc := by
  cases ty
  · exact h
  · exact Or.inl h
theorem FbM.fn {ty : Bool} {b b' b'' : SC} {f : Nat} (h : FbM ty b b' f) (g : FrN b' b'') : FbM ty b b'' f := by
  have e1 := g 194 f (by omega)
  have e2 := g 195 f (by omega)
  cases ty
  · exact ⟨e1.trans h.1, e2.trans h.2⟩
  · exact e1.trans h
theorem LfM.nx {W : TXT} {j c om f : Nat} {ty : Bool} {l : List (Nat × Nat)} {p : Nat} {b b' b'' : SC} (ho : OkM W b' p b'') (h : KpM j c om f b b') (e45 : b' 166 45 = ((f + 1 : Nat) : Int)) (e46 : b' 166 46 = (f : Int)) (hd : FbM ty b b' f) (hl : codM (b' 191) (b' 192) (1200 * j + c) l) (e38 : b' 166 38 = ((c + l.length : Nat) : Int)) (e48 : b' 166 48 = (om : Int)) : LfM W j c om f ty l p b b'' := by
  have e : ∀ i, 10 ≤ i → b'' 166 i = b' 166 i := fun i hi => ho.1 166 i (by omega)
  refine ⟨h.fn ho.1, ho.2, (e _ (by omega)).trans e45, (e _ (by omega)).trans e46, (hd.fn ho.1).fd, ?_, (e _ (by omega)).trans e38, (e _ (by omega)).trans e48⟩
  exact codM_cg l _ (fun i _ _ => ⟨ho.1 191 i (by omega), ho.1 192 i (by omega)⟩) hl
/-- a frame has been begun -/
def OpM (W : TXT) (om f : Nat) (kd : Int) (p : Nat) (b b' : SC) : Prop := (∀ o i, ¬ (o = 166 ∧ ((3 ≤ i ∧ i ≤ 9) ∨ i = 45 ∨ i = 46)) → ¬ (193 ≤ o ∧ o ≤ 197 ∧ i = f + 1) → b' o i = b o i) ∧ TkM W p b' ∧ b' 166 45 = ((f + 2 : Nat) : Int) ∧ b' 166 46 = ((f + 1 : Nat) : Int) ∧ b' 193 (f + 1) = kd ∧ b' 194 (f + 1) = 0 ∧ b' 195 (f + 1) = 1 ∧ b' 197 (f + 1) = (om : Int)
theorem OpM.fn {W : TXT} {om f : Nat} {kd : Int} {p : Nat} {b b' b'' : SC} (h : OpM W om f kd p b' b'') (g : FrN b b') : OpM W om f kd p b b'' := ⟨fun o i h1 h2 => (h.1 o i h1 h2).trans (g o i (fun q => h1 ⟨q.1, Or.inl q.2⟩)), h.2⟩
theorem OpM.pr {W : TXT} {om f : Nat} {kd v : Int} {p : Nat} {b b' : SC} (h : OpM W om f kd p b b') : OpM W om f kd p b (updC b' 196 (f + 1) v) := by
  obtain ⟨h1, h2, h3, h4, h5, h6, h7, h8⟩ := h
  refine ⟨fun o i g1 g2 => ?_, h2.up (by omega), ?_, ?_, ?_, ?_, ?_, ?_⟩
  · rw [updC_nt (by omega)]; exact h1 o i g1 g2
  · rw [updC_nt (by omega)]; exact h3
  · rw [updC_nt (by omega)]; exact h4
  · rw [updC_nt (by omega)]; exact h5
  · rw [updC_nt (by omega)]; exact h6
  · rw [updC_nt (by omega)]; exact h7
  · rw [updC_nt (by omega)]; exact h8
abbrev JnF (j c n : Nat) (b b' : SC) : Prop := ∀ o i, ¬ (o = 166 ∧ (i = 38 ∨ i = 48)) → ¬ ((o = 191 ∨ o = 192) ∧ 1200 * j + c ≤ i ∧ i < 1200 * j + c + n) → b' o i = b o i
theorem jn_kp {j c om f n : Nat} {b b' : SC} (h : JnF j c n b b') (hc : c + n ≤ 1200) : KpM j c om f b b' := fun o i h1 h2 _ _ _ => h o i (fun g => h1 ⟨g.1, by unfold fxM; omega⟩) (fun g => h2 ⟨g.1, g.2.1, by omega⟩)
theorem jn_tk {W : TXT} {p j c n : Nat} {b b' : SC} (hk : TkM W p b) (h : JnF j c n b b') : TkM W p b' := hk.cg (fun o i g => h o i (by omega) (by omega))
theorem codM_fn {b b' : SC} {k : Nat} {l : List (Nat × Nat)} (g : FrN b b') (h : codM (b 191) (b 192) k l) : codM (b' 191) (b' 192) k l := codM_cg l k (fun i _ _ => ⟨g 191 i (by omega), g 192 i (by omega)⟩) h
/-- an operator waits, the next operand is read -/
def GoM (W : TXT) (j c om f : Nat) (op ph bg : Int) (pd : List Nat) (p : Nat) (b b' : SC) : Prop := KpM j c om f b b' ∧ TkM W p b' ∧ codM (b' 191) (b' 192) (1200 * j + c) (opL pd) ∧ b' 166 38 = ((c + pd.length : Nat) : Int) ∧ b' 166 48 = ((om + 1 : Nat) : Int) ∧ b' 198 om = op ∧ b' 166 49 = 0 ∧ b' 166 45 = ((f + 1 : Nat) : Int) ∧ b' 166 46 = (f : Int) ∧ b' 194 f = ph ∧ b' 195 f = bg
theorem GoM.nx {W : TXT} {j c om f : Nat} {op ph bg : Int} {pd : List Nat} {p : Nat} {b B b' : SC} (ho : OkM W B p b') (k : KpM j c om f b B) (cod : codM (B 191) (B 192) (1200 * j + c) (opL pd)) (e38 : B 166 38 = ((c + pd.length : Nat) : Int)) (e48 : B 166 48 = ((om + 1 : Nat) : Int)) (eop : B 198 om = op) (e45 : B 166 45 = ((f + 1 : Nat) : Int)) (e46 : B 166 46 = (f : Int)) (eph : B 194 f = ph) (ebg : B 195 f = bg) : GoM W j c om f op ph bg pd p b (updC b' 166 49 0) := by
  have e : ∀ i, 10 ≤ i → i ≠ 49 → updC b' 166 49 0 166 i = B 166 i := fun i h1 h2 => (updC_nt (by omega)).trans (ho.1 166 i (by omega))
  have e2 : ∀ o i, o ≠ 166 → updC b' 166 49 0 o i = B o i := fun o i h1 => (updC_nt (by omega)).trans (ho.1 o i (by omega))
  refine ⟨(k.fn ho.1).up (by omega), ho.2.up (by omega), codM_u (codM_fn ho.1 cod) (by omega), (e _ (by omega) (by omega)).trans e38, (e _ (by omega) (by omega)).trans e48, (e2 _ _ (by omega)).trans eop, updC_sm, (e _ (by omega) (by omega)).trans e45, (e _ (by omega) (by omega)).trans e46, (e2 _ _ (by omega)).trans eph, (e2 _ _ (by omega)).trans ebg⟩
/-- the second sum of a pair is read -/
def ComM (W : TXT) (j c om f : Nat) (pd : List Nat) (p : Nat) (b b' : SC) : Prop := KpM j c om f b b' ∧ TkM W p b' ∧ codM (b' 191) (b' 192) (1200 * j + c) (opL pd) ∧ b' 166 38 = ((c + pd.length : Nat) : Int) ∧ b' 166 48 = (om : Int) ∧ b' 166 49 = 0 ∧ b' 166 45 = ((f + 2 : Nat) : Int) ∧ b' 166 46 = ((f + 1 : Nat) : Int) ∧ b' 193 (f + 1) = 4 ∧ b' 194 (f + 1) = b 194 (f + 1) ∧ b' 195 (f + 1) = b 195 (f + 1) ∧ b' 196 (f + 1) = b 196 (f + 1) ∧ b' 197 (f + 1) = b 197 (f + 1) ∧ b' 194 f = b 194 f ∧ b' 195 f = b 195 f
/-- a frame has ended -/
def CloM (W : TXT) (j c om f : Nat) (ph : Int) (l : List (Nat × Nat)) (p : Nat) (b b' : SC) : Prop := KpM j c om f b b' ∧ TkM W p b' ∧ codM (b' 191) (b' 192) (1200 * j + c) l ∧ b' 166 38 = ((c + l.length : Nat) : Int) ∧ b' 166 48 = (om : Int) ∧ b' 166 49 = b 166 49 ∧ b' 166 45 = ((f + 1 : Nat) : Int) ∧ b' 166 46 = (f : Int) ∧ b' 194 f = ph ∧ b' 195 f = b 195 f
theorem CloM.nx {W : TXT} {j c om f : Nat} {ph : Int} {l : List (Nat × Nat)} {p : Nat} {b B b' : SC} (ho : OkM W B p b') (k : KpM j c om f b B) (cod : codM (B 191) (B 192) (1200 * j + c) l) (e38 : B 166 38 = ((c + l.length : Nat) : Int)) (e48 : B 166 48 = (om : Int)) (e49 : B 166 49 = b 166 49) (e45 : B 166 45 = ((f + 1 : Nat) : Int)) (e46 : B 166 46 = (f : Int)) (eph : B 194 f = ph) (ebg : B 195 f = b 195 f) : CloM W j c om f ph l p b b' := by
  have e : ∀ i, 10 ≤ i → b' 166 i = B 166 i := fun i h1 => ho.1 166 i (by omega)
  have e2 : ∀ o i, o ≠ 166 → b' o i = B o i := fun o i h1 => ho.1 o i (by omega)
  exact ⟨k.fn ho.1, ho.2, codM_fn ho.1 cod, (e _ (by omega)).trans e38, (e _ (by omega)).trans e48, (e _ (by omega)).trans e49, (e _ (by omega)).trans e45, (e _ (by omega)).trans e46, (e2 _ _ (by omega)).trans eph, (e2 _ _ (by omega)).trans ebg⟩
theorem opL_len {pd : List Nat} : (opL pd).length = pd.length := List.length_map _
theorem codM_ad {b : SC} {k q v : Nat} {qi vi w : Int} {l : List (Nat × Nat)} (h : codM (b 191) (b 192) k l) (hq : qi = (q : Int)) (hv : vi = (v : Int)) : codM ((updC (updC (updC b 191 (k + l.length) qi) 192 (k + l.length) vi) 166 38 w) 191) ((updC (updC (updC b 191 (k + l.length) qi) 192 (k + l.length) vi) 166 38 w) 192) k (l ++ [(q, v)]) := by
  refine codM_app l [(q, v)] k (codM_cg l k (fun i h1 h2 => ⟨?_, ?_⟩) h) (codM_add hq hv)
  · rw [updC_nt (by omega), updC_nt (by omega), updC_nt (by omega)]
  · rw [updC_nt (by omega), updC_nt (by omega), updC_nt (by omega)]
