/-! THE CLASS READS: its tokens -/
/-- a byte's sort, as the class has it -/
def sgC (c : Int) : Int := if 97 ≤ c ∧ c ≤ 122 then 97 else if 48 ≤ c ∧ c ≤ 57 then 48 else c
theorem sb_cs {c : Int} (h : 0 ≤ c ∧ c < 256) : (c < 128 ∧ sbS c = c) ∨ (128 ≤ c ∧ sbS c = c - 256) := by
  unfold sbS
  split
  · next g => exact Or.inl ⟨g, rfl⟩
  · next g => exact Or.inr ⟨by omega, rfl⟩
theorem sb_and8 : ∀ k : Fin 256, i_and (sbS ((k.val : Nat) : Int)) 255 = ((k.val : Nat) : Int) := by decide +kernel
theorem sb_and {c : Int} (h : 0 ≤ c ∧ c < 256) : i_and (sbS c) 255 = c := by
  obtain ⟨k, rfl⟩ : ∃ k : Nat, c = (k : Int) := ⟨c.toNat, by omega⟩
  exact sb_and8 ⟨k, by omega⟩
/-- the class has the text -/
def BaC (W : TXT) (a : SC) : Prop := TxO W ∧ (∀ i, i < W.2 → a 1 i = sbS (W.1 i)) ∧ OwnC a ∧ a 114 2 = ((W.2 : Nat) : Int)
theorem BaC.fo {W : TXT} {a a' : SC} (h : BaC W a) (h1 : a' 1 = a 1) (h2 : a' 115 = a 115) (h3 : a' 114 2 = a 114 2) : BaC W a' := by
  unfold BaC OwnC at h ⊢
  rw [h1, h2, h3]
  exact h
/-- the class is at the token behind p -/
def TkC (W : TXT) (p : Nat) (a : SC) : Prop := BaC W a ∧ a 114 9 = 0 ∧ a 114 10 = -1 ∧ a 114 3 = ((tE W p : Nat) : Int) ∧ a 114 5 = ((tC W p : Nat) : Int) ∧ a 114 6 = ((tA W p : Nat) : Int) ∧ (tC W p = 300 → a 114 7 = ((cvF (tV W p) 6 : Nat) : Int)) ∧ (tC W p = 301 → a 114 7 = ((tV W p : Nat) : Int)) ∧ tC W p ≠ 303 ∧ p ≤ W.2
theorem TkC.fo {W : TXT} {p : Nat} {a a' : SC} (h : TkC W p a) (h0 : a' 114 = a 114) (h1 : a' 1 = a 1) (h2 : a' 115 = a 115) : TkC W p a' := by
  unfold TkC at h ⊢
  rw [h0]
  exact ⟨h.1.fo h1 h2 (by rw [h0]), h.2⟩
/-- a fault was found -/
def BrC (e : PF) (a : SC) : Prop := e.1 ≠ 0 ∧ a 114 9 = e.1 ∧ a 114 10 = e.2 ∧ a 114 5 = 303
theorem BrC.fo {e : PF} {a a' : SC} (h : BrC e a) (h0 : a' 114 = a 114) : BrC e a' := by
  unfold BrC at h ⊢
  rw [h0]
  exact h
theorem tk_of {W : TXT} {p c v q e : Nat} (h : tokT W p = (c, v, q, e)) : tC W p = c ∧ tV W p = v ∧ tA W p = q ∧ tE W p = e := by
  unfold tC tV tA tE
  rw [h]
  exact ⟨rfl, rfl, rfl, rfl⟩
theorem TkC.mk {W : TXT} {p c v q e : Nat} {a : SC} (ht : tokT W p = (c, v, q, e)) (hB : BaC W a) (e9 : a 114 9 = 0) (e10 : a 114 10 = -1) (e3 : a 114 3 = (e : Int)) (e5 : a 114 5 = (c : Int)) (e6 : a 114 6 = (q : Int)) (hc : c ≠ 303) (hp : p ≤ W.2) (e7 : c = 300 → a 114 7 = ((cvF v 6 : Nat) : Int)) (e8 : c = 301 → a 114 7 = (v : Int)) : TkC W p a := by
  obtain ⟨t1, t2, t3, t4⟩ := tk_of ht
  unfold TkC
  rw [t1, t2, t3, t4]
  exact ⟨hB, e9, e10, e3, e5, e6, e7, e8, hc, hp⟩
/-- a step to the token behind p was made -/
def StpC (W : TXT) (p : Nat) (a0 a' : SC) : Prop := FrO 114 114 a0 a' ∧ a' 114 8 = a0 114 8 ∧ (TkC W p a' ∨ (tC W p = 303 ∧ BaC W a' ∧ BrC (1, ((tV W p : Nat) : Int)) a'))
theorem own_cv : ∀ i : Fin 27, ownN i = ((cvF (ownG i) 6 : Nat) : Int) := by decide +kernel
theorem own_vdn : ∀ i, i < 27 → vdN 6 (ownG i)
  | 0, _ => by show vdN 6 1919905645; exact Or.inr ⟨by decide, Or.inr ⟨by decide, Or.inr ⟨by decide, Or.inr ⟨by decide, Or.inl (by decide)⟩⟩⟩⟩
  | 1, _ => by show vdN 6 1685024626; exact Or.inr ⟨by decide, Or.inr ⟨by decide, Or.inr ⟨by decide, Or.inr ⟨by decide, Or.inl (by decide)⟩⟩⟩⟩
  | 2, _ => by show vdN 6 7825519; exact Or.inr ⟨by decide, Or.inr ⟨by decide, Or.inr ⟨by decide, Or.inl (by decide)⟩⟩⟩
  | 3, _ => by show vdN 6 26990; exact Or.inr ⟨by decide, Or.inr ⟨by decide, Or.inl (by decide)⟩⟩
  | 4, _ => by show vdN 6 499967946343; exact Or.inr ⟨by decide, Or.inr ⟨by decide, Or.inr ⟨by decide, Or.inr ⟨by decide, Or.inr ⟨by decide, Or.inl (by decide)⟩⟩⟩⟩⟩
  | 5, _ => by show vdN 6 1935767923; exact Or.inr ⟨by decide, Or.inr ⟨by decide, Or.inr ⟨by decide, Or.inr ⟨by decide, Or.inl (by decide)⟩⟩⟩⟩
  | 6, _ => by show vdN 6 26479; exact Or.inr ⟨by decide, Or.inr ⟨by decide, Or.inl (by decide)⟩⟩
  | 7, _ => by show vdN 6 1952541541; exact Or.inr ⟨by decide, Or.inr ⟨by decide, Or.inr ⟨by decide, Or.inr ⟨by decide, Or.inl (by decide)⟩⟩⟩⟩
  | 8, _ => by show vdN 6 7102841; exact Or.inr ⟨by decide, Or.inr ⟨by decide, Or.inr ⟨by decide, Or.inl (by decide)⟩⟩⟩
  | 9, _ => by show vdN 6 2003398757; exact Or.inr ⟨by decide, Or.inr ⟨by decide, Or.inr ⟨by decide, Or.inr ⟨by decide, Or.inl (by decide)⟩⟩⟩⟩
  | 10, _ => by show vdN 6 1717921132; exact Or.inr ⟨by decide, Or.inr ⟨by decide, Or.inr ⟨by decide, Or.inr ⟨by decide, Or.inl (by decide)⟩⟩⟩⟩
  | 11, _ => by show vdN 6 1802071148; exact Or.inr ⟨by decide, Or.inr ⟨by decide, Or.inr ⟨by decide, Or.inr ⟨by decide, Or.inl (by decide)⟩⟩⟩⟩
  | 12, _ => by show vdN 6 2003330414; exact Or.inr ⟨by decide, Or.inr ⟨by decide, Or.inr ⟨by decide, Or.inr ⟨by decide, Or.inl (by decide)⟩⟩⟩⟩
  | 13, _ => by show vdN 6 28530; exact Or.inr ⟨by decide, Or.inr ⟨by decide, Or.inl (by decide)⟩⟩
  | 14, _ => by show vdN 6 6385252; exact Or.inr ⟨by decide, Or.inr ⟨by decide, Or.inr ⟨by decide, Or.inl (by decide)⟩⟩⟩
  | 15, _ => by show vdN 6 7237492; exact Or.inr ⟨by decide, Or.inr ⟨by decide, Or.inr ⟨by decide, Or.inl (by decide)⟩⟩⟩
  | 16, _ => by show vdN 6 6384748; exact Or.inr ⟨by decide, Or.inr ⟨by decide, Or.inr ⟨by decide, Or.inl (by decide)⟩⟩⟩
  | 17, _ => by show vdN 6 24948; exact Or.inr ⟨by decide, Or.inr ⟨by decide, Or.inl (by decide)⟩⟩
  | 18, _ => by show vdN 6 6840691; exact Or.inr ⟨by decide, Or.inr ⟨by decide, Or.inr ⟨by decide, Or.inl (by decide)⟩⟩⟩
  | 19, _ => by show vdN 6 1852137842; exact Or.inr ⟨by decide, Or.inr ⟨by decide, Or.inr ⟨by decide, Or.inr ⟨by decide, Or.inl (by decide)⟩⟩⟩⟩
  | 20, _ => by show vdN 6 418431069797; exact Or.inr ⟨by decide, Or.inr ⟨by decide, Or.inr ⟨by decide, Or.inr ⟨by decide, Or.inr ⟨by decide, Or.inl (by decide)⟩⟩⟩⟩⟩
  | 21, _ => by show vdN 6 1684365668; exact Or.inr ⟨by decide, Or.inr ⟨by decide, Or.inr ⟨by decide, Or.inr ⟨by decide, Or.inl (by decide)⟩⟩⟩⟩
  | 22, _ => by show vdN 6 461414299507; exact Or.inr ⟨by decide, Or.inr ⟨by decide, Or.inr ⟨by decide, Or.inr ⟨by decide, Or.inr ⟨by decide, Or.inl (by decide)⟩⟩⟩⟩⟩
  | 23, _ => by show vdN 6 120299592184933; exact Or.inr ⟨by decide, Or.inr ⟨by decide, Or.inr ⟨by decide, Or.inr ⟨by decide, Or.inr ⟨by decide, Or.inr ⟨by decide, rfl⟩⟩⟩⟩⟩⟩
  | 24, _ => by show vdN 6 1836019556; exact Or.inr ⟨by decide, Or.inr ⟨by decide, Or.inr ⟨by decide, Or.inr ⟨by decide, Or.inl (by decide)⟩⟩⟩⟩
  | 25, _ => by show vdN 6 7170414; exact Or.inr ⟨by decide, Or.inr ⟨by decide, Or.inr ⟨by decide, Or.inl (by decide)⟩⟩⟩
  | 26, _ => by show vdN 6 7168376; exact Or.inr ⟨by decide, Or.inr ⟨by decide, Or.inr ⟨by decide, Or.inl (by decide)⟩⟩⟩
  | i + 27, h => absurd h (by omega)
theorem own_is {i w : Nat} (hi : i < 27) (hw : vdN 6 w) : ownN i = ((cvF w 6 : Nat) : Int) ↔ ownG i = w := by
  rw [own_cv ⟨i, hi⟩]
  constructor
  · intro h
    exact cvF_inj 6 _ _ (own_vdn i hi) hw (Int.ofNat_inj.mp h)
  · intro h
    rw [h]
theorem c_signAt {X : List Int} {d : Nat} {st dr rd : Int} {a s b : C3} {W : TXT} (hB : BaC W a) (j : Nat) (hj : j < W.2) : Ev X d 28 0 [Vr 114, Vi (j : Int)] [] (SHv st dr rd, ovl a s b) (fun rr hh => rr = some (Vi (sgC (W.1 j))) ∧ hh = (SHv st dr rd, ovl a s b)) := by
  have hbt := hB.1.2 j hj
  have hsc := sb_cs hbt
  have h1200 := hB.1.1
  obtain ⟨v, hv⟩ : ∃ v, v = sbS (W.1 j) := ⟨_, rfl⟩
  obtain ⟨w, hw⟩ : ∃ w, w = W.1 j := ⟨_, rfl⟩
  have e1 : a 1 j = v := (hB.2.1 j hj).trans hv.symm
  have e2 : a 114 2 = ((W.2 : Nat) : Int) := hB.2.2.2
  have hav : i_and v 255 = w := by rw [hv, hw]; exact sb_and hbt
  rw [← hv, ← hw] at hsc
  rw [← hw] at hbt ⊢
  clear hv hw
  refine Ev.ite (P := (j : Int) < 0) (k := 2) (a := 21) (b := 4) (L' := [Vr 114, Vi (j : Int)]) (S' := []) (h' := ((SHv st dr rd), (ovl a s b))) (fun _ => rfl) (fun b1 => ?_) (fun b1 => ?_)
  · exfalso; omega
  · refine Ev.steps (k := 3) (pc' := 9) (L' := [Vr 114, Vi (j : Int)]) (S' := [Vi (a 114 2), Vi (j : Int)]) (h' := ((SHv st dr rd), (ovl a s b))) (fun _ => rfl) ?_
    rw [e2]
    refine Ev.ite (P := ((W.2 : Nat) : Int) ≤ (j : Int)) (k := 1) (a := 21) (b := 12) (L' := [Vr 114, Vi (j : Int)]) (S' := []) (h' := ((SHv st dr rd), (ovl a s b))) (fun _ => rfl) (fun b9 => ?_) (fun b9 => ?_)
    · exfalso; omega
    · refine Ev.ite (P := (j : Int) < 1200) (k := 5) (a := 23) (b := 21) (L' := [Vr 114, Vi (j : Int)]) (S' := []) (h' := ((SHv st dr rd), (ovl a s b))) (fun _ => rfl) (fun b18 => ?_) (fun b18 => ?_)
      · refine Ev.steps (k := 3) (pc' := 28) (L' := [Vr 114, Vi (j : Int)]) (S' := [Vi (j : Int), Vr 1]) (h' := ((SHv st dr rd), (ovl a s b))) (fun _ => rfl) ?_
        refine Ev.bald (v := v) rfl (by decide) rfl (by omega) (by omega) (e1) ?_
        refine Ev.ite (P := v < 97) (k := 2) (a := 48) (b := 34) (L' := [Vr 114, Vi (j : Int)]) (S' := []) (h' := ((SHv st dr rd), (ovl a s b))) (fun _ => rfl) (fun b31 => ?_) (fun b31 => ?_)
        · refine Ev.steps (k := 3) (pc' := 53) (L' := [Vr 114, Vi (j : Int)]) (S' := [Vi (j : Int), Vr 1]) (h' := ((SHv st dr rd), (ovl a s b))) (fun _ => rfl) ?_
          refine Ev.bald (v := v) rfl (by decide) rfl (by omega) (by omega) (e1) ?_
          refine Ev.ite (P := v < 48) (k := 2) (a := 75) (b := 59) (L' := [Vr 114, Vi (j : Int)]) (S' := []) (h' := ((SHv st dr rd), (ovl a s b))) (fun _ => rfl) (fun b56 => ?_) (fun b56 => ?_)
          · refine Ev.steps (k := 3) (pc' := 80) (L' := [Vr 114, Vi (j : Int)]) (S' := [Vi (j : Int), Vr 1]) (h' := ((SHv st dr rd), (ovl a s b))) (fun _ => rfl) ?_
            refine Ev.bald (v := v) rfl (by decide) rfl (by omega) (by omega) (e1) ?_
            refine Ev.steps (k := 2) (pc' := 85) (L' := [Vr 114, Vi (j : Int)]) (S' := [Vi (i_and v 255)]) (h' := ((SHv st dr rd), (ovl a s b))) (fun _ => rfl) ?_
            rw [show (i_and v 255) = w from hav]
            refine Ev.fin (k := 1) (r := (some (Vi w))) (h' := ((SHv st dr rd), (ovl a s b))) (fun _ => rfl) ?_
            refine ⟨?_, rfl⟩
            unfold sgC
            first
              | (rw [if_pos (by omega)]; done)
              | (rw [if_neg (by omega), if_pos (by omega)]; done)
              | (rw [if_neg (by omega), if_neg (by omega)]; done)
          · refine Ev.steps (k := 3) (pc' := 64) (L' := [Vr 114, Vi (j : Int)]) (S' := [Vi (j : Int), Vr 1]) (h' := ((SHv st dr rd), (ovl a s b))) (fun _ => rfl) ?_
            refine Ev.bald (v := v) rfl (by decide) rfl (by omega) (by omega) (e1) ?_
            refine Ev.ite (P := 57 < v) (k := 2) (a := 75) (b := 70) (L' := [Vr 114, Vi (j : Int)]) (S' := []) (h' := ((SHv st dr rd), (ovl a s b))) (fun _ => rfl) (fun b67 => ?_) (fun b67 => ?_)
            · refine Ev.steps (k := 3) (pc' := 80) (L' := [Vr 114, Vi (j : Int)]) (S' := [Vi (j : Int), Vr 1]) (h' := ((SHv st dr rd), (ovl a s b))) (fun _ => rfl) ?_
              refine Ev.bald (v := v) rfl (by decide) rfl (by omega) (by omega) (e1) ?_
              refine Ev.steps (k := 2) (pc' := 85) (L' := [Vr 114, Vi (j : Int)]) (S' := [Vi (i_and v 255)]) (h' := ((SHv st dr rd), (ovl a s b))) (fun _ => rfl) ?_
              rw [show (i_and v 255) = w from hav]
              refine Ev.fin (k := 1) (r := (some (Vi w))) (h' := ((SHv st dr rd), (ovl a s b))) (fun _ => rfl) ?_
              refine ⟨?_, rfl⟩
              unfold sgC
              first
                | (rw [if_pos (by omega)]; done)
                | (rw [if_neg (by omega), if_pos (by omega)]; done)
                | (rw [if_neg (by omega), if_neg (by omega)]; done)
            · refine Ev.fin (k := 3) (r := (some (Vi 48))) (h' := ((SHv st dr rd), (ovl a s b))) (fun _ => rfl) ?_
              refine ⟨?_, rfl⟩
              unfold sgC
              first
                | (rw [if_pos (by omega)]; done)
                | (rw [if_neg (by omega), if_pos (by omega)]; done)
                | (rw [if_neg (by omega), if_neg (by omega)]; done)
        · refine Ev.steps (k := 3) (pc' := 39) (L' := [Vr 114, Vi (j : Int)]) (S' := [Vi (j : Int), Vr 1]) (h' := ((SHv st dr rd), (ovl a s b))) (fun _ => rfl) ?_
          refine Ev.bald (v := v) rfl (by decide) rfl (by omega) (by omega) (e1) ?_
          refine Ev.ite (P := 122 < v) (k := 2) (a := 48) (b := 45) (L' := [Vr 114, Vi (j : Int)]) (S' := []) (h' := ((SHv st dr rd), (ovl a s b))) (fun _ => rfl) (fun b42 => ?_) (fun b42 => ?_)
          · refine Ev.steps (k := 3) (pc' := 53) (L' := [Vr 114, Vi (j : Int)]) (S' := [Vi (j : Int), Vr 1]) (h' := ((SHv st dr rd), (ovl a s b))) (fun _ => rfl) ?_
            refine Ev.bald (v := v) rfl (by decide) rfl (by omega) (by omega) (e1) ?_
            refine Ev.ite (P := v < 48) (k := 2) (a := 75) (b := 59) (L' := [Vr 114, Vi (j : Int)]) (S' := []) (h' := ((SHv st dr rd), (ovl a s b))) (fun _ => rfl) (fun b56 => ?_) (fun b56 => ?_)
            · refine Ev.steps (k := 3) (pc' := 80) (L' := [Vr 114, Vi (j : Int)]) (S' := [Vi (j : Int), Vr 1]) (h' := ((SHv st dr rd), (ovl a s b))) (fun _ => rfl) ?_
              refine Ev.bald (v := v) rfl (by decide) rfl (by omega) (by omega) (e1) ?_
              refine Ev.steps (k := 2) (pc' := 85) (L' := [Vr 114, Vi (j : Int)]) (S' := [Vi (i_and v 255)]) (h' := ((SHv st dr rd), (ovl a s b))) (fun _ => rfl) ?_
              rw [show (i_and v 255) = w from hav]
              refine Ev.fin (k := 1) (r := (some (Vi w))) (h' := ((SHv st dr rd), (ovl a s b))) (fun _ => rfl) ?_
              refine ⟨?_, rfl⟩
              unfold sgC
              first
                | (rw [if_pos (by omega)]; done)
                | (rw [if_neg (by omega), if_pos (by omega)]; done)
                | (rw [if_neg (by omega), if_neg (by omega)]; done)
            · refine Ev.steps (k := 3) (pc' := 64) (L' := [Vr 114, Vi (j : Int)]) (S' := [Vi (j : Int), Vr 1]) (h' := ((SHv st dr rd), (ovl a s b))) (fun _ => rfl) ?_
              refine Ev.bald (v := v) rfl (by decide) rfl (by omega) (by omega) (e1) ?_
              refine Ev.ite (P := 57 < v) (k := 2) (a := 75) (b := 70) (L' := [Vr 114, Vi (j : Int)]) (S' := []) (h' := ((SHv st dr rd), (ovl a s b))) (fun _ => rfl) (fun b67 => ?_) (fun b67 => ?_)
              · refine Ev.steps (k := 3) (pc' := 80) (L' := [Vr 114, Vi (j : Int)]) (S' := [Vi (j : Int), Vr 1]) (h' := ((SHv st dr rd), (ovl a s b))) (fun _ => rfl) ?_
                refine Ev.bald (v := v) rfl (by decide) rfl (by omega) (by omega) (e1) ?_
                refine Ev.steps (k := 2) (pc' := 85) (L' := [Vr 114, Vi (j : Int)]) (S' := [Vi (i_and v 255)]) (h' := ((SHv st dr rd), (ovl a s b))) (fun _ => rfl) ?_
                rw [show (i_and v 255) = w from hav]
                refine Ev.fin (k := 1) (r := (some (Vi w))) (h' := ((SHv st dr rd), (ovl a s b))) (fun _ => rfl) ?_
                refine ⟨?_, rfl⟩
                unfold sgC
                first
                  | (rw [if_pos (by omega)]; done)
                  | (rw [if_neg (by omega), if_pos (by omega)]; done)
                  | (rw [if_neg (by omega), if_neg (by omega)]; done)
              · refine Ev.fin (k := 3) (r := (some (Vi 48))) (h' := ((SHv st dr rd), (ovl a s b))) (fun _ => rfl) ?_
                refine ⟨?_, rfl⟩
                unfold sgC
                first
                  | (rw [if_pos (by omega)]; done)
                  | (rw [if_neg (by omega), if_pos (by omega)]; done)
                  | (rw [if_neg (by omega), if_neg (by omega)]; done)
          · refine Ev.fin (k := 2) (r := (some (Vi 97))) (h' := ((SHv st dr rd), (ovl a s b))) (fun _ => rfl) ?_
            refine ⟨?_, rfl⟩
            unfold sgC
            first
              | (rw [if_pos (by omega)]; done)
              | (rw [if_neg (by omega), if_pos (by omega)]; done)
              | (rw [if_neg (by omega), if_neg (by omega)]; done)
      · exfalso; omega
theorem c_signAt_no {X : List Int} {d : Nat} {st dr rd : Int} {a s b : C3} {W : TXT} (hB : BaC W a) (i : Int) (hi : i < 0 ∨ ((W.2 : Nat) : Int) ≤ i) : Ev X d 28 0 [Vr 114, Vi i] [] (SHv st dr rd, ovl a s b) (fun rr hh => rr = some (Vi (-1)) ∧ hh = (SHv st dr rd, ovl a s b)) := by
  have e2 : a 114 2 = ((W.2 : Nat) : Int) := hB.2.2.2
  refine Ev.ite (P := i < 0) (k := 2) (a := 21) (b := 4) (L' := [Vr 114, Vi i]) (S' := []) (h' := ((SHv st dr rd), (ovl a s b))) (fun _ => rfl) (fun b1 => ?_) (fun b1 => ?_)
  · refine Ev.fin (k := 2) (r := (some (Vi (-1)))) (h' := ((SHv st dr rd), (ovl a s b))) (fun _ => rfl) ?_
    exact ⟨rfl, rfl⟩
  · refine Ev.steps (k := 3) (pc' := 9) (L' := [Vr 114, Vi i]) (S' := [Vi (a 114 2), Vi i]) (h' := ((SHv st dr rd), (ovl a s b))) (fun _ => rfl) ?_
    rw [e2]
    refine Ev.ite (P := ((W.2 : Nat) : Int) ≤ i) (k := 1) (a := 21) (b := 12) (L' := [Vr 114, Vi i]) (S' := []) (h' := ((SHv st dr rd), (ovl a s b))) (fun _ => rfl) (fun b9 => ?_) (fun b9 => ?_)
    · refine Ev.fin (k := 2) (r := (some (Vi (-1)))) (h' := ((SHv st dr rd), (ovl a s b))) (fun _ => rfl) ?_
      exact ⟨rfl, rfl⟩
    · exfalso; omega
theorem c_fail {X : List Int} {d : Nat} {st dr rd : Int} {a s b : C3} (e0 : a 114 9 = 0) (k p : Int) : Ev X d 29 0 [Vr 114, Vi k, Vi p] [] (SHv st dr rd, ovl a s b) (fun rr hh => rr = none ∧ hh = (SHv st dr rd, ovl (updC (updC (updC a 114 9 k) 114 10 p) 114 5 303) s b)) := by
  refine Ev.steps (k := 2) (pc' := 4) (L' := [Vr 114, Vi k, Vi p]) (S' := [Vi (a 114 9)]) (h' := ((SHv st dr rd), (ovl a s b))) (fun _ => rfl) ?_
  rw [e0]
  refine Ev.steps (k := 3) (pc' := 9) (L' := [Vr 114, Vi k, Vi p]) (S' := [Vi k, Vr 114]) (h' := ((SHv st dr rd), (ovl a s b))) (fun _ => rfl) ?_
  refine Ev.putf (c' := (ovl (updC a 114 9 k) s b)) rfl (by decide) rfl rfl rfl (ovl_wc (by decide)) ?_
  refine Ev.steps (k := 2) (pc' := 14) (L' := [Vr 114, Vi k, Vi p]) (S' := [Vi p, Vr 114]) (h' := ((SHv st dr rd), (ovl (updC a 114 9 k) s b))) (fun _ => rfl) ?_
  refine Ev.putf (c' := (ovl (updC (updC a 114 9 k) 114 10 p) s b)) rfl (by decide) rfl rfl rfl (ovl_wc (by decide)) ?_
  refine Ev.steps (k := 2) (pc' := 21) (L' := [Vr 114, Vi k, Vi p]) (S' := [Vi 303, Vr 114]) (h' := ((SHv st dr rd), (ovl (updC (updC a 114 9 k) 114 10 p) s b))) (fun _ => rfl) ?_
  refine Ev.putf (c' := (ovl (updC (updC (updC a 114 9 k) 114 10 p) 114 5 303) s b)) rfl (by decide) rfl rfl rfl (ovl_wc (by decide)) ?_
  refine Ev.fin (k := 1) (r := none) (h' := ((SHv st dr rd), (ovl (updC (updC (updC a 114 9 k) 114 10 p) 114 5 303) s b))) (fun _ => rfl) ?_
  exact ⟨rfl, rfl⟩
theorem c_fail_br {X : List Int} {d : Nat} {st dr rd : Int} {a s b : C3} {e : PF} (hB : BrC e a) (k p : Int) : Ev X d 29 0 [Vr 114, Vi k, Vi p] [] (SHv st dr rd, ovl a s b) (fun rr hh => rr = none ∧ hh = (SHv st dr rd, ovl (updC a 114 5 303) s b)) := by
  have e9 : a 114 9 = e.1 := hB.2.1
  have h0 := hB.1
  refine Ev.steps (k := 2) (pc' := 4) (L' := [Vr 114, Vi k, Vi p]) (S' := [Vi (a 114 9)]) (h' := ((SHv st dr rd), (ovl a s b))) (fun _ => rfl) ?_
  rw [e9]
  refine Ev.ite (P := e.1 ≠ 0) (k := 1) (a := 17) (b := 7) (L' := [Vr 114, Vi k, Vi p]) (S' := []) (h' := ((SHv st dr rd), (ovl a s b))) (fun _ => rfl) (fun b4 => ?_) (fun b4 => ?_)
  · refine Ev.steps (k := 2) (pc' := 21) (L' := [Vr 114, Vi k, Vi p]) (S' := [Vi 303, Vr 114]) (h' := ((SHv st dr rd), (ovl a s b))) (fun _ => rfl) ?_
    refine Ev.putf (c' := (ovl (updC a 114 5 303) s b)) rfl (by decide) rfl rfl rfl (ovl_wc (by decide)) ?_
    refine Ev.fin (k := 1) (r := none) (h' := ((SHv st dr rd), (ovl (updC a 114 5 303) s b))) (fun _ => rfl) ?_
    exact ⟨rfl, rfl⟩
  · exact absurd h0 b4
theorem c_wordToken_l {X : List Int} {d : Nat} {st dr rd : Int} {a s b : C3} {W : TXT} (hB : BaC W a) (w : Nat) (hw : vdN 6 w) (e7 : a 114 7 = ((cvF w 6 : Nat) : Int)) (i : Nat) (hi : i ≤ 27) (hm : ∀ j, j < i → ownG j ≠ w) : Ev X d 30 2 [Vr 114, Vi (i : Int)] [] (SHv st dr rd, ovl a s b) (fun rr hh => rr = some (Vi ((tcW w : Nat) : Int)) ∧ hh = (SHv st dr rd, ovl a s b)) := by
  induction hk : (27 - i) using Nat.strongRecOn generalizing i with
  | ind k ih =>
    have hO : OwnC a := hB.2.2.1
    refine Ev.ite (P := 27 ≤ (i : Int)) (k := 3) (a := 33) (b := 8) (L' := [Vr 114, Vi (i : Int)]) (S' := []) (h' := ((SHv st dr rd), (ovl a s b))) (fun _ => rfl) (fun b5 => ?_) (fun b5 => ?_)
    · refine Ev.fin (k := 2) (r := (some (Vi 300))) (h' := ((SHv st dr rd), (ovl a s b))) (fun _ => rfl) ?_
      refine ⟨?_, rfl⟩
      obtain rfl : i = 27 := by omega
      have e : lst (fun i => decide (ownG i = w)) 27 = 27 := lst_no (fun j hj => decide_eq_false (hm j hj))
      unfold tcW
      rw [e, if_neg (by omega)]
      rfl
    · refine Ev.steps (k := 3) (pc' := 13) (L' := [Vr 114, Vi (i : Int)]) (S' := [Vi (i : Int), Vr 115]) (h' := ((SHv st dr rd), (ovl a s b))) (fun _ => rfl) ?_
      refine Ev.iald (v := (ownN i)) rfl (by decide) rfl (by omega) (by omega) (hO i (by omega)) ?_
      refine Ev.steps (k := 2) (pc' := 18) (L' := [Vr 114, Vi (i : Int)]) (S' := [Vi (a 114 7), Vi (ownN i)]) (h' := ((SHv st dr rd), (ovl a s b))) (fun _ => rfl) ?_
      rw [e7]
      refine Ev.ite (P := (ownN i) ≠ ((cvF w 6 : Nat) : Int)) (k := 1) (a := 27) (b := 21) (L' := [Vr 114, Vi (i : Int)]) (S' := []) (h' := ((SHv st dr rd), (ovl a s b))) (fun _ => rfl) (fun b18 => ?_) (fun b18 => ?_)
      · refine Ev.steps (k := 1) (pc' := 30) (L' := [Vr 114, Vi (w32 ((i : Int) + 1))]) (S' := []) (h' := ((SHv st dr rd), (ovl a s b))) (fun _ => rfl) ?_
        rw [show (w32 ((i : Int) + 1)) = ((i : Int) + 1) from w32_id (by unfold R32; omega)]
        refine Ev.steps (k := 1) (pc' := 2) (L' := [Vr 114, Vi ((i : Int) + 1)]) (S' := []) (h' := ((SHv st dr rd), (ovl a s b))) (fun _ => rfl) ?_
        refine ih _ (by omega) (i + 1) (by omega) (fun j hj => ?_) rfl
        by_cases h : j = i
        · rw [h]
          exact fun g => b18 ((own_is (by omega) hw).mpr g)
        · exact hm j (by omega)
      · refine Ev.steps (k := 3) (pc' := 26) (L' := [Vr 114, Vi (i : Int)]) (S' := [Vi (w32 (256 + (i : Int)))]) (h' := ((SHv st dr rd), (ovl a s b))) (fun _ => rfl) ?_
        rw [show (w32 (256 + (i : Int))) = (256 + (i : Int)) from w32_id (by unfold R32; omega)]
        refine Ev.fin (k := 1) (r := (some (Vi (256 + (i : Int))))) (h' := ((SHv st dr rd), (ovl a s b))) (fun _ => rfl) ?_
        refine ⟨?_, rfl⟩
        have h1 := (own_is (i := i) (by omega) hw).mp (Classical.not_not.mp b18)
        have e : lst (fun i => decide (ownG i = w)) 27 = i := lst_eq (decide_eq_true h1) (fun j hj => decide_eq_false (hm j hj)) (by omega)
        unfold tcW
        rw [e, if_pos (by omega)]
        exact congrArg (fun x => some (Vi x)) (by omega)
theorem c_wordToken {X : List Int} {d : Nat} {st dr rd : Int} {a s b : C3} {W : TXT} (hB : BaC W a) (w : Nat) (hw : vdN 6 w) (e7 : a 114 7 = ((cvF w 6 : Nat) : Int)) : Ev X d 30 0 [Vr 114, Vx] [] (SHv st dr rd, ovl a s b) (fun rr hh => rr = some (Vi ((tcW w : Nat) : Int)) ∧ hh = (SHv st dr rd, ovl a s b)) := by
  refine Ev.steps (k := 2) (pc' := 2) (L' := [Vr 114, Vi 0]) (S' := []) (h' := ((SHv st dr rd), (ovl a s b))) (fun _ => rfl) ?_
  exact c_wordToken_l hB w hw e7 0 (by omega) (fun j hj => absurd hj (by omega))
