/-! THE REFERENCE READS: a statement -/
theorem RqM.fn {S : STY} {b b' : SC} {j c : Nat} (h : RqM S b j c) (g : FrN b b') : RqM S b' j c := by
  unfold RqM SegQ at h ⊢
  rw [g.row (o := 168) (by omega), g.row (o := 169) (by omega), g.row (o := 170) (by omega), g.row (o := 171) (by omega), g.row (o := 172) (by omega), g.row (o := 173) (by omega), g.row (o := 174) (by omega), g.row (o := 175) (by omega), g.row (o := 176) (by omega), g.row (o := 177) (by omega), g.row (o := 178) (by omega), g.row (o := 179) (by omega), g.row (o := 180) (by omega), g.row (o := 181) (by omega), g.row (o := 182) (by omega), g.row (o := 183) (by omega), g.row (o := 184) (by omega), g.row (o := 185) (by omega), g.row (o := 186) (by omega), g.row (o := 187) (by omega), g.row (o := 188) (by omega), g.row (o := 189) (by omega), g.row (o := 190) (by omega), g.row (o := 191) (by omega), g.row (o := 192) (by omega), g 166 38 (by omega), g 166 39 (by omega)]
  exact h
theorem FrP.bd {W : TXT} {j : Nat} {b b' b'' : SC} {e : PF} (h : FrJ j b b') (g : BdM W b' e b'') : BjM W j b e b'' := ⟨h.fn g.1, g.2⟩
theorem stm_mk {W : TXT} {S : STY} {p k : Nat} {mx : Int} {Y : Except PF (STY × Nat)} (hk : srtT (tC W p) = k) (h6 : k ≠ 6) (hm : mstT k = mx) (hb : bodT W S p = Y) : stmT W S p = bnX (if mx ≤ S.1 0 k then .error (fltT W 5 p) else Y) (fun r => bnX (expT W 59 r.2) (fun p1 => .ok (r.1, p1))) := by
  unfold stmT
  rw [hk, if_neg h6, hm, hb]
  by_cases h : mx ≤ S.1 0 k
  · rw [if_pos h, if_pos h, bnX_e]
  · rw [if_neg h, if_neg h]
theorem m_st256 {X : List Int} {d : Nat} {st dr rd : Int} {a s b : C3} {W : TXT} {p : Nat} (hk : TkM W p b) {S : STY} (hW : WfY S) (hD : WfD S) {j c : Nat} (hR : RqM S b j c) (hcp : c ≤ p) (hct : tC W p = 256) : Ev X (d + 7) 161 0 [Vr 166, Vx] [] (SHv st dr rd, ovl a s b) (fun rr hh => rr = none ∧ ∃ b' : C3, hh = (SHv st dr rd, ovl a s b') ∧ ResC (stmT W S p) (fun r => TkM W r.2 b' ∧ (∃ c', RqM r.1 b' j c' ∧ c' ≤ r.2) ∧ FrJ j b b') (fun e => BjM W j b e b')) := by
  have hT := hk.1.1
  have hpW := hk.2.2.2.2.2.2.1
  have hp3 := hk.2.2.2.2.2.1
  have hsr : srtT (tC W p) = 0 := by rw [hct]; rfl
  have heq := stm_mk (W := W) (S := S) (p := p) (k := 0) (mx := 8) (Y := rooT W S p) hsr (by decide) rfl (by unfold bodT; rw [hsr]; rfl)
  refine Ev.call (k := 2) (pc1 := 4) (L1 := [Vr 166, Vx]) (S1 := [Vl 26479, Vr 166]) (h1 := ((SHv st dr rd), (ovl a s b))) (m' := 162) (as := [Vr 166, Vl 26479]) (S' := []) (L0 := [Vr 166, Vl 26479, Vx]) (fun _ => rfl) rfl rfl rfl rfl rfl rfl (k_isWord (b := b) hk 6 (by decide) 26479 (by decide)) (fun r h' hq => ?_)
  obtain ⟨rfl, rfl⟩ := hq
  rw [if_neg (by omega)]
  show Ev X _ _ 7 [Vr 166, Vx] [Vi 0] ((SHv st dr rd), (ovl a s b)) _
  refine Ev.call (k := 3) (pc1 := 18) (L1 := [Vr 166, Vx]) (S1 := [Vl 1952541541, Vr 166]) (h1 := ((SHv st dr rd), (ovl a s b))) (m' := 162) (as := [Vr 166, Vl 1952541541]) (S' := []) (L0 := [Vr 166, Vl 1952541541, Vx]) (fun _ => rfl) rfl rfl rfl rfl rfl rfl (k_isWord (b := b) hk 7 (by decide) 1952541541 (by decide)) (fun r h' hq => ?_)
  obtain ⟨rfl, rfl⟩ := hq
  rw [if_neg (by omega)]
  show Ev X _ _ 21 [Vr 166, Vx] [Vi 0] ((SHv st dr rd), (ovl a s b)) _
  refine Ev.call (k := 3) (pc1 := 32) (L1 := [Vr 166, Vx]) (S1 := [Vl 7102841, Vr 166]) (h1 := ((SHv st dr rd), (ovl a s b))) (m' := 162) (as := [Vr 166, Vl 7102841]) (S' := []) (L0 := [Vr 166, Vl 7102841, Vx]) (fun _ => rfl) rfl rfl rfl rfl rfl rfl (k_isWord (b := b) hk 8 (by decide) 7102841 (by decide)) (fun r h' hq => ?_)
  obtain ⟨rfl, rfl⟩ := hq
  rw [if_neg (by omega)]
  show Ev X _ _ 35 [Vr 166, Vx] [Vi 0] ((SHv st dr rd), (ovl a s b)) _
  refine Ev.call (k := 3) (pc1 := 46) (L1 := [Vr 166, Vx]) (S1 := [Vl 2003398757, Vr 166]) (h1 := ((SHv st dr rd), (ovl a s b))) (m' := 162) (as := [Vr 166, Vl 2003398757]) (S' := []) (L0 := [Vr 166, Vl 2003398757, Vx]) (fun _ => rfl) rfl rfl rfl rfl rfl rfl (k_isWord (b := b) hk 9 (by decide) 2003398757 (by decide)) (fun r h' hq => ?_)
  obtain ⟨rfl, rfl⟩ := hq
  rw [if_neg (by omega)]
  show Ev X _ _ 49 [Vr 166, Vx] [Vi 0] ((SHv st dr rd), (ovl a s b)) _
  refine Ev.call (k := 3) (pc1 := 60) (L1 := [Vr 166, Vx]) (S1 := [Vl 1717921132, Vr 166]) (h1 := ((SHv st dr rd), (ovl a s b))) (m' := 162) (as := [Vr 166, Vl 1717921132]) (S' := []) (L0 := [Vr 166, Vl 1717921132, Vx]) (fun _ => rfl) rfl rfl rfl rfl rfl rfl (k_isWord (b := b) hk 10 (by decide) 1717921132 (by decide)) (fun r h' hq => ?_)
  obtain ⟨rfl, rfl⟩ := hq
  rw [if_neg (by omega)]
  show Ev X _ _ 63 [Vr 166, Vx] [Vi 0] ((SHv st dr rd), (ovl a s b)) _
  refine Ev.call (k := 3) (pc1 := 74) (L1 := [Vr 166, Vx]) (S1 := [Vl 1802071148, Vr 166]) (h1 := ((SHv st dr rd), (ovl a s b))) (m' := 162) (as := [Vr 166, Vl 1802071148]) (S' := []) (L0 := [Vr 166, Vl 1802071148, Vx]) (fun _ => rfl) rfl rfl rfl rfl rfl rfl (k_isWord (b := b) hk 11 (by decide) 1802071148 (by decide)) (fun r h' hq => ?_)
  obtain ⟨rfl, rfl⟩ := hq
  rw [if_neg (by omega)]
  show Ev X _ _ 77 [Vr 166, Vx] [Vi 0] ((SHv st dr rd), (ovl a s b)) _
  refine Ev.call (k := 8) (pc1 := 103) (L1 := [Vr 166, Vi (-1)]) (S1 := [Vl 1919905645, Vr 166]) (h1 := ((SHv st dr rd), (ovl a s b))) (m' := 162) (as := [Vr 166, Vl 1919905645]) (S' := []) (L0 := [Vr 166, Vl 1919905645, Vx]) (fun _ => rfl) rfl rfl rfl rfl rfl rfl (k_isWord (b := b) hk 0 (by decide) 1919905645 (by decide)) (fun r h' hq => ?_)
  obtain ⟨rfl, rfl⟩ := hq
  rw [if_pos (by omega)]
  show Ev X _ _ 106 [Vr 166, Vi (-1)] [Vi 1] ((SHv st dr rd), (ovl a s b)) _
  refine Ev.call (k := 2) (pc1 := 110) (L1 := [Vr 166, Vi (-1)]) (S1 := [Vr 166]) (h1 := ((SHv st dr rd), (ovl a s b))) (m' := 182) (as := [Vr 166]) (S' := []) (L0 := [Vr 166, Vx]) (fun _ => rfl) rfl rfl rfl rfl rfl rfl (m_room hk hW hD hR hW.1.2 hR.2.1.1 hW.1.1) (fun r h' hq => ?_)
  obtain ⟨rfl, b1, rfl, hq⟩ := hq
  rcases hq with ⟨r1, hx1, hk1, hR1, hF1⟩ | ⟨e1, hx1, hb1⟩
  · show Ev X _ _ 113 [Vr 166, Vi (-1)] [] ((SHv st dr rd), (ovl a s b1)) _
    refine Ev.steps (k := 3) (pc' := 197) (L' := [Vr 166, Vi (-1)]) (S' := [Vi (b1 166 8)]) (h' := ((SHv st dr rd), (ovl a s b1))) (fun _ => rfl) ?_
    rw [hk1.2.1]
    refine Ev.call (k := 3) (pc1 := 203) (L1 := [Vr 166, Vi (-1)]) (S1 := [Vi 59, Vr 166]) (h1 := ((SHv st dr rd), (ovl a s b1))) (m' := 190) (as := [Vr 166, Vi 59]) (S' := []) (L0 := [Vr 166, Vi 59]) (fun _ => rfl) rfl rfl rfl rfl rfl rfl (m_mustS hk1 59 (by decide)) (fun r h' hq => ?_)
    obtain ⟨rfl, b2, rfl, hq⟩ := hq
    rcases hq with ⟨p2, hx2, ho2⟩ | ⟨e2, hx2, hb2⟩
    · show Ev X _ _ 206 [Vr 166, Vi (-1)] [] ((SHv st dr rd), (ovl a s b2)) _
      refine Ev.fin (k := 1) (r := none) (h' := ((SHv st dr rd), (ovl a s b2))) (fun _ => rfl) ?_
      have hsp : stmT W S p = .ok (r1.1, p2) := by rw [heq, hx1, bnX_o, hx2, bnX_o]
      exact ⟨rfl, b2, rfl, Or.inl ⟨(r1.1, p2), hsp, ho2.2, ⟨c, hR1.fn ho2.1, by dsimp only; have h1 := (stm_wf hT hW hD hpW hp3 hsp).2.2.1; dsimp only at h1; omega⟩, hF1.fn ho2.1⟩⟩
    · show Ev X _ _ 206 [Vr 166, Vi (-1)] [] ((SHv st dr rd), (ovl a s b2)) _
      refine Ev.fin (k := 1) (r := none) (h' := ((SHv st dr rd), (ovl a s b2))) (fun _ => rfl) ?_
      exact ⟨rfl, b2, rfl, Or.inr ⟨e2, (by rw [heq, hx1, bnX_o, hx2, bnX_e]), FrP.bd hF1 hb2⟩⟩
  · show Ev X _ _ 113 [Vr 166, Vi (-1)] [] ((SHv st dr rd), (ovl a s b1)) _
    refine Ev.steps (k := 3) (pc' := 197) (L' := [Vr 166, Vi (-1)]) (S' := [Vi (b1 166 8)]) (h' := ((SHv st dr rd), (ovl a s b1))) (fun _ => rfl) ?_
    rw [hb1.2.2.2.1]
    refine Ev.ite (P := e1.1 ≠ 0) (k := 1) (a := 206) (b := 200) (L' := [Vr 166, Vi (-1)]) (S' := []) (h' := ((SHv st dr rd), (ovl a s b1))) (fun _ => rfl) (fun b197 => ?_) (fun b197 => ?_)
    · refine Ev.fin (k := 1) (r := none) (h' := ((SHv st dr rd), (ovl a s b1))) (fun _ => rfl) ?_
      exact ⟨rfl, b1, rfl, Or.inr ⟨e1, (by rw [heq, hx1, bnX_e]), hb1⟩⟩
    · have := hb1.2.2.1; omega
theorem m_st258 {X : List Int} {d : Nat} {st dr rd : Int} {a s b : C3} {W : TXT} {p : Nat} (hk : TkM W p b) {S : STY} (hW : WfY S) (hD : WfD S) {j c : Nat} (hR : RqM S b j c) (hcp : c ≤ p) (hct : tC W p = 258) : Ev X (d + 7) 161 0 [Vr 166, Vx] [] (SHv st dr rd, ovl a s b) (fun rr hh => rr = none ∧ ∃ b' : C3, hh = (SHv st dr rd, ovl a s b') ∧ ResC (stmT W S p) (fun r => TkM W r.2 b' ∧ (∃ c', RqM r.1 b' j c' ∧ c' ≤ r.2) ∧ FrJ j b b') (fun e => BjM W j b e b')) := by
  have hT := hk.1.1
  have hpW := hk.2.2.2.2.2.2.1
  have hp3 := hk.2.2.2.2.2.1
  have hsr : srtT (tC W p) = 2 := by rw [hct]; rfl
  have heq := stm_mk (W := W) (S := S) (p := p) (k := 2) (mx := 8) (Y := whoT W S p) hsr (by decide) rfl (by unfold bodT; rw [hsr]; rfl)
  refine Ev.call (k := 2) (pc1 := 4) (L1 := [Vr 166, Vx]) (S1 := [Vl 26479, Vr 166]) (h1 := ((SHv st dr rd), (ovl a s b))) (m' := 162) (as := [Vr 166, Vl 26479]) (S' := []) (L0 := [Vr 166, Vl 26479, Vx]) (fun _ => rfl) rfl rfl rfl rfl rfl rfl (k_isWord (b := b) hk 6 (by decide) 26479 (by decide)) (fun r h' hq => ?_)
  obtain ⟨rfl, rfl⟩ := hq
  rw [if_neg (by omega)]
  show Ev X _ _ 7 [Vr 166, Vx] [Vi 0] ((SHv st dr rd), (ovl a s b)) _
  refine Ev.call (k := 3) (pc1 := 18) (L1 := [Vr 166, Vx]) (S1 := [Vl 1952541541, Vr 166]) (h1 := ((SHv st dr rd), (ovl a s b))) (m' := 162) (as := [Vr 166, Vl 1952541541]) (S' := []) (L0 := [Vr 166, Vl 1952541541, Vx]) (fun _ => rfl) rfl rfl rfl rfl rfl rfl (k_isWord (b := b) hk 7 (by decide) 1952541541 (by decide)) (fun r h' hq => ?_)
  obtain ⟨rfl, rfl⟩ := hq
  rw [if_neg (by omega)]
  show Ev X _ _ 21 [Vr 166, Vx] [Vi 0] ((SHv st dr rd), (ovl a s b)) _
  refine Ev.call (k := 3) (pc1 := 32) (L1 := [Vr 166, Vx]) (S1 := [Vl 7102841, Vr 166]) (h1 := ((SHv st dr rd), (ovl a s b))) (m' := 162) (as := [Vr 166, Vl 7102841]) (S' := []) (L0 := [Vr 166, Vl 7102841, Vx]) (fun _ => rfl) rfl rfl rfl rfl rfl rfl (k_isWord (b := b) hk 8 (by decide) 7102841 (by decide)) (fun r h' hq => ?_)
  obtain ⟨rfl, rfl⟩ := hq
  rw [if_neg (by omega)]
  show Ev X _ _ 35 [Vr 166, Vx] [Vi 0] ((SHv st dr rd), (ovl a s b)) _
  refine Ev.call (k := 3) (pc1 := 46) (L1 := [Vr 166, Vx]) (S1 := [Vl 2003398757, Vr 166]) (h1 := ((SHv st dr rd), (ovl a s b))) (m' := 162) (as := [Vr 166, Vl 2003398757]) (S' := []) (L0 := [Vr 166, Vl 2003398757, Vx]) (fun _ => rfl) rfl rfl rfl rfl rfl rfl (k_isWord (b := b) hk 9 (by decide) 2003398757 (by decide)) (fun r h' hq => ?_)
  obtain ⟨rfl, rfl⟩ := hq
  rw [if_neg (by omega)]
  show Ev X _ _ 49 [Vr 166, Vx] [Vi 0] ((SHv st dr rd), (ovl a s b)) _
  refine Ev.call (k := 3) (pc1 := 60) (L1 := [Vr 166, Vx]) (S1 := [Vl 1717921132, Vr 166]) (h1 := ((SHv st dr rd), (ovl a s b))) (m' := 162) (as := [Vr 166, Vl 1717921132]) (S' := []) (L0 := [Vr 166, Vl 1717921132, Vx]) (fun _ => rfl) rfl rfl rfl rfl rfl rfl (k_isWord (b := b) hk 10 (by decide) 1717921132 (by decide)) (fun r h' hq => ?_)
  obtain ⟨rfl, rfl⟩ := hq
  rw [if_neg (by omega)]
  show Ev X _ _ 63 [Vr 166, Vx] [Vi 0] ((SHv st dr rd), (ovl a s b)) _
  refine Ev.call (k := 3) (pc1 := 74) (L1 := [Vr 166, Vx]) (S1 := [Vl 1802071148, Vr 166]) (h1 := ((SHv st dr rd), (ovl a s b))) (m' := 162) (as := [Vr 166, Vl 1802071148]) (S' := []) (L0 := [Vr 166, Vl 1802071148, Vx]) (fun _ => rfl) rfl rfl rfl rfl rfl rfl (k_isWord (b := b) hk 11 (by decide) 1802071148 (by decide)) (fun r h' hq => ?_)
  obtain ⟨rfl, rfl⟩ := hq
  rw [if_neg (by omega)]
  show Ev X _ _ 77 [Vr 166, Vx] [Vi 0] ((SHv st dr rd), (ovl a s b)) _
  refine Ev.call (k := 8) (pc1 := 103) (L1 := [Vr 166, Vi (-1)]) (S1 := [Vl 1919905645, Vr 166]) (h1 := ((SHv st dr rd), (ovl a s b))) (m' := 162) (as := [Vr 166, Vl 1919905645]) (S' := []) (L0 := [Vr 166, Vl 1919905645, Vx]) (fun _ => rfl) rfl rfl rfl rfl rfl rfl (k_isWord (b := b) hk 0 (by decide) 1919905645 (by decide)) (fun r h' hq => ?_)
  obtain ⟨rfl, rfl⟩ := hq
  rw [if_neg (by omega)]
  show Ev X _ _ 106 [Vr 166, Vi (-1)] [Vi 0] ((SHv st dr rd), (ovl a s b)) _
  refine Ev.call (k := 3) (pc1 := 120) (L1 := [Vr 166, Vi (-1)]) (S1 := [Vl 1685024626, Vr 166]) (h1 := ((SHv st dr rd), (ovl a s b))) (m' := 162) (as := [Vr 166, Vl 1685024626]) (S' := []) (L0 := [Vr 166, Vl 1685024626, Vx]) (fun _ => rfl) rfl rfl rfl rfl rfl rfl (k_isWord (b := b) hk 1 (by decide) 1685024626 (by decide)) (fun r h' hq => ?_)
  obtain ⟨rfl, rfl⟩ := hq
  rw [if_neg (by omega)]
  show Ev X _ _ 123 [Vr 166, Vi (-1)] [Vi 0] ((SHv st dr rd), (ovl a s b)) _
  refine Ev.call (k := 3) (pc1 := 137) (L1 := [Vr 166, Vi (-1)]) (S1 := [Vl 7825519, Vr 166]) (h1 := ((SHv st dr rd), (ovl a s b))) (m' := 162) (as := [Vr 166, Vl 7825519]) (S' := []) (L0 := [Vr 166, Vl 7825519, Vx]) (fun _ => rfl) rfl rfl rfl rfl rfl rfl (k_isWord (b := b) hk 2 (by decide) 7825519 (by decide)) (fun r h' hq => ?_)
  obtain ⟨rfl, rfl⟩ := hq
  rw [if_pos (by omega)]
  show Ev X _ _ 140 [Vr 166, Vi (-1)] [Vi 1] ((SHv st dr rd), (ovl a s b)) _
  refine Ev.call (k := 2) (pc1 := 144) (L1 := [Vr 166, Vi (-1)]) (S1 := [Vr 166]) (h1 := ((SHv st dr rd), (ovl a s b))) (m' := 185) (as := [Vr 166]) (S' := []) (L0 := [Vr 166, Vx]) (fun _ => rfl) rfl rfl rfl rfl rfl rfl (m_who hk hW hD hR hW.2.2.1.2 hR.2.1.2.2.1 hW.2.2.1.1) (fun r h' hq => ?_)
  obtain ⟨rfl, b1, rfl, hq⟩ := hq
  rcases hq with ⟨r1, hx1, hk1, hR1, hF1⟩ | ⟨e1, hx1, hb1⟩
  · show Ev X _ _ 147 [Vr 166, Vi (-1)] [] ((SHv st dr rd), (ovl a s b1)) _
    refine Ev.steps (k := 3) (pc' := 197) (L' := [Vr 166, Vi (-1)]) (S' := [Vi (b1 166 8)]) (h' := ((SHv st dr rd), (ovl a s b1))) (fun _ => rfl) ?_
    rw [hk1.2.1]
    refine Ev.call (k := 3) (pc1 := 203) (L1 := [Vr 166, Vi (-1)]) (S1 := [Vi 59, Vr 166]) (h1 := ((SHv st dr rd), (ovl a s b1))) (m' := 190) (as := [Vr 166, Vi 59]) (S' := []) (L0 := [Vr 166, Vi 59]) (fun _ => rfl) rfl rfl rfl rfl rfl rfl (m_mustS hk1 59 (by decide)) (fun r h' hq => ?_)
    obtain ⟨rfl, b2, rfl, hq⟩ := hq
    rcases hq with ⟨p2, hx2, ho2⟩ | ⟨e2, hx2, hb2⟩
    · show Ev X _ _ 206 [Vr 166, Vi (-1)] [] ((SHv st dr rd), (ovl a s b2)) _
      refine Ev.fin (k := 1) (r := none) (h' := ((SHv st dr rd), (ovl a s b2))) (fun _ => rfl) ?_
      have hsp : stmT W S p = .ok (r1.1, p2) := by rw [heq, hx1, bnX_o, hx2, bnX_o]
      exact ⟨rfl, b2, rfl, Or.inl ⟨(r1.1, p2), hsp, ho2.2, ⟨c, hR1.fn ho2.1, by dsimp only; have h1 := (stm_wf hT hW hD hpW hp3 hsp).2.2.1; dsimp only at h1; omega⟩, hF1.fn ho2.1⟩⟩
    · show Ev X _ _ 206 [Vr 166, Vi (-1)] [] ((SHv st dr rd), (ovl a s b2)) _
      refine Ev.fin (k := 1) (r := none) (h' := ((SHv st dr rd), (ovl a s b2))) (fun _ => rfl) ?_
      exact ⟨rfl, b2, rfl, Or.inr ⟨e2, (by rw [heq, hx1, bnX_o, hx2, bnX_e]), FrP.bd hF1 hb2⟩⟩
  · show Ev X _ _ 147 [Vr 166, Vi (-1)] [] ((SHv st dr rd), (ovl a s b1)) _
    refine Ev.steps (k := 3) (pc' := 197) (L' := [Vr 166, Vi (-1)]) (S' := [Vi (b1 166 8)]) (h' := ((SHv st dr rd), (ovl a s b1))) (fun _ => rfl) ?_
    rw [hb1.2.2.2.1]
    refine Ev.ite (P := e1.1 ≠ 0) (k := 1) (a := 206) (b := 200) (L' := [Vr 166, Vi (-1)]) (S' := []) (h' := ((SHv st dr rd), (ovl a s b1))) (fun _ => rfl) (fun b197 => ?_) (fun b197 => ?_)
    · refine Ev.fin (k := 1) (r := none) (h' := ((SHv st dr rd), (ovl a s b1))) (fun _ => rfl) ?_
      exact ⟨rfl, b1, rfl, Or.inr ⟨e1, (by rw [heq, hx1, bnX_e]), hb1⟩⟩
    · have := hb1.2.2.1; omega
theorem m_st260 {X : List Int} {d : Nat} {st dr rd : Int} {a s b : C3} {W : TXT} {p : Nat} (hk : TkM W p b) {S : STY} (hW : WfY S) (hD : WfD S) {j c : Nat} (hR : RqM S b j c) (hcp : c ≤ p) (hct : tC W p = 260) : Ev X (d + 7) 161 0 [Vr 166, Vx] [] (SHv st dr rd, ovl a s b) (fun rr hh => rr = none ∧ ∃ b' : C3, hh = (SHv st dr rd, ovl a s b') ∧ ResC (stmT W S p) (fun r => TkM W r.2 b' ∧ (∃ c', RqM r.1 b' j c' ∧ c' ≤ r.2) ∧ FrJ j b b') (fun e => BjM W j b e b')) := by
  have hT := hk.1.1
  have hpW := hk.2.2.2.2.2.2.1
  have hp3 := hk.2.2.2.2.2.1
  have hsr : srtT (tC W p) = 3 := by rw [hct]; rfl
  have heq := stm_mk (W := W) (S := S) (p := p) (k := 3) (mx := 8) (Y := thiT W S p) hsr (by decide) rfl (by unfold bodT; rw [hsr]; rfl)
  refine Ev.call (k := 2) (pc1 := 4) (L1 := [Vr 166, Vx]) (S1 := [Vl 26479, Vr 166]) (h1 := ((SHv st dr rd), (ovl a s b))) (m' := 162) (as := [Vr 166, Vl 26479]) (S' := []) (L0 := [Vr 166, Vl 26479, Vx]) (fun _ => rfl) rfl rfl rfl rfl rfl rfl (k_isWord (b := b) hk 6 (by decide) 26479 (by decide)) (fun r h' hq => ?_)
  obtain ⟨rfl, rfl⟩ := hq
  rw [if_neg (by omega)]
  show Ev X _ _ 7 [Vr 166, Vx] [Vi 0] ((SHv st dr rd), (ovl a s b)) _
  refine Ev.call (k := 3) (pc1 := 18) (L1 := [Vr 166, Vx]) (S1 := [Vl 1952541541, Vr 166]) (h1 := ((SHv st dr rd), (ovl a s b))) (m' := 162) (as := [Vr 166, Vl 1952541541]) (S' := []) (L0 := [Vr 166, Vl 1952541541, Vx]) (fun _ => rfl) rfl rfl rfl rfl rfl rfl (k_isWord (b := b) hk 7 (by decide) 1952541541 (by decide)) (fun r h' hq => ?_)
  obtain ⟨rfl, rfl⟩ := hq
  rw [if_neg (by omega)]
  show Ev X _ _ 21 [Vr 166, Vx] [Vi 0] ((SHv st dr rd), (ovl a s b)) _
  refine Ev.call (k := 3) (pc1 := 32) (L1 := [Vr 166, Vx]) (S1 := [Vl 7102841, Vr 166]) (h1 := ((SHv st dr rd), (ovl a s b))) (m' := 162) (as := [Vr 166, Vl 7102841]) (S' := []) (L0 := [Vr 166, Vl 7102841, Vx]) (fun _ => rfl) rfl rfl rfl rfl rfl rfl (k_isWord (b := b) hk 8 (by decide) 7102841 (by decide)) (fun r h' hq => ?_)
  obtain ⟨rfl, rfl⟩ := hq
  rw [if_neg (by omega)]
  show Ev X _ _ 35 [Vr 166, Vx] [Vi 0] ((SHv st dr rd), (ovl a s b)) _
  refine Ev.call (k := 3) (pc1 := 46) (L1 := [Vr 166, Vx]) (S1 := [Vl 2003398757, Vr 166]) (h1 := ((SHv st dr rd), (ovl a s b))) (m' := 162) (as := [Vr 166, Vl 2003398757]) (S' := []) (L0 := [Vr 166, Vl 2003398757, Vx]) (fun _ => rfl) rfl rfl rfl rfl rfl rfl (k_isWord (b := b) hk 9 (by decide) 2003398757 (by decide)) (fun r h' hq => ?_)
  obtain ⟨rfl, rfl⟩ := hq
  rw [if_neg (by omega)]
  show Ev X _ _ 49 [Vr 166, Vx] [Vi 0] ((SHv st dr rd), (ovl a s b)) _
  refine Ev.call (k := 3) (pc1 := 60) (L1 := [Vr 166, Vx]) (S1 := [Vl 1717921132, Vr 166]) (h1 := ((SHv st dr rd), (ovl a s b))) (m' := 162) (as := [Vr 166, Vl 1717921132]) (S' := []) (L0 := [Vr 166, Vl 1717921132, Vx]) (fun _ => rfl) rfl rfl rfl rfl rfl rfl (k_isWord (b := b) hk 10 (by decide) 1717921132 (by decide)) (fun r h' hq => ?_)
  obtain ⟨rfl, rfl⟩ := hq
  rw [if_neg (by omega)]
  show Ev X _ _ 63 [Vr 166, Vx] [Vi 0] ((SHv st dr rd), (ovl a s b)) _
  refine Ev.call (k := 3) (pc1 := 74) (L1 := [Vr 166, Vx]) (S1 := [Vl 1802071148, Vr 166]) (h1 := ((SHv st dr rd), (ovl a s b))) (m' := 162) (as := [Vr 166, Vl 1802071148]) (S' := []) (L0 := [Vr 166, Vl 1802071148, Vx]) (fun _ => rfl) rfl rfl rfl rfl rfl rfl (k_isWord (b := b) hk 11 (by decide) 1802071148 (by decide)) (fun r h' hq => ?_)
  obtain ⟨rfl, rfl⟩ := hq
  rw [if_neg (by omega)]
  show Ev X _ _ 77 [Vr 166, Vx] [Vi 0] ((SHv st dr rd), (ovl a s b)) _
  refine Ev.call (k := 8) (pc1 := 103) (L1 := [Vr 166, Vi (-1)]) (S1 := [Vl 1919905645, Vr 166]) (h1 := ((SHv st dr rd), (ovl a s b))) (m' := 162) (as := [Vr 166, Vl 1919905645]) (S' := []) (L0 := [Vr 166, Vl 1919905645, Vx]) (fun _ => rfl) rfl rfl rfl rfl rfl rfl (k_isWord (b := b) hk 0 (by decide) 1919905645 (by decide)) (fun r h' hq => ?_)
  obtain ⟨rfl, rfl⟩ := hq
  rw [if_neg (by omega)]
  show Ev X _ _ 106 [Vr 166, Vi (-1)] [Vi 0] ((SHv st dr rd), (ovl a s b)) _
  refine Ev.call (k := 3) (pc1 := 120) (L1 := [Vr 166, Vi (-1)]) (S1 := [Vl 1685024626, Vr 166]) (h1 := ((SHv st dr rd), (ovl a s b))) (m' := 162) (as := [Vr 166, Vl 1685024626]) (S' := []) (L0 := [Vr 166, Vl 1685024626, Vx]) (fun _ => rfl) rfl rfl rfl rfl rfl rfl (k_isWord (b := b) hk 1 (by decide) 1685024626 (by decide)) (fun r h' hq => ?_)
  obtain ⟨rfl, rfl⟩ := hq
  rw [if_neg (by omega)]
  show Ev X _ _ 123 [Vr 166, Vi (-1)] [Vi 0] ((SHv st dr rd), (ovl a s b)) _
  refine Ev.call (k := 3) (pc1 := 137) (L1 := [Vr 166, Vi (-1)]) (S1 := [Vl 7825519, Vr 166]) (h1 := ((SHv st dr rd), (ovl a s b))) (m' := 162) (as := [Vr 166, Vl 7825519]) (S' := []) (L0 := [Vr 166, Vl 7825519, Vx]) (fun _ => rfl) rfl rfl rfl rfl rfl rfl (k_isWord (b := b) hk 2 (by decide) 7825519 (by decide)) (fun r h' hq => ?_)
  obtain ⟨rfl, rfl⟩ := hq
  rw [if_neg (by omega)]
  show Ev X _ _ 140 [Vr 166, Vi (-1)] [Vi 0] ((SHv st dr rd), (ovl a s b)) _
  refine Ev.call (k := 3) (pc1 := 154) (L1 := [Vr 166, Vi (-1)]) (S1 := [Vl 499967946343, Vr 166]) (h1 := ((SHv st dr rd), (ovl a s b))) (m' := 162) (as := [Vr 166, Vl 499967946343]) (S' := []) (L0 := [Vr 166, Vl 499967946343, Vx]) (fun _ => rfl) rfl rfl rfl rfl rfl rfl (k_isWord (b := b) hk 4 (by decide) 499967946343 (by decide)) (fun r h' hq => ?_)
  obtain ⟨rfl, rfl⟩ := hq
  rw [if_pos (by omega)]
  show Ev X _ _ 157 [Vr 166, Vi (-1)] [Vi 1] ((SHv st dr rd), (ovl a s b)) _
  refine Ev.call (k := 2) (pc1 := 161) (L1 := [Vr 166, Vi (-1)]) (S1 := [Vr 166]) (h1 := ((SHv st dr rd), (ovl a s b))) (m' := 186) (as := [Vr 166]) (S' := []) (L0 := [Vr 166, Vx]) (fun _ => rfl) rfl rfl rfl rfl rfl rfl (m_thing hk hW hD hR hW.2.2.2.1.2 hR.2.1.2.2.2.1 hW.2.2.2.1.1) (fun r h' hq => ?_)
  obtain ⟨rfl, b1, rfl, hq⟩ := hq
  rcases hq with ⟨r1, hx1, hk1, hR1, hF1⟩ | ⟨e1, hx1, hb1⟩
  · show Ev X _ _ 164 [Vr 166, Vi (-1)] [] ((SHv st dr rd), (ovl a s b1)) _
    refine Ev.steps (k := 3) (pc' := 197) (L' := [Vr 166, Vi (-1)]) (S' := [Vi (b1 166 8)]) (h' := ((SHv st dr rd), (ovl a s b1))) (fun _ => rfl) ?_
    rw [hk1.2.1]
    refine Ev.call (k := 3) (pc1 := 203) (L1 := [Vr 166, Vi (-1)]) (S1 := [Vi 59, Vr 166]) (h1 := ((SHv st dr rd), (ovl a s b1))) (m' := 190) (as := [Vr 166, Vi 59]) (S' := []) (L0 := [Vr 166, Vi 59]) (fun _ => rfl) rfl rfl rfl rfl rfl rfl (m_mustS hk1 59 (by decide)) (fun r h' hq => ?_)
    obtain ⟨rfl, b2, rfl, hq⟩ := hq
    rcases hq with ⟨p2, hx2, ho2⟩ | ⟨e2, hx2, hb2⟩
    · show Ev X _ _ 206 [Vr 166, Vi (-1)] [] ((SHv st dr rd), (ovl a s b2)) _
      refine Ev.fin (k := 1) (r := none) (h' := ((SHv st dr rd), (ovl a s b2))) (fun _ => rfl) ?_
      have hsp : stmT W S p = .ok (r1.1, p2) := by rw [heq, hx1, bnX_o, hx2, bnX_o]
      exact ⟨rfl, b2, rfl, Or.inl ⟨(r1.1, p2), hsp, ho2.2, ⟨c, hR1.fn ho2.1, by dsimp only; have h1 := (stm_wf hT hW hD hpW hp3 hsp).2.2.1; dsimp only at h1; omega⟩, hF1.fn ho2.1⟩⟩
    · show Ev X _ _ 206 [Vr 166, Vi (-1)] [] ((SHv st dr rd), (ovl a s b2)) _
      refine Ev.fin (k := 1) (r := none) (h' := ((SHv st dr rd), (ovl a s b2))) (fun _ => rfl) ?_
      exact ⟨rfl, b2, rfl, Or.inr ⟨e2, (by rw [heq, hx1, bnX_o, hx2, bnX_e]), FrP.bd hF1 hb2⟩⟩
  · show Ev X _ _ 164 [Vr 166, Vi (-1)] [] ((SHv st dr rd), (ovl a s b1)) _
    refine Ev.steps (k := 3) (pc' := 197) (L' := [Vr 166, Vi (-1)]) (S' := [Vi (b1 166 8)]) (h' := ((SHv st dr rd), (ovl a s b1))) (fun _ => rfl) ?_
    rw [hb1.2.2.2.1]
    refine Ev.ite (P := e1.1 ≠ 0) (k := 1) (a := 206) (b := 200) (L' := [Vr 166, Vi (-1)]) (S' := []) (h' := ((SHv st dr rd), (ovl a s b1))) (fun _ => rfl) (fun b197 => ?_) (fun b197 => ?_)
    · refine Ev.fin (k := 1) (r := none) (h' := ((SHv st dr rd), (ovl a s b1))) (fun _ => rfl) ?_
      exact ⟨rfl, b1, rfl, Or.inr ⟨e1, (by rw [heq, hx1, bnX_e]), hb1⟩⟩
    · have := hb1.2.2.1; omega
theorem m_st257 {X : List Int} {d : Nat} {st dr rd : Int} {a s b : C3} {W : TXT} {p : Nat} (hk : TkM W p b) {S : STY} (hW : WfY S) (hD : WfD S) {j c : Nat} (hR : RqM S b j c) (hcp : c ≤ p) (hct : tC W p = 257) : Ev X (d + 7) 161 0 [Vr 166, Vx] [] (SHv st dr rd, ovl a s b) (fun rr hh => rr = none ∧ ∃ b' : C3, hh = (SHv st dr rd, ovl a s b') ∧ ResC (stmT W S p) (fun r => TkM W r.2 b' ∧ (∃ c', RqM r.1 b' j c' ∧ c' ≤ r.2) ∧ FrJ j b b') (fun e => BjM W j b e b')) := by
  have hT := hk.1.1
  have hpW := hk.2.2.2.2.2.2.1
  have hp3 := hk.2.2.2.2.2.1
  have hsr : srtT (tC W p) = 1 := by rw [hct]; rfl
  have heq := stm_mk (W := W) (S := S) (p := p) (k := 1) (mx := 16) (Y := dooT W S p) hsr (by decide) rfl (by unfold bodT; rw [hsr]; rfl)
  have hn1 := hW.2.1
  obtain ⟨n, hn⟩ : ∃ n : Nat, S.1 0 1 = (n : Int) := ⟨(S.1 0 1).toNat, by omega⟩
  refine Ev.call (k := 2) (pc1 := 4) (L1 := [Vr 166, Vx]) (S1 := [Vl 26479, Vr 166]) (h1 := ((SHv st dr rd), (ovl a s b))) (m' := 162) (as := [Vr 166, Vl 26479]) (S' := []) (L0 := [Vr 166, Vl 26479, Vx]) (fun _ => rfl) rfl rfl rfl rfl rfl rfl (k_isWord (b := b) hk 6 (by decide) 26479 (by decide)) (fun r h' hq => ?_)
  obtain ⟨rfl, rfl⟩ := hq
  rw [if_neg (by omega)]
  show Ev X _ _ 7 [Vr 166, Vx] [Vi 0] ((SHv st dr rd), (ovl a s b)) _
  refine Ev.call (k := 3) (pc1 := 18) (L1 := [Vr 166, Vx]) (S1 := [Vl 1952541541, Vr 166]) (h1 := ((SHv st dr rd), (ovl a s b))) (m' := 162) (as := [Vr 166, Vl 1952541541]) (S' := []) (L0 := [Vr 166, Vl 1952541541, Vx]) (fun _ => rfl) rfl rfl rfl rfl rfl rfl (k_isWord (b := b) hk 7 (by decide) 1952541541 (by decide)) (fun r h' hq => ?_)
  obtain ⟨rfl, rfl⟩ := hq
  rw [if_neg (by omega)]
  show Ev X _ _ 21 [Vr 166, Vx] [Vi 0] ((SHv st dr rd), (ovl a s b)) _
  refine Ev.call (k := 3) (pc1 := 32) (L1 := [Vr 166, Vx]) (S1 := [Vl 7102841, Vr 166]) (h1 := ((SHv st dr rd), (ovl a s b))) (m' := 162) (as := [Vr 166, Vl 7102841]) (S' := []) (L0 := [Vr 166, Vl 7102841, Vx]) (fun _ => rfl) rfl rfl rfl rfl rfl rfl (k_isWord (b := b) hk 8 (by decide) 7102841 (by decide)) (fun r h' hq => ?_)
  obtain ⟨rfl, rfl⟩ := hq
  rw [if_neg (by omega)]
  show Ev X _ _ 35 [Vr 166, Vx] [Vi 0] ((SHv st dr rd), (ovl a s b)) _
  refine Ev.call (k := 3) (pc1 := 46) (L1 := [Vr 166, Vx]) (S1 := [Vl 2003398757, Vr 166]) (h1 := ((SHv st dr rd), (ovl a s b))) (m' := 162) (as := [Vr 166, Vl 2003398757]) (S' := []) (L0 := [Vr 166, Vl 2003398757, Vx]) (fun _ => rfl) rfl rfl rfl rfl rfl rfl (k_isWord (b := b) hk 9 (by decide) 2003398757 (by decide)) (fun r h' hq => ?_)
  obtain ⟨rfl, rfl⟩ := hq
  rw [if_neg (by omega)]
  show Ev X _ _ 49 [Vr 166, Vx] [Vi 0] ((SHv st dr rd), (ovl a s b)) _
  refine Ev.call (k := 3) (pc1 := 60) (L1 := [Vr 166, Vx]) (S1 := [Vl 1717921132, Vr 166]) (h1 := ((SHv st dr rd), (ovl a s b))) (m' := 162) (as := [Vr 166, Vl 1717921132]) (S' := []) (L0 := [Vr 166, Vl 1717921132, Vx]) (fun _ => rfl) rfl rfl rfl rfl rfl rfl (k_isWord (b := b) hk 10 (by decide) 1717921132 (by decide)) (fun r h' hq => ?_)
  obtain ⟨rfl, rfl⟩ := hq
  rw [if_neg (by omega)]
  show Ev X _ _ 63 [Vr 166, Vx] [Vi 0] ((SHv st dr rd), (ovl a s b)) _
  refine Ev.call (k := 3) (pc1 := 74) (L1 := [Vr 166, Vx]) (S1 := [Vl 1802071148, Vr 166]) (h1 := ((SHv st dr rd), (ovl a s b))) (m' := 162) (as := [Vr 166, Vl 1802071148]) (S' := []) (L0 := [Vr 166, Vl 1802071148, Vx]) (fun _ => rfl) rfl rfl rfl rfl rfl rfl (k_isWord (b := b) hk 11 (by decide) 1802071148 (by decide)) (fun r h' hq => ?_)
  obtain ⟨rfl, rfl⟩ := hq
  rw [if_neg (by omega)]
  show Ev X _ _ 77 [Vr 166, Vx] [Vi 0] ((SHv st dr rd), (ovl a s b)) _
  refine Ev.call (k := 8) (pc1 := 103) (L1 := [Vr 166, Vi (-1)]) (S1 := [Vl 1919905645, Vr 166]) (h1 := ((SHv st dr rd), (ovl a s b))) (m' := 162) (as := [Vr 166, Vl 1919905645]) (S' := []) (L0 := [Vr 166, Vl 1919905645, Vx]) (fun _ => rfl) rfl rfl rfl rfl rfl rfl (k_isWord (b := b) hk 0 (by decide) 1919905645 (by decide)) (fun r h' hq => ?_)
  obtain ⟨rfl, rfl⟩ := hq
  rw [if_neg (by omega)]
  show Ev X _ _ 106 [Vr 166, Vi (-1)] [Vi 0] ((SHv st dr rd), (ovl a s b)) _
  refine Ev.call (k := 3) (pc1 := 120) (L1 := [Vr 166, Vi (-1)]) (S1 := [Vl 1685024626, Vr 166]) (h1 := ((SHv st dr rd), (ovl a s b))) (m' := 162) (as := [Vr 166, Vl 1685024626]) (S' := []) (L0 := [Vr 166, Vl 1685024626, Vx]) (fun _ => rfl) rfl rfl rfl rfl rfl rfl (k_isWord (b := b) hk 1 (by decide) 1685024626 (by decide)) (fun r h' hq => ?_)
  obtain ⟨rfl, rfl⟩ := hq
  rw [if_pos (by omega)]
  show Ev X _ _ 123 [Vr 166, Vi (-1)] [Vi 1] ((SHv st dr rd), (ovl a s b)) _
  refine Ev.call (k := 2) (pc1 := 127) (L1 := [Vr 166, Vi (-1)]) (S1 := [Vr 166]) (h1 := ((SHv st dr rd), (ovl a s b))) (m' := 184) (as := [Vr 166]) (S' := []) (L0 := [Vr 166, Vx, Vx]) (fun _ => rfl) rfl rfl rfl rfl rfl rfl (m_door hk hW hR hn (hR.2.1.2.1.trans hn) (by omega)) (fun r h' hq => ?_)
  obtain ⟨rfl, b1, rfl, hq⟩ := hq
  rcases hq with ⟨r1, hx1, hk1, hR1, hF1⟩ | ⟨e1, hx1, hb1⟩
  · show Ev X _ _ 130 [Vr 166, Vi (-1)] [] ((SHv st dr rd), (ovl a s b1)) _
    refine Ev.steps (k := 3) (pc' := 197) (L' := [Vr 166, Vi (-1)]) (S' := [Vi (b1 166 8)]) (h' := ((SHv st dr rd), (ovl a s b1))) (fun _ => rfl) ?_
    rw [hk1.2.1]
    refine Ev.call (k := 3) (pc1 := 203) (L1 := [Vr 166, Vi (-1)]) (S1 := [Vi 59, Vr 166]) (h1 := ((SHv st dr rd), (ovl a s b1))) (m' := 190) (as := [Vr 166, Vi 59]) (S' := []) (L0 := [Vr 166, Vi 59]) (fun _ => rfl) rfl rfl rfl rfl rfl rfl (m_mustS hk1 59 (by decide)) (fun r h' hq => ?_)
    obtain ⟨rfl, b2, rfl, hq⟩ := hq
    rcases hq with ⟨p2, hx2, ho2⟩ | ⟨e2, hx2, hb2⟩
    · show Ev X _ _ 206 [Vr 166, Vi (-1)] [] ((SHv st dr rd), (ovl a s b2)) _
      refine Ev.fin (k := 1) (r := none) (h' := ((SHv st dr rd), (ovl a s b2))) (fun _ => rfl) ?_
      have hsp : stmT W S p = .ok (r1.1, p2) := by rw [heq, hx1, bnX_o, hx2, bnX_o]
      exact ⟨rfl, b2, rfl, Or.inl ⟨(r1.1, p2), hsp, ho2.2, ⟨c, hR1.fn ho2.1, by dsimp only; have h1 := (stm_wf hT hW hD hpW hp3 hsp).2.2.1; dsimp only at h1; omega⟩, hF1.fn ho2.1⟩⟩
    · show Ev X _ _ 206 [Vr 166, Vi (-1)] [] ((SHv st dr rd), (ovl a s b2)) _
      refine Ev.fin (k := 1) (r := none) (h' := ((SHv st dr rd), (ovl a s b2))) (fun _ => rfl) ?_
      exact ⟨rfl, b2, rfl, Or.inr ⟨e2, (by rw [heq, hx1, bnX_o, hx2, bnX_e]), FrP.bd hF1 hb2⟩⟩
  · show Ev X _ _ 130 [Vr 166, Vi (-1)] [] ((SHv st dr rd), (ovl a s b1)) _
    refine Ev.steps (k := 3) (pc' := 197) (L' := [Vr 166, Vi (-1)]) (S' := [Vi (b1 166 8)]) (h' := ((SHv st dr rd), (ovl a s b1))) (fun _ => rfl) ?_
    rw [hb1.2.2.2.1]
    refine Ev.ite (P := e1.1 ≠ 0) (k := 1) (a := 206) (b := 200) (L' := [Vr 166, Vi (-1)]) (S' := []) (h' := ((SHv st dr rd), (ovl a s b1))) (fun _ => rfl) (fun b197 => ?_) (fun b197 => ?_)
    · refine Ev.fin (k := 1) (r := none) (h' := ((SHv st dr rd), (ovl a s b1))) (fun _ => rfl) ?_
      exact ⟨rfl, b1, rfl, Or.inr ⟨e1, (by rw [heq, hx1, bnX_e]), hb1⟩⟩
    · have := hb1.2.2.1; omega
theorem m_st261 {X : List Int} {d : Nat} {st dr rd : Int} {a s b : C3} {W : TXT} {p : Nat} (hk : TkM W p b) {S : STY} (hW : WfY S) (hD : WfD S) {j c : Nat} (hR : RqM S b j c) (hcp : c ≤ p) (hct : tC W p = 261) : Ev X (d + 7) 161 0 [Vr 166, Vx] [] (SHv st dr rd, ovl a s b) (fun rr hh => rr = none ∧ ∃ b' : C3, hh = (SHv st dr rd, ovl a s b') ∧ ResC (stmT W S p) (fun r => TkM W r.2 b' ∧ (∃ c', RqM r.1 b' j c' ∧ c' ≤ r.2) ∧ FrJ j b b') (fun e => BjM W j b e b')) := by
  have hT := hk.1.1
  have hpW := hk.2.2.2.2.2.2.1
  have hp3 := hk.2.2.2.2.2.1
  have hsr : srtT (tC W p) = 5 := by rw [hct]; rfl
  have heq := stm_mk (W := W) (S := S) (p := p) (k := 5) (mx := 12) (Y := sayT W S p) hsr (by decide) rfl (by unfold bodT; rw [hsr]; rfl)
  refine Ev.call (k := 2) (pc1 := 4) (L1 := [Vr 166, Vx]) (S1 := [Vl 26479, Vr 166]) (h1 := ((SHv st dr rd), (ovl a s b))) (m' := 162) (as := [Vr 166, Vl 26479]) (S' := []) (L0 := [Vr 166, Vl 26479, Vx]) (fun _ => rfl) rfl rfl rfl rfl rfl rfl (k_isWord (b := b) hk 6 (by decide) 26479 (by decide)) (fun r h' hq => ?_)
  obtain ⟨rfl, rfl⟩ := hq
  rw [if_neg (by omega)]
  show Ev X _ _ 7 [Vr 166, Vx] [Vi 0] ((SHv st dr rd), (ovl a s b)) _
  refine Ev.call (k := 3) (pc1 := 18) (L1 := [Vr 166, Vx]) (S1 := [Vl 1952541541, Vr 166]) (h1 := ((SHv st dr rd), (ovl a s b))) (m' := 162) (as := [Vr 166, Vl 1952541541]) (S' := []) (L0 := [Vr 166, Vl 1952541541, Vx]) (fun _ => rfl) rfl rfl rfl rfl rfl rfl (k_isWord (b := b) hk 7 (by decide) 1952541541 (by decide)) (fun r h' hq => ?_)
  obtain ⟨rfl, rfl⟩ := hq
  rw [if_neg (by omega)]
  show Ev X _ _ 21 [Vr 166, Vx] [Vi 0] ((SHv st dr rd), (ovl a s b)) _
  refine Ev.call (k := 3) (pc1 := 32) (L1 := [Vr 166, Vx]) (S1 := [Vl 7102841, Vr 166]) (h1 := ((SHv st dr rd), (ovl a s b))) (m' := 162) (as := [Vr 166, Vl 7102841]) (S' := []) (L0 := [Vr 166, Vl 7102841, Vx]) (fun _ => rfl) rfl rfl rfl rfl rfl rfl (k_isWord (b := b) hk 8 (by decide) 7102841 (by decide)) (fun r h' hq => ?_)
  obtain ⟨rfl, rfl⟩ := hq
  rw [if_neg (by omega)]
  show Ev X _ _ 35 [Vr 166, Vx] [Vi 0] ((SHv st dr rd), (ovl a s b)) _
  refine Ev.call (k := 3) (pc1 := 46) (L1 := [Vr 166, Vx]) (S1 := [Vl 2003398757, Vr 166]) (h1 := ((SHv st dr rd), (ovl a s b))) (m' := 162) (as := [Vr 166, Vl 2003398757]) (S' := []) (L0 := [Vr 166, Vl 2003398757, Vx]) (fun _ => rfl) rfl rfl rfl rfl rfl rfl (k_isWord (b := b) hk 9 (by decide) 2003398757 (by decide)) (fun r h' hq => ?_)
  obtain ⟨rfl, rfl⟩ := hq
  rw [if_neg (by omega)]
  show Ev X _ _ 49 [Vr 166, Vx] [Vi 0] ((SHv st dr rd), (ovl a s b)) _
  refine Ev.call (k := 3) (pc1 := 60) (L1 := [Vr 166, Vx]) (S1 := [Vl 1717921132, Vr 166]) (h1 := ((SHv st dr rd), (ovl a s b))) (m' := 162) (as := [Vr 166, Vl 1717921132]) (S' := []) (L0 := [Vr 166, Vl 1717921132, Vx]) (fun _ => rfl) rfl rfl rfl rfl rfl rfl (k_isWord (b := b) hk 10 (by decide) 1717921132 (by decide)) (fun r h' hq => ?_)
  obtain ⟨rfl, rfl⟩ := hq
  rw [if_neg (by omega)]
  show Ev X _ _ 63 [Vr 166, Vx] [Vi 0] ((SHv st dr rd), (ovl a s b)) _
  refine Ev.call (k := 3) (pc1 := 74) (L1 := [Vr 166, Vx]) (S1 := [Vl 1802071148, Vr 166]) (h1 := ((SHv st dr rd), (ovl a s b))) (m' := 162) (as := [Vr 166, Vl 1802071148]) (S' := []) (L0 := [Vr 166, Vl 1802071148, Vx]) (fun _ => rfl) rfl rfl rfl rfl rfl rfl (k_isWord (b := b) hk 11 (by decide) 1802071148 (by decide)) (fun r h' hq => ?_)
  obtain ⟨rfl, rfl⟩ := hq
  rw [if_neg (by omega)]
  show Ev X _ _ 77 [Vr 166, Vx] [Vi 0] ((SHv st dr rd), (ovl a s b)) _
  refine Ev.call (k := 8) (pc1 := 103) (L1 := [Vr 166, Vi (-1)]) (S1 := [Vl 1919905645, Vr 166]) (h1 := ((SHv st dr rd), (ovl a s b))) (m' := 162) (as := [Vr 166, Vl 1919905645]) (S' := []) (L0 := [Vr 166, Vl 1919905645, Vx]) (fun _ => rfl) rfl rfl rfl rfl rfl rfl (k_isWord (b := b) hk 0 (by decide) 1919905645 (by decide)) (fun r h' hq => ?_)
  obtain ⟨rfl, rfl⟩ := hq
  rw [if_neg (by omega)]
  show Ev X _ _ 106 [Vr 166, Vi (-1)] [Vi 0] ((SHv st dr rd), (ovl a s b)) _
  refine Ev.call (k := 3) (pc1 := 120) (L1 := [Vr 166, Vi (-1)]) (S1 := [Vl 1685024626, Vr 166]) (h1 := ((SHv st dr rd), (ovl a s b))) (m' := 162) (as := [Vr 166, Vl 1685024626]) (S' := []) (L0 := [Vr 166, Vl 1685024626, Vx]) (fun _ => rfl) rfl rfl rfl rfl rfl rfl (k_isWord (b := b) hk 1 (by decide) 1685024626 (by decide)) (fun r h' hq => ?_)
  obtain ⟨rfl, rfl⟩ := hq
  rw [if_neg (by omega)]
  show Ev X _ _ 123 [Vr 166, Vi (-1)] [Vi 0] ((SHv st dr rd), (ovl a s b)) _
  refine Ev.call (k := 3) (pc1 := 137) (L1 := [Vr 166, Vi (-1)]) (S1 := [Vl 7825519, Vr 166]) (h1 := ((SHv st dr rd), (ovl a s b))) (m' := 162) (as := [Vr 166, Vl 7825519]) (S' := []) (L0 := [Vr 166, Vl 7825519, Vx]) (fun _ => rfl) rfl rfl rfl rfl rfl rfl (k_isWord (b := b) hk 2 (by decide) 7825519 (by decide)) (fun r h' hq => ?_)
  obtain ⟨rfl, rfl⟩ := hq
  rw [if_neg (by omega)]
  show Ev X _ _ 140 [Vr 166, Vi (-1)] [Vi 0] ((SHv st dr rd), (ovl a s b)) _
  refine Ev.call (k := 3) (pc1 := 154) (L1 := [Vr 166, Vi (-1)]) (S1 := [Vl 499967946343, Vr 166]) (h1 := ((SHv st dr rd), (ovl a s b))) (m' := 162) (as := [Vr 166, Vl 499967946343]) (S' := []) (L0 := [Vr 166, Vl 499967946343, Vx]) (fun _ => rfl) rfl rfl rfl rfl rfl rfl (k_isWord (b := b) hk 4 (by decide) 499967946343 (by decide)) (fun r h' hq => ?_)
  obtain ⟨rfl, rfl⟩ := hq
  rw [if_neg (by omega)]
  show Ev X _ _ 157 [Vr 166, Vi (-1)] [Vi 0] ((SHv st dr rd), (ovl a s b)) _
  refine Ev.call (k := 3) (pc1 := 171) (L1 := [Vr 166, Vi (-1)]) (S1 := [Vl 1935767923, Vr 166]) (h1 := ((SHv st dr rd), (ovl a s b))) (m' := 162) (as := [Vr 166, Vl 1935767923]) (S' := []) (L0 := [Vr 166, Vl 1935767923, Vx]) (fun _ => rfl) rfl rfl rfl rfl rfl rfl (k_isWord (b := b) hk 5 (by decide) 1935767923 (by decide)) (fun r h' hq => ?_)
  obtain ⟨rfl, rfl⟩ := hq
  rw [if_pos (by omega)]
  show Ev X _ _ 174 [Vr 166, Vi (-1)] [Vi 1] ((SHv st dr rd), (ovl a s b)) _
  refine Ev.call (k := 2) (pc1 := 178) (L1 := [Vr 166, Vi (-1)]) (S1 := [Vr 166]) (h1 := ((SHv st dr rd), (ovl a s b))) (m' := 187) (as := [Vr 166]) (S' := []) (L0 := [Vr 166, Vx]) (fun _ => rfl) rfl rfl rfl rfl rfl rfl (m_says hk hW hD hR hW.2.2.2.2.2.1.2 hR.2.1.2.2.2.2.2 hW.2.2.2.2.2.1.1) (fun r h' hq => ?_)
  obtain ⟨rfl, b1, rfl, hq⟩ := hq
  rcases hq with ⟨r1, hx1, hk1, hR1, hF1⟩ | ⟨e1, hx1, hb1⟩
  · show Ev X _ _ 181 [Vr 166, Vi (-1)] [] ((SHv st dr rd), (ovl a s b1)) _
    refine Ev.steps (k := 3) (pc' := 197) (L' := [Vr 166, Vi (-1)]) (S' := [Vi (b1 166 8)]) (h' := ((SHv st dr rd), (ovl a s b1))) (fun _ => rfl) ?_
    rw [hk1.2.1]
    refine Ev.call (k := 3) (pc1 := 203) (L1 := [Vr 166, Vi (-1)]) (S1 := [Vi 59, Vr 166]) (h1 := ((SHv st dr rd), (ovl a s b1))) (m' := 190) (as := [Vr 166, Vi 59]) (S' := []) (L0 := [Vr 166, Vi 59]) (fun _ => rfl) rfl rfl rfl rfl rfl rfl (m_mustS hk1 59 (by decide)) (fun r h' hq => ?_)
    obtain ⟨rfl, b2, rfl, hq⟩ := hq
    rcases hq with ⟨p2, hx2, ho2⟩ | ⟨e2, hx2, hb2⟩
    · show Ev X _ _ 206 [Vr 166, Vi (-1)] [] ((SHv st dr rd), (ovl a s b2)) _
      refine Ev.fin (k := 1) (r := none) (h' := ((SHv st dr rd), (ovl a s b2))) (fun _ => rfl) ?_
      have hsp : stmT W S p = .ok (r1.1, p2) := by rw [heq, hx1, bnX_o, hx2, bnX_o]
      exact ⟨rfl, b2, rfl, Or.inl ⟨(r1.1, p2), hsp, ho2.2, ⟨c, hR1.fn ho2.1, by dsimp only; have h1 := (stm_wf hT hW hD hpW hp3 hsp).2.2.1; dsimp only at h1; omega⟩, hF1.fn ho2.1⟩⟩
    · show Ev X _ _ 206 [Vr 166, Vi (-1)] [] ((SHv st dr rd), (ovl a s b2)) _
      refine Ev.fin (k := 1) (r := none) (h' := ((SHv st dr rd), (ovl a s b2))) (fun _ => rfl) ?_
      exact ⟨rfl, b2, rfl, Or.inr ⟨e2, (by rw [heq, hx1, bnX_o, hx2, bnX_e]), FrP.bd hF1 hb2⟩⟩
  · show Ev X _ _ 181 [Vr 166, Vi (-1)] [] ((SHv st dr rd), (ovl a s b1)) _
    refine Ev.steps (k := 3) (pc' := 197) (L' := [Vr 166, Vi (-1)]) (S' := [Vi (b1 166 8)]) (h' := ((SHv st dr rd), (ovl a s b1))) (fun _ => rfl) ?_
    rw [hb1.2.2.2.1]
    refine Ev.ite (P := e1.1 ≠ 0) (k := 1) (a := 206) (b := 200) (L' := [Vr 166, Vi (-1)]) (S' := []) (h' := ((SHv st dr rd), (ovl a s b1))) (fun _ => rfl) (fun b197 => ?_) (fun b197 => ?_)
    · refine Ev.fin (k := 1) (r := none) (h' := ((SHv st dr rd), (ovl a s b1))) (fun _ => rfl) ?_
      exact ⟨rfl, b1, rfl, Or.inr ⟨e1, (by rw [heq, hx1, bnX_e]), hb1⟩⟩
    · have := hb1.2.2.1; omega
theorem m_st262 {X : List Int} {d : Nat} {st dr rd : Int} {a s b : C3} {W : TXT} {p : Nat} (hk : TkM W p b) {S : STY} (hW : WfY S) (hD : WfD S) {j c : Nat} (hR : RqM S b j c) (hcp : c ≤ p) (hct : tC W p = 262) : Ev X (d + 7) 161 0 [Vr 166, Vx] [] (SHv st dr rd, ovl a s b) (fun rr hh => rr = none ∧ ∃ b' : C3, hh = (SHv st dr rd, ovl a s b') ∧ ResC (stmT W S p) (fun r => TkM W r.2 b' ∧ (∃ c', RqM r.1 b' j c' ∧ c' ≤ r.2) ∧ FrJ j b b') (fun e => BjM W j b e b')) := by
  have hT := hk.1.1
  have hpW := hk.2.2.2.2.2.2.1
  have hp3 := hk.2.2.2.2.2.1
  have hsr : srtT (tC W p) = 4 := by rw [hct]; rfl
  have heq := stm_mk (W := W) (S := S) (p := p) (k := 4) (mx := 30) (Y := rulT W S p) hsr (by decide) rfl (by unfold bodT; rw [hsr]; rfl)
  refine Ev.call (k := 2) (pc1 := 4) (L1 := [Vr 166, Vx]) (S1 := [Vl 26479, Vr 166]) (h1 := ((SHv st dr rd), (ovl a s b))) (m' := 162) (as := [Vr 166, Vl 26479]) (S' := []) (L0 := [Vr 166, Vl 26479, Vx]) (fun _ => rfl) rfl rfl rfl rfl rfl rfl (k_isWord (b := b) hk 6 (by decide) 26479 (by decide)) (fun r h' hq => ?_)
  obtain ⟨rfl, rfl⟩ := hq
  rw [if_pos (by omega)]
  show Ev X _ _ 7 [Vr 166, Vx] [Vi 1] ((SHv st dr rd), (ovl a s b)) _
  refine Ev.call (k := 9) (pc1 := 93) (L1 := [Vr 166, Vi 0]) (S1 := [Vi 0, Vr 166]) (h1 := ((SHv st dr rd), (ovl a s b))) (m' := 163) (as := [Vr 166, Vi 0]) (S' := []) (L0 := [Vr 166, Vi 0, Vx]) (fun _ => rfl) rfl rfl rfl rfl rfl rfl (m_rule0 hk hW hR hcp hW.2.2.2.2.1.2 hR.2.1.2.2.2.2.1 hW.2.2.2.2.1.1 hct) (fun r h' hq => ?_)
  obtain ⟨rfl, b1, rfl, hq⟩ := hq
  rcases hq with ⟨r1, hx1, hk1, ⟨c1, hR1, hc1⟩, hF1⟩ | ⟨e1, hx1, hb1⟩
  · show Ev X _ _ 96 [Vr 166, Vi 0] [] ((SHv st dr rd), (ovl a s b1)) _
    refine Ev.steps (k := 3) (pc' := 197) (L' := [Vr 166, Vi 0]) (S' := [Vi (b1 166 8)]) (h' := ((SHv st dr rd), (ovl a s b1))) (fun _ => rfl) ?_
    rw [hk1.2.1]
    refine Ev.call (k := 3) (pc1 := 203) (L1 := [Vr 166, Vi 0]) (S1 := [Vi 59, Vr 166]) (h1 := ((SHv st dr rd), (ovl a s b1))) (m' := 190) (as := [Vr 166, Vi 59]) (S' := []) (L0 := [Vr 166, Vi 59]) (fun _ => rfl) rfl rfl rfl rfl rfl rfl (m_mustS hk1 59 (by decide)) (fun r h' hq => ?_)
    obtain ⟨rfl, b2, rfl, hq⟩ := hq
    rcases hq with ⟨p2, hx2, ho2⟩ | ⟨e2, hx2, hb2⟩
    · show Ev X _ _ 206 [Vr 166, Vi 0] [] ((SHv st dr rd), (ovl a s b2)) _
      refine Ev.fin (k := 1) (r := none) (h' := ((SHv st dr rd), (ovl a s b2))) (fun _ => rfl) ?_
      have hsp : stmT W S p = .ok (r1.1, p2) := by rw [heq, hx1, bnX_o, hx2, bnX_o]
      exact ⟨rfl, b2, rfl, Or.inl ⟨(r1.1, p2), hsp, ho2.2, ⟨c1, hR1.fn ho2.1, by dsimp only; have h1 := (exp_ok hx2).2.1; have h2 := tok_rg (W := W) (p := r1.2) hk1.2.2.2.2.2.2.1 hT; omega⟩, hF1.fn ho2.1⟩⟩
    · show Ev X _ _ 206 [Vr 166, Vi 0] [] ((SHv st dr rd), (ovl a s b2)) _
      refine Ev.fin (k := 1) (r := none) (h' := ((SHv st dr rd), (ovl a s b2))) (fun _ => rfl) ?_
      exact ⟨rfl, b2, rfl, Or.inr ⟨e2, (by rw [heq, hx1, bnX_o, hx2, bnX_e]), FrP.bd hF1 hb2⟩⟩
  · show Ev X _ _ 96 [Vr 166, Vi 0] [] ((SHv st dr rd), (ovl a s b1)) _
    refine Ev.steps (k := 3) (pc' := 197) (L' := [Vr 166, Vi 0]) (S' := [Vi (b1 166 8)]) (h' := ((SHv st dr rd), (ovl a s b1))) (fun _ => rfl) ?_
    rw [hb1.2.2.2.1]
    refine Ev.ite (P := e1.1 ≠ 0) (k := 1) (a := 206) (b := 200) (L' := [Vr 166, Vi 0]) (S' := []) (h' := ((SHv st dr rd), (ovl a s b1))) (fun _ => rfl) (fun b197 => ?_) (fun b197 => ?_)
    · refine Ev.fin (k := 1) (r := none) (h' := ((SHv st dr rd), (ovl a s b1))) (fun _ => rfl) ?_
      exact ⟨rfl, b1, rfl, Or.inr ⟨e1, (by rw [heq, hx1, bnX_e]), hb1⟩⟩
    · have := hb1.2.2.1; omega
theorem m_st263 {X : List Int} {d : Nat} {st dr rd : Int} {a s b : C3} {W : TXT} {p : Nat} (hk : TkM W p b) {S : STY} (hW : WfY S) (hD : WfD S) {j c : Nat} (hR : RqM S b j c) (hcp : c ≤ p) (hct : tC W p = 263) : Ev X (d + 7) 161 0 [Vr 166, Vx] [] (SHv st dr rd, ovl a s b) (fun rr hh => rr = none ∧ ∃ b' : C3, hh = (SHv st dr rd, ovl a s b') ∧ ResC (stmT W S p) (fun r => TkM W r.2 b' ∧ (∃ c', RqM r.1 b' j c' ∧ c' ≤ r.2) ∧ FrJ j b b') (fun e => BjM W j b e b')) := by
  have hT := hk.1.1
  have hpW := hk.2.2.2.2.2.2.1
  have hp3 := hk.2.2.2.2.2.1
  have hsr : srtT (tC W p) = 4 := by rw [hct]; rfl
  have heq := stm_mk (W := W) (S := S) (p := p) (k := 4) (mx := 30) (Y := rulT W S p) hsr (by decide) rfl (by unfold bodT; rw [hsr]; rfl)
  refine Ev.call (k := 2) (pc1 := 4) (L1 := [Vr 166, Vx]) (S1 := [Vl 26479, Vr 166]) (h1 := ((SHv st dr rd), (ovl a s b))) (m' := 162) (as := [Vr 166, Vl 26479]) (S' := []) (L0 := [Vr 166, Vl 26479, Vx]) (fun _ => rfl) rfl rfl rfl rfl rfl rfl (k_isWord (b := b) hk 6 (by decide) 26479 (by decide)) (fun r h' hq => ?_)
  obtain ⟨rfl, rfl⟩ := hq
  rw [if_neg (by omega)]
  show Ev X _ _ 7 [Vr 166, Vx] [Vi 0] ((SHv st dr rd), (ovl a s b)) _
  refine Ev.call (k := 3) (pc1 := 18) (L1 := [Vr 166, Vx]) (S1 := [Vl 1952541541, Vr 166]) (h1 := ((SHv st dr rd), (ovl a s b))) (m' := 162) (as := [Vr 166, Vl 1952541541]) (S' := []) (L0 := [Vr 166, Vl 1952541541, Vx]) (fun _ => rfl) rfl rfl rfl rfl rfl rfl (k_isWord (b := b) hk 7 (by decide) 1952541541 (by decide)) (fun r h' hq => ?_)
  obtain ⟨rfl, rfl⟩ := hq
  rw [if_pos (by omega)]
  show Ev X _ _ 21 [Vr 166, Vx] [Vi 1] ((SHv st dr rd), (ovl a s b)) _
  refine Ev.call (k := 9) (pc1 := 93) (L1 := [Vr 166, Vi 1]) (S1 := [Vi 1, Vr 166]) (h1 := ((SHv st dr rd), (ovl a s b))) (m' := 163) (as := [Vr 166, Vi 1]) (S' := []) (L0 := [Vr 166, Vi 1, Vx]) (fun _ => rfl) rfl rfl rfl rfl rfl rfl (m_rule1 hk hW hR hcp hW.2.2.2.2.1.2 hR.2.1.2.2.2.2.1 hW.2.2.2.2.1.1 hct) (fun r h' hq => ?_)
  obtain ⟨rfl, b1, rfl, hq⟩ := hq
  rcases hq with ⟨r1, hx1, hk1, ⟨c1, hR1, hc1⟩, hF1⟩ | ⟨e1, hx1, hb1⟩
  · show Ev X _ _ 96 [Vr 166, Vi 1] [] ((SHv st dr rd), (ovl a s b1)) _
    refine Ev.steps (k := 3) (pc' := 197) (L' := [Vr 166, Vi 1]) (S' := [Vi (b1 166 8)]) (h' := ((SHv st dr rd), (ovl a s b1))) (fun _ => rfl) ?_
    rw [hk1.2.1]
    refine Ev.call (k := 3) (pc1 := 203) (L1 := [Vr 166, Vi 1]) (S1 := [Vi 59, Vr 166]) (h1 := ((SHv st dr rd), (ovl a s b1))) (m' := 190) (as := [Vr 166, Vi 59]) (S' := []) (L0 := [Vr 166, Vi 59]) (fun _ => rfl) rfl rfl rfl rfl rfl rfl (m_mustS hk1 59 (by decide)) (fun r h' hq => ?_)
    obtain ⟨rfl, b2, rfl, hq⟩ := hq
    rcases hq with ⟨p2, hx2, ho2⟩ | ⟨e2, hx2, hb2⟩
    · show Ev X _ _ 206 [Vr 166, Vi 1] [] ((SHv st dr rd), (ovl a s b2)) _
      refine Ev.fin (k := 1) (r := none) (h' := ((SHv st dr rd), (ovl a s b2))) (fun _ => rfl) ?_
      have hsp : stmT W S p = .ok (r1.1, p2) := by rw [heq, hx1, bnX_o, hx2, bnX_o]
      exact ⟨rfl, b2, rfl, Or.inl ⟨(r1.1, p2), hsp, ho2.2, ⟨c1, hR1.fn ho2.1, by dsimp only; have h1 := (exp_ok hx2).2.1; have h2 := tok_rg (W := W) (p := r1.2) hk1.2.2.2.2.2.2.1 hT; omega⟩, hF1.fn ho2.1⟩⟩
    · show Ev X _ _ 206 [Vr 166, Vi 1] [] ((SHv st dr rd), (ovl a s b2)) _
      refine Ev.fin (k := 1) (r := none) (h' := ((SHv st dr rd), (ovl a s b2))) (fun _ => rfl) ?_
      exact ⟨rfl, b2, rfl, Or.inr ⟨e2, (by rw [heq, hx1, bnX_o, hx2, bnX_e]), FrP.bd hF1 hb2⟩⟩
  · show Ev X _ _ 96 [Vr 166, Vi 1] [] ((SHv st dr rd), (ovl a s b1)) _
    refine Ev.steps (k := 3) (pc' := 197) (L' := [Vr 166, Vi 1]) (S' := [Vi (b1 166 8)]) (h' := ((SHv st dr rd), (ovl a s b1))) (fun _ => rfl) ?_
    rw [hb1.2.2.2.1]
    refine Ev.ite (P := e1.1 ≠ 0) (k := 1) (a := 206) (b := 200) (L' := [Vr 166, Vi 1]) (S' := []) (h' := ((SHv st dr rd), (ovl a s b1))) (fun _ => rfl) (fun b197 => ?_) (fun b197 => ?_)
    · refine Ev.fin (k := 1) (r := none) (h' := ((SHv st dr rd), (ovl a s b1))) (fun _ => rfl) ?_
      exact ⟨rfl, b1, rfl, Or.inr ⟨e1, (by rw [heq, hx1, bnX_e]), hb1⟩⟩
    · have := hb1.2.2.1; omega
theorem m_st264 {X : List Int} {d : Nat} {st dr rd : Int} {a s b : C3} {W : TXT} {p : Nat} (hk : TkM W p b) {S : STY} (hW : WfY S) (hD : WfD S) {j c : Nat} (hR : RqM S b j c) (hcp : c ≤ p) (hct : tC W p = 264) : Ev X (d + 7) 161 0 [Vr 166, Vx] [] (SHv st dr rd, ovl a s b) (fun rr hh => rr = none ∧ ∃ b' : C3, hh = (SHv st dr rd, ovl a s b') ∧ ResC (stmT W S p) (fun r => TkM W r.2 b' ∧ (∃ c', RqM r.1 b' j c' ∧ c' ≤ r.2) ∧ FrJ j b b') (fun e => BjM W j b e b')) := by
  have hT := hk.1.1
  have hpW := hk.2.2.2.2.2.2.1
  have hp3 := hk.2.2.2.2.2.1
  have hsr : srtT (tC W p) = 4 := by rw [hct]; rfl
  have heq := stm_mk (W := W) (S := S) (p := p) (k := 4) (mx := 30) (Y := rulT W S p) hsr (by decide) rfl (by unfold bodT; rw [hsr]; rfl)
  refine Ev.call (k := 2) (pc1 := 4) (L1 := [Vr 166, Vx]) (S1 := [Vl 26479, Vr 166]) (h1 := ((SHv st dr rd), (ovl a s b))) (m' := 162) (as := [Vr 166, Vl 26479]) (S' := []) (L0 := [Vr 166, Vl 26479, Vx]) (fun _ => rfl) rfl rfl rfl rfl rfl rfl (k_isWord (b := b) hk 6 (by decide) 26479 (by decide)) (fun r h' hq => ?_)
  obtain ⟨rfl, rfl⟩ := hq
  rw [if_neg (by omega)]
  show Ev X _ _ 7 [Vr 166, Vx] [Vi 0] ((SHv st dr rd), (ovl a s b)) _
  refine Ev.call (k := 3) (pc1 := 18) (L1 := [Vr 166, Vx]) (S1 := [Vl 1952541541, Vr 166]) (h1 := ((SHv st dr rd), (ovl a s b))) (m' := 162) (as := [Vr 166, Vl 1952541541]) (S' := []) (L0 := [Vr 166, Vl 1952541541, Vx]) (fun _ => rfl) rfl rfl rfl rfl rfl rfl (k_isWord (b := b) hk 7 (by decide) 1952541541 (by decide)) (fun r h' hq => ?_)
  obtain ⟨rfl, rfl⟩ := hq
  rw [if_neg (by omega)]
  show Ev X _ _ 21 [Vr 166, Vx] [Vi 0] ((SHv st dr rd), (ovl a s b)) _
  refine Ev.call (k := 3) (pc1 := 32) (L1 := [Vr 166, Vx]) (S1 := [Vl 7102841, Vr 166]) (h1 := ((SHv st dr rd), (ovl a s b))) (m' := 162) (as := [Vr 166, Vl 7102841]) (S' := []) (L0 := [Vr 166, Vl 7102841, Vx]) (fun _ => rfl) rfl rfl rfl rfl rfl rfl (k_isWord (b := b) hk 8 (by decide) 7102841 (by decide)) (fun r h' hq => ?_)
  obtain ⟨rfl, rfl⟩ := hq
  rw [if_pos (by omega)]
  show Ev X _ _ 35 [Vr 166, Vx] [Vi 1] ((SHv st dr rd), (ovl a s b)) _
  refine Ev.call (k := 9) (pc1 := 93) (L1 := [Vr 166, Vi 2]) (S1 := [Vi 2, Vr 166]) (h1 := ((SHv st dr rd), (ovl a s b))) (m' := 163) (as := [Vr 166, Vi 2]) (S' := []) (L0 := [Vr 166, Vi 2, Vx]) (fun _ => rfl) rfl rfl rfl rfl rfl rfl (m_rule2 hk hW hR hcp hW.2.2.2.2.1.2 hR.2.1.2.2.2.2.1 hW.2.2.2.2.1.1 hct) (fun r h' hq => ?_)
  obtain ⟨rfl, b1, rfl, hq⟩ := hq
  rcases hq with ⟨r1, hx1, hk1, ⟨c1, hR1, hc1⟩, hF1⟩ | ⟨e1, hx1, hb1⟩
  · show Ev X _ _ 96 [Vr 166, Vi 2] [] ((SHv st dr rd), (ovl a s b1)) _
    refine Ev.steps (k := 3) (pc' := 197) (L' := [Vr 166, Vi 2]) (S' := [Vi (b1 166 8)]) (h' := ((SHv st dr rd), (ovl a s b1))) (fun _ => rfl) ?_
    rw [hk1.2.1]
    refine Ev.call (k := 3) (pc1 := 203) (L1 := [Vr 166, Vi 2]) (S1 := [Vi 59, Vr 166]) (h1 := ((SHv st dr rd), (ovl a s b1))) (m' := 190) (as := [Vr 166, Vi 59]) (S' := []) (L0 := [Vr 166, Vi 59]) (fun _ => rfl) rfl rfl rfl rfl rfl rfl (m_mustS hk1 59 (by decide)) (fun r h' hq => ?_)
    obtain ⟨rfl, b2, rfl, hq⟩ := hq
    rcases hq with ⟨p2, hx2, ho2⟩ | ⟨e2, hx2, hb2⟩
    · show Ev X _ _ 206 [Vr 166, Vi 2] [] ((SHv st dr rd), (ovl a s b2)) _
      refine Ev.fin (k := 1) (r := none) (h' := ((SHv st dr rd), (ovl a s b2))) (fun _ => rfl) ?_
      have hsp : stmT W S p = .ok (r1.1, p2) := by rw [heq, hx1, bnX_o, hx2, bnX_o]
      exact ⟨rfl, b2, rfl, Or.inl ⟨(r1.1, p2), hsp, ho2.2, ⟨c1, hR1.fn ho2.1, by dsimp only; have h1 := (exp_ok hx2).2.1; have h2 := tok_rg (W := W) (p := r1.2) hk1.2.2.2.2.2.2.1 hT; omega⟩, hF1.fn ho2.1⟩⟩
    · show Ev X _ _ 206 [Vr 166, Vi 2] [] ((SHv st dr rd), (ovl a s b2)) _
      refine Ev.fin (k := 1) (r := none) (h' := ((SHv st dr rd), (ovl a s b2))) (fun _ => rfl) ?_
      exact ⟨rfl, b2, rfl, Or.inr ⟨e2, (by rw [heq, hx1, bnX_o, hx2, bnX_e]), FrP.bd hF1 hb2⟩⟩
  · show Ev X _ _ 96 [Vr 166, Vi 2] [] ((SHv st dr rd), (ovl a s b1)) _
    refine Ev.steps (k := 3) (pc' := 197) (L' := [Vr 166, Vi 2]) (S' := [Vi (b1 166 8)]) (h' := ((SHv st dr rd), (ovl a s b1))) (fun _ => rfl) ?_
    rw [hb1.2.2.2.1]
    refine Ev.ite (P := e1.1 ≠ 0) (k := 1) (a := 206) (b := 200) (L' := [Vr 166, Vi 2]) (S' := []) (h' := ((SHv st dr rd), (ovl a s b1))) (fun _ => rfl) (fun b197 => ?_) (fun b197 => ?_)
    · refine Ev.fin (k := 1) (r := none) (h' := ((SHv st dr rd), (ovl a s b1))) (fun _ => rfl) ?_
      exact ⟨rfl, b1, rfl, Or.inr ⟨e1, (by rw [heq, hx1, bnX_e]), hb1⟩⟩
    · have := hb1.2.2.1; omega
theorem m_st265 {X : List Int} {d : Nat} {st dr rd : Int} {a s b : C3} {W : TXT} {p : Nat} (hk : TkM W p b) {S : STY} (hW : WfY S) (hD : WfD S) {j c : Nat} (hR : RqM S b j c) (hcp : c ≤ p) (hct : tC W p = 265) : Ev X (d + 7) 161 0 [Vr 166, Vx] [] (SHv st dr rd, ovl a s b) (fun rr hh => rr = none ∧ ∃ b' : C3, hh = (SHv st dr rd, ovl a s b') ∧ ResC (stmT W S p) (fun r => TkM W r.2 b' ∧ (∃ c', RqM r.1 b' j c' ∧ c' ≤ r.2) ∧ FrJ j b b') (fun e => BjM W j b e b')) := by
  have hT := hk.1.1
  have hpW := hk.2.2.2.2.2.2.1
  have hp3 := hk.2.2.2.2.2.1
  have hsr : srtT (tC W p) = 4 := by rw [hct]; rfl
  have heq := stm_mk (W := W) (S := S) (p := p) (k := 4) (mx := 30) (Y := rulT W S p) hsr (by decide) rfl (by unfold bodT; rw [hsr]; rfl)
  refine Ev.call (k := 2) (pc1 := 4) (L1 := [Vr 166, Vx]) (S1 := [Vl 26479, Vr 166]) (h1 := ((SHv st dr rd), (ovl a s b))) (m' := 162) (as := [Vr 166, Vl 26479]) (S' := []) (L0 := [Vr 166, Vl 26479, Vx]) (fun _ => rfl) rfl rfl rfl rfl rfl rfl (k_isWord (b := b) hk 6 (by decide) 26479 (by decide)) (fun r h' hq => ?_)
  obtain ⟨rfl, rfl⟩ := hq
  rw [if_neg (by omega)]
  show Ev X _ _ 7 [Vr 166, Vx] [Vi 0] ((SHv st dr rd), (ovl a s b)) _
  refine Ev.call (k := 3) (pc1 := 18) (L1 := [Vr 166, Vx]) (S1 := [Vl 1952541541, Vr 166]) (h1 := ((SHv st dr rd), (ovl a s b))) (m' := 162) (as := [Vr 166, Vl 1952541541]) (S' := []) (L0 := [Vr 166, Vl 1952541541, Vx]) (fun _ => rfl) rfl rfl rfl rfl rfl rfl (k_isWord (b := b) hk 7 (by decide) 1952541541 (by decide)) (fun r h' hq => ?_)
  obtain ⟨rfl, rfl⟩ := hq
  rw [if_neg (by omega)]
  show Ev X _ _ 21 [Vr 166, Vx] [Vi 0] ((SHv st dr rd), (ovl a s b)) _
  refine Ev.call (k := 3) (pc1 := 32) (L1 := [Vr 166, Vx]) (S1 := [Vl 7102841, Vr 166]) (h1 := ((SHv st dr rd), (ovl a s b))) (m' := 162) (as := [Vr 166, Vl 7102841]) (S' := []) (L0 := [Vr 166, Vl 7102841, Vx]) (fun _ => rfl) rfl rfl rfl rfl rfl rfl (k_isWord (b := b) hk 8 (by decide) 7102841 (by decide)) (fun r h' hq => ?_)
  obtain ⟨rfl, rfl⟩ := hq
  rw [if_neg (by omega)]
  show Ev X _ _ 35 [Vr 166, Vx] [Vi 0] ((SHv st dr rd), (ovl a s b)) _
  refine Ev.call (k := 3) (pc1 := 46) (L1 := [Vr 166, Vx]) (S1 := [Vl 2003398757, Vr 166]) (h1 := ((SHv st dr rd), (ovl a s b))) (m' := 162) (as := [Vr 166, Vl 2003398757]) (S' := []) (L0 := [Vr 166, Vl 2003398757, Vx]) (fun _ => rfl) rfl rfl rfl rfl rfl rfl (k_isWord (b := b) hk 9 (by decide) 2003398757 (by decide)) (fun r h' hq => ?_)
  obtain ⟨rfl, rfl⟩ := hq
  rw [if_pos (by omega)]
  show Ev X _ _ 49 [Vr 166, Vx] [Vi 1] ((SHv st dr rd), (ovl a s b)) _
  refine Ev.call (k := 9) (pc1 := 93) (L1 := [Vr 166, Vi 3]) (S1 := [Vi 3, Vr 166]) (h1 := ((SHv st dr rd), (ovl a s b))) (m' := 163) (as := [Vr 166, Vi 3]) (S' := []) (L0 := [Vr 166, Vi 3, Vx]) (fun _ => rfl) rfl rfl rfl rfl rfl rfl (m_rule3 hk hW hR hcp hW.2.2.2.2.1.2 hR.2.1.2.2.2.2.1 hW.2.2.2.2.1.1 hct) (fun r h' hq => ?_)
  obtain ⟨rfl, b1, rfl, hq⟩ := hq
  rcases hq with ⟨r1, hx1, hk1, ⟨c1, hR1, hc1⟩, hF1⟩ | ⟨e1, hx1, hb1⟩
  · show Ev X _ _ 96 [Vr 166, Vi 3] [] ((SHv st dr rd), (ovl a s b1)) _
    refine Ev.steps (k := 3) (pc' := 197) (L' := [Vr 166, Vi 3]) (S' := [Vi (b1 166 8)]) (h' := ((SHv st dr rd), (ovl a s b1))) (fun _ => rfl) ?_
    rw [hk1.2.1]
    refine Ev.call (k := 3) (pc1 := 203) (L1 := [Vr 166, Vi 3]) (S1 := [Vi 59, Vr 166]) (h1 := ((SHv st dr rd), (ovl a s b1))) (m' := 190) (as := [Vr 166, Vi 59]) (S' := []) (L0 := [Vr 166, Vi 59]) (fun _ => rfl) rfl rfl rfl rfl rfl rfl (m_mustS hk1 59 (by decide)) (fun r h' hq => ?_)
    obtain ⟨rfl, b2, rfl, hq⟩ := hq
    rcases hq with ⟨p2, hx2, ho2⟩ | ⟨e2, hx2, hb2⟩
    · show Ev X _ _ 206 [Vr 166, Vi 3] [] ((SHv st dr rd), (ovl a s b2)) _
      refine Ev.fin (k := 1) (r := none) (h' := ((SHv st dr rd), (ovl a s b2))) (fun _ => rfl) ?_
      have hsp : stmT W S p = .ok (r1.1, p2) := by rw [heq, hx1, bnX_o, hx2, bnX_o]
      exact ⟨rfl, b2, rfl, Or.inl ⟨(r1.1, p2), hsp, ho2.2, ⟨c1, hR1.fn ho2.1, by dsimp only; have h1 := (exp_ok hx2).2.1; have h2 := tok_rg (W := W) (p := r1.2) hk1.2.2.2.2.2.2.1 hT; omega⟩, hF1.fn ho2.1⟩⟩
    · show Ev X _ _ 206 [Vr 166, Vi 3] [] ((SHv st dr rd), (ovl a s b2)) _
      refine Ev.fin (k := 1) (r := none) (h' := ((SHv st dr rd), (ovl a s b2))) (fun _ => rfl) ?_
      exact ⟨rfl, b2, rfl, Or.inr ⟨e2, (by rw [heq, hx1, bnX_o, hx2, bnX_e]), FrP.bd hF1 hb2⟩⟩
  · show Ev X _ _ 96 [Vr 166, Vi 3] [] ((SHv st dr rd), (ovl a s b1)) _
    refine Ev.steps (k := 3) (pc' := 197) (L' := [Vr 166, Vi 3]) (S' := [Vi (b1 166 8)]) (h' := ((SHv st dr rd), (ovl a s b1))) (fun _ => rfl) ?_
    rw [hb1.2.2.2.1]
    refine Ev.ite (P := e1.1 ≠ 0) (k := 1) (a := 206) (b := 200) (L' := [Vr 166, Vi 3]) (S' := []) (h' := ((SHv st dr rd), (ovl a s b1))) (fun _ => rfl) (fun b197 => ?_) (fun b197 => ?_)
    · refine Ev.fin (k := 1) (r := none) (h' := ((SHv st dr rd), (ovl a s b1))) (fun _ => rfl) ?_
      exact ⟨rfl, b1, rfl, Or.inr ⟨e1, (by rw [heq, hx1, bnX_e]), hb1⟩⟩
    · have := hb1.2.2.1; omega
theorem m_st266 {X : List Int} {d : Nat} {st dr rd : Int} {a s b : C3} {W : TXT} {p : Nat} (hk : TkM W p b) {S : STY} (hW : WfY S) (hD : WfD S) {j c : Nat} (hR : RqM S b j c) (hcp : c ≤ p) (hct : tC W p = 266) : Ev X (d + 7) 161 0 [Vr 166, Vx] [] (SHv st dr rd, ovl a s b) (fun rr hh => rr = none ∧ ∃ b' : C3, hh = (SHv st dr rd, ovl a s b') ∧ ResC (stmT W S p) (fun r => TkM W r.2 b' ∧ (∃ c', RqM r.1 b' j c' ∧ c' ≤ r.2) ∧ FrJ j b b') (fun e => BjM W j b e b')) := by
  have hT := hk.1.1
  have hpW := hk.2.2.2.2.2.2.1
  have hp3 := hk.2.2.2.2.2.1
  have hsr : srtT (tC W p) = 4 := by rw [hct]; rfl
  have heq := stm_mk (W := W) (S := S) (p := p) (k := 4) (mx := 30) (Y := rulT W S p) hsr (by decide) rfl (by unfold bodT; rw [hsr]; rfl)
  refine Ev.call (k := 2) (pc1 := 4) (L1 := [Vr 166, Vx]) (S1 := [Vl 26479, Vr 166]) (h1 := ((SHv st dr rd), (ovl a s b))) (m' := 162) (as := [Vr 166, Vl 26479]) (S' := []) (L0 := [Vr 166, Vl 26479, Vx]) (fun _ => rfl) rfl rfl rfl rfl rfl rfl (k_isWord (b := b) hk 6 (by decide) 26479 (by decide)) (fun r h' hq => ?_)
  obtain ⟨rfl, rfl⟩ := hq
  rw [if_neg (by omega)]
  show Ev X _ _ 7 [Vr 166, Vx] [Vi 0] ((SHv st dr rd), (ovl a s b)) _
  refine Ev.call (k := 3) (pc1 := 18) (L1 := [Vr 166, Vx]) (S1 := [Vl 1952541541, Vr 166]) (h1 := ((SHv st dr rd), (ovl a s b))) (m' := 162) (as := [Vr 166, Vl 1952541541]) (S' := []) (L0 := [Vr 166, Vl 1952541541, Vx]) (fun _ => rfl) rfl rfl rfl rfl rfl rfl (k_isWord (b := b) hk 7 (by decide) 1952541541 (by decide)) (fun r h' hq => ?_)
  obtain ⟨rfl, rfl⟩ := hq
  rw [if_neg (by omega)]
  show Ev X _ _ 21 [Vr 166, Vx] [Vi 0] ((SHv st dr rd), (ovl a s b)) _
  refine Ev.call (k := 3) (pc1 := 32) (L1 := [Vr 166, Vx]) (S1 := [Vl 7102841, Vr 166]) (h1 := ((SHv st dr rd), (ovl a s b))) (m' := 162) (as := [Vr 166, Vl 7102841]) (S' := []) (L0 := [Vr 166, Vl 7102841, Vx]) (fun _ => rfl) rfl rfl rfl rfl rfl rfl (k_isWord (b := b) hk 8 (by decide) 7102841 (by decide)) (fun r h' hq => ?_)
  obtain ⟨rfl, rfl⟩ := hq
  rw [if_neg (by omega)]
  show Ev X _ _ 35 [Vr 166, Vx] [Vi 0] ((SHv st dr rd), (ovl a s b)) _
  refine Ev.call (k := 3) (pc1 := 46) (L1 := [Vr 166, Vx]) (S1 := [Vl 2003398757, Vr 166]) (h1 := ((SHv st dr rd), (ovl a s b))) (m' := 162) (as := [Vr 166, Vl 2003398757]) (S' := []) (L0 := [Vr 166, Vl 2003398757, Vx]) (fun _ => rfl) rfl rfl rfl rfl rfl rfl (k_isWord (b := b) hk 9 (by decide) 2003398757 (by decide)) (fun r h' hq => ?_)
  obtain ⟨rfl, rfl⟩ := hq
  rw [if_neg (by omega)]
  show Ev X _ _ 49 [Vr 166, Vx] [Vi 0] ((SHv st dr rd), (ovl a s b)) _
  refine Ev.call (k := 3) (pc1 := 60) (L1 := [Vr 166, Vx]) (S1 := [Vl 1717921132, Vr 166]) (h1 := ((SHv st dr rd), (ovl a s b))) (m' := 162) (as := [Vr 166, Vl 1717921132]) (S' := []) (L0 := [Vr 166, Vl 1717921132, Vx]) (fun _ => rfl) rfl rfl rfl rfl rfl rfl (k_isWord (b := b) hk 10 (by decide) 1717921132 (by decide)) (fun r h' hq => ?_)
  obtain ⟨rfl, rfl⟩ := hq
  rw [if_pos (by omega)]
  show Ev X _ _ 63 [Vr 166, Vx] [Vi 1] ((SHv st dr rd), (ovl a s b)) _
  refine Ev.call (k := 9) (pc1 := 93) (L1 := [Vr 166, Vi 4]) (S1 := [Vi 4, Vr 166]) (h1 := ((SHv st dr rd), (ovl a s b))) (m' := 163) (as := [Vr 166, Vi 4]) (S' := []) (L0 := [Vr 166, Vi 4, Vx]) (fun _ => rfl) rfl rfl rfl rfl rfl rfl (m_rule4 hk hW hR hcp hW.2.2.2.2.1.2 hR.2.1.2.2.2.2.1 hW.2.2.2.2.1.1 hct) (fun r h' hq => ?_)
  obtain ⟨rfl, b1, rfl, hq⟩ := hq
  rcases hq with ⟨r1, hx1, hk1, ⟨c1, hR1, hc1⟩, hF1⟩ | ⟨e1, hx1, hb1⟩
  · show Ev X _ _ 96 [Vr 166, Vi 4] [] ((SHv st dr rd), (ovl a s b1)) _
    refine Ev.steps (k := 3) (pc' := 197) (L' := [Vr 166, Vi 4]) (S' := [Vi (b1 166 8)]) (h' := ((SHv st dr rd), (ovl a s b1))) (fun _ => rfl) ?_
    rw [hk1.2.1]
    refine Ev.call (k := 3) (pc1 := 203) (L1 := [Vr 166, Vi 4]) (S1 := [Vi 59, Vr 166]) (h1 := ((SHv st dr rd), (ovl a s b1))) (m' := 190) (as := [Vr 166, Vi 59]) (S' := []) (L0 := [Vr 166, Vi 59]) (fun _ => rfl) rfl rfl rfl rfl rfl rfl (m_mustS hk1 59 (by decide)) (fun r h' hq => ?_)
    obtain ⟨rfl, b2, rfl, hq⟩ := hq
    rcases hq with ⟨p2, hx2, ho2⟩ | ⟨e2, hx2, hb2⟩
    · show Ev X _ _ 206 [Vr 166, Vi 4] [] ((SHv st dr rd), (ovl a s b2)) _
      refine Ev.fin (k := 1) (r := none) (h' := ((SHv st dr rd), (ovl a s b2))) (fun _ => rfl) ?_
      have hsp : stmT W S p = .ok (r1.1, p2) := by rw [heq, hx1, bnX_o, hx2, bnX_o]
      exact ⟨rfl, b2, rfl, Or.inl ⟨(r1.1, p2), hsp, ho2.2, ⟨c1, hR1.fn ho2.1, by dsimp only; have h1 := (exp_ok hx2).2.1; have h2 := tok_rg (W := W) (p := r1.2) hk1.2.2.2.2.2.2.1 hT; omega⟩, hF1.fn ho2.1⟩⟩
    · show Ev X _ _ 206 [Vr 166, Vi 4] [] ((SHv st dr rd), (ovl a s b2)) _
      refine Ev.fin (k := 1) (r := none) (h' := ((SHv st dr rd), (ovl a s b2))) (fun _ => rfl) ?_
      exact ⟨rfl, b2, rfl, Or.inr ⟨e2, (by rw [heq, hx1, bnX_o, hx2, bnX_e]), FrP.bd hF1 hb2⟩⟩
  · show Ev X _ _ 96 [Vr 166, Vi 4] [] ((SHv st dr rd), (ovl a s b1)) _
    refine Ev.steps (k := 3) (pc' := 197) (L' := [Vr 166, Vi 4]) (S' := [Vi (b1 166 8)]) (h' := ((SHv st dr rd), (ovl a s b1))) (fun _ => rfl) ?_
    rw [hb1.2.2.2.1]
    refine Ev.ite (P := e1.1 ≠ 0) (k := 1) (a := 206) (b := 200) (L' := [Vr 166, Vi 4]) (S' := []) (h' := ((SHv st dr rd), (ovl a s b1))) (fun _ => rfl) (fun b197 => ?_) (fun b197 => ?_)
    · refine Ev.fin (k := 1) (r := none) (h' := ((SHv st dr rd), (ovl a s b1))) (fun _ => rfl) ?_
      exact ⟨rfl, b1, rfl, Or.inr ⟨e1, (by rw [heq, hx1, bnX_e]), hb1⟩⟩
    · have := hb1.2.2.1; omega
theorem m_st267 {X : List Int} {d : Nat} {st dr rd : Int} {a s b : C3} {W : TXT} {p : Nat} (hk : TkM W p b) {S : STY} (hW : WfY S) (hD : WfD S) {j c : Nat} (hR : RqM S b j c) (hcp : c ≤ p) (hct : tC W p = 267) : Ev X (d + 7) 161 0 [Vr 166, Vx] [] (SHv st dr rd, ovl a s b) (fun rr hh => rr = none ∧ ∃ b' : C3, hh = (SHv st dr rd, ovl a s b') ∧ ResC (stmT W S p) (fun r => TkM W r.2 b' ∧ (∃ c', RqM r.1 b' j c' ∧ c' ≤ r.2) ∧ FrJ j b b') (fun e => BjM W j b e b')) := by
  have hT := hk.1.1
  have hpW := hk.2.2.2.2.2.2.1
  have hp3 := hk.2.2.2.2.2.1
  have hsr : srtT (tC W p) = 4 := by rw [hct]; rfl
  have heq := stm_mk (W := W) (S := S) (p := p) (k := 4) (mx := 30) (Y := rulT W S p) hsr (by decide) rfl (by unfold bodT; rw [hsr]; rfl)
  refine Ev.call (k := 2) (pc1 := 4) (L1 := [Vr 166, Vx]) (S1 := [Vl 26479, Vr 166]) (h1 := ((SHv st dr rd), (ovl a s b))) (m' := 162) (as := [Vr 166, Vl 26479]) (S' := []) (L0 := [Vr 166, Vl 26479, Vx]) (fun _ => rfl) rfl rfl rfl rfl rfl rfl (k_isWord (b := b) hk 6 (by decide) 26479 (by decide)) (fun r h' hq => ?_)
  obtain ⟨rfl, rfl⟩ := hq
  rw [if_neg (by omega)]
  show Ev X _ _ 7 [Vr 166, Vx] [Vi 0] ((SHv st dr rd), (ovl a s b)) _
  refine Ev.call (k := 3) (pc1 := 18) (L1 := [Vr 166, Vx]) (S1 := [Vl 1952541541, Vr 166]) (h1 := ((SHv st dr rd), (ovl a s b))) (m' := 162) (as := [Vr 166, Vl 1952541541]) (S' := []) (L0 := [Vr 166, Vl 1952541541, Vx]) (fun _ => rfl) rfl rfl rfl rfl rfl rfl (k_isWord (b := b) hk 7 (by decide) 1952541541 (by decide)) (fun r h' hq => ?_)
  obtain ⟨rfl, rfl⟩ := hq
  rw [if_neg (by omega)]
  show Ev X _ _ 21 [Vr 166, Vx] [Vi 0] ((SHv st dr rd), (ovl a s b)) _
  refine Ev.call (k := 3) (pc1 := 32) (L1 := [Vr 166, Vx]) (S1 := [Vl 7102841, Vr 166]) (h1 := ((SHv st dr rd), (ovl a s b))) (m' := 162) (as := [Vr 166, Vl 7102841]) (S' := []) (L0 := [Vr 166, Vl 7102841, Vx]) (fun _ => rfl) rfl rfl rfl rfl rfl rfl (k_isWord (b := b) hk 8 (by decide) 7102841 (by decide)) (fun r h' hq => ?_)
  obtain ⟨rfl, rfl⟩ := hq
  rw [if_neg (by omega)]
  show Ev X _ _ 35 [Vr 166, Vx] [Vi 0] ((SHv st dr rd), (ovl a s b)) _
  refine Ev.call (k := 3) (pc1 := 46) (L1 := [Vr 166, Vx]) (S1 := [Vl 2003398757, Vr 166]) (h1 := ((SHv st dr rd), (ovl a s b))) (m' := 162) (as := [Vr 166, Vl 2003398757]) (S' := []) (L0 := [Vr 166, Vl 2003398757, Vx]) (fun _ => rfl) rfl rfl rfl rfl rfl rfl (k_isWord (b := b) hk 9 (by decide) 2003398757 (by decide)) (fun r h' hq => ?_)
  obtain ⟨rfl, rfl⟩ := hq
  rw [if_neg (by omega)]
  show Ev X _ _ 49 [Vr 166, Vx] [Vi 0] ((SHv st dr rd), (ovl a s b)) _
  refine Ev.call (k := 3) (pc1 := 60) (L1 := [Vr 166, Vx]) (S1 := [Vl 1717921132, Vr 166]) (h1 := ((SHv st dr rd), (ovl a s b))) (m' := 162) (as := [Vr 166, Vl 1717921132]) (S' := []) (L0 := [Vr 166, Vl 1717921132, Vx]) (fun _ => rfl) rfl rfl rfl rfl rfl rfl (k_isWord (b := b) hk 10 (by decide) 1717921132 (by decide)) (fun r h' hq => ?_)
  obtain ⟨rfl, rfl⟩ := hq
  rw [if_neg (by omega)]
  show Ev X _ _ 63 [Vr 166, Vx] [Vi 0] ((SHv st dr rd), (ovl a s b)) _
  refine Ev.call (k := 3) (pc1 := 74) (L1 := [Vr 166, Vx]) (S1 := [Vl 1802071148, Vr 166]) (h1 := ((SHv st dr rd), (ovl a s b))) (m' := 162) (as := [Vr 166, Vl 1802071148]) (S' := []) (L0 := [Vr 166, Vl 1802071148, Vx]) (fun _ => rfl) rfl rfl rfl rfl rfl rfl (k_isWord (b := b) hk 11 (by decide) 1802071148 (by decide)) (fun r h' hq => ?_)
  obtain ⟨rfl, rfl⟩ := hq
  rw [if_pos (by omega)]
  show Ev X _ _ 77 [Vr 166, Vx] [Vi 1] ((SHv st dr rd), (ovl a s b)) _
  refine Ev.call (k := 9) (pc1 := 93) (L1 := [Vr 166, Vi 5]) (S1 := [Vi 5, Vr 166]) (h1 := ((SHv st dr rd), (ovl a s b))) (m' := 163) (as := [Vr 166, Vi 5]) (S' := []) (L0 := [Vr 166, Vi 5, Vx]) (fun _ => rfl) rfl rfl rfl rfl rfl rfl (m_rule5 hk hW hR hcp hW.2.2.2.2.1.2 hR.2.1.2.2.2.2.1 hW.2.2.2.2.1.1 hct) (fun r h' hq => ?_)
  obtain ⟨rfl, b1, rfl, hq⟩ := hq
  rcases hq with ⟨r1, hx1, hk1, ⟨c1, hR1, hc1⟩, hF1⟩ | ⟨e1, hx1, hb1⟩
  · show Ev X _ _ 96 [Vr 166, Vi 5] [] ((SHv st dr rd), (ovl a s b1)) _
    refine Ev.steps (k := 3) (pc' := 197) (L' := [Vr 166, Vi 5]) (S' := [Vi (b1 166 8)]) (h' := ((SHv st dr rd), (ovl a s b1))) (fun _ => rfl) ?_
    rw [hk1.2.1]
    refine Ev.call (k := 3) (pc1 := 203) (L1 := [Vr 166, Vi 5]) (S1 := [Vi 59, Vr 166]) (h1 := ((SHv st dr rd), (ovl a s b1))) (m' := 190) (as := [Vr 166, Vi 59]) (S' := []) (L0 := [Vr 166, Vi 59]) (fun _ => rfl) rfl rfl rfl rfl rfl rfl (m_mustS hk1 59 (by decide)) (fun r h' hq => ?_)
    obtain ⟨rfl, b2, rfl, hq⟩ := hq
    rcases hq with ⟨p2, hx2, ho2⟩ | ⟨e2, hx2, hb2⟩
    · show Ev X _ _ 206 [Vr 166, Vi 5] [] ((SHv st dr rd), (ovl a s b2)) _
      refine Ev.fin (k := 1) (r := none) (h' := ((SHv st dr rd), (ovl a s b2))) (fun _ => rfl) ?_
      have hsp : stmT W S p = .ok (r1.1, p2) := by rw [heq, hx1, bnX_o, hx2, bnX_o]
      exact ⟨rfl, b2, rfl, Or.inl ⟨(r1.1, p2), hsp, ho2.2, ⟨c1, hR1.fn ho2.1, by dsimp only; have h1 := (exp_ok hx2).2.1; have h2 := tok_rg (W := W) (p := r1.2) hk1.2.2.2.2.2.2.1 hT; omega⟩, hF1.fn ho2.1⟩⟩
    · show Ev X _ _ 206 [Vr 166, Vi 5] [] ((SHv st dr rd), (ovl a s b2)) _
      refine Ev.fin (k := 1) (r := none) (h' := ((SHv st dr rd), (ovl a s b2))) (fun _ => rfl) ?_
      exact ⟨rfl, b2, rfl, Or.inr ⟨e2, (by rw [heq, hx1, bnX_o, hx2, bnX_e]), FrP.bd hF1 hb2⟩⟩
  · show Ev X _ _ 96 [Vr 166, Vi 5] [] ((SHv st dr rd), (ovl a s b1)) _
    refine Ev.steps (k := 3) (pc' := 197) (L' := [Vr 166, Vi 5]) (S' := [Vi (b1 166 8)]) (h' := ((SHv st dr rd), (ovl a s b1))) (fun _ => rfl) ?_
    rw [hb1.2.2.2.1]
    refine Ev.ite (P := e1.1 ≠ 0) (k := 1) (a := 206) (b := 200) (L' := [Vr 166, Vi 5]) (S' := []) (h' := ((SHv st dr rd), (ovl a s b1))) (fun _ => rfl) (fun b197 => ?_) (fun b197 => ?_)
    · refine Ev.fin (k := 1) (r := none) (h' := ((SHv st dr rd), (ovl a s b1))) (fun _ => rfl) ?_
      exact ⟨rfl, b1, rfl, Or.inr ⟨e1, (by rw [heq, hx1, bnX_e]), hb1⟩⟩
    · have := hb1.2.2.1; omega
theorem m_st_no {X : List Int} {d : Nat} {st dr rd : Int} {a s b : C3} {W : TXT} {p : Nat} (hk : TkM W p b) {S : STY} {j : Nat} (hct : srtT (tC W p) = 6) : Ev X (d + 7) 161 0 [Vr 166, Vx] [] (SHv st dr rd, ovl a s b) (fun rr hh => rr = none ∧ ∃ b' : C3, hh = (SHv st dr rd, ovl a s b') ∧ ResC (stmT W S p) (fun r => False) (fun e => BjM W j b e b')) := by
  obtain ⟨q0, q1, q2, q3, q5, q4, -⟩ := srt_c (c := tC W p)
  have hno : tC W p ≠ 256 ∧ tC W p ≠ 257 ∧ tC W p ≠ 258 ∧ tC W p ≠ 260 ∧ tC W p ≠ 261 ∧ (tC W p < 262 ∨ 267 < tC W p) := ⟨fun h => by have := q0.mpr h; omega, fun h => by have := q1.mpr h; omega, fun h => by have := q2.mpr h; omega, fun h => by have := q3.mpr h; omega, fun h => by have := q5.mpr h; omega, Classical.byContradiction (fun h => by have := q4.mpr (by omega); omega)⟩
  clear q0 q1 q2 q3 q4 q5
  refine Ev.call (k := 2) (pc1 := 4) (L1 := [Vr 166, Vx]) (S1 := [Vl 26479, Vr 166]) (h1 := ((SHv st dr rd), (ovl a s b))) (m' := 162) (as := [Vr 166, Vl 26479]) (S' := []) (L0 := [Vr 166, Vl 26479, Vx]) (fun _ => rfl) rfl rfl rfl rfl rfl rfl (k_isWord (b := b) hk 6 (by decide) 26479 (by decide)) (fun r h' hq => ?_)
  obtain ⟨rfl, rfl⟩ := hq
  rw [if_neg (by omega)]
  show Ev X _ _ 7 [Vr 166, Vx] [Vi 0] ((SHv st dr rd), (ovl a s b)) _
  refine Ev.call (k := 3) (pc1 := 18) (L1 := [Vr 166, Vx]) (S1 := [Vl 1952541541, Vr 166]) (h1 := ((SHv st dr rd), (ovl a s b))) (m' := 162) (as := [Vr 166, Vl 1952541541]) (S' := []) (L0 := [Vr 166, Vl 1952541541, Vx]) (fun _ => rfl) rfl rfl rfl rfl rfl rfl (k_isWord (b := b) hk 7 (by decide) 1952541541 (by decide)) (fun r h' hq => ?_)
  obtain ⟨rfl, rfl⟩ := hq
  rw [if_neg (by omega)]
  show Ev X _ _ 21 [Vr 166, Vx] [Vi 0] ((SHv st dr rd), (ovl a s b)) _
  refine Ev.call (k := 3) (pc1 := 32) (L1 := [Vr 166, Vx]) (S1 := [Vl 7102841, Vr 166]) (h1 := ((SHv st dr rd), (ovl a s b))) (m' := 162) (as := [Vr 166, Vl 7102841]) (S' := []) (L0 := [Vr 166, Vl 7102841, Vx]) (fun _ => rfl) rfl rfl rfl rfl rfl rfl (k_isWord (b := b) hk 8 (by decide) 7102841 (by decide)) (fun r h' hq => ?_)
  obtain ⟨rfl, rfl⟩ := hq
  rw [if_neg (by omega)]
  show Ev X _ _ 35 [Vr 166, Vx] [Vi 0] ((SHv st dr rd), (ovl a s b)) _
  refine Ev.call (k := 3) (pc1 := 46) (L1 := [Vr 166, Vx]) (S1 := [Vl 2003398757, Vr 166]) (h1 := ((SHv st dr rd), (ovl a s b))) (m' := 162) (as := [Vr 166, Vl 2003398757]) (S' := []) (L0 := [Vr 166, Vl 2003398757, Vx]) (fun _ => rfl) rfl rfl rfl rfl rfl rfl (k_isWord (b := b) hk 9 (by decide) 2003398757 (by decide)) (fun r h' hq => ?_)
  obtain ⟨rfl, rfl⟩ := hq
  rw [if_neg (by omega)]
  show Ev X _ _ 49 [Vr 166, Vx] [Vi 0] ((SHv st dr rd), (ovl a s b)) _
  refine Ev.call (k := 3) (pc1 := 60) (L1 := [Vr 166, Vx]) (S1 := [Vl 1717921132, Vr 166]) (h1 := ((SHv st dr rd), (ovl a s b))) (m' := 162) (as := [Vr 166, Vl 1717921132]) (S' := []) (L0 := [Vr 166, Vl 1717921132, Vx]) (fun _ => rfl) rfl rfl rfl rfl rfl rfl (k_isWord (b := b) hk 10 (by decide) 1717921132 (by decide)) (fun r h' hq => ?_)
  obtain ⟨rfl, rfl⟩ := hq
  rw [if_neg (by omega)]
  show Ev X _ _ 63 [Vr 166, Vx] [Vi 0] ((SHv st dr rd), (ovl a s b)) _
  refine Ev.call (k := 3) (pc1 := 74) (L1 := [Vr 166, Vx]) (S1 := [Vl 1802071148, Vr 166]) (h1 := ((SHv st dr rd), (ovl a s b))) (m' := 162) (as := [Vr 166, Vl 1802071148]) (S' := []) (L0 := [Vr 166, Vl 1802071148, Vx]) (fun _ => rfl) rfl rfl rfl rfl rfl rfl (k_isWord (b := b) hk 11 (by decide) 1802071148 (by decide)) (fun r h' hq => ?_)
  obtain ⟨rfl, rfl⟩ := hq
  rw [if_neg (by omega)]
  show Ev X _ _ 77 [Vr 166, Vx] [Vi 0] ((SHv st dr rd), (ovl a s b)) _
  refine Ev.call (k := 8) (pc1 := 103) (L1 := [Vr 166, Vi (-1)]) (S1 := [Vl 1919905645, Vr 166]) (h1 := ((SHv st dr rd), (ovl a s b))) (m' := 162) (as := [Vr 166, Vl 1919905645]) (S' := []) (L0 := [Vr 166, Vl 1919905645, Vx]) (fun _ => rfl) rfl rfl rfl rfl rfl rfl (k_isWord (b := b) hk 0 (by decide) 1919905645 (by decide)) (fun r h' hq => ?_)
  obtain ⟨rfl, rfl⟩ := hq
  rw [if_neg (by omega)]
  show Ev X _ _ 106 [Vr 166, Vi (-1)] [Vi 0] ((SHv st dr rd), (ovl a s b)) _
  refine Ev.call (k := 3) (pc1 := 120) (L1 := [Vr 166, Vi (-1)]) (S1 := [Vl 1685024626, Vr 166]) (h1 := ((SHv st dr rd), (ovl a s b))) (m' := 162) (as := [Vr 166, Vl 1685024626]) (S' := []) (L0 := [Vr 166, Vl 1685024626, Vx]) (fun _ => rfl) rfl rfl rfl rfl rfl rfl (k_isWord (b := b) hk 1 (by decide) 1685024626 (by decide)) (fun r h' hq => ?_)
  obtain ⟨rfl, rfl⟩ := hq
  rw [if_neg (by omega)]
  show Ev X _ _ 123 [Vr 166, Vi (-1)] [Vi 0] ((SHv st dr rd), (ovl a s b)) _
  refine Ev.call (k := 3) (pc1 := 137) (L1 := [Vr 166, Vi (-1)]) (S1 := [Vl 7825519, Vr 166]) (h1 := ((SHv st dr rd), (ovl a s b))) (m' := 162) (as := [Vr 166, Vl 7825519]) (S' := []) (L0 := [Vr 166, Vl 7825519, Vx]) (fun _ => rfl) rfl rfl rfl rfl rfl rfl (k_isWord (b := b) hk 2 (by decide) 7825519 (by decide)) (fun r h' hq => ?_)
  obtain ⟨rfl, rfl⟩ := hq
  rw [if_neg (by omega)]
  show Ev X _ _ 140 [Vr 166, Vi (-1)] [Vi 0] ((SHv st dr rd), (ovl a s b)) _
  refine Ev.call (k := 3) (pc1 := 154) (L1 := [Vr 166, Vi (-1)]) (S1 := [Vl 499967946343, Vr 166]) (h1 := ((SHv st dr rd), (ovl a s b))) (m' := 162) (as := [Vr 166, Vl 499967946343]) (S' := []) (L0 := [Vr 166, Vl 499967946343, Vx]) (fun _ => rfl) rfl rfl rfl rfl rfl rfl (k_isWord (b := b) hk 4 (by decide) 499967946343 (by decide)) (fun r h' hq => ?_)
  obtain ⟨rfl, rfl⟩ := hq
  rw [if_neg (by omega)]
  show Ev X _ _ 157 [Vr 166, Vi (-1)] [Vi 0] ((SHv st dr rd), (ovl a s b)) _
  refine Ev.call (k := 3) (pc1 := 171) (L1 := [Vr 166, Vi (-1)]) (S1 := [Vl 1935767923, Vr 166]) (h1 := ((SHv st dr rd), (ovl a s b))) (m' := 162) (as := [Vr 166, Vl 1935767923]) (S' := []) (L0 := [Vr 166, Vl 1935767923, Vx]) (fun _ => rfl) rfl rfl rfl rfl rfl rfl (k_isWord (b := b) hk 5 (by decide) 1935767923 (by decide)) (fun r h' hq => ?_)
  obtain ⟨rfl, rfl⟩ := hq
  rw [if_neg (by omega)]
  show Ev X _ _ 174 [Vr 166, Vi (-1)] [Vi 0] ((SHv st dr rd), (ovl a s b)) _
  refine Ev.steps (k := 5) (pc' := 190) (L' := [Vr 166, Vi (-1)]) (S' := [Vi (b 166 4), Vi 1, Vr 166]) (h' := ((SHv st dr rd), (ovl a s b))) (fun _ => rfl) ?_
  rw [hk.2.2.2.2.1]
  refine Ev.call (k := 0) (pc1 := 190) (L1 := [Vr 166, Vi (-1)]) (S1 := [Vi ((tA W p : Nat) : Int), Vi 1, Vr 166]) (h1 := ((SHv st dr rd), (ovl a s b))) (m' := 160) (as := [Vr 166, Vi 1, Vi ((tA W p : Nat) : Int)]) (S' := []) (L0 := [Vr 166, Vi 1, Vi ((tA W p : Nat) : Int)]) (fun _ => rfl) rfl rfl rfl rfl rfl rfl (m_bl (b := b) hk 1 (by decide)) (fun r h' hq => ?_)
  obtain ⟨rfl, bq1, rfl, hbq1⟩ := hq
  show Ev X _ _ 193 [Vr 166, Vi (-1)] [] ((SHv st dr rd), (ovl a s bq1)) _
  refine Ev.steps (k := 2) (pc' := 197) (L' := [Vr 166, Vi (-1)]) (S' := [Vi (bq1 166 8)]) (h' := ((SHv st dr rd), (ovl a s bq1))) (fun _ => rfl) ?_
  rw [hbq1.2.2.2.1]
  refine Ev.ite (P := (fltT W 1 p).1 ≠ 0) (k := 1) (a := 206) (b := 200) (L' := [Vr 166, Vi (-1)]) (S' := []) (h' := ((SHv st dr rd), (ovl a s bq1))) (fun _ => rfl) (fun b197 => ?_) (fun b197 => ?_)
  · refine Ev.fin (k := 1) (r := none) (h' := ((SHv st dr rd), (ovl a s bq1))) (fun _ => rfl) ?_
    exact ⟨rfl, _, rfl, Or.inr ⟨(fltT W 1 p), (by unfold stmT; rw [if_pos hct]), (FrP.rf : FrJ j b b).fn hbq1.1, hbq1.2⟩⟩
  · have := hbq1.2.2.1; omega
theorem m_statement {X : List Int} {d : Nat} {st dr rd : Int} {a s b : C3} {W : TXT} {p : Nat} (hk : TkM W p b) {S : STY} (hW : WfY S) (hD : WfD S) {j c : Nat} (hR : RqM S b j c) (hcp : c ≤ p) : Ev X (d + 7) 161 0 [Vr 166, Vx] [] (SHv st dr rd, ovl a s b) (fun rr hh => rr = none ∧ ∃ b' : C3, hh = (SHv st dr rd, ovl a s b') ∧ ResC (stmT W S p) (fun r => TkM W r.2 b' ∧ (∃ c', RqM r.1 b' j c' ∧ c' ≤ r.2) ∧ FrJ j b b') (fun e => BjM W j b e b')) := by
  obtain ⟨q0, q1, q2, q3, q5, q4, q6⟩ := srt_c (c := tC W p)
  rcases (show srtT (tC W p) = 0 ∨ srtT (tC W p) = 1 ∨ srtT (tC W p) = 2 ∨ srtT (tC W p) = 3 ∨ srtT (tC W p) = 4 ∨ srtT (tC W p) = 5 ∨ srtT (tC W p) = 6 by omega) with h | h | h | h | h | h | h
  · exact m_st256 hk hW hD hR hcp (q0.mp h)
  · exact m_st257 hk hW hD hR hcp (q1.mp h)
  · exact m_st258 hk hW hD hR hcp (q2.mp h)
  · exact m_st260 hk hW hD hR hcp (q3.mp h)
  · have h4 := q4.mp h
    rcases (show tC W p = 262 ∨ tC W p = 263 ∨ tC W p = 264 ∨ tC W p = 265 ∨ tC W p = 266 ∨ tC W p = 267 by omega) with g | g | g | g | g | g
    · exact m_st262 hk hW hD hR hcp g
    · exact m_st263 hk hW hD hR hcp g
    · exact m_st264 hk hW hD hR hcp g
    · exact m_st265 hk hW hD hR hcp g
    · exact m_st266 hk hW hD hR hcp g
    · exact m_st267 hk hW hD hR hcp g
  · exact m_st261 hk hW hD hR hcp (q5.mp h)
  · refine (m_st_no (j := j) (S := S) hk h).mono ?_
    rintro r h' ⟨g1, b', g2, g3⟩
    refine ⟨g1, b', g2, ?_⟩
    rcases g3 with ⟨r', _, hf⟩ | g3
    · exact hf.elim
    · exact Or.inr g3
