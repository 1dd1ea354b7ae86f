/-! THE REFERENCE READS: names, numbers, signs -/
section TKM
variable {W : TXT} {p : Nat} {b : SC}
theorem TkM.cl (h : TkM W p b) : tC W p < 256 ∨ (256 ≤ tC W p ∧ tC W p < 283) ∨ tC W p = 300 ∨ tC W p = 301 ∨ tC W p = 302 := by
  have h1 := (tok_pr h.2.2.2.2.2.2.1 h.1.1).2.2.2.2.2.2.2.2
  have h2 := h.2.2.2.2.2.1
  omega
theorem TkM.sg (h : TkM W p b) {c : Nat} (hc : c < 256) : (b 166 3 = 3 ∧ b 166 6 = (c : Int)) ↔ tC W p = c := by
  obtain ⟨-, -, -, -, -, -, -, h1, h2, h3, h4⟩ := id h
  rcases h.cl with g | g | g | g | g
  · have := h2 g
    rw [this.1, this.2]
    exact ⟨fun q => by omega, fun q => ⟨rfl, by omega⟩⟩
  · have := (h3 g.1 (by omega)).1
    exact ⟨fun q => by omega, fun q => by omega⟩
  · have := (h3 (by omega) (by omega)).1
    exact ⟨fun q => by omega, fun q => by omega⟩
  · have := (h4 g).1
    exact ⟨fun q => by omega, fun q => by omega⟩
  · have := h1 g
    exact ⟨fun q => by omega, fun q => by omega⟩
theorem TkM.wd (h : TkM W p b) {i : Nat} (hi : i < 27) : (b 166 3 = 1 ∧ b 166 7 = ((ownG i : Nat) : Int)) ↔ tC W p = 256 + i := by
  obtain ⟨-, -, -, -, -, -, -, h1, h2, h3, h4⟩ := id h
  have htp := tok_pr h.2.2.2.2.2.2.1 h.1.1
  rcases h.cl with g | g | g | g | g
  · have := (h2 g).1
    exact ⟨fun q => by omega, fun q => by omega⟩
  · have g2 := h3 g.1 (by omega)
    have g3 := htp.2.2.2.2.2.2.2.1 g.1 g.2
    constructor
    · intro q
      have e : ownG (tC W p - 256) = ownG i := by have := q.2; rw [g2.2, g3] at this; exact Int.ofNat_inj.mp this
      have := congrArg Fin.val (own_ij ⟨tC W p - 256, by omega⟩ ⟨i, hi⟩ e)
      dsimp only at this
      omega
    · intro q
      refine ⟨g2.1, ?_⟩
      rw [g2.2, g3, q, Nat.add_sub_cancel_left]
  · have g2 := h3 (by omega) (by omega)
    have g3 := (htp.2.2.2.2.2.1 g).2 i hi
    exact ⟨fun q => absurd (by have := q.2; rw [g2.2] at this; exact (Int.ofNat_inj.mp this).symm) g3, fun q => by omega⟩
  · have := (h4 g).1
    exact ⟨fun q => by omega, fun q => by omega⟩
  · have := h1 g
    exact ⟨fun q => by omega, fun q => by omega⟩
theorem TkM.nm (h : TkM W p b) (hc : tC W p = 300) : b 166 3 = 1 ∧ b 166 7 = ((tV W p : Nat) : Int) ∧ ¬ ∃ i, i < 27 ∧ ownG i = tV W p := by
  obtain ⟨-, -, -, -, -, -, -, h1, h2, h3, h4⟩ := id h
  have htp := tok_pr h.2.2.2.2.2.2.1 h.1.1
  have g2 := h3 (by omega) (by omega)
  exact ⟨g2.1, g2.2, fun ⟨i, hi, e⟩ => (htp.2.2.2.2.2.1 hc).2 i hi e⟩
theorem TkM.ow (h : TkM W p b) (hc : 256 ≤ tC W p ∧ tC W p < 283) : b 166 3 = 1 ∧ b 166 7 = ((tV W p : Nat) : Int) ∧ ∃ i, i < 27 ∧ ownG i = tV W p := by
  obtain ⟨-, -, -, -, -, -, -, h1, h2, h3, h4⟩ := id h
  have htp := tok_pr h.2.2.2.2.2.2.1 h.1.1
  have g2 := h3 (by omega) (by omega)
  exact ⟨g2.1, g2.2, tC W p - 256, by omega, (htp.2.2.2.2.2.2.2.1 hc.1 hc.2).symm⟩
theorem TkM.n1 (h : TkM W p b) (h1 : tC W p ≠ 300) (h2 : ¬ (256 ≤ tC W p ∧ tC W p < 283)) : b 166 3 ≠ 1 := by
  obtain ⟨-, -, -, -, -, -, -, g1, g2, g3, g4⟩ := id h
  rcases h.cl with g | g | g | g | g
  · have := (g2 g).1; omega
  · exact absurd g h2
  · exact absurd g h1
  · have := (g4 g).1; omega
  · have := g1 g; omega
end TKM
theorem k_isSign {X : List Int} {d : Nat} {st dr rd : Int} {a s b : C3} {W : TXT} {p : Nat} (hk : TkM W p b) (c : Nat) (hc : c < 256) : Ev X d 174 0 [Vr 166, Vi (c : Int)] [] (SHv st dr rd, ovl a s b) (fun rr hh => rr = some (Vi (if tC W p = c then 1 else 0)) ∧ hh = (SHv st dr rd, ovl a s b)) := by
  have h := m_isSign (X := X) (d := d) (st := st) (dr := dr) (rd := rd) (a := a) (s := s) (b := b) (c : Int)
  rw [show (if b 166 3 = 3 ∧ b 166 6 = (c : Int) then (1 : Int) else 0) = if tC W p = c then 1 else 0 from ite_cg (hk.sg hc)] at h
  exact h
theorem m_isWord {X : List Int} {d : Nat} {st dr rd : Int} {a s b : C3} (w : Int) : Ev X d 162 0 [Vr 166, Vl w, Vx] [] (SHv st dr rd, ovl a s b) (fun rr hh => rr = some (Vi (if b 166 3 = 1 ∧ b 166 7 = w then 1 else 0)) ∧ hh = (SHv st dr rd, ovl a s b)) := by
  refine Ev.ite (P := (b 166 3) ≠ 1) (k := 4) (a := 21) (b := 8) (L' := [Vr 166, Vl w, Vx]) (S' := []) (h' := ((SHv st dr rd), (ovl a s b))) (fun _ => rfl) (fun b5 => ?_) (fun b5 => ?_)
  · refine Ev.fin (k := 2) (r := (some (Vi 0))) (h' := ((SHv st dr rd), (ovl a s b))) (fun _ => rfl) ?_
    refine ⟨?_, rfl⟩
    first
      | (rw [if_pos ⟨Classical.not_not.mp (by assumption), by omega⟩]; done)
      | (rw [if_neg (fun h => by omega)]; done)
  · refine Ev.ite (P := (l_cmp (b 166 7) w) ≠ 0) (k := 5) (a := 21) (b := 17) (L' := [Vr 166, Vl w, Vx]) (S' := []) (h' := ((SHv st dr rd), (ovl a s b))) (fun _ => rfl) (fun b14 => ?_) (fun b14 => ?_)
    · rw [lc_ne] at b14
      refine Ev.fin (k := 2) (r := (some (Vi 0))) (h' := ((SHv st dr rd), (ovl a s b))) (fun _ => rfl) ?_
      refine ⟨?_, rfl⟩
      first
        | (rw [if_pos ⟨Classical.not_not.mp (by assumption), by omega⟩]; done)
        | (rw [if_neg (fun h => by omega)]; done)
    · rw [lc_ne] at b14
      refine Ev.fin (k := 3) (r := (some (Vi 1))) (h' := ((SHv st dr rd), (ovl a s b))) (fun _ => rfl) ?_
      refine ⟨?_, rfl⟩
      first
        | (rw [if_pos ⟨Classical.not_not.mp (by assumption), by omega⟩]; done)
        | (rw [if_neg (fun h => by omega)]; done)
theorem k_isWord {X : List Int} {d : Nat} {st dr rd : Int} {a s b : C3} {W : TXT} {p : Nat} (hk : TkM W p b) (i : Nat) (hi : i < 27) (w : Int) (hw : w = ((ownG i : Nat) : Int)) : Ev X d 162 0 [Vr 166, Vl w, Vx] [] (SHv st dr rd, ovl a s b) (fun rr hh => rr = some (Vi (if tC W p = 256 + i then 1 else 0)) ∧ hh = (SHv st dr rd, ovl a s b)) := by
  have h := m_isWord (X := X) (d := d) (st := st) (dr := dr) (rd := rd) (a := a) (s := s) (b := b) w
  rw [show (if b 166 3 = 1 ∧ b 166 7 = w then (1 : Int) else 0) = if tC W p = 256 + i then 1 else 0 from ite_cg (by rw [hw]; exact hk.wd hi)] at h
  exact h
theorem tcW_ow {w : Nat} : (∃ i, i < 27 ∧ ownG i = w) ↔ tcW w ≠ 300 := by
  rcases tcW_cs w with ⟨h1, h2, h3⟩ | ⟨h1, h2⟩
  · exact ⟨fun _ => by omega, fun _ => ⟨tcW w - 256, by omega, h3⟩⟩
  · exact ⟨fun ⟨i, hi, e⟩ => absurd e (h2 i hi), fun h => absurd h1 h⟩
theorem m_isOwn {X : List Int} {d : Nat} {st dr rd : Int} {a s b : C3} (w : Nat) : Ev X d 167 0 [Vr 166, Vl (w : Int), Vx] [] (SHv st dr rd, ovl a s b) (fun rr hh => rr = some (Vi (if tcW w ≠ 300 then 1 else 0)) ∧ hh = (SHv st dr rd, ovl a s b)) := by
  refine Ev.ite (P := (l_cmp (w : Int) 1919905645) = 0) (k := 4) (a := 40) (b := 8) (L' := [Vr 166, Vl (w : Int), Vx]) (S' := []) (h' := ((SHv st dr rd), (ovl a s b))) (fun _ => rfl) (fun b5 => ?_) (fun b5 => ?_)
  · rw [lc_eq] at b5
    refine Ev.fin (k := 2) (r := (some (Vi 1))) (h' := ((SHv st dr rd), (ovl a s b))) (fun _ => rfl) ?_
    refine ⟨?_, rfl⟩
    rw [if_pos ?_]
    refine tcW_ow.mp ?_
    first
      | exact ⟨0, by decide, by show 1919905645 = w; omega⟩
      | exact ⟨1, by decide, by show 1685024626 = w; omega⟩
      | exact ⟨2, by decide, by show 7825519 = w; omega⟩
      | exact ⟨3, by decide, by show 26990 = w; omega⟩
      | exact ⟨4, by decide, by show 499967946343 = w; omega⟩
      | exact ⟨5, by decide, by show 1935767923 = w; omega⟩
      | exact ⟨6, by decide, by show 26479 = w; omega⟩
      | exact ⟨7, by decide, by show 1952541541 = w; omega⟩
      | exact ⟨8, by decide, by show 7102841 = w; omega⟩
      | exact ⟨9, by decide, by show 2003398757 = w; omega⟩
      | exact ⟨10, by decide, by show 1717921132 = w; omega⟩
      | exact ⟨11, by decide, by show 1802071148 = w; omega⟩
      | exact ⟨12, by decide, by show 2003330414 = w; omega⟩
      | exact ⟨13, by decide, by show 28530 = w; omega⟩
      | exact ⟨14, by decide, by show 6385252 = w; omega⟩
      | exact ⟨15, by decide, by show 7237492 = w; omega⟩
      | exact ⟨16, by decide, by show 6384748 = w; omega⟩
      | exact ⟨17, by decide, by show 24948 = w; omega⟩
      | exact ⟨18, by decide, by show 6840691 = w; omega⟩
      | exact ⟨19, by decide, by show 1852137842 = w; omega⟩
      | exact ⟨20, by decide, by show 418431069797 = w; omega⟩
      | exact ⟨21, by decide, by show 1684365668 = w; omega⟩
      | exact ⟨22, by decide, by show 461414299507 = w; omega⟩
      | exact ⟨23, by decide, by show 120299592184933 = w; omega⟩
      | exact ⟨24, by decide, by show 1836019556 = w; omega⟩
      | exact ⟨25, by decide, by show 7170414 = w; omega⟩
      | exact ⟨26, by decide, by show 7168376 = w; omega⟩
  · rw [lc_eq] at b5
    refine Ev.ite (P := (l_cmp (w : Int) 1685024626) = 0) (k := 4) (a := 40) (b := 16) (L' := [Vr 166, Vl (w : Int), Vx]) (S' := []) (h' := ((SHv st dr rd), (ovl a s b))) (fun _ => rfl) (fun b13 => ?_) (fun b13 => ?_)
    · rw [lc_eq] at b13
      refine Ev.fin (k := 2) (r := (some (Vi 1))) (h' := ((SHv st dr rd), (ovl a s b))) (fun _ => rfl) ?_
      refine ⟨?_, rfl⟩
      rw [if_pos ?_]
      refine tcW_ow.mp ?_
      first
        | exact ⟨0, by decide, by show 1919905645 = w; omega⟩
        | exact ⟨1, by decide, by show 1685024626 = w; omega⟩
        | exact ⟨2, by decide, by show 7825519 = w; omega⟩
        | exact ⟨3, by decide, by show 26990 = w; omega⟩
        | exact ⟨4, by decide, by show 499967946343 = w; omega⟩
        | exact ⟨5, by decide, by show 1935767923 = w; omega⟩
        | exact ⟨6, by decide, by show 26479 = w; omega⟩
        | exact ⟨7, by decide, by show 1952541541 = w; omega⟩
        | exact ⟨8, by decide, by show 7102841 = w; omega⟩
        | exact ⟨9, by decide, by show 2003398757 = w; omega⟩
        | exact ⟨10, by decide, by show 1717921132 = w; omega⟩
        | exact ⟨11, by decide, by show 1802071148 = w; omega⟩
        | exact ⟨12, by decide, by show 2003330414 = w; omega⟩
        | exact ⟨13, by decide, by show 28530 = w; omega⟩
        | exact ⟨14, by decide, by show 6385252 = w; omega⟩
        | exact ⟨15, by decide, by show 7237492 = w; omega⟩
        | exact ⟨16, by decide, by show 6384748 = w; omega⟩
        | exact ⟨17, by decide, by show 24948 = w; omega⟩
        | exact ⟨18, by decide, by show 6840691 = w; omega⟩
        | exact ⟨19, by decide, by show 1852137842 = w; omega⟩
        | exact ⟨20, by decide, by show 418431069797 = w; omega⟩
        | exact ⟨21, by decide, by show 1684365668 = w; omega⟩
        | exact ⟨22, by decide, by show 461414299507 = w; omega⟩
        | exact ⟨23, by decide, by show 120299592184933 = w; omega⟩
        | exact ⟨24, by decide, by show 1836019556 = w; omega⟩
        | exact ⟨25, by decide, by show 7170414 = w; omega⟩
        | exact ⟨26, by decide, by show 7168376 = w; omega⟩
    · rw [lc_eq] at b13
      refine Ev.ite (P := (l_cmp (w : Int) 7825519) = 0) (k := 4) (a := 40) (b := 24) (L' := [Vr 166, Vl (w : Int), Vx]) (S' := []) (h' := ((SHv st dr rd), (ovl a s b))) (fun _ => rfl) (fun b21 => ?_) (fun b21 => ?_)
      · rw [lc_eq] at b21
        refine Ev.fin (k := 2) (r := (some (Vi 1))) (h' := ((SHv st dr rd), (ovl a s b))) (fun _ => rfl) ?_
        refine ⟨?_, rfl⟩
        rw [if_pos ?_]
        refine tcW_ow.mp ?_
        first
          | exact ⟨0, by decide, by show 1919905645 = w; omega⟩
          | exact ⟨1, by decide, by show 1685024626 = w; omega⟩
          | exact ⟨2, by decide, by show 7825519 = w; omega⟩
          | exact ⟨3, by decide, by show 26990 = w; omega⟩
          | exact ⟨4, by decide, by show 499967946343 = w; omega⟩
          | exact ⟨5, by decide, by show 1935767923 = w; omega⟩
          | exact ⟨6, by decide, by show 26479 = w; omega⟩
          | exact ⟨7, by decide, by show 1952541541 = w; omega⟩
          | exact ⟨8, by decide, by show 7102841 = w; omega⟩
          | exact ⟨9, by decide, by show 2003398757 = w; omega⟩
          | exact ⟨10, by decide, by show 1717921132 = w; omega⟩
          | exact ⟨11, by decide, by show 1802071148 = w; omega⟩
          | exact ⟨12, by decide, by show 2003330414 = w; omega⟩
          | exact ⟨13, by decide, by show 28530 = w; omega⟩
          | exact ⟨14, by decide, by show 6385252 = w; omega⟩
          | exact ⟨15, by decide, by show 7237492 = w; omega⟩
          | exact ⟨16, by decide, by show 6384748 = w; omega⟩
          | exact ⟨17, by decide, by show 24948 = w; omega⟩
          | exact ⟨18, by decide, by show 6840691 = w; omega⟩
          | exact ⟨19, by decide, by show 1852137842 = w; omega⟩
          | exact ⟨20, by decide, by show 418431069797 = w; omega⟩
          | exact ⟨21, by decide, by show 1684365668 = w; omega⟩
          | exact ⟨22, by decide, by show 461414299507 = w; omega⟩
          | exact ⟨23, by decide, by show 120299592184933 = w; omega⟩
          | exact ⟨24, by decide, by show 1836019556 = w; omega⟩
          | exact ⟨25, by decide, by show 7170414 = w; omega⟩
          | exact ⟨26, by decide, by show 7168376 = w; omega⟩
      · rw [lc_eq] at b21
        refine Ev.ite (P := (l_cmp (w : Int) 26990) = 0) (k := 4) (a := 40) (b := 32) (L' := [Vr 166, Vl (w : Int), Vx]) (S' := []) (h' := ((SHv st dr rd), (ovl a s b))) (fun _ => rfl) (fun b29 => ?_) (fun b29 => ?_)
        · rw [lc_eq] at b29
          refine Ev.fin (k := 2) (r := (some (Vi 1))) (h' := ((SHv st dr rd), (ovl a s b))) (fun _ => rfl) ?_
          refine ⟨?_, rfl⟩
          rw [if_pos ?_]
          refine tcW_ow.mp ?_
          first
            | exact ⟨0, by decide, by show 1919905645 = w; omega⟩
            | exact ⟨1, by decide, by show 1685024626 = w; omega⟩
            | exact ⟨2, by decide, by show 7825519 = w; omega⟩
            | exact ⟨3, by decide, by show 26990 = w; omega⟩
            | exact ⟨4, by decide, by show 499967946343 = w; omega⟩
            | exact ⟨5, by decide, by show 1935767923 = w; omega⟩
            | exact ⟨6, by decide, by show 26479 = w; omega⟩
            | exact ⟨7, by decide, by show 1952541541 = w; omega⟩
            | exact ⟨8, by decide, by show 7102841 = w; omega⟩
            | exact ⟨9, by decide, by show 2003398757 = w; omega⟩
            | exact ⟨10, by decide, by show 1717921132 = w; omega⟩
            | exact ⟨11, by decide, by show 1802071148 = w; omega⟩
            | exact ⟨12, by decide, by show 2003330414 = w; omega⟩
            | exact ⟨13, by decide, by show 28530 = w; omega⟩
            | exact ⟨14, by decide, by show 6385252 = w; omega⟩
            | exact ⟨15, by decide, by show 7237492 = w; omega⟩
            | exact ⟨16, by decide, by show 6384748 = w; omega⟩
            | exact ⟨17, by decide, by show 24948 = w; omega⟩
            | exact ⟨18, by decide, by show 6840691 = w; omega⟩
            | exact ⟨19, by decide, by show 1852137842 = w; omega⟩
            | exact ⟨20, by decide, by show 418431069797 = w; omega⟩
            | exact ⟨21, by decide, by show 1684365668 = w; omega⟩
            | exact ⟨22, by decide, by show 461414299507 = w; omega⟩
            | exact ⟨23, by decide, by show 120299592184933 = w; omega⟩
            | exact ⟨24, by decide, by show 1836019556 = w; omega⟩
            | exact ⟨25, by decide, by show 7170414 = w; omega⟩
            | exact ⟨26, by decide, by show 7168376 = w; omega⟩
        · rw [lc_eq] at b29
          refine Ev.ite (P := (l_cmp (w : Int) 499967946343) ≠ 0) (k := 4) (a := 42) (b := 40) (L' := [Vr 166, Vl (w : Int), Vx]) (S' := []) (h' := ((SHv st dr rd), (ovl a s b))) (fun _ => rfl) (fun b37 => ?_) (fun b37 => ?_)
          · rw [lc_ne] at b37
            refine Ev.ite (P := (l_cmp (w : Int) 1935767923) = 0) (k := 4) (a := 82) (b := 50) (L' := [Vr 166, Vl (w : Int), Vx]) (S' := []) (h' := ((SHv st dr rd), (ovl a s b))) (fun _ => rfl) (fun b47 => ?_) (fun b47 => ?_)
            · rw [lc_eq] at b47
              refine Ev.fin (k := 2) (r := (some (Vi 1))) (h' := ((SHv st dr rd), (ovl a s b))) (fun _ => rfl) ?_
              refine ⟨?_, rfl⟩
              rw [if_pos ?_]
              refine tcW_ow.mp ?_
              first
                | exact ⟨0, by decide, by show 1919905645 = w; omega⟩
                | exact ⟨1, by decide, by show 1685024626 = w; omega⟩
                | exact ⟨2, by decide, by show 7825519 = w; omega⟩
                | exact ⟨3, by decide, by show 26990 = w; omega⟩
                | exact ⟨4, by decide, by show 499967946343 = w; omega⟩
                | exact ⟨5, by decide, by show 1935767923 = w; omega⟩
                | exact ⟨6, by decide, by show 26479 = w; omega⟩
                | exact ⟨7, by decide, by show 1952541541 = w; omega⟩
                | exact ⟨8, by decide, by show 7102841 = w; omega⟩
                | exact ⟨9, by decide, by show 2003398757 = w; omega⟩
                | exact ⟨10, by decide, by show 1717921132 = w; omega⟩
                | exact ⟨11, by decide, by show 1802071148 = w; omega⟩
                | exact ⟨12, by decide, by show 2003330414 = w; omega⟩
                | exact ⟨13, by decide, by show 28530 = w; omega⟩
                | exact ⟨14, by decide, by show 6385252 = w; omega⟩
                | exact ⟨15, by decide, by show 7237492 = w; omega⟩
                | exact ⟨16, by decide, by show 6384748 = w; omega⟩
                | exact ⟨17, by decide, by show 24948 = w; omega⟩
                | exact ⟨18, by decide, by show 6840691 = w; omega⟩
                | exact ⟨19, by decide, by show 1852137842 = w; omega⟩
                | exact ⟨20, by decide, by show 418431069797 = w; omega⟩
                | exact ⟨21, by decide, by show 1684365668 = w; omega⟩
                | exact ⟨22, by decide, by show 461414299507 = w; omega⟩
                | exact ⟨23, by decide, by show 120299592184933 = w; omega⟩
                | exact ⟨24, by decide, by show 1836019556 = w; omega⟩
                | exact ⟨25, by decide, by show 7170414 = w; omega⟩
                | exact ⟨26, by decide, by show 7168376 = w; omega⟩
            · rw [lc_eq] at b47
              refine Ev.ite (P := (l_cmp (w : Int) 26479) = 0) (k := 4) (a := 82) (b := 58) (L' := [Vr 166, Vl (w : Int), Vx]) (S' := []) (h' := ((SHv st dr rd), (ovl a s b))) (fun _ => rfl) (fun b55 => ?_) (fun b55 => ?_)
              · rw [lc_eq] at b55
                refine Ev.fin (k := 2) (r := (some (Vi 1))) (h' := ((SHv st dr rd), (ovl a s b))) (fun _ => rfl) ?_
                refine ⟨?_, rfl⟩
                rw [if_pos ?_]
                refine tcW_ow.mp ?_
                first
                  | exact ⟨0, by decide, by show 1919905645 = w; omega⟩
                  | exact ⟨1, by decide, by show 1685024626 = w; omega⟩
                  | exact ⟨2, by decide, by show 7825519 = w; omega⟩
                  | exact ⟨3, by decide, by show 26990 = w; omega⟩
                  | exact ⟨4, by decide, by show 499967946343 = w; omega⟩
                  | exact ⟨5, by decide, by show 1935767923 = w; omega⟩
                  | exact ⟨6, by decide, by show 26479 = w; omega⟩
                  | exact ⟨7, by decide, by show 1952541541 = w; omega⟩
                  | exact ⟨8, by decide, by show 7102841 = w; omega⟩
                  | exact ⟨9, by decide, by show 2003398757 = w; omega⟩
                  | exact ⟨10, by decide, by show 1717921132 = w; omega⟩
                  | exact ⟨11, by decide, by show 1802071148 = w; omega⟩
                  | exact ⟨12, by decide, by show 2003330414 = w; omega⟩
                  | exact ⟨13, by decide, by show 28530 = w; omega⟩
                  | exact ⟨14, by decide, by show 6385252 = w; omega⟩
                  | exact ⟨15, by decide, by show 7237492 = w; omega⟩
                  | exact ⟨16, by decide, by show 6384748 = w; omega⟩
                  | exact ⟨17, by decide, by show 24948 = w; omega⟩
                  | exact ⟨18, by decide, by show 6840691 = w; omega⟩
                  | exact ⟨19, by decide, by show 1852137842 = w; omega⟩
                  | exact ⟨20, by decide, by show 418431069797 = w; omega⟩
                  | exact ⟨21, by decide, by show 1684365668 = w; omega⟩
                  | exact ⟨22, by decide, by show 461414299507 = w; omega⟩
                  | exact ⟨23, by decide, by show 120299592184933 = w; omega⟩
                  | exact ⟨24, by decide, by show 1836019556 = w; omega⟩
                  | exact ⟨25, by decide, by show 7170414 = w; omega⟩
                  | exact ⟨26, by decide, by show 7168376 = w; omega⟩
              · rw [lc_eq] at b55
                refine Ev.ite (P := (l_cmp (w : Int) 1952541541) = 0) (k := 4) (a := 82) (b := 66) (L' := [Vr 166, Vl (w : Int), Vx]) (S' := []) (h' := ((SHv st dr rd), (ovl a s b))) (fun _ => rfl) (fun b63 => ?_) (fun b63 => ?_)
                · rw [lc_eq] at b63
                  refine Ev.fin (k := 2) (r := (some (Vi 1))) (h' := ((SHv st dr rd), (ovl a s b))) (fun _ => rfl) ?_
                  refine ⟨?_, rfl⟩
                  rw [if_pos ?_]
                  refine tcW_ow.mp ?_
                  first
                    | exact ⟨0, by decide, by show 1919905645 = w; omega⟩
                    | exact ⟨1, by decide, by show 1685024626 = w; omega⟩
                    | exact ⟨2, by decide, by show 7825519 = w; omega⟩
                    | exact ⟨3, by decide, by show 26990 = w; omega⟩
                    | exact ⟨4, by decide, by show 499967946343 = w; omega⟩
                    | exact ⟨5, by decide, by show 1935767923 = w; omega⟩
                    | exact ⟨6, by decide, by show 26479 = w; omega⟩
                    | exact ⟨7, by decide, by show 1952541541 = w; omega⟩
                    | exact ⟨8, by decide, by show 7102841 = w; omega⟩
                    | exact ⟨9, by decide, by show 2003398757 = w; omega⟩
                    | exact ⟨10, by decide, by show 1717921132 = w; omega⟩
                    | exact ⟨11, by decide, by show 1802071148 = w; omega⟩
                    | exact ⟨12, by decide, by show 2003330414 = w; omega⟩
                    | exact ⟨13, by decide, by show 28530 = w; omega⟩
                    | exact ⟨14, by decide, by show 6385252 = w; omega⟩
                    | exact ⟨15, by decide, by show 7237492 = w; omega⟩
                    | exact ⟨16, by decide, by show 6384748 = w; omega⟩
                    | exact ⟨17, by decide, by show 24948 = w; omega⟩
                    | exact ⟨18, by decide, by show 6840691 = w; omega⟩
                    | exact ⟨19, by decide, by show 1852137842 = w; omega⟩
                    | exact ⟨20, by decide, by show 418431069797 = w; omega⟩
                    | exact ⟨21, by decide, by show 1684365668 = w; omega⟩
                    | exact ⟨22, by decide, by show 461414299507 = w; omega⟩
                    | exact ⟨23, by decide, by show 120299592184933 = w; omega⟩
                    | exact ⟨24, by decide, by show 1836019556 = w; omega⟩
                    | exact ⟨25, by decide, by show 7170414 = w; omega⟩
                    | exact ⟨26, by decide, by show 7168376 = w; omega⟩
                · rw [lc_eq] at b63
                  refine Ev.ite (P := (l_cmp (w : Int) 7102841) = 0) (k := 4) (a := 82) (b := 74) (L' := [Vr 166, Vl (w : Int), Vx]) (S' := []) (h' := ((SHv st dr rd), (ovl a s b))) (fun _ => rfl) (fun b71 => ?_) (fun b71 => ?_)
                  · rw [lc_eq] at b71
                    refine Ev.fin (k := 2) (r := (some (Vi 1))) (h' := ((SHv st dr rd), (ovl a s b))) (fun _ => rfl) ?_
                    refine ⟨?_, rfl⟩
                    rw [if_pos ?_]
                    refine tcW_ow.mp ?_
                    first
                      | exact ⟨0, by decide, by show 1919905645 = w; omega⟩
                      | exact ⟨1, by decide, by show 1685024626 = w; omega⟩
                      | exact ⟨2, by decide, by show 7825519 = w; omega⟩
                      | exact ⟨3, by decide, by show 26990 = w; omega⟩
                      | exact ⟨4, by decide, by show 499967946343 = w; omega⟩
                      | exact ⟨5, by decide, by show 1935767923 = w; omega⟩
                      | exact ⟨6, by decide, by show 26479 = w; omega⟩
                      | exact ⟨7, by decide, by show 1952541541 = w; omega⟩
                      | exact ⟨8, by decide, by show 7102841 = w; omega⟩
                      | exact ⟨9, by decide, by show 2003398757 = w; omega⟩
                      | exact ⟨10, by decide, by show 1717921132 = w; omega⟩
                      | exact ⟨11, by decide, by show 1802071148 = w; omega⟩
                      | exact ⟨12, by decide, by show 2003330414 = w; omega⟩
                      | exact ⟨13, by decide, by show 28530 = w; omega⟩
                      | exact ⟨14, by decide, by show 6385252 = w; omega⟩
                      | exact ⟨15, by decide, by show 7237492 = w; omega⟩
                      | exact ⟨16, by decide, by show 6384748 = w; omega⟩
                      | exact ⟨17, by decide, by show 24948 = w; omega⟩
                      | exact ⟨18, by decide, by show 6840691 = w; omega⟩
                      | exact ⟨19, by decide, by show 1852137842 = w; omega⟩
                      | exact ⟨20, by decide, by show 418431069797 = w; omega⟩
                      | exact ⟨21, by decide, by show 1684365668 = w; omega⟩
                      | exact ⟨22, by decide, by show 461414299507 = w; omega⟩
                      | exact ⟨23, by decide, by show 120299592184933 = w; omega⟩
                      | exact ⟨24, by decide, by show 1836019556 = w; omega⟩
                      | exact ⟨25, by decide, by show 7170414 = w; omega⟩
                      | exact ⟨26, by decide, by show 7168376 = w; omega⟩
                  · rw [lc_eq] at b71
                    refine Ev.ite (P := (l_cmp (w : Int) 2003398757) ≠ 0) (k := 4) (a := 84) (b := 82) (L' := [Vr 166, Vl (w : Int), Vx]) (S' := []) (h' := ((SHv st dr rd), (ovl a s b))) (fun _ => rfl) (fun b79 => ?_) (fun b79 => ?_)
                    · rw [lc_ne] at b79
                      refine Ev.ite (P := (l_cmp (w : Int) 1717921132) = 0) (k := 4) (a := 124) (b := 92) (L' := [Vr 166, Vl (w : Int), Vx]) (S' := []) (h' := ((SHv st dr rd), (ovl a s b))) (fun _ => rfl) (fun b89 => ?_) (fun b89 => ?_)
                      · rw [lc_eq] at b89
                        refine Ev.fin (k := 2) (r := (some (Vi 1))) (h' := ((SHv st dr rd), (ovl a s b))) (fun _ => rfl) ?_
                        refine ⟨?_, rfl⟩
                        rw [if_pos ?_]
                        refine tcW_ow.mp ?_
                        first
                          | exact ⟨0, by decide, by show 1919905645 = w; omega⟩
                          | exact ⟨1, by decide, by show 1685024626 = w; omega⟩
                          | exact ⟨2, by decide, by show 7825519 = w; omega⟩
                          | exact ⟨3, by decide, by show 26990 = w; omega⟩
                          | exact ⟨4, by decide, by show 499967946343 = w; omega⟩
                          | exact ⟨5, by decide, by show 1935767923 = w; omega⟩
                          | exact ⟨6, by decide, by show 26479 = w; omega⟩
                          | exact ⟨7, by decide, by show 1952541541 = w; omega⟩
                          | exact ⟨8, by decide, by show 7102841 = w; omega⟩
                          | exact ⟨9, by decide, by show 2003398757 = w; omega⟩
                          | exact ⟨10, by decide, by show 1717921132 = w; omega⟩
                          | exact ⟨11, by decide, by show 1802071148 = w; omega⟩
                          | exact ⟨12, by decide, by show 2003330414 = w; omega⟩
                          | exact ⟨13, by decide, by show 28530 = w; omega⟩
                          | exact ⟨14, by decide, by show 6385252 = w; omega⟩
                          | exact ⟨15, by decide, by show 7237492 = w; omega⟩
                          | exact ⟨16, by decide, by show 6384748 = w; omega⟩
                          | exact ⟨17, by decide, by show 24948 = w; omega⟩
                          | exact ⟨18, by decide, by show 6840691 = w; omega⟩
                          | exact ⟨19, by decide, by show 1852137842 = w; omega⟩
                          | exact ⟨20, by decide, by show 418431069797 = w; omega⟩
                          | exact ⟨21, by decide, by show 1684365668 = w; omega⟩
                          | exact ⟨22, by decide, by show 461414299507 = w; omega⟩
                          | exact ⟨23, by decide, by show 120299592184933 = w; omega⟩
                          | exact ⟨24, by decide, by show 1836019556 = w; omega⟩
                          | exact ⟨25, by decide, by show 7170414 = w; omega⟩
                          | exact ⟨26, by decide, by show 7168376 = w; omega⟩
                      · rw [lc_eq] at b89
                        refine Ev.ite (P := (l_cmp (w : Int) 1802071148) = 0) (k := 4) (a := 124) (b := 100) (L' := [Vr 166, Vl (w : Int), Vx]) (S' := []) (h' := ((SHv st dr rd), (ovl a s b))) (fun _ => rfl) (fun b97 => ?_) (fun b97 => ?_)
                        · rw [lc_eq] at b97
                          refine Ev.fin (k := 2) (r := (some (Vi 1))) (h' := ((SHv st dr rd), (ovl a s b))) (fun _ => rfl) ?_
                          refine ⟨?_, rfl⟩
                          rw [if_pos ?_]
                          refine tcW_ow.mp ?_
                          first
                            | exact ⟨0, by decide, by show 1919905645 = w; omega⟩
                            | exact ⟨1, by decide, by show 1685024626 = w; omega⟩
                            | exact ⟨2, by decide, by show 7825519 = w; omega⟩
                            | exact ⟨3, by decide, by show 26990 = w; omega⟩
                            | exact ⟨4, by decide, by show 499967946343 = w; omega⟩
                            | exact ⟨5, by decide, by show 1935767923 = w; omega⟩
                            | exact ⟨6, by decide, by show 26479 = w; omega⟩
                            | exact ⟨7, by decide, by show 1952541541 = w; omega⟩
                            | exact ⟨8, by decide, by show 7102841 = w; omega⟩
                            | exact ⟨9, by decide, by show 2003398757 = w; omega⟩
                            | exact ⟨10, by decide, by show 1717921132 = w; omega⟩
                            | exact ⟨11, by decide, by show 1802071148 = w; omega⟩
                            | exact ⟨12, by decide, by show 2003330414 = w; omega⟩
                            | exact ⟨13, by decide, by show 28530 = w; omega⟩
                            | exact ⟨14, by decide, by show 6385252 = w; omega⟩
                            | exact ⟨15, by decide, by show 7237492 = w; omega⟩
                            | exact ⟨16, by decide, by show 6384748 = w; omega⟩
                            | exact ⟨17, by decide, by show 24948 = w; omega⟩
                            | exact ⟨18, by decide, by show 6840691 = w; omega⟩
                            | exact ⟨19, by decide, by show 1852137842 = w; omega⟩
                            | exact ⟨20, by decide, by show 418431069797 = w; omega⟩
                            | exact ⟨21, by decide, by show 1684365668 = w; omega⟩
                            | exact ⟨22, by decide, by show 461414299507 = w; omega⟩
                            | exact ⟨23, by decide, by show 120299592184933 = w; omega⟩
                            | exact ⟨24, by decide, by show 1836019556 = w; omega⟩
                            | exact ⟨25, by decide, by show 7170414 = w; omega⟩
                            | exact ⟨26, by decide, by show 7168376 = w; omega⟩
                        · rw [lc_eq] at b97
                          refine Ev.ite (P := (l_cmp (w : Int) 2003330414) = 0) (k := 4) (a := 124) (b := 108) (L' := [Vr 166, Vl (w : Int), Vx]) (S' := []) (h' := ((SHv st dr rd), (ovl a s b))) (fun _ => rfl) (fun b105 => ?_) (fun b105 => ?_)
                          · rw [lc_eq] at b105
                            refine Ev.fin (k := 2) (r := (some (Vi 1))) (h' := ((SHv st dr rd), (ovl a s b))) (fun _ => rfl) ?_
                            refine ⟨?_, rfl⟩
                            rw [if_pos ?_]
                            refine tcW_ow.mp ?_
                            first
                              | exact ⟨0, by decide, by show 1919905645 = w; omega⟩
                              | exact ⟨1, by decide, by show 1685024626 = w; omega⟩
                              | exact ⟨2, by decide, by show 7825519 = w; omega⟩
                              | exact ⟨3, by decide, by show 26990 = w; omega⟩
                              | exact ⟨4, by decide, by show 499967946343 = w; omega⟩
                              | exact ⟨5, by decide, by show 1935767923 = w; omega⟩
                              | exact ⟨6, by decide, by show 26479 = w; omega⟩
                              | exact ⟨7, by decide, by show 1952541541 = w; omega⟩
                              | exact ⟨8, by decide, by show 7102841 = w; omega⟩
                              | exact ⟨9, by decide, by show 2003398757 = w; omega⟩
                              | exact ⟨10, by decide, by show 1717921132 = w; omega⟩
                              | exact ⟨11, by decide, by show 1802071148 = w; omega⟩
                              | exact ⟨12, by decide, by show 2003330414 = w; omega⟩
                              | exact ⟨13, by decide, by show 28530 = w; omega⟩
                              | exact ⟨14, by decide, by show 6385252 = w; omega⟩
                              | exact ⟨15, by decide, by show 7237492 = w; omega⟩
                              | exact ⟨16, by decide, by show 6384748 = w; omega⟩
                              | exact ⟨17, by decide, by show 24948 = w; omega⟩
                              | exact ⟨18, by decide, by show 6840691 = w; omega⟩
                              | exact ⟨19, by decide, by show 1852137842 = w; omega⟩
                              | exact ⟨20, by decide, by show 418431069797 = w; omega⟩
                              | exact ⟨21, by decide, by show 1684365668 = w; omega⟩
                              | exact ⟨22, by decide, by show 461414299507 = w; omega⟩
                              | exact ⟨23, by decide, by show 120299592184933 = w; omega⟩
                              | exact ⟨24, by decide, by show 1836019556 = w; omega⟩
                              | exact ⟨25, by decide, by show 7170414 = w; omega⟩
                              | exact ⟨26, by decide, by show 7168376 = w; omega⟩
                          · rw [lc_eq] at b105
                            refine Ev.ite (P := (l_cmp (w : Int) 28530) = 0) (k := 4) (a := 124) (b := 116) (L' := [Vr 166, Vl (w : Int), Vx]) (S' := []) (h' := ((SHv st dr rd), (ovl a s b))) (fun _ => rfl) (fun b113 => ?_) (fun b113 => ?_)
                            · rw [lc_eq] at b113
                              refine Ev.fin (k := 2) (r := (some (Vi 1))) (h' := ((SHv st dr rd), (ovl a s b))) (fun _ => rfl) ?_
                              refine ⟨?_, rfl⟩
                              rw [if_pos ?_]
                              refine tcW_ow.mp ?_
                              first
                                | exact ⟨0, by decide, by show 1919905645 = w; omega⟩
                                | exact ⟨1, by decide, by show 1685024626 = w; omega⟩
                                | exact ⟨2, by decide, by show 7825519 = w; omega⟩
                                | exact ⟨3, by decide, by show 26990 = w; omega⟩
                                | exact ⟨4, by decide, by show 499967946343 = w; omega⟩
                                | exact ⟨5, by decide, by show 1935767923 = w; omega⟩
                                | exact ⟨6, by decide, by show 26479 = w; omega⟩
                                | exact ⟨7, by decide, by show 1952541541 = w; omega⟩
                                | exact ⟨8, by decide, by show 7102841 = w; omega⟩
                                | exact ⟨9, by decide, by show 2003398757 = w; omega⟩
                                | exact ⟨10, by decide, by show 1717921132 = w; omega⟩
                                | exact ⟨11, by decide, by show 1802071148 = w; omega⟩
                                | exact ⟨12, by decide, by show 2003330414 = w; omega⟩
                                | exact ⟨13, by decide, by show 28530 = w; omega⟩
                                | exact ⟨14, by decide, by show 6385252 = w; omega⟩
                                | exact ⟨15, by decide, by show 7237492 = w; omega⟩
                                | exact ⟨16, by decide, by show 6384748 = w; omega⟩
                                | exact ⟨17, by decide, by show 24948 = w; omega⟩
                                | exact ⟨18, by decide, by show 6840691 = w; omega⟩
                                | exact ⟨19, by decide, by show 1852137842 = w; omega⟩
                                | exact ⟨20, by decide, by show 418431069797 = w; omega⟩
                                | exact ⟨21, by decide, by show 1684365668 = w; omega⟩
                                | exact ⟨22, by decide, by show 461414299507 = w; omega⟩
                                | exact ⟨23, by decide, by show 120299592184933 = w; omega⟩
                                | exact ⟨24, by decide, by show 1836019556 = w; omega⟩
                                | exact ⟨25, by decide, by show 7170414 = w; omega⟩
                                | exact ⟨26, by decide, by show 7168376 = w; omega⟩
                            · rw [lc_eq] at b113
                              refine Ev.ite (P := (l_cmp (w : Int) 6385252) ≠ 0) (k := 4) (a := 126) (b := 124) (L' := [Vr 166, Vl (w : Int), Vx]) (S' := []) (h' := ((SHv st dr rd), (ovl a s b))) (fun _ => rfl) (fun b121 => ?_) (fun b121 => ?_)
                              · rw [lc_ne] at b121
                                refine Ev.ite (P := (l_cmp (w : Int) 7237492) = 0) (k := 4) (a := 166) (b := 134) (L' := [Vr 166, Vl (w : Int), Vx]) (S' := []) (h' := ((SHv st dr rd), (ovl a s b))) (fun _ => rfl) (fun b131 => ?_) (fun b131 => ?_)
                                · rw [lc_eq] at b131
                                  refine Ev.fin (k := 2) (r := (some (Vi 1))) (h' := ((SHv st dr rd), (ovl a s b))) (fun _ => rfl) ?_
                                  refine ⟨?_, rfl⟩
                                  rw [if_pos ?_]
                                  refine tcW_ow.mp ?_
                                  first
                                    | exact ⟨0, by decide, by show 1919905645 = w; omega⟩
                                    | exact ⟨1, by decide, by show 1685024626 = w; omega⟩
                                    | exact ⟨2, by decide, by show 7825519 = w; omega⟩
                                    | exact ⟨3, by decide, by show 26990 = w; omega⟩
                                    | exact ⟨4, by decide, by show 499967946343 = w; omega⟩
                                    | exact ⟨5, by decide, by show 1935767923 = w; omega⟩
                                    | exact ⟨6, by decide, by show 26479 = w; omega⟩
                                    | exact ⟨7, by decide, by show 1952541541 = w; omega⟩
                                    | exact ⟨8, by decide, by show 7102841 = w; omega⟩
                                    | exact ⟨9, by decide, by show 2003398757 = w; omega⟩
                                    | exact ⟨10, by decide, by show 1717921132 = w; omega⟩
                                    | exact ⟨11, by decide, by show 1802071148 = w; omega⟩
                                    | exact ⟨12, by decide, by show 2003330414 = w; omega⟩
                                    | exact ⟨13, by decide, by show 28530 = w; omega⟩
                                    | exact ⟨14, by decide, by show 6385252 = w; omega⟩
                                    | exact ⟨15, by decide, by show 7237492 = w; omega⟩
                                    | exact ⟨16, by decide, by show 6384748 = w; omega⟩
                                    | exact ⟨17, by decide, by show 24948 = w; omega⟩
                                    | exact ⟨18, by decide, by show 6840691 = w; omega⟩
                                    | exact ⟨19, by decide, by show 1852137842 = w; omega⟩
                                    | exact ⟨20, by decide, by show 418431069797 = w; omega⟩
                                    | exact ⟨21, by decide, by show 1684365668 = w; omega⟩
                                    | exact ⟨22, by decide, by show 461414299507 = w; omega⟩
                                    | exact ⟨23, by decide, by show 120299592184933 = w; omega⟩
                                    | exact ⟨24, by decide, by show 1836019556 = w; omega⟩
                                    | exact ⟨25, by decide, by show 7170414 = w; omega⟩
                                    | exact ⟨26, by decide, by show 7168376 = w; omega⟩
                                · rw [lc_eq] at b131
                                  refine Ev.ite (P := (l_cmp (w : Int) 6384748) = 0) (k := 4) (a := 166) (b := 142) (L' := [Vr 166, Vl (w : Int), Vx]) (S' := []) (h' := ((SHv st dr rd), (ovl a s b))) (fun _ => rfl) (fun b139 => ?_) (fun b139 => ?_)
                                  · rw [lc_eq] at b139
                                    refine Ev.fin (k := 2) (r := (some (Vi 1))) (h' := ((SHv st dr rd), (ovl a s b))) (fun _ => rfl) ?_
                                    refine ⟨?_, rfl⟩
                                    rw [if_pos ?_]
                                    refine tcW_ow.mp ?_
                                    first
                                      | exact ⟨0, by decide, by show 1919905645 = w; omega⟩
                                      | exact ⟨1, by decide, by show 1685024626 = w; omega⟩
                                      | exact ⟨2, by decide, by show 7825519 = w; omega⟩
                                      | exact ⟨3, by decide, by show 26990 = w; omega⟩
                                      | exact ⟨4, by decide, by show 499967946343 = w; omega⟩
                                      | exact ⟨5, by decide, by show 1935767923 = w; omega⟩
                                      | exact ⟨6, by decide, by show 26479 = w; omega⟩
                                      | exact ⟨7, by decide, by show 1952541541 = w; omega⟩
                                      | exact ⟨8, by decide, by show 7102841 = w; omega⟩
                                      | exact ⟨9, by decide, by show 2003398757 = w; omega⟩
                                      | exact ⟨10, by decide, by show 1717921132 = w; omega⟩
                                      | exact ⟨11, by decide, by show 1802071148 = w; omega⟩
                                      | exact ⟨12, by decide, by show 2003330414 = w; omega⟩
                                      | exact ⟨13, by decide, by show 28530 = w; omega⟩
                                      | exact ⟨14, by decide, by show 6385252 = w; omega⟩
                                      | exact ⟨15, by decide, by show 7237492 = w; omega⟩
                                      | exact ⟨16, by decide, by show 6384748 = w; omega⟩
                                      | exact ⟨17, by decide, by show 24948 = w; omega⟩
                                      | exact ⟨18, by decide, by show 6840691 = w; omega⟩
                                      | exact ⟨19, by decide, by show 1852137842 = w; omega⟩
                                      | exact ⟨20, by decide, by show 418431069797 = w; omega⟩
                                      | exact ⟨21, by decide, by show 1684365668 = w; omega⟩
                                      | exact ⟨22, by decide, by show 461414299507 = w; omega⟩
                                      | exact ⟨23, by decide, by show 120299592184933 = w; omega⟩
                                      | exact ⟨24, by decide, by show 1836019556 = w; omega⟩
                                      | exact ⟨25, by decide, by show 7170414 = w; omega⟩
                                      | exact ⟨26, by decide, by show 7168376 = w; omega⟩
                                  · rw [lc_eq] at b139
                                    refine Ev.ite (P := (l_cmp (w : Int) 24948) = 0) (k := 4) (a := 166) (b := 150) (L' := [Vr 166, Vl (w : Int), Vx]) (S' := []) (h' := ((SHv st dr rd), (ovl a s b))) (fun _ => rfl) (fun b147 => ?_) (fun b147 => ?_)
                                    · rw [lc_eq] at b147
                                      refine Ev.fin (k := 2) (r := (some (Vi 1))) (h' := ((SHv st dr rd), (ovl a s b))) (fun _ => rfl) ?_
                                      refine ⟨?_, rfl⟩
                                      rw [if_pos ?_]
                                      refine tcW_ow.mp ?_
                                      first
                                        | exact ⟨0, by decide, by show 1919905645 = w; omega⟩
                                        | exact ⟨1, by decide, by show 1685024626 = w; omega⟩
                                        | exact ⟨2, by decide, by show 7825519 = w; omega⟩
                                        | exact ⟨3, by decide, by show 26990 = w; omega⟩
                                        | exact ⟨4, by decide, by show 499967946343 = w; omega⟩
                                        | exact ⟨5, by decide, by show 1935767923 = w; omega⟩
                                        | exact ⟨6, by decide, by show 26479 = w; omega⟩
                                        | exact ⟨7, by decide, by show 1952541541 = w; omega⟩
                                        | exact ⟨8, by decide, by show 7102841 = w; omega⟩
                                        | exact ⟨9, by decide, by show 2003398757 = w; omega⟩
                                        | exact ⟨10, by decide, by show 1717921132 = w; omega⟩
                                        | exact ⟨11, by decide, by show 1802071148 = w; omega⟩
                                        | exact ⟨12, by decide, by show 2003330414 = w; omega⟩
                                        | exact ⟨13, by decide, by show 28530 = w; omega⟩
                                        | exact ⟨14, by decide, by show 6385252 = w; omega⟩
                                        | exact ⟨15, by decide, by show 7237492 = w; omega⟩
                                        | exact ⟨16, by decide, by show 6384748 = w; omega⟩
                                        | exact ⟨17, by decide, by show 24948 = w; omega⟩
                                        | exact ⟨18, by decide, by show 6840691 = w; omega⟩
                                        | exact ⟨19, by decide, by show 1852137842 = w; omega⟩
                                        | exact ⟨20, by decide, by show 418431069797 = w; omega⟩
                                        | exact ⟨21, by decide, by show 1684365668 = w; omega⟩
                                        | exact ⟨22, by decide, by show 461414299507 = w; omega⟩
                                        | exact ⟨23, by decide, by show 120299592184933 = w; omega⟩
                                        | exact ⟨24, by decide, by show 1836019556 = w; omega⟩
                                        | exact ⟨25, by decide, by show 7170414 = w; omega⟩
                                        | exact ⟨26, by decide, by show 7168376 = w; omega⟩
                                    · rw [lc_eq] at b147
                                      refine Ev.ite (P := (l_cmp (w : Int) 6840691) = 0) (k := 4) (a := 166) (b := 158) (L' := [Vr 166, Vl (w : Int), Vx]) (S' := []) (h' := ((SHv st dr rd), (ovl a s b))) (fun _ => rfl) (fun b155 => ?_) (fun b155 => ?_)
                                      · rw [lc_eq] at b155
                                        refine Ev.fin (k := 2) (r := (some (Vi 1))) (h' := ((SHv st dr rd), (ovl a s b))) (fun _ => rfl) ?_
                                        refine ⟨?_, rfl⟩
                                        rw [if_pos ?_]
                                        refine tcW_ow.mp ?_
                                        first
                                          | exact ⟨0, by decide, by show 1919905645 = w; omega⟩
                                          | exact ⟨1, by decide, by show 1685024626 = w; omega⟩
                                          | exact ⟨2, by decide, by show 7825519 = w; omega⟩
                                          | exact ⟨3, by decide, by show 26990 = w; omega⟩
                                          | exact ⟨4, by decide, by show 499967946343 = w; omega⟩
                                          | exact ⟨5, by decide, by show 1935767923 = w; omega⟩
                                          | exact ⟨6, by decide, by show 26479 = w; omega⟩
                                          | exact ⟨7, by decide, by show 1952541541 = w; omega⟩
                                          | exact ⟨8, by decide, by show 7102841 = w; omega⟩
                                          | exact ⟨9, by decide, by show 2003398757 = w; omega⟩
                                          | exact ⟨10, by decide, by show 1717921132 = w; omega⟩
                                          | exact ⟨11, by decide, by show 1802071148 = w; omega⟩
                                          | exact ⟨12, by decide, by show 2003330414 = w; omega⟩
                                          | exact ⟨13, by decide, by show 28530 = w; omega⟩
                                          | exact ⟨14, by decide, by show 6385252 = w; omega⟩
                                          | exact ⟨15, by decide, by show 7237492 = w; omega⟩
                                          | exact ⟨16, by decide, by show 6384748 = w; omega⟩
                                          | exact ⟨17, by decide, by show 24948 = w; omega⟩
                                          | exact ⟨18, by decide, by show 6840691 = w; omega⟩
                                          | exact ⟨19, by decide, by show 1852137842 = w; omega⟩
                                          | exact ⟨20, by decide, by show 418431069797 = w; omega⟩
                                          | exact ⟨21, by decide, by show 1684365668 = w; omega⟩
                                          | exact ⟨22, by decide, by show 461414299507 = w; omega⟩
                                          | exact ⟨23, by decide, by show 120299592184933 = w; omega⟩
                                          | exact ⟨24, by decide, by show 1836019556 = w; omega⟩
                                          | exact ⟨25, by decide, by show 7170414 = w; omega⟩
                                          | exact ⟨26, by decide, by show 7168376 = w; omega⟩
                                      · rw [lc_eq] at b155
                                        refine Ev.ite (P := (l_cmp (w : Int) 1852137842) ≠ 0) (k := 4) (a := 168) (b := 166) (L' := [Vr 166, Vl (w : Int), Vx]) (S' := []) (h' := ((SHv st dr rd), (ovl a s b))) (fun _ => rfl) (fun b163 => ?_) (fun b163 => ?_)
                                        · rw [lc_ne] at b163
                                          refine Ev.ite (P := (l_cmp (w : Int) 418431069797) = 0) (k := 4) (a := 208) (b := 176) (L' := [Vr 166, Vl (w : Int), Vx]) (S' := []) (h' := ((SHv st dr rd), (ovl a s b))) (fun _ => rfl) (fun b173 => ?_) (fun b173 => ?_)
                                          · rw [lc_eq] at b173
                                            refine Ev.fin (k := 2) (r := (some (Vi 1))) (h' := ((SHv st dr rd), (ovl a s b))) (fun _ => rfl) ?_
                                            refine ⟨?_, rfl⟩
                                            rw [if_pos ?_]
                                            refine tcW_ow.mp ?_
                                            first
                                              | exact ⟨0, by decide, by show 1919905645 = w; omega⟩
                                              | exact ⟨1, by decide, by show 1685024626 = w; omega⟩
                                              | exact ⟨2, by decide, by show 7825519 = w; omega⟩
                                              | exact ⟨3, by decide, by show 26990 = w; omega⟩
                                              | exact ⟨4, by decide, by show 499967946343 = w; omega⟩
                                              | exact ⟨5, by decide, by show 1935767923 = w; omega⟩
                                              | exact ⟨6, by decide, by show 26479 = w; omega⟩
                                              | exact ⟨7, by decide, by show 1952541541 = w; omega⟩
                                              | exact ⟨8, by decide, by show 7102841 = w; omega⟩
                                              | exact ⟨9, by decide, by show 2003398757 = w; omega⟩
                                              | exact ⟨10, by decide, by show 1717921132 = w; omega⟩
                                              | exact ⟨11, by decide, by show 1802071148 = w; omega⟩
                                              | exact ⟨12, by decide, by show 2003330414 = w; omega⟩
                                              | exact ⟨13, by decide, by show 28530 = w; omega⟩
                                              | exact ⟨14, by decide, by show 6385252 = w; omega⟩
                                              | exact ⟨15, by decide, by show 7237492 = w; omega⟩
                                              | exact ⟨16, by decide, by show 6384748 = w; omega⟩
                                              | exact ⟨17, by decide, by show 24948 = w; omega⟩
                                              | exact ⟨18, by decide, by show 6840691 = w; omega⟩
                                              | exact ⟨19, by decide, by show 1852137842 = w; omega⟩
                                              | exact ⟨20, by decide, by show 418431069797 = w; omega⟩
                                              | exact ⟨21, by decide, by show 1684365668 = w; omega⟩
                                              | exact ⟨22, by decide, by show 461414299507 = w; omega⟩
                                              | exact ⟨23, by decide, by show 120299592184933 = w; omega⟩
                                              | exact ⟨24, by decide, by show 1836019556 = w; omega⟩
                                              | exact ⟨25, by decide, by show 7170414 = w; omega⟩
                                              | exact ⟨26, by decide, by show 7168376 = w; omega⟩
                                          · rw [lc_eq] at b173
                                            refine Ev.ite (P := (l_cmp (w : Int) 1684365668) = 0) (k := 4) (a := 208) (b := 184) (L' := [Vr 166, Vl (w : Int), Vx]) (S' := []) (h' := ((SHv st dr rd), (ovl a s b))) (fun _ => rfl) (fun b181 => ?_) (fun b181 => ?_)
                                            · rw [lc_eq] at b181
                                              refine Ev.fin (k := 2) (r := (some (Vi 1))) (h' := ((SHv st dr rd), (ovl a s b))) (fun _ => rfl) ?_
                                              refine ⟨?_, rfl⟩
                                              rw [if_pos ?_]
                                              refine tcW_ow.mp ?_
                                              first
                                                | exact ⟨0, by decide, by show 1919905645 = w; omega⟩
                                                | exact ⟨1, by decide, by show 1685024626 = w; omega⟩
                                                | exact ⟨2, by decide, by show 7825519 = w; omega⟩
                                                | exact ⟨3, by decide, by show 26990 = w; omega⟩
                                                | exact ⟨4, by decide, by show 499967946343 = w; omega⟩
                                                | exact ⟨5, by decide, by show 1935767923 = w; omega⟩
                                                | exact ⟨6, by decide, by show 26479 = w; omega⟩
                                                | exact ⟨7, by decide, by show 1952541541 = w; omega⟩
                                                | exact ⟨8, by decide, by show 7102841 = w; omega⟩
                                                | exact ⟨9, by decide, by show 2003398757 = w; omega⟩
                                                | exact ⟨10, by decide, by show 1717921132 = w; omega⟩
                                                | exact ⟨11, by decide, by show 1802071148 = w; omega⟩
                                                | exact ⟨12, by decide, by show 2003330414 = w; omega⟩
                                                | exact ⟨13, by decide, by show 28530 = w; omega⟩
                                                | exact ⟨14, by decide, by show 6385252 = w; omega⟩
                                                | exact ⟨15, by decide, by show 7237492 = w; omega⟩
                                                | exact ⟨16, by decide, by show 6384748 = w; omega⟩
                                                | exact ⟨17, by decide, by show 24948 = w; omega⟩
                                                | exact ⟨18, by decide, by show 6840691 = w; omega⟩
                                                | exact ⟨19, by decide, by show 1852137842 = w; omega⟩
                                                | exact ⟨20, by decide, by show 418431069797 = w; omega⟩
                                                | exact ⟨21, by decide, by show 1684365668 = w; omega⟩
                                                | exact ⟨22, by decide, by show 461414299507 = w; omega⟩
                                                | exact ⟨23, by decide, by show 120299592184933 = w; omega⟩
                                                | exact ⟨24, by decide, by show 1836019556 = w; omega⟩
                                                | exact ⟨25, by decide, by show 7170414 = w; omega⟩
                                                | exact ⟨26, by decide, by show 7168376 = w; omega⟩
                                            · rw [lc_eq] at b181
                                              refine Ev.ite (P := (l_cmp (w : Int) 461414299507) = 0) (k := 4) (a := 208) (b := 192) (L' := [Vr 166, Vl (w : Int), Vx]) (S' := []) (h' := ((SHv st dr rd), (ovl a s b))) (fun _ => rfl) (fun b189 => ?_) (fun b189 => ?_)
                                              · rw [lc_eq] at b189
                                                refine Ev.fin (k := 2) (r := (some (Vi 1))) (h' := ((SHv st dr rd), (ovl a s b))) (fun _ => rfl) ?_
                                                refine ⟨?_, rfl⟩
                                                rw [if_pos ?_]
                                                refine tcW_ow.mp ?_
                                                first
                                                  | exact ⟨0, by decide, by show 1919905645 = w; omega⟩
                                                  | exact ⟨1, by decide, by show 1685024626 = w; omega⟩
                                                  | exact ⟨2, by decide, by show 7825519 = w; omega⟩
                                                  | exact ⟨3, by decide, by show 26990 = w; omega⟩
                                                  | exact ⟨4, by decide, by show 499967946343 = w; omega⟩
                                                  | exact ⟨5, by decide, by show 1935767923 = w; omega⟩
                                                  | exact ⟨6, by decide, by show 26479 = w; omega⟩
                                                  | exact ⟨7, by decide, by show 1952541541 = w; omega⟩
                                                  | exact ⟨8, by decide, by show 7102841 = w; omega⟩
                                                  | exact ⟨9, by decide, by show 2003398757 = w; omega⟩
                                                  | exact ⟨10, by decide, by show 1717921132 = w; omega⟩
                                                  | exact ⟨11, by decide, by show 1802071148 = w; omega⟩
                                                  | exact ⟨12, by decide, by show 2003330414 = w; omega⟩
                                                  | exact ⟨13, by decide, by show 28530 = w; omega⟩
                                                  | exact ⟨14, by decide, by show 6385252 = w; omega⟩
                                                  | exact ⟨15, by decide, by show 7237492 = w; omega⟩
                                                  | exact ⟨16, by decide, by show 6384748 = w; omega⟩
                                                  | exact ⟨17, by decide, by show 24948 = w; omega⟩
                                                  | exact ⟨18, by decide, by show 6840691 = w; omega⟩
                                                  | exact ⟨19, by decide, by show 1852137842 = w; omega⟩
                                                  | exact ⟨20, by decide, by show 418431069797 = w; omega⟩
                                                  | exact ⟨21, by decide, by show 1684365668 = w; omega⟩
                                                  | exact ⟨22, by decide, by show 461414299507 = w; omega⟩
                                                  | exact ⟨23, by decide, by show 120299592184933 = w; omega⟩
                                                  | exact ⟨24, by decide, by show 1836019556 = w; omega⟩
                                                  | exact ⟨25, by decide, by show 7170414 = w; omega⟩
                                                  | exact ⟨26, by decide, by show 7168376 = w; omega⟩
                                              · rw [lc_eq] at b189
                                                refine Ev.ite (P := (l_cmp (w : Int) 120299592184933) = 0) (k := 4) (a := 208) (b := 200) (L' := [Vr 166, Vl (w : Int), Vx]) (S' := []) (h' := ((SHv st dr rd), (ovl a s b))) (fun _ => rfl) (fun b197 => ?_) (fun b197 => ?_)
                                                · rw [lc_eq] at b197
                                                  refine Ev.fin (k := 2) (r := (some (Vi 1))) (h' := ((SHv st dr rd), (ovl a s b))) (fun _ => rfl) ?_
                                                  refine ⟨?_, rfl⟩
                                                  rw [if_pos ?_]
                                                  refine tcW_ow.mp ?_
                                                  first
                                                    | exact ⟨0, by decide, by show 1919905645 = w; omega⟩
                                                    | exact ⟨1, by decide, by show 1685024626 = w; omega⟩
                                                    | exact ⟨2, by decide, by show 7825519 = w; omega⟩
                                                    | exact ⟨3, by decide, by show 26990 = w; omega⟩
                                                    | exact ⟨4, by decide, by show 499967946343 = w; omega⟩
                                                    | exact ⟨5, by decide, by show 1935767923 = w; omega⟩
                                                    | exact ⟨6, by decide, by show 26479 = w; omega⟩
                                                    | exact ⟨7, by decide, by show 1952541541 = w; omega⟩
                                                    | exact ⟨8, by decide, by show 7102841 = w; omega⟩
                                                    | exact ⟨9, by decide, by show 2003398757 = w; omega⟩
                                                    | exact ⟨10, by decide, by show 1717921132 = w; omega⟩
                                                    | exact ⟨11, by decide, by show 1802071148 = w; omega⟩
                                                    | exact ⟨12, by decide, by show 2003330414 = w; omega⟩
                                                    | exact ⟨13, by decide, by show 28530 = w; omega⟩
                                                    | exact ⟨14, by decide, by show 6385252 = w; omega⟩
                                                    | exact ⟨15, by decide, by show 7237492 = w; omega⟩
                                                    | exact ⟨16, by decide, by show 6384748 = w; omega⟩
                                                    | exact ⟨17, by decide, by show 24948 = w; omega⟩
                                                    | exact ⟨18, by decide, by show 6840691 = w; omega⟩
                                                    | exact ⟨19, by decide, by show 1852137842 = w; omega⟩
                                                    | exact ⟨20, by decide, by show 418431069797 = w; omega⟩
                                                    | exact ⟨21, by decide, by show 1684365668 = w; omega⟩
                                                    | exact ⟨22, by decide, by show 461414299507 = w; omega⟩
                                                    | exact ⟨23, by decide, by show 120299592184933 = w; omega⟩
                                                    | exact ⟨24, by decide, by show 1836019556 = w; omega⟩
                                                    | exact ⟨25, by decide, by show 7170414 = w; omega⟩
                                                    | exact ⟨26, by decide, by show 7168376 = w; omega⟩
                                                · rw [lc_eq] at b197
                                                  refine Ev.ite (P := (l_cmp (w : Int) 1836019556) ≠ 0) (k := 4) (a := 210) (b := 208) (L' := [Vr 166, Vl (w : Int), Vx]) (S' := []) (h' := ((SHv st dr rd), (ovl a s b))) (fun _ => rfl) (fun b205 => ?_) (fun b205 => ?_)
                                                  · rw [lc_ne] at b205
                                                    refine Ev.ite (P := (l_cmp (w : Int) 7170414) = 0) (k := 4) (a := 226) (b := 218) (L' := [Vr 166, Vl (w : Int), Vx]) (S' := []) (h' := ((SHv st dr rd), (ovl a s b))) (fun _ => rfl) (fun b215 => ?_) (fun b215 => ?_)
                                                    · rw [lc_eq] at b215
                                                      refine Ev.fin (k := 2) (r := (some (Vi 1))) (h' := ((SHv st dr rd), (ovl a s b))) (fun _ => rfl) ?_
                                                      refine ⟨?_, rfl⟩
                                                      rw [if_pos ?_]
                                                      refine tcW_ow.mp ?_
                                                      first
                                                        | exact ⟨0, by decide, by show 1919905645 = w; omega⟩
                                                        | exact ⟨1, by decide, by show 1685024626 = w; omega⟩
                                                        | exact ⟨2, by decide, by show 7825519 = w; omega⟩
                                                        | exact ⟨3, by decide, by show 26990 = w; omega⟩
                                                        | exact ⟨4, by decide, by show 499967946343 = w; omega⟩
                                                        | exact ⟨5, by decide, by show 1935767923 = w; omega⟩
                                                        | exact ⟨6, by decide, by show 26479 = w; omega⟩
                                                        | exact ⟨7, by decide, by show 1952541541 = w; omega⟩
                                                        | exact ⟨8, by decide, by show 7102841 = w; omega⟩
                                                        | exact ⟨9, by decide, by show 2003398757 = w; omega⟩
                                                        | exact ⟨10, by decide, by show 1717921132 = w; omega⟩
                                                        | exact ⟨11, by decide, by show 1802071148 = w; omega⟩
                                                        | exact ⟨12, by decide, by show 2003330414 = w; omega⟩
                                                        | exact ⟨13, by decide, by show 28530 = w; omega⟩
                                                        | exact ⟨14, by decide, by show 6385252 = w; omega⟩
                                                        | exact ⟨15, by decide, by show 7237492 = w; omega⟩
                                                        | exact ⟨16, by decide, by show 6384748 = w; omega⟩
                                                        | exact ⟨17, by decide, by show 24948 = w; omega⟩
                                                        | exact ⟨18, by decide, by show 6840691 = w; omega⟩
                                                        | exact ⟨19, by decide, by show 1852137842 = w; omega⟩
                                                        | exact ⟨20, by decide, by show 418431069797 = w; omega⟩
                                                        | exact ⟨21, by decide, by show 1684365668 = w; omega⟩
                                                        | exact ⟨22, by decide, by show 461414299507 = w; omega⟩
                                                        | exact ⟨23, by decide, by show 120299592184933 = w; omega⟩
                                                        | exact ⟨24, by decide, by show 1836019556 = w; omega⟩
                                                        | exact ⟨25, by decide, by show 7170414 = w; omega⟩
                                                        | exact ⟨26, by decide, by show 7168376 = w; omega⟩
                                                    · rw [lc_eq] at b215
                                                      refine Ev.ite (P := (l_cmp (w : Int) 7168376) ≠ 0) (k := 4) (a := 228) (b := 226) (L' := [Vr 166, Vl (w : Int), Vx]) (S' := []) (h' := ((SHv st dr rd), (ovl a s b))) (fun _ => rfl) (fun b223 => ?_) (fun b223 => ?_)
                                                      · rw [lc_ne] at b223
                                                        refine Ev.fin (k := 2) (r := (some (Vi 0))) (h' := ((SHv st dr rd), (ovl a s b))) (fun _ => rfl) ?_
                                                        refine ⟨?_, rfl⟩
                                                        rw [if_neg ?_]
                                                        intro hh
                                                        obtain ⟨i, hi, e⟩ := tcW_ow.mpr hh
                                                        rcases (show i = 0 ∨ i = 1 ∨ i = 2 ∨ i = 3 ∨ i = 4 ∨ i = 5 ∨ i = 6 ∨ i = 7 ∨ i = 8 ∨ i = 9 ∨ i = 10 ∨ i = 11 ∨ i = 12 ∨ i = 13 ∨ i = 14 ∨ i = 15 ∨ i = 16 ∨ i = 17 ∨ i = 18 ∨ i = 19 ∨ i = 20 ∨ i = 21 ∨ i = 22 ∨ i = 23 ∨ i = 24 ∨ i = 25 ∨ i = 26 by omega) with rfl | rfl | rfl | rfl | rfl | rfl | rfl | rfl | rfl | rfl | rfl | rfl | rfl | rfl | rfl | rfl | rfl | rfl | rfl | rfl | rfl | rfl | rfl | rfl | rfl | rfl | rfl
                                                        · have e : 1919905645 = w := e
                                                          omega
                                                        · have e : 1685024626 = w := e
                                                          omega
                                                        · have e : 7825519 = w := e
                                                          omega
                                                        · have e : 26990 = w := e
                                                          omega
                                                        · have e : 499967946343 = w := e
                                                          omega
                                                        · have e : 1935767923 = w := e
                                                          omega
                                                        · have e : 26479 = w := e
                                                          omega
                                                        · have e : 1952541541 = w := e
                                                          omega
                                                        · have e : 7102841 = w := e
                                                          omega
                                                        · have e : 2003398757 = w := e
                                                          omega
                                                        · have e : 1717921132 = w := e
                                                          omega
                                                        · have e : 1802071148 = w := e
                                                          omega
                                                        · have e : 2003330414 = w := e
                                                          omega
                                                        · have e : 28530 = w := e
                                                          omega
                                                        · have e : 6385252 = w := e
                                                          omega
                                                        · have e : 7237492 = w := e
                                                          omega
                                                        · have e : 6384748 = w := e
                                                          omega
                                                        · have e : 24948 = w := e
                                                          omega
                                                        · have e : 6840691 = w := e
                                                          omega
                                                        · have e : 1852137842 = w := e
                                                          omega
                                                        · have e : 418431069797 = w := e
                                                          omega
                                                        · have e : 1684365668 = w := e
                                                          omega
                                                        · have e : 461414299507 = w := e
                                                          omega
                                                        · have e : 120299592184933 = w := e
                                                          omega
                                                        · have e : 1836019556 = w := e
                                                          omega
                                                        · have e : 7170414 = w := e
                                                          omega
                                                        · have e : 7168376 = w := e
                                                          omega
                                                      · rw [lc_ne] at b223
                                                        refine Ev.fin (k := 2) (r := (some (Vi 1))) (h' := ((SHv st dr rd), (ovl a s b))) (fun _ => rfl) ?_
                                                        refine ⟨?_, rfl⟩
                                                        rw [if_pos ?_]
                                                        refine tcW_ow.mp ?_
                                                        first
                                                          | exact ⟨0, by decide, by show 1919905645 = w; omega⟩
                                                          | exact ⟨1, by decide, by show 1685024626 = w; omega⟩
                                                          | exact ⟨2, by decide, by show 7825519 = w; omega⟩
                                                          | exact ⟨3, by decide, by show 26990 = w; omega⟩
                                                          | exact ⟨4, by decide, by show 499967946343 = w; omega⟩
                                                          | exact ⟨5, by decide, by show 1935767923 = w; omega⟩
                                                          | exact ⟨6, by decide, by show 26479 = w; omega⟩
                                                          | exact ⟨7, by decide, by show 1952541541 = w; omega⟩
                                                          | exact ⟨8, by decide, by show 7102841 = w; omega⟩
                                                          | exact ⟨9, by decide, by show 2003398757 = w; omega⟩
                                                          | exact ⟨10, by decide, by show 1717921132 = w; omega⟩
                                                          | exact ⟨11, by decide, by show 1802071148 = w; omega⟩
                                                          | exact ⟨12, by decide, by show 2003330414 = w; omega⟩
                                                          | exact ⟨13, by decide, by show 28530 = w; omega⟩
                                                          | exact ⟨14, by decide, by show 6385252 = w; omega⟩
                                                          | exact ⟨15, by decide, by show 7237492 = w; omega⟩
                                                          | exact ⟨16, by decide, by show 6384748 = w; omega⟩
                                                          | exact ⟨17, by decide, by show 24948 = w; omega⟩
                                                          | exact ⟨18, by decide, by show 6840691 = w; omega⟩
                                                          | exact ⟨19, by decide, by show 1852137842 = w; omega⟩
                                                          | exact ⟨20, by decide, by show 418431069797 = w; omega⟩
                                                          | exact ⟨21, by decide, by show 1684365668 = w; omega⟩
                                                          | exact ⟨22, by decide, by show 461414299507 = w; omega⟩
                                                          | exact ⟨23, by decide, by show 120299592184933 = w; omega⟩
                                                          | exact ⟨24, by decide, by show 1836019556 = w; omega⟩
                                                          | exact ⟨25, by decide, by show 7170414 = w; omega⟩
                                                          | exact ⟨26, by decide, by show 7168376 = w; omega⟩
                                                  · rw [lc_ne] at b205
                                                    refine Ev.fin (k := 2) (r := (some (Vi 1))) (h' := ((SHv st dr rd), (ovl a s b))) (fun _ => rfl) ?_
                                                    refine ⟨?_, rfl⟩
                                                    rw [if_pos ?_]
                                                    refine tcW_ow.mp ?_
                                                    first
                                                      | exact ⟨0, by decide, by show 1919905645 = w; omega⟩
                                                      | exact ⟨1, by decide, by show 1685024626 = w; omega⟩
                                                      | exact ⟨2, by decide, by show 7825519 = w; omega⟩
                                                      | exact ⟨3, by decide, by show 26990 = w; omega⟩
                                                      | exact ⟨4, by decide, by show 499967946343 = w; omega⟩
                                                      | exact ⟨5, by decide, by show 1935767923 = w; omega⟩
                                                      | exact ⟨6, by decide, by show 26479 = w; omega⟩
                                                      | exact ⟨7, by decide, by show 1952541541 = w; omega⟩
                                                      | exact ⟨8, by decide, by show 7102841 = w; omega⟩
                                                      | exact ⟨9, by decide, by show 2003398757 = w; omega⟩
                                                      | exact ⟨10, by decide, by show 1717921132 = w; omega⟩
                                                      | exact ⟨11, by decide, by show 1802071148 = w; omega⟩
                                                      | exact ⟨12, by decide, by show 2003330414 = w; omega⟩
                                                      | exact ⟨13, by decide, by show 28530 = w; omega⟩
                                                      | exact ⟨14, by decide, by show 6385252 = w; omega⟩
                                                      | exact ⟨15, by decide, by show 7237492 = w; omega⟩
                                                      | exact ⟨16, by decide, by show 6384748 = w; omega⟩
                                                      | exact ⟨17, by decide, by show 24948 = w; omega⟩
                                                      | exact ⟨18, by decide, by show 6840691 = w; omega⟩
                                                      | exact ⟨19, by decide, by show 1852137842 = w; omega⟩
                                                      | exact ⟨20, by decide, by show 418431069797 = w; omega⟩
                                                      | exact ⟨21, by decide, by show 1684365668 = w; omega⟩
                                                      | exact ⟨22, by decide, by show 461414299507 = w; omega⟩
                                                      | exact ⟨23, by decide, by show 120299592184933 = w; omega⟩
                                                      | exact ⟨24, by decide, by show 1836019556 = w; omega⟩
                                                      | exact ⟨25, by decide, by show 7170414 = w; omega⟩
                                                      | exact ⟨26, by decide, by show 7168376 = w; omega⟩
                                        · rw [lc_ne] at b163
                                          refine Ev.fin (k := 2) (r := (some (Vi 1))) (h' := ((SHv st dr rd), (ovl a s b))) (fun _ => rfl) ?_
                                          refine ⟨?_, rfl⟩
                                          rw [if_pos ?_]
                                          refine tcW_ow.mp ?_
                                          first
                                            | exact ⟨0, by decide, by show 1919905645 = w; omega⟩
                                            | exact ⟨1, by decide, by show 1685024626 = w; omega⟩
                                            | exact ⟨2, by decide, by show 7825519 = w; omega⟩
                                            | exact ⟨3, by decide, by show 26990 = w; omega⟩
                                            | exact ⟨4, by decide, by show 499967946343 = w; omega⟩
                                            | exact ⟨5, by decide, by show 1935767923 = w; omega⟩
                                            | exact ⟨6, by decide, by show 26479 = w; omega⟩
                                            | exact ⟨7, by decide, by show 1952541541 = w; omega⟩
                                            | exact ⟨8, by decide, by show 7102841 = w; omega⟩
                                            | exact ⟨9, by decide, by show 2003398757 = w; omega⟩
                                            | exact ⟨10, by decide, by show 1717921132 = w; omega⟩
                                            | exact ⟨11, by decide, by show 1802071148 = w; omega⟩
                                            | exact ⟨12, by decide, by show 2003330414 = w; omega⟩
                                            | exact ⟨13, by decide, by show 28530 = w; omega⟩
                                            | exact ⟨14, by decide, by show 6385252 = w; omega⟩
                                            | exact ⟨15, by decide, by show 7237492 = w; omega⟩
                                            | exact ⟨16, by decide, by show 6384748 = w; omega⟩
                                            | exact ⟨17, by decide, by show 24948 = w; omega⟩
                                            | exact ⟨18, by decide, by show 6840691 = w; omega⟩
                                            | exact ⟨19, by decide, by show 1852137842 = w; omega⟩
                                            | exact ⟨20, by decide, by show 418431069797 = w; omega⟩
                                            | exact ⟨21, by decide, by show 1684365668 = w; omega⟩
                                            | exact ⟨22, by decide, by show 461414299507 = w; omega⟩
                                            | exact ⟨23, by decide, by show 120299592184933 = w; omega⟩
                                            | exact ⟨24, by decide, by show 1836019556 = w; omega⟩
                                            | exact ⟨25, by decide, by show 7170414 = w; omega⟩
                                            | exact ⟨26, by decide, by show 7168376 = w; omega⟩
                              · rw [lc_ne] at b121
                                refine Ev.fin (k := 2) (r := (some (Vi 1))) (h' := ((SHv st dr rd), (ovl a s b))) (fun _ => rfl) ?_
                                refine ⟨?_, rfl⟩
                                rw [if_pos ?_]
                                refine tcW_ow.mp ?_
                                first
                                  | exact ⟨0, by decide, by show 1919905645 = w; omega⟩
                                  | exact ⟨1, by decide, by show 1685024626 = w; omega⟩
                                  | exact ⟨2, by decide, by show 7825519 = w; omega⟩
                                  | exact ⟨3, by decide, by show 26990 = w; omega⟩
                                  | exact ⟨4, by decide, by show 499967946343 = w; omega⟩
                                  | exact ⟨5, by decide, by show 1935767923 = w; omega⟩
                                  | exact ⟨6, by decide, by show 26479 = w; omega⟩
                                  | exact ⟨7, by decide, by show 1952541541 = w; omega⟩
                                  | exact ⟨8, by decide, by show 7102841 = w; omega⟩
                                  | exact ⟨9, by decide, by show 2003398757 = w; omega⟩
                                  | exact ⟨10, by decide, by show 1717921132 = w; omega⟩
                                  | exact ⟨11, by decide, by show 1802071148 = w; omega⟩
                                  | exact ⟨12, by decide, by show 2003330414 = w; omega⟩
                                  | exact ⟨13, by decide, by show 28530 = w; omega⟩
                                  | exact ⟨14, by decide, by show 6385252 = w; omega⟩
                                  | exact ⟨15, by decide, by show 7237492 = w; omega⟩
                                  | exact ⟨16, by decide, by show 6384748 = w; omega⟩
                                  | exact ⟨17, by decide, by show 24948 = w; omega⟩
                                  | exact ⟨18, by decide, by show 6840691 = w; omega⟩
                                  | exact ⟨19, by decide, by show 1852137842 = w; omega⟩
                                  | exact ⟨20, by decide, by show 418431069797 = w; omega⟩
                                  | exact ⟨21, by decide, by show 1684365668 = w; omega⟩
                                  | exact ⟨22, by decide, by show 461414299507 = w; omega⟩
                                  | exact ⟨23, by decide, by show 120299592184933 = w; omega⟩
                                  | exact ⟨24, by decide, by show 1836019556 = w; omega⟩
                                  | exact ⟨25, by decide, by show 7170414 = w; omega⟩
                                  | exact ⟨26, by decide, by show 7168376 = w; omega⟩
                    · rw [lc_ne] at b79
                      refine Ev.fin (k := 2) (r := (some (Vi 1))) (h' := ((SHv st dr rd), (ovl a s b))) (fun _ => rfl) ?_
                      refine ⟨?_, rfl⟩
                      rw [if_pos ?_]
                      refine tcW_ow.mp ?_
                      first
                        | exact ⟨0, by decide, by show 1919905645 = w; omega⟩
                        | exact ⟨1, by decide, by show 1685024626 = w; omega⟩
                        | exact ⟨2, by decide, by show 7825519 = w; omega⟩
                        | exact ⟨3, by decide, by show 26990 = w; omega⟩
                        | exact ⟨4, by decide, by show 499967946343 = w; omega⟩
                        | exact ⟨5, by decide, by show 1935767923 = w; omega⟩
                        | exact ⟨6, by decide, by show 26479 = w; omega⟩
                        | exact ⟨7, by decide, by show 1952541541 = w; omega⟩
                        | exact ⟨8, by decide, by show 7102841 = w; omega⟩
                        | exact ⟨9, by decide, by show 2003398757 = w; omega⟩
                        | exact ⟨10, by decide, by show 1717921132 = w; omega⟩
                        | exact ⟨11, by decide, by show 1802071148 = w; omega⟩
                        | exact ⟨12, by decide, by show 2003330414 = w; omega⟩
                        | exact ⟨13, by decide, by show 28530 = w; omega⟩
                        | exact ⟨14, by decide, by show 6385252 = w; omega⟩
                        | exact ⟨15, by decide, by show 7237492 = w; omega⟩
                        | exact ⟨16, by decide, by show 6384748 = w; omega⟩
                        | exact ⟨17, by decide, by show 24948 = w; omega⟩
                        | exact ⟨18, by decide, by show 6840691 = w; omega⟩
                        | exact ⟨19, by decide, by show 1852137842 = w; omega⟩
                        | exact ⟨20, by decide, by show 418431069797 = w; omega⟩
                        | exact ⟨21, by decide, by show 1684365668 = w; omega⟩
                        | exact ⟨22, by decide, by show 461414299507 = w; omega⟩
                        | exact ⟨23, by decide, by show 120299592184933 = w; omega⟩
                        | exact ⟨24, by decide, by show 1836019556 = w; omega⟩
                        | exact ⟨25, by decide, by show 7170414 = w; omega⟩
                        | exact ⟨26, by decide, by show 7168376 = w; omega⟩
          · rw [lc_ne] at b37
            refine Ev.fin (k := 2) (r := (some (Vi 1))) (h' := ((SHv st dr rd), (ovl a s b))) (fun _ => rfl) ?_
            refine ⟨?_, rfl⟩
            rw [if_pos ?_]
            refine tcW_ow.mp ?_
            first
              | exact ⟨0, by decide, by show 1919905645 = w; omega⟩
              | exact ⟨1, by decide, by show 1685024626 = w; omega⟩
              | exact ⟨2, by decide, by show 7825519 = w; omega⟩
              | exact ⟨3, by decide, by show 26990 = w; omega⟩
              | exact ⟨4, by decide, by show 499967946343 = w; omega⟩
              | exact ⟨5, by decide, by show 1935767923 = w; omega⟩
              | exact ⟨6, by decide, by show 26479 = w; omega⟩
              | exact ⟨7, by decide, by show 1952541541 = w; omega⟩
              | exact ⟨8, by decide, by show 7102841 = w; omega⟩
              | exact ⟨9, by decide, by show 2003398757 = w; omega⟩
              | exact ⟨10, by decide, by show 1717921132 = w; omega⟩
              | exact ⟨11, by decide, by show 1802071148 = w; omega⟩
              | exact ⟨12, by decide, by show 2003330414 = w; omega⟩
              | exact ⟨13, by decide, by show 28530 = w; omega⟩
              | exact ⟨14, by decide, by show 6385252 = w; omega⟩
              | exact ⟨15, by decide, by show 7237492 = w; omega⟩
              | exact ⟨16, by decide, by show 6384748 = w; omega⟩
              | exact ⟨17, by decide, by show 24948 = w; omega⟩
              | exact ⟨18, by decide, by show 6840691 = w; omega⟩
              | exact ⟨19, by decide, by show 1852137842 = w; omega⟩
              | exact ⟨20, by decide, by show 418431069797 = w; omega⟩
              | exact ⟨21, by decide, by show 1684365668 = w; omega⟩
              | exact ⟨22, by decide, by show 461414299507 = w; omega⟩
              | exact ⟨23, by decide, by show 120299592184933 = w; omega⟩
              | exact ⟨24, by decide, by show 1836019556 = w; omega⟩
              | exact ⟨25, by decide, by show 7170414 = w; omega⟩
              | exact ⟨26, by decide, by show 7168376 = w; omega⟩
