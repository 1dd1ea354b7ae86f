/-! THE REFERENCE READS: names, numbers, signs; broken: nothing changes -/
theorem m_looked_br {X : List Int} {d : Nat} {st dr rd : Int} {a s b : C3} {e : PF} (hB : BrM e b) (q but : Int) : Ev X (d + 1) 166 0 [Vr 166, Vi q, Vi but, Vx] [] (SHv st dr rd, ovl a s b) (fun rr hh => rr = some (Vi 0) ∧ hh = (SHv st dr rd, ovl a s b)) := by
  have h0 := hB.1
  refine Ev.steps (k := 2) (pc' := 4) (L' := [Vr 166, Vi q, Vi but, Vx]) (S' := [Vi (b 166 8)]) (h' := ((SHv st dr rd), (ovl a s b))) (fun _ => rfl) ?_
  rw [hB.2.1]
  refine Ev.ite (P := e.1 ≤ 0) (k := 1) (a := 9) (b := 7) (L' := [Vr 166, Vi q, Vi but, Vx]) (S' := []) (h' := ((SHv st dr rd), (ovl a s b))) (fun _ => rfl) (fun b4 => ?_) (fun b4 => ?_)
  · omega
  · refine Ev.fin (k := 2) (r := (some (Vi 0))) (h' := ((SHv st dr rd), (ovl a s b))) (fun _ => rfl) ?_
    exact ⟨rfl, rfl⟩
theorem m_asked_br {X : List Int} {d : Nat} {st dr rd : Int} {a s b : C3} {e : PF} (hB : BrM e b) (q but : Int) : Ev X (d + 2) 165 0 [Vr 166, Vi q, Vi but, Vx] [] (SHv st dr rd, ovl a s b) (fun rr hh => rr = some (Vi 0) ∧ hh = (SHv st dr rd, ovl a s b)) := by
  have h0 := hB.1
  refine Ev.call (k := 3) (pc1 := 3) (L1 := [Vr 166, Vi q, Vi but, Vx]) (S1 := [Vi but, Vi q, Vr 166]) (h1 := ((SHv st dr rd), (ovl a s b))) (m' := 166) (as := [Vr 166, Vi q, Vi but]) (S' := []) (L0 := [Vr 166, Vi q, Vi but, Vx]) (fun _ => rfl) rfl rfl rfl rfl rfl rfl (m_looked_br hB q but) (fun r h' hq => ?_)
  obtain ⟨rfl, rfl⟩ := hq
  show Ev X _ _ 6 [Vr 166, Vi q, Vi but, Vx] [Vi 0] ((SHv st dr rd), (ovl a s b)) _
  refine Ev.steps (k := 3) (pc' := 11) (L' := [Vr 166, Vi q, Vi but, Vi 0]) (S' := [Vi (b 166 8)]) (h' := ((SHv st dr rd), (ovl a s b))) (fun _ => rfl) ?_
  rw [hB.2.1]
  refine Ev.ite (P := e.1 ≠ 0) (k := 1) (a := 18) (b := 14) (L' := [Vr 166, Vi q, Vi but, Vi 0]) (S' := []) (h' := ((SHv st dr rd), (ovl a s b))) (fun _ => rfl) (fun b11 => ?_) (fun b11 => ?_)
  · refine Ev.fin (k := 2) (r := (some (Vi 0))) (h' := ((SHv st dr rd), (ovl a s b))) (fun _ => rfl) ?_
    exact ⟨rfl, rfl⟩
  · omega
theorem m_number_br {X : List Int} {d : Nat} {st dr rd : Int} {a s b : C3} {e : PF} (hB : BrM e b) (lo hi : Int) : Ev X (d + 2) 188 0 [Vr 166, Vi lo, Vi hi, Vx] [] (SHv st dr rd, ovl a s b) (fun rr hh => rr = some (Vi 0) ∧ hh = (SHv st dr rd, ovl a s b)) := by
  have h0 := hB.1
  refine Ev.steps (k := 2) (pc' := 4) (L' := [Vr 166, Vi lo, Vi hi, Vx]) (S' := [Vi (b 166 8)]) (h' := ((SHv st dr rd), (ovl a s b))) (fun _ => rfl) ?_
  rw [hB.2.1]
  refine Ev.ite (P := e.1 ≤ 0) (k := 1) (a := 9) (b := 7) (L' := [Vr 166, Vi lo, Vi hi, Vx]) (S' := []) (h' := ((SHv st dr rd), (ovl a s b))) (fun _ => rfl) (fun b4 => ?_) (fun b4 => ?_)
  · omega
  · refine Ev.fin (k := 2) (r := (some (Vi 0))) (h' := ((SHv st dr rd), (ovl a s b))) (fun _ => rfl) ?_
    exact ⟨rfl, rfl⟩
theorem m_fresh_br {X : List Int} {d : Nat} {st dr rd : Int} {a s b : C3} {e : PF} (hB : BrM e b)  : Ev X (d + 2) 183 0 [Vr 166, Vx, Vx] [] (SHv st dr rd, ovl a s b) (fun rr hh => rr = some (Vl 0) ∧ hh = (SHv st dr rd, ovl a s b)) := by
  have h0 := hB.1
  refine Ev.steps (k := 2) (pc' := 4) (L' := [Vr 166, Vx, Vx]) (S' := [Vi (b 166 8)]) (h' := ((SHv st dr rd), (ovl a s b))) (fun _ => rfl) ?_
  rw [hB.2.1]
  refine Ev.ite (P := e.1 ≤ 0) (k := 1) (a := 9) (b := 7) (L' := [Vr 166, Vx, Vx]) (S' := []) (h' := ((SHv st dr rd), (ovl a s b))) (fun _ => rfl) (fun b4 => ?_) (fun b4 => ?_)
  · omega
  · refine Ev.fin (k := 2) (r := (some (Vl 0))) (h' := ((SHv st dr rd), (ovl a s b))) (fun _ => rfl) ?_
    exact ⟨rfl, rfl⟩
theorem m_mustW_br {X : List Int} {d : Nat} {st dr rd : Int} {a s b : C3} {e : PF} (hB : BrM e b) (w : Int) : Ev X (d + 2) 181 0 [Vr 166, Vl w, Vx] [] (SHv st dr rd, ovl a s b) (fun rr hh => rr = none ∧ hh = (SHv st dr rd, ovl a s b)) := by
  have h0 := hB.1
  refine Ev.steps (k := 2) (pc' := 4) (L' := [Vr 166, Vl w, Vx]) (S' := [Vi (b 166 8)]) (h' := ((SHv st dr rd), (ovl a s b))) (fun _ => rfl) ?_
  rw [hB.2.1]
  refine Ev.ite (P := e.1 ≤ 0) (k := 1) (a := 8) (b := 7) (L' := [Vr 166, Vl w, Vx]) (S' := []) (h' := ((SHv st dr rd), (ovl a s b))) (fun _ => rfl) (fun b4 => ?_) (fun b4 => ?_)
  · omega
  · refine Ev.fin (k := 1) (r := none) (h' := ((SHv st dr rd), (ovl a s b))) (fun _ => rfl) ?_
    exact ⟨rfl, rfl⟩
theorem m_reads_br {X : List Int} {d : Nat} {st dr rd : Int} {a s b : C3} {e : PF} (hB : BrM e b) (t : Int) : Ev X (d + 5) 169 0 [Vr 166, Vi t, Vx] [] (SHv st dr rd, ovl a s b) (fun rr hh => rr = none ∧ hh = (SHv st dr rd, ovl a s b)) := by
  have h0 := hB.1
  refine Ev.steps (k := 2) (pc' := 4) (L' := [Vr 166, Vi t, Vx]) (S' := [Vi (b 166 8)]) (h' := ((SHv st dr rd), (ovl a s b))) (fun _ => rfl) ?_
  rw [hB.2.1]
  refine Ev.ite (P := e.1 ≤ 0) (k := 1) (a := 8) (b := 7) (L' := [Vr 166, Vi t, Vx]) (S' := []) (h' := ((SHv st dr rd), (ovl a s b))) (fun _ => rfl) (fun b4 => ?_) (fun b4 => ?_)
  · omega
  · refine Ev.fin (k := 1) (r := none) (h' := ((SHv st dr rd), (ovl a s b))) (fun _ => rfl) ?_
    exact ⟨rfl, rfl⟩
theorem m_asked_0 {X : List Int} {d : Nat} {st dr rd : Int} {a s b : C3} {W : TXT} {p : Nat} (hk : TkM W p b) {N : SC} {j : Nat} (hN : NmM N b j) (but : Int) : Ev X (d + 2) 165 0 [Vr 166, Vi 0, Vi but, Vx] [] (SHv st dr rd, ovl a s b) (fun rr hh => ∃ b' : C3, hh = (SHv st dr rd, ovl a s b') ∧ ResC (askT W N 0 but p) (fun r => rr = some (Vi ((r.1 : Nat) : Int)) ∧ OkM W b r.2 b') (fun e => (∃ v : Int, rr = some (Vi v) ∧ 0 ≤ v ∧ v < 8) ∧ BdM W b e b')) := by
  have h8 := (hN.2.2 0 (by decide)).1
  refine Ev.call (k := 3) (pc1 := 3) (L1 := [Vr 166, Vi 0, Vi but, Vx]) (S1 := [Vi but, Vi 0, Vr 166]) (h1 := ((SHv st dr rd), (ovl a s b))) (m' := 166) (as := [Vr 166, Vi 0, Vi but]) (S' := []) (L0 := [Vr 166, Vi 0, Vi but, Vx]) (fun _ => rfl) rfl rfl rfl rfl rfl rfl (m_looked_0 hk hN but) (fun r h' hq => ?_)
  obtain ⟨b1, rfl, hq⟩ := hq
  rcases hq with ⟨i1, hx1, rfl, he1⟩ | ⟨e1, hx1, rfl, hb1⟩
  · rw [he1]
    show Ev X _ _ 6 [Vr 166, Vi 0, Vi but, Vx] [Vi ((i1 : Nat) : Int)] ((SHv st dr rd), (ovl a s b)) _
    refine Ev.steps (k := 3) (pc' := 11) (L' := [Vr 166, Vi 0, Vi but, Vi ((i1 : Nat) : Int)]) (S' := [Vi (b 166 8)]) (h' := ((SHv st dr rd), (ovl a s b))) (fun _ => rfl) ?_
    rw [hk.2.1]
    refine Ev.call (k := 2) (pc1 := 15) (L1 := [Vr 166, Vi 0, Vi but, Vi ((i1 : Nat) : Int)]) (S1 := [Vr 166]) (h1 := ((SHv st dr rd), (ovl a s b))) (m' := 157) (as := [Vr 166]) (S' := []) (L0 := [Vr 166, Vx, Vx, Vx, Vx, Vx]) (fun _ => rfl) rfl rfl rfl rfl rfl rfl (m_nextT hk) (fun r h' hq => ?_)
    obtain ⟨rfl, b9, rfl, hq⟩ := hq
    rcases hq with ⟨p9, hx, ho⟩ | ⟨e9, hx, hb⟩
    · show Ev X _ _ 18 [Vr 166, Vi 0, Vi but, Vi ((i1 : Nat) : Int)] [] ((SHv st dr rd), (ovl a s b9)) _
      refine Ev.fin (k := 2) (r := (some (Vi ((i1 : Nat) : Int)))) (h' := ((SHv st dr rd), (ovl a s b9))) (fun _ => rfl) ?_
      rw [ask_lok, hx1, bnX_o, hx, bnX_o]
      exact ⟨b9, rfl, Or.inl ⟨_, rfl, rfl, ho⟩⟩
    · show Ev X _ _ 18 [Vr 166, Vi 0, Vi but, Vi ((i1 : Nat) : Int)] [] ((SHv st dr rd), (ovl a s b9)) _
      refine Ev.fin (k := 2) (r := (some (Vi ((i1 : Nat) : Int)))) (h' := ((SHv st dr rd), (ovl a s b9))) (fun _ => rfl) ?_
      rw [ask_lok, hx1, bnX_o, hx, bnX_e]
      refine ⟨b9, rfl, Or.inr ⟨_, rfl, ⟨_, rfl, by omega, ?_⟩, hb⟩⟩
      have hi : i1 ≤ cntN N 0 := by
        unfold lokT at hx1
        split at hx1
        · cases hx1
        · split at hx1
          · cases hx1
          · cases hx1; exact nmd_le
      have hi2 : i1 ≠ cntN N 0 := by
        unfold lokT at hx1
        split at hx1
        · cases hx1
        · split at hx1
          · cases hx1
          · next g => cases hx1; exact fun h => g (Or.inl h)
      omega
  · show Ev X _ _ 6 [Vr 166, Vi 0, Vi but, Vx] [Vi 0] ((SHv st dr rd), (ovl a s b1)) _
    refine Ev.steps (k := 3) (pc' := 11) (L' := [Vr 166, Vi 0, Vi but, Vi 0]) (S' := [Vi (b1 166 8)]) (h' := ((SHv st dr rd), (ovl a s b1))) (fun _ => rfl) ?_
    rw [hb1.2.2.2.1]
    refine Ev.ite (P := e1.1 ≠ 0) (k := 1) (a := 18) (b := 14) (L' := [Vr 166, Vi 0, Vi but, Vi 0]) (S' := []) (h' := ((SHv st dr rd), (ovl a s b1))) (fun _ => rfl) (fun b11 => ?_) (fun b11 => ?_)
    · refine Ev.fin (k := 2) (r := (some (Vi 0))) (h' := ((SHv st dr rd), (ovl a s b1))) (fun _ => rfl) ?_
      rw [ask_lok, hx1, bnX_e]
      exact ⟨b1, rfl, Or.inr ⟨_, rfl, ⟨0, rfl, by decide, by decide⟩, hb1⟩⟩
    · have := hb1.2.2.1; omega
theorem m_asked_1 {X : List Int} {d : Nat} {st dr rd : Int} {a s b : C3} {W : TXT} {p : Nat} (hk : TkM W p b) {N : SC} {j : Nat} (hN : NmM N b j) (but : Int) : Ev X (d + 2) 165 0 [Vr 166, Vi 1, Vi but, Vx] [] (SHv st dr rd, ovl a s b) (fun rr hh => ∃ b' : C3, hh = (SHv st dr rd, ovl a s b') ∧ ResC (askT W N 1 but p) (fun r => rr = some (Vi ((r.1 : Nat) : Int)) ∧ OkM W b r.2 b') (fun e => (∃ v : Int, rr = some (Vi v) ∧ 0 ≤ v ∧ v < 8) ∧ BdM W b e b')) := by
  have h8 := (hN.2.2 1 (by decide)).1
  refine Ev.call (k := 3) (pc1 := 3) (L1 := [Vr 166, Vi 1, Vi but, Vx]) (S1 := [Vi but, Vi 1, Vr 166]) (h1 := ((SHv st dr rd), (ovl a s b))) (m' := 166) (as := [Vr 166, Vi 1, Vi but]) (S' := []) (L0 := [Vr 166, Vi 1, Vi but, Vx]) (fun _ => rfl) rfl rfl rfl rfl rfl rfl (m_looked_1 hk hN but) (fun r h' hq => ?_)
  obtain ⟨b1, rfl, hq⟩ := hq
  rcases hq with ⟨i1, hx1, rfl, he1⟩ | ⟨e1, hx1, rfl, hb1⟩
  · rw [he1]
    show Ev X _ _ 6 [Vr 166, Vi 1, Vi but, Vx] [Vi ((i1 : Nat) : Int)] ((SHv st dr rd), (ovl a s b)) _
    refine Ev.steps (k := 3) (pc' := 11) (L' := [Vr 166, Vi 1, Vi but, Vi ((i1 : Nat) : Int)]) (S' := [Vi (b 166 8)]) (h' := ((SHv st dr rd), (ovl a s b))) (fun _ => rfl) ?_
    rw [hk.2.1]
    refine Ev.call (k := 2) (pc1 := 15) (L1 := [Vr 166, Vi 1, Vi but, Vi ((i1 : Nat) : Int)]) (S1 := [Vr 166]) (h1 := ((SHv st dr rd), (ovl a s b))) (m' := 157) (as := [Vr 166]) (S' := []) (L0 := [Vr 166, Vx, Vx, Vx, Vx, Vx]) (fun _ => rfl) rfl rfl rfl rfl rfl rfl (m_nextT hk) (fun r h' hq => ?_)
    obtain ⟨rfl, b9, rfl, hq⟩ := hq
    rcases hq with ⟨p9, hx, ho⟩ | ⟨e9, hx, hb⟩
    · show Ev X _ _ 18 [Vr 166, Vi 1, Vi but, Vi ((i1 : Nat) : Int)] [] ((SHv st dr rd), (ovl a s b9)) _
      refine Ev.fin (k := 2) (r := (some (Vi ((i1 : Nat) : Int)))) (h' := ((SHv st dr rd), (ovl a s b9))) (fun _ => rfl) ?_
      rw [ask_lok, hx1, bnX_o, hx, bnX_o]
      exact ⟨b9, rfl, Or.inl ⟨_, rfl, rfl, ho⟩⟩
    · show Ev X _ _ 18 [Vr 166, Vi 1, Vi but, Vi ((i1 : Nat) : Int)] [] ((SHv st dr rd), (ovl a s b9)) _
      refine Ev.fin (k := 2) (r := (some (Vi ((i1 : Nat) : Int)))) (h' := ((SHv st dr rd), (ovl a s b9))) (fun _ => rfl) ?_
      rw [ask_lok, hx1, bnX_o, hx, bnX_e]
      refine ⟨b9, rfl, Or.inr ⟨_, rfl, ⟨_, rfl, by omega, ?_⟩, hb⟩⟩
      have hi : i1 ≤ cntN N 1 := by
        unfold lokT at hx1
        split at hx1
        · cases hx1
        · split at hx1
          · cases hx1
          · cases hx1; exact nmd_le
      have hi2 : i1 ≠ cntN N 1 := by
        unfold lokT at hx1
        split at hx1
        · cases hx1
        · split at hx1
          · cases hx1
          · next g => cases hx1; exact fun h => g (Or.inl h)
      omega
  · show Ev X _ _ 6 [Vr 166, Vi 1, Vi but, Vx] [Vi 0] ((SHv st dr rd), (ovl a s b1)) _
    refine Ev.steps (k := 3) (pc' := 11) (L' := [Vr 166, Vi 1, Vi but, Vi 0]) (S' := [Vi (b1 166 8)]) (h' := ((SHv st dr rd), (ovl a s b1))) (fun _ => rfl) ?_
    rw [hb1.2.2.2.1]
    refine Ev.ite (P := e1.1 ≠ 0) (k := 1) (a := 18) (b := 14) (L' := [Vr 166, Vi 1, Vi but, Vi 0]) (S' := []) (h' := ((SHv st dr rd), (ovl a s b1))) (fun _ => rfl) (fun b11 => ?_) (fun b11 => ?_)
    · refine Ev.fin (k := 2) (r := (some (Vi 0))) (h' := ((SHv st dr rd), (ovl a s b1))) (fun _ => rfl) ?_
      rw [ask_lok, hx1, bnX_e]
      exact ⟨b1, rfl, Or.inr ⟨_, rfl, ⟨0, rfl, by decide, by decide⟩, hb1⟩⟩
    · have := hb1.2.2.1; omega
theorem m_asked_2 {X : List Int} {d : Nat} {st dr rd : Int} {a s b : C3} {W : TXT} {p : Nat} (hk : TkM W p b) {N : SC} {j : Nat} (hN : NmM N b j) (but : Int) : Ev X (d + 2) 165 0 [Vr 166, Vi 2, Vi but, Vx] [] (SHv st dr rd, ovl a s b) (fun rr hh => ∃ b' : C3, hh = (SHv st dr rd, ovl a s b') ∧ ResC (askT W N 2 but p) (fun r => rr = some (Vi ((r.1 : Nat) : Int)) ∧ OkM W b r.2 b') (fun e => (∃ v : Int, rr = some (Vi v) ∧ 0 ≤ v ∧ v < 8) ∧ BdM W b e b')) := by
  have h8 := (hN.2.2 2 (by decide)).1
  refine Ev.call (k := 3) (pc1 := 3) (L1 := [Vr 166, Vi 2, Vi but, Vx]) (S1 := [Vi but, Vi 2, Vr 166]) (h1 := ((SHv st dr rd), (ovl a s b))) (m' := 166) (as := [Vr 166, Vi 2, Vi but]) (S' := []) (L0 := [Vr 166, Vi 2, Vi but, Vx]) (fun _ => rfl) rfl rfl rfl rfl rfl rfl (m_looked_2 hk hN but) (fun r h' hq => ?_)
  obtain ⟨b1, rfl, hq⟩ := hq
  rcases hq with ⟨i1, hx1, rfl, he1⟩ | ⟨e1, hx1, rfl, hb1⟩
  · rw [he1]
    show Ev X _ _ 6 [Vr 166, Vi 2, Vi but, Vx] [Vi ((i1 : Nat) : Int)] ((SHv st dr rd), (ovl a s b)) _
    refine Ev.steps (k := 3) (pc' := 11) (L' := [Vr 166, Vi 2, Vi but, Vi ((i1 : Nat) : Int)]) (S' := [Vi (b 166 8)]) (h' := ((SHv st dr rd), (ovl a s b))) (fun _ => rfl) ?_
    rw [hk.2.1]
    refine Ev.call (k := 2) (pc1 := 15) (L1 := [Vr 166, Vi 2, Vi but, Vi ((i1 : Nat) : Int)]) (S1 := [Vr 166]) (h1 := ((SHv st dr rd), (ovl a s b))) (m' := 157) (as := [Vr 166]) (S' := []) (L0 := [Vr 166, Vx, Vx, Vx, Vx, Vx]) (fun _ => rfl) rfl rfl rfl rfl rfl rfl (m_nextT hk) (fun r h' hq => ?_)
    obtain ⟨rfl, b9, rfl, hq⟩ := hq
    rcases hq with ⟨p9, hx, ho⟩ | ⟨e9, hx, hb⟩
    · show Ev X _ _ 18 [Vr 166, Vi 2, Vi but, Vi ((i1 : Nat) : Int)] [] ((SHv st dr rd), (ovl a s b9)) _
      refine Ev.fin (k := 2) (r := (some (Vi ((i1 : Nat) : Int)))) (h' := ((SHv st dr rd), (ovl a s b9))) (fun _ => rfl) ?_
      rw [ask_lok, hx1, bnX_o, hx, bnX_o]
      exact ⟨b9, rfl, Or.inl ⟨_, rfl, rfl, ho⟩⟩
    · show Ev X _ _ 18 [Vr 166, Vi 2, Vi but, Vi ((i1 : Nat) : Int)] [] ((SHv st dr rd), (ovl a s b9)) _
      refine Ev.fin (k := 2) (r := (some (Vi ((i1 : Nat) : Int)))) (h' := ((SHv st dr rd), (ovl a s b9))) (fun _ => rfl) ?_
      rw [ask_lok, hx1, bnX_o, hx, bnX_e]
      refine ⟨b9, rfl, Or.inr ⟨_, rfl, ⟨_, rfl, by omega, ?_⟩, hb⟩⟩
      have hi : i1 ≤ cntN N 2 := by
        unfold lokT at hx1
        split at hx1
        · cases hx1
        · split at hx1
          · cases hx1
          · cases hx1; exact nmd_le
      have hi2 : i1 ≠ cntN N 2 := by
        unfold lokT at hx1
        split at hx1
        · cases hx1
        · split at hx1
          · cases hx1
          · next g => cases hx1; exact fun h => g (Or.inl h)
      omega
  · show Ev X _ _ 6 [Vr 166, Vi 2, Vi but, Vx] [Vi 0] ((SHv st dr rd), (ovl a s b1)) _
    refine Ev.steps (k := 3) (pc' := 11) (L' := [Vr 166, Vi 2, Vi but, Vi 0]) (S' := [Vi (b1 166 8)]) (h' := ((SHv st dr rd), (ovl a s b1))) (fun _ => rfl) ?_
    rw [hb1.2.2.2.1]
    refine Ev.ite (P := e1.1 ≠ 0) (k := 1) (a := 18) (b := 14) (L' := [Vr 166, Vi 2, Vi but, Vi 0]) (S' := []) (h' := ((SHv st dr rd), (ovl a s b1))) (fun _ => rfl) (fun b11 => ?_) (fun b11 => ?_)
    · refine Ev.fin (k := 2) (r := (some (Vi 0))) (h' := ((SHv st dr rd), (ovl a s b1))) (fun _ => rfl) ?_
      rw [ask_lok, hx1, bnX_e]
      exact ⟨b1, rfl, Or.inr ⟨_, rfl, ⟨0, rfl, by decide, by decide⟩, hb1⟩⟩
    · have := hb1.2.2.1; omega
theorem TkM.n2 {W : TXT} {p : Nat} {b : SC} (h : TkM W p b) (h1 : tC W p ≠ 301) : b 166 3 ≠ 2 := by
  obtain ⟨-, -, -, -, -, -, -, g1, g2, g3, g4⟩ := id h
  rcases h.cl with g | g | g | g | g
  · have := (g2 g).1; omega
  · have := (g3 g.1 (by omega)).1; omega
  · have := (g3 (by omega) (by omega)).1; omega
  · exact absurd g h1
  · have := g1 g; omega
theorem m_numberA {X : List Int} {d : Nat} {st dr rd : Int} {a s b : C3} {W : TXT} {p : Nat} (hk : TkM W p b) (lo : Nat) (hc : tC W p ≠ 301) (h3 : b 166 3 ≠ 2) : Ev X (d + 2) 188 0 [Vr 166, Vi (lo : Int), Vi 179, Vx] [] (SHv st dr rd, ovl a s b) (fun rr hh => ∃ b' : C3, hh = (SHv st dr rd, ovl a s b') ∧ ResC (numT W lo p) (fun r => rr = some (Vi ((r.1 : Nat) : Int)) ∧ OkM W b r.2 b') (fun e => (∃ v : Int, rr = some (Vi v)) ∧ BdM W b e b')) := by
  refine Ev.steps (k := 2) (pc' := 4) (L' := [Vr 166, Vi (lo : Int), Vi 179, Vx]) (S' := [Vi (b 166 8)]) (h' := ((SHv st dr rd), (ovl a s b))) (fun _ => rfl) ?_
  rw [hk.2.1]
  refine Ev.ite (P := (b 166 3) = 2) (k := 5) (a := 26) (b := 17) (L' := [Vr 166, Vi (lo : Int), Vi 179, Vx]) (S' := []) (h' := ((SHv st dr rd), (ovl a s b))) (fun _ => rfl) (fun b14 => ?_) (fun b14 => ?_)
  · exact absurd b14 h3
  · refine Ev.steps (k := 4) (pc' := 23) (L' := [Vr 166, Vi (lo : Int), Vi 179, Vx]) (S' := [Vi (b 166 4), Vi 1, Vr 166]) (h' := ((SHv st dr rd), (ovl a s b))) (fun _ => rfl) ?_
    rw [hk.2.2.2.2.1]
    refine Ev.call (k := 0) (pc1 := 23) (L1 := [Vr 166, Vi (lo : Int), Vi 179, Vx]) (S1 := [Vi ((tA W p : Nat) : Int), Vi 1, Vr 166]) (h1 := ((SHv st dr rd), (ovl a s b))) (m' := 160) (as := [Vr 166, Vi 1, Vi ((tA W p : Nat) : Int)]) (S' := []) (L0 := [Vr 166, Vi 1, Vi ((tA W p : Nat) : Int)]) (fun _ => rfl) rfl rfl rfl rfl rfl rfl (m_blame (b := b) 1 ((tA W p : Nat) : Int)) (fun r h' hq => ?_)
    obtain ⟨rfl, hq⟩ := hq
    rw [if_neg (by show ¬ 0 < b 166 8; rw [hk.2.1]; decide)] at hq
    obtain rfl := hq
    show Ev X _ _ 26 [Vr 166, Vi (lo : Int), Vi 179, Vx] [] ((SHv st dr rd), (ovl a s (updC (updC b 166 8 1) 166 9 ((tA W p : Nat) : Int)))) _
    refine Ev.steps (k := 2) (pc' := 30) (L' := [Vr 166, Vi (lo : Int), Vi 179, Vx]) (S' := [Vi ((updC (updC b 166 8 1) 166 9 ((tA W p : Nat) : Int)) 166 8)]) (h' := ((SHv st dr rd), (ovl a s (updC (updC b 166 8 1) 166 9 ((tA W p : Nat) : Int))))) (fun _ => rfl) ?_
    rw [(show ((updC (updC b 166 8 1) 166 9 ((tA W p : Nat) : Int)) 166 8) = 1 from rfl)]
    refine Ev.steps (k := 6) (pc' := 63) (L' := [Vr 166, Vi (lo : Int), Vi 179, Vi ((updC (updC b 166 8 1) 166 9 ((tA W p : Nat) : Int)) 166 6)]) (S' := [Vi ((updC (updC b 166 8 1) 166 9 ((tA W p : Nat) : Int)) 166 8)]) (h' := ((SHv st dr rd), (ovl a s (updC (updC b 166 8 1) 166 9 ((tA W p : Nat) : Int))))) (fun _ => rfl) ?_
    rw [(show ((updC (updC b 166 8 1) 166 9 ((tA W p : Nat) : Int)) 166 8) = 1 from rfl)]
    refine Ev.fin (k := 3) (r := (some (Vi ((updC (updC b 166 8 1) 166 9 ((tA W p : Nat) : Int)) 166 6)))) (h' := ((SHv st dr rd), (ovl a s (updC (updC b 166 8 1) 166 9 ((tA W p : Nat) : Int))))) (fun _ => rfl) ?_
    refine ⟨_, rfl, Or.inr ⟨_, ?_, ⟨_, rfl⟩, hk.bl (by decide)⟩⟩
    unfold numT
    rw [if_pos hc]
theorem m_numberC {X : List Int} {d : Nat} {st dr rd : Int} {a s b : C3} {W : TXT} {p : Nat} (hk : TkM W p b) (lo : Nat) (hc : tC W p = 301) (h3 : b 166 3 = 2) (h6 : b 166 6 = ((tV W p : Nat) : Int)) : Ev X (d + 2) 188 0 [Vr 166, Vi (lo : Int), Vi 179, Vx] [] (SHv st dr rd, ovl a s b) (fun rr hh => ∃ b' : C3, hh = (SHv st dr rd, ovl a s b') ∧ ResC (numT W lo p) (fun r => rr = some (Vi ((r.1 : Nat) : Int)) ∧ OkM W b r.2 b') (fun e => (∃ v : Int, rr = some (Vi v)) ∧ BdM W b e b')) := by
  refine Ev.steps (k := 2) (pc' := 4) (L' := [Vr 166, Vi (lo : Int), Vi 179, Vx]) (S' := [Vi (b 166 8)]) (h' := ((SHv st dr rd), (ovl a s b))) (fun _ => rfl) ?_
  rw [hk.2.1]
  refine Ev.steps (k := 3) (pc' := 13) (L' := [Vr 166, Vi (lo : Int), Vi 179, Vx]) (S' := [Vi (b 166 3)]) (h' := ((SHv st dr rd), (ovl a s b))) (fun _ => rfl) ?_
  rw [h3]
  refine Ev.steps (k := 4) (pc' := 30) (L' := [Vr 166, Vi (lo : Int), Vi 179, Vx]) (S' := [Vi (b 166 8)]) (h' := ((SHv st dr rd), (ovl a s b))) (fun _ => rfl) ?_
  rw [hk.2.1]
  refine Ev.steps (k := 3) (pc' := 37) (L' := [Vr 166, Vi (lo : Int), Vi 179, Vx]) (S' := [Vi (b 166 6)]) (h' := ((SHv st dr rd), (ovl a s b))) (fun _ => rfl) ?_
  rw [h6]
  refine Ev.call (k := 2) (pc1 := 39) (L1 := [Vr 166, Vi (lo : Int), Vi 179, Vx]) (S1 := [Vi 179, Vi (lo : Int), Vi ((tV W p : Nat) : Int)]) (h1 := ((SHv st dr rd), (ovl a s b))) (m' := 189) (as := [Vi ((tV W p : Nat) : Int), Vi (lo : Int), Vi 179]) (S' := []) (L0 := [Vi ((tV W p : Nat) : Int), Vi (lo : Int), Vi 179]) (fun _ => rfl) rfl rfl rfl rfl rfl rfl (m_is ((tV W p : Nat) : Int) (lo : Int) 179) (fun r h' hq => ?_)
  obtain ⟨rfl, rfl⟩ := hq
  by_cases c39 : (lo : Int) ≤ ((tV W p : Nat) : Int) ∧ ((tV W p : Nat) : Int) ≤ 179
  · rw [if_pos c39]
    show Ev X _ _ 42 [Vr 166, Vi (lo : Int), Vi 179, Vx] [Vi 1] ((SHv st dr rd), (ovl a s b)) _
    refine Ev.steps (k := 3) (pc' := 58) (L' := [Vr 166, Vi (lo : Int), Vi 179, Vx]) (S' := [Vi (b 166 6)]) (h' := ((SHv st dr rd), (ovl a s b))) (fun _ => rfl) ?_
    rw [h6]
    refine Ev.steps (k := 3) (pc' := 63) (L' := [Vr 166, Vi (lo : Int), Vi 179, Vi ((tV W p : Nat) : Int)]) (S' := [Vi (b 166 8)]) (h' := ((SHv st dr rd), (ovl a s b))) (fun _ => rfl) ?_
    rw [hk.2.1]
    refine Ev.call (k := 2) (pc1 := 67) (L1 := [Vr 166, Vi (lo : Int), Vi 179, Vi ((tV W p : Nat) : Int)]) (S1 := [Vr 166]) (h1 := ((SHv st dr rd), (ovl a s b))) (m' := 157) (as := [Vr 166]) (S' := []) (L0 := [Vr 166, Vx, Vx, Vx, Vx, Vx]) (fun _ => rfl) rfl rfl rfl rfl rfl rfl (m_nextT hk) (fun r h' hq => ?_)
    obtain ⟨rfl, b9, rfl, hq⟩ := hq
    rcases hq with ⟨p9, hx, ho⟩ | ⟨e9, hx, hb⟩
    · show Ev X _ _ 70 [Vr 166, Vi (lo : Int), Vi 179, Vi ((tV W p : Nat) : Int)] [] ((SHv st dr rd), (ovl a s b9)) _
      refine Ev.fin (k := 2) (r := (some (Vi ((tV W p : Nat) : Int)))) (h' := ((SHv st dr rd), (ovl a s b9))) (fun _ => rfl) ?_
      refine ⟨b9, rfl, Or.inl ⟨(tV W p, p9), ?_, rfl, ho⟩⟩
      unfold numT
      rw [if_neg (by omega), if_neg (by omega), hx, bnX_o]
    · show Ev X _ _ 70 [Vr 166, Vi (lo : Int), Vi 179, Vi ((tV W p : Nat) : Int)] [] ((SHv st dr rd), (ovl a s b9)) _
      refine Ev.fin (k := 2) (r := (some (Vi ((tV W p : Nat) : Int)))) (h' := ((SHv st dr rd), (ovl a s b9))) (fun _ => rfl) ?_
      refine ⟨b9, rfl, Or.inr ⟨e9, ?_, ⟨_, rfl⟩, hb⟩⟩
      unfold numT
      rw [if_neg (by omega), if_neg (by omega), hx, bnX_e]
  · rw [if_neg c39]
    show Ev X _ _ 42 [Vr 166, Vi (lo : Int), Vi 179, Vx] [Vi 0] ((SHv st dr rd), (ovl a s b)) _
    refine Ev.steps (k := 5) (pc' := 51) (L' := [Vr 166, Vi (lo : Int), Vi 179, Vx]) (S' := [Vi (b 166 4), Vi 4, Vr 166]) (h' := ((SHv st dr rd), (ovl a s b))) (fun _ => rfl) ?_
    rw [hk.2.2.2.2.1]
    refine Ev.call (k := 0) (pc1 := 51) (L1 := [Vr 166, Vi (lo : Int), Vi 179, Vx]) (S1 := [Vi ((tA W p : Nat) : Int), Vi 4, Vr 166]) (h1 := ((SHv st dr rd), (ovl a s b))) (m' := 160) (as := [Vr 166, Vi 4, Vi ((tA W p : Nat) : Int)]) (S' := []) (L0 := [Vr 166, Vi 4, Vi ((tA W p : Nat) : Int)]) (fun _ => rfl) rfl rfl rfl rfl rfl rfl (m_blame (b := b) 4 ((tA W p : Nat) : Int)) (fun r h' hq => ?_)
    obtain ⟨rfl, hq⟩ := hq
    rw [if_neg (by show ¬ 0 < b 166 8; rw [hk.2.1]; decide)] at hq
    obtain rfl := hq
    show Ev X _ _ 54 [Vr 166, Vi (lo : Int), Vi 179, Vx] [] ((SHv st dr rd), (ovl a s (updC (updC b 166 8 4) 166 9 ((tA W p : Nat) : Int)))) _
    refine Ev.steps (k := 5) (pc' := 63) (L' := [Vr 166, Vi (lo : Int), Vi 179, Vi ((updC (updC b 166 8 4) 166 9 ((tA W p : Nat) : Int)) 166 6)]) (S' := [Vi ((updC (updC b 166 8 4) 166 9 ((tA W p : Nat) : Int)) 166 8)]) (h' := ((SHv st dr rd), (ovl a s (updC (updC b 166 8 4) 166 9 ((tA W p : Nat) : Int))))) (fun _ => rfl) ?_
    rw [(show ((updC (updC b 166 8 4) 166 9 ((tA W p : Nat) : Int)) 166 8) = 4 from rfl)]
    refine Ev.fin (k := 3) (r := (some (Vi ((updC (updC b 166 8 4) 166 9 ((tA W p : Nat) : Int)) 166 6)))) (h' := ((SHv st dr rd), (ovl a s (updC (updC b 166 8 4) 166 9 ((tA W p : Nat) : Int))))) (fun _ => rfl) ?_
    refine ⟨_, rfl, Or.inr ⟨_, ?_, ⟨_, rfl⟩, hk.bl (by decide)⟩⟩
    unfold numT
    rw [if_neg (by omega), if_pos (by omega)]
theorem m_number {X : List Int} {d : Nat} {st dr rd : Int} {a s b : C3} {W : TXT} {p : Nat} (hk : TkM W p b) (lo : Nat) : Ev X (d + 2) 188 0 [Vr 166, Vi (lo : Int), Vi 179, Vx] [] (SHv st dr rd, ovl a s b) (fun rr hh => ∃ b' : C3, hh = (SHv st dr rd, ovl a s b') ∧ ResC (numT W lo p) (fun r => rr = some (Vi ((r.1 : Nat) : Int)) ∧ OkM W b r.2 b') (fun e => (∃ v : Int, rr = some (Vi v)) ∧ BdM W b e b')) := by
  by_cases hc : tC W p = 301
  · have h := hk.2.2.2.2.2.2.2.2.2.2 hc
    exact m_numberC hk lo hc h.1 h.2
  · exact m_numberA hk lo hc (hk.n2 hc)
theorem m_freshA {X : List Int} {d : Nat} {st dr rd : Int} {a s b : C3} {W : TXT} {p : Nat} (hk : TkM W p b) {N : SC} (hc : tC W p ≠ 300) (h3 : b 166 3 ≠ 1) : Ev X (d + 2) 183 0 [Vr 166, Vx, Vx] [] (SHv st dr rd, ovl a s b) (fun rr hh => ∃ b' : C3, hh = (SHv st dr rd, ovl a s b') ∧ ResC (givT W N p) (fun r => rr = some (Vl ((r.1 : Nat) : Int)) ∧ OkM W b r.2 b') (fun e => (∃ v : Int, rr = some (Vl v)) ∧ BdM W b e b')) := by
  refine Ev.steps (k := 2) (pc' := 4) (L' := [Vr 166, Vx, Vx]) (S' := [Vi (b 166 8)]) (h' := ((SHv st dr rd), (ovl a s b))) (fun _ => rfl) ?_
  rw [hk.2.1]
  refine Ev.ite (P := (b 166 3) ≠ 1) (k := 5) (a := 28) (b := 17) (L' := [Vr 166, Vx, Vx]) (S' := []) (h' := ((SHv st dr rd), (ovl a s b))) (fun _ => rfl) (fun b14 => ?_) (fun b14 => ?_)
  · refine Ev.steps (k := 4) (pc' := 34) (L' := [Vr 166, Vx, Vx]) (S' := [Vi (b 166 4), Vi 1, Vr 166]) (h' := ((SHv st dr rd), (ovl a s b))) (fun _ => rfl) ?_
    rw [hk.2.2.2.2.1]
    refine Ev.call (k := 0) (pc1 := 34) (L1 := [Vr 166, Vx, Vx]) (S1 := [Vi ((tA W p : Nat) : Int), Vi 1, Vr 166]) (h1 := ((SHv st dr rd), (ovl a s b))) (m' := 160) (as := [Vr 166, Vi 1, Vi ((tA W p : Nat) : Int)]) (S' := []) (L0 := [Vr 166, Vi 1, Vi ((tA W p : Nat) : Int)]) (fun _ => rfl) rfl rfl rfl rfl rfl rfl (m_blame (b := b) 1 ((tA W p : Nat) : Int)) (fun r h' hq => ?_)
    obtain ⟨rfl, hq⟩ := hq
    rw [if_neg (by show ¬ 0 < b 166 8; rw [hk.2.1]; decide)] at hq
    obtain rfl := hq
    show Ev X _ _ 37 [Vr 166, Vx, Vx] [] ((SHv st dr rd), (ovl a s (updC (updC b 166 8 1) 166 9 ((tA W p : Nat) : Int)))) _
    refine Ev.steps (k := 2) (pc' := 41) (L' := [Vr 166, Vx, Vx]) (S' := [Vi ((updC (updC b 166 8 1) 166 9 ((tA W p : Nat) : Int)) 166 8)]) (h' := ((SHv st dr rd), (ovl a s (updC (updC b 166 8 1) 166 9 ((tA W p : Nat) : Int))))) (fun _ => rfl) ?_
    rw [(show ((updC (updC b 166 8 1) 166 9 ((tA W p : Nat) : Int)) 166 8) = 1 from rfl)]
    refine Ev.steps (k := 6) (pc' := 101) (L' := [Vr 166, Vl ((updC (updC b 166 8 1) 166 9 ((tA W p : Nat) : Int)) 166 7), Vx]) (S' := [Vi ((updC (updC b 166 8 1) 166 9 ((tA W p : Nat) : Int)) 166 8)]) (h' := ((SHv st dr rd), (ovl a s (updC (updC b 166 8 1) 166 9 ((tA W p : Nat) : Int))))) (fun _ => rfl) ?_
    rw [(show ((updC (updC b 166 8 1) 166 9 ((tA W p : Nat) : Int)) 166 8) = 1 from rfl)]
    refine Ev.fin (k := 3) (r := (some (Vl ((updC (updC b 166 8 1) 166 9 ((tA W p : Nat) : Int)) 166 7)))) (h' := ((SHv st dr rd), (ovl a s (updC (updC b 166 8 1) 166 9 ((tA W p : Nat) : Int))))) (fun _ => rfl) ?_
    refine ⟨_, rfl, Or.inr ⟨_, ?_, ⟨_, rfl⟩, hk.bl (by decide)⟩⟩
    unfold givT
    rw [if_pos hc]
  · exact absurd (Classical.not_not.mp b14) h3
theorem m_freshB {X : List Int} {d : Nat} {st dr rd : Int} {a s b : C3} {W : TXT} {p : Nat} (hk : TkM W p b) {N : SC} (hc : tC W p ≠ 300) (h3 : b 166 3 = 1) (h7 : b 166 7 = ((tV W p : Nat) : Int)) (how : tcW (tV W p) ≠ 300) : Ev X (d + 2) 183 0 [Vr 166, Vx, Vx] [] (SHv st dr rd, ovl a s b) (fun rr hh => ∃ b' : C3, hh = (SHv st dr rd, ovl a s b') ∧ ResC (givT W N p) (fun r => rr = some (Vl ((r.1 : Nat) : Int)) ∧ OkM W b r.2 b') (fun e => (∃ v : Int, rr = some (Vl v)) ∧ BdM W b e b')) := by
  refine Ev.steps (k := 2) (pc' := 4) (L' := [Vr 166, Vx, Vx]) (S' := [Vi (b 166 8)]) (h' := ((SHv st dr rd), (ovl a s b))) (fun _ => rfl) ?_
  rw [hk.2.1]
  refine Ev.steps (k := 3) (pc' := 13) (L' := [Vr 166, Vx, Vx]) (S' := [Vi (b 166 3)]) (h' := ((SHv st dr rd), (ovl a s b))) (fun _ => rfl) ?_
  rw [h3]
  refine Ev.steps (k := 5) (pc' := 22) (L' := [Vr 166, Vx, Vx]) (S' := [Vl (b 166 7), Vr 166]) (h' := ((SHv st dr rd), (ovl a s b))) (fun _ => rfl) ?_
  rw [h7]
  refine Ev.call (k := 0) (pc1 := 22) (L1 := [Vr 166, Vx, Vx]) (S1 := [Vl ((tV W p : Nat) : Int), Vr 166]) (h1 := ((SHv st dr rd), (ovl a s b))) (m' := 167) (as := [Vr 166, Vl ((tV W p : Nat) : Int)]) (S' := []) (L0 := [Vr 166, Vl ((tV W p : Nat) : Int), Vx]) (fun _ => rfl) rfl rfl rfl rfl rfl rfl (m_isOwn (tV W p)) (fun r h' hq => ?_)
  obtain ⟨rfl, rfl⟩ := hq
  rw [if_pos how]
  show Ev X _ _ 25 [Vr 166, Vx, Vx] [Vi 1] ((SHv st dr rd), (ovl a s b)) _
  refine Ev.steps (k := 5) (pc' := 34) (L' := [Vr 166, Vx, Vx]) (S' := [Vi (b 166 4), Vi 1, Vr 166]) (h' := ((SHv st dr rd), (ovl a s b))) (fun _ => rfl) ?_
  rw [hk.2.2.2.2.1]
  refine Ev.call (k := 0) (pc1 := 34) (L1 := [Vr 166, Vx, Vx]) (S1 := [Vi ((tA W p : Nat) : Int), Vi 1, Vr 166]) (h1 := ((SHv st dr rd), (ovl a s b))) (m' := 160) (as := [Vr 166, Vi 1, Vi ((tA W p : Nat) : Int)]) (S' := []) (L0 := [Vr 166, Vi 1, Vi ((tA W p : Nat) : Int)]) (fun _ => rfl) rfl rfl rfl rfl rfl rfl (m_blame (b := b) 1 ((tA W p : Nat) : Int)) (fun r h' hq => ?_)
  obtain ⟨rfl, hq⟩ := hq
  rw [if_neg (by show ¬ 0 < b 166 8; rw [hk.2.1]; decide)] at hq
  obtain rfl := hq
  show Ev X _ _ 37 [Vr 166, Vx, Vx] [] ((SHv st dr rd), (ovl a s (updC (updC b 166 8 1) 166 9 ((tA W p : Nat) : Int)))) _
  refine Ev.steps (k := 2) (pc' := 41) (L' := [Vr 166, Vx, Vx]) (S' := [Vi ((updC (updC b 166 8 1) 166 9 ((tA W p : Nat) : Int)) 166 8)]) (h' := ((SHv st dr rd), (ovl a s (updC (updC b 166 8 1) 166 9 ((tA W p : Nat) : Int))))) (fun _ => rfl) ?_
  rw [(show ((updC (updC b 166 8 1) 166 9 ((tA W p : Nat) : Int)) 166 8) = 1 from rfl)]
  refine Ev.steps (k := 6) (pc' := 101) (L' := [Vr 166, Vl ((updC (updC b 166 8 1) 166 9 ((tA W p : Nat) : Int)) 166 7), Vx]) (S' := [Vi ((updC (updC b 166 8 1) 166 9 ((tA W p : Nat) : Int)) 166 8)]) (h' := ((SHv st dr rd), (ovl a s (updC (updC b 166 8 1) 166 9 ((tA W p : Nat) : Int))))) (fun _ => rfl) ?_
  rw [(show ((updC (updC b 166 8 1) 166 9 ((tA W p : Nat) : Int)) 166 8) = 1 from rfl)]
  refine Ev.fin (k := 3) (r := (some (Vl ((updC (updC b 166 8 1) 166 9 ((tA W p : Nat) : Int)) 166 7)))) (h' := ((SHv st dr rd), (ovl a s (updC (updC b 166 8 1) 166 9 ((tA W p : Nat) : Int))))) (fun _ => rfl) ?_
  refine ⟨_, rfl, Or.inr ⟨_, ?_, ⟨_, rfl⟩, hk.bl (by decide)⟩⟩
  unfold givT
  rw [if_pos hc]
theorem m_freshC {X : List Int} {d : Nat} {st dr rd : Int} {a s b : C3} {W : TXT} {p : Nat} (hk : TkM W p b) {N : SC} {j : Nat} (hN : NmM N b j) (hc : tC W p = 300) (h3 : b 166 3 = 1) (h7 : b 166 7 = ((tV W p : Nat) : Int)) (how : ¬ tcW (tV W p) ≠ 300) : Ev X (d + 2) 183 0 [Vr 166, Vx, Vx] [] (SHv st dr rd, ovl a s b) (fun rr hh => ∃ b' : C3, hh = (SHv st dr rd, ovl a s b') ∧ ResC (givT W N p) (fun r => rr = some (Vl ((r.1 : Nat) : Int)) ∧ OkM W b r.2 b') (fun e => (∃ v : Int, rr = some (Vl v)) ∧ BdM W b e b')) := by
  refine Ev.steps (k := 2) (pc' := 4) (L' := [Vr 166, Vx, Vx]) (S' := [Vi (b 166 8)]) (h' := ((SHv st dr rd), (ovl a s b))) (fun _ => rfl) ?_
  rw [hk.2.1]
  refine Ev.steps (k := 3) (pc' := 13) (L' := [Vr 166, Vx, Vx]) (S' := [Vi (b 166 3)]) (h' := ((SHv st dr rd), (ovl a s b))) (fun _ => rfl) ?_
  rw [h3]
  refine Ev.steps (k := 5) (pc' := 22) (L' := [Vr 166, Vx, Vx]) (S' := [Vl (b 166 7), Vr 166]) (h' := ((SHv st dr rd), (ovl a s b))) (fun _ => rfl) ?_
  rw [h7]
  refine Ev.call (k := 0) (pc1 := 22) (L1 := [Vr 166, Vx, Vx]) (S1 := [Vl ((tV W p : Nat) : Int), Vr 166]) (h1 := ((SHv st dr rd), (ovl a s b))) (m' := 167) (as := [Vr 166, Vl ((tV W p : Nat) : Int)]) (S' := []) (L0 := [Vr 166, Vl ((tV W p : Nat) : Int), Vx]) (fun _ => rfl) rfl rfl rfl rfl rfl rfl (m_isOwn (tV W p)) (fun r h' hq => ?_)
  obtain ⟨rfl, rfl⟩ := hq
  rw [if_neg how]
  show Ev X _ _ 25 [Vr 166, Vx, Vx] [Vi 0] ((SHv st dr rd), (ovl a s b)) _
  refine Ev.steps (k := 3) (pc' := 41) (L' := [Vr 166, Vx, Vx]) (S' := [Vi (b 166 8)]) (h' := ((SHv st dr rd), (ovl a s b))) (fun _ => rfl) ?_
  rw [hk.2.1]
  refine Ev.steps (k := 5) (pc' := 50) (L' := [Vr 166, Vx, Vx]) (S' := [Vl (b 166 7), Vi 0, Vr 166]) (h' := ((SHv st dr rd), (ovl a s b))) (fun _ => rfl) ?_
  rw [h7]
  refine Ev.call (k := 0) (pc1 := 50) (L1 := [Vr 166, Vx, Vx]) (S1 := [Vl ((tV W p : Nat) : Int), Vi 0, Vr 166]) (h1 := ((SHv st dr rd), (ovl a s b))) (m' := 168) (as := [Vr 166, Vi 0, Vl ((tV W p : Nat) : Int)]) (S' := []) (L0 := [Vr 166, Vi 0, Vl ((tV W p : Nat) : Int), Vx, Vx, Vx, Vx, Vx]) (fun _ => rfl) rfl rfl rfl rfl rfl rfl (m_named_0 hN (tV W p)) (fun r h' hq => ?_)
  obtain ⟨rfl, rfl⟩ := hq
  show Ev X _ _ 53 [Vr 166, Vx, Vx] [Vi (nmI N 0 (tV W p))] ((SHv st dr rd), (ovl a s b)) _
  refine Ev.ite (P := (nmI N 0 (tV W p)) ≠ (-1)) (k := 2) (a := 83) (b := 57) (L' := [Vr 166, Vx, Vx]) (S' := []) (h' := ((SHv st dr rd), (ovl a s b))) (fun _ => rfl) (fun b54 => ?_) (fun b54 => ?_)
  · rw [nmI_ne] at b54
    refine Ev.steps (k := 4) (pc' := 89) (L' := [Vr 166, Vx, Vx]) (S' := [Vi (b 166 4), Vi 2, Vr 166]) (h' := ((SHv st dr rd), (ovl a s b))) (fun _ => rfl) ?_
    rw [hk.2.2.2.2.1]
    refine Ev.call (k := 0) (pc1 := 89) (L1 := [Vr 166, Vx, Vx]) (S1 := [Vi ((tA W p : Nat) : Int), Vi 2, Vr 166]) (h1 := ((SHv st dr rd), (ovl a s b))) (m' := 160) (as := [Vr 166, Vi 2, Vi ((tA W p : Nat) : Int)]) (S' := []) (L0 := [Vr 166, Vi 2, Vi ((tA W p : Nat) : Int)]) (fun _ => rfl) rfl rfl rfl rfl rfl rfl (m_blame (b := b) 2 ((tA W p : Nat) : Int)) (fun r h' hq => ?_)
    obtain ⟨rfl, hq⟩ := hq
    rw [if_neg (by show ¬ 0 < b 166 8; rw [hk.2.1]; decide)] at hq
    obtain rfl := hq
    show Ev X _ _ 92 [Vr 166, Vx, Vx] [] ((SHv st dr rd), (ovl a s (updC (updC b 166 8 2) 166 9 ((tA W p : Nat) : Int)))) _
    refine Ev.steps (k := 2) (pc' := 96) (L' := [Vr 166, Vx, Vx]) (S' := [Vl ((updC (updC b 166 8 2) 166 9 ((tA W p : Nat) : Int)) 166 7)]) (h' := ((SHv st dr rd), (ovl a s (updC (updC b 166 8 2) 166 9 ((tA W p : Nat) : Int))))) (fun _ => rfl) ?_
    rw [(show ((updC (updC b 166 8 2) 166 9 ((tA W p : Nat) : Int)) 166 7) = ((tV W p : Nat) : Int) from h7)]
    refine Ev.steps (k := 3) (pc' := 101) (L' := [Vr 166, Vl ((tV W p : Nat) : Int), Vx]) (S' := [Vi ((updC (updC b 166 8 2) 166 9 ((tA W p : Nat) : Int)) 166 8)]) (h' := ((SHv st dr rd), (ovl a s (updC (updC b 166 8 2) 166 9 ((tA W p : Nat) : Int))))) (fun _ => rfl) ?_
    rw [(show ((updC (updC b 166 8 2) 166 9 ((tA W p : Nat) : Int)) 166 8) = 2 from rfl)]
    refine Ev.fin (k := 3) (r := (some (Vl ((tV W p : Nat) : Int)))) (h' := ((SHv st dr rd), (ovl a s (updC (updC b 166 8 2) 166 9 ((tA W p : Nat) : Int))))) (fun _ => rfl) ?_
    refine ⟨_, rfl, Or.inr ⟨_, ?_, ⟨_, rfl⟩, hk.bl (by decide)⟩⟩
    unfold givT
    first
      | (rw [if_neg (by omega), if_pos (Or.inl b54)]; done)
      | (rw [if_neg (by omega), if_pos (Or.inr (Or.inl b67))]; done)
      | (rw [if_neg (by omega), if_pos (Or.inr (Or.inr b80))]; done)
  · rw [nmI_ne] at b54
    refine Ev.steps (k := 4) (pc' := 63) (L' := [Vr 166, Vx, Vx]) (S' := [Vl (b 166 7), Vi 1, Vr 166]) (h' := ((SHv st dr rd), (ovl a s b))) (fun _ => rfl) ?_
    rw [h7]
    refine Ev.call (k := 0) (pc1 := 63) (L1 := [Vr 166, Vx, Vx]) (S1 := [Vl ((tV W p : Nat) : Int), Vi 1, Vr 166]) (h1 := ((SHv st dr rd), (ovl a s b))) (m' := 168) (as := [Vr 166, Vi 1, Vl ((tV W p : Nat) : Int)]) (S' := []) (L0 := [Vr 166, Vi 1, Vl ((tV W p : Nat) : Int), Vx, Vx, Vx, Vx, Vx]) (fun _ => rfl) rfl rfl rfl rfl rfl rfl (m_named_1 hN (tV W p)) (fun r h' hq => ?_)
    obtain ⟨rfl, rfl⟩ := hq
    show Ev X _ _ 66 [Vr 166, Vx, Vx] [Vi (nmI N 1 (tV W p))] ((SHv st dr rd), (ovl a s b)) _
    refine Ev.ite (P := (nmI N 1 (tV W p)) ≠ (-1)) (k := 2) (a := 83) (b := 70) (L' := [Vr 166, Vx, Vx]) (S' := []) (h' := ((SHv st dr rd), (ovl a s b))) (fun _ => rfl) (fun b67 => ?_) (fun b67 => ?_)
    · rw [nmI_ne] at b67
      refine Ev.steps (k := 4) (pc' := 89) (L' := [Vr 166, Vx, Vx]) (S' := [Vi (b 166 4), Vi 2, Vr 166]) (h' := ((SHv st dr rd), (ovl a s b))) (fun _ => rfl) ?_
      rw [hk.2.2.2.2.1]
      refine Ev.call (k := 0) (pc1 := 89) (L1 := [Vr 166, Vx, Vx]) (S1 := [Vi ((tA W p : Nat) : Int), Vi 2, Vr 166]) (h1 := ((SHv st dr rd), (ovl a s b))) (m' := 160) (as := [Vr 166, Vi 2, Vi ((tA W p : Nat) : Int)]) (S' := []) (L0 := [Vr 166, Vi 2, Vi ((tA W p : Nat) : Int)]) (fun _ => rfl) rfl rfl rfl rfl rfl rfl (m_blame (b := b) 2 ((tA W p : Nat) : Int)) (fun r h' hq => ?_)
      obtain ⟨rfl, hq⟩ := hq
      rw [if_neg (by show ¬ 0 < b 166 8; rw [hk.2.1]; decide)] at hq
      obtain rfl := hq
      show Ev X _ _ 92 [Vr 166, Vx, Vx] [] ((SHv st dr rd), (ovl a s (updC (updC b 166 8 2) 166 9 ((tA W p : Nat) : Int)))) _
      refine Ev.steps (k := 2) (pc' := 96) (L' := [Vr 166, Vx, Vx]) (S' := [Vl ((updC (updC b 166 8 2) 166 9 ((tA W p : Nat) : Int)) 166 7)]) (h' := ((SHv st dr rd), (ovl a s (updC (updC b 166 8 2) 166 9 ((tA W p : Nat) : Int))))) (fun _ => rfl) ?_
      rw [(show ((updC (updC b 166 8 2) 166 9 ((tA W p : Nat) : Int)) 166 7) = ((tV W p : Nat) : Int) from h7)]
      refine Ev.steps (k := 3) (pc' := 101) (L' := [Vr 166, Vl ((tV W p : Nat) : Int), Vx]) (S' := [Vi ((updC (updC b 166 8 2) 166 9 ((tA W p : Nat) : Int)) 166 8)]) (h' := ((SHv st dr rd), (ovl a s (updC (updC b 166 8 2) 166 9 ((tA W p : Nat) : Int))))) (fun _ => rfl) ?_
      rw [(show ((updC (updC b 166 8 2) 166 9 ((tA W p : Nat) : Int)) 166 8) = 2 from rfl)]
      refine Ev.fin (k := 3) (r := (some (Vl ((tV W p : Nat) : Int)))) (h' := ((SHv st dr rd), (ovl a s (updC (updC b 166 8 2) 166 9 ((tA W p : Nat) : Int))))) (fun _ => rfl) ?_
      refine ⟨_, rfl, Or.inr ⟨_, ?_, ⟨_, rfl⟩, hk.bl (by decide)⟩⟩
      unfold givT
      first
        | (rw [if_neg (by omega), if_pos (Or.inl b54)]; done)
        | (rw [if_neg (by omega), if_pos (Or.inr (Or.inl b67))]; done)
        | (rw [if_neg (by omega), if_pos (Or.inr (Or.inr b80))]; done)
    · rw [nmI_ne] at b67
      refine Ev.steps (k := 4) (pc' := 76) (L' := [Vr 166, Vx, Vx]) (S' := [Vl (b 166 7), Vi 2, Vr 166]) (h' := ((SHv st dr rd), (ovl a s b))) (fun _ => rfl) ?_
      rw [h7]
      refine Ev.call (k := 0) (pc1 := 76) (L1 := [Vr 166, Vx, Vx]) (S1 := [Vl ((tV W p : Nat) : Int), Vi 2, Vr 166]) (h1 := ((SHv st dr rd), (ovl a s b))) (m' := 168) (as := [Vr 166, Vi 2, Vl ((tV W p : Nat) : Int)]) (S' := []) (L0 := [Vr 166, Vi 2, Vl ((tV W p : Nat) : Int), Vx, Vx, Vx, Vx, Vx]) (fun _ => rfl) rfl rfl rfl rfl rfl rfl (m_named_2 hN (tV W p)) (fun r h' hq => ?_)
      obtain ⟨rfl, rfl⟩ := hq
      show Ev X _ _ 79 [Vr 166, Vx, Vx] [Vi (nmI N 2 (tV W p))] ((SHv st dr rd), (ovl a s b)) _
      refine Ev.ite (P := (nmI N 2 (tV W p)) = (-1)) (k := 2) (a := 92) (b := 83) (L' := [Vr 166, Vx, Vx]) (S' := []) (h' := ((SHv st dr rd), (ovl a s b))) (fun _ => rfl) (fun b80 => ?_) (fun b80 => ?_)
      · rw [← Classical.not_not (a := nmI N 2 (tV W p) = -1), ← ne_eq, nmI_ne] at b80
        refine Ev.steps (k := 2) (pc' := 96) (L' := [Vr 166, Vx, Vx]) (S' := [Vl (b 166 7)]) (h' := ((SHv st dr rd), (ovl a s b))) (fun _ => rfl) ?_
        rw [h7]
        refine Ev.steps (k := 3) (pc' := 101) (L' := [Vr 166, Vl ((tV W p : Nat) : Int), Vx]) (S' := [Vi (b 166 8)]) (h' := ((SHv st dr rd), (ovl a s b))) (fun _ => rfl) ?_
        rw [hk.2.1]
        refine Ev.call (k := 2) (pc1 := 105) (L1 := [Vr 166, Vl ((tV W p : Nat) : Int), Vx]) (S1 := [Vr 166]) (h1 := ((SHv st dr rd), (ovl a s b))) (m' := 157) (as := [Vr 166]) (S' := []) (L0 := [Vr 166, Vx, Vx, Vx, Vx, Vx]) (fun _ => rfl) rfl rfl rfl rfl rfl rfl (m_nextT hk) (fun r h' hq => ?_)
        obtain ⟨rfl, b9, rfl, hq⟩ := hq
        rcases hq with ⟨p9, hx, ho⟩ | ⟨e9, hx, hb⟩
        · show Ev X _ _ 108 [Vr 166, Vl ((tV W p : Nat) : Int), Vx] [] ((SHv st dr rd), (ovl a s b9)) _
          refine Ev.fin (k := 2) (r := (some (Vl ((tV W p : Nat) : Int)))) (h' := ((SHv st dr rd), (ovl a s b9))) (fun _ => rfl) ?_
          refine ⟨b9, rfl, Or.inl ⟨(tV W p, p9), ?_, rfl, ho⟩⟩
          unfold givT
          rw [if_neg (by omega), if_neg (fun h => h.elim b54 (fun h => h.elim b67 b80)), hx, bnX_o]
        · show Ev X _ _ 108 [Vr 166, Vl ((tV W p : Nat) : Int), Vx] [] ((SHv st dr rd), (ovl a s b9)) _
          refine Ev.fin (k := 2) (r := (some (Vl ((tV W p : Nat) : Int)))) (h' := ((SHv st dr rd), (ovl a s b9))) (fun _ => rfl) ?_
          refine ⟨b9, rfl, Or.inr ⟨e9, ?_, ⟨_, rfl⟩, hb⟩⟩
          unfold givT
          rw [if_neg (by omega), if_neg (fun h => h.elim b54 (fun h => h.elim b67 b80)), hx, bnX_e]
      · rw [← ne_eq, nmI_ne] at b80
        refine Ev.steps (k := 4) (pc' := 89) (L' := [Vr 166, Vx, Vx]) (S' := [Vi (b 166 4), Vi 2, Vr 166]) (h' := ((SHv st dr rd), (ovl a s b))) (fun _ => rfl) ?_
        rw [hk.2.2.2.2.1]
        refine Ev.call (k := 0) (pc1 := 89) (L1 := [Vr 166, Vx, Vx]) (S1 := [Vi ((tA W p : Nat) : Int), Vi 2, Vr 166]) (h1 := ((SHv st dr rd), (ovl a s b))) (m' := 160) (as := [Vr 166, Vi 2, Vi ((tA W p : Nat) : Int)]) (S' := []) (L0 := [Vr 166, Vi 2, Vi ((tA W p : Nat) : Int)]) (fun _ => rfl) rfl rfl rfl rfl rfl rfl (m_blame (b := b) 2 ((tA W p : Nat) : Int)) (fun r h' hq => ?_)
        obtain ⟨rfl, hq⟩ := hq
        rw [if_neg (by show ¬ 0 < b 166 8; rw [hk.2.1]; decide)] at hq
        obtain rfl := hq
        show Ev X _ _ 92 [Vr 166, Vx, Vx] [] ((SHv st dr rd), (ovl a s (updC (updC b 166 8 2) 166 9 ((tA W p : Nat) : Int)))) _
        refine Ev.steps (k := 2) (pc' := 96) (L' := [Vr 166, Vx, Vx]) (S' := [Vl ((updC (updC b 166 8 2) 166 9 ((tA W p : Nat) : Int)) 166 7)]) (h' := ((SHv st dr rd), (ovl a s (updC (updC b 166 8 2) 166 9 ((tA W p : Nat) : Int))))) (fun _ => rfl) ?_
        rw [(show ((updC (updC b 166 8 2) 166 9 ((tA W p : Nat) : Int)) 166 7) = ((tV W p : Nat) : Int) from h7)]
        refine Ev.steps (k := 3) (pc' := 101) (L' := [Vr 166, Vl ((tV W p : Nat) : Int), Vx]) (S' := [Vi ((updC (updC b 166 8 2) 166 9 ((tA W p : Nat) : Int)) 166 8)]) (h' := ((SHv st dr rd), (ovl a s (updC (updC b 166 8 2) 166 9 ((tA W p : Nat) : Int))))) (fun _ => rfl) ?_
        rw [(show ((updC (updC b 166 8 2) 166 9 ((tA W p : Nat) : Int)) 166 8) = 2 from rfl)]
        refine Ev.fin (k := 3) (r := (some (Vl ((tV W p : Nat) : Int)))) (h' := ((SHv st dr rd), (ovl a s (updC (updC b 166 8 2) 166 9 ((tA W p : Nat) : Int))))) (fun _ => rfl) ?_
        refine ⟨_, rfl, Or.inr ⟨_, ?_, ⟨_, rfl⟩, hk.bl (by decide)⟩⟩
        unfold givT
        first
          | (rw [if_neg (by omega), if_pos (Or.inl b54)]; done)
          | (rw [if_neg (by omega), if_pos (Or.inr (Or.inl b67))]; done)
          | (rw [if_neg (by omega), if_pos (Or.inr (Or.inr b80))]; done)
theorem m_fresh {X : List Int} {d : Nat} {st dr rd : Int} {a s b : C3} {W : TXT} {p : Nat} (hk : TkM W p b) {N : SC} {j : Nat} (hN : NmM N b j) : Ev X (d + 2) 183 0 [Vr 166, Vx, Vx] [] (SHv st dr rd, ovl a s b) (fun rr hh => ∃ b' : C3, hh = (SHv st dr rd, ovl a s b') ∧ ResC (givT W N p) (fun r => rr = some (Vl ((r.1 : Nat) : Int)) ∧ OkM W b r.2 b') (fun e => (∃ v : Int, rr = some (Vl v)) ∧ BdM W b e b')) := by
  by_cases hc : tC W p = 300
  · have h := hk.nm hc
    exact m_freshC hk hN hc h.1 h.2.1 (fun g => h.2.2 (tcW_ow.mpr g))
  · by_cases ho : 256 ≤ tC W p ∧ tC W p < 283
    · have h := hk.ow ho
      exact m_freshB hk hc h.1 h.2.1 (tcW_ow.mp h.2.2)
    · exact m_freshA hk hc (hk.n1 hc ho)
theorem m_mustS {X : List Int} {d : Nat} {st dr rd : Int} {a s b : C3} {W : TXT} {p : Nat} (hk : TkM W p b) (c : Nat) (hc : c < 256) : Ev X (d + 2) 190 0 [Vr 166, Vi (c : Int)] [] (SHv st dr rd, ovl a s b) (fun rr hh => rr = none ∧ ∃ b' : C3, hh = (SHv st dr rd, ovl a s b') ∧ ResC (expT W c p) (fun p1 => OkM W b p1 b') (fun e => BdM W b e b')) := by
  refine Ev.call (k := 2) (pc1 := 2) (L1 := [Vr 166, Vi (c : Int)]) (S1 := [Vi (c : Int), Vr 166]) (h1 := ((SHv st dr rd), (ovl a s b))) (m' := 174) (as := [Vr 166, Vi (c : Int)]) (S' := []) (L0 := [Vr 166, Vi (c : Int)]) (fun _ => rfl) rfl rfl rfl rfl rfl rfl (k_isSign hk c hc) (fun r h' hq => ?_)
  obtain ⟨rfl, rfl⟩ := hq
  by_cases c2 : tC W p = c
  · rw [if_pos c2]
    show Ev X _ _ 5 [Vr 166, Vi (c : Int)] [Vi 1] ((SHv st dr rd), (ovl a s b)) _
    refine Ev.steps (k := 3) (pc' := 21) (L' := [Vr 166, Vi (c : Int)]) (S' := [Vi (b 166 8)]) (h' := ((SHv st dr rd), (ovl a s b))) (fun _ => rfl) ?_
    rw [hk.2.1]
    refine Ev.call (k := 2) (pc1 := 25) (L1 := [Vr 166, Vi (c : Int)]) (S1 := [Vr 166]) (h1 := ((SHv st dr rd), (ovl a s b))) (m' := 157) (as := [Vr 166]) (S' := []) (L0 := [Vr 166, Vx, Vx, Vx, Vx, Vx]) (fun _ => rfl) rfl rfl rfl rfl rfl rfl (m_nextT hk) (fun r h' hq => ?_)
    obtain ⟨rfl, b9, rfl, hq⟩ := hq
    rcases hq with ⟨p9, hx, ho⟩ | ⟨e9, hx, hb⟩
    · show Ev X _ _ 28 [Vr 166, Vi (c : Int)] [] ((SHv st dr rd), (ovl a s b9)) _
      refine Ev.fin (k := 1) (r := none) (h' := ((SHv st dr rd), (ovl a s b9))) (fun _ => rfl) ?_
      refine ⟨rfl, b9, rfl, Or.inl ⟨p9, ?_, ho⟩⟩
      unfold expT
      rw [if_neg (by omega), hx]
    · show Ev X _ _ 28 [Vr 166, Vi (c : Int)] [] ((SHv st dr rd), (ovl a s b9)) _
      refine Ev.fin (k := 1) (r := none) (h' := ((SHv st dr rd), (ovl a s b9))) (fun _ => rfl) ?_
      refine ⟨rfl, b9, rfl, Or.inr ⟨e9, ?_, hb⟩⟩
      unfold expT
      rw [if_neg (by omega), hx]
  · rw [if_neg c2]
    show Ev X _ _ 5 [Vr 166, Vi (c : Int)] [Vi 0] ((SHv st dr rd), (ovl a s b)) _
    refine Ev.steps (k := 5) (pc' := 14) (L' := [Vr 166, Vi (c : Int)]) (S' := [Vi (b 166 4), Vi 1, Vr 166]) (h' := ((SHv st dr rd), (ovl a s b))) (fun _ => rfl) ?_
    rw [hk.2.2.2.2.1]
    refine Ev.call (k := 0) (pc1 := 14) (L1 := [Vr 166, Vi (c : Int)]) (S1 := [Vi ((tA W p : Nat) : Int), Vi 1, Vr 166]) (h1 := ((SHv st dr rd), (ovl a s b))) (m' := 160) (as := [Vr 166, Vi 1, Vi ((tA W p : Nat) : Int)]) (S' := []) (L0 := [Vr 166, Vi 1, Vi ((tA W p : Nat) : Int)]) (fun _ => rfl) rfl rfl rfl rfl rfl rfl (m_blame (b := b) 1 ((tA W p : Nat) : Int)) (fun r h' hq => ?_)
    obtain ⟨rfl, hq⟩ := hq
    rw [if_neg (by show ¬ 0 < b 166 8; rw [hk.2.1]; decide)] at hq
    obtain rfl := hq
    show Ev X _ _ 17 [Vr 166, Vi (c : Int)] [] ((SHv st dr rd), (ovl a s (updC (updC b 166 8 1) 166 9 ((tA W p : Nat) : Int)))) _
    refine Ev.steps (k := 2) (pc' := 21) (L' := [Vr 166, Vi (c : Int)]) (S' := [Vi ((updC (updC b 166 8 1) 166 9 ((tA W p : Nat) : Int)) 166 8)]) (h' := ((SHv st dr rd), (ovl a s (updC (updC b 166 8 1) 166 9 ((tA W p : Nat) : Int))))) (fun _ => rfl) ?_
    rw [(show ((updC (updC b 166 8 1) 166 9 ((tA W p : Nat) : Int)) 166 8) = 1 from rfl)]
    refine Ev.fin (k := 2) (r := none) (h' := ((SHv st dr rd), (ovl a s (updC (updC b 166 8 1) 166 9 ((tA W p : Nat) : Int))))) (fun _ => rfl) ?_
    refine ⟨rfl, _, rfl, Or.inr ⟨_, ?_, hk.bl (by decide)⟩⟩
    unfold expT
    rw [if_pos (by omega)]
theorem m_mustW {X : List Int} {d : Nat} {st dr rd : Int} {a s b : C3} {W : TXT} {p : Nat} (hk : TkM W p b) (i : Nat) (hi : i < 27) (w : Int) (hw : w = ((ownG i : Nat) : Int)) : Ev X (d + 2) 181 0 [Vr 166, Vl w, Vx] [] (SHv st dr rd, ovl a s b) (fun rr hh => rr = none ∧ ∃ b' : C3, hh = (SHv st dr rd, ovl a s b') ∧ ResC (expT W (256 + i) p) (fun p1 => OkM W b p1 b') (fun e => BdM W b e b')) := by
  refine Ev.steps (k := 2) (pc' := 4) (L' := [Vr 166, Vl w, Vx]) (S' := [Vi (b 166 8)]) (h' := ((SHv st dr rd), (ovl a s b))) (fun _ => rfl) ?_
  rw [hk.2.1]
  refine Ev.call (k := 3) (pc1 := 10) (L1 := [Vr 166, Vl w, Vx]) (S1 := [Vl w, Vr 166]) (h1 := ((SHv st dr rd), (ovl a s b))) (m' := 162) (as := [Vr 166, Vl w]) (S' := []) (L0 := [Vr 166, Vl w, Vx]) (fun _ => rfl) rfl rfl rfl rfl rfl rfl (k_isWord hk i hi w hw) (fun r h' hq => ?_)
  obtain ⟨rfl, rfl⟩ := hq
  by_cases c10 : tC W p = 256 + i
  · rw [if_pos c10]
    show Ev X _ _ 13 [Vr 166, Vl w, Vx] [Vi 1] ((SHv st dr rd), (ovl a s b)) _
    refine Ev.steps (k := 3) (pc' := 29) (L' := [Vr 166, Vl w, Vx]) (S' := [Vi (b 166 8)]) (h' := ((SHv st dr rd), (ovl a s b))) (fun _ => rfl) ?_
    rw [hk.2.1]
    refine Ev.call (k := 2) (pc1 := 33) (L1 := [Vr 166, Vl w, Vx]) (S1 := [Vr 166]) (h1 := ((SHv st dr rd), (ovl a s b))) (m' := 157) (as := [Vr 166]) (S' := []) (L0 := [Vr 166, Vx, Vx, Vx, Vx, Vx]) (fun _ => rfl) rfl rfl rfl rfl rfl rfl (m_nextT hk) (fun r h' hq => ?_)
    obtain ⟨rfl, b9, rfl, hq⟩ := hq
    rcases hq with ⟨p9, hx, ho⟩ | ⟨e9, hx, hb⟩
    · show Ev X _ _ 36 [Vr 166, Vl w, Vx] [] ((SHv st dr rd), (ovl a s b9)) _
      refine Ev.fin (k := 1) (r := none) (h' := ((SHv st dr rd), (ovl a s b9))) (fun _ => rfl) ?_
      refine ⟨rfl, b9, rfl, Or.inl ⟨p9, ?_, ho⟩⟩
      unfold expT
      rw [if_neg (by omega), hx]
    · show Ev X _ _ 36 [Vr 166, Vl w, Vx] [] ((SHv st dr rd), (ovl a s b9)) _
      refine Ev.fin (k := 1) (r := none) (h' := ((SHv st dr rd), (ovl a s b9))) (fun _ => rfl) ?_
      refine ⟨rfl, b9, rfl, Or.inr ⟨e9, ?_, hb⟩⟩
      unfold expT
      rw [if_neg (by omega), hx]
  · rw [if_neg c10]
    show Ev X _ _ 13 [Vr 166, Vl w, Vx] [Vi 0] ((SHv st dr rd), (ovl a s b)) _
    refine Ev.steps (k := 5) (pc' := 22) (L' := [Vr 166, Vl w, Vx]) (S' := [Vi (b 166 4), Vi 1, Vr 166]) (h' := ((SHv st dr rd), (ovl a s b))) (fun _ => rfl) ?_
    rw [hk.2.2.2.2.1]
    refine Ev.call (k := 0) (pc1 := 22) (L1 := [Vr 166, Vl w, Vx]) (S1 := [Vi ((tA W p : Nat) : Int), Vi 1, Vr 166]) (h1 := ((SHv st dr rd), (ovl a s b))) (m' := 160) (as := [Vr 166, Vi 1, Vi ((tA W p : Nat) : Int)]) (S' := []) (L0 := [Vr 166, Vi 1, Vi ((tA W p : Nat) : Int)]) (fun _ => rfl) rfl rfl rfl rfl rfl rfl (m_blame (b := b) 1 ((tA W p : Nat) : Int)) (fun r h' hq => ?_)
    obtain ⟨rfl, hq⟩ := hq
    rw [if_neg (by show ¬ 0 < b 166 8; rw [hk.2.1]; decide)] at hq
    obtain rfl := hq
    show Ev X _ _ 25 [Vr 166, Vl w, Vx] [] ((SHv st dr rd), (ovl a s (updC (updC b 166 8 1) 166 9 ((tA W p : Nat) : Int)))) _
    refine Ev.steps (k := 2) (pc' := 29) (L' := [Vr 166, Vl w, Vx]) (S' := [Vi ((updC (updC b 166 8 1) 166 9 ((tA W p : Nat) : Int)) 166 8)]) (h' := ((SHv st dr rd), (ovl a s (updC (updC b 166 8 1) 166 9 ((tA W p : Nat) : Int))))) (fun _ => rfl) ?_
    rw [(show ((updC (updC b 166 8 1) 166 9 ((tA W p : Nat) : Int)) 166 8) = 1 from rfl)]
    refine Ev.fin (k := 2) (r := none) (h' := ((SHv st dr rd), (ovl a s (updC (updC b 166 8 1) 166 9 ((tA W p : Nat) : Int))))) (fun _ => rfl) ?_
    refine ⟨rfl, _, rfl, Or.inr ⟨_, ?_, hk.bl (by decide)⟩⟩
    unfold expT
    rw [if_pos (by omega)]
theorem m_counts1 {X : List Int} {d : Nat} {st dr rd : Int} {a s b : C3} {W : TXT} {p : Nat} (hk : TkM W p b) : Ev X (d + 2) 164 0 [Vr 166, Vi 1] [] (SHv st dr rd, ovl a s b) (fun rr hh => rr = some (Vi 0) ∧ ∃ b' : C3, hh = (SHv st dr rd, ovl a s b') ∧ BdM W b (fltT W 5 p) b') := by
  refine Ev.steps (k := 6) (pc' := 10) (L' := [Vr 166, Vi 1]) (S' := [Vi (b 166 4), Vi 5, Vr 166]) (h' := ((SHv st dr rd), (ovl a s b))) (fun _ => rfl) ?_
  rw [hk.2.2.2.2.1]
  refine Ev.call (k := 0) (pc1 := 10) (L1 := [Vr 166, Vi 1]) (S1 := [Vi ((tA W p : Nat) : Int), Vi 5, Vr 166]) (h1 := ((SHv st dr rd), (ovl a s b))) (m' := 160) (as := [Vr 166, Vi 5, Vi ((tA W p : Nat) : Int)]) (S' := []) (L0 := [Vr 166, Vi 5, Vi ((tA W p : Nat) : Int)]) (fun _ => rfl) rfl rfl rfl rfl rfl rfl (m_blame (b := b) 5 ((tA W p : Nat) : Int)) (fun r h' hq => ?_)
  obtain ⟨rfl, hq⟩ := hq
  rw [if_neg (by show ¬ 0 < b 166 8; rw [hk.2.1]; decide)] at hq
  obtain rfl := hq
  show Ev X _ _ 13 [Vr 166, Vi 1] [] ((SHv st dr rd), (ovl a s (updC (updC b 166 8 5) 166 9 ((tA W p : Nat) : Int)))) _
  refine Ev.steps (k := 2) (pc' := 17) (L' := [Vr 166, Vi 1]) (S' := [Vi ((updC (updC b 166 8 5) 166 9 ((tA W p : Nat) : Int)) 166 8)]) (h' := ((SHv st dr rd), (ovl a s (updC (updC b 166 8 5) 166 9 ((tA W p : Nat) : Int))))) (fun _ => rfl) ?_
  rw [(show ((updC (updC b 166 8 5) 166 9 ((tA W p : Nat) : Int)) 166 8) = 5 from rfl)]
  refine Ev.steps (k := 3) (pc' := 28) (L' := [Vr 166, Vi 1]) (S' := [Vi ((updC (updC b 166 8 5) 166 9 ((tA W p : Nat) : Int)) 166 8)]) (h' := ((SHv st dr rd), (ovl a s (updC (updC b 166 8 5) 166 9 ((tA W p : Nat) : Int))))) (fun _ => rfl) ?_
  rw [(show ((updC (updC b 166 8 5) 166 9 ((tA W p : Nat) : Int)) 166 8) = 5 from rfl)]
  refine Ev.fin (k := 3) (r := (some (Vi 0))) (h' := ((SHv st dr rd), (ovl a s (updC (updC b 166 8 5) 166 9 ((tA W p : Nat) : Int))))) (fun _ => rfl) ?_
  exact ⟨rfl, _, rfl, hk.bl (by decide)⟩
theorem m_counts0 {X : List Int} {d : Nat} {st dr rd : Int} {a s b : C3} {W : TXT} {p : Nat} (hk : TkM W p b) : Ev X (d + 2) 164 0 [Vr 166, Vi 0] [] (SHv st dr rd, ovl a s b) (fun rr hh => ∃ b' : C3, hh = (SHv st dr rd, ovl a s b') ∧ ResC (gotT W p) (fun p1 => rr = some (Vi 1) ∧ OkM W b p1 b') (fun e => rr = some (Vi 0) ∧ BdM W b e b')) := by
  refine Ev.steps (k := 4) (pc' := 17) (L' := [Vr 166, Vi 0]) (S' := [Vi (b 166 8)]) (h' := ((SHv st dr rd), (ovl a s b))) (fun _ => rfl) ?_
  rw [hk.2.1]
  refine Ev.call (k := 2) (pc1 := 21) (L1 := [Vr 166, Vi 0]) (S1 := [Vr 166]) (h1 := ((SHv st dr rd), (ovl a s b))) (m' := 157) (as := [Vr 166]) (S' := []) (L0 := [Vr 166, Vx, Vx, Vx, Vx, Vx]) (fun _ => rfl) rfl rfl rfl rfl rfl rfl (m_nextT hk) (fun r h' hq => ?_)
  obtain ⟨rfl, b9, rfl, hq⟩ := hq
  rcases hq with ⟨p9, hx, ho⟩ | ⟨e9, hx, hb⟩
  · show Ev X _ _ 24 [Vr 166, Vi 0] [] ((SHv st dr rd), (ovl a s b9)) _
    refine Ev.steps (k := 2) (pc' := 28) (L' := [Vr 166, Vi 0]) (S' := [Vi (b9 166 8)]) (h' := ((SHv st dr rd), (ovl a s b9))) (fun _ => rfl) ?_
    rw [ho.2.2.1]
    refine Ev.fin (k := 4) (r := (some (Vi 1))) (h' := ((SHv st dr rd), (ovl a s b9))) (fun _ => rfl) ?_
    exact ⟨b9, rfl, Or.inl ⟨p9, hx, rfl, ho⟩⟩
  · show Ev X _ _ 24 [Vr 166, Vi 0] [] ((SHv st dr rd), (ovl a s b9)) _
    refine Ev.steps (k := 2) (pc' := 28) (L' := [Vr 166, Vi 0]) (S' := [Vi (b9 166 8)]) (h' := ((SHv st dr rd), (ovl a s b9))) (fun _ => rfl) ?_
    rw [hb.2.2.2.1]
    refine Ev.ite (P := e9.1 ≠ 0) (k := 1) (a := 35) (b := 31) (L' := [Vr 166, Vi 0]) (S' := []) (h' := ((SHv st dr rd), (ovl a s b9))) (fun _ => rfl) (fun b28 => ?_) (fun b28 => ?_)
    · refine Ev.fin (k := 2) (r := (some (Vi 0))) (h' := ((SHv st dr rd), (ovl a s b9))) (fun _ => rfl) ?_
      exact ⟨b9, rfl, Or.inr ⟨e9, hx, rfl, hb⟩⟩
    · have := hb.2.2.1; omega
