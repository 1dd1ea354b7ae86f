/-! THE CLASS READS: statement by statement -/
def FtZ (z : Nat) (a a' : SC) : Prop := ∀ o, o ≠ 114 → (o < z ∨ z + 55 < o) → a' o = a o
theorem FtZ.rf {z : Nat} {a : SC} : FtZ z a a := fun _ _ _ => rfl
theorem FtZ.tr {z : Nat} {a b c : SC} (h : FtZ z a b) (h' : FtZ z b c) : FtZ z a c := fun o h1 h2 => (h' o h1 h2).trans (h o h1 h2)
theorem FsZ.t {z : Nat} {a b : SC} (h : FsZ z a b) : FtZ z a b := fun o h1 h2 => h o h1 (by omega)
theorem FtZ.up {z : Nat} {a b : SC} {o i : Nat} {v : Int} (h : FtZ z a b) (ho : o = 114 ∨ (z ≤ o ∧ o ≤ z + 55)) : FtZ z a (updC b o i v) := fun o' h1 h2 => by
  rw [updC_row (by omega)]
  exact h o' h1 h2
def Gs (z c : Nat) (a a' : SC) : Prop := FsZ z a a' ∧ c = c
theorem Gs.tr {z c c1 : Nat} {a a1 a2 : SC} (h : Gs z c a a1) (h' : Gz z c1 a1 a2) (_ : c ≤ c1) : Gs z c a a2 := ⟨h.1.tr h'.1.s, rfl⟩
theorem Gs.bd {W : TXT} {N : SC} {z p c c1 K : Nat} {a0 a a1 : SC} {e : PF} (h : Gs z c1 a0 a) (hX : XoC W N z p c K a) (hc : c ≤ 1200) (hb : BdT W a e a1) : BdS W z a0 e a1 := by
  have h2 := (Gz.rf (z := z) (c := 0) (a := a)).bd hX hc hb
  exact ⟨h.1.tr h2.1.s, h2.2⟩
theorem c_sort_256 {X : List Int} {d : Nat} {st dr rd : Int} {a s b : C3} (h5 : a 114 5 = 256) : Ev X d 31 0 [Vr 114] [] (SHv st dr rd, ovl a s b) (fun rr hh => rr = some (Vi (0)) ∧ hh = (SHv st dr rd, ovl a s b)) := by
  refine Ev.steps (k := 2) (pc' := 4) (L' := [Vr 114]) (S' := [Vi (a 114 5)]) (h' := ((SHv st dr rd), (ovl a s b))) (fun _ => rfl) ?_
  rw [h5]
  refine Ev.fin (k := 3) (r := (some (Vi 0))) (h' := ((SHv st dr rd), (ovl a s b))) (fun _ => rfl) ?_
  exact ⟨rfl, rfl⟩
theorem c_sort_257 {X : List Int} {d : Nat} {st dr rd : Int} {a s b : C3} (h5 : a 114 5 = 257) : Ev X d 31 0 [Vr 114] [] (SHv st dr rd, ovl a s b) (fun rr hh => rr = some (Vi (1)) ∧ hh = (SHv st dr rd, ovl a s b)) := by
  refine Ev.steps (k := 2) (pc' := 4) (L' := [Vr 114]) (S' := [Vi (a 114 5)]) (h' := ((SHv st dr rd), (ovl a s b))) (fun _ => rfl) ?_
  rw [h5]
  refine Ev.fin (k := 3) (r := (some (Vi 1))) (h' := ((SHv st dr rd), (ovl a s b))) (fun _ => rfl) ?_
  exact ⟨rfl, rfl⟩
theorem c_sort_258 {X : List Int} {d : Nat} {st dr rd : Int} {a s b : C3} (h5 : a 114 5 = 258) : Ev X d 31 0 [Vr 114] [] (SHv st dr rd, ovl a s b) (fun rr hh => rr = some (Vi (2)) ∧ hh = (SHv st dr rd, ovl a s b)) := by
  refine Ev.steps (k := 2) (pc' := 4) (L' := [Vr 114]) (S' := [Vi (a 114 5)]) (h' := ((SHv st dr rd), (ovl a s b))) (fun _ => rfl) ?_
  rw [h5]
  refine Ev.fin (k := 3) (r := (some (Vi 2))) (h' := ((SHv st dr rd), (ovl a s b))) (fun _ => rfl) ?_
  exact ⟨rfl, rfl⟩
theorem c_sort_259 {X : List Int} {d : Nat} {st dr rd : Int} {a s b : C3} (h5 : a 114 5 = 259) : Ev X d 31 0 [Vr 114] [] (SHv st dr rd, ovl a s b) (fun rr hh => rr = some (Vi (-1)) ∧ hh = (SHv st dr rd, ovl a s b)) := by
  refine Ev.steps (k := 2) (pc' := 4) (L' := [Vr 114]) (S' := [Vi (a 114 5)]) (h' := ((SHv st dr rd), (ovl a s b))) (fun _ => rfl) ?_
  rw [h5]
  refine Ev.fin (k := 3) (r := (some (Vi (-1)))) (h' := ((SHv st dr rd), (ovl a s b))) (fun _ => rfl) ?_
  exact ⟨rfl, rfl⟩
theorem c_sort_260 {X : List Int} {d : Nat} {st dr rd : Int} {a s b : C3} (h5 : a 114 5 = 260) : Ev X d 31 0 [Vr 114] [] (SHv st dr rd, ovl a s b) (fun rr hh => rr = some (Vi (3)) ∧ hh = (SHv st dr rd, ovl a s b)) := by
  refine Ev.steps (k := 2) (pc' := 4) (L' := [Vr 114]) (S' := [Vi (a 114 5)]) (h' := ((SHv st dr rd), (ovl a s b))) (fun _ => rfl) ?_
  rw [h5]
  refine Ev.fin (k := 3) (r := (some (Vi 3))) (h' := ((SHv st dr rd), (ovl a s b))) (fun _ => rfl) ?_
  exact ⟨rfl, rfl⟩
theorem c_sort_261 {X : List Int} {d : Nat} {st dr rd : Int} {a s b : C3} (h5 : a 114 5 = 261) : Ev X d 31 0 [Vr 114] [] (SHv st dr rd, ovl a s b) (fun rr hh => rr = some (Vi (5)) ∧ hh = (SHv st dr rd, ovl a s b)) := by
  refine Ev.steps (k := 2) (pc' := 4) (L' := [Vr 114]) (S' := [Vi (a 114 5)]) (h' := ((SHv st dr rd), (ovl a s b))) (fun _ => rfl) ?_
  rw [h5]
  refine Ev.fin (k := 3) (r := (some (Vi 5))) (h' := ((SHv st dr rd), (ovl a s b))) (fun _ => rfl) ?_
  exact ⟨rfl, rfl⟩
theorem c_sort_262 {X : List Int} {d : Nat} {st dr rd : Int} {a s b : C3} (h5 : a 114 5 = 262) : Ev X d 31 0 [Vr 114] [] (SHv st dr rd, ovl a s b) (fun rr hh => rr = some (Vi (4)) ∧ hh = (SHv st dr rd, ovl a s b)) := by
  refine Ev.steps (k := 2) (pc' := 4) (L' := [Vr 114]) (S' := [Vi (a 114 5)]) (h' := ((SHv st dr rd), (ovl a s b))) (fun _ => rfl) ?_
  rw [h5]
  refine Ev.fin (k := 3) (r := (some (Vi 4))) (h' := ((SHv st dr rd), (ovl a s b))) (fun _ => rfl) ?_
  exact ⟨rfl, rfl⟩
theorem c_sort_263 {X : List Int} {d : Nat} {st dr rd : Int} {a s b : C3} (h5 : a 114 5 = 263) : Ev X d 31 0 [Vr 114] [] (SHv st dr rd, ovl a s b) (fun rr hh => rr = some (Vi (4)) ∧ hh = (SHv st dr rd, ovl a s b)) := by
  refine Ev.steps (k := 2) (pc' := 4) (L' := [Vr 114]) (S' := [Vi (a 114 5)]) (h' := ((SHv st dr rd), (ovl a s b))) (fun _ => rfl) ?_
  rw [h5]
  refine Ev.fin (k := 3) (r := (some (Vi 4))) (h' := ((SHv st dr rd), (ovl a s b))) (fun _ => rfl) ?_
  exact ⟨rfl, rfl⟩
theorem c_sort_264 {X : List Int} {d : Nat} {st dr rd : Int} {a s b : C3} (h5 : a 114 5 = 264) : Ev X d 31 0 [Vr 114] [] (SHv st dr rd, ovl a s b) (fun rr hh => rr = some (Vi (4)) ∧ hh = (SHv st dr rd, ovl a s b)) := by
  refine Ev.steps (k := 2) (pc' := 4) (L' := [Vr 114]) (S' := [Vi (a 114 5)]) (h' := ((SHv st dr rd), (ovl a s b))) (fun _ => rfl) ?_
  rw [h5]
  refine Ev.fin (k := 3) (r := (some (Vi 4))) (h' := ((SHv st dr rd), (ovl a s b))) (fun _ => rfl) ?_
  exact ⟨rfl, rfl⟩
theorem c_sort_265 {X : List Int} {d : Nat} {st dr rd : Int} {a s b : C3} (h5 : a 114 5 = 265) : Ev X d 31 0 [Vr 114] [] (SHv st dr rd, ovl a s b) (fun rr hh => rr = some (Vi (4)) ∧ hh = (SHv st dr rd, ovl a s b)) := by
  refine Ev.steps (k := 2) (pc' := 4) (L' := [Vr 114]) (S' := [Vi (a 114 5)]) (h' := ((SHv st dr rd), (ovl a s b))) (fun _ => rfl) ?_
  rw [h5]
  refine Ev.fin (k := 3) (r := (some (Vi 4))) (h' := ((SHv st dr rd), (ovl a s b))) (fun _ => rfl) ?_
  exact ⟨rfl, rfl⟩
theorem c_sort_266 {X : List Int} {d : Nat} {st dr rd : Int} {a s b : C3} (h5 : a 114 5 = 266) : Ev X d 31 0 [Vr 114] [] (SHv st dr rd, ovl a s b) (fun rr hh => rr = some (Vi (4)) ∧ hh = (SHv st dr rd, ovl a s b)) := by
  refine Ev.steps (k := 2) (pc' := 4) (L' := [Vr 114]) (S' := [Vi (a 114 5)]) (h' := ((SHv st dr rd), (ovl a s b))) (fun _ => rfl) ?_
  rw [h5]
  refine Ev.fin (k := 3) (r := (some (Vi 4))) (h' := ((SHv st dr rd), (ovl a s b))) (fun _ => rfl) ?_
  exact ⟨rfl, rfl⟩
theorem c_sort_267 {X : List Int} {d : Nat} {st dr rd : Int} {a s b : C3} (h5 : a 114 5 = 267) : Ev X d 31 0 [Vr 114] [] (SHv st dr rd, ovl a s b) (fun rr hh => rr = some (Vi (4)) ∧ hh = (SHv st dr rd, ovl a s b)) := by
  refine Ev.steps (k := 2) (pc' := 4) (L' := [Vr 114]) (S' := [Vi (a 114 5)]) (h' := ((SHv st dr rd), (ovl a s b))) (fun _ => rfl) ?_
  rw [h5]
  refine Ev.fin (k := 3) (r := (some (Vi 4))) (h' := ((SHv st dr rd), (ovl a s b))) (fun _ => rfl) ?_
  exact ⟨rfl, rfl⟩
theorem c_sort_no {X : List Int} {d : Nat} {st dr rd : Int} {a s b : C3} (v : Int) (h5 : a 114 5 = v) (hv : v < 256 ∨ 267 < v) : Ev X d 31 0 [Vr 114] [] (SHv st dr rd, ovl a s b) (fun rr hh => rr = some (Vi (-1)) ∧ hh = (SHv st dr rd, ovl a s b)) := by
  refine Ev.steps (k := 2) (pc' := 4) (L' := [Vr 114]) (S' := [Vi (a 114 5)]) (h' := ((SHv st dr rd), (ovl a s b))) (fun _ => rfl) ?_
  rw [h5]
  refine Ev.tswd (dflt := 76) rfl (by omega) (by decide) ?_
  show Ev X _ _ 80 [Vr 114] [] ((SHv st dr rd), (ovl a s b)) _
  refine Ev.fin (k := 2) (r := some (Vi (-1))) (h' := ((SHv st dr rd), (ovl a s b))) (fun _ => rfl) ?_
  exact ⟨rfl, rfl⟩
theorem c_sortTold {X : List Int} {d : Nat} {st dr rd : Int} {a s b : C3} {W : TXT} {p : Nat} (hk : TkC W p a) : Ev X d 31 0 [Vr 114] [] (SHv st dr rd, ovl a s b) (fun rr hh => rr = some (Vi (if srtT (tC W p) = 6 then -1 else ((srtT (tC W p) : Nat) : Int))) ∧ hh = (SHv st dr rd, ovl a s b)) := by
  have h5 := hk.2.2.2.2.1
  by_cases h : tC W p < 256 ∨ 267 < tC W p
  · have := srt_c (c := tC W p)
    rw [if_pos (by omega)]
    exact c_sort_no _ h5 (by omega)
  · rcases (show tC W p = 256 ∨ tC W p = 257 ∨ tC W p = 258 ∨ tC W p = 259 ∨ tC W p = 260 ∨ tC W p = 261 ∨ tC W p = 262 ∨ tC W p = 263 ∨ tC W p = 264 ∨ tC W p = 265 ∨ tC W p = 266 ∨ tC W p = 267 by omega) with e | e | e | e | e | e | e | e | e | e | e | e
    · rw [e] at h5 ⊢
      exact c_sort_256 h5
    · rw [e] at h5 ⊢
      exact c_sort_257 h5
    · rw [e] at h5 ⊢
      exact c_sort_258 h5
    · rw [e] at h5 ⊢
      exact c_sort_259 h5
    · rw [e] at h5 ⊢
      exact c_sort_260 h5
    · rw [e] at h5 ⊢
      exact c_sort_261 h5
    · rw [e] at h5 ⊢
      exact c_sort_262 h5
    · rw [e] at h5 ⊢
      exact c_sort_263 h5
    · rw [e] at h5 ⊢
      exact c_sort_264 h5
    · rw [e] at h5 ⊢
      exact c_sort_265 h5
    · rw [e] at h5 ⊢
      exact c_sort_266 h5
    · rw [e] at h5 ⊢
      exact c_sort_267 h5
theorem c_full_0 {X : List Int} {d : Nat} {st dr rd : Int} {a s b : C3} {z : Nat} (hz : hyS z) {n : Int} (hn : a (z + 1) 0 = n) : Ev X d 32 0 [Vr (z : Int), Vi 0] [] (SHv st dr rd, ovl a s b) (fun rr hh => rr = some (Vi (if 8 ≤ n then 1 else 0)) ∧ hh = (SHv st dr rd, ovl a s b)) := by
  have hz0 : z = 2 ∨ z = 58 := hz
  refine Ev.steps (k := 1) (pc' := 1) (L' := [Vr (z : Int), Vi 0]) (S' := [Vr (z : Int)]) (h' := ((SHv st dr rd), (ovl a s b))) (fun _ => rfl) ?_
  refine Ev.getr (r := ((z : Int) + 1)) rfl rfl (by omega) (shY_0 hz) rfl rfl rfl ?_
  refine Ev.steps (k := 1) (pc' := 5) (L' := [Vr (z : Int), Vi 0]) (S' := [Vi 0, Vr ((z : Int) + 1)]) (h' := ((SHv st dr rd), (ovl a s b))) (fun _ => rfl) ?_
  refine Ev.iald (v := n) rfl (by omega) (shY_1 hz) (by omega) (by omega) ((ovl_rc (by omega)).trans (hn)) ?_
  refine Ev.steps (k := 2) (pc' := 10) (L' := [Vr (z : Int), Vi 0]) (S' := [Vi 0, Vr (-3), Vi n]) (h' := ((SHv st dr rd), (ovl a s b))) (fun _ => rfl) ?_
  refine Ev.rald (v := 8) rfl (by decide) rfl (by decide) rfl ?_
  refine Ev.ite (P := n < 8) (k := 1) (a := 18) (b := 14) (L' := [Vr (z : Int), Vi 0]) (S' := []) (h' := ((SHv st dr rd), (ovl a s b))) (fun _ => rfl) (fun b11 => ?_) (fun b11 => ?_)
  · refine Ev.fin (k := 2) (r := (some (Vi 0))) (h' := ((SHv st dr rd), (ovl a s b))) (fun _ => rfl) ?_
    refine ⟨?_, rfl⟩
    first | (rw [if_pos (by omega)]; done) | (rw [if_neg (by omega)]; done)
  · refine Ev.fin (k := 3) (r := (some (Vi 1))) (h' := ((SHv st dr rd), (ovl a s b))) (fun _ => rfl) ?_
    refine ⟨?_, rfl⟩
    first | (rw [if_pos (by omega)]; done) | (rw [if_neg (by omega)]; done)
theorem c_full_1 {X : List Int} {d : Nat} {st dr rd : Int} {a s b : C3} {z : Nat} (hz : hyS z) {n : Int} (hn : a (z + 1) 1 = n) : Ev X d 32 0 [Vr (z : Int), Vi 1] [] (SHv st dr rd, ovl a s b) (fun rr hh => rr = some (Vi (if 16 ≤ n then 1 else 0)) ∧ hh = (SHv st dr rd, ovl a s b)) := by
  have hz0 : z = 2 ∨ z = 58 := hz
  refine Ev.steps (k := 1) (pc' := 1) (L' := [Vr (z : Int), Vi 1]) (S' := [Vr (z : Int)]) (h' := ((SHv st dr rd), (ovl a s b))) (fun _ => rfl) ?_
  refine Ev.getr (r := ((z : Int) + 1)) rfl rfl (by omega) (shY_0 hz) rfl rfl rfl ?_
  refine Ev.steps (k := 1) (pc' := 5) (L' := [Vr (z : Int), Vi 1]) (S' := [Vi 1, Vr ((z : Int) + 1)]) (h' := ((SHv st dr rd), (ovl a s b))) (fun _ => rfl) ?_
  refine Ev.iald (v := n) rfl (by omega) (shY_1 hz) (by omega) (by omega) ((ovl_rc (by omega)).trans (hn)) ?_
  refine Ev.steps (k := 2) (pc' := 10) (L' := [Vr (z : Int), Vi 1]) (S' := [Vi 1, Vr (-3), Vi n]) (h' := ((SHv st dr rd), (ovl a s b))) (fun _ => rfl) ?_
  refine Ev.rald (v := 16) rfl (by decide) rfl (by decide) rfl ?_
  refine Ev.ite (P := n < 16) (k := 1) (a := 18) (b := 14) (L' := [Vr (z : Int), Vi 1]) (S' := []) (h' := ((SHv st dr rd), (ovl a s b))) (fun _ => rfl) (fun b11 => ?_) (fun b11 => ?_)
  · refine Ev.fin (k := 2) (r := (some (Vi 0))) (h' := ((SHv st dr rd), (ovl a s b))) (fun _ => rfl) ?_
    refine ⟨?_, rfl⟩
    first | (rw [if_pos (by omega)]; done) | (rw [if_neg (by omega)]; done)
  · refine Ev.fin (k := 3) (r := (some (Vi 1))) (h' := ((SHv st dr rd), (ovl a s b))) (fun _ => rfl) ?_
    refine ⟨?_, rfl⟩
    first | (rw [if_pos (by omega)]; done) | (rw [if_neg (by omega)]; done)
theorem c_full_2 {X : List Int} {d : Nat} {st dr rd : Int} {a s b : C3} {z : Nat} (hz : hyS z) {n : Int} (hn : a (z + 1) 2 = n) : Ev X d 32 0 [Vr (z : Int), Vi 2] [] (SHv st dr rd, ovl a s b) (fun rr hh => rr = some (Vi (if 8 ≤ n then 1 else 0)) ∧ hh = (SHv st dr rd, ovl a s b)) := by
  have hz0 : z = 2 ∨ z = 58 := hz
  refine Ev.steps (k := 1) (pc' := 1) (L' := [Vr (z : Int), Vi 2]) (S' := [Vr (z : Int)]) (h' := ((SHv st dr rd), (ovl a s b))) (fun _ => rfl) ?_
  refine Ev.getr (r := ((z : Int) + 1)) rfl rfl (by omega) (shY_0 hz) rfl rfl rfl ?_
  refine Ev.steps (k := 1) (pc' := 5) (L' := [Vr (z : Int), Vi 2]) (S' := [Vi 2, Vr ((z : Int) + 1)]) (h' := ((SHv st dr rd), (ovl a s b))) (fun _ => rfl) ?_
  refine Ev.iald (v := n) rfl (by omega) (shY_1 hz) (by omega) (by omega) ((ovl_rc (by omega)).trans (hn)) ?_
  refine Ev.steps (k := 2) (pc' := 10) (L' := [Vr (z : Int), Vi 2]) (S' := [Vi 2, Vr (-3), Vi n]) (h' := ((SHv st dr rd), (ovl a s b))) (fun _ => rfl) ?_
  refine Ev.rald (v := 8) rfl (by decide) rfl (by decide) rfl ?_
  refine Ev.ite (P := n < 8) (k := 1) (a := 18) (b := 14) (L' := [Vr (z : Int), Vi 2]) (S' := []) (h' := ((SHv st dr rd), (ovl a s b))) (fun _ => rfl) (fun b11 => ?_) (fun b11 => ?_)
  · refine Ev.fin (k := 2) (r := (some (Vi 0))) (h' := ((SHv st dr rd), (ovl a s b))) (fun _ => rfl) ?_
    refine ⟨?_, rfl⟩
    first | (rw [if_pos (by omega)]; done) | (rw [if_neg (by omega)]; done)
  · refine Ev.fin (k := 3) (r := (some (Vi 1))) (h' := ((SHv st dr rd), (ovl a s b))) (fun _ => rfl) ?_
    refine ⟨?_, rfl⟩
    first | (rw [if_pos (by omega)]; done) | (rw [if_neg (by omega)]; done)
theorem c_full_3 {X : List Int} {d : Nat} {st dr rd : Int} {a s b : C3} {z : Nat} (hz : hyS z) {n : Int} (hn : a (z + 1) 3 = n) : Ev X d 32 0 [Vr (z : Int), Vi 3] [] (SHv st dr rd, ovl a s b) (fun rr hh => rr = some (Vi (if 8 ≤ n then 1 else 0)) ∧ hh = (SHv st dr rd, ovl a s b)) := by
  have hz0 : z = 2 ∨ z = 58 := hz
  refine Ev.steps (k := 1) (pc' := 1) (L' := [Vr (z : Int), Vi 3]) (S' := [Vr (z : Int)]) (h' := ((SHv st dr rd), (ovl a s b))) (fun _ => rfl) ?_
  refine Ev.getr (r := ((z : Int) + 1)) rfl rfl (by omega) (shY_0 hz) rfl rfl rfl ?_
  refine Ev.steps (k := 1) (pc' := 5) (L' := [Vr (z : Int), Vi 3]) (S' := [Vi 3, Vr ((z : Int) + 1)]) (h' := ((SHv st dr rd), (ovl a s b))) (fun _ => rfl) ?_
  refine Ev.iald (v := n) rfl (by omega) (shY_1 hz) (by omega) (by omega) ((ovl_rc (by omega)).trans (hn)) ?_
  refine Ev.steps (k := 2) (pc' := 10) (L' := [Vr (z : Int), Vi 3]) (S' := [Vi 3, Vr (-3), Vi n]) (h' := ((SHv st dr rd), (ovl a s b))) (fun _ => rfl) ?_
  refine Ev.rald (v := 8) rfl (by decide) rfl (by decide) rfl ?_
  refine Ev.ite (P := n < 8) (k := 1) (a := 18) (b := 14) (L' := [Vr (z : Int), Vi 3]) (S' := []) (h' := ((SHv st dr rd), (ovl a s b))) (fun _ => rfl) (fun b11 => ?_) (fun b11 => ?_)
  · refine Ev.fin (k := 2) (r := (some (Vi 0))) (h' := ((SHv st dr rd), (ovl a s b))) (fun _ => rfl) ?_
    refine ⟨?_, rfl⟩
    first | (rw [if_pos (by omega)]; done) | (rw [if_neg (by omega)]; done)
  · refine Ev.fin (k := 3) (r := (some (Vi 1))) (h' := ((SHv st dr rd), (ovl a s b))) (fun _ => rfl) ?_
    refine ⟨?_, rfl⟩
    first | (rw [if_pos (by omega)]; done) | (rw [if_neg (by omega)]; done)
theorem c_full_4 {X : List Int} {d : Nat} {st dr rd : Int} {a s b : C3} {z : Nat} (hz : hyS z) {n : Int} (hn : a (z + 1) 4 = n) : Ev X d 32 0 [Vr (z : Int), Vi 4] [] (SHv st dr rd, ovl a s b) (fun rr hh => rr = some (Vi (if 30 ≤ n then 1 else 0)) ∧ hh = (SHv st dr rd, ovl a s b)) := by
  have hz0 : z = 2 ∨ z = 58 := hz
  refine Ev.steps (k := 1) (pc' := 1) (L' := [Vr (z : Int), Vi 4]) (S' := [Vr (z : Int)]) (h' := ((SHv st dr rd), (ovl a s b))) (fun _ => rfl) ?_
  refine Ev.getr (r := ((z : Int) + 1)) rfl rfl (by omega) (shY_0 hz) rfl rfl rfl ?_
  refine Ev.steps (k := 1) (pc' := 5) (L' := [Vr (z : Int), Vi 4]) (S' := [Vi 4, Vr ((z : Int) + 1)]) (h' := ((SHv st dr rd), (ovl a s b))) (fun _ => rfl) ?_
  refine Ev.iald (v := n) rfl (by omega) (shY_1 hz) (by omega) (by omega) ((ovl_rc (by omega)).trans (hn)) ?_
  refine Ev.steps (k := 2) (pc' := 10) (L' := [Vr (z : Int), Vi 4]) (S' := [Vi 4, Vr (-3), Vi n]) (h' := ((SHv st dr rd), (ovl a s b))) (fun _ => rfl) ?_
  refine Ev.rald (v := 30) rfl (by decide) rfl (by decide) rfl ?_
  refine Ev.ite (P := n < 30) (k := 1) (a := 18) (b := 14) (L' := [Vr (z : Int), Vi 4]) (S' := []) (h' := ((SHv st dr rd), (ovl a s b))) (fun _ => rfl) (fun b11 => ?_) (fun b11 => ?_)
  · refine Ev.fin (k := 2) (r := (some (Vi 0))) (h' := ((SHv st dr rd), (ovl a s b))) (fun _ => rfl) ?_
    refine ⟨?_, rfl⟩
    first | (rw [if_pos (by omega)]; done) | (rw [if_neg (by omega)]; done)
  · refine Ev.fin (k := 3) (r := (some (Vi 1))) (h' := ((SHv st dr rd), (ovl a s b))) (fun _ => rfl) ?_
    refine ⟨?_, rfl⟩
    first | (rw [if_pos (by omega)]; done) | (rw [if_neg (by omega)]; done)
theorem c_full_5 {X : List Int} {d : Nat} {st dr rd : Int} {a s b : C3} {z : Nat} (hz : hyS z) {n : Int} (hn : a (z + 1) 5 = n) : Ev X d 32 0 [Vr (z : Int), Vi 5] [] (SHv st dr rd, ovl a s b) (fun rr hh => rr = some (Vi (if 12 ≤ n then 1 else 0)) ∧ hh = (SHv st dr rd, ovl a s b)) := by
  have hz0 : z = 2 ∨ z = 58 := hz
  refine Ev.steps (k := 1) (pc' := 1) (L' := [Vr (z : Int), Vi 5]) (S' := [Vr (z : Int)]) (h' := ((SHv st dr rd), (ovl a s b))) (fun _ => rfl) ?_
  refine Ev.getr (r := ((z : Int) + 1)) rfl rfl (by omega) (shY_0 hz) rfl rfl rfl ?_
  refine Ev.steps (k := 1) (pc' := 5) (L' := [Vr (z : Int), Vi 5]) (S' := [Vi 5, Vr ((z : Int) + 1)]) (h' := ((SHv st dr rd), (ovl a s b))) (fun _ => rfl) ?_
  refine Ev.iald (v := n) rfl (by omega) (shY_1 hz) (by omega) (by omega) ((ovl_rc (by omega)).trans (hn)) ?_
  refine Ev.steps (k := 2) (pc' := 10) (L' := [Vr (z : Int), Vi 5]) (S' := [Vi 5, Vr (-3), Vi n]) (h' := ((SHv st dr rd), (ovl a s b))) (fun _ => rfl) ?_
  refine Ev.rald (v := 12) rfl (by decide) rfl (by decide) rfl ?_
  refine Ev.ite (P := n < 12) (k := 1) (a := 18) (b := 14) (L' := [Vr (z : Int), Vi 5]) (S' := []) (h' := ((SHv st dr rd), (ovl a s b))) (fun _ => rfl) (fun b11 => ?_) (fun b11 => ?_)
  · refine Ev.fin (k := 2) (r := (some (Vi 0))) (h' := ((SHv st dr rd), (ovl a s b))) (fun _ => rfl) ?_
    refine ⟨?_, rfl⟩
    first | (rw [if_pos (by omega)]; done) | (rw [if_neg (by omega)]; done)
  · refine Ev.fin (k := 3) (r := (some (Vi 1))) (h' := ((SHv st dr rd), (ovl a s b))) (fun _ => rfl) ?_
    refine ⟨?_, rfl⟩
    first | (rw [if_pos (by omega)]; done) | (rw [if_neg (by omega)]; done)
theorem c_reads_br {X : List Int} {st dr : Int} {s b : C3} {z : Nat} {d : Nat} {a : C3} {e : PF} (hB : BrC e a) (by0 i : Int) (x4 x5 : pm_V) : Ev X d 22 51 [Vr 114, Vi by0, Vr (z : Int), Vi i, x4, x5] [] (SHv st dr (z : Int), ovl a s b) (fun rr hh => rr = some (Vi 0) ∧ hh = (SHv st dr (z : Int), ovl a s b)) := by
  have e9 : a 114 9 = e.1 := hB.2.1
  have h0 := hB.1
  refine Ev.ite (P := 1200 ≤ i) (k := 3) (a := 284) (b := 58) (L' := [Vr 114, Vi by0, Vr (z : Int), Vi i, x4, x5]) (S' := []) (h' := ((SHv st dr (z : Int)), (ovl a s b))) (fun _ => rfl) (fun b55 => ?_) (fun b55 => ?_)
  · refine Ev.steps (k := 2) (pc' := 288) (L' := [Vr 114, Vi by0, Vr (z : Int), Vi i, x4, x5]) (S' := [Vi (a 114 9)]) (h' := ((SHv st dr (z : Int)), (ovl a s b))) (fun _ => rfl) ?_
    rw [e9]
    refine Ev.ite (P := e.1 ≠ 0) (k := 1) (a := 298) (b := 291) (L' := [Vr 114, Vi by0, Vr (z : Int), Vi i, x4, x5]) (S' := []) (h' := ((SHv st dr (z : Int)), (ovl a s b))) (fun _ => rfl) (fun b288 => ?_) (fun b288 => ?_)
    · refine Ev.steps (k := 2) (pc' := 302) (L' := [Vr 114, Vi by0, Vr (z : Int), Vi i, x4, x5]) (S' := [Vi (a 114 9)]) (h' := ((SHv st dr (z : Int)), (ovl a s b))) (fun _ => rfl) ?_
      rw [e9]
      refine Ev.ite (P := e.1 ≠ 0) (k := 1) (a := 309) (b := 305) (L' := [Vr 114, Vi by0, Vr (z : Int), Vi i, x4, x5]) (S' := []) (h' := ((SHv st dr (z : Int)), (ovl a s b))) (fun _ => rfl) (fun b302 => ?_) (fun b302 => ?_)
      · refine Ev.fin (k := 2) (r := (some (Vi 0))) (h' := ((SHv st dr (z : Int)), (ovl a s b))) (fun _ => rfl) ?_
        exact ⟨rfl, rfl⟩
      · exact absurd (Classical.not_not.mp b302) h0
    · exact absurd (Classical.not_not.mp b288) h0
  · refine Ev.steps (k := 2) (pc' := 62) (L' := [Vr 114, Vi by0, Vr (z : Int), Vi i, x4, x5]) (S' := [Vi (a 114 9)]) (h' := ((SHv st dr (z : Int)), (ovl a s b))) (fun _ => rfl) ?_
    rw [e9]
    refine Ev.ite (P := e.1 ≠ 0) (k := 1) (a := 284) (b := 65) (L' := [Vr 114, Vi by0, Vr (z : Int), Vi i, x4, x5]) (S' := []) (h' := ((SHv st dr (z : Int)), (ovl a s b))) (fun _ => rfl) (fun b62 => ?_) (fun b62 => ?_)
    · refine Ev.steps (k := 2) (pc' := 288) (L' := [Vr 114, Vi by0, Vr (z : Int), Vi i, x4, x5]) (S' := [Vi (a 114 9)]) (h' := ((SHv st dr (z : Int)), (ovl a s b))) (fun _ => rfl) ?_
      rw [e9]
      refine Ev.ite (P := e.1 ≠ 0) (k := 1) (a := 298) (b := 291) (L' := [Vr 114, Vi by0, Vr (z : Int), Vi i, x4, x5]) (S' := []) (h' := ((SHv st dr (z : Int)), (ovl a s b))) (fun _ => rfl) (fun b288 => ?_) (fun b288 => ?_)
      · refine Ev.steps (k := 2) (pc' := 302) (L' := [Vr 114, Vi by0, Vr (z : Int), Vi i, x4, x5]) (S' := [Vi (a 114 9)]) (h' := ((SHv st dr (z : Int)), (ovl a s b))) (fun _ => rfl) ?_
        rw [e9]
        refine Ev.ite (P := e.1 ≠ 0) (k := 1) (a := 309) (b := 305) (L' := [Vr 114, Vi by0, Vr (z : Int), Vi i, x4, x5]) (S' := []) (h' := ((SHv st dr (z : Int)), (ovl a s b))) (fun _ => rfl) (fun b302 => ?_) (fun b302 => ?_)
        · refine Ev.fin (k := 2) (r := (some (Vi 0))) (h' := ((SHv st dr (z : Int)), (ovl a s b))) (fun _ => rfl) ?_
          exact ⟨rfl, rfl⟩
        · exact absurd (Classical.not_not.mp b302) h0
      · exact absurd (Classical.not_not.mp b288) h0
    · exact absurd (Classical.not_not.mp b62) h0
theorem c_ruled {X : List Int} {st dr : Int} {s b : C3} {W : TXT} {S : STY} {z : Nat} (hz : hyS z) {n : Nat} (d : Nat) (a0 : C3) (p0 c0 : Nat) (hd : 400 ≤ d) (X0 : XoC W S.1 z p0 c0 8 a0) (P0 : PaC S a0 z c0) (hC : nC S ≤ 12) (hc0 : c0 ≤ p0) (hr1 : 262 ≤ tC W p0) (hr2 : tC W p0 ≤ 267) (hn0 : S.1 0 4 = (n : Int)) (h8 : n < 30) : Ev X d 45 0 [Vr 114, Vr ((z + 14 + n : Nat) : Int)] [] (SHv st dr (z : Int), ovl a0 s b) (PoB st dr s b W S z 4 n a0 (rulT W S p0)) := by
  rcases (show tC W p0 = 262 ∨ tC W p0 = 263 ∨ tC W p0 = 264 ∨ tC W p0 = 265 ∨ tC W p0 = 266 ∨ tC W p0 = 267 by omega) with h | h | h | h | h | h
  · exact c_ruled_262 hz d a0 p0 c0 hd X0 P0 hC hc0 h hn0 h8
  · exact c_ruled_263 hz d a0 p0 c0 hd X0 P0 hC hc0 h hn0 h8
  · exact c_ruled_264 hz d a0 p0 c0 hd X0 P0 hC hc0 h hn0 h8
  · exact c_ruled_265 hz d a0 p0 c0 hd X0 P0 hC hc0 h hn0 h8
  · exact c_ruled_266 hz d a0 p0 c0 hd X0 P0 hC hc0 h hn0 h8
  · exact c_ruled_267 hz d a0 p0 c0 hd X0 P0 hC hc0 h hn0 h8
theorem c_reads_6 {X : List Int} {st dr : Int} {s b : C3} {W : TXT} {S : STY} {z : Nat} (hz : hyS z) {a0 : C3} {p0 c0 : Nat} (d i : Nat) (by0 : Int) (x4 x5 : pm_V) (X0 : XoC W S.1 z p0 c0 8 a0) (P0 : PaC S a0 z c0) (hWY : WfY S) (hWD : WfD S) (hc0 : c0 ≤ p0) (hi : i < 1200) (hs : srtT (tC W p0) = 6) {Q : Option pm_V → pm_H → Prop} (KE : ∀ e a', stmT W S p0 = .error e → FtZ z a0 a' → BaC W a' → BrC e a' → Q (some (Vi 0)) (SHv st dr (z : Int), ovl a' s b)) : Ev X (d + 401) 22 75 [Vr 114, Vi by0, Vr (z : Int), Vi (i : Int), x4, x5] [] (SHv st dr (z : Int), ovl a0 s b) Q := by
  have hz1 := z11 hz
  have Q0 := X0.le
  have hsc := srt_c (c := tC W p0)
  have G0 : Gs z c0 a0 a0 := ⟨FsZ.rf, rfl⟩
  refine Ev.call (k := 1) (pc1 := 76) (L1 := [Vr 114, Vi by0, Vr (z : Int), Vi (i : Int), x4, x5]) (S1 := [Vr 114]) (h1 := ((SHv st dr (z : Int)), (ovl a0 s b))) (m' := 31) (as := [Vr 114]) (S' := []) (L0 := [Vr 114]) (fun _ => rfl) rfl rfl rfl rfl rfl rfl (c_sortTold X0.1) (fun r h' hq => ?_)
  obtain ⟨rfl, rfl⟩ := hq
  rw [if_pos (by omega)]
  show Ev X _ _ 79 [Vr 114, Vi by0, Vr (z : Int), Vi (i : Int), x4, x5] [Vi (-1)] ((SHv st dr (z : Int)), (ovl a0 s b)) _
  refine Ev.steps (k := 12) (pc' := 115) (L' := [Vr 114, Vi by0, Vr (z : Int), Vi (i : Int), Vi (-1), x5]) (S' := [Vi (a0 114 6), Vi 1, Vr 114]) (h' := ((SHv st dr (z : Int)), (ovl a0 s b))) (fun _ => rfl) ?_
  rw [X0.t6]
  refine Ev.call (k := 0) (pc1 := 115) (L1 := [Vr 114, Vi by0, Vr (z : Int), Vi (i : Int), Vi (-1), x5]) (S1 := [Vi ((tA W p0 : Nat) : Int), Vi 1, Vr 114]) (h1 := ((SHv st dr (z : Int)), (ovl a0 s b))) (m' := 29) (as := [Vr 114, Vi 1, Vi ((tA W p0 : Nat) : Int)]) (S' := []) (L0 := [Vr 114, Vi 1, Vi ((tA W p0 : Nat) : Int)]) (fun _ => rfl) rfl rfl rfl rfl rfl rfl (c_fail_t X0.1 1 ((tA W p0 : Nat) : Int) (by decide)) (fun r h' hq => ?_)
  obtain ⟨rfl, a1, rfl, hq⟩ := hq
  rcases hq with hq
  · have hb1 := hq
    have B1 := G0.bd X0 (by omega) hb1
    show Ev X _ _ 118 [Vr 114, Vi by0, Vr (z : Int), Vi (i : Int), Vi (-1), x5] [] ((SHv st dr (z : Int)), (ovl a1 s b)) _
    refine Ev.fin (k := 2) (r := (some (Vi 0))) (h' := ((SHv st dr (z : Int)), (ovl a1 s b))) (fun _ => rfl) ?_
    exact KE _ _ (if_pos hs) B1.1.t B1.2.1 B1.2.2.1
theorem c_reads_0 {X : List Int} {st dr : Int} {s b : C3} {W : TXT} {S : STY} {z : Nat} (hz : hyS z) {a0 : C3} {p0 c0 : Nat} (d i : Nat) (by0 : Int) (x4 x5 : pm_V) (X0 : XoC W S.1 z p0 c0 8 a0) (P0 : PaC S a0 z c0) (hWY : WfY S) (hWD : WfD S) (hc0 : c0 ≤ p0) (hi : i < 1200) (hs : srtT (tC W p0) = 0) {Q : Option pm_V → pm_H → Prop} (KE : ∀ e a', stmT W S p0 = .error e → FtZ z a0 a' → BaC W a' → BrC e a' → Q (some (Vi 0)) (SHv st dr (z : Int), ovl a' s b)) (n0 : Nat) (hn1 : S.1 0 0 = (n0 : Int)) (KK : ∀ a' S' p' c', stmT W S p0 = .ok (S', p') → XoC W S'.1 z p' c' 8 a' → PaC S' a' z c' → FtZ z a0 a' → c' ≤ p' → Ev X (d + 401) 22 51 [Vr 114, Vi by0, Vr (z : Int), Vi ((i : Int) + 1), Vi 0, Vi (n0 : Int)] [] (SHv st dr (z : Int), ovl a' s b) Q) : Ev X (d + 401) 22 75 [Vr 114, Vi by0, Vr (z : Int), Vi (i : Int), x4, x5] [] (SHv st dr (z : Int), ovl a0 s b) Q := by
  have hz1 := z11 hz
  have hz0 : z = 2 ∨ z = 58 := hz
  have Q0 := X0.le
  have hsc := srt_c (c := tC W p0)
  have hs0 : srtT (tC W p0) = 0 := hs
  have hC := hWY.2.2.2.2.2.1.1
  have hl := hWY.2.2.2.2.1.1
  obtain ⟨n, hnS⟩ : ∃ n : Nat, S.1 0 0 = (n : Int) := ⟨(S.1 0 0).toNat, by have := hWY.1.2; have := hWY.2.1.1; have := hWY.2.2.1.2; have := hWY.2.2.2.1.2; have := hWY.2.2.2.2.1.2; have := hWY.2.2.2.2.2.1.2; omega⟩
  obtain rfl : n = n0 := by omega
  have hn0 : a0 (z + 1) 0 = (n : Int) := by rw [P0.1 0 (by omega), hnS]
  have hI : ∀ r, r < 8 → S.1 4 (8 * r + r) = 0 := fun r hr => Classical.byContradiction fun g => (hWD r r hr hr g).2.2 rfl
  have G0 : Gs z c0 a0 a0 := ⟨FsZ.rf, rfl⟩
  refine Ev.call (k := 1) (pc1 := 76) (L1 := [Vr 114, Vi by0, Vr (z : Int), Vi (i : Int), x4, x5]) (S1 := [Vr 114]) (h1 := ((SHv st dr (z : Int)), (ovl a0 s b))) (m' := 31) (as := [Vr 114]) (S' := []) (L0 := [Vr 114]) (fun _ => rfl) rfl rfl rfl rfl rfl rfl (c_sortTold X0.1) (fun r h' hq => ?_)
  obtain ⟨rfl, rfl⟩ := hq
  rw [if_neg (by omega)]
  rw [show ((srtT (tC W p0) : Nat) : Int) = 0 by omega]
  show Ev X _ _ 79 [Vr 114, Vi by0, Vr (z : Int), Vi (i : Int), x4, x5] [Vi 0] ((SHv st dr (z : Int)), (ovl a0 s b)) _
  refine Ev.call (k := 7) (pc1 := 93) (L1 := [Vr 114, Vi by0, Vr (z : Int), Vi (i : Int), Vi 0, x5]) (S1 := [Vi 0, Vr (z : Int)]) (h1 := ((SHv st dr (z : Int)), (ovl a0 s b))) (m' := 32) (as := [Vr (z : Int), Vi 0]) (S' := []) (L0 := [Vr (z : Int), Vi 0]) (fun _ => rfl) rfl rfl rfl rfl (stpC_of rfl (pm_recv_of (by omega) (shY_0 hz))) rfl (c_full_0 hz hn0) (fun r h' hq => ?_)
  obtain ⟨rfl, rfl⟩ := hq
  by_cases c93 : 8 ≤ (n : Int)
  · rw [if_pos c93]
    show Ev X _ _ 96 [Vr 114, Vi by0, Vr (z : Int), Vi (i : Int), Vi 0, x5] [Vi 1] ((SHv st dr (z : Int)), (ovl a0 s b)) _
    refine Ev.steps (k := 8) (pc' := 115) (L' := [Vr 114, Vi by0, Vr (z : Int), Vi (i : Int), Vi 0, x5]) (S' := [Vi (a0 114 6), Vi 5, Vr 114]) (h' := ((SHv st dr (z : Int)), (ovl a0 s b))) (fun _ => rfl) ?_
    rw [X0.t6]
    refine Ev.call (k := 0) (pc1 := 115) (L1 := [Vr 114, Vi by0, Vr (z : Int), Vi (i : Int), Vi 0, x5]) (S1 := [Vi ((tA W p0 : Nat) : Int), Vi 5, Vr 114]) (h1 := ((SHv st dr (z : Int)), (ovl a0 s b))) (m' := 29) (as := [Vr 114, Vi 5, Vi ((tA W p0 : Nat) : Int)]) (S' := []) (L0 := [Vr 114, Vi 5, Vi ((tA W p0 : Nat) : Int)]) (fun _ => rfl) rfl rfl rfl rfl rfl rfl (c_fail_t X0.1 5 ((tA W p0 : Nat) : Int) (by decide)) (fun r h' hq => ?_)
    obtain ⟨rfl, a2, rfl, hq⟩ := hq
    rcases hq with hq
    · have hb2 := hq
      have B2 := G0.bd X0 (by omega) hb2
      show Ev X _ _ 118 [Vr 114, Vi by0, Vr (z : Int), Vi (i : Int), Vi 0, x5] [] ((SHv st dr (z : Int)), (ovl a2 s b)) _
      refine Ev.fin (k := 2) (r := (some (Vi 0))) (h' := ((SHv st dr (z : Int)), (ovl a2 s b))) (fun _ => rfl) ?_
      refine KE _ _ ?_ B2.1.t B2.2.1 B2.2.2.1
      unfold stmT
      rw [if_neg (by omega), if_pos (by rw [hs0]; show (8 : Int) ≤ S.1 0 0; omega)]
  · rw [if_neg c93]
    show Ev X _ _ 96 [Vr 114, Vi by0, Vr (z : Int), Vi (i : Int), Vi 0, x5] [Vi 0] ((SHv st dr (z : Int)), (ovl a0 s b)) _
    refine Ev.steps (k := 3) (pc' := 124) (L' := [Vr 114, Vi by0, Vr (z : Int), Vi (i : Int), Vi 0, x5]) (S' := [Vr (z : Int)]) (h' := ((SHv st dr (z : Int)), (ovl a0 s b))) (fun _ => rfl) ?_
    refine Ev.getr (r := ((z : Int) + 1)) rfl rfl (by omega) (shY_0 hz) rfl rfl rfl ?_
    refine Ev.steps (k := 1) (pc' := 129) (L' := [Vr 114, Vi by0, Vr (z : Int), Vi (i : Int), Vi 0, x5]) (S' := [Vi 0, Vr ((z : Int) + 1)]) (h' := ((SHv st dr (z : Int)), (ovl a0 s b))) (fun _ => rfl) ?_
    refine Ev.iald (v := (n : Int)) rfl (by omega) (shY_1 hz) (by omega) (by omega) ((ovl_rc (by omega)).trans (hn0)) ?_
    refine Ev.call (k := 4) (pc1 := 173) (L1 := [Vr 114, Vi by0, Vr (z : Int), Vi (i : Int), Vi 0, Vi (n : Int)]) (S1 := [Vr 114]) (h1 := ((SHv st dr (z : Int)), (ovl a0 s b))) (m' := 27) (as := [Vr 114]) (S' := []) (L0 := [Vr 114, Vx, Vx, Vx, Vx]) (fun _ => rfl) rfl rfl rfl rfl rfl rfl (c_next X0.1) (fun r h' hq => ?_)
    obtain ⟨rfl, a3, rfl, hq⟩ := hq
    rcases hq with ⟨p3, hx3, ho3⟩ | ⟨e3, hx3, hb3⟩
    · have X3 := X0.nx ho3
      have L3 : p0 < p3 := X0.lt (by omega) hx3
      have G3 := G0.tr (ho3.1.gz (c := c0) X0.hz) (by omega)
      have R3 : a3 (z + 11) = a0 (z + 11) := ho3.1 _ (by omega)
      have Q3 := X3.le
      show Ev X _ _ 176 [Vr 114, Vi by0, Vr (z : Int), Vi (i : Int), Vi 0, Vi (n : Int)] [] ((SHv st dr (z : Int)), (ovl a3 s b)) _
      refine Ev.call (k := 2) (pc1 := 178) (L1 := [Vr 114, Vi by0, Vr (z : Int), Vi (i : Int), Vi 0, Vi (n : Int)]) (S1 := [Vi 0, Vr 114]) (h1 := ((SHv st dr (z : Int)), (ovl a3 s b))) (m' := 33) (as := [Vr 114, Vi 0]) (S' := []) (L0 := [Vr 114, Vi 0]) (fun _ => rfl) rfl rfl rfl rfl rfl rfl (c_given hz (kd := 0) (q := 0) (n := n) (by decide) rfl _ _ _ _ (by omega) X3 (by omega) (by rw [cnt_0, hnS, Int.toNat_natCast]) (by omega)) (fun r h' hq => ?_)
      obtain ⟨rfl, a4, rfl, hq⟩ := hq
      rcases hq with ⟨⟨w4, p4⟩, hx4, X4, V4, g4, N4, T4⟩ | ⟨e4, hx4, hb4⟩
      · dsimp only at X4 V4 N4
        have L4 : p3 < p4 := by
          obtain ⟨h1, -, -, h4, -⟩ := giv_ok hx4
          rw [show p4 = tE W p3 from h4]
          exact tok_lt X3.le.1 X3.1.1.1 (by omega) (by omega)
        have G4 : Gs z c0 a0 a4 := ⟨G3.1.tr g4.fs, rfl⟩
        have Q4 := X4.le
        show Ev X _ _ 181 [Vr 114, Vi by0, Vr (z : Int), Vi (i : Int), Vi 0, Vi (n : Int)] [] ((SHv st dr (z : Int)), (ovl a4 s b)) _
        refine Ev.call (k := 3) (pc1 := 261) (L1 := [Vr 114, Vi by0, Vr (z : Int), Vi (i : Int), Vi 0, Vi (n : Int)]) (S1 := [Vi 59, Vr 114]) (h1 := ((SHv st dr (z : Int)), (ovl a4 s b))) (m' := 42) (as := [Vr 114, Vi 59]) (S' := []) (L0 := [Vr 114, Vi 59]) (fun _ => rfl) rfl rfl rfl rfl rfl rfl (c_expect X4.1 59) (fun r h' hq => ?_)
        obtain ⟨rfl, a5, rfl, hq⟩ := hq
        rcases hq with ⟨p5, hx5, ho5⟩ | ⟨e5, hx5, hb5⟩
        · have X5 := X4.nx ho5
          have L5 : p4 < p5 := by
            obtain ⟨h1, h2⟩ := exp_ok hx5
            exact X4.lt (by omega) (by unfold expT at hx5; rwa [if_neg (by omega)] at hx5)
          have G5 := G4.tr (ho5.1.gz (c := c0) X4.hz) (by omega)
          have R5 : a5 (z + 11) = a4 (z + 11) := ho5.1 _ (by omega)
          have Q5 := X5.le
          show Ev X _ _ 264 [Vr 114, Vi by0, Vr (z : Int), Vi (i : Int), Vi 0, Vi (n : Int)] [] ((SHv st dr (z : Int)), (ovl a5 s b)) _
          refine Ev.steps (k := 2) (pc' := 268) (L' := [Vr 114, Vi by0, Vr (z : Int), Vi (i : Int), Vi 0, Vi (n : Int)]) (S' := [Vr (z : Int)]) (h' := ((SHv st dr (z : Int)), (ovl a5 s b))) (fun _ => rfl) ?_
          refine Ev.getr (r := ((z : Int) + 1)) rfl rfl (by omega) (shY_0 hz) rfl rfl rfl ?_
          refine Ev.steps (k := 4) (pc' := 277) (L' := [Vr 114, Vi by0, Vr (z : Int), Vi (i : Int), Vi 0, Vi (n : Int)]) (S' := [Vi (w32 ((n : Int) + 1)), Vi 0, Vr ((z : Int) + 1)]) (h' := ((SHv st dr (z : Int)), (ovl a5 s b))) (fun _ => rfl) ?_
          rw [show (w32 ((n : Int) + 1)) = ((n : Int) + 1) from w32_id (by unfold R32; omega)]
          refine Ev.iast (c' := (ovl (updC a5 (z + 1) 0 ((n : Int) + 1)) s b)) rfl (by omega) (shY_1 hz) (by omega) (by omega) (ovl_wc (by omega)) ?_
          refine Ev.steps (k := 1) (pc' := 281) (L' := [Vr 114, Vi by0, Vr (z : Int), Vi (w32 ((i : Int) + 1)), Vi 0, Vi (n : Int)]) (S' := []) (h' := ((SHv st dr (z : Int)), (ovl (updC a5 (z + 1) 0 ((n : Int) + 1)) s b))) (fun _ => rfl) ?_
          rw [show (w32 ((i : Int) + 1)) = ((i : Int) + 1) from w32_id (by unfold R32; omega)]
          refine Ev.steps (k := 1) (pc' := 51) (L' := [Vr 114, Vi by0, Vr (z : Int), Vi ((i : Int) + 1), Vi 0, Vi (n : Int)]) (S' := []) (h' := ((SHv st dr (z : Int)), (ovl (updC a5 (z + 1) 0 ((n : Int) + 1)) s b))) (fun _ => rfl) ?_
          have ebd : bodT W S p0 = rooT W S p0 := by unfold bodT; rw [hs0]; rfl
          have est : stmT W S p0 = bnX (rooT W S p0) (fun r => bnX (expT W 59 r.2) (fun p1 => .ok (r.1, p1))) := by
            unfold stmT
            rw [if_neg (by omega), if_neg (by rw [hs0]; show ¬ (8 : Int) ≤ S.1 0 0; omega), ebd]
          unfold rooT at est
          rw [hx3, bnX_o, hx4, bnX_o] at est
          rw [bnX_o] at est
          rw [hx5, bnX_o] at est
          have hnR : nR S = n := by show (S.1 0 0).toNat = n; rw [hnS]; omega
          have hPa : PaC (incN (updC S.1 1 (nR S) w4) 0, S.2) (updC a5 (z + 1) 0 ((n : Int) + 1)) z c0 := by
            rw [hnR]
            refine P0.room hnS (by omega) hl hC V4 (fun o o1 o2 o3 o4 => ?_) (fun j => ?_) (fun j => ?_)
            · rw [updC_row (by omega), ho5.1 o (by omega)]
              by_cases h11 : o = z + 11
              · rw [h11, T4, ho3.1 _ (by omega)]
              · rw [g4.2.2.1 o (by omega) (by omega) h11 o4 o4, ho3.1 o (by omega)]
            · rw [updC_if, ho5.1 _ (by omega), g4.2.2.1 (z + 1) (by omega) (by omega) (by omega) (by omega) (by omega), ho3.1 _ (by omega)]
            · rw [updC_row (by omega), ho5.1 _ (by omega), N4, ho3.1 _ (by omega), show 8 * 0 + n = n by omega]
          have hfz : FsZ z a0 a5 := G5.1
          exact KK _ _ _ _ est ⟨X5.1.fo (updC_row (by omega)) (updC_row (by omega)) (updC_row (by omega)), hPa.2.1, by rw [updC_row (by omega)]; exact X5.2.2.1, by rw [updC_row (by omega)]; exact X5.2.2.2.1, X5.2.2.2.2⟩ hPa (hfz.t.up (by omega)) (by omega)
        · have B5 := G4.bd X4 (by omega) hb5
          show Ev X _ _ 264 [Vr 114, Vi by0, Vr (z : Int), Vi (i : Int), Vi 0, Vi (n : Int)] [] ((SHv st dr (z : Int)), (ovl a5 s b)) _
          refine Ev.steps (k := 2) (pc' := 268) (L' := [Vr 114, Vi by0, Vr (z : Int), Vi (i : Int), Vi 0, Vi (n : Int)]) (S' := [Vr (z : Int)]) (h' := ((SHv st dr (z : Int)), (ovl a5 s b))) (fun _ => rfl) ?_
          refine Ev.getr (r := ((z : Int) + 1)) rfl rfl (by omega) (shY_0 hz) rfl rfl rfl ?_
          refine Ev.steps (k := 4) (pc' := 277) (L' := [Vr 114, Vi by0, Vr (z : Int), Vi (i : Int), Vi 0, Vi (n : Int)]) (S' := [Vi (w32 ((n : Int) + 1)), Vi 0, Vr ((z : Int) + 1)]) (h' := ((SHv st dr (z : Int)), (ovl a5 s b))) (fun _ => rfl) ?_
          refine Ev.iast (c' := (ovl (updC a5 (z + 1) 0 (w32 ((n : Int) + 1))) s b)) rfl (by omega) (shY_1 hz) (by omega) (by omega) (ovl_wc (by omega)) ?_
          refine Ev.steps (k := 1) (pc' := 281) (L' := [Vr 114, Vi by0, Vr (z : Int), Vi (w32 ((i : Int) + 1)), Vi 0, Vi (n : Int)]) (S' := []) (h' := ((SHv st dr (z : Int)), (ovl (updC a5 (z + 1) 0 (w32 ((n : Int) + 1))) s b))) (fun _ => rfl) ?_
          rw [show (w32 ((i : Int) + 1)) = ((i : Int) + 1) from w32_id (by unfold R32; omega)]
          refine Ev.steps (k := 1) (pc' := 51) (L' := [Vr 114, Vi by0, Vr (z : Int), Vi ((i : Int) + 1), Vi 0, Vi (n : Int)]) (S' := []) (h' := ((SHv st dr (z : Int)), (ovl (updC a5 (z + 1) 0 (w32 ((n : Int) + 1))) s b))) (fun _ => rfl) ?_
          have ebd : bodT W S p0 = rooT W S p0 := by unfold bodT; rw [hs0]; rfl
          have est : stmT W S p0 = bnX (rooT W S p0) (fun r => bnX (expT W 59 r.2) (fun p1 => .ok (r.1, p1))) := by
            unfold stmT
            rw [if_neg (by omega), if_neg (by rw [hs0]; show ¬ (8 : Int) ≤ S.1 0 0; omega), ebd]
          unfold rooT at est
          rw [hx3, bnX_o, hx4, bnX_o] at est
          rw [bnX_o] at est
          rw [hx5, bnX_e] at est
          exact (c_reads_br (z := z) (B5.2.2.1.fo (updC_row (by omega))) by0 _ _ _).mono (fun r h' hq => by
            rw [hq.1, hq.2]
            exact KE _ _ est (B5.1.t.up (by omega)) (B5.2.1.fo (updC_row (by omega)) (updC_row (by omega)) (by rw [updC_row (by omega)])) (B5.2.2.1.fo (updC_row (by omega))))
      · have B4 : BdS W z a0 e4 a4 := ⟨G3.1.tr hb4.1, hb4.2⟩
        show Ev X _ _ 181 [Vr 114, Vi by0, Vr (z : Int), Vi (i : Int), Vi 0, Vi (n : Int)] [] ((SHv st dr (z : Int)), (ovl a4 s b)) _
        refine Ev.call (k := 3) (pc1 := 261) (L1 := [Vr 114, Vi by0, Vr (z : Int), Vi (i : Int), Vi 0, Vi (n : Int)]) (S1 := [Vi 59, Vr 114]) (h1 := ((SHv st dr (z : Int)), (ovl a4 s b))) (m' := 42) (as := [Vr 114, Vi 59]) (S' := []) (L0 := [Vr 114, Vi 59]) (fun _ => rfl) rfl rfl rfl rfl rfl rfl (c_expect_br B4.2.2.1 59 (by decide)) (fun r h' hq => ?_)
        obtain ⟨rfl, rfl⟩ := hq
        show Ev X _ _ 264 [Vr 114, Vi by0, Vr (z : Int), Vi (i : Int), Vi 0, Vi (n : Int)] [] ((SHv st dr (z : Int)), (ovl a4 s b)) _
        refine Ev.steps (k := 2) (pc' := 268) (L' := [Vr 114, Vi by0, Vr (z : Int), Vi (i : Int), Vi 0, Vi (n : Int)]) (S' := [Vr (z : Int)]) (h' := ((SHv st dr (z : Int)), (ovl a4 s b))) (fun _ => rfl) ?_
        refine Ev.getr (r := ((z : Int) + 1)) rfl rfl (by omega) (shY_0 hz) rfl rfl rfl ?_
        refine Ev.steps (k := 4) (pc' := 277) (L' := [Vr 114, Vi by0, Vr (z : Int), Vi (i : Int), Vi 0, Vi (n : Int)]) (S' := [Vi (w32 ((n : Int) + 1)), Vi 0, Vr ((z : Int) + 1)]) (h' := ((SHv st dr (z : Int)), (ovl a4 s b))) (fun _ => rfl) ?_
        refine Ev.iast (c' := (ovl (updC a4 (z + 1) 0 (w32 ((n : Int) + 1))) s b)) rfl (by omega) (shY_1 hz) (by omega) (by omega) (ovl_wc (by omega)) ?_
        refine Ev.steps (k := 1) (pc' := 281) (L' := [Vr 114, Vi by0, Vr (z : Int), Vi (w32 ((i : Int) + 1)), Vi 0, Vi (n : Int)]) (S' := []) (h' := ((SHv st dr (z : Int)), (ovl (updC a4 (z + 1) 0 (w32 ((n : Int) + 1))) s b))) (fun _ => rfl) ?_
        rw [show (w32 ((i : Int) + 1)) = ((i : Int) + 1) from w32_id (by unfold R32; omega)]
        refine Ev.steps (k := 1) (pc' := 51) (L' := [Vr 114, Vi by0, Vr (z : Int), Vi ((i : Int) + 1), Vi 0, Vi (n : Int)]) (S' := []) (h' := ((SHv st dr (z : Int)), (ovl (updC a4 (z + 1) 0 (w32 ((n : Int) + 1))) s b))) (fun _ => rfl) ?_
        have ebd : bodT W S p0 = rooT W S p0 := by unfold bodT; rw [hs0]; rfl
        have est : stmT W S p0 = bnX (rooT W S p0) (fun r => bnX (expT W 59 r.2) (fun p1 => .ok (r.1, p1))) := by
          unfold stmT
          rw [if_neg (by omega), if_neg (by rw [hs0]; show ¬ (8 : Int) ≤ S.1 0 0; omega), ebd]
        unfold rooT at est
        rw [hx3, bnX_o, hx4, bnX_e] at est
        rw [bnX_e] at est
        exact (c_reads_br (z := z) (B4.2.2.1.fo (updC_row (by omega))) by0 _ _ _).mono (fun r h' hq => by
          rw [hq.1, hq.2]
          exact KE _ _ est (B4.1.t.up (by omega)) (B4.2.1.fo (updC_row (by omega)) (updC_row (by omega)) (by rw [updC_row (by omega)])) (B4.2.2.1.fo (updC_row (by omega))))
    · have B3 := G0.bd X0 (by omega) hb3
      show Ev X _ _ 176 [Vr 114, Vi by0, Vr (z : Int), Vi (i : Int), Vi 0, Vi (n : Int)] [] ((SHv st dr (z : Int)), (ovl a3 s b)) _
      refine Ev.call (k := 2) (pc1 := 178) (L1 := [Vr 114, Vi by0, Vr (z : Int), Vi (i : Int), Vi 0, Vi (n : Int)]) (S1 := [Vi 0, Vr 114]) (h1 := ((SHv st dr (z : Int)), (ovl a3 s b))) (m' := 33) (as := [Vr 114, Vi 0]) (S' := []) (L0 := [Vr 114, Vi 0]) (fun _ => rfl) rfl rfl rfl rfl rfl rfl (c_given_br B3.2.2.1 0) (fun r h' hq => ?_)
      obtain ⟨rfl, rfl⟩ := hq
      show Ev X _ _ 181 [Vr 114, Vi by0, Vr (z : Int), Vi (i : Int), Vi 0, Vi (n : Int)] [] ((SHv st dr (z : Int)), (ovl a3 s b)) _
      refine Ev.call (k := 3) (pc1 := 261) (L1 := [Vr 114, Vi by0, Vr (z : Int), Vi (i : Int), Vi 0, Vi (n : Int)]) (S1 := [Vi 59, Vr 114]) (h1 := ((SHv st dr (z : Int)), (ovl a3 s b))) (m' := 42) (as := [Vr 114, Vi 59]) (S' := []) (L0 := [Vr 114, Vi 59]) (fun _ => rfl) rfl rfl rfl rfl rfl rfl (c_expect_br B3.2.2.1 59 (by decide)) (fun r h' hq => ?_)
      obtain ⟨rfl, rfl⟩ := hq
      show Ev X _ _ 264 [Vr 114, Vi by0, Vr (z : Int), Vi (i : Int), Vi 0, Vi (n : Int)] [] ((SHv st dr (z : Int)), (ovl a3 s b)) _
      refine Ev.steps (k := 2) (pc' := 268) (L' := [Vr 114, Vi by0, Vr (z : Int), Vi (i : Int), Vi 0, Vi (n : Int)]) (S' := [Vr (z : Int)]) (h' := ((SHv st dr (z : Int)), (ovl a3 s b))) (fun _ => rfl) ?_
      refine Ev.getr (r := ((z : Int) + 1)) rfl rfl (by omega) (shY_0 hz) rfl rfl rfl ?_
      refine Ev.steps (k := 4) (pc' := 277) (L' := [Vr 114, Vi by0, Vr (z : Int), Vi (i : Int), Vi 0, Vi (n : Int)]) (S' := [Vi (w32 ((n : Int) + 1)), Vi 0, Vr ((z : Int) + 1)]) (h' := ((SHv st dr (z : Int)), (ovl a3 s b))) (fun _ => rfl) ?_
      refine Ev.iast (c' := (ovl (updC a3 (z + 1) 0 (w32 ((n : Int) + 1))) s b)) rfl (by omega) (shY_1 hz) (by omega) (by omega) (ovl_wc (by omega)) ?_
      refine Ev.steps (k := 1) (pc' := 281) (L' := [Vr 114, Vi by0, Vr (z : Int), Vi (w32 ((i : Int) + 1)), Vi 0, Vi (n : Int)]) (S' := []) (h' := ((SHv st dr (z : Int)), (ovl (updC a3 (z + 1) 0 (w32 ((n : Int) + 1))) s b))) (fun _ => rfl) ?_
      rw [show (w32 ((i : Int) + 1)) = ((i : Int) + 1) from w32_id (by unfold R32; omega)]
      refine Ev.steps (k := 1) (pc' := 51) (L' := [Vr 114, Vi by0, Vr (z : Int), Vi ((i : Int) + 1), Vi 0, Vi (n : Int)]) (S' := []) (h' := ((SHv st dr (z : Int)), (ovl (updC a3 (z + 1) 0 (w32 ((n : Int) + 1))) s b))) (fun _ => rfl) ?_
      have ebd : bodT W S p0 = rooT W S p0 := by unfold bodT; rw [hs0]; rfl
      have est : stmT W S p0 = bnX (rooT W S p0) (fun r => bnX (expT W 59 r.2) (fun p1 => .ok (r.1, p1))) := by
        unfold stmT
        rw [if_neg (by omega), if_neg (by rw [hs0]; show ¬ (8 : Int) ≤ S.1 0 0; omega), ebd]
      unfold rooT at est
      rw [hx3, bnX_e] at est
      rw [bnX_e] at est
      exact (c_reads_br (z := z) (B3.2.2.1.fo (updC_row (by omega))) by0 _ _ _).mono (fun r h' hq => by
        rw [hq.1, hq.2]
        exact KE _ _ est (B3.1.t.up (by omega)) (B3.2.1.fo (updC_row (by omega)) (updC_row (by omega)) (by rw [updC_row (by omega)])) (B3.2.2.1.fo (updC_row (by omega))))
theorem c_reads_1 {X : List Int} {st dr : Int} {s b : C3} {W : TXT} {S : STY} {z : Nat} (hz : hyS z) {a0 : C3} {p0 c0 : Nat} (d i : Nat) (by0 : Int) (x4 x5 : pm_V) (X0 : XoC W S.1 z p0 c0 8 a0) (P0 : PaC S a0 z c0) (hWY : WfY S) (hWD : WfD S) (hc0 : c0 ≤ p0) (hi : i < 1200) (hs : srtT (tC W p0) = 1) {Q : Option pm_V → pm_H → Prop} (KE : ∀ e a', stmT W S p0 = .error e → FtZ z a0 a' → BaC W a' → BrC e a' → Q (some (Vi 0)) (SHv st dr (z : Int), ovl a' s b)) (n0 : Nat) (hn1 : S.1 0 1 = (n0 : Int)) (KK : ∀ a' S' p' c', stmT W S p0 = .ok (S', p') → XoC W S'.1 z p' c' 8 a' → PaC S' a' z c' → FtZ z a0 a' → c' ≤ p' → Ev X (d + 401) 22 51 [Vr 114, Vi by0, Vr (z : Int), Vi ((i : Int) + 1), Vi 1, Vi (n0 : Int)] [] (SHv st dr (z : Int), ovl a' s b) Q) : Ev X (d + 401) 22 75 [Vr 114, Vi by0, Vr (z : Int), Vi (i : Int), x4, x5] [] (SHv st dr (z : Int), ovl a0 s b) Q := by
  have hz1 := z11 hz
  have hz0 : z = 2 ∨ z = 58 := hz
  have Q0 := X0.le
  have hsc := srt_c (c := tC W p0)
  have hs0 : srtT (tC W p0) = 1 := hs
  have hC := hWY.2.2.2.2.2.1.1
  have hl := hWY.2.2.2.2.1.1
  obtain ⟨n, hnS⟩ : ∃ n : Nat, S.1 0 1 = (n : Int) := ⟨(S.1 0 1).toNat, by have := hWY.1.2; have := hWY.2.1.1; have := hWY.2.2.1.2; have := hWY.2.2.2.1.2; have := hWY.2.2.2.2.1.2; have := hWY.2.2.2.2.2.1.2; omega⟩
  obtain rfl : n = n0 := by omega
  have hn0 : a0 (z + 1) 1 = (n : Int) := by rw [P0.1 1 (by omega), hnS]
  have hI : ∀ r, r < 8 → S.1 4 (8 * r + r) = 0 := fun r hr => Classical.byContradiction fun g => (hWD r r hr hr g).2.2 rfl
  have G0 : Gs z c0 a0 a0 := ⟨FsZ.rf, rfl⟩
  refine Ev.call (k := 1) (pc1 := 76) (L1 := [Vr 114, Vi by0, Vr (z : Int), Vi (i : Int), x4, x5]) (S1 := [Vr 114]) (h1 := ((SHv st dr (z : Int)), (ovl a0 s b))) (m' := 31) (as := [Vr 114]) (S' := []) (L0 := [Vr 114]) (fun _ => rfl) rfl rfl rfl rfl rfl rfl (c_sortTold X0.1) (fun r h' hq => ?_)
  obtain ⟨rfl, rfl⟩ := hq
  rw [if_neg (by omega)]
  rw [show ((srtT (tC W p0) : Nat) : Int) = 1 by omega]
  show Ev X _ _ 79 [Vr 114, Vi by0, Vr (z : Int), Vi (i : Int), x4, x5] [Vi 1] ((SHv st dr (z : Int)), (ovl a0 s b)) _
  refine Ev.call (k := 7) (pc1 := 93) (L1 := [Vr 114, Vi by0, Vr (z : Int), Vi (i : Int), Vi 1, x5]) (S1 := [Vi 1, Vr (z : Int)]) (h1 := ((SHv st dr (z : Int)), (ovl a0 s b))) (m' := 32) (as := [Vr (z : Int), Vi 1]) (S' := []) (L0 := [Vr (z : Int), Vi 1]) (fun _ => rfl) rfl rfl rfl rfl (stpC_of rfl (pm_recv_of (by omega) (shY_0 hz))) rfl (c_full_1 hz hn0) (fun r h' hq => ?_)
  obtain ⟨rfl, rfl⟩ := hq
  by_cases c93 : 16 ≤ (n : Int)
  · rw [if_pos c93]
    show Ev X _ _ 96 [Vr 114, Vi by0, Vr (z : Int), Vi (i : Int), Vi 1, x5] [Vi 1] ((SHv st dr (z : Int)), (ovl a0 s b)) _
    refine Ev.steps (k := 8) (pc' := 115) (L' := [Vr 114, Vi by0, Vr (z : Int), Vi (i : Int), Vi 1, x5]) (S' := [Vi (a0 114 6), Vi 5, Vr 114]) (h' := ((SHv st dr (z : Int)), (ovl a0 s b))) (fun _ => rfl) ?_
    rw [X0.t6]
    refine Ev.call (k := 0) (pc1 := 115) (L1 := [Vr 114, Vi by0, Vr (z : Int), Vi (i : Int), Vi 1, x5]) (S1 := [Vi ((tA W p0 : Nat) : Int), Vi 5, Vr 114]) (h1 := ((SHv st dr (z : Int)), (ovl a0 s b))) (m' := 29) (as := [Vr 114, Vi 5, Vi ((tA W p0 : Nat) : Int)]) (S' := []) (L0 := [Vr 114, Vi 5, Vi ((tA W p0 : Nat) : Int)]) (fun _ => rfl) rfl rfl rfl rfl rfl rfl (c_fail_t X0.1 5 ((tA W p0 : Nat) : Int) (by decide)) (fun r h' hq => ?_)
    obtain ⟨rfl, a6, rfl, hq⟩ := hq
    rcases hq with hq
    · have hb6 := hq
      have B6 := G0.bd X0 (by omega) hb6
      show Ev X _ _ 118 [Vr 114, Vi by0, Vr (z : Int), Vi (i : Int), Vi 1, x5] [] ((SHv st dr (z : Int)), (ovl a6 s b)) _
      refine Ev.fin (k := 2) (r := (some (Vi 0))) (h' := ((SHv st dr (z : Int)), (ovl a6 s b))) (fun _ => rfl) ?_
      refine KE _ _ ?_ B6.1.t B6.2.1 B6.2.2.1
      unfold stmT
      rw [if_neg (by omega), if_pos (by rw [hs0]; show (16 : Int) ≤ S.1 0 1; omega)]
  · rw [if_neg c93]
    show Ev X _ _ 96 [Vr 114, Vi by0, Vr (z : Int), Vi (i : Int), Vi 1, x5] [Vi 0] ((SHv st dr (z : Int)), (ovl a0 s b)) _
    refine Ev.steps (k := 3) (pc' := 124) (L' := [Vr 114, Vi by0, Vr (z : Int), Vi (i : Int), Vi 1, x5]) (S' := [Vr (z : Int)]) (h' := ((SHv st dr (z : Int)), (ovl a0 s b))) (fun _ => rfl) ?_
    refine Ev.getr (r := ((z : Int) + 1)) rfl rfl (by omega) (shY_0 hz) rfl rfl rfl ?_
    refine Ev.steps (k := 1) (pc' := 129) (L' := [Vr 114, Vi by0, Vr (z : Int), Vi (i : Int), Vi 1, x5]) (S' := [Vi 1, Vr ((z : Int) + 1)]) (h' := ((SHv st dr (z : Int)), (ovl a0 s b))) (fun _ => rfl) ?_
    refine Ev.iald (v := (n : Int)) rfl (by omega) (shY_1 hz) (by omega) (by omega) ((ovl_rc (by omega)).trans (hn0)) ?_
    refine Ev.call (k := 4) (pc1 := 185) (L1 := [Vr 114, Vi by0, Vr (z : Int), Vi (i : Int), Vi 1, Vi (n : Int)]) (S1 := [Vr 114]) (h1 := ((SHv st dr (z : Int)), (ovl a0 s b))) (m' := 37) (as := [Vr 114]) (S' := []) (L0 := [Vr 114, Vx, Vx]) (fun _ => rfl) rfl rfl rfl rfl rfl rfl (c_door hz _ _ _ _ (by omega) X0 P0 hl hC hI hc0 (by omega) hnS) (fun r h' hq => ?_)
    obtain ⟨rfl, a7, rfl, hq⟩ := hq
    rcases hq with ⟨⟨S7, p7⟩, hx7, c7, X7, h7, F7, P7⟩ | ⟨e7, hx7, B7⟩
    · dsimp only at X7 h7 P7
      have G7 : Gs z c7 a0 a7 := ⟨F7, rfl⟩
      have Q7 := X7.le
      show Ev X _ _ 188 [Vr 114, Vi by0, Vr (z : Int), Vi (i : Int), Vi 1, Vi (n : Int)] [] ((SHv st dr (z : Int)), (ovl a7 s b)) _
      refine Ev.call (k := 3) (pc1 := 261) (L1 := [Vr 114, Vi by0, Vr (z : Int), Vi (i : Int), Vi 1, Vi (n : Int)]) (S1 := [Vi 59, Vr 114]) (h1 := ((SHv st dr (z : Int)), (ovl a7 s b))) (m' := 42) (as := [Vr 114, Vi 59]) (S' := []) (L0 := [Vr 114, Vi 59]) (fun _ => rfl) rfl rfl rfl rfl rfl rfl (c_expect X7.1 59) (fun r h' hq => ?_)
      obtain ⟨rfl, a8, rfl, hq⟩ := hq
      rcases hq with ⟨p8, hx8, ho8⟩ | ⟨e8, hx8, hb8⟩
      · have X8 := X7.nx ho8
        have L8 : p7 < p8 := by
          obtain ⟨h1, h2⟩ := exp_ok hx8
          exact X7.lt (by omega) (by unfold expT at hx8; rwa [if_neg (by omega)] at hx8)
        have G8 := G7.tr (ho8.1.gz (c := c7) X7.hz) (by omega)
        have R8 : a8 (z + 11) = a7 (z + 11) := ho8.1 _ (by omega)
        have Q8 := X8.le
        show Ev X _ _ 264 [Vr 114, Vi by0, Vr (z : Int), Vi (i : Int), Vi 1, Vi (n : Int)] [] ((SHv st dr (z : Int)), (ovl a8 s b)) _
        refine Ev.steps (k := 2) (pc' := 268) (L' := [Vr 114, Vi by0, Vr (z : Int), Vi (i : Int), Vi 1, Vi (n : Int)]) (S' := [Vr (z : Int)]) (h' := ((SHv st dr (z : Int)), (ovl a8 s b))) (fun _ => rfl) ?_
        refine Ev.getr (r := ((z : Int) + 1)) rfl rfl (by omega) (shY_0 hz) rfl rfl rfl ?_
        refine Ev.steps (k := 4) (pc' := 277) (L' := [Vr 114, Vi by0, Vr (z : Int), Vi (i : Int), Vi 1, Vi (n : Int)]) (S' := [Vi (w32 ((n : Int) + 1)), Vi 1, Vr ((z : Int) + 1)]) (h' := ((SHv st dr (z : Int)), (ovl a8 s b))) (fun _ => rfl) ?_
        rw [show (w32 ((n : Int) + 1)) = ((n : Int) + 1) from w32_id (by unfold R32; omega)]
        refine Ev.iast (c' := (ovl (updC a8 (z + 1) 1 ((n : Int) + 1)) s b)) rfl (by omega) (shY_1 hz) (by omega) (by omega) (ovl_wc (by omega)) ?_
        refine Ev.steps (k := 1) (pc' := 281) (L' := [Vr 114, Vi by0, Vr (z : Int), Vi (w32 ((i : Int) + 1)), Vi 1, Vi (n : Int)]) (S' := []) (h' := ((SHv st dr (z : Int)), (ovl (updC a8 (z + 1) 1 ((n : Int) + 1)) s b))) (fun _ => rfl) ?_
        rw [show (w32 ((i : Int) + 1)) = ((i : Int) + 1) from w32_id (by unfold R32; omega)]
        refine Ev.steps (k := 1) (pc' := 51) (L' := [Vr 114, Vi by0, Vr (z : Int), Vi ((i : Int) + 1), Vi 1, Vi (n : Int)]) (S' := []) (h' := ((SHv st dr (z : Int)), (ovl (updC a8 (z + 1) 1 ((n : Int) + 1)) s b))) (fun _ => rfl) ?_
        have ebd : bodT W S p0 = dooT W S p0 := by unfold bodT; rw [hs0]; rfl
        have est : stmT W S p0 = bnX (dooT W S p0) (fun r => bnX (expT W 59 r.2) (fun p1 => .ok (r.1, p1))) := by
          unfold stmT
          rw [if_neg (by omega), if_neg (by rw [hs0]; show ¬ (16 : Int) ≤ S.1 0 1; omega), ebd]
        rw [hx7, bnX_o, hx8, bnX_o] at est
        have hPa : PaC S7 (updC a8 (z + 1) 1 ((n : Int) + 1)) z c7 := P7 _ (fun o o1 o2 o3 => (updC_row (by omega)).trans (ho8.1 o (by omega))) (fun j => by rw [updC_if, ho8.1 _ (by omega)])
        have hfz : FsZ z a0 a8 := G8.1
        exact KK _ _ _ _ est ⟨X8.1.fo (updC_row (by omega)) (updC_row (by omega)) (updC_row (by omega)), hPa.2.1, by rw [updC_row (by omega)]; exact X8.2.2.1, by rw [updC_row (by omega)]; exact X8.2.2.2.1, X8.2.2.2.2⟩ hPa (hfz.t.up (by omega)) (by omega)
      · have B8 := G7.bd X7 (by omega) hb8
        show Ev X _ _ 264 [Vr 114, Vi by0, Vr (z : Int), Vi (i : Int), Vi 1, Vi (n : Int)] [] ((SHv st dr (z : Int)), (ovl a8 s b)) _
        refine Ev.steps (k := 2) (pc' := 268) (L' := [Vr 114, Vi by0, Vr (z : Int), Vi (i : Int), Vi 1, Vi (n : Int)]) (S' := [Vr (z : Int)]) (h' := ((SHv st dr (z : Int)), (ovl a8 s b))) (fun _ => rfl) ?_
        refine Ev.getr (r := ((z : Int) + 1)) rfl rfl (by omega) (shY_0 hz) rfl rfl rfl ?_
        refine Ev.steps (k := 4) (pc' := 277) (L' := [Vr 114, Vi by0, Vr (z : Int), Vi (i : Int), Vi 1, Vi (n : Int)]) (S' := [Vi (w32 ((n : Int) + 1)), Vi 1, Vr ((z : Int) + 1)]) (h' := ((SHv st dr (z : Int)), (ovl a8 s b))) (fun _ => rfl) ?_
        refine Ev.iast (c' := (ovl (updC a8 (z + 1) 1 (w32 ((n : Int) + 1))) s b)) rfl (by omega) (shY_1 hz) (by omega) (by omega) (ovl_wc (by omega)) ?_
        refine Ev.steps (k := 1) (pc' := 281) (L' := [Vr 114, Vi by0, Vr (z : Int), Vi (w32 ((i : Int) + 1)), Vi 1, Vi (n : Int)]) (S' := []) (h' := ((SHv st dr (z : Int)), (ovl (updC a8 (z + 1) 1 (w32 ((n : Int) + 1))) s b))) (fun _ => rfl) ?_
        rw [show (w32 ((i : Int) + 1)) = ((i : Int) + 1) from w32_id (by unfold R32; omega)]
        refine Ev.steps (k := 1) (pc' := 51) (L' := [Vr 114, Vi by0, Vr (z : Int), Vi ((i : Int) + 1), Vi 1, Vi (n : Int)]) (S' := []) (h' := ((SHv st dr (z : Int)), (ovl (updC a8 (z + 1) 1 (w32 ((n : Int) + 1))) s b))) (fun _ => rfl) ?_
        have ebd : bodT W S p0 = dooT W S p0 := by unfold bodT; rw [hs0]; rfl
        have est : stmT W S p0 = bnX (dooT W S p0) (fun r => bnX (expT W 59 r.2) (fun p1 => .ok (r.1, p1))) := by
          unfold stmT
          rw [if_neg (by omega), if_neg (by rw [hs0]; show ¬ (16 : Int) ≤ S.1 0 1; omega), ebd]
        rw [hx7, bnX_o, hx8, bnX_e] at est
        exact (c_reads_br (z := z) (B8.2.2.1.fo (updC_row (by omega))) by0 _ _ _).mono (fun r h' hq => by
          rw [hq.1, hq.2]
          exact KE _ _ est (B8.1.t.up (by omega)) (B8.2.1.fo (updC_row (by omega)) (updC_row (by omega)) (by rw [updC_row (by omega)])) (B8.2.2.1.fo (updC_row (by omega))))
    · skip
      show Ev X _ _ 188 [Vr 114, Vi by0, Vr (z : Int), Vi (i : Int), Vi 1, Vi (n : Int)] [] ((SHv st dr (z : Int)), (ovl a7 s b)) _
      refine Ev.call (k := 3) (pc1 := 261) (L1 := [Vr 114, Vi by0, Vr (z : Int), Vi (i : Int), Vi 1, Vi (n : Int)]) (S1 := [Vi 59, Vr 114]) (h1 := ((SHv st dr (z : Int)), (ovl a7 s b))) (m' := 42) (as := [Vr 114, Vi 59]) (S' := []) (L0 := [Vr 114, Vi 59]) (fun _ => rfl) rfl rfl rfl rfl rfl rfl (c_expect_br B7.2.2.1 59 (by decide)) (fun r h' hq => ?_)
      obtain ⟨rfl, rfl⟩ := hq
      show Ev X _ _ 264 [Vr 114, Vi by0, Vr (z : Int), Vi (i : Int), Vi 1, Vi (n : Int)] [] ((SHv st dr (z : Int)), (ovl a7 s b)) _
      refine Ev.steps (k := 2) (pc' := 268) (L' := [Vr 114, Vi by0, Vr (z : Int), Vi (i : Int), Vi 1, Vi (n : Int)]) (S' := [Vr (z : Int)]) (h' := ((SHv st dr (z : Int)), (ovl a7 s b))) (fun _ => rfl) ?_
      refine Ev.getr (r := ((z : Int) + 1)) rfl rfl (by omega) (shY_0 hz) rfl rfl rfl ?_
      refine Ev.steps (k := 4) (pc' := 277) (L' := [Vr 114, Vi by0, Vr (z : Int), Vi (i : Int), Vi 1, Vi (n : Int)]) (S' := [Vi (w32 ((n : Int) + 1)), Vi 1, Vr ((z : Int) + 1)]) (h' := ((SHv st dr (z : Int)), (ovl a7 s b))) (fun _ => rfl) ?_
      refine Ev.iast (c' := (ovl (updC a7 (z + 1) 1 (w32 ((n : Int) + 1))) s b)) rfl (by omega) (shY_1 hz) (by omega) (by omega) (ovl_wc (by omega)) ?_
      refine Ev.steps (k := 1) (pc' := 281) (L' := [Vr 114, Vi by0, Vr (z : Int), Vi (w32 ((i : Int) + 1)), Vi 1, Vi (n : Int)]) (S' := []) (h' := ((SHv st dr (z : Int)), (ovl (updC a7 (z + 1) 1 (w32 ((n : Int) + 1))) s b))) (fun _ => rfl) ?_
      rw [show (w32 ((i : Int) + 1)) = ((i : Int) + 1) from w32_id (by unfold R32; omega)]
      refine Ev.steps (k := 1) (pc' := 51) (L' := [Vr 114, Vi by0, Vr (z : Int), Vi ((i : Int) + 1), Vi 1, Vi (n : Int)]) (S' := []) (h' := ((SHv st dr (z : Int)), (ovl (updC a7 (z + 1) 1 (w32 ((n : Int) + 1))) s b))) (fun _ => rfl) ?_
      have ebd : bodT W S p0 = dooT W S p0 := by unfold bodT; rw [hs0]; rfl
      have est : stmT W S p0 = bnX (dooT W S p0) (fun r => bnX (expT W 59 r.2) (fun p1 => .ok (r.1, p1))) := by
        unfold stmT
        rw [if_neg (by omega), if_neg (by rw [hs0]; show ¬ (16 : Int) ≤ S.1 0 1; omega), ebd]
      rw [hx7, bnX_e] at est
      exact (c_reads_br (z := z) (B7.2.2.1.fo (updC_row (by omega))) by0 _ _ _).mono (fun r h' hq => by
        rw [hq.1, hq.2]
        exact KE _ _ est (B7.1.t.up (by omega)) (B7.2.1.fo (updC_row (by omega)) (updC_row (by omega)) (by rw [updC_row (by omega)])) (B7.2.2.1.fo (updC_row (by omega))))
theorem c_reads_2 {X : List Int} {st dr : Int} {s b : C3} {W : TXT} {S : STY} {z : Nat} (hz : hyS z) {a0 : C3} {p0 c0 : Nat} (d i : Nat) (by0 : Int) (x4 x5 : pm_V) (X0 : XoC W S.1 z p0 c0 8 a0) (P0 : PaC S a0 z c0) (hWY : WfY S) (hWD : WfD S) (hc0 : c0 ≤ p0) (hi : i < 1200) (hs : srtT (tC W p0) = 2) {Q : Option pm_V → pm_H → Prop} (KE : ∀ e a', stmT W S p0 = .error e → FtZ z a0 a' → BaC W a' → BrC e a' → Q (some (Vi 0)) (SHv st dr (z : Int), ovl a' s b)) (n0 : Nat) (hn1 : S.1 0 2 = (n0 : Int)) (KK : ∀ a' S' p' c', stmT W S p0 = .ok (S', p') → XoC W S'.1 z p' c' 8 a' → PaC S' a' z c' → FtZ z a0 a' → c' ≤ p' → Ev X (d + 401) 22 51 [Vr 114, Vi by0, Vr (z : Int), Vi ((i : Int) + 1), Vi 2, Vi (n0 : Int)] [] (SHv st dr (z : Int), ovl a' s b) Q) : Ev X (d + 401) 22 75 [Vr 114, Vi by0, Vr (z : Int), Vi (i : Int), x4, x5] [] (SHv st dr (z : Int), ovl a0 s b) Q := by
  have hz1 := z11 hz
  have hz0 : z = 2 ∨ z = 58 := hz
  have Q0 := X0.le
  have hsc := srt_c (c := tC W p0)
  have hs0 : srtT (tC W p0) = 2 := hs
  have hC := hWY.2.2.2.2.2.1.1
  have hl := hWY.2.2.2.2.1.1
  obtain ⟨n, hnS⟩ : ∃ n : Nat, S.1 0 2 = (n : Int) := ⟨(S.1 0 2).toNat, by have := hWY.1.2; have := hWY.2.1.1; have := hWY.2.2.1.2; have := hWY.2.2.2.1.2; have := hWY.2.2.2.2.1.2; have := hWY.2.2.2.2.2.1.2; omega⟩
  obtain rfl : n = n0 := by omega
  have hn0 : a0 (z + 1) 2 = (n : Int) := by rw [P0.1 2 (by omega), hnS]
  have hI : ∀ r, r < 8 → S.1 4 (8 * r + r) = 0 := fun r hr => Classical.byContradiction fun g => (hWD r r hr hr g).2.2 rfl
  have G0 : Gs z c0 a0 a0 := ⟨FsZ.rf, rfl⟩
  refine Ev.call (k := 1) (pc1 := 76) (L1 := [Vr 114, Vi by0, Vr (z : Int), Vi (i : Int), x4, x5]) (S1 := [Vr 114]) (h1 := ((SHv st dr (z : Int)), (ovl a0 s b))) (m' := 31) (as := [Vr 114]) (S' := []) (L0 := [Vr 114]) (fun _ => rfl) rfl rfl rfl rfl rfl rfl (c_sortTold X0.1) (fun r h' hq => ?_)
  obtain ⟨rfl, rfl⟩ := hq
  rw [if_neg (by omega)]
  rw [show ((srtT (tC W p0) : Nat) : Int) = 2 by omega]
  show Ev X _ _ 79 [Vr 114, Vi by0, Vr (z : Int), Vi (i : Int), x4, x5] [Vi 2] ((SHv st dr (z : Int)), (ovl a0 s b)) _
  refine Ev.call (k := 7) (pc1 := 93) (L1 := [Vr 114, Vi by0, Vr (z : Int), Vi (i : Int), Vi 2, x5]) (S1 := [Vi 2, Vr (z : Int)]) (h1 := ((SHv st dr (z : Int)), (ovl a0 s b))) (m' := 32) (as := [Vr (z : Int), Vi 2]) (S' := []) (L0 := [Vr (z : Int), Vi 2]) (fun _ => rfl) rfl rfl rfl rfl (stpC_of rfl (pm_recv_of (by omega) (shY_0 hz))) rfl (c_full_2 hz hn0) (fun r h' hq => ?_)
  obtain ⟨rfl, rfl⟩ := hq
  by_cases c93 : 8 ≤ (n : Int)
  · rw [if_pos c93]
    show Ev X _ _ 96 [Vr 114, Vi by0, Vr (z : Int), Vi (i : Int), Vi 2, x5] [Vi 1] ((SHv st dr (z : Int)), (ovl a0 s b)) _
    refine Ev.steps (k := 8) (pc' := 115) (L' := [Vr 114, Vi by0, Vr (z : Int), Vi (i : Int), Vi 2, x5]) (S' := [Vi (a0 114 6), Vi 5, Vr 114]) (h' := ((SHv st dr (z : Int)), (ovl a0 s b))) (fun _ => rfl) ?_
    rw [X0.t6]
    refine Ev.call (k := 0) (pc1 := 115) (L1 := [Vr 114, Vi by0, Vr (z : Int), Vi (i : Int), Vi 2, x5]) (S1 := [Vi ((tA W p0 : Nat) : Int), Vi 5, Vr 114]) (h1 := ((SHv st dr (z : Int)), (ovl a0 s b))) (m' := 29) (as := [Vr 114, Vi 5, Vi ((tA W p0 : Nat) : Int)]) (S' := []) (L0 := [Vr 114, Vi 5, Vi ((tA W p0 : Nat) : Int)]) (fun _ => rfl) rfl rfl rfl rfl rfl rfl (c_fail_t X0.1 5 ((tA W p0 : Nat) : Int) (by decide)) (fun r h' hq => ?_)
    obtain ⟨rfl, a9, rfl, hq⟩ := hq
    rcases hq with hq
    · have hb9 := hq
      have B9 := G0.bd X0 (by omega) hb9
      show Ev X _ _ 118 [Vr 114, Vi by0, Vr (z : Int), Vi (i : Int), Vi 2, x5] [] ((SHv st dr (z : Int)), (ovl a9 s b)) _
      refine Ev.fin (k := 2) (r := (some (Vi 0))) (h' := ((SHv st dr (z : Int)), (ovl a9 s b))) (fun _ => rfl) ?_
      refine KE _ _ ?_ B9.1.t B9.2.1 B9.2.2.1
      unfold stmT
      rw [if_neg (by omega), if_pos (by rw [hs0]; show (8 : Int) ≤ S.1 0 2; omega)]
  · rw [if_neg c93]
    show Ev X _ _ 96 [Vr 114, Vi by0, Vr (z : Int), Vi (i : Int), Vi 2, x5] [Vi 0] ((SHv st dr (z : Int)), (ovl a0 s b)) _
    refine Ev.steps (k := 3) (pc' := 124) (L' := [Vr 114, Vi by0, Vr (z : Int), Vi (i : Int), Vi 2, x5]) (S' := [Vr (z : Int)]) (h' := ((SHv st dr (z : Int)), (ovl a0 s b))) (fun _ => rfl) ?_
    refine Ev.getr (r := ((z : Int) + 1)) rfl rfl (by omega) (shY_0 hz) rfl rfl rfl ?_
    refine Ev.steps (k := 1) (pc' := 129) (L' := [Vr 114, Vi by0, Vr (z : Int), Vi (i : Int), Vi 2, x5]) (S' := [Vi 2, Vr ((z : Int) + 1)]) (h' := ((SHv st dr (z : Int)), (ovl a0 s b))) (fun _ => rfl) ?_
    refine Ev.iald (v := (n : Int)) rfl (by omega) (shY_1 hz) (by omega) (by omega) ((ovl_rc (by omega)).trans (hn0)) ?_
    refine Ev.steps (k := 7) (pc' := 197) (L' := [Vr 114, Vi by0, Vr (z : Int), Vi (i : Int), Vi 2, Vi (n : Int)]) (S' := [Vr (z : Int), Vi 2, Vr 114]) (h' := ((SHv st dr (z : Int)), (ovl a0 s b))) (fun _ => rfl) ?_
    refine Ev.getr (r := ((z : Int) + 6)) rfl rfl (by omega) (shY_0 hz) rfl rfl rfl ?_
    refine Ev.getr (r := ((z : Int) + 7)) rfl rfl (by omega) (shY_6 hz) rfl rfl rfl ?_
    refine Ev.call (k := 0) (pc1 := 203) (L1 := [Vr 114, Vi by0, Vr (z : Int), Vi (i : Int), Vi 2, Vi (n : Int)]) (S1 := [Vr ((z : Int) + 7), Vi 2, Vr 114]) (h1 := ((SHv st dr (z : Int)), (ovl a0 s b))) (m' := 41) (as := [Vr 114, Vi 2, Vr ((z : Int) + 7)]) (S' := []) (L0 := [Vr 114, Vi 2, Vr ((z : Int) + 7), Vx, Vx]) (fun _ => rfl) rfl rfl rfl rfl rfl rfl (c_who hz _ _ _ _ (by omega) X0 P0 hl hC hc0 (by omega) hnS (by omega)) (fun r h' hq => ?_)
    obtain ⟨rfl, a10, rfl, hq⟩ := hq
    rcases hq with ⟨⟨S10, p10⟩, hx10, c10, X10, h10, F10, P10⟩ | ⟨e10, hx10, B10⟩
    · dsimp only at X10 h10 P10
      have G10 : Gs z c10 a0 a10 := ⟨F10, rfl⟩
      have Q10 := X10.le
      show Ev X _ _ 206 [Vr 114, Vi by0, Vr (z : Int), Vi (i : Int), Vi 2, Vi (n : Int)] [] ((SHv st dr (z : Int)), (ovl a10 s b)) _
      refine Ev.call (k := 3) (pc1 := 261) (L1 := [Vr 114, Vi by0, Vr (z : Int), Vi (i : Int), Vi 2, Vi (n : Int)]) (S1 := [Vi 59, Vr 114]) (h1 := ((SHv st dr (z : Int)), (ovl a10 s b))) (m' := 42) (as := [Vr 114, Vi 59]) (S' := []) (L0 := [Vr 114, Vi 59]) (fun _ => rfl) rfl rfl rfl rfl rfl rfl (c_expect X10.1 59) (fun r h' hq => ?_)
      obtain ⟨rfl, a11, rfl, hq⟩ := hq
      rcases hq with ⟨p11, hx11, ho11⟩ | ⟨e11, hx11, hb11⟩
      · have X11 := X10.nx ho11
        have L11 : p10 < p11 := by
          obtain ⟨h1, h2⟩ := exp_ok hx11
          exact X10.lt (by omega) (by unfold expT at hx11; rwa [if_neg (by omega)] at hx11)
        have G11 := G10.tr (ho11.1.gz (c := c10) X10.hz) (by omega)
        have R11 : a11 (z + 11) = a10 (z + 11) := ho11.1 _ (by omega)
        have Q11 := X11.le
        show Ev X _ _ 264 [Vr 114, Vi by0, Vr (z : Int), Vi (i : Int), Vi 2, Vi (n : Int)] [] ((SHv st dr (z : Int)), (ovl a11 s b)) _
        refine Ev.steps (k := 2) (pc' := 268) (L' := [Vr 114, Vi by0, Vr (z : Int), Vi (i : Int), Vi 2, Vi (n : Int)]) (S' := [Vr (z : Int)]) (h' := ((SHv st dr (z : Int)), (ovl a11 s b))) (fun _ => rfl) ?_
        refine Ev.getr (r := ((z : Int) + 1)) rfl rfl (by omega) (shY_0 hz) rfl rfl rfl ?_
        refine Ev.steps (k := 4) (pc' := 277) (L' := [Vr 114, Vi by0, Vr (z : Int), Vi (i : Int), Vi 2, Vi (n : Int)]) (S' := [Vi (w32 ((n : Int) + 1)), Vi 2, Vr ((z : Int) + 1)]) (h' := ((SHv st dr (z : Int)), (ovl a11 s b))) (fun _ => rfl) ?_
        rw [show (w32 ((n : Int) + 1)) = ((n : Int) + 1) from w32_id (by unfold R32; omega)]
        refine Ev.iast (c' := (ovl (updC a11 (z + 1) 2 ((n : Int) + 1)) s b)) rfl (by omega) (shY_1 hz) (by omega) (by omega) (ovl_wc (by omega)) ?_
        refine Ev.steps (k := 1) (pc' := 281) (L' := [Vr 114, Vi by0, Vr (z : Int), Vi (w32 ((i : Int) + 1)), Vi 2, Vi (n : Int)]) (S' := []) (h' := ((SHv st dr (z : Int)), (ovl (updC a11 (z + 1) 2 ((n : Int) + 1)) s b))) (fun _ => rfl) ?_
        rw [show (w32 ((i : Int) + 1)) = ((i : Int) + 1) from w32_id (by unfold R32; omega)]
        refine Ev.steps (k := 1) (pc' := 51) (L' := [Vr 114, Vi by0, Vr (z : Int), Vi ((i : Int) + 1), Vi 2, Vi (n : Int)]) (S' := []) (h' := ((SHv st dr (z : Int)), (ovl (updC a11 (z + 1) 2 ((n : Int) + 1)) s b))) (fun _ => rfl) ?_
        have ebd : bodT W S p0 = whoT W S p0 := by unfold bodT; rw [hs0]; rfl
        have est : stmT W S p0 = bnX (whoT W S p0) (fun r => bnX (expT W 59 r.2) (fun p1 => .ok (r.1, p1))) := by
          unfold stmT
          rw [if_neg (by omega), if_neg (by rw [hs0]; show ¬ (8 : Int) ≤ S.1 0 2; omega), ebd]
        rw [hx10, bnX_o, hx11, bnX_o] at est
        have hPa : PaC S10 (updC a11 (z + 1) 2 ((n : Int) + 1)) z c10 := P10 _ (fun o o1 o2 o3 => (updC_row (by omega)).trans (ho11.1 o (by omega))) (fun j => by rw [updC_if, ho11.1 _ (by omega)])
        have hfz : FsZ z a0 a11 := G11.1
        exact KK _ _ _ _ est ⟨X11.1.fo (updC_row (by omega)) (updC_row (by omega)) (updC_row (by omega)), hPa.2.1, by rw [updC_row (by omega)]; exact X11.2.2.1, by rw [updC_row (by omega)]; exact X11.2.2.2.1, X11.2.2.2.2⟩ hPa (hfz.t.up (by omega)) (by omega)
      · have B11 := G10.bd X10 (by omega) hb11
        show Ev X _ _ 264 [Vr 114, Vi by0, Vr (z : Int), Vi (i : Int), Vi 2, Vi (n : Int)] [] ((SHv st dr (z : Int)), (ovl a11 s b)) _
        refine Ev.steps (k := 2) (pc' := 268) (L' := [Vr 114, Vi by0, Vr (z : Int), Vi (i : Int), Vi 2, Vi (n : Int)]) (S' := [Vr (z : Int)]) (h' := ((SHv st dr (z : Int)), (ovl a11 s b))) (fun _ => rfl) ?_
        refine Ev.getr (r := ((z : Int) + 1)) rfl rfl (by omega) (shY_0 hz) rfl rfl rfl ?_
        refine Ev.steps (k := 4) (pc' := 277) (L' := [Vr 114, Vi by0, Vr (z : Int), Vi (i : Int), Vi 2, Vi (n : Int)]) (S' := [Vi (w32 ((n : Int) + 1)), Vi 2, Vr ((z : Int) + 1)]) (h' := ((SHv st dr (z : Int)), (ovl a11 s b))) (fun _ => rfl) ?_
        refine Ev.iast (c' := (ovl (updC a11 (z + 1) 2 (w32 ((n : Int) + 1))) s b)) rfl (by omega) (shY_1 hz) (by omega) (by omega) (ovl_wc (by omega)) ?_
        refine Ev.steps (k := 1) (pc' := 281) (L' := [Vr 114, Vi by0, Vr (z : Int), Vi (w32 ((i : Int) + 1)), Vi 2, Vi (n : Int)]) (S' := []) (h' := ((SHv st dr (z : Int)), (ovl (updC a11 (z + 1) 2 (w32 ((n : Int) + 1))) s b))) (fun _ => rfl) ?_
        rw [show (w32 ((i : Int) + 1)) = ((i : Int) + 1) from w32_id (by unfold R32; omega)]
        refine Ev.steps (k := 1) (pc' := 51) (L' := [Vr 114, Vi by0, Vr (z : Int), Vi ((i : Int) + 1), Vi 2, Vi (n : Int)]) (S' := []) (h' := ((SHv st dr (z : Int)), (ovl (updC a11 (z + 1) 2 (w32 ((n : Int) + 1))) s b))) (fun _ => rfl) ?_
        have ebd : bodT W S p0 = whoT W S p0 := by unfold bodT; rw [hs0]; rfl
        have est : stmT W S p0 = bnX (whoT W S p0) (fun r => bnX (expT W 59 r.2) (fun p1 => .ok (r.1, p1))) := by
          unfold stmT
          rw [if_neg (by omega), if_neg (by rw [hs0]; show ¬ (8 : Int) ≤ S.1 0 2; omega), ebd]
        rw [hx10, bnX_o, hx11, bnX_e] at est
        exact (c_reads_br (z := z) (B11.2.2.1.fo (updC_row (by omega))) by0 _ _ _).mono (fun r h' hq => by
          rw [hq.1, hq.2]
          exact KE _ _ est (B11.1.t.up (by omega)) (B11.2.1.fo (updC_row (by omega)) (updC_row (by omega)) (by rw [updC_row (by omega)])) (B11.2.2.1.fo (updC_row (by omega))))
    · skip
      show Ev X _ _ 206 [Vr 114, Vi by0, Vr (z : Int), Vi (i : Int), Vi 2, Vi (n : Int)] [] ((SHv st dr (z : Int)), (ovl a10 s b)) _
      refine Ev.call (k := 3) (pc1 := 261) (L1 := [Vr 114, Vi by0, Vr (z : Int), Vi (i : Int), Vi 2, Vi (n : Int)]) (S1 := [Vi 59, Vr 114]) (h1 := ((SHv st dr (z : Int)), (ovl a10 s b))) (m' := 42) (as := [Vr 114, Vi 59]) (S' := []) (L0 := [Vr 114, Vi 59]) (fun _ => rfl) rfl rfl rfl rfl rfl rfl (c_expect_br B10.2.2.1 59 (by decide)) (fun r h' hq => ?_)
      obtain ⟨rfl, rfl⟩ := hq
      show Ev X _ _ 264 [Vr 114, Vi by0, Vr (z : Int), Vi (i : Int), Vi 2, Vi (n : Int)] [] ((SHv st dr (z : Int)), (ovl a10 s b)) _
      refine Ev.steps (k := 2) (pc' := 268) (L' := [Vr 114, Vi by0, Vr (z : Int), Vi (i : Int), Vi 2, Vi (n : Int)]) (S' := [Vr (z : Int)]) (h' := ((SHv st dr (z : Int)), (ovl a10 s b))) (fun _ => rfl) ?_
      refine Ev.getr (r := ((z : Int) + 1)) rfl rfl (by omega) (shY_0 hz) rfl rfl rfl ?_
      refine Ev.steps (k := 4) (pc' := 277) (L' := [Vr 114, Vi by0, Vr (z : Int), Vi (i : Int), Vi 2, Vi (n : Int)]) (S' := [Vi (w32 ((n : Int) + 1)), Vi 2, Vr ((z : Int) + 1)]) (h' := ((SHv st dr (z : Int)), (ovl a10 s b))) (fun _ => rfl) ?_
      refine Ev.iast (c' := (ovl (updC a10 (z + 1) 2 (w32 ((n : Int) + 1))) s b)) rfl (by omega) (shY_1 hz) (by omega) (by omega) (ovl_wc (by omega)) ?_
      refine Ev.steps (k := 1) (pc' := 281) (L' := [Vr 114, Vi by0, Vr (z : Int), Vi (w32 ((i : Int) + 1)), Vi 2, Vi (n : Int)]) (S' := []) (h' := ((SHv st dr (z : Int)), (ovl (updC a10 (z + 1) 2 (w32 ((n : Int) + 1))) s b))) (fun _ => rfl) ?_
      rw [show (w32 ((i : Int) + 1)) = ((i : Int) + 1) from w32_id (by unfold R32; omega)]
      refine Ev.steps (k := 1) (pc' := 51) (L' := [Vr 114, Vi by0, Vr (z : Int), Vi ((i : Int) + 1), Vi 2, Vi (n : Int)]) (S' := []) (h' := ((SHv st dr (z : Int)), (ovl (updC a10 (z + 1) 2 (w32 ((n : Int) + 1))) s b))) (fun _ => rfl) ?_
      have ebd : bodT W S p0 = whoT W S p0 := by unfold bodT; rw [hs0]; rfl
      have est : stmT W S p0 = bnX (whoT W S p0) (fun r => bnX (expT W 59 r.2) (fun p1 => .ok (r.1, p1))) := by
        unfold stmT
        rw [if_neg (by omega), if_neg (by rw [hs0]; show ¬ (8 : Int) ≤ S.1 0 2; omega), ebd]
      rw [hx10, bnX_e] at est
      exact (c_reads_br (z := z) (B10.2.2.1.fo (updC_row (by omega))) by0 _ _ _).mono (fun r h' hq => by
        rw [hq.1, hq.2]
        exact KE _ _ est (B10.1.t.up (by omega)) (B10.2.1.fo (updC_row (by omega)) (updC_row (by omega)) (by rw [updC_row (by omega)])) (B10.2.2.1.fo (updC_row (by omega))))
theorem c_reads_3 {X : List Int} {st dr : Int} {s b : C3} {W : TXT} {S : STY} {z : Nat} (hz : hyS z) {a0 : C3} {p0 c0 : Nat} (d i : Nat) (by0 : Int) (x4 x5 : pm_V) (X0 : XoC W S.1 z p0 c0 8 a0) (P0 : PaC S a0 z c0) (hWY : WfY S) (hWD : WfD S) (hc0 : c0 ≤ p0) (hi : i < 1200) (hs : srtT (tC W p0) = 3) {Q : Option pm_V → pm_H → Prop} (KE : ∀ e a', stmT W S p0 = .error e → FtZ z a0 a' → BaC W a' → BrC e a' → Q (some (Vi 0)) (SHv st dr (z : Int), ovl a' s b)) (n0 : Nat) (hn1 : S.1 0 3 = (n0 : Int)) (KK : ∀ a' S' p' c', stmT W S p0 = .ok (S', p') → XoC W S'.1 z p' c' 8 a' → PaC S' a' z c' → FtZ z a0 a' → c' ≤ p' → Ev X (d + 401) 22 51 [Vr 114, Vi by0, Vr (z : Int), Vi ((i : Int) + 1), Vi 3, Vi (n0 : Int)] [] (SHv st dr (z : Int), ovl a' s b) Q) : Ev X (d + 401) 22 75 [Vr 114, Vi by0, Vr (z : Int), Vi (i : Int), x4, x5] [] (SHv st dr (z : Int), ovl a0 s b) Q := by
  have hz1 := z11 hz
  have hz0 : z = 2 ∨ z = 58 := hz
  have Q0 := X0.le
  have hsc := srt_c (c := tC W p0)
  have hs0 : srtT (tC W p0) = 3 := hs
  have hC := hWY.2.2.2.2.2.1.1
  have hl := hWY.2.2.2.2.1.1
  obtain ⟨n, hnS⟩ : ∃ n : Nat, S.1 0 3 = (n : Int) := ⟨(S.1 0 3).toNat, by have := hWY.1.2; have := hWY.2.1.1; have := hWY.2.2.1.2; have := hWY.2.2.2.1.2; have := hWY.2.2.2.2.1.2; have := hWY.2.2.2.2.2.1.2; omega⟩
  obtain rfl : n = n0 := by omega
  have hn0 : a0 (z + 1) 3 = (n : Int) := by rw [P0.1 3 (by omega), hnS]
  have hI : ∀ r, r < 8 → S.1 4 (8 * r + r) = 0 := fun r hr => Classical.byContradiction fun g => (hWD r r hr hr g).2.2 rfl
  have G0 : Gs z c0 a0 a0 := ⟨FsZ.rf, rfl⟩
  refine Ev.call (k := 1) (pc1 := 76) (L1 := [Vr 114, Vi by0, Vr (z : Int), Vi (i : Int), x4, x5]) (S1 := [Vr 114]) (h1 := ((SHv st dr (z : Int)), (ovl a0 s b))) (m' := 31) (as := [Vr 114]) (S' := []) (L0 := [Vr 114]) (fun _ => rfl) rfl rfl rfl rfl rfl rfl (c_sortTold X0.1) (fun r h' hq => ?_)
  obtain ⟨rfl, rfl⟩ := hq
  rw [if_neg (by omega)]
  rw [show ((srtT (tC W p0) : Nat) : Int) = 3 by omega]
  show Ev X _ _ 79 [Vr 114, Vi by0, Vr (z : Int), Vi (i : Int), x4, x5] [Vi 3] ((SHv st dr (z : Int)), (ovl a0 s b)) _
  refine Ev.call (k := 7) (pc1 := 93) (L1 := [Vr 114, Vi by0, Vr (z : Int), Vi (i : Int), Vi 3, x5]) (S1 := [Vi 3, Vr (z : Int)]) (h1 := ((SHv st dr (z : Int)), (ovl a0 s b))) (m' := 32) (as := [Vr (z : Int), Vi 3]) (S' := []) (L0 := [Vr (z : Int), Vi 3]) (fun _ => rfl) rfl rfl rfl rfl (stpC_of rfl (pm_recv_of (by omega) (shY_0 hz))) rfl (c_full_3 hz hn0) (fun r h' hq => ?_)
  obtain ⟨rfl, rfl⟩ := hq
  by_cases c93 : 8 ≤ (n : Int)
  · rw [if_pos c93]
    show Ev X _ _ 96 [Vr 114, Vi by0, Vr (z : Int), Vi (i : Int), Vi 3, x5] [Vi 1] ((SHv st dr (z : Int)), (ovl a0 s b)) _
    refine Ev.steps (k := 8) (pc' := 115) (L' := [Vr 114, Vi by0, Vr (z : Int), Vi (i : Int), Vi 3, x5]) (S' := [Vi (a0 114 6), Vi 5, Vr 114]) (h' := ((SHv st dr (z : Int)), (ovl a0 s b))) (fun _ => rfl) ?_
    rw [X0.t6]
    refine Ev.call (k := 0) (pc1 := 115) (L1 := [Vr 114, Vi by0, Vr (z : Int), Vi (i : Int), Vi 3, x5]) (S1 := [Vi ((tA W p0 : Nat) : Int), Vi 5, Vr 114]) (h1 := ((SHv st dr (z : Int)), (ovl a0 s b))) (m' := 29) (as := [Vr 114, Vi 5, Vi ((tA W p0 : Nat) : Int)]) (S' := []) (L0 := [Vr 114, Vi 5, Vi ((tA W p0 : Nat) : Int)]) (fun _ => rfl) rfl rfl rfl rfl rfl rfl (c_fail_t X0.1 5 ((tA W p0 : Nat) : Int) (by decide)) (fun r h' hq => ?_)
    obtain ⟨rfl, a12, rfl, hq⟩ := hq
    rcases hq with hq
    · have hb12 := hq
      have B12 := G0.bd X0 (by omega) hb12
      show Ev X _ _ 118 [Vr 114, Vi by0, Vr (z : Int), Vi (i : Int), Vi 3, x5] [] ((SHv st dr (z : Int)), (ovl a12 s b)) _
      refine Ev.fin (k := 2) (r := (some (Vi 0))) (h' := ((SHv st dr (z : Int)), (ovl a12 s b))) (fun _ => rfl) ?_
      refine KE _ _ ?_ B12.1.t B12.2.1 B12.2.2.1
      unfold stmT
      rw [if_neg (by omega), if_pos (by rw [hs0]; show (8 : Int) ≤ S.1 0 3; omega)]
  · rw [if_neg c93]
    show Ev X _ _ 96 [Vr 114, Vi by0, Vr (z : Int), Vi (i : Int), Vi 3, x5] [Vi 0] ((SHv st dr (z : Int)), (ovl a0 s b)) _
    refine Ev.steps (k := 3) (pc' := 124) (L' := [Vr 114, Vi by0, Vr (z : Int), Vi (i : Int), Vi 3, x5]) (S' := [Vr (z : Int)]) (h' := ((SHv st dr (z : Int)), (ovl a0 s b))) (fun _ => rfl) ?_
    refine Ev.getr (r := ((z : Int) + 1)) rfl rfl (by omega) (shY_0 hz) rfl rfl rfl ?_
    refine Ev.steps (k := 1) (pc' := 129) (L' := [Vr 114, Vi by0, Vr (z : Int), Vi (i : Int), Vi 3, x5]) (S' := [Vi 3, Vr ((z : Int) + 1)]) (h' := ((SHv st dr (z : Int)), (ovl a0 s b))) (fun _ => rfl) ?_
    refine Ev.iald (v := (n : Int)) rfl (by omega) (shY_1 hz) (by omega) (by omega) ((ovl_rc (by omega)).trans (hn0)) ?_
    refine Ev.steps (k := 7) (pc' := 215) (L' := [Vr 114, Vi by0, Vr (z : Int), Vi (i : Int), Vi 3, Vi (n : Int)]) (S' := [Vr (z : Int), Vi 3, Vr 114]) (h' := ((SHv st dr (z : Int)), (ovl a0 s b))) (fun _ => rfl) ?_
    refine Ev.getr (r := ((z : Int) + 6)) rfl rfl (by omega) (shY_0 hz) rfl rfl rfl ?_
    refine Ev.getr (r := ((z : Int) + 8)) rfl rfl (by omega) (shY_6 hz) rfl rfl rfl ?_
    refine Ev.call (k := 0) (pc1 := 221) (L1 := [Vr 114, Vi by0, Vr (z : Int), Vi (i : Int), Vi 3, Vi (n : Int)]) (S1 := [Vr ((z : Int) + 8), Vi 3, Vr 114]) (h1 := ((SHv st dr (z : Int)), (ovl a0 s b))) (m' := 41) (as := [Vr 114, Vi 3, Vr ((z : Int) + 8)]) (S' := []) (L0 := [Vr 114, Vi 3, Vr ((z : Int) + 8), Vx, Vx]) (fun _ => rfl) rfl rfl rfl rfl rfl rfl (c_thing hz _ _ _ _ (by omega) X0 P0 hl hC hc0 (by omega) hnS (by omega)) (fun r h' hq => ?_)
    obtain ⟨rfl, a13, rfl, hq⟩ := hq
    rcases hq with ⟨⟨S13, p13⟩, hx13, c13, X13, h13, F13, P13⟩ | ⟨e13, hx13, B13⟩
    · dsimp only at X13 h13 P13
      have G13 : Gs z c13 a0 a13 := ⟨F13, rfl⟩
      have Q13 := X13.le
      show Ev X _ _ 224 [Vr 114, Vi by0, Vr (z : Int), Vi (i : Int), Vi 3, Vi (n : Int)] [] ((SHv st dr (z : Int)), (ovl a13 s b)) _
      refine Ev.call (k := 3) (pc1 := 261) (L1 := [Vr 114, Vi by0, Vr (z : Int), Vi (i : Int), Vi 3, Vi (n : Int)]) (S1 := [Vi 59, Vr 114]) (h1 := ((SHv st dr (z : Int)), (ovl a13 s b))) (m' := 42) (as := [Vr 114, Vi 59]) (S' := []) (L0 := [Vr 114, Vi 59]) (fun _ => rfl) rfl rfl rfl rfl rfl rfl (c_expect X13.1 59) (fun r h' hq => ?_)
      obtain ⟨rfl, a14, rfl, hq⟩ := hq
      rcases hq with ⟨p14, hx14, ho14⟩ | ⟨e14, hx14, hb14⟩
      · have X14 := X13.nx ho14
        have L14 : p13 < p14 := by
          obtain ⟨h1, h2⟩ := exp_ok hx14
          exact X13.lt (by omega) (by unfold expT at hx14; rwa [if_neg (by omega)] at hx14)
        have G14 := G13.tr (ho14.1.gz (c := c13) X13.hz) (by omega)
        have R14 : a14 (z + 11) = a13 (z + 11) := ho14.1 _ (by omega)
        have Q14 := X14.le
        show Ev X _ _ 264 [Vr 114, Vi by0, Vr (z : Int), Vi (i : Int), Vi 3, Vi (n : Int)] [] ((SHv st dr (z : Int)), (ovl a14 s b)) _
        refine Ev.steps (k := 2) (pc' := 268) (L' := [Vr 114, Vi by0, Vr (z : Int), Vi (i : Int), Vi 3, Vi (n : Int)]) (S' := [Vr (z : Int)]) (h' := ((SHv st dr (z : Int)), (ovl a14 s b))) (fun _ => rfl) ?_
        refine Ev.getr (r := ((z : Int) + 1)) rfl rfl (by omega) (shY_0 hz) rfl rfl rfl ?_
        refine Ev.steps (k := 4) (pc' := 277) (L' := [Vr 114, Vi by0, Vr (z : Int), Vi (i : Int), Vi 3, Vi (n : Int)]) (S' := [Vi (w32 ((n : Int) + 1)), Vi 3, Vr ((z : Int) + 1)]) (h' := ((SHv st dr (z : Int)), (ovl a14 s b))) (fun _ => rfl) ?_
        rw [show (w32 ((n : Int) + 1)) = ((n : Int) + 1) from w32_id (by unfold R32; omega)]
        refine Ev.iast (c' := (ovl (updC a14 (z + 1) 3 ((n : Int) + 1)) s b)) rfl (by omega) (shY_1 hz) (by omega) (by omega) (ovl_wc (by omega)) ?_
        refine Ev.steps (k := 1) (pc' := 281) (L' := [Vr 114, Vi by0, Vr (z : Int), Vi (w32 ((i : Int) + 1)), Vi 3, Vi (n : Int)]) (S' := []) (h' := ((SHv st dr (z : Int)), (ovl (updC a14 (z + 1) 3 ((n : Int) + 1)) s b))) (fun _ => rfl) ?_
        rw [show (w32 ((i : Int) + 1)) = ((i : Int) + 1) from w32_id (by unfold R32; omega)]
        refine Ev.steps (k := 1) (pc' := 51) (L' := [Vr 114, Vi by0, Vr (z : Int), Vi ((i : Int) + 1), Vi 3, Vi (n : Int)]) (S' := []) (h' := ((SHv st dr (z : Int)), (ovl (updC a14 (z + 1) 3 ((n : Int) + 1)) s b))) (fun _ => rfl) ?_
        have ebd : bodT W S p0 = thiT W S p0 := by unfold bodT; rw [hs0]; rfl
        have est : stmT W S p0 = bnX (thiT W S p0) (fun r => bnX (expT W 59 r.2) (fun p1 => .ok (r.1, p1))) := by
          unfold stmT
          rw [if_neg (by omega), if_neg (by rw [hs0]; show ¬ (8 : Int) ≤ S.1 0 3; omega), ebd]
        rw [hx13, bnX_o, hx14, bnX_o] at est
        have hPa : PaC S13 (updC a14 (z + 1) 3 ((n : Int) + 1)) z c13 := P13 _ (fun o o1 o2 o3 => (updC_row (by omega)).trans (ho14.1 o (by omega))) (fun j => by rw [updC_if, ho14.1 _ (by omega)])
        have hfz : FsZ z a0 a14 := G14.1
        exact KK _ _ _ _ est ⟨X14.1.fo (updC_row (by omega)) (updC_row (by omega)) (updC_row (by omega)), hPa.2.1, by rw [updC_row (by omega)]; exact X14.2.2.1, by rw [updC_row (by omega)]; exact X14.2.2.2.1, X14.2.2.2.2⟩ hPa (hfz.t.up (by omega)) (by omega)
      · have B14 := G13.bd X13 (by omega) hb14
        show Ev X _ _ 264 [Vr 114, Vi by0, Vr (z : Int), Vi (i : Int), Vi 3, Vi (n : Int)] [] ((SHv st dr (z : Int)), (ovl a14 s b)) _
        refine Ev.steps (k := 2) (pc' := 268) (L' := [Vr 114, Vi by0, Vr (z : Int), Vi (i : Int), Vi 3, Vi (n : Int)]) (S' := [Vr (z : Int)]) (h' := ((SHv st dr (z : Int)), (ovl a14 s b))) (fun _ => rfl) ?_
        refine Ev.getr (r := ((z : Int) + 1)) rfl rfl (by omega) (shY_0 hz) rfl rfl rfl ?_
        refine Ev.steps (k := 4) (pc' := 277) (L' := [Vr 114, Vi by0, Vr (z : Int), Vi (i : Int), Vi 3, Vi (n : Int)]) (S' := [Vi (w32 ((n : Int) + 1)), Vi 3, Vr ((z : Int) + 1)]) (h' := ((SHv st dr (z : Int)), (ovl a14 s b))) (fun _ => rfl) ?_
        refine Ev.iast (c' := (ovl (updC a14 (z + 1) 3 (w32 ((n : Int) + 1))) s b)) rfl (by omega) (shY_1 hz) (by omega) (by omega) (ovl_wc (by omega)) ?_
        refine Ev.steps (k := 1) (pc' := 281) (L' := [Vr 114, Vi by0, Vr (z : Int), Vi (w32 ((i : Int) + 1)), Vi 3, Vi (n : Int)]) (S' := []) (h' := ((SHv st dr (z : Int)), (ovl (updC a14 (z + 1) 3 (w32 ((n : Int) + 1))) s b))) (fun _ => rfl) ?_
        rw [show (w32 ((i : Int) + 1)) = ((i : Int) + 1) from w32_id (by unfold R32; omega)]
        refine Ev.steps (k := 1) (pc' := 51) (L' := [Vr 114, Vi by0, Vr (z : Int), Vi ((i : Int) + 1), Vi 3, Vi (n : Int)]) (S' := []) (h' := ((SHv st dr (z : Int)), (ovl (updC a14 (z + 1) 3 (w32 ((n : Int) + 1))) s b))) (fun _ => rfl) ?_
        have ebd : bodT W S p0 = thiT W S p0 := by unfold bodT; rw [hs0]; rfl
        have est : stmT W S p0 = bnX (thiT W S p0) (fun r => bnX (expT W 59 r.2) (fun p1 => .ok (r.1, p1))) := by
          unfold stmT
          rw [if_neg (by omega), if_neg (by rw [hs0]; show ¬ (8 : Int) ≤ S.1 0 3; omega), ebd]
        rw [hx13, bnX_o, hx14, bnX_e] at est
        exact (c_reads_br (z := z) (B14.2.2.1.fo (updC_row (by omega))) by0 _ _ _).mono (fun r h' hq => by
          rw [hq.1, hq.2]
          exact KE _ _ est (B14.1.t.up (by omega)) (B14.2.1.fo (updC_row (by omega)) (updC_row (by omega)) (by rw [updC_row (by omega)])) (B14.2.2.1.fo (updC_row (by omega))))
    · skip
      show Ev X _ _ 224 [Vr 114, Vi by0, Vr (z : Int), Vi (i : Int), Vi 3, Vi (n : Int)] [] ((SHv st dr (z : Int)), (ovl a13 s b)) _
      refine Ev.call (k := 3) (pc1 := 261) (L1 := [Vr 114, Vi by0, Vr (z : Int), Vi (i : Int), Vi 3, Vi (n : Int)]) (S1 := [Vi 59, Vr 114]) (h1 := ((SHv st dr (z : Int)), (ovl a13 s b))) (m' := 42) (as := [Vr 114, Vi 59]) (S' := []) (L0 := [Vr 114, Vi 59]) (fun _ => rfl) rfl rfl rfl rfl rfl rfl (c_expect_br B13.2.2.1 59 (by decide)) (fun r h' hq => ?_)
      obtain ⟨rfl, rfl⟩ := hq
      show Ev X _ _ 264 [Vr 114, Vi by0, Vr (z : Int), Vi (i : Int), Vi 3, Vi (n : Int)] [] ((SHv st dr (z : Int)), (ovl a13 s b)) _
      refine Ev.steps (k := 2) (pc' := 268) (L' := [Vr 114, Vi by0, Vr (z : Int), Vi (i : Int), Vi 3, Vi (n : Int)]) (S' := [Vr (z : Int)]) (h' := ((SHv st dr (z : Int)), (ovl a13 s b))) (fun _ => rfl) ?_
      refine Ev.getr (r := ((z : Int) + 1)) rfl rfl (by omega) (shY_0 hz) rfl rfl rfl ?_
      refine Ev.steps (k := 4) (pc' := 277) (L' := [Vr 114, Vi by0, Vr (z : Int), Vi (i : Int), Vi 3, Vi (n : Int)]) (S' := [Vi (w32 ((n : Int) + 1)), Vi 3, Vr ((z : Int) + 1)]) (h' := ((SHv st dr (z : Int)), (ovl a13 s b))) (fun _ => rfl) ?_
      refine Ev.iast (c' := (ovl (updC a13 (z + 1) 3 (w32 ((n : Int) + 1))) s b)) rfl (by omega) (shY_1 hz) (by omega) (by omega) (ovl_wc (by omega)) ?_
      refine Ev.steps (k := 1) (pc' := 281) (L' := [Vr 114, Vi by0, Vr (z : Int), Vi (w32 ((i : Int) + 1)), Vi 3, Vi (n : Int)]) (S' := []) (h' := ((SHv st dr (z : Int)), (ovl (updC a13 (z + 1) 3 (w32 ((n : Int) + 1))) s b))) (fun _ => rfl) ?_
      rw [show (w32 ((i : Int) + 1)) = ((i : Int) + 1) from w32_id (by unfold R32; omega)]
      refine Ev.steps (k := 1) (pc' := 51) (L' := [Vr 114, Vi by0, Vr (z : Int), Vi ((i : Int) + 1), Vi 3, Vi (n : Int)]) (S' := []) (h' := ((SHv st dr (z : Int)), (ovl (updC a13 (z + 1) 3 (w32 ((n : Int) + 1))) s b))) (fun _ => rfl) ?_
      have ebd : bodT W S p0 = thiT W S p0 := by unfold bodT; rw [hs0]; rfl
      have est : stmT W S p0 = bnX (thiT W S p0) (fun r => bnX (expT W 59 r.2) (fun p1 => .ok (r.1, p1))) := by
        unfold stmT
        rw [if_neg (by omega), if_neg (by rw [hs0]; show ¬ (8 : Int) ≤ S.1 0 3; omega), ebd]
      rw [hx13, bnX_e] at est
      exact (c_reads_br (z := z) (B13.2.2.1.fo (updC_row (by omega))) by0 _ _ _).mono (fun r h' hq => by
        rw [hq.1, hq.2]
        exact KE _ _ est (B13.1.t.up (by omega)) (B13.2.1.fo (updC_row (by omega)) (updC_row (by omega)) (by rw [updC_row (by omega)])) (B13.2.2.1.fo (updC_row (by omega))))
theorem c_reads_4 {X : List Int} {st dr : Int} {s b : C3} {W : TXT} {S : STY} {z : Nat} (hz : hyS z) {a0 : C3} {p0 c0 : Nat} (d i : Nat) (by0 : Int) (x4 x5 : pm_V) (X0 : XoC W S.1 z p0 c0 8 a0) (P0 : PaC S a0 z c0) (hWY : WfY S) (hWD : WfD S) (hc0 : c0 ≤ p0) (hi : i < 1200) (hs : srtT (tC W p0) = 4) {Q : Option pm_V → pm_H → Prop} (KE : ∀ e a', stmT W S p0 = .error e → FtZ z a0 a' → BaC W a' → BrC e a' → Q (some (Vi 0)) (SHv st dr (z : Int), ovl a' s b)) (n0 : Nat) (hn1 : S.1 0 4 = (n0 : Int)) (KK : ∀ a' S' p' c', stmT W S p0 = .ok (S', p') → XoC W S'.1 z p' c' 8 a' → PaC S' a' z c' → FtZ z a0 a' → c' ≤ p' → Ev X (d + 401) 22 51 [Vr 114, Vi by0, Vr (z : Int), Vi ((i : Int) + 1), Vi 4, Vi (n0 : Int)] [] (SHv st dr (z : Int), ovl a' s b) Q) : Ev X (d + 401) 22 75 [Vr 114, Vi by0, Vr (z : Int), Vi (i : Int), x4, x5] [] (SHv st dr (z : Int), ovl a0 s b) Q := by
  have hz1 := z11 hz
  have hz0 : z = 2 ∨ z = 58 := hz
  have Q0 := X0.le
  have hsc := srt_c (c := tC W p0)
  have hs0 : srtT (tC W p0) = 4 := hs
  have hC := hWY.2.2.2.2.2.1.1
  have hl := hWY.2.2.2.2.1.1
  obtain ⟨n, hnS⟩ : ∃ n : Nat, S.1 0 4 = (n : Int) := ⟨(S.1 0 4).toNat, by have := hWY.1.2; have := hWY.2.1.1; have := hWY.2.2.1.2; have := hWY.2.2.2.1.2; have := hWY.2.2.2.2.1.2; have := hWY.2.2.2.2.2.1.2; omega⟩
  obtain rfl : n = n0 := by omega
  have hn0 : a0 (z + 1) 4 = (n : Int) := by rw [P0.1 4 (by omega), hnS]
  have hI : ∀ r, r < 8 → S.1 4 (8 * r + r) = 0 := fun r hr => Classical.byContradiction fun g => (hWD r r hr hr g).2.2 rfl
  have G0 : Gs z c0 a0 a0 := ⟨FsZ.rf, rfl⟩
  refine Ev.call (k := 1) (pc1 := 76) (L1 := [Vr 114, Vi by0, Vr (z : Int), Vi (i : Int), x4, x5]) (S1 := [Vr 114]) (h1 := ((SHv st dr (z : Int)), (ovl a0 s b))) (m' := 31) (as := [Vr 114]) (S' := []) (L0 := [Vr 114]) (fun _ => rfl) rfl rfl rfl rfl rfl rfl (c_sortTold X0.1) (fun r h' hq => ?_)
  obtain ⟨rfl, rfl⟩ := hq
  rw [if_neg (by omega)]
  rw [show ((srtT (tC W p0) : Nat) : Int) = 4 by omega]
  show Ev X _ _ 79 [Vr 114, Vi by0, Vr (z : Int), Vi (i : Int), x4, x5] [Vi 4] ((SHv st dr (z : Int)), (ovl a0 s b)) _
  refine Ev.call (k := 7) (pc1 := 93) (L1 := [Vr 114, Vi by0, Vr (z : Int), Vi (i : Int), Vi 4, x5]) (S1 := [Vi 4, Vr (z : Int)]) (h1 := ((SHv st dr (z : Int)), (ovl a0 s b))) (m' := 32) (as := [Vr (z : Int), Vi 4]) (S' := []) (L0 := [Vr (z : Int), Vi 4]) (fun _ => rfl) rfl rfl rfl rfl (stpC_of rfl (pm_recv_of (by omega) (shY_0 hz))) rfl (c_full_4 hz hn0) (fun r h' hq => ?_)
  obtain ⟨rfl, rfl⟩ := hq
  by_cases c93 : 30 ≤ (n : Int)
  · rw [if_pos c93]
    show Ev X _ _ 96 [Vr 114, Vi by0, Vr (z : Int), Vi (i : Int), Vi 4, x5] [Vi 1] ((SHv st dr (z : Int)), (ovl a0 s b)) _
    refine Ev.steps (k := 8) (pc' := 115) (L' := [Vr 114, Vi by0, Vr (z : Int), Vi (i : Int), Vi 4, x5]) (S' := [Vi (a0 114 6), Vi 5, Vr 114]) (h' := ((SHv st dr (z : Int)), (ovl a0 s b))) (fun _ => rfl) ?_
    rw [X0.t6]
    refine Ev.call (k := 0) (pc1 := 115) (L1 := [Vr 114, Vi by0, Vr (z : Int), Vi (i : Int), Vi 4, x5]) (S1 := [Vi ((tA W p0 : Nat) : Int), Vi 5, Vr 114]) (h1 := ((SHv st dr (z : Int)), (ovl a0 s b))) (m' := 29) (as := [Vr 114, Vi 5, Vi ((tA W p0 : Nat) : Int)]) (S' := []) (L0 := [Vr 114, Vi 5, Vi ((tA W p0 : Nat) : Int)]) (fun _ => rfl) rfl rfl rfl rfl rfl rfl (c_fail_t X0.1 5 ((tA W p0 : Nat) : Int) (by decide)) (fun r h' hq => ?_)
    obtain ⟨rfl, a15, rfl, hq⟩ := hq
    rcases hq with hq
    · have hb15 := hq
      have B15 := G0.bd X0 (by omega) hb15
      show Ev X _ _ 118 [Vr 114, Vi by0, Vr (z : Int), Vi (i : Int), Vi 4, x5] [] ((SHv st dr (z : Int)), (ovl a15 s b)) _
      refine Ev.fin (k := 2) (r := (some (Vi 0))) (h' := ((SHv st dr (z : Int)), (ovl a15 s b))) (fun _ => rfl) ?_
      refine KE _ _ ?_ B15.1.t B15.2.1 B15.2.2.1
      unfold stmT
      rw [if_neg (by omega), if_pos (by rw [hs0]; show (30 : Int) ≤ S.1 0 4; omega)]
  · rw [if_neg c93]
    show Ev X _ _ 96 [Vr 114, Vi by0, Vr (z : Int), Vi (i : Int), Vi 4, x5] [Vi 0] ((SHv st dr (z : Int)), (ovl a0 s b)) _
    refine Ev.steps (k := 3) (pc' := 124) (L' := [Vr 114, Vi by0, Vr (z : Int), Vi (i : Int), Vi 4, x5]) (S' := [Vr (z : Int)]) (h' := ((SHv st dr (z : Int)), (ovl a0 s b))) (fun _ => rfl) ?_
    refine Ev.getr (r := ((z : Int) + 1)) rfl rfl (by omega) (shY_0 hz) rfl rfl rfl ?_
    refine Ev.steps (k := 1) (pc' := 129) (L' := [Vr 114, Vi by0, Vr (z : Int), Vi (i : Int), Vi 4, x5]) (S' := [Vi 4, Vr ((z : Int) + 1)]) (h' := ((SHv st dr (z : Int)), (ovl a0 s b))) (fun _ => rfl) ?_
    refine Ev.iald (v := (n : Int)) rfl (by omega) (shY_1 hz) (by omega) (by omega) ((ovl_rc (by omega)).trans (hn0)) ?_
    refine Ev.steps (k := 6) (pc' := 249) (L' := [Vr 114, Vi by0, Vr (z : Int), Vi (i : Int), Vi 4, Vi (n : Int)]) (S' := [Vr (z : Int), Vr 114]) (h' := ((SHv st dr (z : Int)), (ovl a0 s b))) (fun _ => rfl) ?_
    refine Ev.getr (r := ((z : Int) + 9)) rfl rfl (by omega) (shY_0 hz) rfl rfl rfl ?_
    refine Ev.steps (k := 1) (pc' := 254) (L' := [Vr 114, Vi by0, Vr (z : Int), Vi (i : Int), Vi 4, Vi (n : Int)]) (S' := [Vi (n : Int), Vr ((z : Int) + 9), Vr 114]) (h' := ((SHv st dr (z : Int)), (ovl a0 s b))) (fun _ => rfl) ?_
    refine Ev.aald (r := ((z + 14 + n : Nat) : Int)) rfl (by omega) (shY_9 hz) rfl (by omega) (by omega) (ruL_at n (by omega)) ?_
    refine Ev.call (k := 0) (pc1 := 255) (L1 := [Vr 114, Vi by0, Vr (z : Int), Vi (i : Int), Vi 4, Vi (n : Int)]) (S1 := [Vr ((z + 14 + n : Nat) : Int), Vr 114]) (h1 := ((SHv st dr (z : Int)), (ovl a0 s b))) (m' := 45) (as := [Vr 114, Vr ((z + 14 + n : Nat) : Int)]) (S' := []) (L0 := [Vr 114, Vr ((z + 14 + n : Nat) : Int)]) (fun _ => rfl) rfl rfl rfl rfl rfl rfl (c_ruled hz _ _ _ _ (by omega) X0 P0 hC hc0 (by omega) (by omega) hnS (by omega)) (fun r h' hq => ?_)
    obtain ⟨rfl, a16, rfl, hq⟩ := hq
    rcases hq with ⟨⟨S16, p16⟩, hx16, c16, X16, h16, F16, P16⟩ | ⟨e16, hx16, B16⟩
    · dsimp only at X16 h16 P16
      have G16 : Gs z c16 a0 a16 := ⟨F16, rfl⟩
      have Q16 := X16.le
      show Ev X _ _ 258 [Vr 114, Vi by0, Vr (z : Int), Vi (i : Int), Vi 4, Vi (n : Int)] [] ((SHv st dr (z : Int)), (ovl a16 s b)) _
      refine Ev.call (k := 2) (pc1 := 261) (L1 := [Vr 114, Vi by0, Vr (z : Int), Vi (i : Int), Vi 4, Vi (n : Int)]) (S1 := [Vi 59, Vr 114]) (h1 := ((SHv st dr (z : Int)), (ovl a16 s b))) (m' := 42) (as := [Vr 114, Vi 59]) (S' := []) (L0 := [Vr 114, Vi 59]) (fun _ => rfl) rfl rfl rfl rfl rfl rfl (c_expect X16.1 59) (fun r h' hq => ?_)
      obtain ⟨rfl, a17, rfl, hq⟩ := hq
      rcases hq with ⟨p17, hx17, ho17⟩ | ⟨e17, hx17, hb17⟩
      · have X17 := X16.nx ho17
        have L17 : p16 < p17 := by
          obtain ⟨h1, h2⟩ := exp_ok hx17
          exact X16.lt (by omega) (by unfold expT at hx17; rwa [if_neg (by omega)] at hx17)
        have G17 := G16.tr (ho17.1.gz (c := c16) X16.hz) (by omega)
        have R17 : a17 (z + 11) = a16 (z + 11) := ho17.1 _ (by omega)
        have Q17 := X17.le
        show Ev X _ _ 264 [Vr 114, Vi by0, Vr (z : Int), Vi (i : Int), Vi 4, Vi (n : Int)] [] ((SHv st dr (z : Int)), (ovl a17 s b)) _
        refine Ev.steps (k := 2) (pc' := 268) (L' := [Vr 114, Vi by0, Vr (z : Int), Vi (i : Int), Vi 4, Vi (n : Int)]) (S' := [Vr (z : Int)]) (h' := ((SHv st dr (z : Int)), (ovl a17 s b))) (fun _ => rfl) ?_
        refine Ev.getr (r := ((z : Int) + 1)) rfl rfl (by omega) (shY_0 hz) rfl rfl rfl ?_
        refine Ev.steps (k := 4) (pc' := 277) (L' := [Vr 114, Vi by0, Vr (z : Int), Vi (i : Int), Vi 4, Vi (n : Int)]) (S' := [Vi (w32 ((n : Int) + 1)), Vi 4, Vr ((z : Int) + 1)]) (h' := ((SHv st dr (z : Int)), (ovl a17 s b))) (fun _ => rfl) ?_
        rw [show (w32 ((n : Int) + 1)) = ((n : Int) + 1) from w32_id (by unfold R32; omega)]
        refine Ev.iast (c' := (ovl (updC a17 (z + 1) 4 ((n : Int) + 1)) s b)) rfl (by omega) (shY_1 hz) (by omega) (by omega) (ovl_wc (by omega)) ?_
        refine Ev.steps (k := 1) (pc' := 281) (L' := [Vr 114, Vi by0, Vr (z : Int), Vi (w32 ((i : Int) + 1)), Vi 4, Vi (n : Int)]) (S' := []) (h' := ((SHv st dr (z : Int)), (ovl (updC a17 (z + 1) 4 ((n : Int) + 1)) s b))) (fun _ => rfl) ?_
        rw [show (w32 ((i : Int) + 1)) = ((i : Int) + 1) from w32_id (by unfold R32; omega)]
        refine Ev.steps (k := 1) (pc' := 51) (L' := [Vr 114, Vi by0, Vr (z : Int), Vi ((i : Int) + 1), Vi 4, Vi (n : Int)]) (S' := []) (h' := ((SHv st dr (z : Int)), (ovl (updC a17 (z + 1) 4 ((n : Int) + 1)) s b))) (fun _ => rfl) ?_
        have ebd : bodT W S p0 = rulT W S p0 := by unfold bodT; rw [hs0]; rfl
        have est : stmT W S p0 = bnX (rulT W S p0) (fun r => bnX (expT W 59 r.2) (fun p1 => .ok (r.1, p1))) := by
          unfold stmT
          rw [if_neg (by omega), if_neg (by rw [hs0]; show ¬ (30 : Int) ≤ S.1 0 4; omega), ebd]
        rw [hx16, bnX_o, hx17, bnX_o] at est
        have hPa : PaC S16 (updC a17 (z + 1) 4 ((n : Int) + 1)) z c16 := P16 _ (fun o o1 o2 o3 => (updC_row (by omega)).trans (ho17.1 o (by omega))) (fun j => by rw [updC_if, ho17.1 _ (by omega)])
        have hfz : FsZ z a0 a17 := G17.1
        exact KK _ _ _ _ est ⟨X17.1.fo (updC_row (by omega)) (updC_row (by omega)) (updC_row (by omega)), hPa.2.1, by rw [updC_row (by omega)]; exact X17.2.2.1, by rw [updC_row (by omega)]; exact X17.2.2.2.1, X17.2.2.2.2⟩ hPa (hfz.t.up (by omega)) (by omega)
      · have B17 := G16.bd X16 (by omega) hb17
        show Ev X _ _ 264 [Vr 114, Vi by0, Vr (z : Int), Vi (i : Int), Vi 4, Vi (n : Int)] [] ((SHv st dr (z : Int)), (ovl a17 s b)) _
        refine Ev.steps (k := 2) (pc' := 268) (L' := [Vr 114, Vi by0, Vr (z : Int), Vi (i : Int), Vi 4, Vi (n : Int)]) (S' := [Vr (z : Int)]) (h' := ((SHv st dr (z : Int)), (ovl a17 s b))) (fun _ => rfl) ?_
        refine Ev.getr (r := ((z : Int) + 1)) rfl rfl (by omega) (shY_0 hz) rfl rfl rfl ?_
        refine Ev.steps (k := 4) (pc' := 277) (L' := [Vr 114, Vi by0, Vr (z : Int), Vi (i : Int), Vi 4, Vi (n : Int)]) (S' := [Vi (w32 ((n : Int) + 1)), Vi 4, Vr ((z : Int) + 1)]) (h' := ((SHv st dr (z : Int)), (ovl a17 s b))) (fun _ => rfl) ?_
        refine Ev.iast (c' := (ovl (updC a17 (z + 1) 4 (w32 ((n : Int) + 1))) s b)) rfl (by omega) (shY_1 hz) (by omega) (by omega) (ovl_wc (by omega)) ?_
        refine Ev.steps (k := 1) (pc' := 281) (L' := [Vr 114, Vi by0, Vr (z : Int), Vi (w32 ((i : Int) + 1)), Vi 4, Vi (n : Int)]) (S' := []) (h' := ((SHv st dr (z : Int)), (ovl (updC a17 (z + 1) 4 (w32 ((n : Int) + 1))) s b))) (fun _ => rfl) ?_
        rw [show (w32 ((i : Int) + 1)) = ((i : Int) + 1) from w32_id (by unfold R32; omega)]
        refine Ev.steps (k := 1) (pc' := 51) (L' := [Vr 114, Vi by0, Vr (z : Int), Vi ((i : Int) + 1), Vi 4, Vi (n : Int)]) (S' := []) (h' := ((SHv st dr (z : Int)), (ovl (updC a17 (z + 1) 4 (w32 ((n : Int) + 1))) s b))) (fun _ => rfl) ?_
        have ebd : bodT W S p0 = rulT W S p0 := by unfold bodT; rw [hs0]; rfl
        have est : stmT W S p0 = bnX (rulT W S p0) (fun r => bnX (expT W 59 r.2) (fun p1 => .ok (r.1, p1))) := by
          unfold stmT
          rw [if_neg (by omega), if_neg (by rw [hs0]; show ¬ (30 : Int) ≤ S.1 0 4; omega), ebd]
        rw [hx16, bnX_o, hx17, bnX_e] at est
        exact (c_reads_br (z := z) (B17.2.2.1.fo (updC_row (by omega))) by0 _ _ _).mono (fun r h' hq => by
          rw [hq.1, hq.2]
          exact KE _ _ est (B17.1.t.up (by omega)) (B17.2.1.fo (updC_row (by omega)) (updC_row (by omega)) (by rw [updC_row (by omega)])) (B17.2.2.1.fo (updC_row (by omega))))
    · skip
      show Ev X _ _ 258 [Vr 114, Vi by0, Vr (z : Int), Vi (i : Int), Vi 4, Vi (n : Int)] [] ((SHv st dr (z : Int)), (ovl a16 s b)) _
      refine Ev.call (k := 2) (pc1 := 261) (L1 := [Vr 114, Vi by0, Vr (z : Int), Vi (i : Int), Vi 4, Vi (n : Int)]) (S1 := [Vi 59, Vr 114]) (h1 := ((SHv st dr (z : Int)), (ovl a16 s b))) (m' := 42) (as := [Vr 114, Vi 59]) (S' := []) (L0 := [Vr 114, Vi 59]) (fun _ => rfl) rfl rfl rfl rfl rfl rfl (c_expect_br B16.2.2.1 59 (by decide)) (fun r h' hq => ?_)
      obtain ⟨rfl, rfl⟩ := hq
      show Ev X _ _ 264 [Vr 114, Vi by0, Vr (z : Int), Vi (i : Int), Vi 4, Vi (n : Int)] [] ((SHv st dr (z : Int)), (ovl a16 s b)) _
      refine Ev.steps (k := 2) (pc' := 268) (L' := [Vr 114, Vi by0, Vr (z : Int), Vi (i : Int), Vi 4, Vi (n : Int)]) (S' := [Vr (z : Int)]) (h' := ((SHv st dr (z : Int)), (ovl a16 s b))) (fun _ => rfl) ?_
      refine Ev.getr (r := ((z : Int) + 1)) rfl rfl (by omega) (shY_0 hz) rfl rfl rfl ?_
      refine Ev.steps (k := 4) (pc' := 277) (L' := [Vr 114, Vi by0, Vr (z : Int), Vi (i : Int), Vi 4, Vi (n : Int)]) (S' := [Vi (w32 ((n : Int) + 1)), Vi 4, Vr ((z : Int) + 1)]) (h' := ((SHv st dr (z : Int)), (ovl a16 s b))) (fun _ => rfl) ?_
      refine Ev.iast (c' := (ovl (updC a16 (z + 1) 4 (w32 ((n : Int) + 1))) s b)) rfl (by omega) (shY_1 hz) (by omega) (by omega) (ovl_wc (by omega)) ?_
      refine Ev.steps (k := 1) (pc' := 281) (L' := [Vr 114, Vi by0, Vr (z : Int), Vi (w32 ((i : Int) + 1)), Vi 4, Vi (n : Int)]) (S' := []) (h' := ((SHv st dr (z : Int)), (ovl (updC a16 (z + 1) 4 (w32 ((n : Int) + 1))) s b))) (fun _ => rfl) ?_
      rw [show (w32 ((i : Int) + 1)) = ((i : Int) + 1) from w32_id (by unfold R32; omega)]
      refine Ev.steps (k := 1) (pc' := 51) (L' := [Vr 114, Vi by0, Vr (z : Int), Vi ((i : Int) + 1), Vi 4, Vi (n : Int)]) (S' := []) (h' := ((SHv st dr (z : Int)), (ovl (updC a16 (z + 1) 4 (w32 ((n : Int) + 1))) s b))) (fun _ => rfl) ?_
      have ebd : bodT W S p0 = rulT W S p0 := by unfold bodT; rw [hs0]; rfl
      have est : stmT W S p0 = bnX (rulT W S p0) (fun r => bnX (expT W 59 r.2) (fun p1 => .ok (r.1, p1))) := by
        unfold stmT
        rw [if_neg (by omega), if_neg (by rw [hs0]; show ¬ (30 : Int) ≤ S.1 0 4; omega), ebd]
      rw [hx16, bnX_e] at est
      exact (c_reads_br (z := z) (B16.2.2.1.fo (updC_row (by omega))) by0 _ _ _).mono (fun r h' hq => by
        rw [hq.1, hq.2]
        exact KE _ _ est (B16.1.t.up (by omega)) (B16.2.1.fo (updC_row (by omega)) (updC_row (by omega)) (by rw [updC_row (by omega)])) (B16.2.2.1.fo (updC_row (by omega))))
theorem c_reads_5 {X : List Int} {st dr : Int} {s b : C3} {W : TXT} {S : STY} {z : Nat} (hz : hyS z) {a0 : C3} {p0 c0 : Nat} (d i : Nat) (by0 : Int) (x4 x5 : pm_V) (X0 : XoC W S.1 z p0 c0 8 a0) (P0 : PaC S a0 z c0) (hWY : WfY S) (hWD : WfD S) (hc0 : c0 ≤ p0) (hi : i < 1200) (hs : srtT (tC W p0) = 5) {Q : Option pm_V → pm_H → Prop} (KE : ∀ e a', stmT W S p0 = .error e → FtZ z a0 a' → BaC W a' → BrC e a' → Q (some (Vi 0)) (SHv st dr (z : Int), ovl a' s b)) (n0 : Nat) (hn1 : S.1 0 5 = (n0 : Int)) (KK : ∀ a' S' p' c', stmT W S p0 = .ok (S', p') → XoC W S'.1 z p' c' 8 a' → PaC S' a' z c' → FtZ z a0 a' → c' ≤ p' → Ev X (d + 401) 22 51 [Vr 114, Vi by0, Vr (z : Int), Vi ((i : Int) + 1), Vi 5, Vi (n0 : Int)] [] (SHv st dr (z : Int), ovl a' s b) Q) : Ev X (d + 401) 22 75 [Vr 114, Vi by0, Vr (z : Int), Vi (i : Int), x4, x5] [] (SHv st dr (z : Int), ovl a0 s b) Q := by
  have hz1 := z11 hz
  have hz0 : z = 2 ∨ z = 58 := hz
  have Q0 := X0.le
  have hsc := srt_c (c := tC W p0)
  have hs0 : srtT (tC W p0) = 5 := hs
  have hC := hWY.2.2.2.2.2.1.1
  have hl := hWY.2.2.2.2.1.1
  obtain ⟨n, hnS⟩ : ∃ n : Nat, S.1 0 5 = (n : Int) := ⟨(S.1 0 5).toNat, by have := hWY.1.2; have := hWY.2.1.1; have := hWY.2.2.1.2; have := hWY.2.2.2.1.2; have := hWY.2.2.2.2.1.2; have := hWY.2.2.2.2.2.1.2; omega⟩
  obtain rfl : n = n0 := by omega
  have hn0 : a0 (z + 1) 5 = (n : Int) := by rw [P0.1 5 (by omega), hnS]
  have hI : ∀ r, r < 8 → S.1 4 (8 * r + r) = 0 := fun r hr => Classical.byContradiction fun g => (hWD r r hr hr g).2.2 rfl
  have G0 : Gs z c0 a0 a0 := ⟨FsZ.rf, rfl⟩
  refine Ev.call (k := 1) (pc1 := 76) (L1 := [Vr 114, Vi by0, Vr (z : Int), Vi (i : Int), x4, x5]) (S1 := [Vr 114]) (h1 := ((SHv st dr (z : Int)), (ovl a0 s b))) (m' := 31) (as := [Vr 114]) (S' := []) (L0 := [Vr 114]) (fun _ => rfl) rfl rfl rfl rfl rfl rfl (c_sortTold X0.1) (fun r h' hq => ?_)
  obtain ⟨rfl, rfl⟩ := hq
  rw [if_neg (by omega)]
  rw [show ((srtT (tC W p0) : Nat) : Int) = 5 by omega]
  show Ev X _ _ 79 [Vr 114, Vi by0, Vr (z : Int), Vi (i : Int), x4, x5] [Vi 5] ((SHv st dr (z : Int)), (ovl a0 s b)) _
  refine Ev.call (k := 7) (pc1 := 93) (L1 := [Vr 114, Vi by0, Vr (z : Int), Vi (i : Int), Vi 5, x5]) (S1 := [Vi 5, Vr (z : Int)]) (h1 := ((SHv st dr (z : Int)), (ovl a0 s b))) (m' := 32) (as := [Vr (z : Int), Vi 5]) (S' := []) (L0 := [Vr (z : Int), Vi 5]) (fun _ => rfl) rfl rfl rfl rfl (stpC_of rfl (pm_recv_of (by omega) (shY_0 hz))) rfl (c_full_5 hz hn0) (fun r h' hq => ?_)
  obtain ⟨rfl, rfl⟩ := hq
  by_cases c93 : 12 ≤ (n : Int)
  · rw [if_pos c93]
    show Ev X _ _ 96 [Vr 114, Vi by0, Vr (z : Int), Vi (i : Int), Vi 5, x5] [Vi 1] ((SHv st dr (z : Int)), (ovl a0 s b)) _
    refine Ev.steps (k := 8) (pc' := 115) (L' := [Vr 114, Vi by0, Vr (z : Int), Vi (i : Int), Vi 5, x5]) (S' := [Vi (a0 114 6), Vi 5, Vr 114]) (h' := ((SHv st dr (z : Int)), (ovl a0 s b))) (fun _ => rfl) ?_
    rw [X0.t6]
    refine Ev.call (k := 0) (pc1 := 115) (L1 := [Vr 114, Vi by0, Vr (z : Int), Vi (i : Int), Vi 5, x5]) (S1 := [Vi ((tA W p0 : Nat) : Int), Vi 5, Vr 114]) (h1 := ((SHv st dr (z : Int)), (ovl a0 s b))) (m' := 29) (as := [Vr 114, Vi 5, Vi ((tA W p0 : Nat) : Int)]) (S' := []) (L0 := [Vr 114, Vi 5, Vi ((tA W p0 : Nat) : Int)]) (fun _ => rfl) rfl rfl rfl rfl rfl rfl (c_fail_t X0.1 5 ((tA W p0 : Nat) : Int) (by decide)) (fun r h' hq => ?_)
    obtain ⟨rfl, a18, rfl, hq⟩ := hq
    rcases hq with hq
    · have hb18 := hq
      have B18 := G0.bd X0 (by omega) hb18
      show Ev X _ _ 118 [Vr 114, Vi by0, Vr (z : Int), Vi (i : Int), Vi 5, x5] [] ((SHv st dr (z : Int)), (ovl a18 s b)) _
      refine Ev.fin (k := 2) (r := (some (Vi 0))) (h' := ((SHv st dr (z : Int)), (ovl a18 s b))) (fun _ => rfl) ?_
      refine KE _ _ ?_ B18.1.t B18.2.1 B18.2.2.1
      unfold stmT
      rw [if_neg (by omega), if_pos (by rw [hs0]; show (12 : Int) ≤ S.1 0 5; omega)]
  · rw [if_neg c93]
    show Ev X _ _ 96 [Vr 114, Vi by0, Vr (z : Int), Vi (i : Int), Vi 5, x5] [Vi 0] ((SHv st dr (z : Int)), (ovl a0 s b)) _
    refine Ev.steps (k := 3) (pc' := 124) (L' := [Vr 114, Vi by0, Vr (z : Int), Vi (i : Int), Vi 5, x5]) (S' := [Vr (z : Int)]) (h' := ((SHv st dr (z : Int)), (ovl a0 s b))) (fun _ => rfl) ?_
    refine Ev.getr (r := ((z : Int) + 1)) rfl rfl (by omega) (shY_0 hz) rfl rfl rfl ?_
    refine Ev.steps (k := 1) (pc' := 129) (L' := [Vr 114, Vi by0, Vr (z : Int), Vi (i : Int), Vi 5, x5]) (S' := [Vi 5, Vr ((z : Int) + 1)]) (h' := ((SHv st dr (z : Int)), (ovl a0 s b))) (fun _ => rfl) ?_
    refine Ev.iald (v := (n : Int)) rfl (by omega) (shY_1 hz) (by omega) (by omega) ((ovl_rc (by omega)).trans (hn0)) ?_
    refine Ev.steps (k := 6) (pc' := 232) (L' := [Vr 114, Vi by0, Vr (z : Int), Vi (i : Int), Vi 5, Vi (n : Int)]) (S' := [Vr (z : Int), Vr 114]) (h' := ((SHv st dr (z : Int)), (ovl a0 s b))) (fun _ => rfl) ?_
    refine Ev.getr (r := ((z : Int) + 10)) rfl rfl (by omega) (shY_0 hz) rfl rfl rfl ?_
    refine Ev.steps (k := 1) (pc' := 237) (L' := [Vr 114, Vi by0, Vr (z : Int), Vi (i : Int), Vi 5, Vi (n : Int)]) (S' := [Vi (n : Int), Vr ((z : Int) + 10), Vr 114]) (h' := ((SHv st dr (z : Int)), (ovl a0 s b))) (fun _ => rfl) ?_
    refine Ev.aald (r := ((z + 44 + n : Nat) : Int)) rfl (by omega) (shY_10 hz) rfl (by omega) (by omega) (clL_at n (by omega)) ?_
    refine Ev.call (k := 0) (pc1 := 238) (L1 := [Vr 114, Vi by0, Vr (z : Int), Vi (i : Int), Vi 5, Vi (n : Int)]) (S1 := [Vr ((z + 44 + n : Nat) : Int), Vr 114]) (h1 := ((SHv st dr (z : Int)), (ovl a0 s b))) (m' := 43) (as := [Vr 114, Vr ((z + 44 + n : Nat) : Int)]) (S' := []) (L0 := [Vr 114, Vr ((z + 44 + n : Nat) : Int)]) (fun _ => rfl) rfl rfl rfl rfl rfl rfl (c_claimed hz _ _ _ _ (by omega) X0 P0 hl hc0 (by omega) hnS (by omega)) (fun r h' hq => ?_)
    obtain ⟨rfl, a19, rfl, hq⟩ := hq
    rcases hq with ⟨⟨S19, p19⟩, hx19, c19, X19, h19, F19, P19⟩ | ⟨e19, hx19, B19⟩
    · dsimp only at X19 h19 P19
      have G19 : Gs z c19 a0 a19 := ⟨F19, rfl⟩
      have Q19 := X19.le
      show Ev X _ _ 241 [Vr 114, Vi by0, Vr (z : Int), Vi (i : Int), Vi 5, Vi (n : Int)] [] ((SHv st dr (z : Int)), (ovl a19 s b)) _
      refine Ev.call (k := 3) (pc1 := 261) (L1 := [Vr 114, Vi by0, Vr (z : Int), Vi (i : Int), Vi 5, Vi (n : Int)]) (S1 := [Vi 59, Vr 114]) (h1 := ((SHv st dr (z : Int)), (ovl a19 s b))) (m' := 42) (as := [Vr 114, Vi 59]) (S' := []) (L0 := [Vr 114, Vi 59]) (fun _ => rfl) rfl rfl rfl rfl rfl rfl (c_expect X19.1 59) (fun r h' hq => ?_)
      obtain ⟨rfl, a20, rfl, hq⟩ := hq
      rcases hq with ⟨p20, hx20, ho20⟩ | ⟨e20, hx20, hb20⟩
      · have X20 := X19.nx ho20
        have L20 : p19 < p20 := by
          obtain ⟨h1, h2⟩ := exp_ok hx20
          exact X19.lt (by omega) (by unfold expT at hx20; rwa [if_neg (by omega)] at hx20)
        have G20 := G19.tr (ho20.1.gz (c := c19) X19.hz) (by omega)
        have R20 : a20 (z + 11) = a19 (z + 11) := ho20.1 _ (by omega)
        have Q20 := X20.le
        show Ev X _ _ 264 [Vr 114, Vi by0, Vr (z : Int), Vi (i : Int), Vi 5, Vi (n : Int)] [] ((SHv st dr (z : Int)), (ovl a20 s b)) _
        refine Ev.steps (k := 2) (pc' := 268) (L' := [Vr 114, Vi by0, Vr (z : Int), Vi (i : Int), Vi 5, Vi (n : Int)]) (S' := [Vr (z : Int)]) (h' := ((SHv st dr (z : Int)), (ovl a20 s b))) (fun _ => rfl) ?_
        refine Ev.getr (r := ((z : Int) + 1)) rfl rfl (by omega) (shY_0 hz) rfl rfl rfl ?_
        refine Ev.steps (k := 4) (pc' := 277) (L' := [Vr 114, Vi by0, Vr (z : Int), Vi (i : Int), Vi 5, Vi (n : Int)]) (S' := [Vi (w32 ((n : Int) + 1)), Vi 5, Vr ((z : Int) + 1)]) (h' := ((SHv st dr (z : Int)), (ovl a20 s b))) (fun _ => rfl) ?_
        rw [show (w32 ((n : Int) + 1)) = ((n : Int) + 1) from w32_id (by unfold R32; omega)]
        refine Ev.iast (c' := (ovl (updC a20 (z + 1) 5 ((n : Int) + 1)) s b)) rfl (by omega) (shY_1 hz) (by omega) (by omega) (ovl_wc (by omega)) ?_
        refine Ev.steps (k := 1) (pc' := 281) (L' := [Vr 114, Vi by0, Vr (z : Int), Vi (w32 ((i : Int) + 1)), Vi 5, Vi (n : Int)]) (S' := []) (h' := ((SHv st dr (z : Int)), (ovl (updC a20 (z + 1) 5 ((n : Int) + 1)) s b))) (fun _ => rfl) ?_
        rw [show (w32 ((i : Int) + 1)) = ((i : Int) + 1) from w32_id (by unfold R32; omega)]
        refine Ev.steps (k := 1) (pc' := 51) (L' := [Vr 114, Vi by0, Vr (z : Int), Vi ((i : Int) + 1), Vi 5, Vi (n : Int)]) (S' := []) (h' := ((SHv st dr (z : Int)), (ovl (updC a20 (z + 1) 5 ((n : Int) + 1)) s b))) (fun _ => rfl) ?_
        have ebd : bodT W S p0 = sayT W S p0 := by unfold bodT; rw [hs0]; rfl
        have est : stmT W S p0 = bnX (sayT W S p0) (fun r => bnX (expT W 59 r.2) (fun p1 => .ok (r.1, p1))) := by
          unfold stmT
          rw [if_neg (by omega), if_neg (by rw [hs0]; show ¬ (12 : Int) ≤ S.1 0 5; omega), ebd]
        rw [hx19, bnX_o, hx20, bnX_o] at est
        have hPa : PaC S19 (updC a20 (z + 1) 5 ((n : Int) + 1)) z c19 := P19 _ (fun o o1 o2 o3 => (updC_row (by omega)).trans (ho20.1 o (by omega))) (fun j => by rw [updC_if, ho20.1 _ (by omega)])
        have hfz : FsZ z a0 a20 := G20.1
        exact KK _ _ _ _ est ⟨X20.1.fo (updC_row (by omega)) (updC_row (by omega)) (updC_row (by omega)), hPa.2.1, by rw [updC_row (by omega)]; exact X20.2.2.1, by rw [updC_row (by omega)]; exact X20.2.2.2.1, X20.2.2.2.2⟩ hPa (hfz.t.up (by omega)) (by omega)
      · have B20 := G19.bd X19 (by omega) hb20
        show Ev X _ _ 264 [Vr 114, Vi by0, Vr (z : Int), Vi (i : Int), Vi 5, Vi (n : Int)] [] ((SHv st dr (z : Int)), (ovl a20 s b)) _
        refine Ev.steps (k := 2) (pc' := 268) (L' := [Vr 114, Vi by0, Vr (z : Int), Vi (i : Int), Vi 5, Vi (n : Int)]) (S' := [Vr (z : Int)]) (h' := ((SHv st dr (z : Int)), (ovl a20 s b))) (fun _ => rfl) ?_
        refine Ev.getr (r := ((z : Int) + 1)) rfl rfl (by omega) (shY_0 hz) rfl rfl rfl ?_
        refine Ev.steps (k := 4) (pc' := 277) (L' := [Vr 114, Vi by0, Vr (z : Int), Vi (i : Int), Vi 5, Vi (n : Int)]) (S' := [Vi (w32 ((n : Int) + 1)), Vi 5, Vr ((z : Int) + 1)]) (h' := ((SHv st dr (z : Int)), (ovl a20 s b))) (fun _ => rfl) ?_
        refine Ev.iast (c' := (ovl (updC a20 (z + 1) 5 (w32 ((n : Int) + 1))) s b)) rfl (by omega) (shY_1 hz) (by omega) (by omega) (ovl_wc (by omega)) ?_
        refine Ev.steps (k := 1) (pc' := 281) (L' := [Vr 114, Vi by0, Vr (z : Int), Vi (w32 ((i : Int) + 1)), Vi 5, Vi (n : Int)]) (S' := []) (h' := ((SHv st dr (z : Int)), (ovl (updC a20 (z + 1) 5 (w32 ((n : Int) + 1))) s b))) (fun _ => rfl) ?_
        rw [show (w32 ((i : Int) + 1)) = ((i : Int) + 1) from w32_id (by unfold R32; omega)]
        refine Ev.steps (k := 1) (pc' := 51) (L' := [Vr 114, Vi by0, Vr (z : Int), Vi ((i : Int) + 1), Vi 5, Vi (n : Int)]) (S' := []) (h' := ((SHv st dr (z : Int)), (ovl (updC a20 (z + 1) 5 (w32 ((n : Int) + 1))) s b))) (fun _ => rfl) ?_
        have ebd : bodT W S p0 = sayT W S p0 := by unfold bodT; rw [hs0]; rfl
        have est : stmT W S p0 = bnX (sayT W S p0) (fun r => bnX (expT W 59 r.2) (fun p1 => .ok (r.1, p1))) := by
          unfold stmT
          rw [if_neg (by omega), if_neg (by rw [hs0]; show ¬ (12 : Int) ≤ S.1 0 5; omega), ebd]
        rw [hx19, bnX_o, hx20, bnX_e] at est
        exact (c_reads_br (z := z) (B20.2.2.1.fo (updC_row (by omega))) by0 _ _ _).mono (fun r h' hq => by
          rw [hq.1, hq.2]
          exact KE _ _ est (B20.1.t.up (by omega)) (B20.2.1.fo (updC_row (by omega)) (updC_row (by omega)) (by rw [updC_row (by omega)])) (B20.2.2.1.fo (updC_row (by omega))))
    · skip
      show Ev X _ _ 241 [Vr 114, Vi by0, Vr (z : Int), Vi (i : Int), Vi 5, Vi (n : Int)] [] ((SHv st dr (z : Int)), (ovl a19 s b)) _
      refine Ev.call (k := 3) (pc1 := 261) (L1 := [Vr 114, Vi by0, Vr (z : Int), Vi (i : Int), Vi 5, Vi (n : Int)]) (S1 := [Vi 59, Vr 114]) (h1 := ((SHv st dr (z : Int)), (ovl a19 s b))) (m' := 42) (as := [Vr 114, Vi 59]) (S' := []) (L0 := [Vr 114, Vi 59]) (fun _ => rfl) rfl rfl rfl rfl rfl rfl (c_expect_br B19.2.2.1 59 (by decide)) (fun r h' hq => ?_)
      obtain ⟨rfl, rfl⟩ := hq
      show Ev X _ _ 264 [Vr 114, Vi by0, Vr (z : Int), Vi (i : Int), Vi 5, Vi (n : Int)] [] ((SHv st dr (z : Int)), (ovl a19 s b)) _
      refine Ev.steps (k := 2) (pc' := 268) (L' := [Vr 114, Vi by0, Vr (z : Int), Vi (i : Int), Vi 5, Vi (n : Int)]) (S' := [Vr (z : Int)]) (h' := ((SHv st dr (z : Int)), (ovl a19 s b))) (fun _ => rfl) ?_
      refine Ev.getr (r := ((z : Int) + 1)) rfl rfl (by omega) (shY_0 hz) rfl rfl rfl ?_
      refine Ev.steps (k := 4) (pc' := 277) (L' := [Vr 114, Vi by0, Vr (z : Int), Vi (i : Int), Vi 5, Vi (n : Int)]) (S' := [Vi (w32 ((n : Int) + 1)), Vi 5, Vr ((z : Int) + 1)]) (h' := ((SHv st dr (z : Int)), (ovl a19 s b))) (fun _ => rfl) ?_
      refine Ev.iast (c' := (ovl (updC a19 (z + 1) 5 (w32 ((n : Int) + 1))) s b)) rfl (by omega) (shY_1 hz) (by omega) (by omega) (ovl_wc (by omega)) ?_
      refine Ev.steps (k := 1) (pc' := 281) (L' := [Vr 114, Vi by0, Vr (z : Int), Vi (w32 ((i : Int) + 1)), Vi 5, Vi (n : Int)]) (S' := []) (h' := ((SHv st dr (z : Int)), (ovl (updC a19 (z + 1) 5 (w32 ((n : Int) + 1))) s b))) (fun _ => rfl) ?_
      rw [show (w32 ((i : Int) + 1)) = ((i : Int) + 1) from w32_id (by unfold R32; omega)]
      refine Ev.steps (k := 1) (pc' := 51) (L' := [Vr 114, Vi by0, Vr (z : Int), Vi ((i : Int) + 1), Vi 5, Vi (n : Int)]) (S' := []) (h' := ((SHv st dr (z : Int)), (ovl (updC a19 (z + 1) 5 (w32 ((n : Int) + 1))) s b))) (fun _ => rfl) ?_
      have ebd : bodT W S p0 = sayT W S p0 := by unfold bodT; rw [hs0]; rfl
      have est : stmT W S p0 = bnX (sayT W S p0) (fun r => bnX (expT W 59 r.2) (fun p1 => .ok (r.1, p1))) := by
        unfold stmT
        rw [if_neg (by omega), if_neg (by rw [hs0]; show ¬ (12 : Int) ≤ S.1 0 5; omega), ebd]
      rw [hx19, bnX_e] at est
      exact (c_reads_br (z := z) (B19.2.2.1.fo (updC_row (by omega))) by0 _ _ _).mono (fun r h' hq => by
        rw [hq.1, hq.2]
        exact KE _ _ est (B19.1.t.up (by omega)) (B19.2.1.fo (updC_row (by omega)) (updC_row (by omega)) (by rw [updC_row (by omega)])) (B19.2.2.1.fo (updC_row (by omega))))
