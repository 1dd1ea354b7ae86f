abbrev C3 : Type := Nat → Nat → Int
/-! THE REFERENCE: its small methods -/
theorem m_is {X : List Int} {d : Nat} {st dr rd : Int} {a s b : C3} (v lo hi : Int) : Ev X d 189 0 [Vi v, Vi lo, Vi hi] [] (SHv st dr rd, ovl a s b) (fun rr hh => rr = some (Vi (if lo ≤ v ∧ v ≤ hi then 1 else 0)) ∧ hh = (SHv st dr rd, ovl a s b)) := by
  refine Ev.ite (P := v < lo) (k := 3) (a := 14) (b := 5) (L' := [Vi v, Vi lo, Vi hi]) (S' := []) (h' := ((SHv st dr rd), (ovl a s b))) (fun _ => rfl) (fun b2 => ?_) (fun b2 => ?_)
  · refine Ev.fin (k := 2) (r := (some (Vi 0))) (h' := ((SHv st dr rd), (ovl a s b))) (fun _ => rfl) ?_
    refine ⟨?_, rfl⟩
    first | rfl | rw [if_pos (by omega)] | rw [if_neg (by omega)]
  · refine Ev.ite (P := hi < v) (k := 3) (a := 14) (b := 10) (L' := [Vi v, Vi lo, Vi hi]) (S' := []) (h' := ((SHv st dr rd), (ovl a s b))) (fun _ => rfl) (fun b7 => ?_) (fun b7 => ?_)
    · refine Ev.fin (k := 2) (r := (some (Vi 0))) (h' := ((SHv st dr rd), (ovl a s b))) (fun _ => rfl) ?_
      refine ⟨?_, rfl⟩
      first | rfl | rw [if_pos (by omega)] | rw [if_neg (by omega)]
    · refine Ev.fin (k := 3) (r := (some (Vi 1))) (h' := ((SHv st dr rd), (ovl a s b))) (fun _ => rfl) ?_
      refine ⟨?_, rfl⟩
      first | rfl | rw [if_pos (by omega)] | rw [if_neg (by omega)]
theorem m_isLetter {X : List Int} {d : Nat} {st dr rd : Int} {a s b : C3} (c : Int) : Ev X d 158 0 [Vi c] [] (SHv st dr rd, ovl a s b) (fun rr hh => rr = some (Vi (if 97 ≤ c ∧ c ≤ 122 then 1 else 0)) ∧ hh = (SHv st dr rd, ovl a s b)) := by
  refine Ev.ite (P := c < 97) (k := 3) (a := 16) (b := 6) (L' := [Vi c]) (S' := []) (h' := ((SHv st dr rd), (ovl a s b))) (fun _ => rfl) (fun b3 => ?_) (fun b3 => ?_)
  · refine Ev.fin (k := 2) (r := (some (Vi 0))) (h' := ((SHv st dr rd), (ovl a s b))) (fun _ => rfl) ?_
    refine ⟨?_, rfl⟩
    first | rfl | rw [if_pos (by omega)] | rw [if_neg (by omega)]
  · refine Ev.ite (P := 122 < c) (k := 3) (a := 16) (b := 12) (L' := [Vi c]) (S' := []) (h' := ((SHv st dr rd), (ovl a s b))) (fun _ => rfl) (fun b9 => ?_) (fun b9 => ?_)
    · refine Ev.fin (k := 2) (r := (some (Vi 0))) (h' := ((SHv st dr rd), (ovl a s b))) (fun _ => rfl) ?_
      refine ⟨?_, rfl⟩
      first | rfl | rw [if_pos (by omega)] | rw [if_neg (by omega)]
    · refine Ev.fin (k := 3) (r := (some (Vi 1))) (h' := ((SHv st dr rd), (ovl a s b))) (fun _ => rfl) ?_
      refine ⟨?_, rfl⟩
      first | rfl | rw [if_pos (by omega)] | rw [if_neg (by omega)]
theorem m_isDigit {X : List Int} {d : Nat} {st dr rd : Int} {a s b : C3} (c : Int) : Ev X d 159 0 [Vi c] [] (SHv st dr rd, ovl a s b) (fun rr hh => rr = some (Vi (if 48 ≤ c ∧ c ≤ 57 then 1 else 0)) ∧ hh = (SHv st dr rd, ovl a s b)) := by
  refine Ev.ite (P := c < 48) (k := 3) (a := 16) (b := 6) (L' := [Vi c]) (S' := []) (h' := ((SHv st dr rd), (ovl a s b))) (fun _ => rfl) (fun b3 => ?_) (fun b3 => ?_)
  · refine Ev.fin (k := 2) (r := (some (Vi 0))) (h' := ((SHv st dr rd), (ovl a s b))) (fun _ => rfl) ?_
    refine ⟨?_, rfl⟩
    first | rfl | rw [if_pos (by omega)] | rw [if_neg (by omega)]
  · refine Ev.ite (P := 57 < c) (k := 3) (a := 16) (b := 12) (L' := [Vi c]) (S' := []) (h' := ((SHv st dr rd), (ovl a s b))) (fun _ => rfl) (fun b9 => ?_) (fun b9 => ?_)
    · refine Ev.fin (k := 2) (r := (some (Vi 0))) (h' := ((SHv st dr rd), (ovl a s b))) (fun _ => rfl) ?_
      refine ⟨?_, rfl⟩
      first | rfl | rw [if_pos (by omega)] | rw [if_neg (by omega)]
    · refine Ev.fin (k := 3) (r := (some (Vi 1))) (h' := ((SHv st dr rd), (ovl a s b))) (fun _ => rfl) ?_
      refine ⟨?_, rfl⟩
      first | rfl | rw [if_pos (by omega)] | rw [if_neg (by omega)]
theorem m_isTest {X : List Int} {d : Nat} {st dr rd : Int} {a s b : C3} (k : Int) : Ev X d 172 0 [Vi k] [] (SHv st dr rd, ovl a s b) (fun rr hh => rr = some (Vi (if k = 1 ∨ k = 5 then 1 else 0)) ∧ hh = (SHv st dr rd, ovl a s b)) := by
  refine Ev.ite (P := k = 1) (k := 3) (a := 10) (b := 5) (L' := [Vi k]) (S' := []) (h' := ((SHv st dr rd), (ovl a s b))) (fun _ => rfl) (fun b2 => ?_) (fun b2 => ?_)
  · refine Ev.fin (k := 3) (r := (some (Vi 1))) (h' := ((SHv st dr rd), (ovl a s b))) (fun _ => rfl) ?_
    refine ⟨?_, rfl⟩
    first | rfl | rw [if_pos (by omega)] | rw [if_neg (by omega)]
  · refine Ev.ite (P := k ≠ 5) (k := 3) (a := 14) (b := 10) (L' := [Vi k]) (S' := []) (h' := ((SHv st dr rd), (ovl a s b))) (fun _ => rfl) (fun b7 => ?_) (fun b7 => ?_)
    · refine Ev.fin (k := 2) (r := (some (Vi 0))) (h' := ((SHv st dr rd), (ovl a s b))) (fun _ => rfl) ?_
      refine ⟨?_, rfl⟩
      first | rfl | rw [if_pos (by omega)] | rw [if_neg (by omega)]
    · refine Ev.fin (k := 3) (r := (some (Vi 1))) (h' := ((SHv st dr rd), (ovl a s b))) (fun _ => rfl) ?_
      refine ⟨?_, rfl⟩
      first | rfl | rw [if_pos (by omega)] | rw [if_neg (by omega)]
theorem m_at {X : List Int} {d : Nat} {st dr rd : Int} {a s b : C3} (e m : Int) (he : 0 ≤ e ∧ e ≤ 1) (hm : 0 ≤ m ∧ m < 180) : Ev X d 206 0 [Vr 166, Vi e, Vi m] [] (SHv st dr rd, ovl a s b) (fun rr hh => rr = some (Vi (1440 * e + 8 * m)) ∧ hh = (SHv st dr rd, ovl a s b)) := by
  refine Ev.steps (k := 3) (pc' := 5) (L' := [Vr 166, Vi e, Vi m]) (S' := [Vi (w32 (1440 * e))]) (h' := ((SHv st dr rd), (ovl a s b))) (fun _ => rfl) ?_
  rw [show (w32 (1440 * e)) = (1440 * e) from w32_id (by unfold R32; omega)]
  refine Ev.steps (k := 3) (pc' := 9) (L' := [Vr 166, Vi e, Vi m]) (S' := [Vi (w32 (8 * m)), Vi (1440 * e)]) (h' := ((SHv st dr rd), (ovl a s b))) (fun _ => rfl) ?_
  rw [show (w32 (8 * m)) = (8 * m) from w32_id (by unfold R32; omega)]
  refine Ev.steps (k := 1) (pc' := 10) (L' := [Vr 166, Vi e, Vi m]) (S' := [Vi (w32 ((1440 * e) + (8 * m)))]) (h' := ((SHv st dr rd), (ovl a s b))) (fun _ => rfl) ?_
  rw [show (w32 ((1440 * e) + (8 * m))) = ((1440 * e) + (8 * m)) from w32_id (by unfold R32; omega)]
  refine Ev.fin (k := 1) (r := (some (Vi ((1440 * e) + (8 * m))))) (h' := ((SHv st dr rd), (ovl a s b))) (fun _ => rfl) ?_
  exact ⟨rfl, rfl⟩
theorem m_isSign {X : List Int} {d : Nat} {st dr rd : Int} {a s b : C3} (c : Int) : Ev X d 174 0 [Vr 166, Vi c] [] (SHv st dr rd, ovl a s b) (fun rr hh => rr = some (Vi (if b 166 3 = 3 ∧ b 166 6 = c then 1 else 0)) ∧ hh = (SHv st dr rd, ovl a s b)) := by
  refine Ev.ite (P := (b 166 3) ≠ 3) (k := 4) (a := 20) (b := 8) (L' := [Vr 166, Vi c]) (S' := []) (h' := ((SHv st dr rd), (ovl a s b))) (fun _ => rfl) (fun b5 => ?_) (fun b5 => ?_)
  · refine Ev.fin (k := 2) (r := (some (Vi 0))) (h' := ((SHv st dr rd), (ovl a s b))) (fun _ => rfl) ?_
    refine ⟨?_, rfl⟩
    first | rfl | rw [if_pos (by omega)] | rw [if_neg (by omega)]
  · refine Ev.ite (P := (b 166 6) ≠ c) (k := 4) (a := 20) (b := 16) (L' := [Vr 166, Vi c]) (S' := []) (h' := ((SHv st dr rd), (ovl a s b))) (fun _ => rfl) (fun b13 => ?_) (fun b13 => ?_)
    · refine Ev.fin (k := 2) (r := (some (Vi 0))) (h' := ((SHv st dr rd), (ovl a s b))) (fun _ => rfl) ?_
      refine ⟨?_, rfl⟩
      first | rfl | rw [if_pos (by omega)] | rw [if_neg (by omega)]
    · refine Ev.fin (k := 3) (r := (some (Vi 1))) (h' := ((SHv st dr rd), (ovl a s b))) (fun _ => rfl) ?_
      refine ⟨?_, rfl⟩
      first | rfl | rw [if_pos (by omega)] | rw [if_neg (by omega)]
theorem m_end {X : List Int} {d : Nat} {st dr rd : Int} {a s b : C3} (n : Int) : Ev X d 155 0 [Vr 166, Vi n] [] (SHv st dr rd, ovl a s b) (fun r h => if n < 0 ∨ b 166 1 < n then r = some (Vi 0) ∧ h = (SHv st dr rd, ovl a s b) else r = some (Vi 1) ∧ h = (SHv st dr rd, ovl a s (updC b 166 1 n))) := by
  refine Ev.ite (P := n < 0) (k := 2) (a := 12) (b := 4) (L' := [Vr 166, Vi n]) (S' := []) (h' := ((SHv st dr rd), (ovl a s b))) (fun _ => rfl) (fun b1 => ?_) (fun b1 => ?_)
  · refine Ev.fin (k := 2) (r := (some (Vi 0))) (h' := ((SHv st dr rd), (ovl a s b))) (fun _ => rfl) ?_
    first | (rw [if_pos (by omega)]; exact ⟨rfl, rfl⟩) | (rw [if_neg (by omega)]; exact ⟨rfl, rfl⟩)
  · refine Ev.ite (P := n ≤ (b 166 1)) (k := 4) (a := 14) (b := 12) (L' := [Vr 166, Vi n]) (S' := []) (h' := ((SHv st dr rd), (ovl a s b))) (fun _ => rfl) (fun b9 => ?_) (fun b9 => ?_)
    · refine Ev.steps (k := 2) (pc' := 16) (L' := [Vr 166, Vi n]) (S' := [Vi n, Vr 166]) (h' := ((SHv st dr rd), (ovl a s b))) (fun _ => rfl) ?_
      refine Ev.putf (c' := (ovl a s (updC b 166 1 n))) rfl (by decide) rfl rfl rfl (ovl_wm (by decide)) ?_
      refine Ev.fin (k := 2) (r := (some (Vi 1))) (h' := ((SHv st dr rd), (ovl a s (updC b 166 1 n)))) (fun _ => rfl) ?_
      first | (rw [if_pos (by omega)]; exact ⟨rfl, rfl⟩) | (rw [if_neg (by omega)]; exact ⟨rfl, rfl⟩)
    · refine Ev.fin (k := 2) (r := (some (Vi 0))) (h' := ((SHv st dr rd), (ovl a s b))) (fun _ => rfl) ?_
      first | (rw [if_pos (by omega)]; exact ⟨rfl, rfl⟩) | (rw [if_neg (by omega)]; exact ⟨rfl, rfl⟩)
theorem m_blame {X : List Int} {d : Nat} {st dr rd : Int} {a s b : C3} (k p : Int) : Ev X d 160 0 [Vr 166, Vi k, Vi p] [] (SHv st dr rd, ovl a s b) (fun r h => r = none ∧ h = (SHv st dr rd, ovl a s (if 0 < b 166 8 then b else updC (updC b 166 8 k) 166 9 p))) := by
  refine Ev.ite (P := (b 166 8) ≤ 0) (k := 3) (a := 8) (b := 7) (L' := [Vr 166, Vi k, Vi p]) (S' := []) (h' := ((SHv st dr rd), (ovl a s b))) (fun _ => rfl) (fun b4 => ?_) (fun b4 => ?_)
  · refine Ev.steps (k := 2) (pc' := 10) (L' := [Vr 166, Vi k, Vi p]) (S' := [Vi k, Vr 166]) (h' := ((SHv st dr rd), (ovl a s b))) (fun _ => rfl) ?_
    refine Ev.putf (c' := (ovl a s (updC b 166 8 k))) rfl (by decide) rfl rfl rfl (ovl_wm (by decide)) ?_
    refine Ev.steps (k := 2) (pc' := 15) (L' := [Vr 166, Vi k, Vi p]) (S' := [Vi p, Vr 166]) (h' := ((SHv st dr rd), (ovl a s (updC b 166 8 k)))) (fun _ => rfl) ?_
    refine Ev.putf (c' := (ovl a s (updC (updC b 166 8 k) 166 9 p))) rfl (by decide) rfl rfl rfl (ovl_wm (by decide)) ?_
    refine Ev.fin (k := 1) (r := none) (h' := ((SHv st dr rd), (ovl a s (updC (updC b 166 8 k) 166 9 p)))) (fun _ => rfl) ?_
    refine ⟨rfl, ?_⟩
    first | rw [if_pos (by omega)] | rw [if_neg (by omega)]
  · refine Ev.fin (k := 1) (r := none) (h' := ((SHv st dr rd), (ovl a s b))) (fun _ => rfl) ?_
    refine ⟨rfl, ?_⟩
    first | rw [if_pos (by omega)] | rw [if_neg (by omega)]
theorem m_fault {X : List Int} {d : Nat} {st dr rd : Int} {a s b : C3} (w : Int) : Ev X d 192 0 [Vr 166, Vi w] [] (SHv st dr rd, ovl a s b) (fun rr hh => rr = some (Vi (if w = 0 then b 166 10 else if w = 1 then b 166 11 else -1)) ∧ hh = (SHv st dr rd, ovl a s b)) := by
  refine Ev.ite (P := w ≠ 0) (k := 2) (a := 11) (b := 4) (L' := [Vr 166, Vi w]) (S' := []) (h' := ((SHv st dr rd), (ovl a s b))) (fun _ => rfl) (fun b1 => ?_) (fun b1 => ?_)
  · refine Ev.ite (P := w ≠ 1) (k := 3) (a := 23) (b := 16) (L' := [Vr 166, Vi w]) (S' := []) (h' := ((SHv st dr rd), (ovl a s b))) (fun _ => rfl) (fun b13 => ?_) (fun b13 => ?_)
    · refine Ev.fin (k := 2) (r := (some (Vi (-1)))) (h' := ((SHv st dr rd), (ovl a s b))) (fun _ => rfl) ?_
      refine ⟨?_, rfl⟩
      first | rw [if_pos (by omega)] | (rw [if_neg (by omega), if_pos (by omega)]) | (rw [if_neg (by omega), if_neg (by omega)])
    · refine Ev.fin (k := 4) (r := (some (Vi (b 166 11)))) (h' := ((SHv st dr rd), (ovl a s b))) (fun _ => rfl) ?_
      refine ⟨?_, rfl⟩
      first | rw [if_pos (by omega)] | (rw [if_neg (by omega), if_pos (by omega)]) | (rw [if_neg (by omega), if_neg (by omega)])
  · refine Ev.fin (k := 4) (r := (some (Vi (b 166 10)))) (h' := ((SHv st dr rd), (ovl a s b))) (fun _ => rfl) ?_
    refine ⟨?_, rfl⟩
    first | rw [if_pos (by omega)] | (rw [if_neg (by omega), if_pos (by omega)]) | (rw [if_neg (by omega), if_neg (by omega)])
/-- the counts that are told -/
def cntI (b : C3) (o : Nat) : Int := b o (b 166 12).toNat
theorem m_has {X : List Int} {d : Nat} {st dr rd : Int} {a s b : C3} (w : Int) (hb : 0 ≤ b 166 12 ∧ b 166 12 < 2) : Ev X d 193 0 [Vr 166, Vi w] [] (SHv st dr rd, ovl a s b) (fun rr hh => rr = some (Vi (if w = 0 then b 168 (b 166 12).toNat else if w = 1 then b 169 (b 166 12).toNat else if w = 2 then b 170 (b 166 12).toNat else if w = 3 then b 171 (b 166 12).toNat else if w = 4 then b 173 (b 166 12).toNat else if w = 5 then b 172 (b 166 12).toNat else if w = 6 then b 202 0 else if w = 7 then b 203 0 else if w = 8 then b 204 0 else -1)) ∧ hh = (SHv st dr rd, ovl a s b)) := by
  refine Ev.steps (k := 1) (pc' := 1) (L' := [Vr 166, Vi w]) (S' := [Vi w]) (h' := ((SHv st dr rd), (ovl a s b))) (fun _ => rfl) ?_
  rcases (show w = 0 ∨ w = 1 ∨ w = 2 ∨ w = 3 ∨ w = 4 ∨ w = 5 ∨ w = 6 ∨ w = 7 ∨ w = 8 ∨ (w ≠ 0 ∧ w ≠ 1 ∧ w ≠ 2 ∧ w ≠ 3 ∧ w ≠ 4 ∧ w ≠ 5 ∧ w ≠ 6 ∧ w ≠ 7 ∧ w ≠ 8) by omega) with b1 | b1 | b1 | b1 | b1 | b1 | b1 | b1 | b1 | b1
  · rw [b1]
    refine Ev.steps (k := 5) (pc' := 60) (L' := [Vr 166, Vi 0]) (S' := [Vi (b 166 12), Vr 168]) (h' := ((SHv st dr rd), (ovl a s b))) (fun _ => rfl) ?_
    refine Ev.iald (v := (b 168 (b 166 12).toNat)) rfl (by decide) rfl (by omega) (by omega) rfl ?_
    refine Ev.fin (k := 1) (r := (some (Vi (b 168 (b 166 12).toNat)))) (h' := ((SHv st dr rd), (ovl a s b))) (fun _ => rfl) ?_
    refine ⟨?_, rfl⟩
    first | (subst b1; rfl) | simp [*]
  · rw [b1]
    refine Ev.steps (k := 5) (pc' := 70) (L' := [Vr 166, Vi 1]) (S' := [Vi (b 166 12), Vr 169]) (h' := ((SHv st dr rd), (ovl a s b))) (fun _ => rfl) ?_
    refine Ev.iald (v := (b 169 (b 166 12).toNat)) rfl (by decide) rfl (by omega) (by omega) rfl ?_
    refine Ev.fin (k := 1) (r := (some (Vi (b 169 (b 166 12).toNat)))) (h' := ((SHv st dr rd), (ovl a s b))) (fun _ => rfl) ?_
    refine ⟨?_, rfl⟩
    first | (subst b1; rfl) | simp [*]
  · rw [b1]
    refine Ev.steps (k := 5) (pc' := 80) (L' := [Vr 166, Vi 2]) (S' := [Vi (b 166 12), Vr 170]) (h' := ((SHv st dr rd), (ovl a s b))) (fun _ => rfl) ?_
    refine Ev.iald (v := (b 170 (b 166 12).toNat)) rfl (by decide) rfl (by omega) (by omega) rfl ?_
    refine Ev.fin (k := 1) (r := (some (Vi (b 170 (b 166 12).toNat)))) (h' := ((SHv st dr rd), (ovl a s b))) (fun _ => rfl) ?_
    refine ⟨?_, rfl⟩
    first | (subst b1; rfl) | simp [*]
  · rw [b1]
    refine Ev.steps (k := 5) (pc' := 90) (L' := [Vr 166, Vi 3]) (S' := [Vi (b 166 12), Vr 171]) (h' := ((SHv st dr rd), (ovl a s b))) (fun _ => rfl) ?_
    refine Ev.iald (v := (b 171 (b 166 12).toNat)) rfl (by decide) rfl (by omega) (by omega) rfl ?_
    refine Ev.fin (k := 1) (r := (some (Vi (b 171 (b 166 12).toNat)))) (h' := ((SHv st dr rd), (ovl a s b))) (fun _ => rfl) ?_
    refine ⟨?_, rfl⟩
    first | (subst b1; rfl) | simp [*]
  · rw [b1]
    refine Ev.steps (k := 5) (pc' := 100) (L' := [Vr 166, Vi 4]) (S' := [Vi (b 166 12), Vr 173]) (h' := ((SHv st dr rd), (ovl a s b))) (fun _ => rfl) ?_
    refine Ev.iald (v := (b 173 (b 166 12).toNat)) rfl (by decide) rfl (by omega) (by omega) rfl ?_
    refine Ev.fin (k := 1) (r := (some (Vi (b 173 (b 166 12).toNat)))) (h' := ((SHv st dr rd), (ovl a s b))) (fun _ => rfl) ?_
    refine ⟨?_, rfl⟩
    first | (subst b1; rfl) | simp [*]
  · rw [b1]
    refine Ev.steps (k := 5) (pc' := 110) (L' := [Vr 166, Vi 5]) (S' := [Vi (b 166 12), Vr 172]) (h' := ((SHv st dr rd), (ovl a s b))) (fun _ => rfl) ?_
    refine Ev.iald (v := (b 172 (b 166 12).toNat)) rfl (by decide) rfl (by omega) (by omega) rfl ?_
    refine Ev.fin (k := 1) (r := (some (Vi (b 172 (b 166 12).toNat)))) (h' := ((SHv st dr rd), (ovl a s b))) (fun _ => rfl) ?_
    refine ⟨?_, rfl⟩
    first | (subst b1; rfl) | simp [*]
  · rw [b1]
    refine Ev.fin (k := 6) (r := (some (Vi (b 202 0)))) (h' := ((SHv st dr rd), (ovl a s b))) (fun _ => rfl) ?_
    refine ⟨?_, rfl⟩
    first | (subst b1; rfl) | simp [*]
  · rw [b1]
    refine Ev.fin (k := 6) (r := (some (Vi (b 203 0)))) (h' := ((SHv st dr rd), (ovl a s b))) (fun _ => rfl) ?_
    refine ⟨?_, rfl⟩
    first | (subst b1; rfl) | simp [*]
  · rw [b1]
    refine Ev.fin (k := 6) (r := (some (Vi (b 204 0)))) (h' := ((SHv st dr rd), (ovl a s b))) (fun _ => rfl) ?_
    refine ⟨?_, rfl⟩
    first | (subst b1; rfl) | simp [*]
  · refine Ev.tswd (dflt := 132) rfl (by omega) (by decide) ?_
    show Ev X _ _ 133 [Vr 166, Vi w] [] ((SHv st dr rd), (ovl a s b)) _
    refine Ev.fin (k := 2) (r := (some (Vi (-1)))) (h' := ((SHv st dr rd), (ovl a s b))) (fun _ => rfl) ?_
    refine ⟨?_, rfl⟩
    first | (subst b1; rfl) | simp [*]
theorem m_isRoom {X : List Int} {d : Nat} {st dr rd : Int} {a s b : C3} (r : Int) (hb : 0 ≤ b 166 12 ∧ b 166 12 < 2) (hc : 0 ≤ b 168 (b 166 12).toNat ∧ b 168 (b 166 12).toNat ≤ 8) : Ev X (d + 1) 195 0 [Vr 166, Vi r] [] (SHv st dr rd, ovl a s b) (fun rr hh => rr = some (Vi (if 0 ≤ r ∧ r ≤ b 168 (b 166 12).toNat - 1 then 1 else 0)) ∧ hh = (SHv st dr rd, ovl a s b)) := by
  refine Ev.steps (k := 6) (pc' := 10) (L' := [Vr 166, Vi r]) (S' := [Vi (b 166 12), Vr 168, Vi 0, Vi r]) (h' := ((SHv st dr rd), (ovl a s b))) (fun _ => rfl) ?_
  refine Ev.iald (v := (b 168 (b 166 12).toNat)) rfl (by decide) rfl (by omega) (by omega) rfl ?_
  refine Ev.steps (k := 2) (pc' := 13) (L' := [Vr 166, Vi r]) (S' := [Vi (w32 ((b 168 (b 166 12).toNat) - 1)), Vi 0, Vi r]) (h' := ((SHv st dr rd), (ovl a s b))) (fun _ => rfl) ?_
  rw [show (w32 ((b 168 (b 166 12).toNat) - 1)) = ((b 168 (b 166 12).toNat) - 1) from w32_id (by unfold R32; omega)]
  refine Ev.call (k := 0) (pc1 := 13) (L1 := [Vr 166, Vi r]) (S1 := [Vi ((b 168 (b 166 12).toNat) - 1), Vi 0, Vi r]) (h1 := ((SHv st dr rd), (ovl a s b))) (m' := 189) (as := [Vi r, Vi 0, Vi ((b 168 (b 166 12).toNat) - 1)]) (S' := []) (L0 := [Vi r, Vi 0, Vi ((b 168 (b 166 12).toNat) - 1)]) (fun _ => rfl) rfl rfl rfl rfl rfl rfl (m_is r 0 (b 168 (b 166 12).toNat - 1)) (fun r h' hq => ?_)
  obtain ⟨rfl, rfl⟩ := hq
  show Ev X _ _ 16 [Vr 166, Vi r] [Vi (if 0 ≤ r ∧ r ≤ b 168 (b 166 12).toNat - 1 then 1 else 0)] ((SHv st dr rd), (ovl a s b)) _
  refine Ev.fin (k := 1) (r := (some (Vi (if 0 ≤ r ∧ r ≤ b 168 (b 166 12).toNat - 1 then 1 else 0)))) (h' := ((SHv st dr rd), (ovl a s b))) (fun _ => Ev_retz rfl (by omega)) ?_
  exact ⟨rfl, rfl⟩
theorem m_isWho {X : List Int} {d : Nat} {st dr rd : Int} {a s b : C3} (r : Int) (hb : 0 ≤ b 166 12 ∧ b 166 12 < 2) (hc : 0 ≤ b 170 (b 166 12).toNat ∧ b 170 (b 166 12).toNat ≤ 8) : Ev X (d + 1) 197 0 [Vr 166, Vi r] [] (SHv st dr rd, ovl a s b) (fun rr hh => rr = some (Vi (if 0 ≤ r ∧ r ≤ b 170 (b 166 12).toNat - 1 then 1 else 0)) ∧ hh = (SHv st dr rd, ovl a s b)) := by
  refine Ev.steps (k := 6) (pc' := 10) (L' := [Vr 166, Vi r]) (S' := [Vi (b 166 12), Vr 170, Vi 0, Vi r]) (h' := ((SHv st dr rd), (ovl a s b))) (fun _ => rfl) ?_
  refine Ev.iald (v := (b 170 (b 166 12).toNat)) rfl (by decide) rfl (by omega) (by omega) rfl ?_
  refine Ev.steps (k := 2) (pc' := 13) (L' := [Vr 166, Vi r]) (S' := [Vi (w32 ((b 170 (b 166 12).toNat) - 1)), Vi 0, Vi r]) (h' := ((SHv st dr rd), (ovl a s b))) (fun _ => rfl) ?_
  rw [show (w32 ((b 170 (b 166 12).toNat) - 1)) = ((b 170 (b 166 12).toNat) - 1) from w32_id (by unfold R32; omega)]
  refine Ev.call (k := 0) (pc1 := 13) (L1 := [Vr 166, Vi r]) (S1 := [Vi ((b 170 (b 166 12).toNat) - 1), Vi 0, Vi r]) (h1 := ((SHv st dr rd), (ovl a s b))) (m' := 189) (as := [Vi r, Vi 0, Vi ((b 170 (b 166 12).toNat) - 1)]) (S' := []) (L0 := [Vi r, Vi 0, Vi ((b 170 (b 166 12).toNat) - 1)]) (fun _ => rfl) rfl rfl rfl rfl rfl rfl (m_is r 0 (b 170 (b 166 12).toNat - 1)) (fun r h' hq => ?_)
  obtain ⟨rfl, rfl⟩ := hq
  show Ev X _ _ 16 [Vr 166, Vi r] [Vi (if 0 ≤ r ∧ r ≤ b 170 (b 166 12).toNat - 1 then 1 else 0)] ((SHv st dr rd), (ovl a s b)) _
  refine Ev.fin (k := 1) (r := (some (Vi (if 0 ≤ r ∧ r ≤ b 170 (b 166 12).toNat - 1 then 1 else 0)))) (h' := ((SHv st dr rd), (ovl a s b))) (fun _ => Ev_retz rfl (by omega)) ?_
  exact ⟨rfl, rfl⟩
theorem m_isThing {X : List Int} {d : Nat} {st dr rd : Int} {a s b : C3} (r : Int) (hb : 0 ≤ b 166 12 ∧ b 166 12 < 2) (hc : 0 ≤ b 171 (b 166 12).toNat ∧ b 171 (b 166 12).toNat ≤ 8) : Ev X (d + 1) 198 0 [Vr 166, Vi r] [] (SHv st dr rd, ovl a s b) (fun rr hh => rr = some (Vi (if 0 ≤ r ∧ r ≤ b 171 (b 166 12).toNat - 1 then 1 else 0)) ∧ hh = (SHv st dr rd, ovl a s b)) := by
  refine Ev.steps (k := 6) (pc' := 10) (L' := [Vr 166, Vi r]) (S' := [Vi (b 166 12), Vr 171, Vi 0, Vi r]) (h' := ((SHv st dr rd), (ovl a s b))) (fun _ => rfl) ?_
  refine Ev.iald (v := (b 171 (b 166 12).toNat)) rfl (by decide) rfl (by omega) (by omega) rfl ?_
  refine Ev.steps (k := 2) (pc' := 13) (L' := [Vr 166, Vi r]) (S' := [Vi (w32 ((b 171 (b 166 12).toNat) - 1)), Vi 0, Vi r]) (h' := ((SHv st dr rd), (ovl a s b))) (fun _ => rfl) ?_
  rw [show (w32 ((b 171 (b 166 12).toNat) - 1)) = ((b 171 (b 166 12).toNat) - 1) from w32_id (by unfold R32; omega)]
  refine Ev.call (k := 0) (pc1 := 13) (L1 := [Vr 166, Vi r]) (S1 := [Vi ((b 171 (b 166 12).toNat) - 1), Vi 0, Vi r]) (h1 := ((SHv st dr rd), (ovl a s b))) (m' := 189) (as := [Vi r, Vi 0, Vi ((b 171 (b 166 12).toNat) - 1)]) (S' := []) (L0 := [Vi r, Vi 0, Vi ((b 171 (b 166 12).toNat) - 1)]) (fun _ => rfl) rfl rfl rfl rfl rfl rfl (m_is r 0 (b 171 (b 166 12).toNat - 1)) (fun r h' hq => ?_)
  obtain ⟨rfl, rfl⟩ := hq
  show Ev X _ _ 16 [Vr 166, Vi r] [Vi (if 0 ≤ r ∧ r ≤ b 171 (b 166 12).toNat - 1 then 1 else 0)] ((SHv st dr rd), (ovl a s b)) _
  refine Ev.fin (k := 1) (r := (some (Vi (if 0 ≤ r ∧ r ≤ b 171 (b 166 12).toNat - 1 then 1 else 0)))) (h' := ((SHv st dr rd), (ovl a s b))) (fun _ => Ev_retz rfl (by omega)) ?_
  exact ⟨rfl, rfl⟩
