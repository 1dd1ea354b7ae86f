/-! THE CLASS READS: doors -/
abbrev DoC (N a : SC) (z : Nat) : Prop := ∀ r, r < 8 → ∃ x : Nat, x < 256 ∧ a (z + 3) r = (x : Int) ∧ ∀ o, o < 8 → (x.testBit o = true ↔ N 4 (8 * r + o) ≠ 0)
abbrev DbC (N : SC) (r o : Int) : Prop := (0 ≤ r ∧ r < 8) ∧ (0 ≤ o ∧ o < 8) ∧ N 4 (8 * r.toNat + o.toNat) ≠ 0
theorem c_doorBetween_i {X : List Int} {d : Nat} {st dr rd : Int} {a s b : C3} {z : Nat} (hz : hyS z) {N : SC} (hD : DoC N a z) (r o : Nat) (hr : r < 8) (ho : o < 8) : Ev X d 39 0 [Vr (z : Int), Vi (r : Int), Vi (o : Int)] [] (SHv st dr rd, ovl a s b) (fun rr hh => rr = some (Vi (if DbC N (r : Int) (o : Int) then 1 else 0)) ∧ hh = (SHv st dr rd, ovl a s b)) := by
  have hz0 : z = 2 ∨ z = 58 := hz
  obtain ⟨x, h1, h2, h3⟩ := hD r hr
  have h4 := h3 o ho
  refine Ev.ite (P := (r : Int) < 0) (k := 2) (a := 37) (b := 4) (L' := [Vr (z : Int), Vi (r : Int), Vi (o : Int)]) (S' := []) (h' := ((SHv st dr rd), (ovl a s b))) (fun _ => rfl) (fun b1 => ?_) (fun b1 => ?_)
  · exfalso; omega
  · refine Ev.ite (P := 8 ≤ (r : Int)) (k := 3) (a := 37) (b := 10) (L' := [Vr (z : Int), Vi (r : Int), Vi (o : Int)]) (S' := []) (h' := ((SHv st dr rd), (ovl a s b))) (fun _ => rfl) (fun b7 => ?_) (fun b7 => ?_)
    · exfalso; omega
    · refine Ev.ite (P := (o : Int) < 0) (k := 2) (a := 37) (b := 14) (L' := [Vr (z : Int), Vi (r : Int), Vi (o : Int)]) (S' := []) (h' := ((SHv st dr rd), (ovl a s b))) (fun _ => rfl) (fun b11 => ?_) (fun b11 => ?_)
      · exfalso; omega
      · refine Ev.ite (P := 8 ≤ (o : Int)) (k := 3) (a := 37) (b := 20) (L' := [Vr (z : Int), Vi (r : Int), Vi (o : Int)]) (S' := []) (h' := ((SHv st dr rd), (ovl a s b))) (fun _ => rfl) (fun b17 => ?_) (fun b17 => ?_)
        · exfalso; omega
        · refine Ev.steps (k := 1) (pc' := 21) (L' := [Vr (z : Int), Vi (r : Int), Vi (o : Int)]) (S' := [Vr (z : Int)]) (h' := ((SHv st dr rd), (ovl a s b))) (fun _ => rfl) ?_
          refine Ev.getr (r := ((z : Int) + 3)) rfl rfl (by omega) (shY_0 hz) rfl rfl rfl ?_
          refine Ev.steps (k := 1) (pc' := 25) (L' := [Vr (z : Int), Vi (r : Int), Vi (o : Int)]) (S' := [Vi (r : Int), Vr ((z : Int) + 3)]) (h' := ((SHv st dr rd), (ovl a s b))) (fun _ => rfl) ?_
          refine Ev.iald (v := (x : Int)) rfl (by omega) (shY_3 hz) (by omega) (by omega) ((ovl_rc (by omega)).trans (h2)) ?_
          refine Ev.ite (P := (i_and (x : Int) (i_shl 1 (o : Int))) = 0) (k := 5) (a := 37) (b := 33) (L' := [Vr (z : Int), Vi (r : Int), Vi (o : Int)]) (S' := []) (h' := ((SHv st dr rd), (ovl a s b))) (fun _ => rfl) (fun b30 => ?_) (fun b30 => ?_)
          · rw [ib0 (by omega) (by omega), h4] at b30
            refine Ev.fin (k := 2) (r := (some (Vi 0))) (h' := ((SHv st dr rd), (ovl a s b))) (fun _ => rfl) ?_
            refine ⟨?_, rfl⟩
            first
              | (rw [if_neg (fun h => b30 h.2.2)]; done)
              | (rw [if_pos ⟨by omega, by omega, Classical.not_not.mp b30⟩]; done)
          · rw [ib0 (by omega) (by omega), h4] at b30
            refine Ev.fin (k := 3) (r := (some (Vi 1))) (h' := ((SHv st dr rd), (ovl a s b))) (fun _ => rfl) ?_
            refine ⟨?_, rfl⟩
            first
              | (rw [if_neg (fun h => b30 h.2.2)]; done)
              | (rw [if_pos ⟨by omega, by omega, Classical.not_not.mp b30⟩]; done)
theorem c_doorBetween_n {X : List Int} {d : Nat} {st dr rd : Int} {a s b : C3} {z : Nat} (hz : hyS z) (r o : Int) (h : ¬ ((0 ≤ r ∧ r < 8) ∧ (0 ≤ o ∧ o < 8))) : Ev X d 39 0 [Vr (z : Int), Vi r, Vi o] [] (SHv st dr rd, ovl a s b) (fun rr hh => rr = some (Vi 0) ∧ hh = (SHv st dr rd, ovl a s b)) := by
  have hz0 : z = 2 ∨ z = 58 := hz
  refine Ev.ite (P := r < 0) (k := 2) (a := 37) (b := 4) (L' := [Vr (z : Int), Vi r, Vi o]) (S' := []) (h' := ((SHv st dr rd), (ovl a s b))) (fun _ => rfl) (fun b1 => ?_) (fun b1 => ?_)
  · refine Ev.fin (k := 2) (r := (some (Vi 0))) (h' := ((SHv st dr rd), (ovl a s b))) (fun _ => rfl) ?_
    exact ⟨rfl, rfl⟩
  · refine Ev.ite (P := 8 ≤ r) (k := 3) (a := 37) (b := 10) (L' := [Vr (z : Int), Vi r, Vi o]) (S' := []) (h' := ((SHv st dr rd), (ovl a s b))) (fun _ => rfl) (fun b7 => ?_) (fun b7 => ?_)
    · refine Ev.fin (k := 2) (r := (some (Vi 0))) (h' := ((SHv st dr rd), (ovl a s b))) (fun _ => rfl) ?_
      exact ⟨rfl, rfl⟩
    · refine Ev.ite (P := o < 0) (k := 2) (a := 37) (b := 14) (L' := [Vr (z : Int), Vi r, Vi o]) (S' := []) (h' := ((SHv st dr rd), (ovl a s b))) (fun _ => rfl) (fun b11 => ?_) (fun b11 => ?_)
      · refine Ev.fin (k := 2) (r := (some (Vi 0))) (h' := ((SHv st dr rd), (ovl a s b))) (fun _ => rfl) ?_
        exact ⟨rfl, rfl⟩
      · refine Ev.ite (P := 8 ≤ o) (k := 3) (a := 37) (b := 20) (L' := [Vr (z : Int), Vi r, Vi o]) (S' := []) (h' := ((SHv st dr rd), (ovl a s b))) (fun _ => rfl) (fun b17 => ?_) (fun b17 => ?_)
        · refine Ev.fin (k := 2) (r := (some (Vi 0))) (h' := ((SHv st dr rd), (ovl a s b))) (fun _ => rfl) ?_
          exact ⟨rfl, rfl⟩
        · exfalso; omega
theorem c_doorBetween {X : List Int} {d : Nat} {st dr rd : Int} {a s b : C3} {z : Nat} (hz : hyS z) {N : SC} (hD : DoC N a z) (r o : Int) : Ev X d 39 0 [Vr (z : Int), Vi r, Vi o] [] (SHv st dr rd, ovl a s b) (fun rr hh => rr = some (Vi (if DbC N r o then 1 else 0)) ∧ hh = (SHv st dr rd, ovl a s b)) := by
  by_cases h : (0 ≤ r ∧ r < 8) ∧ (0 ≤ o ∧ o < 8)
  · obtain ⟨r1, rfl⟩ : ∃ k : Nat, r = (k : Int) := ⟨r.toNat, by omega⟩
    obtain ⟨o1, rfl⟩ : ∃ k : Nat, o = (k : Int) := ⟨o.toNat, by omega⟩
    exact c_doorBetween_i hz hD r1 o1 (by omega) (by omega)
  · rw [if_neg (fun g => h ⟨g.1, g.2.1⟩)]
    exact c_doorBetween_n hz r o h
theorem sb_lt {k : Nat} (h : k < 8) : 2 ^ k < 2147483648 := by
  have : 2 ^ k ≤ 2 ^ 7 := Nat.pow_le_pow_right (by omega) (by omega)
  omega
theorem c_addDoor {X : List Int} {d : Nat} {st dr rd : Int} {a s b : C3} {z : Nat} (hz : hyS z) (r o x y : Nat) (hr : r < 8) (ho : o < 8) (hro : r ≠ o) (hx : a (z + 3) r = (x : Int)) (hy : a (z + 3) o = (y : Int)) (hx2 : x < 256) (hy2 : y < 256) : Ev X d 40 0 [Vr (z : Int), Vi (r : Int), Vi (o : Int)] [] (SHv st dr rd, ovl a s b) (fun rr hh => rr = none ∧ hh = (SHv st dr rd, ovl (updC (updC a (z + 3) r ((x ||| 2 ^ o : Nat) : Int)) (z + 3) o ((y ||| 2 ^ r : Nat) : Int)) s b)) := by
  have hz0 : z = 2 ∨ z = 58 := hz
  have hyu : updC a (z + 3) r ((x ||| 2 ^ o : Nat) : Int) (z + 3) o = (y : Int) := (updC_nt (by omega)).trans hy
  refine Ev.ite (P := (r : Int) < 0) (k := 2) (a := 44) (b := 4) (L' := [Vr (z : Int), Vi (r : Int), Vi (o : Int)]) (S' := []) (h' := ((SHv st dr rd), (ovl a s b))) (fun _ => rfl) (fun b1 => ?_) (fun b1 => ?_)
  · exfalso; omega
  · refine Ev.ite (P := 8 ≤ (r : Int)) (k := 3) (a := 44) (b := 10) (L' := [Vr (z : Int), Vi (r : Int), Vi (o : Int)]) (S' := []) (h' := ((SHv st dr rd), (ovl a s b))) (fun _ => rfl) (fun b7 => ?_) (fun b7 => ?_)
    · exfalso; omega
    · refine Ev.ite (P := (o : Int) < 0) (k := 2) (a := 44) (b := 14) (L' := [Vr (z : Int), Vi (r : Int), Vi (o : Int)]) (S' := []) (h' := ((SHv st dr rd), (ovl a s b))) (fun _ => rfl) (fun b11 => ?_) (fun b11 => ?_)
      · exfalso; omega
      · refine Ev.ite (P := 8 ≤ (o : Int)) (k := 3) (a := 44) (b := 20) (L' := [Vr (z : Int), Vi (r : Int), Vi (o : Int)]) (S' := []) (h' := ((SHv st dr rd), (ovl a s b))) (fun _ => rfl) (fun b17 => ?_) (fun b17 => ?_)
        · exfalso; omega
        · refine Ev.steps (k := 1) (pc' := 21) (L' := [Vr (z : Int), Vi (r : Int), Vi (o : Int)]) (S' := [Vr (z : Int)]) (h' := ((SHv st dr rd), (ovl a s b))) (fun _ => rfl) ?_
          refine Ev.getr (r := ((z : Int) + 3)) rfl rfl (by omega) (shY_0 hz) rfl rfl rfl ?_
          refine Ev.steps (k := 2) (pc' := 26) (L' := [Vr (z : Int), Vi (r : Int), Vi (o : Int)]) (S' := [Vi (r : Int), Vr ((z : Int) + 3), Vi (r : Int), Vr ((z : Int) + 3)]) (h' := ((SHv st dr rd), (ovl a s b))) (fun _ => rfl) ?_
          refine Ev.iald (v := (x : Int)) rfl (by omega) (shY_3 hz) (by omega) (by omega) ((ovl_rc (by omega)).trans (hx)) ?_
          refine Ev.steps (k := 4) (pc' := 31) (L' := [Vr (z : Int), Vi (r : Int), Vi (o : Int)]) (S' := [Vi (i_or (x : Int) (i_shl 1 (o : Int))), Vi (r : Int), Vr ((z : Int) + 3)]) (h' := ((SHv st dr rd), (ovl a s b))) (fun _ => rfl) ?_
          rw [show (i_or (x : Int) (i_shl 1 (o : Int))) = ((x ||| 2 ^ o : Nat) : Int) from (by rw [i_shl1 (by omega), i_or_nat (by omega) (sb_lt ho)])]
          refine Ev.iast (c' := (ovl (updC a (z + 3) r ((x ||| 2 ^ o : Nat) : Int)) s b)) rfl (by omega) (shY_3 hz) (by omega) (by omega) (ovl_wc (by omega)) ?_
          refine Ev.steps (k := 1) (pc' := 33) (L' := [Vr (z : Int), Vi (r : Int), Vi (o : Int)]) (S' := [Vr (z : Int)]) (h' := ((SHv st dr rd), (ovl (updC a (z + 3) r ((x ||| 2 ^ o : Nat) : Int)) s b))) (fun _ => rfl) ?_
          refine Ev.getr (r := ((z : Int) + 3)) rfl rfl (by omega) (shY_0 hz) rfl rfl rfl ?_
          refine Ev.steps (k := 2) (pc' := 38) (L' := [Vr (z : Int), Vi (r : Int), Vi (o : Int)]) (S' := [Vi (o : Int), Vr ((z : Int) + 3), Vi (o : Int), Vr ((z : Int) + 3)]) (h' := ((SHv st dr rd), (ovl (updC a (z + 3) r ((x ||| 2 ^ o : Nat) : Int)) s b))) (fun _ => rfl) ?_
          refine Ev.iald (v := (y : Int)) rfl (by omega) (shY_3 hz) (by omega) (by omega) ((ovl_rc (by omega)).trans (hyu)) ?_
          refine Ev.steps (k := 4) (pc' := 43) (L' := [Vr (z : Int), Vi (r : Int), Vi (o : Int)]) (S' := [Vi (i_or (y : Int) (i_shl 1 (r : Int))), Vi (o : Int), Vr ((z : Int) + 3)]) (h' := ((SHv st dr rd), (ovl (updC a (z + 3) r ((x ||| 2 ^ o : Nat) : Int)) s b))) (fun _ => rfl) ?_
          rw [show (i_or (y : Int) (i_shl 1 (r : Int))) = ((y ||| 2 ^ r : Nat) : Int) from (by rw [i_shl1 (by omega), i_or_nat (by omega) (sb_lt hr)])]
          refine Ev.iast (c' := (ovl (updC (updC a (z + 3) r ((x ||| 2 ^ o : Nat) : Int)) (z + 3) o ((y ||| 2 ^ r : Nat) : Int)) s b)) rfl (by omega) (shY_3 hz) (by omega) (by omega) (ovl_wc (by omega)) ?_
          refine Ev.fin (k := 1) (r := none) (h' := ((SHv st dr rd), (ovl (updC (updC a (z + 3) r ((x ||| 2 ^ o : Nat) : Int)) (z + 3) o ((y ||| 2 ^ r : Nat) : Int)) s b))) (fun _ => rfl) ?_
          exact ⟨rfl, rfl⟩
theorem c_addDoor_br {X : List Int} {d : Nat} {st dr rd : Int} {a s b : C3} {z : Nat} (hz : hyS z) (r o : Int) : Ev X d 40 0 [Vr (z : Int), Vi r, Vi o] [] (SHv st dr rd, ovl a s b) (fun rr hh => rr = none ∧ ∃ a' : C3, hh = (SHv st dr rd, ovl a' s b) ∧ ∀ q, q ≠ z + 3 → a' q = a q) := by
  have hz0 : z = 2 ∨ z = 58 := hz
  refine Ev.ite (P := r < 0) (k := 2) (a := 44) (b := 4) (L' := [Vr (z : Int), Vi r, Vi o]) (S' := []) (h' := ((SHv st dr rd), (ovl a s b))) (fun _ => rfl) (fun b1 => ?_) (fun b1 => ?_)
  · refine Ev.fin (k := 1) (r := none) (h' := ((SHv st dr rd), (ovl a s b))) (fun _ => rfl) ?_
    first
      | exact ⟨rfl, a, rfl, fun _ _ => rfl⟩
      | exact ⟨rfl, _, rfl, fun q hq => by rw [updC_row hq, updC_row hq]⟩
  · refine Ev.ite (P := 8 ≤ r) (k := 3) (a := 44) (b := 10) (L' := [Vr (z : Int), Vi r, Vi o]) (S' := []) (h' := ((SHv st dr rd), (ovl a s b))) (fun _ => rfl) (fun b7 => ?_) (fun b7 => ?_)
    · refine Ev.fin (k := 1) (r := none) (h' := ((SHv st dr rd), (ovl a s b))) (fun _ => rfl) ?_
      first
        | exact ⟨rfl, a, rfl, fun _ _ => rfl⟩
        | exact ⟨rfl, _, rfl, fun q hq => by rw [updC_row hq, updC_row hq]⟩
    · refine Ev.ite (P := o < 0) (k := 2) (a := 44) (b := 14) (L' := [Vr (z : Int), Vi r, Vi o]) (S' := []) (h' := ((SHv st dr rd), (ovl a s b))) (fun _ => rfl) (fun b11 => ?_) (fun b11 => ?_)
      · refine Ev.fin (k := 1) (r := none) (h' := ((SHv st dr rd), (ovl a s b))) (fun _ => rfl) ?_
        first
          | exact ⟨rfl, a, rfl, fun _ _ => rfl⟩
          | exact ⟨rfl, _, rfl, fun q hq => by rw [updC_row hq, updC_row hq]⟩
      · refine Ev.ite (P := 8 ≤ o) (k := 3) (a := 44) (b := 20) (L' := [Vr (z : Int), Vi r, Vi o]) (S' := []) (h' := ((SHv st dr rd), (ovl a s b))) (fun _ => rfl) (fun b17 => ?_) (fun b17 => ?_)
        · refine Ev.fin (k := 1) (r := none) (h' := ((SHv st dr rd), (ovl a s b))) (fun _ => rfl) ?_
          first
            | exact ⟨rfl, a, rfl, fun _ _ => rfl⟩
            | exact ⟨rfl, _, rfl, fun q hq => by rw [updC_row hq, updC_row hq]⟩
        · refine Ev.steps (k := 1) (pc' := 21) (L' := [Vr (z : Int), Vi r, Vi o]) (S' := [Vr (z : Int)]) (h' := ((SHv st dr rd), (ovl a s b))) (fun _ => rfl) ?_
          refine Ev.getr (r := ((z : Int) + 3)) rfl rfl (by omega) (shY_0 hz) rfl rfl rfl ?_
          refine Ev.steps (k := 2) (pc' := 26) (L' := [Vr (z : Int), Vi r, Vi o]) (S' := [Vi r, Vr ((z : Int) + 3), Vi r, Vr ((z : Int) + 3)]) (h' := ((SHv st dr rd), (ovl a s b))) (fun _ => rfl) ?_
          refine Ev.iald (v := (a (z + 3) (r).toNat)) rfl (by omega) (shY_3 hz) (by omega) (by omega) (ovl_rc (by omega)) ?_
          refine Ev.steps (k := 4) (pc' := 31) (L' := [Vr (z : Int), Vi r, Vi o]) (S' := [Vi (i_or (a (z + 3) (r).toNat) (i_shl 1 o)), Vi r, Vr ((z : Int) + 3)]) (h' := ((SHv st dr rd), (ovl a s b))) (fun _ => rfl) ?_
          refine Ev.iast (c' := (ovl (updC a (z + 3) (r).toNat (i_or (a (z + 3) (r).toNat) (i_shl 1 o))) s b)) rfl (by omega) (shY_3 hz) (by omega) (by omega) (ovl_wc (by omega)) ?_
          refine Ev.steps (k := 1) (pc' := 33) (L' := [Vr (z : Int), Vi r, Vi o]) (S' := [Vr (z : Int)]) (h' := ((SHv st dr rd), (ovl (updC a (z + 3) (r).toNat (i_or (a (z + 3) (r).toNat) (i_shl 1 o))) s b))) (fun _ => rfl) ?_
          refine Ev.getr (r := ((z : Int) + 3)) rfl rfl (by omega) (shY_0 hz) rfl rfl rfl ?_
          refine Ev.steps (k := 2) (pc' := 38) (L' := [Vr (z : Int), Vi r, Vi o]) (S' := [Vi o, Vr ((z : Int) + 3), Vi o, Vr ((z : Int) + 3)]) (h' := ((SHv st dr rd), (ovl (updC a (z + 3) (r).toNat (i_or (a (z + 3) (r).toNat) (i_shl 1 o))) s b))) (fun _ => rfl) ?_
          refine Ev.iald (v := ((updC a (z + 3) (r).toNat (i_or (a (z + 3) (r).toNat) (i_shl 1 o))) (z + 3) (o).toNat)) rfl (by omega) (shY_3 hz) (by omega) (by omega) (ovl_rc (by omega)) ?_
          refine Ev.steps (k := 4) (pc' := 43) (L' := [Vr (z : Int), Vi r, Vi o]) (S' := [Vi (i_or ((updC a (z + 3) (r).toNat (i_or (a (z + 3) (r).toNat) (i_shl 1 o))) (z + 3) (o).toNat) (i_shl 1 r)), Vi o, Vr ((z : Int) + 3)]) (h' := ((SHv st dr rd), (ovl (updC a (z + 3) (r).toNat (i_or (a (z + 3) (r).toNat) (i_shl 1 o))) s b))) (fun _ => rfl) ?_
          refine Ev.iast (c' := (ovl (updC (updC a (z + 3) (r).toNat (i_or (a (z + 3) (r).toNat) (i_shl 1 o))) (z + 3) (o).toNat (i_or ((updC a (z + 3) (r).toNat (i_or (a (z + 3) (r).toNat) (i_shl 1 o))) (z + 3) (o).toNat) (i_shl 1 r))) s b)) rfl (by omega) (shY_3 hz) (by omega) (by omega) (ovl_wc (by omega)) ?_
          refine Ev.fin (k := 1) (r := none) (h' := ((SHv st dr rd), (ovl (updC (updC a (z + 3) (r).toNat (i_or (a (z + 3) (r).toNat) (i_shl 1 o))) (z + 3) (o).toNat (i_or ((updC a (z + 3) (r).toNat (i_or (a (z + 3) (r).toNat) (i_shl 1 o))) (z + 3) (o).toNat) (i_shl 1 r))) s b))) (fun _ => rfl) ?_
          first
            | exact ⟨rfl, a, rfl, fun _ _ => rfl⟩
            | exact ⟨rfl, _, rfl, fun q hq => by rw [updC_row hq, updC_row hq]⟩
theorem ask_got {W : TXT} {N : SC} {kd p : Nat} {but : Int} {r : Nat × Nat} (h : askT W N kd but p = .ok r) : gotT W p = .ok r.2 := by
  unfold askT at h
  split at h
  · cases h
  · split at h
    · cases h
    · obtain ⟨p1, h1, h2⟩ := bnX_ok h
      cases h2
      exact h1
theorem doo_eq {W : TXT} {S : STY} {r p : Nat} (hnd : ¬ (tC W p = 300 ∧ nmd S.1 0 (tV W p) < cntN S.1 0 ∧ S.1 4 (8 * r + nmd S.1 0 (tV W p)) ≠ 0)) :
    (if tC W p ≠ 300 then (Except.error (fltT W 1 p) : Except PF (STY × Nat))
      else if nmd S.1 0 (tV W p) = cntN S.1 0 ∨ nmd S.1 0 (tV W p) = r then .error (fltT W 3 p)
      else if S.1 4 (8 * r + nmd S.1 0 (tV W p)) ≠ 0 then .error (fltT W 2 p)
      else bnX (gotT W p) (fun p3 => .ok ((incN (updC (updC S.1 4 (8 * r + nmd S.1 0 (tV W p)) 1) 4 (8 * nmd S.1 0 (tV W p) + r) 1) 1, S.2), p3)))
    = bnX (askT W S.1 0 ((r : Nat) : Int) p) (fun x => .ok ((incN (updC (updC S.1 4 (8 * r + x.1) 1) 4 (8 * x.1 + r) 1) 1, S.2), x.2)) := by
  unfold askT
  by_cases h1 : tC W p ≠ 300
  · rw [if_pos h1, if_pos h1, bnX_e]
  · rw [if_neg h1, if_neg h1]
    by_cases h2 : nmd S.1 0 (tV W p) = cntN S.1 0 ∨ nmd S.1 0 (tV W p) = r
    · rw [if_pos h2, if_pos (by omega), bnX_e]
    · have hle := nmd_le (N := S.1) (kd := 0) (w := tV W p)
      have h3 : ¬ (S.1 4 (8 * r + nmd S.1 0 (tV W p)) ≠ 0) := fun h => hnd ⟨Classical.not_not.mp h1, by omega, h⟩
      have h4 : ¬ (nmd S.1 0 (tV W p) = cntN S.1 0 ∨ ((nmd S.1 0 (tV W p) : Nat) : Int) = ((r : Nat) : Int)) := by omega
      rw [if_neg h2, if_neg h3, if_neg h4]
      cases gotT W p with
      | error e => rfl
      | ok p1 => rfl
theorem doo_no {W : TXT} {S : STY} {r p : Nat} (h : tC W p = 300) (h2 : nmd S.1 0 (tV W p) < cntN S.1 0) (h3 : S.1 4 (8 * r + nmd S.1 0 (tV W p)) ≠ 0) (hI : S.1 4 (8 * r + r) = 0) {f : Nat → Except PF (STY × Nat)} :
    (if tC W p ≠ 300 then (Except.error (fltT W 1 p) : Except PF (STY × Nat))
      else if nmd S.1 0 (tV W p) = cntN S.1 0 ∨ nmd S.1 0 (tV W p) = r then .error (fltT W 3 p)
      else if S.1 4 (8 * r + nmd S.1 0 (tV W p)) ≠ 0 then .error (fltT W 2 p)
      else bnX (gotT W p) f) = .error (fltT W 2 p) := by
  rw [if_neg (by omega), if_neg ?_, if_pos h3]
  rintro (g | g)
  · omega
  · rw [g] at h3
    exact h3 hI
theorem BdS.st3 {W : TXT} {z : Nat} {a a1 a2 : SC} {e : PF} (h : BdS W z a e a1) (hz : hyS z) (hf : ∀ q, q ≠ z + 3 → a2 q = a1 q) : BdS W z a e a2 := by
  have hz : z = 2 ∨ z = 58 := hz
  refine ⟨fun o h1 h2 => (hf o (by omega)).trans (h.1 o h1 h2), h.2.1.fo (hf _ (by omega)) (hf _ (by omega)) (by rw [hf _ (by omega)]), h.2.2.1.fo (hf _ (by omega)), ?_⟩
  unfold CdB
  rw [hf _ (by omega)]
  exact h.2.2.2
theorem c_door {X : List Int} {st dr : Int} {s b : C3} {W : TXT} {S : STY} {z : Nat} (hz : hyS z) {n : Nat} (d : Nat) (a0 : C3) (p0 c0 : Nat) (hd : 6 ≤ d) (X0 : XoC W S.1 z p0 c0 8 a0) (P0 : PaC S a0 z c0) (hl : nL S ≤ 30) (hC : nC S ≤ 12) (hI : ∀ r, r < 8 → S.1 4 (8 * r + r) = 0) (hc0 : c0 ≤ p0) (ht : tC W p0 ≠ 302) (hn0 : S.1 0 1 = (n : Int)) : Ev X d 37 0 [Vr 114, Vx, Vx] [] (SHv st dr (z : Int), ovl a0 s b) (PoB st dr s b W S z 1 n a0 (dooT W S p0)) := by
  have hz1 := z11 hz
  have hz0 : z = 2 ∨ z = 58 := hz
  obtain ⟨d, rfl⟩ : ∃ d1, d = d1 + 6 := ⟨d - 6, by omega⟩
  have Q0 := X0.le
  have D0 : DoC S.1 a0 z := P0.2.2.1
  have G0 : Gq z (z + 3) (z + 3) c0 a0 a0 := ⟨by omega, by omega, fun _ _ _ _ _ _ => rfl, fun _ _ => rfl⟩
  refine Ev.call (k := 1) (pc1 := 1) (L1 := [Vr 114, Vx, Vx]) (S1 := [Vr 114]) (h1 := ((SHv st dr (z : Int)), (ovl a0 s b))) (m' := 27) (as := [Vr 114]) (S' := []) (L0 := [Vr 114, Vx, Vx, Vx, Vx]) (fun _ => rfl) rfl rfl rfl rfl rfl rfl (c_next X0.1) (fun r h' hq => ?_)
  obtain ⟨rfl, a1, rfl, hq⟩ := hq
  rcases hq with ⟨p1, hx1, ho1⟩ | ⟨e1, hx1, hb1⟩
  · have X1 := X0.nx ho1
    have L1 : p0 < p1 := X0.lt (by omega) hx1
    have G1 := G0.tr (ho1.1.gz (c := c0) X0.hz) (by omega)
    have R1 : a1 (z + 11) = a0 (z + 11) := ho1.1 _ (by omega)
    have Q1 := X1.le
    have D1 : DoC S.1 a1 z := by
      unfold DoC
      rw [ho1.1 (z + 3) (by omega)]
      exact D0
    show Ev X _ _ 4 [Vr 114, Vx, Vx] [] ((SHv st dr (z : Int)), (ovl a1 s b)) _
    refine Ev.call (k := 3) (pc1 := 7) (L1 := [Vr 114, Vx, Vx]) (S1 := [Vi (-1), Vi 0, Vr 114]) (h1 := ((SHv st dr (z : Int)), (ovl a1 s b))) (m' := 38) (as := [Vr 114, Vi 0, Vi (-1)]) (S' := []) (L0 := [Vr 114, Vi 0, Vi (-1), Vx]) (fun _ => rfl) rfl rfl rfl rfl rfl rfl (c_asked X1.hz X1.1 (kd := 0) (q := 0) X1.2.1 (by decide) rfl (-1) rfl) (fun r h' hq => ?_)
    obtain ⟨a2, rfl, hq⟩ := hq
    rcases hq with ⟨⟨i2, p2⟩, hx2, rfl, ho2⟩ | ⟨e2, hx2, ⟨v2, rfl, hv2⟩, hb2⟩
    · have K2 := ask_ok hx2
      dsimp only at K2 ho2
      have X2 := X1.nx ho2
      have L2 : p1 < p2 := by
        rw [show p2 = tE W p1 from K2.2.2.2.2.1]
        exact tok_lt X1.le.1 X1.1.1.1 (by omega) (by omega)
      have I2 := K2.2.2.1
      have J2 := (X1.2.1 0 (by decide)).1
      have G2 := G1.tr (ho2.1.gz (c := c0) X1.hz) (by omega)
      have R2 : a2 (z + 11) = a1 (z + 11) := ho2.1 _ (by omega)
      have Q2 := X2.le
      clear K2
      have D2 : DoC S.1 a2 z := by
        unfold DoC
        rw [ho2.1 (z + 3) (by omega)]
        exact D1
      show Ev X _ _ 10 [Vr 114, Vx, Vx] [Vi ((i2 : Nat) : Int)] ((SHv st dr (z : Int)), (ovl a2 s b)) _
      refine Ev.steps (k := 5) (pc' := 17) (L' := [Vr 114, Vi ((i2 : Nat) : Int), Vi (-1)]) (S' := [Vi (a2 114 5)]) (h' := ((SHv st dr (z : Int)), (ovl a2 s b))) (fun _ => rfl) ?_
      rw [X2.t5]
      refine Ev.ite (P := ((tC W p2 : Nat) : Int) ≠ 300) (k := 2) (a := 58) (b := 23) (L' := [Vr 114, Vi ((i2 : Nat) : Int), Vi (-1)]) (S' := []) (h' := ((SHv st dr (z : Int)), (ovl a2 s b))) (fun _ => rfl) (fun b20 => ?_) (fun b20 => ?_)
      · refine Ev.call (k := 3) (pc1 := 61) (L1 := [Vr 114, Vi ((i2 : Nat) : Int), Vi (-1)]) (S1 := [Vi ((i2 : Nat) : Int), Vi 0, Vr 114]) (h1 := ((SHv st dr (z : Int)), (ovl a2 s b))) (m' := 38) (as := [Vr 114, Vi 0, Vi ((i2 : Nat) : Int)]) (S' := []) (L0 := [Vr 114, Vi 0, Vi ((i2 : Nat) : Int), Vx]) (fun _ => rfl) rfl rfl rfl rfl rfl rfl (c_asked X2.hz X2.1 (kd := 0) (q := 0) X2.2.1 (by decide) rfl ((i2 : Nat) : Int) rfl) (fun r h' hq => ?_)
        obtain ⟨a3, rfl, hq⟩ := hq
        rcases hq with ⟨⟨i3, p3⟩, hx3, rfl, ho3⟩ | ⟨e3, hx3, ⟨v3, rfl, hv3⟩, hb3⟩
        · have K3 := ask_ok hx3
          dsimp only at K3 ho3
          have X3 := X2.nx ho3
          have L3 : p2 < p3 := by
            rw [show p3 = tE W p2 from K3.2.2.2.2.1]
            exact tok_lt X2.le.1 X2.1.1.1 (by omega) (by omega)
          have I3 := K3.2.2.1
          have J3 := (X2.2.1 0 (by decide)).1
          have G3 := G2.tr (ho3.1.gz (c := c0) X2.hz) (by omega)
          have R3 : a3 (z + 11) = a2 (z + 11) := ho3.1 _ (by omega)
          have Q3 := X3.le
          clear K3
          have D3 : DoC S.1 a3 z := by
            unfold DoC
            rw [ho3.1 (z + 3) (by omega)]
            exact D2
          show Ev X _ _ 64 [Vr 114, Vi ((i2 : Nat) : Int), Vi (-1)] [Vi ((i3 : Nat) : Int)] ((SHv st dr (z : Int)), (ovl a3 s b)) _
          obtain ⟨x, ux2, ux, ux3⟩ := D3 (i2) (by omega)
          obtain ⟨y, uy2, uy, uy3⟩ := D3 (i3) (by omega)
          have hro : (i2) ≠ (i3) := by
            have := (ask_ok hx3).2.2.2.1
            dsimp only at this
            omega
          refine Ev.call (k := 5) (pc1 := 71) (L1 := [Vr 114, Vi ((i2 : Nat) : Int), Vi ((i3 : Nat) : Int)]) (S1 := [Vi ((i3 : Nat) : Int), Vi ((i2 : Nat) : Int), Vr (z : Int)]) (h1 := ((SHv st dr (z : Int)), (ovl a3 s b))) (m' := 40) (as := [Vr (z : Int), Vi ((i2 : Nat) : Int), Vi ((i3 : Nat) : Int)]) (S' := []) (L0 := [Vr (z : Int), Vi ((i2 : Nat) : Int), Vi ((i3 : Nat) : Int)]) (fun _ => rfl) rfl rfl rfl rfl (stpC_of rfl (pm_recv_of (by omega) (shY_0 hz))) rfl (c_addDoor hz (i2) (i3) x y (by omega) (by omega) hro ux uy ux2 uy2) (fun r h' hq => ?_)
          obtain ⟨rfl, hq⟩ := hq
          obtain ⟨a4, ha4⟩ : ∃ q : C3, q = updC (updC a3 (z + 3) (i2) ((x ||| 2 ^ (i3) : Nat) : Int)) (z + 3) (i3) ((y ||| 2 ^ (i2) : Nat) : Int) := ⟨_, rfl⟩
          rw [← ha4] at hq
          obtain rfl := hq
          have X4 : XoC W S.1 z p3 c0 8 a4 := by rw [ha4]; exact (X3.up (by omega)).up (by omega)
          have G4 : Gq z (z + 3) (z + 3) c0 a0 a4 := by rw [ha4]; exact (G3.up (by omega)).up (by omega)
          show Ev X _ _ 74 [Vr 114, Vi ((i2 : Nat) : Int), Vi ((i3 : Nat) : Int)] [] ((SHv st dr (z : Int)), (ovl a4 s b)) _
          refine Ev.fin (k := 1) (r := none) (h' := ((SHv st dr (z : Int)), (ovl a4 s b))) (fun _ => rfl) ?_
          refine ⟨rfl, _, rfl, ?_⟩
          unfold dooT
          rw [hx1, bnX_o, hx2, bnX_o]
          dsimp only
          rw [doo_eq (fun g => by
            first
              | (exact absurd g.1 (by omega))
              | (refine c40 ⟨by omega, ?_, ?_⟩
                 · rw [show nmI S.1 0 (tV W p2) = ((nmd S.1 0 (tV W p2) : Nat) : Int) from if_pos g.2.1]
                   omega
                 · rw [show nmI S.1 0 (tV W p2) = ((nmd S.1 0 (tV W p2) : Nat) : Int) from if_pos g.2.1, Int.toNat_natCast, Int.toNat_natCast]
                   exact g.2.2)), hx3, bnX_o]
          dsimp only
          refine Or.inl ⟨_, rfl, c0, X4, by dsimp only; omega, G4.fs, fun a2 h1 h2 => ?_⟩
          have E3 : a3 (z + 3) = a0 (z + 3) := (ho3.1 _ (by omega)).trans ((ho2.1 _ (by omega)).trans (ho1.1 _ (by omega)))
          refine P0.door (x := x) (y := y) hn0 hl hC (by omega) (by omega) hro ?_ ?_ (fun o o1 o2 o3 o4 o5 => (h1 o o1 o2 o3).trans (G4.2.2.1 o (by omega) (by omega) o4 o5 o5)) (fun q hq => (congrFun (h1 (z + 11) (by omega) (by omega) (by omega)) q).trans (G4.2.2.2 q hq)) (fun q => ?_) (fun q => ?_)
          · rw [← ux]; exact (congrFun E3 _).symm
          · rw [← uy]; exact (congrFun E3 _).symm
          · rw [h2, congrFun (G4.2.2.1 (z + 1) (by omega) (by omega) (by omega) (by omega) (by omega)) q]
          · rw [h1 (z + 3) (by omega) (by omega) (by omega), ha4, updC_if, updC_if, congrFun E3 q]
        · have B3 := G2.bd X2 (by omega) hb3
          show Ev X _ _ 64 [Vr 114, Vi ((i2 : Nat) : Int), Vi (-1)] [Vi v3] ((SHv st dr (z : Int)), (ovl a3 s b)) _
          refine Ev.call (k := 5) (pc1 := 71) (L1 := [Vr 114, Vi ((i2 : Nat) : Int), Vi v3]) (S1 := [Vi v3, Vi ((i2 : Nat) : Int), Vr (z : Int)]) (h1 := ((SHv st dr (z : Int)), (ovl a3 s b))) (m' := 40) (as := [Vr (z : Int), Vi ((i2 : Nat) : Int), Vi v3]) (S' := []) (L0 := [Vr (z : Int), Vi ((i2 : Nat) : Int), Vi v3]) (fun _ => rfl) rfl rfl rfl rfl (stpC_of rfl (pm_recv_of (by omega) (shY_0 hz))) rfl (c_addDoor_br hz ((i2 : Nat) : Int) v3) (fun r h' hq => ?_)
          obtain ⟨rfl, a5, rfl, hf5⟩ := hq
          have B5 := B3.st3 hz hf5
          show Ev X _ _ 74 [Vr 114, Vi ((i2 : Nat) : Int), Vi v3] [] ((SHv st dr (z : Int)), (ovl a5 s b)) _
          refine Ev.fin (k := 1) (r := none) (h' := ((SHv st dr (z : Int)), (ovl a5 s b))) (fun _ => rfl) ?_
          refine ⟨rfl, _, rfl, ?_⟩
          unfold dooT
          rw [hx1, bnX_o, hx2, bnX_o]
          dsimp only
          rw [doo_eq (fun g => by
            first
              | (exact absurd g.1 (by omega))
              | (refine c40 ⟨by omega, ?_, ?_⟩
                 · rw [show nmI S.1 0 (tV W p2) = ((nmd S.1 0 (tV W p2) : Nat) : Int) from if_pos g.2.1]
                   omega
                 · rw [show nmI S.1 0 (tV W p2) = ((nmd S.1 0 (tV W p2) : Nat) : Int) from if_pos g.2.1, Int.toNat_natCast, Int.toNat_natCast]
                   exact g.2.2)), hx3, bnX_e]
          exact Or.inr ⟨_, rfl, B5⟩
      · refine Ev.steps (k := 8) (pc' := 37) (L' := [Vr 114, Vi ((i2 : Nat) : Int), Vi (-1)]) (S' := [Vi (a2 114 7), Vi 0, Vr (z : Int), Vi ((i2 : Nat) : Int), Vr (z : Int)]) (h' := ((SHv st dr (z : Int)), (ovl a2 s b))) (fun _ => rfl) ?_
        rw [(X2.tv (by omega)).1]
        refine Ev.call (k := 0) (pc1 := 37) (L1 := [Vr 114, Vi ((i2 : Nat) : Int), Vi (-1)]) (S1 := [Vi ((cvF (tV W p2) 6 : Nat) : Int), Vi 0, Vr (z : Int), Vi ((i2 : Nat) : Int), Vr (z : Int)]) (h1 := ((SHv st dr (z : Int)), (ovl a2 s b))) (m' := 35) (as := [Vr (z : Int), Vi 0, Vi ((cvF (tV W p2) 6 : Nat) : Int)]) (S' := [Vi ((i2 : Nat) : Int), Vr (z : Int)]) (L0 := [Vr (z : Int), Vi 0, Vi ((cvF (tV W p2) 6 : Nat) : Int), Vx]) (fun _ => rfl) rfl rfl rfl rfl (stpC_of rfl (pm_recv_of (by omega) (shY_0 hz))) rfl (c_named hz (q := 0) (kd := 0) (by decide) rfl (X2.tv (by omega)).2 X2.2.1) (fun r h' hq => ?_)
        obtain ⟨rfl, rfl⟩ := hq
        show Ev X _ _ 40 [Vr 114, Vi ((i2 : Nat) : Int), Vi (-1)] [Vi (nmI S.1 0 (tV W p2)), Vi ((i2 : Nat) : Int), Vr (z : Int)] ((SHv st dr (z : Int)), (ovl a2 s b)) _
        refine Ev.call (k := 0) (pc1 := 40) (L1 := [Vr 114, Vi ((i2 : Nat) : Int), Vi (-1)]) (S1 := [Vi (nmI S.1 0 (tV W p2)), Vi ((i2 : Nat) : Int), Vr (z : Int)]) (h1 := ((SHv st dr (z : Int)), (ovl a2 s b))) (m' := 39) (as := [Vr (z : Int), Vi ((i2 : Nat) : Int), Vi (nmI S.1 0 (tV W p2))]) (S' := []) (L0 := [Vr (z : Int), Vi ((i2 : Nat) : Int), Vi (nmI S.1 0 (tV W p2))]) (fun _ => rfl) rfl rfl rfl rfl (stpC_of rfl (pm_recv_of (by omega) (shY_0 hz))) rfl (c_doorBetween hz (N := S.1) (D2 : DoC S.1 a2 z) ((i2 : Nat) : Int) (nmI S.1 0 (tV W p2))) (fun r h' hq => ?_)
        obtain ⟨rfl, rfl⟩ := hq
        by_cases c40 : DbC S.1 ((i2 : Nat) : Int) (nmI S.1 0 (tV W p2))
        · rw [if_pos c40]
          show Ev X _ _ 43 [Vr 114, Vi ((i2 : Nat) : Int), Vi (-1)] [Vi 1] ((SHv st dr (z : Int)), (ovl a2 s b)) _
          refine Ev.steps (k := 5) (pc' := 52) (L' := [Vr 114, Vi ((i2 : Nat) : Int), Vi (-1)]) (S' := [Vi (a2 114 6), Vi 2, Vr 114]) (h' := ((SHv st dr (z : Int)), (ovl a2 s b))) (fun _ => rfl) ?_
          rw [X2.t6]
          refine Ev.call (k := 0) (pc1 := 52) (L1 := [Vr 114, Vi ((i2 : Nat) : Int), Vi (-1)]) (S1 := [Vi ((tA W p2 : Nat) : Int), Vi 2, Vr 114]) (h1 := ((SHv st dr (z : Int)), (ovl a2 s b))) (m' := 29) (as := [Vr 114, Vi 2, Vi ((tA W p2 : Nat) : Int)]) (S' := []) (L0 := [Vr 114, Vi 2, Vi ((tA W p2 : Nat) : Int)]) (fun _ => rfl) rfl rfl rfl rfl rfl rfl (c_fail_t X2.1 2 ((tA W p2 : Nat) : Int) (by decide)) (fun r h' hq => ?_)
          obtain ⟨rfl, a6, rfl, hq⟩ := hq
          rcases hq with hq
          · have hb6 := hq
            have B6 := G2.bd X2 (by omega) hb6
            show Ev X _ _ 55 [Vr 114, Vi ((i2 : Nat) : Int), Vi (-1)] [] ((SHv st dr (z : Int)), (ovl a6 s b)) _
            refine Ev.call (k := 5) (pc1 := 71) (L1 := [Vr 114, Vi ((i2 : Nat) : Int), Vi (-1)]) (S1 := [Vi (-1), Vi ((i2 : Nat) : Int), Vr (z : Int)]) (h1 := ((SHv st dr (z : Int)), (ovl a6 s b))) (m' := 40) (as := [Vr (z : Int), Vi ((i2 : Nat) : Int), Vi (-1)]) (S' := []) (L0 := [Vr (z : Int), Vi ((i2 : Nat) : Int), Vi (-1)]) (fun _ => rfl) rfl rfl rfl rfl (stpC_of rfl (pm_recv_of (by omega) (shY_0 hz))) rfl (c_addDoor_br hz ((i2 : Nat) : Int) (-1)) (fun r h' hq => ?_)
            obtain ⟨rfl, a7, rfl, hf7⟩ := hq
            have B7 := B6.st3 hz hf7
            show Ev X _ _ 74 [Vr 114, Vi ((i2 : Nat) : Int), Vi (-1)] [] ((SHv st dr (z : Int)), (ovl a7 s b)) _
            refine Ev.fin (k := 1) (r := none) (h' := ((SHv st dr (z : Int)), (ovl a7 s b))) (fun _ => rfl) ?_
            refine ⟨rfl, _, rfl, ?_⟩
            unfold dooT
            rw [hx1, bnX_o, hx2, bnX_o]
            dsimp only
            have hnm : nmd S.1 0 (tV W p2) < cntN S.1 0 := nmI_ne.mp (by have := c40.2.1; omega)
            have hnI : nmI S.1 0 (tV W p2) = ((nmd S.1 0 (tV W p2) : Nat) : Int) := if_pos hnm
            have h9 := c40.2.2
            rw [hnI, Int.toNat_natCast, Int.toNat_natCast] at h9
            rw [doo_no (by omega) hnm h9 (hI _ (by omega))]
            exact Or.inr ⟨_, rfl, B7⟩
        · rw [if_neg c40]
          show Ev X _ _ 43 [Vr 114, Vi ((i2 : Nat) : Int), Vi (-1)] [Vi 0] ((SHv st dr (z : Int)), (ovl a2 s b)) _
          refine Ev.call (k := 4) (pc1 := 61) (L1 := [Vr 114, Vi ((i2 : Nat) : Int), Vi (-1)]) (S1 := [Vi ((i2 : Nat) : Int), Vi 0, Vr 114]) (h1 := ((SHv st dr (z : Int)), (ovl a2 s b))) (m' := 38) (as := [Vr 114, Vi 0, Vi ((i2 : Nat) : Int)]) (S' := []) (L0 := [Vr 114, Vi 0, Vi ((i2 : Nat) : Int), Vx]) (fun _ => rfl) rfl rfl rfl rfl rfl rfl (c_asked X2.hz X2.1 (kd := 0) (q := 0) X2.2.1 (by decide) rfl ((i2 : Nat) : Int) rfl) (fun r h' hq => ?_)
          obtain ⟨a8, rfl, hq⟩ := hq
          rcases hq with ⟨⟨i8, p8⟩, hx8, rfl, ho8⟩ | ⟨e8, hx8, ⟨v8, rfl, hv8⟩, hb8⟩
          · have K8 := ask_ok hx8
            dsimp only at K8 ho8
            have X8 := X2.nx ho8
            have L8 : p2 < p8 := by
              rw [show p8 = tE W p2 from K8.2.2.2.2.1]
              exact tok_lt X2.le.1 X2.1.1.1 (by omega) (by omega)
            have I8 := K8.2.2.1
            have J8 := (X2.2.1 0 (by decide)).1
            have G8 := G2.tr (ho8.1.gz (c := c0) X2.hz) (by omega)
            have R8 : a8 (z + 11) = a2 (z + 11) := ho8.1 _ (by omega)
            have Q8 := X8.le
            clear K8
            have D8 : DoC S.1 a8 z := by
              unfold DoC
              rw [ho8.1 (z + 3) (by omega)]
              exact D2
            show Ev X _ _ 64 [Vr 114, Vi ((i2 : Nat) : Int), Vi (-1)] [Vi ((i8 : Nat) : Int)] ((SHv st dr (z : Int)), (ovl a8 s b)) _
            obtain ⟨x, ux2, ux, ux3⟩ := D8 (i2) (by omega)
            obtain ⟨y, uy2, uy, uy3⟩ := D8 (i8) (by omega)
            have hro : (i2) ≠ (i8) := by
              have := (ask_ok hx8).2.2.2.1
              dsimp only at this
              omega
            refine Ev.call (k := 5) (pc1 := 71) (L1 := [Vr 114, Vi ((i2 : Nat) : Int), Vi ((i8 : Nat) : Int)]) (S1 := [Vi ((i8 : Nat) : Int), Vi ((i2 : Nat) : Int), Vr (z : Int)]) (h1 := ((SHv st dr (z : Int)), (ovl a8 s b))) (m' := 40) (as := [Vr (z : Int), Vi ((i2 : Nat) : Int), Vi ((i8 : Nat) : Int)]) (S' := []) (L0 := [Vr (z : Int), Vi ((i2 : Nat) : Int), Vi ((i8 : Nat) : Int)]) (fun _ => rfl) rfl rfl rfl rfl (stpC_of rfl (pm_recv_of (by omega) (shY_0 hz))) rfl (c_addDoor hz (i2) (i8) x y (by omega) (by omega) hro ux uy ux2 uy2) (fun r h' hq => ?_)
            obtain ⟨rfl, hq⟩ := hq
            obtain ⟨a9, ha9⟩ : ∃ q : C3, q = updC (updC a8 (z + 3) (i2) ((x ||| 2 ^ (i8) : Nat) : Int)) (z + 3) (i8) ((y ||| 2 ^ (i2) : Nat) : Int) := ⟨_, rfl⟩
            rw [← ha9] at hq
            obtain rfl := hq
            have X9 : XoC W S.1 z p8 c0 8 a9 := by rw [ha9]; exact (X8.up (by omega)).up (by omega)
            have G9 : Gq z (z + 3) (z + 3) c0 a0 a9 := by rw [ha9]; exact (G8.up (by omega)).up (by omega)
            show Ev X _ _ 74 [Vr 114, Vi ((i2 : Nat) : Int), Vi ((i8 : Nat) : Int)] [] ((SHv st dr (z : Int)), (ovl a9 s b)) _
            refine Ev.fin (k := 1) (r := none) (h' := ((SHv st dr (z : Int)), (ovl a9 s b))) (fun _ => rfl) ?_
            refine ⟨rfl, _, rfl, ?_⟩
            unfold dooT
            rw [hx1, bnX_o, hx2, bnX_o]
            dsimp only
            rw [doo_eq (fun g => by
              first
                | (exact absurd g.1 (by omega))
                | (refine c40 ⟨by omega, ?_, ?_⟩
                   · rw [show nmI S.1 0 (tV W p2) = ((nmd S.1 0 (tV W p2) : Nat) : Int) from if_pos g.2.1]
                     omega
                   · rw [show nmI S.1 0 (tV W p2) = ((nmd S.1 0 (tV W p2) : Nat) : Int) from if_pos g.2.1, Int.toNat_natCast, Int.toNat_natCast]
                     exact g.2.2)), hx8, bnX_o]
            dsimp only
            refine Or.inl ⟨_, rfl, c0, X9, by dsimp only; omega, G9.fs, fun a2 h1 h2 => ?_⟩
            have E3 : a8 (z + 3) = a0 (z + 3) := (ho8.1 _ (by omega)).trans ((ho2.1 _ (by omega)).trans (ho1.1 _ (by omega)))
            refine P0.door (x := x) (y := y) hn0 hl hC (by omega) (by omega) hro ?_ ?_ (fun o o1 o2 o3 o4 o5 => (h1 o o1 o2 o3).trans (G9.2.2.1 o (by omega) (by omega) o4 o5 o5)) (fun q hq => (congrFun (h1 (z + 11) (by omega) (by omega) (by omega)) q).trans (G9.2.2.2 q hq)) (fun q => ?_) (fun q => ?_)
            · rw [← ux]; exact (congrFun E3 _).symm
            · rw [← uy]; exact (congrFun E3 _).symm
            · rw [h2, congrFun (G9.2.2.1 (z + 1) (by omega) (by omega) (by omega) (by omega) (by omega)) q]
            · rw [h1 (z + 3) (by omega) (by omega) (by omega), ha9, updC_if, updC_if, congrFun E3 q]
          · have B8 := G2.bd X2 (by omega) hb8
            show Ev X _ _ 64 [Vr 114, Vi ((i2 : Nat) : Int), Vi (-1)] [Vi v8] ((SHv st dr (z : Int)), (ovl a8 s b)) _
            refine Ev.call (k := 5) (pc1 := 71) (L1 := [Vr 114, Vi ((i2 : Nat) : Int), Vi v8]) (S1 := [Vi v8, Vi ((i2 : Nat) : Int), Vr (z : Int)]) (h1 := ((SHv st dr (z : Int)), (ovl a8 s b))) (m' := 40) (as := [Vr (z : Int), Vi ((i2 : Nat) : Int), Vi v8]) (S' := []) (L0 := [Vr (z : Int), Vi ((i2 : Nat) : Int), Vi v8]) (fun _ => rfl) rfl rfl rfl rfl (stpC_of rfl (pm_recv_of (by omega) (shY_0 hz))) rfl (c_addDoor_br hz ((i2 : Nat) : Int) v8) (fun r h' hq => ?_)
            obtain ⟨rfl, a10, rfl, hf10⟩ := hq
            have B10 := B8.st3 hz hf10
            show Ev X _ _ 74 [Vr 114, Vi ((i2 : Nat) : Int), Vi v8] [] ((SHv st dr (z : Int)), (ovl a10 s b)) _
            refine Ev.fin (k := 1) (r := none) (h' := ((SHv st dr (z : Int)), (ovl a10 s b))) (fun _ => rfl) ?_
            refine ⟨rfl, _, rfl, ?_⟩
            unfold dooT
            rw [hx1, bnX_o, hx2, bnX_o]
            dsimp only
            rw [doo_eq (fun g => by
              first
                | (exact absurd g.1 (by omega))
                | (refine c40 ⟨by omega, ?_, ?_⟩
                   · rw [show nmI S.1 0 (tV W p2) = ((nmd S.1 0 (tV W p2) : Nat) : Int) from if_pos g.2.1]
                     omega
                   · rw [show nmI S.1 0 (tV W p2) = ((nmd S.1 0 (tV W p2) : Nat) : Int) from if_pos g.2.1, Int.toNat_natCast, Int.toNat_natCast]
                     exact g.2.2)), hx8, bnX_e]
            exact Or.inr ⟨_, rfl, B10⟩
    · have B2 := G1.bd X1 (by omega) hb2
      show Ev X _ _ 10 [Vr 114, Vx, Vx] [Vi v2] ((SHv st dr (z : Int)), (ovl a2 s b)) _
      refine Ev.steps (k := 5) (pc' := 17) (L' := [Vr 114, Vi v2, Vi (-1)]) (S' := [Vi (a2 114 5)]) (h' := ((SHv st dr (z : Int)), (ovl a2 s b))) (fun _ => rfl) ?_
      rw [B2.2.2.1.2.2.2]
      refine Ev.call (k := 5) (pc1 := 61) (L1 := [Vr 114, Vi v2, Vi (-1)]) (S1 := [Vi v2, Vi 0, Vr 114]) (h1 := ((SHv st dr (z : Int)), (ovl a2 s b))) (m' := 38) (as := [Vr 114, Vi 0, Vi v2]) (S' := []) (L0 := [Vr 114, Vi 0, Vi v2, Vx]) (fun _ => rfl) rfl rfl rfl rfl rfl rfl (c_asked_br B2.2.2.1 0 v2) (fun r h' hq => ?_)
      obtain ⟨rfl, rfl⟩ := hq
      show Ev X _ _ 64 [Vr 114, Vi v2, Vi (-1)] [Vi (-1)] ((SHv st dr (z : Int)), (ovl a2 s b)) _
      refine Ev.call (k := 5) (pc1 := 71) (L1 := [Vr 114, Vi v2, Vi (-1)]) (S1 := [Vi (-1), Vi v2, Vr (z : Int)]) (h1 := ((SHv st dr (z : Int)), (ovl a2 s b))) (m' := 40) (as := [Vr (z : Int), Vi v2, Vi (-1)]) (S' := []) (L0 := [Vr (z : Int), Vi v2, Vi (-1)]) (fun _ => rfl) rfl rfl rfl rfl (stpC_of rfl (pm_recv_of (by omega) (shY_0 hz))) rfl (c_addDoor_br hz v2 (-1)) (fun r h' hq => ?_)
      obtain ⟨rfl, a11, rfl, hf11⟩ := hq
      have B11 := B2.st3 hz hf11
      show Ev X _ _ 74 [Vr 114, Vi v2, Vi (-1)] [] ((SHv st dr (z : Int)), (ovl a11 s b)) _
      refine Ev.fin (k := 1) (r := none) (h' := ((SHv st dr (z : Int)), (ovl a11 s b))) (fun _ => rfl) ?_
      refine ⟨rfl, _, rfl, ?_⟩
      unfold dooT
      rw [hx1, bnX_o, hx2, bnX_e]
      exact Or.inr ⟨_, rfl, B11⟩
  · have B1 := G0.bd X0 (by omega) hb1
    show Ev X _ _ 4 [Vr 114, Vx, Vx] [] ((SHv st dr (z : Int)), (ovl a1 s b)) _
    refine Ev.call (k := 3) (pc1 := 7) (L1 := [Vr 114, Vx, Vx]) (S1 := [Vi (-1), Vi 0, Vr 114]) (h1 := ((SHv st dr (z : Int)), (ovl a1 s b))) (m' := 38) (as := [Vr 114, Vi 0, Vi (-1)]) (S' := []) (L0 := [Vr 114, Vi 0, Vi (-1), Vx]) (fun _ => rfl) rfl rfl rfl rfl rfl rfl (c_asked_br B1.2.2.1 0 (-1)) (fun r h' hq => ?_)
    obtain ⟨rfl, rfl⟩ := hq
    show Ev X _ _ 10 [Vr 114, Vx, Vx] [Vi (-1)] ((SHv st dr (z : Int)), (ovl a1 s b)) _
    refine Ev.steps (k := 5) (pc' := 17) (L' := [Vr 114, Vi (-1), Vi (-1)]) (S' := [Vi (a1 114 5)]) (h' := ((SHv st dr (z : Int)), (ovl a1 s b))) (fun _ => rfl) ?_
    rw [B1.2.2.1.2.2.2]
    refine Ev.call (k := 5) (pc1 := 61) (L1 := [Vr 114, Vi (-1), Vi (-1)]) (S1 := [Vi (-1), Vi 0, Vr 114]) (h1 := ((SHv st dr (z : Int)), (ovl a1 s b))) (m' := 38) (as := [Vr 114, Vi 0, Vi (-1)]) (S' := []) (L0 := [Vr 114, Vi 0, Vi (-1), Vx]) (fun _ => rfl) rfl rfl rfl rfl rfl rfl (c_asked_br B1.2.2.1 0 (-1)) (fun r h' hq => ?_)
    obtain ⟨rfl, rfl⟩ := hq
    show Ev X _ _ 64 [Vr 114, Vi (-1), Vi (-1)] [Vi (-1)] ((SHv st dr (z : Int)), (ovl a1 s b)) _
    refine Ev.call (k := 5) (pc1 := 71) (L1 := [Vr 114, Vi (-1), Vi (-1)]) (S1 := [Vi (-1), Vi (-1), Vr (z : Int)]) (h1 := ((SHv st dr (z : Int)), (ovl a1 s b))) (m' := 40) (as := [Vr (z : Int), Vi (-1), Vi (-1)]) (S' := []) (L0 := [Vr (z : Int), Vi (-1), Vi (-1)]) (fun _ => rfl) rfl rfl rfl rfl (stpC_of rfl (pm_recv_of (by omega) (shY_0 hz))) rfl (c_addDoor_br hz (-1) (-1)) (fun r h' hq => ?_)
    obtain ⟨rfl, a12, rfl, hf12⟩ := hq
    have B12 := B1.st3 hz hf12
    show Ev X _ _ 74 [Vr 114, Vi (-1), Vi (-1)] [] ((SHv st dr (z : Int)), (ovl a12 s b)) _
    refine Ev.fin (k := 1) (r := none) (h' := ((SHv st dr (z : Int)), (ovl a12 s b))) (fun _ => rfl) ?_
    refine ⟨rfl, _, rfl, ?_⟩
    unfold dooT
    rw [hx1, bnX_e]
    exact Or.inr ⟨_, rfl, B12⟩
