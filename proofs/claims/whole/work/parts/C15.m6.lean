/-! THE CLASS: the diary of the evening that is kept (119; its diary 133) -/
/-- trace i, as the diary has it -/
abbrev TrN (c : SC) (i : Nat) (v : Int) : Prop := ∃ m k w p r z : Nat, m < 256 ∧ k < 4 ∧ w < 8 ∧ p < 8 ∧ r < 8 ∧ z < 256 ∧ c 6 (6 * i) = (m : Int) ∧ c 6 (6 * i + 1) = (k : Int) ∧ c 6 (6 * i + 2) = (w : Int) ∧ c 6 (6 * i + 3) = (p : Int) ∧ c 6 (6 * i + 4) = (r : Int) ∧ c 6 (6 * i + 5) + 1 = (z : Int) ∧ v = ((m + k * 256 + w * 1024 + p * 8192 + r * 65536 + z * 524288 : Nat) : Int)
def TrC (c a : SC) : Prop := a 133 5 = c 7 0 ∧ ∀ i, i < (c 7 0).toNat → TrN c i (a 136 i)
theorem TrC.cg {c c' a a' : SC} (h : TrC c a) (h5 : a' 133 5 = a 133 5) (h6 : a' 136 = a 136) (e6 : c' 6 = c 6) (e7 : c' 7 = c 7) : TrC c' a' := by
  unfold TrC TrN at *
  rw [h5, h6, e6, e7]
  exact h
theorem or_add {x y k : Nat} (h : x < 2 ^ k) : x ||| y * 2 ^ k = x + y * 2 ^ k := by
  have := Nat.two_pow_add_eq_or_of_lt h y
  rw [Nat.mul_comm] at this
  rw [Nat.or_comm, ← this, Nat.add_comm]
theorem tr_or {x y k : Nat} (hk : k < 32) (h : x < 2 ^ k) (h2 : x + y * 2 ^ k < 2147483648) : i_or (x : Int) (i_shl (y : Int) (k : Int)) = ((x + y * 2 ^ k : Nat) : Int) := by
  have h1 : 2 ^ k ≤ 2 ^ 31 := Nat.pow_le_pow_right (by omega) (by omega)
  rw [i_shl_nat hk (by omega), i_or_nat (by omega) (by omega), or_add h]
theorem tr_or' {x y k : Nat} {kk : Int} {n : Nat} (hkk : kk = (k : Int)) (hk : k < 32) (h : x < 2 ^ k) (h2 : x + y * 2 ^ k < 2147483648) (hn : n = x + y * 2 ^ k) : i_or (x : Int) (i_shl (y : Int) kk) = (n : Int) := by
  rw [hkk, hn]
  exact tr_or hk h h2
theorem TrC.leav {c a : SC} {kd : Nat} {w p r m : Nat} {a' : SC} (h : TrC c a) (h7 : 0 ≤ c 7 0) (hk : kd < 4) (hw : w < 8) (hp : p < 8) (hr : r < 8) (hm : m < 256) (h0 : c 0 p = (r : Int)) (h5 : c 5 0 = (m : Int))
    (ha5 : a' 133 5 = c 7 0 + 1) (ha : ∀ i, i < (c 7 0).toNat → a' 136 i = a 136 i) (hn : a' 136 (c 7 0).toNat = ((m + kd * 256 + w * 1024 + p * 8192 + r * 65536 : Nat) : Int)) : TrC (leavS c (kd : Int) (w : Int) p) a' := by
  refine ⟨by rw [leavS_7]; exact ha5, fun i hi => ?_⟩
  rw [leavS_7] at hi
  by_cases g : i < (c 7 0).toNat
  · obtain ⟨m1, k1, w1, p1, r1, z1, g1, g2, g3, g4, g5, g6, e0, e1, e2, e3, e4, e5, e6⟩ := h.2 i g
    have l := fun j (hj : j < 6) => leavS_6 (c := c) (k := (kd : Int)) (w := (w : Int)) (p := p) g hj
    refine ⟨m1, k1, w1, p1, r1, z1, g1, g2, g3, g4, g5, g6, ?_, ?_, ?_, ?_, ?_, ?_, ?_⟩
    · have := l 0 (by omega); rw [Nat.add_zero] at this; rw [this]; exact e0
    · rw [l 1 (by omega)]; exact e1
    · rw [l 2 (by omega)]; exact e2
    · rw [l 3 (by omega)]; exact e3
    · rw [l 4 (by omega)]; exact e4
    · rw [l 5 (by omega)]; exact e5
    · rw [ha i g]; exact e6
  · obtain rfl : i = (c 7 0).toNat := by omega
    refine ⟨m, kd, w, p, r, 0, hm, hk, hw, hp, hr, by omega, ?_, ?_, ?_, ?_, ?_, ?_, ?_⟩
    · unfold leavS
      rw [updC_nt (by omega), updC_nt (by omega), updC_nt (by omega), updC_nt (by omega), updC_nt (by omega), updC_nt (by omega), updC_sm]
      exact h5
    · unfold leavS
      rw [updC_nt (by omega), updC_nt (by omega), updC_nt (by omega), updC_nt (by omega), updC_nt (by omega), updC_sm]
    · unfold leavS
      rw [updC_nt (by omega), updC_nt (by omega), updC_nt (by omega), updC_nt (by omega), updC_sm]
    · unfold leavS
      rw [updC_nt (by omega), updC_nt (by omega), updC_nt (by omega), updC_sm]
    · rw [leavS_64.1]; exact h0
    · rw [leavS_64.2]; rfl
    · rw [hn]
      congr 1
theorem d_noteTrace {X : List Int} {d : Nat} {st dr rd : Int} {a s b : C3} {y : Nat} (hy : hyS y) (r : Nat) (hr : r < 30) (n m kd w p q : Nat) (hn : n < 1440) (hm : m < 256) (hk : kd < 4) (hw : w < 8) (hp : p < 8) (hq : q < 8) (e5 : a 133 5 = (n : Int)) (em : a 120 6 = (m : Int)) (ew : a (y + 14 + r) 2 = (w : Int)) (ep : a (y + 14 + r) 1 = (p : Int)) (eq : a 121 p = (q : Int)) : Ev X d 100 0 [Vr 133, Vr 120, Vi (kd : Int), Vr ((y + 14 + r : Nat) : Int)] [] (SHv st dr rd, ovl a s b) (fun rr hh => rr = none ∧ hh = (SHv st dr rd, ovl (updC (updC a 136 n ((m + kd * 256 + w * 1024 + p * 8192 + q * 65536 : Nat) : Int)) 133 5 ((n : Int) + 1)) s b)) := by
  have hy0 : y = 2 ∨ y = 58 := hy
  refine Ev.steps (k := 2) (pc' := 4) (L' := [Vr 133, Vr 120, Vi (kd : Int), Vr ((y + 14 + r : Nat) : Int)]) (S' := [Vi (a 133 5)]) (h' := ((SHv st dr rd), (ovl a s b))) (fun _ => rfl) ?_
  rw [e5]
  refine Ev.ite (P := 1440 ≤ (n : Int)) (k := 4) (a := 81) (b := 12) (L' := [Vr 133, Vr 120, Vi (kd : Int), Vr ((y + 14 + r : Nat) : Int)]) (S' := []) (h' := ((SHv st dr rd), (ovl a s b))) (fun _ => rfl) (fun b9 => ?_) (fun b9 => ?_)
  · exfalso; omega
  · refine Ev.steps (k := 4) (pc' := 20) (L' := [Vr 133, Vr 120, Vi (kd : Int), Vr ((y + 14 + r : Nat) : Int)]) (S' := [Vi (a 133 5), Vr 136]) (h' := ((SHv st dr rd), (ovl a s b))) (fun _ => rfl) ?_
    rw [e5]
    refine Ev.steps (k := 2) (pc' := 24) (L' := [Vr 133, Vr 120, Vi (kd : Int), Vr ((y + 14 + r : Nat) : Int)]) (S' := [Vi (a 120 6), Vi (n : Int), Vr 136]) (h' := ((SHv st dr rd), (ovl a s b))) (fun _ => rfl) ?_
    rw [em]
    refine Ev.steps (k := 3) (pc' := 29) (L' := [Vr 133, Vr 120, Vi (kd : Int), Vr ((y + 14 + r : Nat) : Int)]) (S' := [Vi 1, Vr (-4), Vi (kd : Int), Vi (m : Int), Vi (n : Int), Vr 136]) (h' := ((SHv st dr rd), (ovl a s b))) (fun _ => rfl) ?_
    refine Ev.rald (v := 8) rfl (by decide) rfl (by decide) rfl ?_
    refine Ev.steps (k := 2) (pc' := 32) (L' := [Vr 133, Vr 120, Vi (kd : Int), Vr ((y + 14 + r : Nat) : Int)]) (S' := [Vi (i_or (m : Int) (i_shl (kd : Int) 8)), Vi (n : Int), Vr 136]) (h' := ((SHv st dr rd), (ovl a s b))) (fun _ => rfl) ?_
    rw [show (i_or (m : Int) (i_shl (kd : Int) 8)) = ((m + kd * 2 ^ 8 : Nat) : Int) from tr_or' (k := 8) rfl (by omega) (by omega) (by omega) rfl]
    refine Ev.steps (k := 1) (pc' := 33) (L' := [Vr 133, Vr 120, Vi (kd : Int), Vr ((y + 14 + r : Nat) : Int)]) (S' := [Vr ((y + 14 + r : Nat) : Int), Vi ((m + kd * 2 ^ 8 : Nat) : Int), Vi (n : Int), Vr 136]) (h' := ((SHv st dr rd), (ovl a s b))) (fun _ => rfl) ?_
    refine Ev.getf (v := (w : Int)) rfl rfl (by omega) (shRu hy (by omega)) rfl rfl ((ovl_rc (by omega)).trans (ew)) ?_
    refine Ev.steps (k := 2) (pc' := 40) (L' := [Vr 133, Vr 120, Vi (kd : Int), Vr ((y + 14 + r : Nat) : Int)]) (S' := [Vi 2, Vr (-4), Vi (w : Int), Vi ((m + kd * 2 ^ 8 : Nat) : Int), Vi (n : Int), Vr 136]) (h' := ((SHv st dr rd), (ovl a s b))) (fun _ => rfl) ?_
    refine Ev.rald (v := 10) rfl (by decide) rfl (by decide) rfl ?_
    refine Ev.steps (k := 2) (pc' := 43) (L' := [Vr 133, Vr 120, Vi (kd : Int), Vr ((y + 14 + r : Nat) : Int)]) (S' := [Vi (i_or ((m + kd * 2 ^ 8 : Nat) : Int) (i_shl (w : Int) 10)), Vi (n : Int), Vr 136]) (h' := ((SHv st dr rd), (ovl a s b))) (fun _ => rfl) ?_
    rw [show (i_or ((m + kd * 2 ^ 8 : Nat) : Int) (i_shl (w : Int) 10)) = ((m + kd * 2 ^ 8 + w * 2 ^ 10 : Nat) : Int) from tr_or' (k := 10) rfl (by omega) (by omega) (by omega) rfl]
    refine Ev.steps (k := 1) (pc' := 44) (L' := [Vr 133, Vr 120, Vi (kd : Int), Vr ((y + 14 + r : Nat) : Int)]) (S' := [Vr ((y + 14 + r : Nat) : Int), Vi ((m + kd * 2 ^ 8 + w * 2 ^ 10 : Nat) : Int), Vi (n : Int), Vr 136]) (h' := ((SHv st dr rd), (ovl a s b))) (fun _ => rfl) ?_
    refine Ev.getf (v := (p : Int)) rfl rfl (by omega) (shRu hy (by omega)) rfl rfl ((ovl_rc (by omega)).trans (ep)) ?_
    refine Ev.steps (k := 2) (pc' := 51) (L' := [Vr 133, Vr 120, Vi (kd : Int), Vr ((y + 14 + r : Nat) : Int)]) (S' := [Vi 3, Vr (-4), Vi (p : Int), Vi ((m + kd * 2 ^ 8 + w * 2 ^ 10 : Nat) : Int), Vi (n : Int), Vr 136]) (h' := ((SHv st dr rd), (ovl a s b))) (fun _ => rfl) ?_
    refine Ev.rald (v := 13) rfl (by decide) rfl (by decide) rfl ?_
    refine Ev.steps (k := 2) (pc' := 54) (L' := [Vr 133, Vr 120, Vi (kd : Int), Vr ((y + 14 + r : Nat) : Int)]) (S' := [Vi (i_or ((m + kd * 2 ^ 8 + w * 2 ^ 10 : Nat) : Int) (i_shl (p : Int) 13)), Vi (n : Int), Vr 136]) (h' := ((SHv st dr rd), (ovl a s b))) (fun _ => rfl) ?_
    rw [show (i_or ((m + kd * 2 ^ 8 + w * 2 ^ 10 : Nat) : Int) (i_shl (p : Int) 13)) = ((m + kd * 2 ^ 8 + w * 2 ^ 10 + p * 2 ^ 13 : Nat) : Int) from tr_or' (k := 13) rfl (by omega) (by omega) (by omega) rfl]
    refine Ev.steps (k := 3) (pc' := 59) (L' := [Vr 133, Vr 120, Vi (kd : Int), Vr ((y + 14 + r : Nat) : Int)]) (S' := [Vr ((y + 14 + r : Nat) : Int), Vr 121, Vi ((m + kd * 2 ^ 8 + w * 2 ^ 10 + p * 2 ^ 13 : Nat) : Int), Vi (n : Int), Vr 136]) (h' := ((SHv st dr rd), (ovl a s b))) (fun _ => rfl) ?_
    refine Ev.getf (v := (p : Int)) rfl rfl (by omega) (shRu hy (by omega)) rfl rfl ((ovl_rc (by omega)).trans (ep)) ?_
    refine Ev.iald (v := (q : Int)) rfl (by decide) rfl (by omega) (by omega) (eq) ?_
    refine Ev.steps (k := 2) (pc' := 67) (L' := [Vr 133, Vr 120, Vi (kd : Int), Vr ((y + 14 + r : Nat) : Int)]) (S' := [Vi 4, Vr (-4), Vi (q : Int), Vi ((m + kd * 2 ^ 8 + w * 2 ^ 10 + p * 2 ^ 13 : Nat) : Int), Vi (n : Int), Vr 136]) (h' := ((SHv st dr rd), (ovl a s b))) (fun _ => rfl) ?_
    refine Ev.rald (v := 16) rfl (by decide) rfl (by decide) rfl ?_
    refine Ev.steps (k := 2) (pc' := 70) (L' := [Vr 133, Vr 120, Vi (kd : Int), Vr ((y + 14 + r : Nat) : Int)]) (S' := [Vi (i_or ((m + kd * 2 ^ 8 + w * 2 ^ 10 + p * 2 ^ 13 : Nat) : Int) (i_shl (q : Int) 16)), Vi (n : Int), Vr 136]) (h' := ((SHv st dr rd), (ovl a s b))) (fun _ => rfl) ?_
    rw [show (i_or ((m + kd * 2 ^ 8 + w * 2 ^ 10 + p * 2 ^ 13 : Nat) : Int) (i_shl (q : Int) 16)) = ((m + kd * 256 + w * 1024 + p * 8192 + q * 65536 : Nat) : Int) from tr_or' (k := 16) rfl (by omega) (by omega) (by omega) (by omega)]
    refine Ev.iast (c' := (ovl (updC a 136 n ((m + kd * 256 + w * 1024 + p * 8192 + q * 65536 : Nat) : Int)) s b)) rfl (by decide) rfl (by omega) (by omega) (ovl_wc (by decide)) ?_
    refine Ev.steps (k := 3) (pc' := 76) (L' := [Vr 133, Vr 120, Vi (kd : Int), Vr ((y + 14 + r : Nat) : Int)]) (S' := [Vi (a 133 5), Vr 133]) (h' := ((SHv st dr rd), (ovl (updC a 136 n ((m + kd * 256 + w * 1024 + p * 8192 + q * 65536 : Nat) : Int)) s b))) (fun _ => rfl) ?_
    rw [e5]
    refine Ev.steps (k := 2) (pc' := 78) (L' := [Vr 133, Vr 120, Vi (kd : Int), Vr ((y + 14 + r : Nat) : Int)]) (S' := [Vi (w32 ((n : Int) + 1)), Vr 133]) (h' := ((SHv st dr rd), (ovl (updC a 136 n ((m + kd * 256 + w * 1024 + p * 8192 + q * 65536 : Nat) : Int)) s b))) (fun _ => rfl) ?_
    rw [show (w32 ((n : Int) + 1)) = ((n : Int) + 1) from w32_id (by unfold R32; omega)]
    refine Ev.putf (c' := (ovl (updC (updC a 136 n ((m + kd * 256 + w * 1024 + p * 8192 + q * 65536 : Nat) : Int)) 133 5 ((n : Int) + 1)) s b)) rfl (by decide) rfl rfl rfl (ovl_wc (by decide)) ?_
    refine Ev.fin (k := 1) (r := none) (h' := ((SHv st dr rd), (ovl (updC (updC a 136 n ((m + kd * 256 + w * 1024 + p * 8192 + q * 65536 : Nat) : Int)) 133 5 ((n : Int) + 1)) s b))) (fun _ => rfl) ?_
    exact ⟨rfl, rfl⟩
theorem tr_room {m k w p r z : Nat} (h1 : m < 256) (h2 : k < 4) (h3 : w < 8) (h4 : p < 8) (h5 : r < 8) (h6 : z < 256) : i_ushr ((m + k * 256 + w * 1024 + p * 8192 + r * 65536 + z * 524288 : Nat) : Int) 16 = ((r + 8 * z : Nat) : Int) := by
  rw [show (16 : Int) = ((16 : Nat) : Int) from rfl, i_ushr_nat (by omega) (by omega)]
  congr 1
  omega
theorem d_noteWiped_l {X : List Int} {d : Nat} {st dr rd : Int} {a s b : C3} {c : SC} (p : Nat) (q mm : Nat) (hq : q < 8) (hmm : mm < 180) (h7 : 0 ≤ c 7 0 ∧ c 7 0 ≤ 1440) (hp0 : c 0 p = (q : Int)) (h5 : c 5 0 = (mm : Int)) {a0 : C3} (hT : TrC c a0) (i : Nat) (hi : i ≤ (c 7 0).toNat) (hf : FrO 136 136 a0 a) (hv : ∀ j, (j < i → j < (c 7 0).toNat → TrN (wipS c p) j (a 136 j)) ∧ (i ≤ j → a 136 j = a0 136 j)) : Ev X d 101 2 [Vr 133, Vi (q : Int), Vi (mm : Int), Vi (i : Int)] [] (SHv st dr rd, ovl a s b) (fun rr hh => rr = none ∧ ∃ a' : C3, hh = (SHv st dr rd, ovl a' s b) ∧ FrO 136 136 a0 a' ∧ TrC (wipS c p) a') := by
  induction hkk : ((c 7 0).toNat - i) using Nat.strongRecOn generalizing i a with
  | ind kk ih =>
    have e5 : a 133 5 = c 7 0 := by rw [hf 133 (by omega)]; exact hT.1
    have hx : i < (c 7 0).toNat → ∃ m k w pp r z : Nat, (m < 256 ∧ k < 4 ∧ w < 8 ∧ pp < 8 ∧ r < 8 ∧ z < 256) ∧ (c 6 (6 * i) = (m : Int) ∧ c 6 (6 * i + 1) = (k : Int) ∧ c 6 (6 * i + 2) = (w : Int) ∧ c 6 (6 * i + 3) = (pp : Int) ∧ c 6 (6 * i + 4) = (r : Int) ∧ c 6 (6 * i + 5) + 1 = (z : Int)) ∧ a 136 i = ((m + k * 256 + w * 1024 + pp * 8192 + r * 65536 + z * 524288 : Nat) : Int) := fun h => by
      obtain ⟨m, k, w, pp, r, z, g1, g2, g3, g4, g5, g6, f0, f1, f2, f3, f4, f5, f6⟩ := hT.2 i h
      exact ⟨m, k, w, pp, r, z, ⟨g1, g2, g3, g4, g5, g6⟩, ⟨f0, f1, f2, f3, f4, f5⟩, ((hv i).2 (Nat.le_refl i)).trans f6⟩
    refine Ev.steps (k := 3) (pc' := 7) (L' := [Vr 133, Vi (q : Int), Vi (mm : Int), Vi (i : Int)]) (S' := [Vi (a 133 5), Vi (i : Int)]) (h' := ((SHv st dr rd), (ovl a s b))) (fun _ => rfl) ?_
    rw [e5]
    refine Ev.ite (P := (c 7 0) ≤ (i : Int)) (k := 1) (a := 59) (b := 10) (L' := [Vr 133, Vi (q : Int), Vi (mm : Int), Vi (i : Int)]) (S' := []) (h' := ((SHv st dr rd), (ovl a s b))) (fun _ => rfl) (fun b7 => ?_) (fun b7 => ?_)
    · refine Ev.fin (k := 1) (r := none) (h' := ((SHv st dr rd), (ovl a s b))) (fun _ => rfl) ?_
      refine ⟨rfl, a, rfl, hf, ?_, fun j hj => ?_⟩
      · rw [wipS_n (by omega)]; exact e5
      · rw [wipS_n (t := 7) (by omega)] at hj
        exact (hv j).1 (by omega) hj
    · obtain ⟨m, k, w, pp, r, z, ⟨g1, g2, g3, g4, g5, g6⟩, ⟨f0, f1, f2, f3, f4, f5⟩, hxa⟩ := hx (by omega)
      clear hx
      refine Ev.ite (P := 1440 ≤ (i : Int)) (k := 5) (a := 59) (b := 19) (L' := [Vr 133, Vi (q : Int), Vi (mm : Int), Vi (i : Int)]) (S' := []) (h' := ((SHv st dr rd), (ovl a s b))) (fun _ => rfl) (fun b16 => ?_) (fun b16 => ?_)
      · exfalso; omega
      · refine Ev.steps (k := 3) (pc' := 24) (L' := [Vr 133, Vi (q : Int), Vi (mm : Int), Vi (i : Int)]) (S' := [Vi (i : Int), Vr 136]) (h' := ((SHv st dr rd), (ovl a s b))) (fun _ => rfl) ?_
        refine Ev.iald (v := ((m + k * 256 + w * 1024 + pp * 8192 + r * 65536 + z * 524288 : Nat) : Int)) rfl (by decide) rfl (by omega) (by omega) (hxa) ?_
        refine Ev.steps (k := 2) (pc' := 29) (L' := [Vr 133, Vi (q : Int), Vi (mm : Int), Vi (i : Int)]) (S' := [Vi 4, Vr (-4), Vi ((m + k * 256 + w * 1024 + pp * 8192 + r * 65536 + z * 524288 : Nat) : Int)]) (h' := ((SHv st dr rd), (ovl a s b))) (fun _ => rfl) ?_
        refine Ev.rald (v := 16) rfl (by decide) rfl (by decide) rfl ?_
        refine Ev.steps (k := 1) (pc' := 31) (L' := [Vr 133, Vi (q : Int), Vi (mm : Int), Vi (i : Int)]) (S' := [Vi (i_ushr ((m + k * 256 + w * 1024 + pp * 8192 + r * 65536 + z * 524288 : Nat) : Int) 16)]) (h' := ((SHv st dr rd), (ovl a s b))) (fun _ => rfl) ?_
        rw [show (i_ushr ((m + k * 256 + w * 1024 + pp * 8192 + r * 65536 + z * 524288 : Nat) : Int) 16) = ((r + 8 * z : Nat) : Int) from tr_room g1 g2 g3 g4 g5 g6]
        refine Ev.ite (P := ((r + 8 * z : Nat) : Int) ≠ (q : Int)) (k := 2) (a := 53) (b := 35) (L' := [Vr 133, Vi (q : Int), Vi (mm : Int), Vi (i : Int)]) (S' := []) (h' := ((SHv st dr rd), (ovl a s b))) (fun _ => rfl) (fun b32 => ?_) (fun b32 => ?_)
        · refine Ev.steps (k := 1) (pc' := 56) (L' := [Vr 133, Vi (q : Int), Vi (mm : Int), Vi (w32 ((i : Int) + 1))]) (S' := []) (h' := ((SHv st dr rd), (ovl a s b))) (fun _ => rfl) ?_
          rw [show (w32 ((i : Int) + 1)) = ((i : Int) + 1) from w32_id (by unfold R32; omega)]
          refine Ev.steps (k := 1) (pc' := 2) (L' := [Vr 133, Vi (q : Int), Vi (mm : Int), Vi ((i : Int) + 1)]) (S' := []) (h' := ((SHv st dr rd), (ovl a s b))) (fun _ => rfl) ?_
          refine ih _ (by omega) (a := a) (i + 1) (by omega) (by first | exact hf | exact hf.up (by omega)) (fun j => ⟨fun hj hj2 => ?_, fun hj => ?_⟩) rfl
          · by_cases g : j = i
            · subst g
              first
                | (have hW : WipS c p j := ⟨by omega, by omega⟩
                   refine ⟨m, k, w, pp, r, mm + 1, g1, g2, g3, g4, g5, by omega, ?_, ?_, ?_, ?_, ?_, ?_, ?_⟩
                   · rw [show wipS c p 6 (6 * j) = c 6 (6 * j) by unfold wipS; rw [if_neg (by omega)]]; exact f0
                   · rw [show wipS c p 6 (6 * j + 1) = c 6 (6 * j + 1) by unfold wipS; rw [if_neg (by omega)]]; exact f1
                   · rw [show wipS c p 6 (6 * j + 2) = c 6 (6 * j + 2) by unfold wipS; rw [if_neg (by omega)]]; exact f2
                   · rw [show wipS c p 6 (6 * j + 3) = c 6 (6 * j + 3) by unfold wipS; rw [if_neg (by omega)]]; exact f3
                   · rw [wipS_64]; exact f4
                   · rw [wipS_65 hj2, if_pos hW, h5]; omega
                   · rw [updC_sm]
                     congr 1
                     have : z = 0 := by omega
                     subst this
                     omega)
                | (have hW : ¬ WipS c p j := fun h => by have h1 := h.1; have h2 := h.2; omega
                   refine ⟨m, k, w, pp, r, z, g1, g2, g3, g4, g5, g6, ?_, ?_, ?_, ?_, ?_, ?_, hxa⟩
                   · rw [show wipS c p 6 (6 * j) = c 6 (6 * j) by unfold wipS; rw [if_neg (by omega)]]; exact f0
                   · rw [show wipS c p 6 (6 * j + 1) = c 6 (6 * j + 1) by unfold wipS; rw [if_neg (by omega)]]; exact f1
                   · rw [show wipS c p 6 (6 * j + 2) = c 6 (6 * j + 2) by unfold wipS; rw [if_neg (by omega)]]; exact f2
                   · rw [show wipS c p 6 (6 * j + 3) = c 6 (6 * j + 3) by unfold wipS; rw [if_neg (by omega)]]; exact f3
                   · rw [wipS_64]; exact f4
                   · rw [wipS_65 hj2, if_neg hW]; exact f5)
            · try rw [updC_nt (by omega)]
              exact (hv j).1 (by omega) hj2
          · try rw [updC_nt (by omega)]
            exact (hv j).2 (by omega)
        · refine Ev.steps (k := 4) (pc' := 41) (L' := [Vr 133, Vi (q : Int), Vi (mm : Int), Vi (i : Int)]) (S' := [Vi (i : Int), Vr 136, Vi (i : Int), Vr 136]) (h' := ((SHv st dr rd), (ovl a s b))) (fun _ => rfl) ?_
          refine Ev.iald (v := ((m + k * 256 + w * 1024 + pp * 8192 + r * 65536 + z * 524288 : Nat) : Int)) rfl (by decide) rfl (by omega) (by omega) (hxa) ?_
          refine Ev.steps (k := 3) (pc' := 45) (L' := [Vr 133, Vi (q : Int), Vi (mm : Int), Vi (i : Int)]) (S' := [Vi (w32 ((mm : Int) + 1)), Vi ((m + k * 256 + w * 1024 + pp * 8192 + r * 65536 + z * 524288 : Nat) : Int), Vi (i : Int), Vr 136]) (h' := ((SHv st dr rd), (ovl a s b))) (fun _ => rfl) ?_
          rw [show (w32 ((mm : Int) + 1)) = ((mm + 1 : Nat) : Int) from (by unfold w32; omega)]
          refine Ev.steps (k := 2) (pc' := 49) (L' := [Vr 133, Vi (q : Int), Vi (mm : Int), Vi (i : Int)]) (S' := [Vi 5, Vr (-4), Vi ((mm + 1 : Nat) : Int), Vi ((m + k * 256 + w * 1024 + pp * 8192 + r * 65536 + z * 524288 : Nat) : Int), Vi (i : Int), Vr 136]) (h' := ((SHv st dr rd), (ovl a s b))) (fun _ => rfl) ?_
          refine Ev.rald (v := 19) rfl (by decide) rfl (by decide) rfl ?_
          refine Ev.steps (k := 2) (pc' := 52) (L' := [Vr 133, Vi (q : Int), Vi (mm : Int), Vi (i : Int)]) (S' := [Vi (i_or ((m + k * 256 + w * 1024 + pp * 8192 + r * 65536 + z * 524288 : Nat) : Int) (i_shl ((mm + 1 : Nat) : Int) 19)), Vi (i : Int), Vr 136]) (h' := ((SHv st dr rd), (ovl a s b))) (fun _ => rfl) ?_
          rw [show (i_or ((m + k * 256 + w * 1024 + pp * 8192 + r * 65536 + z * 524288 : Nat) : Int) (i_shl ((mm + 1 : Nat) : Int) 19)) = ((m + k * 256 + w * 1024 + pp * 8192 + r * 65536 + z * 524288 + (mm + 1) * 2 ^ 19 : Nat) : Int) from tr_or' (k := 19) rfl (by omega) (by omega) (by omega) rfl]
          refine Ev.iast (c' := (ovl (updC a 136 i ((m + k * 256 + w * 1024 + pp * 8192 + r * 65536 + z * 524288 + (mm + 1) * 2 ^ 19 : Nat) : Int)) s b)) rfl (by decide) rfl (by omega) (by omega) (ovl_wc (by decide)) ?_
          refine Ev.steps (k := 1) (pc' := 56) (L' := [Vr 133, Vi (q : Int), Vi (mm : Int), Vi (w32 ((i : Int) + 1))]) (S' := []) (h' := ((SHv st dr rd), (ovl (updC a 136 i ((m + k * 256 + w * 1024 + pp * 8192 + r * 65536 + z * 524288 + (mm + 1) * 2 ^ 19 : Nat) : Int)) s b))) (fun _ => rfl) ?_
          rw [show (w32 ((i : Int) + 1)) = ((i : Int) + 1) from w32_id (by unfold R32; omega)]
          refine Ev.steps (k := 1) (pc' := 2) (L' := [Vr 133, Vi (q : Int), Vi (mm : Int), Vi ((i : Int) + 1)]) (S' := []) (h' := ((SHv st dr rd), (ovl (updC a 136 i ((m + k * 256 + w * 1024 + pp * 8192 + r * 65536 + z * 524288 + (mm + 1) * 2 ^ 19 : Nat) : Int)) s b))) (fun _ => rfl) ?_
          refine ih _ (by omega) (a := (updC a 136 i ((m + k * 256 + w * 1024 + pp * 8192 + r * 65536 + z * 524288 + (mm + 1) * 2 ^ 19 : Nat) : Int))) (i + 1) (by omega) (by first | exact hf | exact hf.up (by omega)) (fun j => ⟨fun hj hj2 => ?_, fun hj => ?_⟩) rfl
          · by_cases g : j = i
            · subst g
              first
                | (have hW : WipS c p j := ⟨by omega, by omega⟩
                   refine ⟨m, k, w, pp, r, mm + 1, g1, g2, g3, g4, g5, by omega, ?_, ?_, ?_, ?_, ?_, ?_, ?_⟩
                   · rw [show wipS c p 6 (6 * j) = c 6 (6 * j) by unfold wipS; rw [if_neg (by omega)]]; exact f0
                   · rw [show wipS c p 6 (6 * j + 1) = c 6 (6 * j + 1) by unfold wipS; rw [if_neg (by omega)]]; exact f1
                   · rw [show wipS c p 6 (6 * j + 2) = c 6 (6 * j + 2) by unfold wipS; rw [if_neg (by omega)]]; exact f2
                   · rw [show wipS c p 6 (6 * j + 3) = c 6 (6 * j + 3) by unfold wipS; rw [if_neg (by omega)]]; exact f3
                   · rw [wipS_64]; exact f4
                   · rw [wipS_65 hj2, if_pos hW, h5]; omega
                   · rw [updC_sm]
                     congr 1
                     have : z = 0 := by omega
                     subst this
                     omega)
                | (have hW : ¬ WipS c p j := fun h => by have h1 := h.1; have h2 := h.2; omega
                   refine ⟨m, k, w, pp, r, z, g1, g2, g3, g4, g5, g6, ?_, ?_, ?_, ?_, ?_, ?_, hxa⟩
                   · rw [show wipS c p 6 (6 * j) = c 6 (6 * j) by unfold wipS; rw [if_neg (by omega)]]; exact f0
                   · rw [show wipS c p 6 (6 * j + 1) = c 6 (6 * j + 1) by unfold wipS; rw [if_neg (by omega)]]; exact f1
                   · rw [show wipS c p 6 (6 * j + 2) = c 6 (6 * j + 2) by unfold wipS; rw [if_neg (by omega)]]; exact f2
                   · rw [show wipS c p 6 (6 * j + 3) = c 6 (6 * j + 3) by unfold wipS; rw [if_neg (by omega)]]; exact f3
                   · rw [wipS_64]; exact f4
                   · rw [wipS_65 hj2, if_neg hW]; exact f5)
            · try rw [updC_nt (by omega)]
              exact (hv j).1 (by omega) hj2
          · try rw [updC_nt (by omega)]
            exact (hv j).2 (by omega)
theorem d_noteWiped {X : List Int} {d : Nat} {st dr rd : Int} {a s b : C3} {c : SC} (p : Nat) (q mm : Nat) (hq : q < 8) (hmm : mm < 180) (h7 : 0 ≤ c 7 0 ∧ c 7 0 ≤ 1440) (hp0 : c 0 p = (q : Int)) (h5 : c 5 0 = (mm : Int)) (hT : TrC c a) : Ev X d 101 0 [Vr 133, Vi (q : Int), Vi (mm : Int), Vx] [] (SHv st dr rd, ovl a s b) (fun rr hh => rr = none ∧ ∃ a' : C3, hh = (SHv st dr rd, ovl a' s b) ∧ FrO 136 136 a a' ∧ TrC (wipS c p) a') := by
  refine Ev.steps (k := 2) (pc' := 2) (L' := [Vr 133, Vi (q : Int), Vi (mm : Int), Vi 0]) (S' := []) (h' := ((SHv st dr rd), (ovl a s b))) (fun _ => rfl) ?_
  exact d_noteWiped_l p q mm hq hmm h7 hp0 h5 hT 0 (by omega) FrO.rf (fun j => ⟨fun h => absurd h (by omega), fun _ => rfl⟩)
