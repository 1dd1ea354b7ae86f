/-! THE CLASS READS: a step to the next token -/
theorem sg_1 {c : Int} (h : clsT c = 1) : sgC c = 97 := by
  unfold sgC
  rw [if_pos (cls_1.mp h)]
theorem sg_2 {c : Int} (h : clsT c = 2) : sgC c = 48 := by
  have := cls_2.mp h
  unfold sgC
  rw [if_neg (by omega), if_pos this]
theorem sg_0 {c : Int} (h : clsT c = 0) : sgC c = c ∧ c ≠ 97 ∧ c ≠ 48 := by
  have h1 : ¬ (97 ≤ c ∧ c ≤ 122) := fun g => by rw [cls_1.mpr g] at h; exact absurd h (by decide)
  have h2 : ¬ (48 ≤ c ∧ c ≤ 57) := fun g => by rw [cls_2.mpr g] at h; exact absurd h (by decide)
  refine ⟨?_, by omega, by omega⟩
  unfold sgC
  rw [if_neg h1, if_neg h2]
theorem sg_eq1 {c : Int} : sgC c = 97 ↔ clsT c = 1 := by
  rcases cls_3 (c := c) with h | h | h
  · have := sg_0 h
    rw [h, this.1]
    exact ⟨fun g => absurd g this.2.1, fun g => absurd g (by decide)⟩
  · rw [h, sg_1 h]
    exact ⟨fun _ => rfl, fun _ => rfl⟩
  · rw [h, sg_2 h]
    exact ⟨fun g => absurd g (by decide), fun g => absurd g (by decide)⟩
theorem sg_eq2 {c : Int} : sgC c = 48 ↔ clsT c = 2 := by
  rcases cls_3 (c := c) with h | h | h
  · have := sg_0 h
    rw [h, this.1]
    exact ⟨fun g => absurd g this.2.2, fun g => absurd g (by decide)⟩
  · rw [h, sg_1 h]
    exact ⟨fun g => absurd g (by decide), fun g => absurd g (by decide)⟩
  · rw [h, sg_2 h]
    exact ⟨fun _ => rfl, fun _ => rfl⟩
theorem c_signAt_c {X : List Int} {d : Nat} {st dr rd : Int} {a s b : C3} {W : TXT} (hB : BaC W a) (j : Nat) (hj : j < W.2) {v : Int} (hv : sgC (W.1 j) = v) : Ev X d 28 0 [Vr 114, Vi (j : Int)] [] (SHv st dr rd, ovl a s b) (fun rr hh => rr = some (Vi v) ∧ hh = (SHv st dr rd, ovl a s b)) := by
  rw [← hv]
  exact c_signAt hB j hj
def bfT (W : TXT) (p : Nat) : Int := if p = 0 then -1 else sgC (W.1 (p - 1))
theorem c_signAt_p {X : List Int} {d : Nat} {st dr rd : Int} {a s b : C3} {W : TXT} (hB : BaC W a) (p : Nat) (hp : p ≤ W.2) : Ev X d 28 0 [Vr 114, Vi ((p : Int) - 1)] [] (SHv st dr rd, ovl a s b) (fun rr hh => rr = some (Vi (bfT W p)) ∧ hh = (SHv st dr rd, ovl a s b)) := by
  unfold bfT
  by_cases h : p = 0
  · rw [if_pos h]
    exact c_signAt_no hB _ (Or.inl (by omega))
  · rw [if_neg h, show (p : Int) - 1 = ((p - 1 : Nat) : Int) by omega]
    exact c_signAt hB (p - 1) (by omega)
theorem bf_iff {W : TXT} {p q : Nat} (hq : skpT W p = q) : (q = p ∧ (bfT W p = 97 ∨ bfT W p = 48)) ↔ (0 < q ∧ clsT (W.1 (q - 1)) ≠ 0) := by
  have hge := skp_ge (W := W) (p := p)
  constructor
  · rintro ⟨rfl, h⟩
    unfold bfT at h
    by_cases h0 : q = 0
    · rw [if_pos h0] at h
      exact absurd h (by omega)
    · rw [if_neg h0, sg_eq1, sg_eq2] at h
      exact ⟨by omega, by omega⟩
  · rintro ⟨h1, h2⟩
    by_cases h : q = p
    · refine ⟨h, ?_⟩
      unfold bfT
      rw [if_neg (by omega), sg_eq1, sg_eq2, ← h]
      have := cls_3 (c := W.1 (q - 1))
      omega
    · exfalso
      have h3 := skp_bl (W := W) (p := p) (i := q - 1) (by omega) (by omega)
      apply h2
      unfold clsT
      rw [if_neg (by omega), if_neg (by omega)]
theorem c_step_let {X : List Int} {d : Nat} {st dr rd : Int} {a s b : C3} {W : TXT} {a0 : C3} {p q : Nat} (hp : p ≤ W.2) (hq : skpT W p = q) (bf : Int) (hn : q < W.2) (h0 : clsT (W.1 q) = 1) (hb : ¬ (0 < q ∧ clsT (W.1 (q - 1)) ≠ 0)) (k : Nat) (hk : k ≤ 6) (hqk : q + k ≤ W.2) (hcl : ∀ i, i < k → clsT (W.1 (q + i)) = 1) (hB : BaC W a) (e9 : a 114 9 = 0) (e10 : a 114 10 = -1) (hF : FrO 114 114 a0 a) (h8 : a 114 8 = a0 114 8) (e3 : a 114 3 = ((q + k : Nat) : Int)) (e6 : a 114 6 = (q : Int)) (e7 : a 114 7 = ((cvF (vlT W 256 0 q k) 6 : Nat) : Int)) : Ev X (d + 1) 27 189 [Vr 114, Vi (p : Int), Vi bf, Vi 97, Vi 6] [] (SHv st dr rd, ovl a s b) (fun rr hh => rr = none ∧ ∃ a' : C3, hh = (SHv st dr rd, ovl a' s b) ∧ StpC W p a0 a') := by
  induction hkk : (6 - k) using Nat.strongRecOn generalizing k a with
  | ind kk ih =>
    have h1200 := hB.1.1
    have e2 : a 114 2 = ((W.2 : Nat) : Int) := hB.2.2.2
    obtain ⟨v, hv⟩ : ∃ v, v = cvF (vlT W 256 0 q k) 6 := ⟨_, rfl⟩
    have e7v : a 114 7 = (v : Int) := by rw [hv]; exact e7
    have hvd : vdN k (vlT W 256 0 q k) := vl_vd k hcl
    have hvl : v < 32 ^ k := by
      rw [hv, cvF_le hvd (by omega)]
      exact cvF_lt _ _
    have hv5 : k < 6 → v < 33554432 := fun hk => by
      have : 32 ^ k ≤ 32 ^ 5 := Nat.pow_le_pow_right (by omega) (by omega)
      omega
    clear hvl
    refine Ev.steps (k := 2) (pc' := 193) (L' := [Vr 114, Vi (p : Int), Vi bf, Vi 97, Vi 6]) (S' := [Vi (a 114 3)]) (h' := ((SHv st dr rd), (ovl a s b))) (fun _ => rfl) ?_
    rw [e3]
    refine Ev.steps (k := 2) (pc' := 197) (L' := [Vr 114, Vi (p : Int), Vi bf, Vi 97, Vi 6]) (S' := [Vi (a 114 2), Vi ((q + k : Nat) : Int)]) (h' := ((SHv st dr rd), (ovl a s b))) (fun _ => rfl) ?_
    rw [e2]
    refine Ev.ite (P := ((W.2 : Nat) : Int) ≤ ((q + k : Nat) : Int)) (k := 1) (a := 303) (b := 200) (L' := [Vr 114, Vi (p : Int), Vi bf, Vi 97, Vi 6]) (S' := []) (h' := ((SHv st dr rd), (ovl a s b))) (fun _ => rfl) (fun b197 => ?_) (fun b197 => ?_)
    · refine Ev.call (k := 5) (pc1 := 311) (L1 := [Vr 114, Vi (p : Int), Vi bf, Vi 97, Vi 6]) (S1 := [Vr 114, Vr 114]) (h1 := ((SHv st dr rd), (ovl a s b))) (m' := 30) (as := [Vr 114]) (S' := [Vr 114]) (L0 := [Vr 114, Vx]) (fun _ => rfl) rfl rfl rfl rfl rfl rfl (c_wordToken hB (vlT W 256 0 q k) (vdN_le hvd (by omega)) e7) (fun r h' hq => ?_)
      obtain ⟨rfl, rfl⟩ := hq
      show Ev X _ _ 314 [Vr 114, Vi (p : Int), Vi bf, Vi 97, Vi 6] [Vi ((tcW (vlT W 256 0 q k) : Nat) : Int), Vr 114] ((SHv st dr rd), (ovl a s b)) _
      refine Ev.steps (k := 1) (pc' := 320) (L' := [Vr 114, Vi (p : Int), Vi bf, Vi 97, Vi 6]) (S' := [Vi ((tcW (vlT W 256 0 q k) : Nat) : Int), Vr 114]) (h' := ((SHv st dr rd), (ovl a s b))) (fun _ => rfl) ?_
      refine Ev.putf (c' := (ovl (updC a 114 5 ((tcW (vlT W 256 0 q k) : Nat) : Int)) s b)) rfl (by decide) rfl rfl rfl (ovl_wc (by decide)) ?_
      refine Ev.fin (k := 1) (r := none) (h' := ((SHv st dr rd), (ovl (updC a 114 5 ((tcW (vlT W 256 0 q k) : Nat) : Int)) s b))) (fun _ => rfl) ?_
      have hr : runT W q = k := run_uq (fun i hi => (hcl i hi).trans h0.symm) (fun h => by
        rw [h0]
        first
          | (exfalso; omega)
          | exact fun g => b209 (sg_eq1.mpr g)) hqk
      have ht := tok_wrd hq hn h0 hb hr hk
      refine ⟨rfl, _, rfl, (hF.up (by omega)), h8, Or.inl (TkC.mk ht (hB.fo rfl rfl rfl) e9 e10 e3 rfl e6 (fun h => by rcases tcW_cs (vlT W 256 0 q k) with g | g <;> omega) hp (fun _ => e7) (fun h => by rcases tcW_cs (vlT W 256 0 q k) with g | g <;> omega))⟩
    · refine Ev.steps (k := 3) (pc' := 205) (L' := [Vr 114, Vi (p : Int), Vi bf, Vi 97, Vi 6]) (S' := [Vi (a 114 3), Vr 114]) (h' := ((SHv st dr rd), (ovl a s b))) (fun _ => rfl) ?_
      rw [e3]
      refine Ev.call (k := 0) (pc1 := 205) (L1 := [Vr 114, Vi (p : Int), Vi bf, Vi 97, Vi 6]) (S1 := [Vi ((q + k : Nat) : Int), Vr 114]) (h1 := ((SHv st dr rd), (ovl a s b))) (m' := 28) (as := [Vr 114, Vi ((q + k : Nat) : Int)]) (S' := []) (L0 := [Vr 114, Vi ((q + k : Nat) : Int)]) (fun _ => rfl) rfl rfl rfl rfl rfl rfl (c_signAt hB (q + k) (by omega)) (fun r h' hq => ?_)
      obtain ⟨rfl, rfl⟩ := hq
      show Ev X _ _ 208 [Vr 114, Vi (p : Int), Vi bf, Vi 97, Vi 6] [Vi (sgC (W.1 (q + k)))] ((SHv st dr rd), (ovl a s b)) _
      refine Ev.ite (P := (sgC (W.1 (q + k))) ≠ 97) (k := 2) (a := 303) (b := 212) (L' := [Vr 114, Vi (p : Int), Vi bf, Vi 97, Vi 6]) (S' := []) (h' := ((SHv st dr rd), (ovl a s b))) (fun _ => rfl) (fun b209 => ?_) (fun b209 => ?_)
      · refine Ev.call (k := 5) (pc1 := 311) (L1 := [Vr 114, Vi (p : Int), Vi bf, Vi 97, Vi 6]) (S1 := [Vr 114, Vr 114]) (h1 := ((SHv st dr rd), (ovl a s b))) (m' := 30) (as := [Vr 114]) (S' := [Vr 114]) (L0 := [Vr 114, Vx]) (fun _ => rfl) rfl rfl rfl rfl rfl rfl (c_wordToken hB (vlT W 256 0 q k) (vdN_le hvd (by omega)) e7) (fun r h' hq => ?_)
        obtain ⟨rfl, rfl⟩ := hq
        show Ev X _ _ 314 [Vr 114, Vi (p : Int), Vi bf, Vi 97, Vi 6] [Vi ((tcW (vlT W 256 0 q k) : Nat) : Int), Vr 114] ((SHv st dr rd), (ovl a s b)) _
        refine Ev.steps (k := 1) (pc' := 320) (L' := [Vr 114, Vi (p : Int), Vi bf, Vi 97, Vi 6]) (S' := [Vi ((tcW (vlT W 256 0 q k) : Nat) : Int), Vr 114]) (h' := ((SHv st dr rd), (ovl a s b))) (fun _ => rfl) ?_
        refine Ev.putf (c' := (ovl (updC a 114 5 ((tcW (vlT W 256 0 q k) : Nat) : Int)) s b)) rfl (by decide) rfl rfl rfl (ovl_wc (by decide)) ?_
        refine Ev.fin (k := 1) (r := none) (h' := ((SHv st dr rd), (ovl (updC a 114 5 ((tcW (vlT W 256 0 q k) : Nat) : Int)) s b))) (fun _ => rfl) ?_
        have hr : runT W q = k := run_uq (fun i hi => (hcl i hi).trans h0.symm) (fun h => by
          rw [h0]
          first
            | (exfalso; omega)
            | exact fun g => b209 (sg_eq1.mpr g)) hqk
        have ht := tok_wrd hq hn h0 hb hr hk
        refine ⟨rfl, _, rfl, (hF.up (by omega)), h8, Or.inl (TkC.mk ht (hB.fo rfl rfl rfl) e9 e10 e3 rfl e6 (fun h => by rcases tcW_cs (vlT W 256 0 q k) with g | g <;> omega) hp (fun _ => e7) (fun h => by rcases tcW_cs (vlT W 256 0 q k) with g | g <;> omega))⟩
      · refine Ev.steps (k := 2) (pc' := 216) (L' := [Vr 114, Vi (p : Int), Vi bf, Vi 97, Vi 6]) (S' := [Vi (a 114 3)]) (h' := ((SHv st dr rd), (ovl a s b))) (fun _ => rfl) ?_
        rw [e3]
        refine Ev.steps (k := 2) (pc' := 220) (L' := [Vr 114, Vi (p : Int), Vi bf, Vi 97, Vi 6]) (S' := [Vi (a 114 6), Vi ((q + k : Nat) : Int)]) (h' := ((SHv st dr rd), (ovl a s b))) (fun _ => rfl) ?_
        rw [e6]
        refine Ev.steps (k := 1) (pc' := 221) (L' := [Vr 114, Vi (p : Int), Vi bf, Vi 97, Vi 6]) (S' := [Vi (w32 (((q + k : Nat) : Int) - (q : Int)))]) (h' := ((SHv st dr rd), (ovl a s b))) (fun _ => rfl) ?_
        rw [show (w32 (((q + k : Nat) : Int) - (q : Int))) = (k : Int) from (by unfold w32; omega)]
        refine Ev.ite (P := (k : Int) < 6) (k := 2) (a := 236) (b := 226) (L' := [Vr 114, Vi (p : Int), Vi bf, Vi 97, Vi 6]) (S' := []) (h' := ((SHv st dr rd), (ovl a s b))) (fun _ => rfl) (fun b223 => ?_) (fun b223 => ?_)
        · have hc1 : clsT (W.1 (q + k)) = 1 := sg_eq1.mp (Classical.not_not.mp b209)
          obtain ⟨c, hc⟩ : ∃ c, c = W.1 (q + k) := ⟨_, rfl⟩
          have hcr : 97 ≤ c ∧ c ≤ 122 := by rw [hc]; exact cls_1.mp hc1
          have h1 : a 1 (q + k) = c := by
            rw [hB.2.1 (q + k) (by omega), ← hc]
            unfold sbS
            rw [if_pos (by omega)]
          have hv6 := hv5 (by omega)
          refine Ev.steps (k := 6) (pc' := 247) (L' := [Vr 114, Vi (p : Int), Vi bf, Vi 97, Vi 6]) (S' := [Vi (a 114 7), Vr 114]) (h' := ((SHv st dr rd), (ovl a s b))) (fun _ => rfl) ?_
          rw [e7v]
          refine Ev.steps (k := 2) (pc' := 249) (L' := [Vr 114, Vi (p : Int), Vi bf, Vi 97, Vi 6]) (S' := [Vi (i_shl (v : Int) 5), Vr 114]) (h' := ((SHv st dr rd), (ovl a s b))) (fun _ => rfl) ?_
          rw [show (i_shl (v : Int) 5) = ((v * 32 : Nat) : Int) from (i_shl_nat (x := v) (k := 5) (by omega) (by omega))]
          refine Ev.steps (k := 4) (pc' := 257) (L' := [Vr 114, Vi (p : Int), Vi bf, Vi 97, Vi 6]) (S' := [Vi (a 114 3), Vr 1, Vi ((v * 32 : Nat) : Int), Vr 114]) (h' := ((SHv st dr rd), (ovl a s b))) (fun _ => rfl) ?_
          rw [e3]
          refine Ev.bald (v := c) rfl (by decide) rfl (by omega) (by omega) (h1) ?_
          refine Ev.steps (k := 1) (pc' := 259) (L' := [Vr 114, Vi (p : Int), Vi bf, Vi 97, Vi 6]) (S' := [Vi (w32 (((v * 32 : Nat) : Int) + c)), Vr 114]) (h' := ((SHv st dr rd), (ovl a s b))) (fun _ => rfl) ?_
          rw [show (w32 (((v * 32 : Nat) : Int) + c)) = (((v * 32 : Nat) : Int) + c) from w32_id (by unfold R32; omega)]
          refine Ev.steps (k := 2) (pc' := 262) (L' := [Vr 114, Vi (p : Int), Vi bf, Vi 97, Vi 6]) (S' := [Vi (w32 ((((v * 32 : Nat) : Int) + c) - 97)), Vr 114]) (h' := ((SHv st dr rd), (ovl a s b))) (fun _ => rfl) ?_
          rw [show (w32 ((((v * 32 : Nat) : Int) + c) - 97)) = ((((v * 32 : Nat) : Int) + c) - 97) from w32_id (by unfold R32; omega)]
          refine Ev.steps (k := 2) (pc' := 264) (L' := [Vr 114, Vi (p : Int), Vi bf, Vi 97, Vi 6]) (S' := [Vi (w32 (((((v * 32 : Nat) : Int) + c) - 97) + 1)), Vr 114]) (h' := ((SHv st dr rd), (ovl a s b))) (fun _ => rfl) ?_
          rw [show (w32 (((((v * 32 : Nat) : Int) + c) - 97) + 1)) = (((((v * 32 : Nat) : Int) + c) - 97) + 1) from w32_id (by unfold R32; omega)]
          refine Ev.steps (k := 1) (pc' := 287) (L' := [Vr 114, Vi (p : Int), Vi bf, Vi 97, Vi 6]) (S' := [Vi (((((v * 32 : Nat) : Int) + c) - 97) + 1), Vr 114]) (h' := ((SHv st dr rd), (ovl a s b))) (fun _ => rfl) ?_
          refine Ev.putf (c' := (ovl (updC a 114 7 (((((v * 32 : Nat) : Int) + c) - 97) + 1)) s b)) rfl (by decide) rfl rfl rfl (ovl_wc (by decide)) ?_
          refine Ev.steps (k := 3) (pc' := 295) (L' := [Vr 114, Vi (p : Int), Vi bf, Vi 97, Vi 6]) (S' := [Vi (a 114 3), Vr 114]) (h' := ((SHv st dr rd), (ovl (updC a 114 7 (((((v * 32 : Nat) : Int) + c) - 97) + 1)) s b))) (fun _ => rfl) ?_
          rw [e3]
          refine Ev.steps (k := 2) (pc' := 297) (L' := [Vr 114, Vi (p : Int), Vi bf, Vi 97, Vi 6]) (S' := [Vi (w32 (((q + k : Nat) : Int) + 1)), Vr 114]) (h' := ((SHv st dr rd), (ovl (updC a 114 7 (((((v * 32 : Nat) : Int) + c) - 97) + 1)) s b))) (fun _ => rfl) ?_
          rw [show (w32 (((q + k : Nat) : Int) + 1)) = (((q + k : Nat) : Int) + 1) from w32_id (by unfold R32; omega)]
          refine Ev.putf (c' := (ovl (updC (updC a 114 7 (((((v * 32 : Nat) : Int) + c) - 97) + 1)) 114 3 (((q + k : Nat) : Int) + 1)) s b)) rfl (by decide) rfl rfl rfl (ovl_wc (by decide)) ?_
          refine Ev.steps (k := 1) (pc' := 189) (L' := [Vr 114, Vi (p : Int), Vi bf, Vi 97, Vi 6]) (S' := []) (h' := ((SHv st dr rd), (ovl (updC (updC a 114 7 (((((v * 32 : Nat) : Int) + c) - 97) + 1)) 114 3 (((q + k : Nat) : Int) + 1)) s b))) (fun _ => rfl) ?_
          refine ih _ (by omega) (a := (updC (updC a 114 7 (((((v * 32 : Nat) : Int) + c) - 97) + 1)) 114 3 (((q + k : Nat) : Int) + 1))) (k + 1) (by omega) (by omega) (fun i hi => ?_) (hB.fo rfl rfl rfl) e9 e10 ((hF.up (by omega)).up (by omega)) h8 ?_ e6 ?_ rfl
          · by_cases h : i = k
            · rw [h]; exact hc1
            · exact hcl i (by omega)
          · show ((q + k : Nat) : Int) + 1 = ((q + (k + 1) : Nat) : Int)
            omega
          · rw [vl_cv (fun i hi => by by_cases h : i = k; (· rw [h]; exact hc1); exact hcl i (by omega)) (by omega), ← hv, ← hc]
            show ((v * 32 : Nat) : Int) + c - 97 + 1 = _
            omega
        · refine Ev.steps (k := 4) (pc' := 232) (L' := [Vr 114, Vi (p : Int), Vi bf, Vi 97, Vi 6]) (S' := [Vi (a 114 3), Vi 1, Vr 114]) (h' := ((SHv st dr rd), (ovl a s b))) (fun _ => rfl) ?_
          rw [e3]
          refine Ev.call (k := 0) (pc1 := 232) (L1 := [Vr 114, Vi (p : Int), Vi bf, Vi 97, Vi 6]) (S1 := [Vi ((q + k : Nat) : Int), Vi 1, Vr 114]) (h1 := ((SHv st dr rd), (ovl a s b))) (m' := 29) (as := [Vr 114, Vi 1, Vi ((q + k : Nat) : Int)]) (S' := []) (L0 := [Vr 114, Vi 1, Vi ((q + k : Nat) : Int)]) (fun _ => rfl) rfl rfl rfl rfl rfl rfl (c_fail (a := a) e9 1 ((q + k : Nat) : Int)) (fun r h' hq => ?_)
          obtain ⟨rfl, rfl⟩ := hq
          show Ev X _ _ 235 [Vr 114, Vi (p : Int), Vi bf, Vi 97, Vi 6] [] ((SHv st dr rd), (ovl (updC (updC (updC a 114 9 1) 114 10 ((q + k : Nat) : Int)) 114 5 303) s b)) _
          refine Ev.fin (k := 1) (r := none) (h' := ((SHv st dr rd), (ovl (updC (updC (updC a 114 9 1) 114 10 ((q + k : Nat) : Int)) 114 5 303) s b))) (fun _ => rfl) ?_
          obtain rfl : k = 6 := by omega
          have ht := tok_wlg hq hn h0 hb (run_gt (r := 6) (by omega) (fun i hi => by
            by_cases h : i = 6
            · rw [h, h0]; exact sg_eq1.mp (Classical.not_not.mp b209)
            · rw [h0]; exact hcl i (by omega)))
          obtain ⟨t1, t2, t3, t4⟩ := tk_of ht
          refine ⟨rfl, _, rfl, (((hF.up (by omega)).up (by omega)).up (by omega)), h8, Or.inr ⟨t1, hB.fo rfl rfl rfl, ?_⟩⟩
          rw [t2]
          exact ⟨(by show (1 : Int) ≠ 0; decide), rfl, rfl, rfl⟩
theorem c_step_dig {X : List Int} {d : Nat} {st dr rd : Int} {a s b : C3} {W : TXT} {a0 : C3} {p q : Nat} (hp : p ≤ W.2) (hq : skpT W p = q) (bf : Int) (hn : q < W.2) (h0 : clsT (W.1 q) = 2) (hb : ¬ (0 < q ∧ clsT (W.1 (q - 1)) ≠ 0)) (k : Nat) (hk : k ≤ 4) (hqk : q + k ≤ W.2) (hcl : ∀ i, i < k → clsT (W.1 (q + i)) = 2) (hB : BaC W a) (e9 : a 114 9 = 0) (e10 : a 114 10 = -1) (hF : FrO 114 114 a0 a) (h8 : a 114 8 = a0 114 8) (e3 : a 114 3 = ((q + k : Nat) : Int)) (e6 : a 114 6 = (q : Int)) (e7 : a 114 7 = ((vlT W 10 48 q k : Nat) : Int)) : Ev X (d + 1) 27 189 [Vr 114, Vi (p : Int), Vi bf, Vi 48, Vi 4] [] (SHv st dr rd, ovl a s b) (fun rr hh => rr = none ∧ ∃ a' : C3, hh = (SHv st dr rd, ovl a' s b) ∧ StpC W p a0 a') := by
  induction hkk : (4 - k) using Nat.strongRecOn generalizing k a with
  | ind kk ih =>
    have h1200 := hB.1.1
    have e2 : a 114 2 = ((W.2 : Nat) : Int) := hB.2.2.2
    obtain ⟨v, hv⟩ : ∃ v, v = vlT W 10 48 q k := ⟨_, rfl⟩
    have e7v : a 114 7 = (v : Int) := by rw [hv]; exact e7
    have hvl : v < 10 ^ k := by
      rw [hv]
      exact vl_10 k hcl
    have hv5 : k < 4 → v < 1000 := fun hk => by
      have : 10 ^ k ≤ 10 ^ 3 := Nat.pow_le_pow_right (by omega) (by omega)
      omega
    clear hvl
    refine Ev.steps (k := 2) (pc' := 193) (L' := [Vr 114, Vi (p : Int), Vi bf, Vi 48, Vi 4]) (S' := [Vi (a 114 3)]) (h' := ((SHv st dr rd), (ovl a s b))) (fun _ => rfl) ?_
    rw [e3]
    refine Ev.steps (k := 2) (pc' := 197) (L' := [Vr 114, Vi (p : Int), Vi bf, Vi 48, Vi 4]) (S' := [Vi (a 114 2), Vi ((q + k : Nat) : Int)]) (h' := ((SHv st dr rd), (ovl a s b))) (fun _ => rfl) ?_
    rw [e2]
    refine Ev.ite (P := ((W.2 : Nat) : Int) ≤ ((q + k : Nat) : Int)) (k := 1) (a := 303) (b := 200) (L' := [Vr 114, Vi (p : Int), Vi bf, Vi 48, Vi 4]) (S' := []) (h' := ((SHv st dr rd), (ovl a s b))) (fun _ => rfl) (fun b197 => ?_) (fun b197 => ?_)
    · refine Ev.steps (k := 5) (pc' := 320) (L' := [Vr 114, Vi (p : Int), Vi bf, Vi 48, Vi 4]) (S' := [Vi 301, Vr 114]) (h' := ((SHv st dr rd), (ovl a s b))) (fun _ => rfl) ?_
      refine Ev.putf (c' := (ovl (updC a 114 5 301) s b)) rfl (by decide) rfl rfl rfl (ovl_wc (by decide)) ?_
      refine Ev.fin (k := 1) (r := none) (h' := ((SHv st dr rd), (ovl (updC a 114 5 301) s b))) (fun _ => rfl) ?_
      have hr : runT W q = k := run_uq (fun i hi => (hcl i hi).trans h0.symm) (fun h => by
        rw [h0]
        first
          | (exfalso; omega)
          | exact fun g => b209 (sg_eq2.mpr g)) hqk
      have ht := tok_num hq hn h0 hb hr hk
      refine ⟨rfl, _, rfl, (hF.up (by omega)), h8, Or.inl (TkC.mk ht (hB.fo rfl rfl rfl) e9 e10 e3 rfl e6 (by decide) hp (fun h => absurd h (by decide)) (fun _ => e7))⟩
    · refine Ev.steps (k := 3) (pc' := 205) (L' := [Vr 114, Vi (p : Int), Vi bf, Vi 48, Vi 4]) (S' := [Vi (a 114 3), Vr 114]) (h' := ((SHv st dr rd), (ovl a s b))) (fun _ => rfl) ?_
      rw [e3]
      refine Ev.call (k := 0) (pc1 := 205) (L1 := [Vr 114, Vi (p : Int), Vi bf, Vi 48, Vi 4]) (S1 := [Vi ((q + k : Nat) : Int), Vr 114]) (h1 := ((SHv st dr rd), (ovl a s b))) (m' := 28) (as := [Vr 114, Vi ((q + k : Nat) : Int)]) (S' := []) (L0 := [Vr 114, Vi ((q + k : Nat) : Int)]) (fun _ => rfl) rfl rfl rfl rfl rfl rfl (c_signAt hB (q + k) (by omega)) (fun r h' hq => ?_)
      obtain ⟨rfl, rfl⟩ := hq
      show Ev X _ _ 208 [Vr 114, Vi (p : Int), Vi bf, Vi 48, Vi 4] [Vi (sgC (W.1 (q + k)))] ((SHv st dr rd), (ovl a s b)) _
      refine Ev.ite (P := (sgC (W.1 (q + k))) ≠ 48) (k := 2) (a := 303) (b := 212) (L' := [Vr 114, Vi (p : Int), Vi bf, Vi 48, Vi 4]) (S' := []) (h' := ((SHv st dr rd), (ovl a s b))) (fun _ => rfl) (fun b209 => ?_) (fun b209 => ?_)
      · refine Ev.steps (k := 5) (pc' := 320) (L' := [Vr 114, Vi (p : Int), Vi bf, Vi 48, Vi 4]) (S' := [Vi 301, Vr 114]) (h' := ((SHv st dr rd), (ovl a s b))) (fun _ => rfl) ?_
        refine Ev.putf (c' := (ovl (updC a 114 5 301) s b)) rfl (by decide) rfl rfl rfl (ovl_wc (by decide)) ?_
        refine Ev.fin (k := 1) (r := none) (h' := ((SHv st dr rd), (ovl (updC a 114 5 301) s b))) (fun _ => rfl) ?_
        have hr : runT W q = k := run_uq (fun i hi => (hcl i hi).trans h0.symm) (fun h => by
          rw [h0]
          first
            | (exfalso; omega)
            | exact fun g => b209 (sg_eq2.mpr g)) hqk
        have ht := tok_num hq hn h0 hb hr hk
        refine ⟨rfl, _, rfl, (hF.up (by omega)), h8, Or.inl (TkC.mk ht (hB.fo rfl rfl rfl) e9 e10 e3 rfl e6 (by decide) hp (fun h => absurd h (by decide)) (fun _ => e7))⟩
      · refine Ev.steps (k := 2) (pc' := 216) (L' := [Vr 114, Vi (p : Int), Vi bf, Vi 48, Vi 4]) (S' := [Vi (a 114 3)]) (h' := ((SHv st dr rd), (ovl a s b))) (fun _ => rfl) ?_
        rw [e3]
        refine Ev.steps (k := 2) (pc' := 220) (L' := [Vr 114, Vi (p : Int), Vi bf, Vi 48, Vi 4]) (S' := [Vi (a 114 6), Vi ((q + k : Nat) : Int)]) (h' := ((SHv st dr rd), (ovl a s b))) (fun _ => rfl) ?_
        rw [e6]
        refine Ev.steps (k := 1) (pc' := 221) (L' := [Vr 114, Vi (p : Int), Vi bf, Vi 48, Vi 4]) (S' := [Vi (w32 (((q + k : Nat) : Int) - (q : Int)))]) (h' := ((SHv st dr rd), (ovl a s b))) (fun _ => rfl) ?_
        rw [show (w32 (((q + k : Nat) : Int) - (q : Int))) = (k : Int) from (by unfold w32; omega)]
        refine Ev.ite (P := (k : Int) < 4) (k := 2) (a := 236) (b := 226) (L' := [Vr 114, Vi (p : Int), Vi bf, Vi 48, Vi 4]) (S' := []) (h' := ((SHv st dr rd), (ovl a s b))) (fun _ => rfl) (fun b223 => ?_) (fun b223 => ?_)
        · have hc1 : clsT (W.1 (q + k)) = 2 := sg_eq2.mp (Classical.not_not.mp b209)
          obtain ⟨c, hc⟩ : ∃ c, c = W.1 (q + k) := ⟨_, rfl⟩
          have hcr : 48 ≤ c ∧ c ≤ 57 := by rw [hc]; exact cls_2.mp hc1
          have h1 : a 1 (q + k) = c := by
            rw [hB.2.1 (q + k) (by omega), ← hc]
            unfold sbS
            rw [if_pos (by omega)]
          have hv6 := hv5 (by omega)
          refine Ev.steps (k := 6) (pc' := 271) (L' := [Vr 114, Vi (p : Int), Vi bf, Vi 48, Vi 4]) (S' := [Vi (a 114 7), Vr 114]) (h' := ((SHv st dr rd), (ovl a s b))) (fun _ => rfl) ?_
          rw [e7v]
          refine Ev.steps (k := 2) (pc' := 274) (L' := [Vr 114, Vi (p : Int), Vi bf, Vi 48, Vi 4]) (S' := [Vi (w32 ((v : Int) * 10)), Vr 114]) (h' := ((SHv st dr rd), (ovl a s b))) (fun _ => rfl) ?_
          rw [show (w32 ((v : Int) * 10)) = ((v : Int) * 10) from w32_id (by unfold R32; omega)]
          refine Ev.steps (k := 4) (pc' := 282) (L' := [Vr 114, Vi (p : Int), Vi bf, Vi 48, Vi 4]) (S' := [Vi (a 114 3), Vr 1, Vi ((v : Int) * 10), Vr 114]) (h' := ((SHv st dr rd), (ovl a s b))) (fun _ => rfl) ?_
          rw [e3]
          refine Ev.bald (v := c) rfl (by decide) rfl (by omega) (by omega) (h1) ?_
          refine Ev.steps (k := 1) (pc' := 284) (L' := [Vr 114, Vi (p : Int), Vi bf, Vi 48, Vi 4]) (S' := [Vi (w32 (((v : Int) * 10) + c)), Vr 114]) (h' := ((SHv st dr rd), (ovl a s b))) (fun _ => rfl) ?_
          rw [show (w32 (((v : Int) * 10) + c)) = (((v : Int) * 10) + c) from w32_id (by unfold R32; omega)]
          refine Ev.steps (k := 2) (pc' := 287) (L' := [Vr 114, Vi (p : Int), Vi bf, Vi 48, Vi 4]) (S' := [Vi (w32 ((((v : Int) * 10) + c) - 48)), Vr 114]) (h' := ((SHv st dr rd), (ovl a s b))) (fun _ => rfl) ?_
          rw [show (w32 ((((v : Int) * 10) + c) - 48)) = ((((v : Int) * 10) + c) - 48) from w32_id (by unfold R32; omega)]
          refine Ev.putf (c' := (ovl (updC a 114 7 ((((v : Int) * 10) + c) - 48)) s b)) rfl (by decide) rfl rfl rfl (ovl_wc (by decide)) ?_
          refine Ev.steps (k := 3) (pc' := 295) (L' := [Vr 114, Vi (p : Int), Vi bf, Vi 48, Vi 4]) (S' := [Vi (a 114 3), Vr 114]) (h' := ((SHv st dr rd), (ovl (updC a 114 7 ((((v : Int) * 10) + c) - 48)) s b))) (fun _ => rfl) ?_
          rw [e3]
          refine Ev.steps (k := 2) (pc' := 297) (L' := [Vr 114, Vi (p : Int), Vi bf, Vi 48, Vi 4]) (S' := [Vi (w32 (((q + k : Nat) : Int) + 1)), Vr 114]) (h' := ((SHv st dr rd), (ovl (updC a 114 7 ((((v : Int) * 10) + c) - 48)) s b))) (fun _ => rfl) ?_
          rw [show (w32 (((q + k : Nat) : Int) + 1)) = (((q + k : Nat) : Int) + 1) from w32_id (by unfold R32; omega)]
          refine Ev.putf (c' := (ovl (updC (updC a 114 7 ((((v : Int) * 10) + c) - 48)) 114 3 (((q + k : Nat) : Int) + 1)) s b)) rfl (by decide) rfl rfl rfl (ovl_wc (by decide)) ?_
          refine Ev.steps (k := 1) (pc' := 189) (L' := [Vr 114, Vi (p : Int), Vi bf, Vi 48, Vi 4]) (S' := []) (h' := ((SHv st dr rd), (ovl (updC (updC a 114 7 ((((v : Int) * 10) + c) - 48)) 114 3 (((q + k : Nat) : Int) + 1)) s b))) (fun _ => rfl) ?_
          refine ih _ (by omega) (a := (updC (updC a 114 7 ((((v : Int) * 10) + c) - 48)) 114 3 (((q + k : Nat) : Int) + 1))) (k + 1) (by omega) (by omega) (fun i hi => ?_) (hB.fo rfl rfl rfl) e9 e10 ((hF.up (by omega)).up (by omega)) h8 ?_ e6 ?_ rfl
          · by_cases h : i = k
            · rw [h]; exact hc1
            · exact hcl i (by omega)
          · show ((q + k : Nat) : Int) + 1 = ((q + (k + 1) : Nat) : Int)
            omega
          · rw [vl_s, ← hv, ← hc]
            show (v : Int) * 10 + c - 48 = _
            omega
        · refine Ev.steps (k := 4) (pc' := 232) (L' := [Vr 114, Vi (p : Int), Vi bf, Vi 48, Vi 4]) (S' := [Vi (a 114 3), Vi 1, Vr 114]) (h' := ((SHv st dr rd), (ovl a s b))) (fun _ => rfl) ?_
          rw [e3]
          refine Ev.call (k := 0) (pc1 := 232) (L1 := [Vr 114, Vi (p : Int), Vi bf, Vi 48, Vi 4]) (S1 := [Vi ((q + k : Nat) : Int), Vi 1, Vr 114]) (h1 := ((SHv st dr rd), (ovl a s b))) (m' := 29) (as := [Vr 114, Vi 1, Vi ((q + k : Nat) : Int)]) (S' := []) (L0 := [Vr 114, Vi 1, Vi ((q + k : Nat) : Int)]) (fun _ => rfl) rfl rfl rfl rfl rfl rfl (c_fail (a := a) e9 1 ((q + k : Nat) : Int)) (fun r h' hq => ?_)
          obtain ⟨rfl, rfl⟩ := hq
          show Ev X _ _ 235 [Vr 114, Vi (p : Int), Vi bf, Vi 48, Vi 4] [] ((SHv st dr rd), (ovl (updC (updC (updC a 114 9 1) 114 10 ((q + k : Nat) : Int)) 114 5 303) s b)) _
          refine Ev.fin (k := 1) (r := none) (h' := ((SHv st dr rd), (ovl (updC (updC (updC a 114 9 1) 114 10 ((q + k : Nat) : Int)) 114 5 303) s b))) (fun _ => rfl) ?_
          obtain rfl : k = 4 := by omega
          have ht := tok_nlg hq hn h0 hb (run_gt (r := 4) (by omega) (fun i hi => by
            by_cases h : i = 4
            · rw [h, h0]; exact sg_eq2.mp (Classical.not_not.mp b209)
            · rw [h0]; exact hcl i (by omega)))
          obtain ⟨t1, t2, t3, t4⟩ := tk_of ht
          refine ⟨rfl, _, rfl, (((hF.up (by omega)).up (by omega)).up (by omega)), h8, Or.inr ⟨t1, hB.fo rfl rfl rfl, ?_⟩⟩
          rw [t2]
          exact ⟨(by show (1 : Int) ≠ 0; decide), rfl, rfl, rfl⟩
theorem c_step_end {X : List Int} {d : Nat} {st dr rd : Int} {a s b : C3} {W : TXT} {a0 : C3} {p q : Nat} (hp : p ≤ W.2) (hq : skpT W p = q) (bf : Int) (hn : W.2 ≤ q) (hB : BaC W a) (e9 : a 114 9 = 0) (e10 : a 114 10 = -1) (hF : FrO 114 114 a0 a) (h8 : a 114 8 = a0 114 8) (e3 : a 114 3 = (q : Int)) : Ev X (d + 1) 27 76 [Vr 114, Vi (p : Int), Vi bf, Vx, Vx] [] (SHv st dr rd, ovl a s b) (fun rr hh => rr = none ∧ ∃ a' : C3, hh = (SHv st dr rd, ovl a' s b) ∧ StpC W p a0 a') := by
  have h1200 := hB.1.1
  have e2 : a 114 2 = ((W.2 : Nat) : Int) := hB.2.2.2
  refine Ev.steps (k := 3) (pc' := 81) (L' := [Vr 114, Vi (p : Int), Vi bf, Vx, Vx]) (S' := [Vi (a 114 3), Vr 114]) (h' := ((SHv st dr rd), (ovl a s b))) (fun _ => rfl) ?_
  rw [e3]
  refine Ev.putf (c' := (ovl (updC a 114 6 (q : Int)) s b)) rfl (by decide) rfl rfl rfl (ovl_wc (by decide)) ?_
  refine Ev.steps (k := 2) (pc' := 86) (L' := [Vr 114, Vi (p : Int), Vi bf, Vx, Vx]) (S' := [Vi 0, Vr 114]) (h' := ((SHv st dr rd), (ovl (updC a 114 6 (q : Int)) s b))) (fun _ => rfl) ?_
  refine Ev.putf (c' := (ovl (updC (updC a 114 6 (q : Int)) 114 7 0) s b)) rfl (by decide) rfl rfl rfl (ovl_wc (by decide)) ?_
  refine Ev.steps (k := 3) (pc' := 94) (L' := [Vr 114, Vi (p : Int), Vi bf, Vx, Vx]) (S' := [Vi (a 114 3), Vr 114]) (h' := ((SHv st dr rd), (ovl (updC (updC a 114 6 (q : Int)) 114 7 0) s b))) (fun _ => rfl) ?_
  rw [e3]
  refine Ev.call (k := 0) (pc1 := 94) (L1 := [Vr 114, Vi (p : Int), Vi bf, Vx, Vx]) (S1 := [Vi (q : Int), Vr 114]) (h1 := ((SHv st dr rd), (ovl (updC (updC a 114 6 (q : Int)) 114 7 0) s b))) (m' := 28) (as := [Vr 114, Vi (q : Int)]) (S' := []) (L0 := [Vr 114, Vi (q : Int)]) (fun _ => rfl) rfl rfl rfl rfl rfl rfl (c_signAt_no (a := (updC (updC a 114 6 (q : Int)) 114 7 0)) (W := W) (hB.fo rfl rfl rfl) (q : Int) (Or.inr (by omega))) (fun r h' hq => ?_)
  obtain ⟨rfl, rfl⟩ := hq
  show Ev X _ _ 97 [Vr 114, Vi (p : Int), Vi bf, Vx, Vx] [Vi (-1)] ((SHv st dr rd), (ovl (updC (updC a 114 6 (q : Int)) 114 7 0) s b)) _
  refine Ev.steps (k := 6) (pc' := 107) (L' := [Vr 114, Vi (p : Int), Vi bf, Vi (-1), Vx]) (S' := [Vi 302, Vr 114]) (h' := ((SHv st dr rd), (ovl (updC (updC a 114 6 (q : Int)) 114 7 0) s b))) (fun _ => rfl) ?_
  refine Ev.putf (c' := (ovl (updC (updC (updC a 114 6 (q : Int)) 114 7 0) 114 5 302) s b)) rfl (by decide) rfl rfl rfl (ovl_wc (by decide)) ?_
  refine Ev.fin (k := 2) (r := none) (h' := ((SHv st dr rd), (ovl (updC (updC (updC a 114 6 (q : Int)) 114 7 0) 114 5 302) s b))) (fun _ => rfl) ?_
  exact ⟨rfl, _, rfl, (((hF.up (by omega)).up (by omega)).up (by omega)), h8, Or.inl (TkC.mk (tok_end hq hn) (hB.fo rfl rfl rfl) e9 e10 e3 rfl rfl (by decide) hp (fun h => absurd h (by decide)) (fun h => absurd h (by decide)))⟩
theorem c_step_sig {X : List Int} {d : Nat} {st dr rd : Int} {a s b : C3} {W : TXT} {a0 : C3} {p q : Nat} (hp : p ≤ W.2) (hq : skpT W p = q) (bf : Int) (hn : q < W.2) (h0 : clsT (W.1 q) = 0) (hB : BaC W a) (e9 : a 114 9 = 0) (e10 : a 114 10 = -1) (hF : FrO 114 114 a0 a) (h8 : a 114 8 = a0 114 8) (e3 : a 114 3 = (q : Int)) : Ev X (d + 1) 27 76 [Vr 114, Vi (p : Int), Vi bf, Vx, Vx] [] (SHv st dr rd, ovl a s b) (fun rr hh => rr = none ∧ ∃ a' : C3, hh = (SHv st dr rd, ovl a' s b) ∧ StpC W p a0 a') := by
  have h1200 := hB.1.1
  have e2 : a 114 2 = ((W.2 : Nat) : Int) := hB.2.2.2
  obtain ⟨c, hc⟩ : ∃ c, c = W.1 q := ⟨_, rfl⟩
  have hs := sg_0 h0
  have hcr := hB.1.2 q hn
  have ht := tok_sig hq hn h0
  rw [← hc] at hs hcr ht
  refine Ev.steps (k := 3) (pc' := 81) (L' := [Vr 114, Vi (p : Int), Vi bf, Vx, Vx]) (S' := [Vi (a 114 3), Vr 114]) (h' := ((SHv st dr rd), (ovl a s b))) (fun _ => rfl) ?_
  rw [e3]
  refine Ev.putf (c' := (ovl (updC a 114 6 (q : Int)) s b)) rfl (by decide) rfl rfl rfl (ovl_wc (by decide)) ?_
  refine Ev.steps (k := 2) (pc' := 86) (L' := [Vr 114, Vi (p : Int), Vi bf, Vx, Vx]) (S' := [Vi 0, Vr 114]) (h' := ((SHv st dr rd), (ovl (updC a 114 6 (q : Int)) s b))) (fun _ => rfl) ?_
  refine Ev.putf (c' := (ovl (updC (updC a 114 6 (q : Int)) 114 7 0) s b)) rfl (by decide) rfl rfl rfl (ovl_wc (by decide)) ?_
  refine Ev.steps (k := 3) (pc' := 94) (L' := [Vr 114, Vi (p : Int), Vi bf, Vx, Vx]) (S' := [Vi (a 114 3), Vr 114]) (h' := ((SHv st dr rd), (ovl (updC (updC a 114 6 (q : Int)) 114 7 0) s b))) (fun _ => rfl) ?_
  rw [e3]
  refine Ev.call (k := 0) (pc1 := 94) (L1 := [Vr 114, Vi (p : Int), Vi bf, Vx, Vx]) (S1 := [Vi (q : Int), Vr 114]) (h1 := ((SHv st dr rd), (ovl (updC (updC a 114 6 (q : Int)) 114 7 0) s b))) (m' := 28) (as := [Vr 114, Vi (q : Int)]) (S' := []) (L0 := [Vr 114, Vi (q : Int)]) (fun _ => rfl) rfl rfl rfl rfl rfl rfl (c_signAt_c (a := (updC (updC a 114 6 (q : Int)) 114 7 0)) (W := W) (hB.fo rfl rfl rfl) q hn (v := c) (by rw [← hc]; exact hs.1)) (fun r h' hq => ?_)
  obtain ⟨rfl, rfl⟩ := hq
  show Ev X _ _ 97 [Vr 114, Vi (p : Int), Vi bf, Vx, Vx] [Vi c] ((SHv st dr rd), (ovl (updC (updC a 114 6 (q : Int)) 114 7 0) s b)) _
  refine Ev.ite (P := c ≠ (-1)) (k := 4) (a := 113) (b := 103) (L' := [Vr 114, Vi (p : Int), Vi bf, Vi c, Vx]) (S' := []) (h' := ((SHv st dr rd), (ovl (updC (updC a 114 6 (q : Int)) 114 7 0) s b))) (fun _ => rfl) (fun b100 => ?_) (fun b100 => ?_)
  · refine Ev.ite (P := c = 97) (k := 3) (a := 143) (b := 119) (L' := [Vr 114, Vi (p : Int), Vi bf, Vi c, Vx]) (S' := []) (h' := ((SHv st dr rd), (ovl (updC (updC a 114 6 (q : Int)) 114 7 0) s b))) (fun _ => rfl) (fun b116 => ?_) (fun b116 => ?_)
    · exfalso; omega
    · refine Ev.ite (P := c = 48) (k := 3) (a := 143) (b := 125) (L' := [Vr 114, Vi (p : Int), Vi bf, Vi c, Vx]) (S' := []) (h' := ((SHv st dr rd), (ovl (updC (updC a 114 6 (q : Int)) 114 7 0) s b))) (fun _ => rfl) (fun b122 => ?_) (fun b122 => ?_)
      · exfalso; omega
      · refine Ev.steps (k := 2) (pc' := 127) (L' := [Vr 114, Vi (p : Int), Vi bf, Vi c, Vx]) (S' := [Vi c, Vr 114]) (h' := ((SHv st dr rd), (ovl (updC (updC a 114 6 (q : Int)) 114 7 0) s b))) (fun _ => rfl) ?_
        refine Ev.putf (c' := (ovl (updC (updC (updC a 114 6 (q : Int)) 114 7 0) 114 5 c) s b)) rfl (by decide) rfl rfl rfl (ovl_wc (by decide)) ?_
        refine Ev.steps (k := 3) (pc' := 135) (L' := [Vr 114, Vi (p : Int), Vi bf, Vi c, Vx]) (S' := [Vi (a 114 3), Vr 114]) (h' := ((SHv st dr rd), (ovl (updC (updC (updC a 114 6 (q : Int)) 114 7 0) 114 5 c) s b))) (fun _ => rfl) ?_
        rw [e3]
        refine Ev.steps (k := 2) (pc' := 137) (L' := [Vr 114, Vi (p : Int), Vi bf, Vi c, Vx]) (S' := [Vi (w32 ((q : Int) + 1)), Vr 114]) (h' := ((SHv st dr rd), (ovl (updC (updC (updC a 114 6 (q : Int)) 114 7 0) 114 5 c) s b))) (fun _ => rfl) ?_
        rw [show (w32 ((q : Int) + 1)) = ((q : Int) + 1) from w32_id (by unfold R32; omega)]
        refine Ev.putf (c' := (ovl (updC (updC (updC (updC a 114 6 (q : Int)) 114 7 0) 114 5 c) 114 3 ((q : Int) + 1)) s b)) rfl (by decide) rfl rfl rfl (ovl_wc (by decide)) ?_
        refine Ev.fin (k := 2) (r := none) (h' := ((SHv st dr rd), (ovl (updC (updC (updC (updC a 114 6 (q : Int)) 114 7 0) 114 5 c) 114 3 ((q : Int) + 1)) s b))) (fun _ => rfl) ?_
        exact ⟨rfl, _, rfl, ((((hF.up (by omega)).up (by omega)).up (by omega)).up (by omega)), h8, Or.inl (TkC.mk ht (hB.fo rfl rfl rfl) e9 e10 (by show (q : Int) + 1 = ((q + 1 : Nat) : Int); omega) (by show c = ((c.toNat : Nat) : Int); omega) rfl (by omega) hp (fun h => by omega) (fun h => by omega))⟩
  · exfalso; omega
theorem c_step_letb {X : List Int} {d : Nat} {st dr rd : Int} {a s b : C3} {W : TXT} {a0 : C3} {p q : Nat} (hp : p ≤ W.2) (hq : skpT W p = q) (bf : Int) (hn : q < W.2) (h0 : clsT (W.1 q) = 1) (hb : 0 < q ∧ clsT (W.1 (q - 1)) ≠ 0) (hbf : q = p ∧ (bf = 97 ∨ bf = 48)) (hB : BaC W a) (e9 : a 114 9 = 0) (e10 : a 114 10 = -1) (hF : FrO 114 114 a0 a) (h8 : a 114 8 = a0 114 8) (e3 : a 114 3 = (q : Int)) : Ev X (d + 1) 27 76 [Vr 114, Vi (p : Int), Vi bf, Vx, Vx] [] (SHv st dr rd, ovl a s b) (fun rr hh => rr = none ∧ ∃ a' : C3, hh = (SHv st dr rd, ovl a' s b) ∧ StpC W p a0 a') := by
  have h1200 := hB.1.1
  have e2 : a 114 2 = ((W.2 : Nat) : Int) := hB.2.2.2
  refine Ev.steps (k := 3) (pc' := 81) (L' := [Vr 114, Vi (p : Int), Vi bf, Vx, Vx]) (S' := [Vi (a 114 3), Vr 114]) (h' := ((SHv st dr rd), (ovl a s b))) (fun _ => rfl) ?_
  rw [e3]
  refine Ev.putf (c' := (ovl (updC a 114 6 (q : Int)) s b)) rfl (by decide) rfl rfl rfl (ovl_wc (by decide)) ?_
  refine Ev.steps (k := 2) (pc' := 86) (L' := [Vr 114, Vi (p : Int), Vi bf, Vx, Vx]) (S' := [Vi 0, Vr 114]) (h' := ((SHv st dr rd), (ovl (updC a 114 6 (q : Int)) s b))) (fun _ => rfl) ?_
  refine Ev.putf (c' := (ovl (updC (updC a 114 6 (q : Int)) 114 7 0) s b)) rfl (by decide) rfl rfl rfl (ovl_wc (by decide)) ?_
  refine Ev.steps (k := 3) (pc' := 94) (L' := [Vr 114, Vi (p : Int), Vi bf, Vx, Vx]) (S' := [Vi (a 114 3), Vr 114]) (h' := ((SHv st dr rd), (ovl (updC (updC a 114 6 (q : Int)) 114 7 0) s b))) (fun _ => rfl) ?_
  rw [e3]
  refine Ev.call (k := 0) (pc1 := 94) (L1 := [Vr 114, Vi (p : Int), Vi bf, Vx, Vx]) (S1 := [Vi (q : Int), Vr 114]) (h1 := ((SHv st dr rd), (ovl (updC (updC a 114 6 (q : Int)) 114 7 0) s b))) (m' := 28) (as := [Vr 114, Vi (q : Int)]) (S' := []) (L0 := [Vr 114, Vi (q : Int)]) (fun _ => rfl) rfl rfl rfl rfl rfl rfl (c_signAt_c (a := (updC (updC a 114 6 (q : Int)) 114 7 0)) (W := W) (hB.fo rfl rfl rfl) q hn (v := 97) (sg_1 h0)) (fun r h' hq => ?_)
  obtain ⟨rfl, rfl⟩ := hq
  show Ev X _ _ 97 [Vr 114, Vi (p : Int), Vi bf, Vx, Vx] [Vi 97] ((SHv st dr rd), (ovl (updC (updC a 114 6 (q : Int)) 114 7 0) s b)) _
  refine Ev.ite (P := (q : Int) ≠ (p : Int)) (k := 11) (a := 175) (b := 151) (L' := [Vr 114, Vi (p : Int), Vi bf, Vi 97, Vx]) (S' := []) (h' := ((SHv st dr rd), (ovl (updC (updC a 114 6 (q : Int)) 114 7 0) s b))) (fun _ => rfl) (fun b148 => ?_) (fun b148 => ?_)
  · exfalso; omega
  · refine Ev.ite (P := bf = 97) (k := 3) (a := 163) (b := 157) (L' := [Vr 114, Vi (p : Int), Vi bf, Vi 97, Vx]) (S' := []) (h' := ((SHv st dr rd), (ovl (updC (updC a 114 6 (q : Int)) 114 7 0) s b))) (fun _ => rfl) (fun b154 => ?_) (fun b154 => ?_)
    · refine Ev.call (k := 4) (pc1 := 169) (L1 := [Vr 114, Vi (p : Int), Vi bf, Vi 97, Vx]) (S1 := [Vi (q : Int), Vi 1, Vr 114]) (h1 := ((SHv st dr rd), (ovl (updC (updC a 114 6 (q : Int)) 114 7 0) s b))) (m' := 29) (as := [Vr 114, Vi 1, Vi (q : Int)]) (S' := []) (L0 := [Vr 114, Vi 1, Vi (q : Int)]) (fun _ => rfl) rfl rfl rfl rfl rfl rfl (c_fail (a := (updC (updC a 114 6 (q : Int)) 114 7 0)) e9 1 (q : Int)) (fun r h' hq => ?_)
      obtain ⟨rfl, rfl⟩ := hq
      show Ev X _ _ 172 [Vr 114, Vi (p : Int), Vi bf, Vi 97, Vx] [] ((SHv st dr rd), (ovl (updC (updC (updC (updC (updC a 114 6 (q : Int)) 114 7 0) 114 9 1) 114 10 (q : Int)) 114 5 303) s b)) _
      refine Ev.fin (k := 2) (r := none) (h' := ((SHv st dr rd), (ovl (updC (updC (updC (updC (updC a 114 6 (q : Int)) 114 7 0) 114 9 1) 114 10 (q : Int)) 114 5 303) s b))) (fun _ => rfl) ?_
      obtain ⟨t1, t2, t3, t4⟩ := tk_of (tok_bes hq hn (by omega) hb)
      refine ⟨rfl, _, rfl, (((((hF.up (by omega)).up (by omega)).up (by omega)).up (by omega)).up (by omega)), h8, Or.inr ⟨t1, hB.fo rfl rfl rfl, ?_⟩⟩
      rw [t2]
      exact ⟨(by show (1 : Int) ≠ 0; decide), rfl, rfl, rfl⟩
    · refine Ev.ite (P := bf ≠ 48) (k := 3) (a := 175) (b := 163) (L' := [Vr 114, Vi (p : Int), Vi bf, Vi 97, Vx]) (S' := []) (h' := ((SHv st dr rd), (ovl (updC (updC a 114 6 (q : Int)) 114 7 0) s b))) (fun _ => rfl) (fun b160 => ?_) (fun b160 => ?_)
      · exfalso; omega
      · refine Ev.call (k := 4) (pc1 := 169) (L1 := [Vr 114, Vi (p : Int), Vi bf, Vi 97, Vx]) (S1 := [Vi (q : Int), Vi 1, Vr 114]) (h1 := ((SHv st dr rd), (ovl (updC (updC a 114 6 (q : Int)) 114 7 0) s b))) (m' := 29) (as := [Vr 114, Vi 1, Vi (q : Int)]) (S' := []) (L0 := [Vr 114, Vi 1, Vi (q : Int)]) (fun _ => rfl) rfl rfl rfl rfl rfl rfl (c_fail (a := (updC (updC a 114 6 (q : Int)) 114 7 0)) e9 1 (q : Int)) (fun r h' hq => ?_)
        obtain ⟨rfl, rfl⟩ := hq
        show Ev X _ _ 172 [Vr 114, Vi (p : Int), Vi bf, Vi 97, Vx] [] ((SHv st dr rd), (ovl (updC (updC (updC (updC (updC a 114 6 (q : Int)) 114 7 0) 114 9 1) 114 10 (q : Int)) 114 5 303) s b)) _
        refine Ev.fin (k := 2) (r := none) (h' := ((SHv st dr rd), (ovl (updC (updC (updC (updC (updC a 114 6 (q : Int)) 114 7 0) 114 9 1) 114 10 (q : Int)) 114 5 303) s b))) (fun _ => rfl) ?_
        obtain ⟨t1, t2, t3, t4⟩ := tk_of (tok_bes hq hn (by omega) hb)
        refine ⟨rfl, _, rfl, (((((hF.up (by omega)).up (by omega)).up (by omega)).up (by omega)).up (by omega)), h8, Or.inr ⟨t1, hB.fo rfl rfl rfl, ?_⟩⟩
        rw [t2]
        exact ⟨(by show (1 : Int) ≠ 0; decide), rfl, rfl, rfl⟩
theorem c_step_letg {X : List Int} {d : Nat} {st dr rd : Int} {a s b : C3} {W : TXT} {a0 : C3} {p q : Nat} (hp : p ≤ W.2) (hq : skpT W p = q) (bf : Int) (hn : q < W.2) (h0 : clsT (W.1 q) = 1) (hb : ¬ (0 < q ∧ clsT (W.1 (q - 1)) ≠ 0)) (hbf : ¬ (q = p ∧ (bf = 97 ∨ bf = 48))) (hB : BaC W a) (e9 : a 114 9 = 0) (e10 : a 114 10 = -1) (hF : FrO 114 114 a0 a) (h8 : a 114 8 = a0 114 8) (e3 : a 114 3 = (q : Int)) : Ev X (d + 1) 27 76 [Vr 114, Vi (p : Int), Vi bf, Vx, Vx] [] (SHv st dr rd, ovl a s b) (fun rr hh => rr = none ∧ ∃ a' : C3, hh = (SHv st dr rd, ovl a' s b) ∧ StpC W p a0 a') := by
  have h1200 := hB.1.1
  have e2 : a 114 2 = ((W.2 : Nat) : Int) := hB.2.2.2
  refine Ev.steps (k := 3) (pc' := 81) (L' := [Vr 114, Vi (p : Int), Vi bf, Vx, Vx]) (S' := [Vi (a 114 3), Vr 114]) (h' := ((SHv st dr rd), (ovl a s b))) (fun _ => rfl) ?_
  rw [e3]
  refine Ev.putf (c' := (ovl (updC a 114 6 (q : Int)) s b)) rfl (by decide) rfl rfl rfl (ovl_wc (by decide)) ?_
  refine Ev.steps (k := 2) (pc' := 86) (L' := [Vr 114, Vi (p : Int), Vi bf, Vx, Vx]) (S' := [Vi 0, Vr 114]) (h' := ((SHv st dr rd), (ovl (updC a 114 6 (q : Int)) s b))) (fun _ => rfl) ?_
  refine Ev.putf (c' := (ovl (updC (updC a 114 6 (q : Int)) 114 7 0) s b)) rfl (by decide) rfl rfl rfl (ovl_wc (by decide)) ?_
  refine Ev.steps (k := 3) (pc' := 94) (L' := [Vr 114, Vi (p : Int), Vi bf, Vx, Vx]) (S' := [Vi (a 114 3), Vr 114]) (h' := ((SHv st dr rd), (ovl (updC (updC a 114 6 (q : Int)) 114 7 0) s b))) (fun _ => rfl) ?_
  rw [e3]
  refine Ev.call (k := 0) (pc1 := 94) (L1 := [Vr 114, Vi (p : Int), Vi bf, Vx, Vx]) (S1 := [Vi (q : Int), Vr 114]) (h1 := ((SHv st dr rd), (ovl (updC (updC a 114 6 (q : Int)) 114 7 0) s b))) (m' := 28) (as := [Vr 114, Vi (q : Int)]) (S' := []) (L0 := [Vr 114, Vi (q : Int)]) (fun _ => rfl) rfl rfl rfl rfl rfl rfl (c_signAt_c (a := (updC (updC a 114 6 (q : Int)) 114 7 0)) (W := W) (hB.fo rfl rfl rfl) q hn (v := 97) (sg_1 h0)) (fun r h' hq => ?_)
  obtain ⟨rfl, rfl⟩ := hq
  show Ev X _ _ 97 [Vr 114, Vi (p : Int), Vi bf, Vx, Vx] [Vi 97] ((SHv st dr rd), (ovl (updC (updC a 114 6 (q : Int)) 114 7 0) s b)) _
  refine Ev.ite (P := (q : Int) ≠ (p : Int)) (k := 11) (a := 175) (b := 151) (L' := [Vr 114, Vi (p : Int), Vi bf, Vi 97, Vx]) (S' := []) (h' := ((SHv st dr rd), (ovl (updC (updC a 114 6 (q : Int)) 114 7 0) s b))) (fun _ => rfl) (fun b148 => ?_) (fun b148 => ?_)
  · refine Ev.steps (k := 6) (pc' := 189) (L' := [Vr 114, Vi (p : Int), Vi bf, Vi 97, Vi 6]) (S' := []) (h' := ((SHv st dr rd), (ovl (updC (updC a 114 6 (q : Int)) 114 7 0) s b))) (fun _ => rfl) ?_
    exact c_step_let hp hq bf hn h0 hb 0 (by omega) (by omega) (fun i hi => absurd hi (by omega)) (hB.fo rfl rfl rfl) e9 e10 ((hF.up (by omega)).up (by omega)) h8 e3 rfl (by show (0 : Int) = ((cvF 0 6 : Nat) : Int); rw [cvF_0]; rfl)
  · refine Ev.ite (P := bf = 97) (k := 3) (a := 163) (b := 157) (L' := [Vr 114, Vi (p : Int), Vi bf, Vi 97, Vx]) (S' := []) (h' := ((SHv st dr rd), (ovl (updC (updC a 114 6 (q : Int)) 114 7 0) s b))) (fun _ => rfl) (fun b154 => ?_) (fun b154 => ?_)
    · exfalso; omega
    · refine Ev.ite (P := bf ≠ 48) (k := 3) (a := 175) (b := 163) (L' := [Vr 114, Vi (p : Int), Vi bf, Vi 97, Vx]) (S' := []) (h' := ((SHv st dr rd), (ovl (updC (updC a 114 6 (q : Int)) 114 7 0) s b))) (fun _ => rfl) (fun b160 => ?_) (fun b160 => ?_)
      · refine Ev.steps (k := 6) (pc' := 189) (L' := [Vr 114, Vi (p : Int), Vi bf, Vi 97, Vi 6]) (S' := []) (h' := ((SHv st dr rd), (ovl (updC (updC a 114 6 (q : Int)) 114 7 0) s b))) (fun _ => rfl) ?_
        exact c_step_let hp hq bf hn h0 hb 0 (by omega) (by omega) (fun i hi => absurd hi (by omega)) (hB.fo rfl rfl rfl) e9 e10 ((hF.up (by omega)).up (by omega)) h8 e3 rfl (by show (0 : Int) = ((cvF 0 6 : Nat) : Int); rw [cvF_0]; rfl)
      · exfalso; omega
theorem c_step_digb {X : List Int} {d : Nat} {st dr rd : Int} {a s b : C3} {W : TXT} {a0 : C3} {p q : Nat} (hp : p ≤ W.2) (hq : skpT W p = q) (bf : Int) (hn : q < W.2) (h0 : clsT (W.1 q) = 2) (hb : 0 < q ∧ clsT (W.1 (q - 1)) ≠ 0) (hbf : q = p ∧ (bf = 97 ∨ bf = 48)) (hB : BaC W a) (e9 : a 114 9 = 0) (e10 : a 114 10 = -1) (hF : FrO 114 114 a0 a) (h8 : a 114 8 = a0 114 8) (e3 : a 114 3 = (q : Int)) : Ev X (d + 1) 27 76 [Vr 114, Vi (p : Int), Vi bf, Vx, Vx] [] (SHv st dr rd, ovl a s b) (fun rr hh => rr = none ∧ ∃ a' : C3, hh = (SHv st dr rd, ovl a' s b) ∧ StpC W p a0 a') := by
  have h1200 := hB.1.1
  have e2 : a 114 2 = ((W.2 : Nat) : Int) := hB.2.2.2
  refine Ev.steps (k := 3) (pc' := 81) (L' := [Vr 114, Vi (p : Int), Vi bf, Vx, Vx]) (S' := [Vi (a 114 3), Vr 114]) (h' := ((SHv st dr rd), (ovl a s b))) (fun _ => rfl) ?_
  rw [e3]
  refine Ev.putf (c' := (ovl (updC a 114 6 (q : Int)) s b)) rfl (by decide) rfl rfl rfl (ovl_wc (by decide)) ?_
  refine Ev.steps (k := 2) (pc' := 86) (L' := [Vr 114, Vi (p : Int), Vi bf, Vx, Vx]) (S' := [Vi 0, Vr 114]) (h' := ((SHv st dr rd), (ovl (updC a 114 6 (q : Int)) s b))) (fun _ => rfl) ?_
  refine Ev.putf (c' := (ovl (updC (updC a 114 6 (q : Int)) 114 7 0) s b)) rfl (by decide) rfl rfl rfl (ovl_wc (by decide)) ?_
  refine Ev.steps (k := 3) (pc' := 94) (L' := [Vr 114, Vi (p : Int), Vi bf, Vx, Vx]) (S' := [Vi (a 114 3), Vr 114]) (h' := ((SHv st dr rd), (ovl (updC (updC a 114 6 (q : Int)) 114 7 0) s b))) (fun _ => rfl) ?_
  rw [e3]
  refine Ev.call (k := 0) (pc1 := 94) (L1 := [Vr 114, Vi (p : Int), Vi bf, Vx, Vx]) (S1 := [Vi (q : Int), Vr 114]) (h1 := ((SHv st dr rd), (ovl (updC (updC a 114 6 (q : Int)) 114 7 0) s b))) (m' := 28) (as := [Vr 114, Vi (q : Int)]) (S' := []) (L0 := [Vr 114, Vi (q : Int)]) (fun _ => rfl) rfl rfl rfl rfl rfl rfl (c_signAt_c (a := (updC (updC a 114 6 (q : Int)) 114 7 0)) (W := W) (hB.fo rfl rfl rfl) q hn (v := 48) (sg_2 h0)) (fun r h' hq => ?_)
  obtain ⟨rfl, rfl⟩ := hq
  show Ev X _ _ 97 [Vr 114, Vi (p : Int), Vi bf, Vx, Vx] [Vi 48] ((SHv st dr rd), (ovl (updC (updC a 114 6 (q : Int)) 114 7 0) s b)) _
  refine Ev.ite (P := (q : Int) ≠ (p : Int)) (k := 14) (a := 175) (b := 151) (L' := [Vr 114, Vi (p : Int), Vi bf, Vi 48, Vx]) (S' := []) (h' := ((SHv st dr rd), (ovl (updC (updC a 114 6 (q : Int)) 114 7 0) s b))) (fun _ => rfl) (fun b148 => ?_) (fun b148 => ?_)
  · exfalso; omega
  · refine Ev.ite (P := bf = 97) (k := 3) (a := 163) (b := 157) (L' := [Vr 114, Vi (p : Int), Vi bf, Vi 48, Vx]) (S' := []) (h' := ((SHv st dr rd), (ovl (updC (updC a 114 6 (q : Int)) 114 7 0) s b))) (fun _ => rfl) (fun b154 => ?_) (fun b154 => ?_)
    · refine Ev.call (k := 4) (pc1 := 169) (L1 := [Vr 114, Vi (p : Int), Vi bf, Vi 48, Vx]) (S1 := [Vi (q : Int), Vi 1, Vr 114]) (h1 := ((SHv st dr rd), (ovl (updC (updC a 114 6 (q : Int)) 114 7 0) s b))) (m' := 29) (as := [Vr 114, Vi 1, Vi (q : Int)]) (S' := []) (L0 := [Vr 114, Vi 1, Vi (q : Int)]) (fun _ => rfl) rfl rfl rfl rfl rfl rfl (c_fail (a := (updC (updC a 114 6 (q : Int)) 114 7 0)) e9 1 (q : Int)) (fun r h' hq => ?_)
      obtain ⟨rfl, rfl⟩ := hq
      show Ev X _ _ 172 [Vr 114, Vi (p : Int), Vi bf, Vi 48, Vx] [] ((SHv st dr rd), (ovl (updC (updC (updC (updC (updC a 114 6 (q : Int)) 114 7 0) 114 9 1) 114 10 (q : Int)) 114 5 303) s b)) _
      refine Ev.fin (k := 2) (r := none) (h' := ((SHv st dr rd), (ovl (updC (updC (updC (updC (updC a 114 6 (q : Int)) 114 7 0) 114 9 1) 114 10 (q : Int)) 114 5 303) s b))) (fun _ => rfl) ?_
      obtain ⟨t1, t2, t3, t4⟩ := tk_of (tok_bes hq hn (by omega) hb)
      refine ⟨rfl, _, rfl, (((((hF.up (by omega)).up (by omega)).up (by omega)).up (by omega)).up (by omega)), h8, Or.inr ⟨t1, hB.fo rfl rfl rfl, ?_⟩⟩
      rw [t2]
      exact ⟨(by show (1 : Int) ≠ 0; decide), rfl, rfl, rfl⟩
    · refine Ev.ite (P := bf ≠ 48) (k := 3) (a := 175) (b := 163) (L' := [Vr 114, Vi (p : Int), Vi bf, Vi 48, Vx]) (S' := []) (h' := ((SHv st dr rd), (ovl (updC (updC a 114 6 (q : Int)) 114 7 0) s b))) (fun _ => rfl) (fun b160 => ?_) (fun b160 => ?_)
      · exfalso; omega
      · refine Ev.call (k := 4) (pc1 := 169) (L1 := [Vr 114, Vi (p : Int), Vi bf, Vi 48, Vx]) (S1 := [Vi (q : Int), Vi 1, Vr 114]) (h1 := ((SHv st dr rd), (ovl (updC (updC a 114 6 (q : Int)) 114 7 0) s b))) (m' := 29) (as := [Vr 114, Vi 1, Vi (q : Int)]) (S' := []) (L0 := [Vr 114, Vi 1, Vi (q : Int)]) (fun _ => rfl) rfl rfl rfl rfl rfl rfl (c_fail (a := (updC (updC a 114 6 (q : Int)) 114 7 0)) e9 1 (q : Int)) (fun r h' hq => ?_)
        obtain ⟨rfl, rfl⟩ := hq
        show Ev X _ _ 172 [Vr 114, Vi (p : Int), Vi bf, Vi 48, Vx] [] ((SHv st dr rd), (ovl (updC (updC (updC (updC (updC a 114 6 (q : Int)) 114 7 0) 114 9 1) 114 10 (q : Int)) 114 5 303) s b)) _
        refine Ev.fin (k := 2) (r := none) (h' := ((SHv st dr rd), (ovl (updC (updC (updC (updC (updC a 114 6 (q : Int)) 114 7 0) 114 9 1) 114 10 (q : Int)) 114 5 303) s b))) (fun _ => rfl) ?_
        obtain ⟨t1, t2, t3, t4⟩ := tk_of (tok_bes hq hn (by omega) hb)
        refine ⟨rfl, _, rfl, (((((hF.up (by omega)).up (by omega)).up (by omega)).up (by omega)).up (by omega)), h8, Or.inr ⟨t1, hB.fo rfl rfl rfl, ?_⟩⟩
        rw [t2]
        exact ⟨(by show (1 : Int) ≠ 0; decide), rfl, rfl, rfl⟩
theorem c_step_digg {X : List Int} {d : Nat} {st dr rd : Int} {a s b : C3} {W : TXT} {a0 : C3} {p q : Nat} (hp : p ≤ W.2) (hq : skpT W p = q) (bf : Int) (hn : q < W.2) (h0 : clsT (W.1 q) = 2) (hb : ¬ (0 < q ∧ clsT (W.1 (q - 1)) ≠ 0)) (hbf : ¬ (q = p ∧ (bf = 97 ∨ bf = 48))) (hB : BaC W a) (e9 : a 114 9 = 0) (e10 : a 114 10 = -1) (hF : FrO 114 114 a0 a) (h8 : a 114 8 = a0 114 8) (e3 : a 114 3 = (q : Int)) : Ev X (d + 1) 27 76 [Vr 114, Vi (p : Int), Vi bf, Vx, Vx] [] (SHv st dr rd, ovl a s b) (fun rr hh => rr = none ∧ ∃ a' : C3, hh = (SHv st dr rd, ovl a' s b) ∧ StpC W p a0 a') := by
  have h1200 := hB.1.1
  have e2 : a 114 2 = ((W.2 : Nat) : Int) := hB.2.2.2
  refine Ev.steps (k := 3) (pc' := 81) (L' := [Vr 114, Vi (p : Int), Vi bf, Vx, Vx]) (S' := [Vi (a 114 3), Vr 114]) (h' := ((SHv st dr rd), (ovl a s b))) (fun _ => rfl) ?_
  rw [e3]
  refine Ev.putf (c' := (ovl (updC a 114 6 (q : Int)) s b)) rfl (by decide) rfl rfl rfl (ovl_wc (by decide)) ?_
  refine Ev.steps (k := 2) (pc' := 86) (L' := [Vr 114, Vi (p : Int), Vi bf, Vx, Vx]) (S' := [Vi 0, Vr 114]) (h' := ((SHv st dr rd), (ovl (updC a 114 6 (q : Int)) s b))) (fun _ => rfl) ?_
  refine Ev.putf (c' := (ovl (updC (updC a 114 6 (q : Int)) 114 7 0) s b)) rfl (by decide) rfl rfl rfl (ovl_wc (by decide)) ?_
  refine Ev.steps (k := 3) (pc' := 94) (L' := [Vr 114, Vi (p : Int), Vi bf, Vx, Vx]) (S' := [Vi (a 114 3), Vr 114]) (h' := ((SHv st dr rd), (ovl (updC (updC a 114 6 (q : Int)) 114 7 0) s b))) (fun _ => rfl) ?_
  rw [e3]
  refine Ev.call (k := 0) (pc1 := 94) (L1 := [Vr 114, Vi (p : Int), Vi bf, Vx, Vx]) (S1 := [Vi (q : Int), Vr 114]) (h1 := ((SHv st dr rd), (ovl (updC (updC a 114 6 (q : Int)) 114 7 0) s b))) (m' := 28) (as := [Vr 114, Vi (q : Int)]) (S' := []) (L0 := [Vr 114, Vi (q : Int)]) (fun _ => rfl) rfl rfl rfl rfl rfl rfl (c_signAt_c (a := (updC (updC a 114 6 (q : Int)) 114 7 0)) (W := W) (hB.fo rfl rfl rfl) q hn (v := 48) (sg_2 h0)) (fun r h' hq => ?_)
  obtain ⟨rfl, rfl⟩ := hq
  show Ev X _ _ 97 [Vr 114, Vi (p : Int), Vi bf, Vx, Vx] [Vi 48] ((SHv st dr rd), (ovl (updC (updC a 114 6 (q : Int)) 114 7 0) s b)) _
  refine Ev.ite (P := (q : Int) ≠ (p : Int)) (k := 14) (a := 175) (b := 151) (L' := [Vr 114, Vi (p : Int), Vi bf, Vi 48, Vx]) (S' := []) (h' := ((SHv st dr rd), (ovl (updC (updC a 114 6 (q : Int)) 114 7 0) s b))) (fun _ => rfl) (fun b148 => ?_) (fun b148 => ?_)
  · refine Ev.steps (k := 5) (pc' := 189) (L' := [Vr 114, Vi (p : Int), Vi bf, Vi 48, Vi 4]) (S' := []) (h' := ((SHv st dr rd), (ovl (updC (updC a 114 6 (q : Int)) 114 7 0) s b))) (fun _ => rfl) ?_
    exact c_step_dig hp hq bf hn h0 hb 0 (by omega) (by omega) (fun i hi => absurd hi (by omega)) (hB.fo rfl rfl rfl) e9 e10 ((hF.up (by omega)).up (by omega)) h8 e3 rfl rfl
  · refine Ev.ite (P := bf = 97) (k := 3) (a := 163) (b := 157) (L' := [Vr 114, Vi (p : Int), Vi bf, Vi 48, Vx]) (S' := []) (h' := ((SHv st dr rd), (ovl (updC (updC a 114 6 (q : Int)) 114 7 0) s b))) (fun _ => rfl) (fun b154 => ?_) (fun b154 => ?_)
    · exfalso; omega
    · refine Ev.ite (P := bf ≠ 48) (k := 3) (a := 175) (b := 163) (L' := [Vr 114, Vi (p : Int), Vi bf, Vi 48, Vx]) (S' := []) (h' := ((SHv st dr rd), (ovl (updC (updC a 114 6 (q : Int)) 114 7 0) s b))) (fun _ => rfl) (fun b160 => ?_) (fun b160 => ?_)
      · refine Ev.steps (k := 5) (pc' := 189) (L' := [Vr 114, Vi (p : Int), Vi bf, Vi 48, Vi 4]) (S' := []) (h' := ((SHv st dr rd), (ovl (updC (updC a 114 6 (q : Int)) 114 7 0) s b))) (fun _ => rfl) ?_
        exact c_step_dig hp hq bf hn h0 hb 0 (by omega) (by omega) (fun i hi => absurd hi (by omega)) (hB.fo rfl rfl rfl) e9 e10 ((hF.up (by omega)).up (by omega)) h8 e3 rfl rfl
      · exfalso; omega
theorem c_step_76 {X : List Int} {d : Nat} {st dr rd : Int} {a s b : C3} {W : TXT} {a0 : C3} {p q : Nat} (hp : p ≤ W.2) (hq : skpT W p = q) (hB : BaC W a) (e9 : a 114 9 = 0) (e10 : a 114 10 = -1) (hF : FrO 114 114 a0 a) (h8 : a 114 8 = a0 114 8) (e3 : a 114 3 = (q : Int)) : Ev X (d + 1) 27 76 [Vr 114, Vi (p : Int), Vi (bfT W p), Vx, Vx] [] (SHv st dr rd, ovl a s b) (fun rr hh => rr = none ∧ ∃ a' : C3, hh = (SHv st dr rd, ovl a' s b) ∧ StpC W p a0 a') := by
  have hbi := bf_iff hq
  by_cases hn : W.2 ≤ q
  · exact c_step_end hp hq _ hn hB e9 e10 hF h8 e3
  have hn : q < W.2 := by omega
  rcases cls_3 (c := W.1 q) with h0 | h0 | h0
  · exact c_step_sig hp hq _ hn h0 hB e9 e10 hF h8 e3
  · by_cases hb : 0 < q ∧ clsT (W.1 (q - 1)) ≠ 0
    · exact c_step_letb hp hq _ hn h0 hb (hbi.mpr hb) hB e9 e10 hF h8 e3
    · exact c_step_letg hp hq _ hn h0 hb (fun g => hb (hbi.mp g)) hB e9 e10 hF h8 e3
  · by_cases hb : 0 < q ∧ clsT (W.1 (q - 1)) ≠ 0
    · exact c_step_digb hp hq _ hn h0 hb (hbi.mpr hb) hB e9 e10 hF h8 e3
    · exact c_step_digg hp hq _ hn h0 hb (fun g => hb (hbi.mp g)) hB e9 e10 hF h8 e3
theorem c_step_bl {X : List Int} {d : Nat} {st dr rd : Int} {a s b : C3} {W : TXT} {a0 : C3} {p : Nat} (hp : p ≤ W.2) (q : Nat) (hpq : p ≤ q) (hqn : q ≤ W.2) (hbl : ∀ i, p ≤ i → i < q → isBl (W.1 i)) (hB : BaC W a) (e9 : a 114 9 = 0) (e10 : a 114 10 = -1) (hF : FrO 114 114 a0 a) (h8 : a 114 8 = a0 114 8) (e3 : a 114 3 = (q : Int)) : Ev X (d + 1) 27 24 [Vr 114, Vi (p : Int), Vi (bfT W p), Vx, Vx] [] (SHv st dr rd, ovl a s b) (fun rr hh => rr = none ∧ ∃ a' : C3, hh = (SHv st dr rd, ovl a' s b) ∧ StpC W p a0 a') := by
  induction hkk : (W.2 - q) using Nat.strongRecOn generalizing q a with
  | ind kk ih =>
    have h1200 := hB.1.1
    have e2 : a 114 2 = ((W.2 : Nat) : Int) := hB.2.2.2
    refine Ev.steps (k := 2) (pc' := 28) (L' := [Vr 114, Vi (p : Int), Vi (bfT W p), Vx, Vx]) (S' := [Vi (a 114 3)]) (h' := ((SHv st dr rd), (ovl a s b))) (fun _ => rfl) ?_
    rw [e3]
    refine Ev.steps (k := 2) (pc' := 32) (L' := [Vr 114, Vi (p : Int), Vi (bfT W p), Vx, Vx]) (S' := [Vi (a 114 2), Vi (q : Int)]) (h' := ((SHv st dr rd), (ovl a s b))) (fun _ => rfl) ?_
    rw [e2]
    refine Ev.ite (P := ((W.2 : Nat) : Int) ≤ (q : Int)) (k := 1) (a := 76) (b := 35) (L' := [Vr 114, Vi (p : Int), Vi (bfT W p), Vx, Vx]) (S' := []) (h' := ((SHv st dr rd), (ovl a s b))) (fun _ => rfl) (fun b32 => ?_) (fun b32 => ?_)
    · refine c_step_76 hp (skp_uq hpq hbl (fun hn => ?_) (Or.inl hqn)) hB e9 e10 hF h8 e3
      have hbb := hB.1.2 q hn
      show ¬ (W.1 q = 32 ∨ W.1 q = 10)
      omega
    · have hsc := sb_cs (hB.1.2 q (by omega))
      obtain ⟨v, hv⟩ : ∃ v, v = sbS (W.1 q) := ⟨_, rfl⟩
      have e1 : a 1 q = v := (hB.2.1 q (by omega)).trans hv.symm
      rw [← hv] at hsc
      refine Ev.steps (k := 4) (pc' := 43) (L' := [Vr 114, Vi (p : Int), Vi (bfT W p), Vx, Vx]) (S' := [Vi (a 114 3), Vr 1]) (h' := ((SHv st dr rd), (ovl a s b))) (fun _ => rfl) ?_
      rw [e3]
      refine Ev.bald (v := v) rfl (by decide) rfl (by omega) (by omega) (e1) ?_
      refine Ev.ite (P := v = 32) (k := 2) (a := 63) (b := 49) (L' := [Vr 114, Vi (p : Int), Vi (bfT W p), Vx, Vx]) (S' := []) (h' := ((SHv st dr rd), (ovl a s b))) (fun _ => rfl) (fun b46 => ?_) (fun b46 => ?_)
      · refine Ev.steps (k := 3) (pc' := 68) (L' := [Vr 114, Vi (p : Int), Vi (bfT W p), Vx, Vx]) (S' := [Vi (a 114 3), Vr 114]) (h' := ((SHv st dr rd), (ovl a s b))) (fun _ => rfl) ?_
        rw [e3]
        refine Ev.steps (k := 2) (pc' := 70) (L' := [Vr 114, Vi (p : Int), Vi (bfT W p), Vx, Vx]) (S' := [Vi (w32 ((q : Int) + 1)), Vr 114]) (h' := ((SHv st dr rd), (ovl a s b))) (fun _ => rfl) ?_
        rw [show (w32 ((q : Int) + 1)) = ((q : Int) + 1) from w32_id (by unfold R32; omega)]
        refine Ev.putf (c' := (ovl (updC a 114 3 ((q : Int) + 1)) s b)) rfl (by decide) rfl rfl rfl (ovl_wc (by decide)) ?_
        refine Ev.steps (k := 1) (pc' := 24) (L' := [Vr 114, Vi (p : Int), Vi (bfT W p), Vx, Vx]) (S' := []) (h' := ((SHv st dr rd), (ovl (updC a 114 3 ((q : Int) + 1)) s b))) (fun _ => rfl) ?_
        refine ih _ (by omega) (a := (updC a 114 3 ((q : Int) + 1))) (q + 1) (by omega) (by omega) (fun i h1 h2 => ?_) (hB.fo rfl rfl rfl) e9 e10 (hF.up (by omega)) h8 ?_ rfl
        · by_cases h : i = q
          · rw [h]
            have hbb := hB.1.2 q (by omega)
            show W.1 q = 32 ∨ W.1 q = 10
            omega
          · exact hbl i h1 (by omega)
        · show (q : Int) + 1 = ((q + 1 : Nat) : Int)
          omega
      · refine Ev.steps (k := 4) (pc' := 57) (L' := [Vr 114, Vi (p : Int), Vi (bfT W p), Vx, Vx]) (S' := [Vi (a 114 3), Vr 1]) (h' := ((SHv st dr rd), (ovl a s b))) (fun _ => rfl) ?_
        rw [e3]
        refine Ev.bald (v := v) rfl (by decide) rfl (by omega) (by omega) (e1) ?_
        refine Ev.ite (P := v ≠ 10) (k := 2) (a := 76) (b := 63) (L' := [Vr 114, Vi (p : Int), Vi (bfT W p), Vx, Vx]) (S' := []) (h' := ((SHv st dr rd), (ovl a s b))) (fun _ => rfl) (fun b60 => ?_) (fun b60 => ?_)
        · refine c_step_76 hp (skp_uq hpq hbl (fun hn => ?_) (Or.inl hqn)) hB e9 e10 hF h8 e3
          have hbb := hB.1.2 q hn
          show ¬ (W.1 q = 32 ∨ W.1 q = 10)
          omega
        · refine Ev.steps (k := 3) (pc' := 68) (L' := [Vr 114, Vi (p : Int), Vi (bfT W p), Vx, Vx]) (S' := [Vi (a 114 3), Vr 114]) (h' := ((SHv st dr rd), (ovl a s b))) (fun _ => rfl) ?_
          rw [e3]
          refine Ev.steps (k := 2) (pc' := 70) (L' := [Vr 114, Vi (p : Int), Vi (bfT W p), Vx, Vx]) (S' := [Vi (w32 ((q : Int) + 1)), Vr 114]) (h' := ((SHv st dr rd), (ovl a s b))) (fun _ => rfl) ?_
          rw [show (w32 ((q : Int) + 1)) = ((q : Int) + 1) from w32_id (by unfold R32; omega)]
          refine Ev.putf (c' := (ovl (updC a 114 3 ((q : Int) + 1)) s b)) rfl (by decide) rfl rfl rfl (ovl_wc (by decide)) ?_
          refine Ev.steps (k := 1) (pc' := 24) (L' := [Vr 114, Vi (p : Int), Vi (bfT W p), Vx, Vx]) (S' := []) (h' := ((SHv st dr rd), (ovl (updC a 114 3 ((q : Int) + 1)) s b))) (fun _ => rfl) ?_
          refine ih _ (by omega) (a := (updC a 114 3 ((q : Int) + 1))) (q + 1) (by omega) (by omega) (fun i h1 h2 => ?_) (hB.fo rfl rfl rfl) e9 e10 (hF.up (by omega)) h8 ?_ rfl
          · by_cases h : i = q
            · rw [h]
              have hbb := hB.1.2 q (by omega)
              show W.1 q = 32 ∨ W.1 q = 10
              omega
            · exact hbl i h1 (by omega)
          · show (q : Int) + 1 = ((q + 1 : Nat) : Int)
            omega
theorem c_step {X : List Int} {d : Nat} {st dr rd : Int} {a s b : C3} {W : TXT} {p : Nat} (hp : p ≤ W.2) (hB : BaC W a) (e9 : a 114 9 = 0) (e10 : a 114 10 = -1) (e3 : a 114 3 = (p : Int)) : Ev X (d + 1) 27 0 [Vr 114, Vx, Vx, Vx, Vx] [] (SHv st dr rd, ovl a s b) (fun rr hh => rr = none ∧ ∃ a' : C3, hh = (SHv st dr rd, ovl a' s b) ∧ StpC W p a a') := by
  have h1200 := hB.1.1
  have e2 : a 114 2 = ((W.2 : Nat) : Int) := hB.2.2.2
  refine Ev.steps (k := 2) (pc' := 4) (L' := [Vr 114, Vx, Vx, Vx, Vx]) (S' := [Vi (a 114 9)]) (h' := ((SHv st dr rd), (ovl a s b))) (fun _ => rfl) ?_
  rw [e9]
  refine Ev.steps (k := 3) (pc' := 12) (L' := [Vr 114, Vx, Vx, Vx, Vx]) (S' := [Vi (a 114 3)]) (h' := ((SHv st dr rd), (ovl a s b))) (fun _ => rfl) ?_
  rw [e3]
  refine Ev.steps (k := 4) (pc' := 18) (L' := [Vr 114, Vi (p : Int), Vx, Vx, Vx]) (S' := [Vi (a 114 3), Vr 114]) (h' := ((SHv st dr rd), (ovl a s b))) (fun _ => rfl) ?_
  rw [e3]
  refine Ev.steps (k := 2) (pc' := 20) (L' := [Vr 114, Vi (p : Int), Vx, Vx, Vx]) (S' := [Vi (w32 ((p : Int) - 1)), Vr 114]) (h' := ((SHv st dr rd), (ovl a s b))) (fun _ => rfl) ?_
  rw [show (w32 ((p : Int) - 1)) = ((p : Int) - 1) from w32_id (by unfold R32; omega)]
  refine Ev.call (k := 0) (pc1 := 20) (L1 := [Vr 114, Vi (p : Int), Vx, Vx, Vx]) (S1 := [Vi ((p : Int) - 1), Vr 114]) (h1 := ((SHv st dr rd), (ovl a s b))) (m' := 28) (as := [Vr 114, Vi ((p : Int) - 1)]) (S' := []) (L0 := [Vr 114, Vi ((p : Int) - 1)]) (fun _ => rfl) rfl rfl rfl rfl rfl rfl (c_signAt_p hB p hp) (fun r h' hq => ?_)
  obtain ⟨rfl, rfl⟩ := hq
  show Ev X _ _ 23 [Vr 114, Vi (p : Int), Vx, Vx, Vx] [Vi (bfT W p)] ((SHv st dr rd), (ovl a s b)) _
  refine Ev.steps (k := 1) (pc' := 24) (L' := [Vr 114, Vi (p : Int), Vi (bfT W p), Vx, Vx]) (S' := []) (h' := ((SHv st dr rd), (ovl a s b))) (fun _ => rfl) ?_
  exact c_step_bl hp p (Nat.le_refl p) hp (fun i h1 h2 => absurd h1 (by omega)) hB e9 e10 FrO.rf rfl e3
theorem c_step_br {X : List Int} {d : Nat} {st dr rd : Int} {a s b : C3} {e : PF} (hB : BrC e a) : Ev X (d + 1) 27 0 [Vr 114, Vx, Vx, Vx, Vx] [] (SHv st dr rd, ovl a s b) (fun rr hh => rr = none ∧ hh = (SHv st dr rd, ovl a s b)) := by
  have e9 : a 114 9 = e.1 := hB.2.1
  have h0 := hB.1
  refine Ev.steps (k := 2) (pc' := 4) (L' := [Vr 114, Vx, Vx, Vx, Vx]) (S' := [Vi (a 114 9)]) (h' := ((SHv st dr rd), (ovl a s b))) (fun _ => rfl) ?_
  rw [e9]
  refine Ev.ite (P := e.1 = 0) (k := 1) (a := 8) (b := 7) (L' := [Vr 114, Vx, Vx, Vx, Vx]) (S' := []) (h' := ((SHv st dr rd), (ovl a s b))) (fun _ => rfl) (fun b4 => ?_) (fun b4 => ?_)
  · exact absurd b4 h0
  · refine Ev.fin (k := 1) (r := none) (h' := ((SHv st dr rd), (ovl a s b))) (fun _ => rfl) ?_
    exact ⟨rfl, rfl⟩
