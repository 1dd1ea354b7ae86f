/-! THE REFERENCE: an evening -/
theorem HisM.fr {S : STY} {B b b' : SC} {e M : Nat} (h : HisM S B b e M) (hw : nW S ≤ 8) (ht : nT S ≤ 8) (hf : ∀ o i, 205 ≤ o → o ≤ 209 → 1440 * e ≤ i → i < 1440 * e + 8 * M → b' o i = b o i) : HisM S B b' e M := by
  intro m hm
  obtain ⟨h1, h2, h3, h4, h5⟩ := h m hm
  exact ⟨fun p hp => by rw [hf _ _ (by omega) (by omega) (by omega) (by omega)]; exact h1 p hp, fun p hp => by rw [hf _ _ (by omega) (by omega) (by omega) (by omega)]; exact h2 p hp, fun p hp => by rw [hf _ _ (by omega) (by omega) (by omega) (by omega)]; exact h3 p hp, fun p hp => by rw [hf _ _ (by omega) (by omega) (by omega) (by omega)]; exact h4 p hp, fun p hp => by rw [hf _ _ (by omega) (by omega) (by omega) (by omega)]; exact h5 p hp⟩
/-- evening e as the reference has it -/
def EvM (S : STY) (B b : SC) (e n : Nat) : Prop := b 202 e = (n : Int) ∧ b 203 e = aftS S B n 9 0 ∧ b 204 e = aftS S B n 7 0 ∧ (∀ i, i < 6 * (aftS S B n 7 0).toNat → b 211 (8640 * e + i) = aftS S B n 6 i) ∧ (∀ i, i < 6 * (aftS S B n 9 0).toNat → b 210 (96 * e + i) = aftS S B n 8 i) ∧ (∀ i, i < 64 → b 212 (64 * e + i) = aftS S B n 4 i) ∧ HisM S B b e n
theorem updC_self {c : SC} {t i : Nat} : updC c t i (c t i) = c := by
  funext t' i'
  by_cases h : t' = t ∧ i' = i
  · rw [h.1, h.2, updC_sm]
  · rw [updC_nt h]
theorem updC_tw {c : SC} {t i : Nat} {v w : Int} : updC (updC c t i v) t i w = updC c t i w := by
  funext t' i'
  by_cases h : t' = t ∧ i' = i
  · rw [h.1, h.2, updC_sm, updC_sm]
  · rw [updC_nt h, updC_nt h, updC_nt h]
def PGo (st dr rd : Int) (a : SC) (S : STY) (B : SC) (e n : Nat) (b : SC) : Option pm_V → pm_H → Prop := fun rr hh => rr = some (Vi (aftS S B n 9 0)) ∧ ∃ s' b' : SC, hh = (SHv st dr rd, ovl a s' b') ∧ EvM S B b' e n ∧ FrE e b b'
theorem m_goes_p {X : List Int} {d : Nat} {st dr rd : Int} {a s b : C3} (e bf n : Nat) {S : STY} {bk : Nat} {B : SC} (hWY : WfY S) (hWB : WfB S B) (he : e < 2) (hbf : bf < 3) (hn : n ≤ 180) (m : Nat) (hmn : m < n) (c1 : SC) (hc1 : c1 = updC (aftS S B m) 5 0 m) {b0 : C3} {Q : Option pm_V → pm_H → Prop} (K : ∀ (s2 b2 : C3), RepY S b2 bk → RepB S B b2 bf → SimM S (psnS S B c1 (nW S)) b2 e → FrE e b0 b2 → b2 202 e = (n : Int) → HisM S B b2 e m → (∀ q, q < nW S → b2 208 (1440 * e + 8 * m + q) = dnS S B c1 q) → Ev X (d + 5) 205 211 [Vr 166, Vi (e : Int), Vi (bf : Int), Vi (n : Int), Vi (m : Int), Vi ((nW S : Nat) : Int)] [] (SHv st dr rd, ovl a s2 b2) Q) (p : Nat) (hp : p ≤ nW S) (hY_b : RepY S b bk) (hB_b : RepB S B b bf) (hS_b : SimM S (psnS S B c1 p) b e) (hF : FrE e b0 b) (g202 : b 202 e = (n : Int)) (hH : HisM S B b e m) (hD : ∀ q, q < p → b 208 (1440 * e + 8 * m + q) = dnS S B c1 q) : Ev X (d + 5) 205 155 [Vr 166, Vi (e : Int), Vi (bf : Int), Vi (n : Int), Vi (m : Int), Vi (p : Int)] [] (SHv st dr rd, ovl a s b) (Q) := by
  induction hk : (nW S - p) using Nat.strongRecOn generalizing p s b with
  | ind k ih =>
    obtain ⟨hb2_b, h12_b, h168_b, h169_b, h170_b, h171_b, h173_b, h172_b, h174_b, h176_b, h178_b, h175_b, h177_b, h179_b, h180_b, h184_b⟩ := id hY_b
    have he_b := hS_b.2.2.2.2.2.2.2.2.2.2.1
    have s1_b := hS_b.2.1
    obtain ⟨wR, wD, ⟨w8, wWc⟩, ⟨t8, wTc⟩, wL, wC, -⟩ := id hWY
    have hKc : WfK S c1 0 := by rw [hc1]; exact begA_wf hWY hWB (by omega)
    obtain ⟨hKp, h5p⟩ := psnS_wf (B := B) hWY hKc p (by omega)
    have h5m : c1 5 0 = (m : Int) := by rw [hc1, updC_sm]
    refine Ev.steps (k := 5) (pc' := 165) (L' := [Vr 166, Vi (e : Int), Vi (bf : Int), Vi (n : Int), Vi (m : Int), Vi (p : Int)]) (S' := [Vi (b 166 12), Vr 170, Vi (p : Int)]) (h' := ((SHv st dr rd), (ovl a s b))) (fun _ => rfl) ?_
    rw [h12_b]
    refine Ev.iald (v := ((nW S : Nat) : Int)) rfl (by decide) rfl (by omega) (by omega) (h170_b) ?_
    refine Ev.ite (P := ((nW S : Nat) : Int) ≤ (p : Int)) (k := 1) (a := 211) (b := 169) (L' := [Vr 166, Vi (e : Int), Vi (bf : Int), Vi (n : Int), Vi (m : Int), Vi (p : Int)]) (S' := []) (h' := ((SHv st dr rd), (ovl a s b))) (fun _ => rfl) (fun b166 => ?_) (fun b166 => ?_)
    · obtain rfl : p = nW S := by omega
      exact K s b hY_b hB_b hS_b hF g202 hH hD
    · have hpW : p < nW S := by omega
      have hlt : nW S - (p + 1) < k := by omega
      have hle : p + 1 ≤ nW S := by omega
      refine Ev.steps (k := 5) (pc' := 178) (L' := [Vr 166, Vi (e : Int), Vi (bf : Int), Vi (n : Int), Vi (m : Int), Vi (p : Int)]) (S' := [Vi (b 166 64), Vr 166, Vr 208]) (h' := ((SHv st dr rd), (ovl a s b))) (fun _ => rfl) ?_
      rw [he_b]
      refine Ev.call (k := 1) (pc1 := 180) (L1 := [Vr 166, Vi (e : Int), Vi (bf : Int), Vi (n : Int), Vi (m : Int), Vi (p : Int)]) (S1 := [Vi (m : Int), Vi (e : Int), Vr 166, Vr 208]) (h1 := ((SHv st dr rd), (ovl a s b))) (m' := 206) (as := [Vr 166, Vi (e : Int), Vi (m : Int)]) (S' := [Vr 208]) (L0 := [Vr 166, Vi (e : Int), Vi (m : Int)]) (fun _ => rfl) rfl rfl rfl rfl rfl rfl (m_at (e : Int) (m : Int) (by omega) (by omega)) (fun r h' hq => ?_)
      obtain ⟨rfl, rfl⟩ := hq
      show Ev X _ _ 183 [Vr 166, Vi (e : Int), Vi (bf : Int), Vi (n : Int), Vi (m : Int), Vi (p : Int)] [Vi ((1440 * (e : Int)) + (8 * (m : Int))), Vr 208] ((SHv st dr rd), (ovl a s b)) _
      refine Ev.steps (k := 2) (pc' := 186) (L' := [Vr 166, Vi (e : Int), Vi (bf : Int), Vi (n : Int), Vi (m : Int), Vi (p : Int)]) (S' := [Vi (w32 (((1440 * (e : Int)) + (8 * (m : Int))) + (p : Int))), Vr 208]) (h' := ((SHv st dr rd), (ovl a s b))) (fun _ => rfl) ?_
      rw [show (w32 (((1440 * (e : Int)) + (8 * (m : Int))) + (p : Int))) = (((1440 * (e : Int)) + (8 * (m : Int))) + (p : Int)) from w32_id (by unfold R32; omega)]
      refine Ev.steps (k := 1) (pc' := 187) (L' := [Vr 166, Vi (e : Int), Vi (bf : Int), Vi (n : Int), Vi (m : Int), Vi (p : Int)]) (S' := [Vi (-1), Vi (((1440 * (e : Int)) + (8 * (m : Int))) + (p : Int)), Vr 208]) (h' := ((SHv st dr rd), (ovl a s b))) (fun _ => rfl) ?_
      refine Ev.iast (c' := (ovl a s (updC b 208 (((1440 * e + 8 * m) + p)) (-1)))) rfl (by decide) rfl (by omega) (by omega) (ovl_wm (by decide)) ?_
      have hF1 : FrE e b (updC b 208 (((1440 * e + 8 * m) + p)) (-1)) := FrE.rf.up (by unfold InE; omega)
      have hS1 : SimM S (psnS S B c1 p) (updC b 208 (((1440 * e + 8 * m) + p)) (-1)) e := hS_b
      have hH1 : HisM S B (updC b 208 (((1440 * e + 8 * m) + p)) (-1)) e m := hH.fr w8 t8 (fun o i _ _ _ hi => updC_nt (by omega))
      have hD1 : ∀ q, q < p → (updC b 208 (((1440 * e + 8 * m) + p)) (-1)) 208 (1440 * e + 8 * m + q) = dnS S B c1 q := fun q hq => by rw [updC_if, if_neg (by omega)]; exact hD q hq
      have hv1 : (updC b 208 (((1440 * e + 8 * m) + p)) (-1)) 208 (1440 * e + 8 * m + p) = -1 := updC_sm
      refine Ev.steps (k := 3) (pc' := 194) (L' := [Vr 166, Vi (e : Int), Vi (bf : Int), Vi (n : Int), Vi (m : Int), Vi (p : Int)]) (S' := [Vi (p : Int), Vr 214]) (h' := ((SHv st dr rd), (ovl a s (updC b 208 (((1440 * e + 8 * m) + p)) (-1))))) (fun _ => rfl) ?_
      refine Ev.zald (v := (psnS S B c1 p 1 p)) rfl (by decide) rfl (by omega) (by omega) (s1_b p (by omega)) ?_
      refine Ev.ite (P := (psnS S B c1 p 1 p) = 0) (k := 1) (a := 205) (b := 198) (L' := [Vr 166, Vi (e : Int), Vi (bf : Int), Vi (n : Int), Vi (m : Int), Vi (p : Int)]) (S' := []) (h' := ((SHv st dr rd), (ovl a s (updC b 208 (((1440 * e + 8 * m) + p)) (-1))))) (fun _ => rfl) (fun b195 => ?_) (fun b195 => ?_)
      · have hdn : dnS S B c1 p = -1 := by unfold dnS; rw [if_neg (by omega)]
        have hps : psnS S B c1 (p + 1) = psnS S B c1 p := by rw [psnS_s, if_neg (by omega)]
        refine Ev.steps (k := 1) (pc' := 208) (L' := [Vr 166, Vi (e : Int), Vi (bf : Int), Vi (n : Int), Vi (m : Int), Vi (w32 ((p : Int) + 1))]) (S' := []) (h' := ((SHv st dr rd), (ovl a s (updC b 208 (((1440 * e + 8 * m) + p)) (-1))))) (fun _ => rfl) ?_
        rw [show (w32 ((p : Int) + 1)) = ((p : Int) + 1) from w32_id (by unfold R32; omega)]
        refine Ev.steps (k := 1) (pc' := 155) (L' := [Vr 166, Vi (e : Int), Vi (bf : Int), Vi (n : Int), Vi (m : Int), Vi ((p : Int) + 1)]) (S' := []) (h' := ((SHv st dr rd), (ovl a s (updC b 208 (((1440 * e + 8 * m) + p)) (-1))))) (fun _ => rfl) ?_
        refine ih _ hlt (s := s) (b := (updC b 208 (((1440 * e + 8 * m) + p)) (-1))) (p + 1) hle (hY_b.fr hF1) (hB_b.fr hF1) (by rw [hps]; exact hS1) (hF.tr hF1) g202 hH1 (fun q hq => ?_) rfl
        by_cases hqp : q = p
        · subst hqp
          rw [hv1, hdn]
        · exact hD1 q (by omega)
      · have hdn : dnS S B c1 p = (trnS S B p (psnS S B c1 p)).1 := by unfold dnS; rw [if_pos b195]
        have hps : psnS S B c1 (p + 1) = (trnS S B p (psnS S B c1 p)).2 := by rw [psnS_s, if_pos b195]
        refine Ev.call (k := 3) (pc1 := 202) (L1 := [Vr 166, Vi (e : Int), Vi (bf : Int), Vi (n : Int), Vi (m : Int), Vi (p : Int)]) (S1 := [Vi (bf : Int), Vi (p : Int), Vr 166]) (h1 := ((SHv st dr rd), (ovl a s (updC b 208 (((1440 * e + 8 * m) + p)) (-1))))) (m' := 207) (as := [Vr 166, Vi (p : Int), Vi (bf : Int)]) (S' := []) (L0 := [Vr 166, Vi (p : Int), Vi (bf : Int), Vx, Vx]) (fun _ => rfl) rfl rfl rfl rfl rfl rfl (m_turn p m hWY hbf hpW (hY_b.fr hF1) (hB_b.fr hF1) hS1 hKp (by rw [h5p, h5m]) b195) (fun r h' hq => ?_)
        obtain ⟨rfl, s3, b3, rfl, hS3, hF3, hv3⟩ := hq
        show Ev X _ _ 205 [Vr 166, Vi (e : Int), Vi (bf : Int), Vi (n : Int), Vi (m : Int), Vi (p : Int)] [] ((SHv st dr rd), (ovl a s3 b3)) _
        refine Ev.steps (k := 1) (pc' := 208) (L' := [Vr 166, Vi (e : Int), Vi (bf : Int), Vi (n : Int), Vi (m : Int), Vi (w32 ((p : Int) + 1))]) (S' := []) (h' := ((SHv st dr rd), (ovl a s3 b3))) (fun _ => rfl) ?_
        rw [show (w32 ((p : Int) + 1)) = ((p : Int) + 1) from w32_id (by unfold R32; omega)]
        refine Ev.steps (k := 1) (pc' := 155) (L' := [Vr 166, Vi (e : Int), Vi (bf : Int), Vi (n : Int), Vi (m : Int), Vi ((p : Int) + 1)]) (S' := []) (h' := ((SHv st dr rd), (ovl a s3 b3))) (fun _ => rfl) ?_
        have hF4 := (hF3.fe (by omega) (by omega))
        refine ih _ hlt (s := s3) (b := b3) (p + 1) hle ((hY_b.fr hF1).fr hF4) ((hB_b.fr hF1).fr hF4) (by rw [hps]; exact hS3) ((hF.tr hF1).tr hF4) (by rw [hF3 202 e (by unfold InD; omega) (by omega)]; exact g202) (hH1.fr w8 t8 (fun o i _ _ _ hi => hF3 o i (by unfold InD; omega) (by omega))) (fun q hq => ?_) rfl
        by_cases hqp : q = p
        · subst hqp
          rw [hv3, hv1, hdn]
          split
          · next h => rw [h]
          · rfl
        · rw [hF3 208 _ (by unfold InD; omega) (by omega)]
          exact hD1 q (by omega)
theorem m_goes_m {X : List Int} {d : Nat} {st dr rd : Int} {a s b : C3} (e bf n : Nat) {S : STY} {bk : Nat} {B : SC} (hWY : WfY S) (hWB : WfB S B) (he : e < 2) (hbf : bf < 3) (hn : n ≤ 180) {b0 : C3} (m : Nat) (z : pm_V) (v : Int) (hmn : m ≤ n) (hY_b : RepY S b bk) (hB_b : RepB S B b bf) (hS_b : SimM S (updC (aftS S B m) 5 0 v) b e) (hF : FrE e b0 b) (g202 : b 202 e = (n : Int)) (hH : HisM S B b e m) : Ev X (d + 5) 205 140 [Vr 166, Vi (e : Int), Vi (bf : Int), Vi (n : Int), Vi (m : Int), z] [] (SHv st dr rd, ovl a s b) (PGo st dr rd a S B e n b0) := by
  induction hk : (n - m) using Nat.strongRecOn generalizing m s b z v with
  | ind k ih =>
    obtain ⟨hb2_b, h12_b, h168_b, h169_b, h170_b, h171_b, h173_b, h172_b, h174_b, h176_b, h178_b, h175_b, h177_b, h179_b, h180_b, h184_b⟩ := id hY_b
    have he_b := hS_b.2.2.2.2.2.2.2.2.2.2.1
    obtain ⟨wR, wD, ⟨w8, wWc⟩, ⟨t8, wTc⟩, wL, wC, -⟩ := id hWY
    refine Ev.ite (P := (n : Int) ≤ (m : Int)) (k := 3) (a := 221) (b := 146) (L' := [Vr 166, Vi (e : Int), Vi (bf : Int), Vi (n : Int), Vi (m : Int), z]) (S' := []) (h' := ((SHv st dr rd), (ovl a s b))) (fun _ => rfl) (fun b143 => ?_) (fun b143 => ?_)
    · refine Ev.steps (k := 4) (pc' := 229) (L' := [Vr 166, Vi (e : Int), Vi (bf : Int), Vi (n : Int), Vi (m : Int), z]) (S' := [Vi (b 166 64), Vr 203]) (h' := ((SHv st dr rd), (ovl a s b))) (fun _ => rfl) ?_
      rw [he_b]
      refine Ev.iald (v := (aftS S B m 9 0)) rfl (by decide) rfl (by omega) (by omega) (hS_b.2.2.2.2.2.2.2.1) ?_
      refine Ev.fin (k := 1) (r := (some (Vi (aftS S B m 9 0)))) (h' := ((SHv st dr rd), (ovl a s b))) (fun _ => rfl) ?_
      obtain rfl : m = n := by omega
      obtain ⟨h0, h1, h2, h3, h4, h5, h7, h9, h6, h8, -⟩ := hS_b
      exact ⟨rfl, s, b, rfl, ⟨g202, h9, h7, h6, h8, h4, hH⟩, hF⟩
    · refine Ev.steps (k := 2) (pc' := 149) (L' := [Vr 166, Vi (e : Int), Vi (bf : Int), Vi (n : Int), Vi (m : Int), z]) (S' := [Vi (m : Int), Vr 166]) (h' := ((SHv st dr rd), (ovl a s b))) (fun _ => rfl) ?_
      refine Ev.putf (c' := (ovl a s (updC b 166 65 (m : Int)))) rfl (by decide) rfl rfl rfl (ovl_wm (by decide)) ?_
      refine Ev.steps (k := 2) (pc' := 155) (L' := [Vr 166, Vi (e : Int), Vi (bf : Int), Vi (n : Int), Vi (m : Int), Vi 0]) (S' := []) (h' := ((SHv st dr rd), (ovl a s (updC b 166 65 (m : Int))))) (fun _ => rfl) ?_
      have hF1 : FrE e b (updC b 166 65 (m : Int)) := FrE.rf.up (by unfold InE; omega)
      have hS1 : SimM S (psnS S B (updC (aftS S B m) 5 0 m) 0) (updC b 166 65 (m : Int)) e := by
        have := hS_b.minute (v := (m : Int))
        rw [updC_tw] at this
        exact this
      refine m_goes_p e bf n hWY hWB he hbf hn m (by omega) _ rfl (b0 := b0) (fun s2 b2 hY2 hB2 hS2 hF2 g2 hH2 hD2 => ?_) 0 (by omega) (hY_b.fr hF1) (hB_b.fr hF1) hS1 (hF.tr hF1) g202 (hH.fr w8 t8 (fun o i h1 h2 _ _ => updC_nt (by omega))) (fun q hq => absurd hq (by omega))
      have hK2 := psnS_wf (B := B) hWY (begA_wf hWY hWB (m := m) (by omega)) (nW S) (Nat.le_refl _)
      have h5 : psnS S B (updC (aftS S B m) 5 0 m) (nW S) 5 0 = (m : Int) := by rw [hK2.2, updC_sm]
      refine Ev.call (k := 1) (pc1 := 212) (L1 := [Vr 166, Vi (e : Int), Vi (bf : Int), Vi (n : Int), Vi (m : Int), Vi ((nW S : Nat) : Int)]) (S1 := [Vr 166]) (h1 := ((SHv st dr rd), (ovl a s2 b2))) (m' := 222) (as := [Vr 166]) (S' := []) (L0 := [Vr 166, Vx, Vx]) (fun _ => rfl) rfl rfl rfl rfl rfl rfl (m_ends m hWY hY2 hS2 hK2.1.1 h5 (by omega)) (fun r h' hq => ?_)
      obtain ⟨rfl, b3, rfl, hS3, hF3, e1, e2, e3, e4⟩ := hq
      show Ev X _ _ 215 [Vr 166, Vi (e : Int), Vi (bf : Int), Vi (n : Int), Vi (m : Int), Vi ((nW S : Nat) : Int)] [] ((SHv st dr rd), (ovl a s2 b3)) _
      refine Ev.steps (k := 1) (pc' := 218) (L' := [Vr 166, Vi (e : Int), Vi (bf : Int), Vi (n : Int), Vi (w32 ((m : Int) + 1)), Vi ((nW S : Nat) : Int)]) (S' := []) (h' := ((SHv st dr rd), (ovl a s2 b3))) (fun _ => rfl) ?_
      rw [show (w32 ((m : Int) + 1)) = ((m : Int) + 1) from w32_id (by unfold R32; omega)]
      refine Ev.steps (k := 1) (pc' := 140) (L' := [Vr 166, Vi (e : Int), Vi (bf : Int), Vi (n : Int), Vi ((m : Int) + 1), Vi ((nW S : Nat) : Int)]) (S' := []) (h' := ((SHv st dr rd), (ovl a s2 b3))) (fun _ => rfl) ?_
      have hF4 := hF3.fe (by omega)
      have hSx : SimM S (aftS S B (m + 1)) b3 e := hS3
      refine ih _ (by omega) (s := s2) (b := b3) (m + 1) _ (m : Int) (by omega) (hY2.fr hF4) (hB2.fr hF4) ?_ (hF2.tr hF4) (by rw [hF3 202 e (by omega) (by omega)]; exact g2) ?_ rfl
      · have hself : updC (aftS S B (m + 1)) 5 0 (m : Int) = aftS S B (m + 1) := by
          have h6 : aftS S B (m + 1) 5 0 = (m : Int) := by
            show lrnS (nW S) (psnS S B (updC (aftS S B m) 5 0 m) (nW S)) 5 0 = _
            rw [lrnS_n (by decide), h5]
          rw [← h6, updC_self]
        rw [hself]
        exact hSx
      · intro m1 hm1
        by_cases hmm : m1 = m
        · subst hmm
          refine ⟨fun p hp => ?_, fun p hp => ?_, fun t ht => ?_, fun p hp => ?_, fun p hp => ?_⟩
          · rw [e1 p hp]
            show _ = lrnS (nW S) (psnS S B (updC (aftS S B m1) 5 0 m1) (nW S)) 0 p
            rw [lrnS_n (by decide)]
          · rw [e2 p hp]
            show _ = lrnS (nW S) (psnS S B (updC (aftS S B m1) 5 0 m1) (nW S)) 1 p
            rw [lrnS_n (by decide)]
          · rw [e3 t ht]
            show _ = lrnS (nW S) (psnS S B (updC (aftS S B m1) 5 0 m1) (nW S)) 2 t
            rw [lrnS_n (by decide)]
          · rw [e4 p hp]
            show _ = lrnS (nW S) (psnS S B (updC (aftS S B m1) 5 0 m1) (nW S)) 3 p
            rw [lrnS_n (by decide)]
          · rw [hF3 208 _ (by omega) (by omega)]
            exact hD2 p hp
        · exact (hH2.fr w8 t8 (b' := b3) (fun o i h1 h2 h3 h4 => hF3 o i (by omega) (by omega))) m1 (by omega)
theorem m_goes_k {X : List Int} {d : Nat} {st dr rd : Int} {a s b : C3} (e bf n : Nat) {S : STY} {bk : Nat} {B : SC} (hWY : WfY S) (hWB : WfB S B) (he : e < 2) (hbf : bf < 3) (hn : n ≤ 180) (z : pm_V) {b0 : C3} (i : Nat) (hi : i ≤ 64) (hY_b : RepY S b bk) (hB_b : RepB S B b bf) (hS : (∀ p, p < nW S → b 213 p = B 0 p) ∧ (∀ p, p < 8 → b 214 p = 1) ∧ (∀ t, t < nT S → b 215 t = B 1 t) ∧ (∀ p, p < 8 → b 216 p = 0) ∧ b 204 e = 0 ∧ b 203 e = 0 ∧ b 166 64 = (e : Int)) (hF : FrE e b0 b) (g202 : b 202 e = (n : Int)) (hk4 : ∀ j, j < i → b 212 (64 * e + j) = -1) : Ev X (d + 5) 205 108 [Vr 166, Vi (e : Int), Vi (bf : Int), Vi (n : Int), Vi (i : Int), z] [] (SHv st dr rd, ovl a s b) (PGo st dr rd a S B e n b0) := by
  induction hk : (64 - i) using Nat.strongRecOn generalizing i b with
  | ind k ih =>
    obtain ⟨hb2_b, h12_b, h168_b, h169_b, h170_b, h171_b, h173_b, h172_b, h174_b, h176_b, h178_b, h175_b, h177_b, h179_b, h180_b, h184_b⟩ := id hY_b
    have he_b := hS.2.2.2.2.2.2
    refine Ev.ite (P := 64 ≤ (i : Int)) (k := 3) (a := 137) (b := 115) (L' := [Vr 166, Vi (e : Int), Vi (bf : Int), Vi (n : Int), Vi (i : Int), z]) (S' := []) (h' := ((SHv st dr rd), (ovl a s b))) (fun _ => rfl) (fun b112 => ?_) (fun b112 => ?_)
    · refine Ev.steps (k := 2) (pc' := 140) (L' := [Vr 166, Vi (e : Int), Vi (bf : Int), Vi (n : Int), Vi 0, z]) (S' := []) (h' := ((SHv st dr rd), (ovl a s b))) (fun _ => rfl) ?_
      obtain rfl : i = 64 := by omega
      exact m_goes_m e bf n hWY hWB he hbf hn (b0 := b0) 0 _ (b 166 65) (by omega) hY_b hB_b ⟨hS.1, hS.2.1, hS.2.2.1, hS.2.2.2.1, hk4, by rw [updC_sm], hS.2.2.2.2.1, hS.2.2.2.2.2.1, fun i hi => absurd hi (by show ¬ i < 6 * (0 : Int).toNat; omega), fun i hi => absurd hi (by show ¬ i < 6 * (0 : Int).toNat; omega), he_b, he⟩ hF g202 (fun m hm => absurd hm (by omega))
    · refine Ev.steps (k := 5) (pc' := 125) (L' := [Vr 166, Vi (e : Int), Vi (bf : Int), Vi (n : Int), Vi (i : Int), z]) (S' := [Vi (b 166 64), Vi 64, Vr 212]) (h' := ((SHv st dr rd), (ovl a s b))) (fun _ => rfl) ?_
      rw [he_b]
      refine Ev.steps (k := 1) (pc' := 126) (L' := [Vr 166, Vi (e : Int), Vi (bf : Int), Vi (n : Int), Vi (i : Int), z]) (S' := [Vi (w32 (64 * (e : Int))), Vr 212]) (h' := ((SHv st dr rd), (ovl a s b))) (fun _ => rfl) ?_
      rw [show (w32 (64 * (e : Int))) = (64 * (e : Int)) from w32_id (by unfold R32; omega)]
      refine Ev.steps (k := 2) (pc' := 129) (L' := [Vr 166, Vi (e : Int), Vi (bf : Int), Vi (n : Int), Vi (i : Int), z]) (S' := [Vi (w32 ((64 * (e : Int)) + (i : Int))), Vr 212]) (h' := ((SHv st dr rd), (ovl a s b))) (fun _ => rfl) ?_
      rw [show (w32 ((64 * (e : Int)) + (i : Int))) = ((64 * (e : Int)) + (i : Int)) from w32_id (by unfold R32; omega)]
      refine Ev.steps (k := 1) (pc' := 130) (L' := [Vr 166, Vi (e : Int), Vi (bf : Int), Vi (n : Int), Vi (i : Int), z]) (S' := [Vi (-1), Vi ((64 * (e : Int)) + (i : Int)), Vr 212]) (h' := ((SHv st dr rd), (ovl a s b))) (fun _ => rfl) ?_
      refine Ev.iast (c' := (ovl a s (updC b 212 ((64 * e + i)) (-1)))) rfl (by decide) rfl (by omega) (by omega) (ovl_wm (by decide)) ?_
      refine Ev.steps (k := 1) (pc' := 134) (L' := [Vr 166, Vi (e : Int), Vi (bf : Int), Vi (n : Int), Vi (w32 ((i : Int) + 1)), z]) (S' := []) (h' := ((SHv st dr rd), (ovl a s (updC b 212 ((64 * e + i)) (-1))))) (fun _ => rfl) ?_
      rw [show (w32 ((i : Int) + 1)) = ((i : Int) + 1) from w32_id (by unfold R32; omega)]
      refine Ev.steps (k := 1) (pc' := 108) (L' := [Vr 166, Vi (e : Int), Vi (bf : Int), Vi (n : Int), Vi ((i : Int) + 1), z]) (S' := []) (h' := ((SHv st dr rd), (ovl a s (updC b 212 ((64 * e + i)) (-1))))) (fun _ => rfl) ?_
      have hF1 : FrE e b (updC b 212 ((64 * e + i)) (-1)) := FrE.rf.up (by unfold InE; omega)
      refine ih _ (by omega) (b := (updC b 212 ((64 * e + i)) (-1))) (i + 1) (by omega) (hY_b.fr hF1) (hB_b.fr hF1) hS (hF.tr hF1) g202 (fun j hj => ?_) rfl
      rw [updC_if]
      split
      · rfl
      · exact hk4 j (by omega)
theorem m_goes_i {X : List Int} {d : Nat} {st dr rd : Int} {a s b : C3} (e bf n : Nat) {S : STY} {bk : Nat} {B : SC} (hWY : WfY S) (hWB : WfB S B) (he : e < 2) (hbf : bf < 3) (hn : n ≤ 180) {b0 : C3} (i : Nat) (z : pm_V) (hi : i ≤ 8) (hY_b : RepY S b bk) (hB_b : RepB S B b bf) (hS : (∀ p, p < i → p < nW S → b 213 p = B 0 p) ∧ (∀ p, p < i → b 214 p = 1) ∧ (∀ t, t < i → t < nT S → b 215 t = B 1 t) ∧ (∀ p, p < i → b 216 p = 0) ∧ b 204 e = 0 ∧ b 203 e = 0 ∧ b 166 64 = (e : Int)) (hF : FrE e b0 b) (g202 : b 202 e = (n : Int)) : Ev X (d + 5) 205 38 [Vr 166, Vi (e : Int), Vi (bf : Int), Vi (n : Int), Vi (i : Int), z] [] (SHv st dr rd, ovl a s b) (PGo st dr rd a S B e n b0) := by
  induction hk : (8 - i) using Nat.strongRecOn generalizing i b z with
  | ind k ih =>
    obtain ⟨hb2_b, h12_b, h168_b, h169_b, h170_b, h171_b, h173_b, h172_b, h174_b, h176_b, h178_b, h175_b, h177_b, h179_b, h180_b, h184_b⟩ := id hY_b
    have he_b := hS.2.2.2.2.2.2
    obtain ⟨hB0, hB1, hB2⟩ := id hB_b
    obtain ⟨wR, wD, ⟨w8, wWc⟩, ⟨t8, wTc⟩, wL, wC, -⟩ := id hWY
    refine Ev.ite (P := 8 ≤ (i : Int)) (k := 3) (a := 105) (b := 45) (L' := [Vr 166, Vi (e : Int), Vi (bf : Int), Vi (n : Int), Vi (i : Int), z]) (S' := []) (h' := ((SHv st dr rd), (ovl a s b))) (fun _ => rfl) (fun b42 => ?_) (fun b42 => ?_)
    · refine Ev.steps (k := 2) (pc' := 108) (L' := [Vr 166, Vi (e : Int), Vi (bf : Int), Vi (n : Int), Vi 0, z]) (S' := []) (h' := ((SHv st dr rd), (ovl a s b))) (fun _ => rfl) ?_
      obtain rfl : i = 8 := by omega
      exact m_goes_k e bf n hWY hWB he hbf hn z (b0 := b0) 0 (by omega) hY_b hB_b ⟨fun p hp => hS.1 p (by omega) hp, fun p hp => hS.2.1 p hp, fun t ht => hS.2.2.1 t (by omega) ht, fun p hp => hS.2.2.2.1 p hp, hS.2.2.2.2⟩ hF g202 (fun j hj => absurd hj (by omega))
    · refine Ev.steps (k := 8) (pc' := 59) (L' := [Vr 166, Vi (e : Int), Vi (bf : Int), Vi (n : Int), Vi (i : Int), z]) (S' := [Vi (w32 (8 * (bf : Int))), Vr 199, Vi (i : Int), Vr 213]) (h' := ((SHv st dr rd), (ovl a s b))) (fun _ => rfl) ?_
      rw [show (w32 (8 * (bf : Int))) = (8 * (bf : Int)) from w32_id (by unfold R32; omega)]
      refine Ev.steps (k := 2) (pc' := 62) (L' := [Vr 166, Vi (e : Int), Vi (bf : Int), Vi (n : Int), Vi (i : Int), z]) (S' := [Vi (w32 ((8 * (bf : Int)) + (i : Int))), Vr 199, Vi (i : Int), Vr 213]) (h' := ((SHv st dr rd), (ovl a s b))) (fun _ => rfl) ?_
      rw [show (w32 ((8 * (bf : Int)) + (i : Int))) = ((8 * (bf : Int)) + (i : Int)) from w32_id (by unfold R32; omega)]
      refine Ev.iald (v := (b 199 ((8 * bf + i)))) rfl (by decide) rfl (by omega) (by omega) (rfl) ?_
      refine Ev.iast (c' := (ovl a s (updC b 213 i (b 199 ((8 * bf + i)))))) rfl (by decide) rfl (by omega) (by omega) (ovl_wm (by decide)) ?_
      refine Ev.steps (k := 4) (pc' := 71) (L' := [Vr 166, Vi (e : Int), Vi (bf : Int), Vi (n : Int), Vi (i : Int), z]) (S' := [Vi 1, Vi (i : Int), Vr 214]) (h' := ((SHv st dr rd), (ovl a s (updC b 213 i (b 199 ((8 * bf + i))))))) (fun _ => rfl) ?_
      refine Ev.zast (c' := (ovl a s (updC (updC b 213 i (b 199 ((8 * bf + i)))) 214 i 1))) rfl (by decide) rfl (by omega) (by omega) (by omega) (ovl_wm (by decide)) ?_
      refine Ev.steps (k := 8) (pc' := 86) (L' := [Vr 166, Vi (e : Int), Vi (bf : Int), Vi (n : Int), Vi (i : Int), z]) (S' := [Vi (w32 (8 * (bf : Int))), Vr 200, Vi (i : Int), Vr 215]) (h' := ((SHv st dr rd), (ovl a s (updC (updC b 213 i (b 199 ((8 * bf + i)))) 214 i 1)))) (fun _ => rfl) ?_
      rw [show (w32 (8 * (bf : Int))) = (8 * (bf : Int)) from w32_id (by unfold R32; omega)]
      refine Ev.steps (k := 2) (pc' := 89) (L' := [Vr 166, Vi (e : Int), Vi (bf : Int), Vi (n : Int), Vi (i : Int), z]) (S' := [Vi (w32 ((8 * (bf : Int)) + (i : Int))), Vr 200, Vi (i : Int), Vr 215]) (h' := ((SHv st dr rd), (ovl a s (updC (updC b 213 i (b 199 ((8 * bf + i)))) 214 i 1)))) (fun _ => rfl) ?_
      rw [show (w32 ((8 * (bf : Int)) + (i : Int))) = ((8 * (bf : Int)) + (i : Int)) from w32_id (by unfold R32; omega)]
      refine Ev.iald (v := (b 200 ((8 * bf + i)))) rfl (by decide) rfl (by omega) (by omega) (rfl) ?_
      refine Ev.iast (c' := (ovl a s (updC (updC (updC b 213 i (b 199 ((8 * bf + i)))) 214 i 1) 215 i (b 200 ((8 * bf + i)))))) rfl (by decide) rfl (by omega) (by omega) (ovl_wm (by decide)) ?_
      refine Ev.steps (k := 4) (pc' := 98) (L' := [Vr 166, Vi (e : Int), Vi (bf : Int), Vi (n : Int), Vi (i : Int), z]) (S' := [Vi 0, Vi (i : Int), Vr 216]) (h' := ((SHv st dr rd), (ovl a s (updC (updC (updC b 213 i (b 199 ((8 * bf + i)))) 214 i 1) 215 i (b 200 ((8 * bf + i))))))) (fun _ => rfl) ?_
      refine Ev.iast (c' := (ovl a s (updC (updC (updC (updC b 213 i (b 199 ((8 * bf + i)))) 214 i 1) 215 i (b 200 ((8 * bf + i)))) 216 i 0))) rfl (by decide) rfl (by omega) (by omega) (ovl_wm (by decide)) ?_
      refine Ev.steps (k := 1) (pc' := 102) (L' := [Vr 166, Vi (e : Int), Vi (bf : Int), Vi (n : Int), Vi (w32 ((i : Int) + 1)), z]) (S' := []) (h' := ((SHv st dr rd), (ovl a s (updC (updC (updC (updC b 213 i (b 199 ((8 * bf + i)))) 214 i 1) 215 i (b 200 ((8 * bf + i)))) 216 i 0)))) (fun _ => rfl) ?_
      rw [show (w32 ((i : Int) + 1)) = ((i : Int) + 1) from w32_id (by unfold R32; omega)]
      refine Ev.steps (k := 1) (pc' := 38) (L' := [Vr 166, Vi (e : Int), Vi (bf : Int), Vi (n : Int), Vi ((i : Int) + 1), z]) (S' := []) (h' := ((SHv st dr rd), (ovl a s (updC (updC (updC (updC b 213 i (b 199 ((8 * bf + i)))) 214 i 1) 215 i (b 200 ((8 * bf + i)))) 216 i 0)))) (fun _ => rfl) ?_
      have hF1 : FrE e b (updC (updC (updC (updC b 213 i (b 199 ((8 * bf + i)))) 214 i 1) 215 i (b 200 ((8 * bf + i)))) 216 i 0) := (((FrE.rf.up (by unfold InE; omega)).up (by unfold InE; omega)).up (by unfold InE; omega)).up (by unfold InE; omega)
      refine ih _ (by omega) (b := (updC (updC (updC (updC b 213 i (b 199 ((8 * bf + i)))) 214 i 1) 215 i (b 200 ((8 * bf + i)))) 216 i 0)) (i + 1) _ (by omega) (hY_b.fr hF1) (hB_b.fr hF1) ⟨fun p hp hpW => ?_, fun p hp => ?_, fun t ht htT => ?_, fun p hp => ?_, hS.2.2.2.2⟩ (hF.tr hF1) g202 rfl
      · show updC b 213 i (b 199 (8 * bf + i)) 213 p = _
        rw [updC_if]
        split
        · next h =>
          subst h
          exact hB0 p hpW
        · exact hS.1 p (by omega) hpW
      · show updC b 214 i 1 214 p = _
        rw [updC_if]
        split
        · rfl
        · exact hS.2.1 p (by omega)
      · show updC b 215 i (b 200 (8 * bf + i)) 215 t = _
        rw [updC_if]
        split
        · next h =>
          subst h
          exact hB1 t htT
        · exact hS.2.2.1 t (by omega) htT
      · show updC b 216 i 0 216 p = _
        rw [updC_if]
        split
        · rfl
        · exact hS.2.2.2.1 p (by omega)
theorem m_goes {X : List Int} {d : Nat} {st dr rd : Int} {a s b : C3} (e bf n : Nat) {S : STY} {bk : Nat} {B : SC} (hWY : WfY S) (hWB : WfB S B) (he : e < 2) (hbf : bf < 3) (hn : n ≤ 180) (hY_b : RepY S b bk) (hB_b : RepB S B b bf) : Ev X (d + 5) 205 0 [Vr 166, Vi (e : Int), Vi (bf : Int), Vi (n : Int), Vx, Vx] [] (SHv st dr rd, ovl a s b) (PGo st dr rd a S B e n b) := by
  have hFe : FrE e b (updC b 166 64 (e : Int)) := FrE.rf.up (by unfold InE; omega)
  refine Ev.steps (k := 2) (pc' := 2) (L' := [Vr 166, Vi (e : Int), Vi (bf : Int), Vi (n : Int), Vx, Vx]) (S' := [Vi (e : Int), Vr 166]) (h' := ((SHv st dr rd), (ovl a s b))) (fun _ => rfl) ?_
  refine Ev.putf (c' := (ovl a s (updC b 166 64 (e : Int)))) rfl (by decide) rfl rfl rfl (ovl_wm (by decide)) ?_
  refine Ev.steps (k := 5) (pc' := 14) (L' := [Vr 166, Vi (e : Int), Vi (bf : Int), Vi (n : Int), Vx, Vx]) (S' := [Vi (n : Int), Vi (e : Int), Vr 202]) (h' := ((SHv st dr rd), (ovl a s (updC b 166 64 (e : Int))))) (fun _ => rfl) ?_
  refine Ev.iast (c' := (ovl a s (updC (updC b 166 64 (e : Int)) 202 e (n : Int)))) rfl (by decide) rfl (by omega) (by omega) (ovl_wm (by decide)) ?_
  refine Ev.steps (k := 5) (pc' := 24) (L' := [Vr 166, Vi (e : Int), Vi (bf : Int), Vi (n : Int), Vx, Vx]) (S' := [Vi 0, Vi (e : Int), Vr 203]) (h' := ((SHv st dr rd), (ovl a s (updC (updC b 166 64 (e : Int)) 202 e (n : Int))))) (fun _ => rfl) ?_
  refine Ev.iast (c' := (ovl a s (updC (updC (updC b 166 64 (e : Int)) 202 e (n : Int)) 203 e 0))) rfl (by decide) rfl (by omega) (by omega) (ovl_wm (by decide)) ?_
  refine Ev.steps (k := 5) (pc' := 34) (L' := [Vr 166, Vi (e : Int), Vi (bf : Int), Vi (n : Int), Vx, Vx]) (S' := [Vi 0, Vi (e : Int), Vr 204]) (h' := ((SHv st dr rd), (ovl a s (updC (updC (updC b 166 64 (e : Int)) 202 e (n : Int)) 203 e 0)))) (fun _ => rfl) ?_
  refine Ev.iast (c' := (ovl a s (updC (updC (updC (updC b 166 64 (e : Int)) 202 e (n : Int)) 203 e 0) 204 e 0))) rfl (by decide) rfl (by omega) (by omega) (ovl_wm (by decide)) ?_
  refine Ev.steps (k := 2) (pc' := 38) (L' := [Vr 166, Vi (e : Int), Vi (bf : Int), Vi (n : Int), Vi 0, Vx]) (S' := []) (h' := ((SHv st dr rd), (ovl a s (updC (updC (updC (updC b 166 64 (e : Int)) 202 e (n : Int)) 203 e 0) 204 e 0)))) (fun _ => rfl) ?_
  have hF1 : FrE e b (updC (updC (updC (updC b 166 64 (e : Int)) 202 e (n : Int)) 203 e 0) 204 e 0) := (((FrE.rf.up (by unfold InE; omega)).up (by unfold InE; omega)).up (by unfold InE; omega)).up (by unfold InE; omega)
  exact m_goes_i e bf n hWY hWB he hbf hn (b0 := b) 0 _ (by omega) (hY_b.fr hF1) (hB_b.fr hF1) ⟨fun p hp => absurd hp (by omega), fun p hp => absurd hp (by omega), fun p hp => absurd hp (by omega), fun p hp => absurd hp (by omega), updC_sm, (show updC b 203 e 0 203 e = 0 from updC_sm), (show updC b 166 64 (e : Int) 166 64 = (e : Int) from updC_sm)⟩ hF1 (show updC b 202 e (n : Int) 202 e = (n : Int) from updC_sm)
