/-! THE REFERENCE: a turn -/
def RepB (S : STY) (B b : SC) (k : Nat) : Prop := (∀ p, p < nW S → b 199 (8 * k + p) = B 0 p) ∧ (∀ t, t < nT S → b 200 (8 * k + t) = B 1 t) ∧ (∀ r, r < nL S → b 201 (30 * k + r) = B 2 r)
def WfB (S : STY) (B : SC) : Prop := (∀ p, p < nW S → 0 ≤ B 0 p ∧ B 0 p < nR S) ∧ (∀ t, t < nT S → 0 ≤ B 1 t ∧ B 1 t < nR S) ∧ (∀ r, r < nL S → B 2 r = 0 ∨ B 2 r = 1)
theorem RepB.fr {S : STY} {B b b' : SC} {k e : Nat} (h : RepB S B b k) (hf : FrE e b b') : RepB S B b' k := by
  unfold RepB at h ⊢
  rw [hf.row (o := 199) (by omega) (by omega), hf.row (o := 200) (by omega) (by omega), hf.row (o := 201) (by omega) (by omega)]
  exact h
theorem wth_sum {S : STY} {c : SC} {l : List (Nat × Nat)} (hE : WfE S c) (hok : ∀ q, q ∈ l → OkQ S q) (hty : tyL l [] = some [false]) : -1000000 ≤ wth (nW S) c l ∧ wth (nW S) c l ≤ 1000000 := by
  obtain ⟨s, h1, h2⟩ := runR_ty hE l [] _ [] hok hty trivial
  unfold wth
  rw [h1]
  match s, h2 with
  | [x], h2 => exact h2.1
  | x :: y :: t, h2 => exact absurd h2.2 (by intro h; cases h)
theorem felsS_wf {S : STY} {B c : SC} {p q : Nat} (h : WfK S c q) : ∀ r, WfK S (felsS S B p c r) q ∧ felsS S B p c r 5 0 = c 5 0 ∧ (∀ x, felsS S B p c r 1 x = c 1 x)
  | 0 => ⟨h, rfl, fun _ => rfl⟩
  | r + 1 => by
    obtain ⟨h1, h2, h3⟩ := felsS_wf h r
    show WfK S (felS S B p (felsS S B p c r) r) q ∧ felS S B p (felsS S B p c r) r 5 0 = c 5 0 ∧ (∀ x, felS S B p (felsS S B p c r) r 1 x = c 1 x)
    unfold felS
    split
    · exact ⟨⟨h1.1.mood (hld_le _), h1.2.1, k9_cg h1.2.2 rfl (fun _ => rfl)⟩, h2, h3⟩
    · exact ⟨h1, h2, h3⟩
theorem actS_more {S : STY} {B c : SC} {p n : Nat} {x : Nat × SC} (h : actS S B p c n = some x) : ∀ m, n ≤ m → actS S B p c m = some x
  | 0, hm => by
    rwa [show n = 0 by omega] at h
  | m + 1, hm => by
    by_cases hn : n = m + 1
    · rwa [hn] at h
    · show (match actS S B p c m with
        | some x => some x
        | none => _) = some x
      rw [actS_more h m (by omega)]
theorem actS_s {S : STY} {B c : SC} {p r : Nat} (h : actS S B p c r = none) : actS S B p c (r + 1) = if S.1 12 r = (p : Int) ∧ B 2 r = 0 ∧ S.1 11 r ≠ 4 ∧ wth (nW S) c (S.2 (2 * r + 1)) = 1 then (match doesS S c r with
        | some c' => some (r, c')
        | none => none) else none := by
  show (match actS S B p c r with
        | some x => some x
        | none => _) = _
  rw [h]
  rfl
def FrT (e j : Nat) (b b' : SC) : Prop := ∀ o i, ¬ InD e o i → ¬ (o = 208 ∧ i = j) → b' o i = b o i
theorem FrD.ft {e j : Nat} {b b' : SC} (h : FrD e b b') : FrT e j b b' := fun o i hn _ => h o i hn
theorem FrT.fe {e m p : Nat} {b b' : SC} (h : FrT e (1440 * e + 8 * m + p) b b') (hm : m < 180) (hp : p < 8) : FrE e b b' := fun o i hn => h o i (fun hd => hn (by unfold InE; unfold InD at hd; omega)) (fun hc => hn (by unfold InE; omega))
theorem m_holds {X : List Int} {d : Nat} {st dr rd : Int} {a s b : C3} (r : Nat) {S : STY} {bk e : Nat} {c_b : SC} (hY_b : RepY S b bk) (hWY : WfY S) (hS_b : SimM S c_b b e) (hWC : WfC S c_b) (hr : r < nL S) : Ev X (d + 3) 209 0 [Vr 166, Vi (r : Int), Vx] [] (SHv st dr rd, ovl a s b) (fun rr hh => ∃ s' : C3, rr = some (Vi (if wth (nW S) c_b (S.2 (2 * r + 1)) = 1 then 1 else 0)) ∧ hh = (SHv st dr rd, ovl a s' b)) := by
  obtain ⟨hb2_b, h12_b, h168_b, h169_b, h170_b, h171_b, h173_b, h172_b, h174_b, h176_b, h178_b, h175_b, h177_b, h179_b, h180_b, h184_b⟩ := id hY_b
  obtain ⟨s0_b, s1_b, s2_b, s3_b, s4_b, s5_b, s7_b, s9_b, s6_b, s8_b, he_b, he2_b⟩ := id hS_b
  obtain ⟨wR, wD, wW, wT, wL, wC, wdoor, wsym, wWI, wTI, wCl, wRu⟩ := id hWY
  obtain ⟨k0, k1, k2, k3, k4, k5, k7, k9⟩ := id hWC
  obtain ⟨-, -, -, -, -, u1, u2, -⟩ := wRu r hr
  obtain ⟨g184, g185, g186, g187, g188, -⟩ := h184_b r hr
  refine Ev.steps (k := 3) (pc' := 6) (L' := [Vr 166, Vi (r : Int), Vx]) (S' := [Vi (b 166 12), Vi 30]) (h' := ((SHv st dr rd), (ovl a s b))) (fun _ => rfl) ?_
  rw [h12_b]
  refine Ev.steps (k := 1) (pc' := 7) (L' := [Vr 166, Vi (r : Int), Vx]) (S' := [Vi (w32 (30 * (bk : Int)))]) (h' := ((SHv st dr rd), (ovl a s b))) (fun _ => rfl) ?_
  rw [show (w32 (30 * (bk : Int))) = (30 * (bk : Int)) from w32_id (by unfold R32; omega)]
  refine Ev.steps (k := 2) (pc' := 9) (L' := [Vr 166, Vi (r : Int), Vx]) (S' := [Vi (w32 ((30 * (bk : Int)) + (r : Int)))]) (h' := ((SHv st dr rd), (ovl a s b))) (fun _ => rfl) ?_
  rw [show (w32 ((30 * (bk : Int)) + (r : Int))) = ((30 * (bk : Int)) + (r : Int)) from w32_id (by unfold R32; omega)]
  refine Ev.steps (k := 5) (pc' := 16) (L' := [Vr 166, Vi (r : Int), Vi ((30 * (bk : Int)) + (r : Int))]) (S' := [Vi ((30 * (bk : Int)) + (r : Int)), Vr 189, Vr 166]) (h' := ((SHv st dr rd), (ovl a s b))) (fun _ => rfl) ?_
  refine Ev.iald (v := (b 189 ((30 * bk + r)))) rfl (by decide) rfl (by omega) (by omega) (rfl) ?_
  refine Ev.steps (k := 3) (pc' := 22) (L' := [Vr 166, Vi (r : Int), Vi ((30 * (bk : Int)) + (r : Int))]) (S' := [Vi ((30 * (bk : Int)) + (r : Int)), Vr 190, Vi (b 189 ((30 * bk + r))), Vr 166]) (h' := ((SHv st dr rd), (ovl a s b))) (fun _ => rfl) ?_
  refine Ev.iald (v := (b 190 ((30 * bk + r)))) rfl (by decide) rfl (by omega) (by omega) (rfl) ?_
  refine Ev.call (k := 0) (pc1 := 23) (L1 := [Vr 166, Vi (r : Int), Vi ((30 * (bk : Int)) + (r : Int))]) (S1 := [Vi (b 190 ((30 * bk + r))), Vi (b 189 ((30 * bk + r))), Vr 166]) (h1 := ((SHv st dr rd), (ovl a s b))) (m' := 210) (as := [Vr 166, Vi (b 189 ((30 * bk + r))), Vi (b 190 ((30 * bk + r)))]) (S' := []) (L0 := [Vr 166, Vi (b 189 ((30 * bk + r))), Vi (b 190 ((30 * bk + r))), Vx, Vx, Vx]) (fun _ => rfl) rfl rfl rfl rfl rfl rfl (m_works _ _ (S.2 (2 * r + 1)) true hY_b hWY hS_b hWC g188 u1 u2) (fun r0_ h' hq => ?_)
  obtain ⟨s2, rfl, rfl⟩ := hq
  show Ev X _ _ 26 [Vr 166, Vi (r : Int), Vi ((30 * (bk : Int)) + (r : Int))] [Vl (wth (nW S) c_b (S.2 (2 * r + 1)))] ((SHv st dr rd), (ovl a s2 b)) _
  refine Ev.ite (P := (l_cmp (wth (nW S) c_b (S.2 (2 * r + 1))) 1) ≠ 0) (k := 3) (a := 35) (b := 31) (L' := [Vr 166, Vi (r : Int), Vi ((30 * (bk : Int)) + (r : Int))]) (S' := []) (h' := ((SHv st dr rd), (ovl a s2 b))) (fun _ => rfl) (fun b28 => ?_) (fun b28 => ?_)
  · rw [lc_ne] at b28
    refine Ev.fin (k := 2) (r := (some (Vi 0))) (h' := ((SHv st dr rd), (ovl a s2 b))) (fun _ => rfl) ?_
    refine ⟨s2, ?_, rfl⟩
    first | rw [if_pos (by omega)] | rw [if_neg (by omega)]
  · rw [lc_ne] at b28
    refine Ev.fin (k := 3) (r := (some (Vi 1))) (h' := ((SHv st dr rd), (ovl a s2 b))) (fun _ => rfl) ?_
    refine ⟨s2, ?_, rfl⟩
    first | rw [if_pos (by omega)] | rw [if_neg (by omega)]
theorem m_isOf {X : List Int} {d : Nat} {st dr rd : Int} {a s b : C3} (r p bf : Nat) {B : SC} {S : STY} {bk : Nat} (hY_b : RepY S b bk) (hWY : WfY S) (hB_b : RepB S B b bf) (hbf : bf < 3) (hr : r < nL S) : Ev X d 208 0 [Vr 166, Vi (r : Int), Vi (p : Int), Vi (bf : Int)] [] (SHv st dr rd, ovl a s b) (fun rr hh => rr = some (Vi (if S.1 12 r = (p : Int) ∧ B 2 r = 0 then 1 else 0)) ∧ hh = (SHv st dr rd, ovl a s b)) := by
  obtain ⟨hb2_b, h12_b, h168_b, h169_b, h170_b, h171_b, h173_b, h172_b, h174_b, h176_b, h178_b, h175_b, h177_b, h179_b, h180_b, h184_b⟩ := id hY_b
  obtain ⟨wR, wD, wW, wT, wL, wC, wdoor, wsym, wWI, wTI, wCl, wRu⟩ := id hWY
  obtain ⟨g184, g185, g186, g187, g188, -⟩ := h184_b r hr
  have gB := hB_b.2.2 r hr
  refine Ev.steps (k := 5) (pc' := 10) (L' := [Vr 166, Vi (r : Int), Vi (p : Int), Vi (bf : Int)]) (S' := [Vi (b 166 12), Vi 30, Vr 185]) (h' := ((SHv st dr rd), (ovl a s b))) (fun _ => rfl) ?_
  rw [h12_b]
  refine Ev.steps (k := 1) (pc' := 11) (L' := [Vr 166, Vi (r : Int), Vi (p : Int), Vi (bf : Int)]) (S' := [Vi (w32 (30 * (bk : Int))), Vr 185]) (h' := ((SHv st dr rd), (ovl a s b))) (fun _ => rfl) ?_
  rw [show (w32 (30 * (bk : Int))) = (30 * (bk : Int)) from w32_id (by unfold R32; omega)]
  refine Ev.steps (k := 2) (pc' := 13) (L' := [Vr 166, Vi (r : Int), Vi (p : Int), Vi (bf : Int)]) (S' := [Vi (w32 ((30 * (bk : Int)) + (r : Int))), Vr 185]) (h' := ((SHv st dr rd), (ovl a s b))) (fun _ => rfl) ?_
  rw [show (w32 ((30 * (bk : Int)) + (r : Int))) = ((30 * (bk : Int)) + (r : Int)) from w32_id (by unfold R32; omega)]
  refine Ev.iald (v := (S.1 12 r)) rfl (by decide) rfl (by omega) (by omega) (g185) ?_
  refine Ev.ite (P := (S.1 12 r) ≠ (p : Int)) (k := 2) (a := 36) (b := 18) (L' := [Vr 166, Vi (r : Int), Vi (p : Int), Vi (bf : Int)]) (S' := []) (h' := ((SHv st dr rd), (ovl a s b))) (fun _ => rfl) (fun b15 => ?_) (fun b15 => ?_)
  · refine Ev.fin (k := 2) (r := (some (Vi 0))) (h' := ((SHv st dr rd), (ovl a s b))) (fun _ => rfl) ?_
    refine ⟨?_, rfl⟩
    first | rw [if_pos (by omega)] | rw [if_neg (by omega)]
  · refine Ev.steps (k := 5) (pc' := 26) (L' := [Vr 166, Vi (r : Int), Vi (p : Int), Vi (bf : Int)]) (S' := [Vi (w32 (30 * (bf : Int))), Vr 201]) (h' := ((SHv st dr rd), (ovl a s b))) (fun _ => rfl) ?_
    rw [show (w32 (30 * (bf : Int))) = (30 * (bf : Int)) from w32_id (by unfold R32; omega)]
    refine Ev.steps (k := 2) (pc' := 28) (L' := [Vr 166, Vi (r : Int), Vi (p : Int), Vi (bf : Int)]) (S' := [Vi (w32 ((30 * (bf : Int)) + (r : Int))), Vr 201]) (h' := ((SHv st dr rd), (ovl a s b))) (fun _ => rfl) ?_
    rw [show (w32 ((30 * (bf : Int)) + (r : Int))) = ((30 * (bf : Int)) + (r : Int)) from w32_id (by unfold R32; omega)]
    refine Ev.zald (v := (B 2 r)) rfl (by decide) rfl (by omega) (by omega) (gB) ?_
    refine Ev.ite (P := (B 2 r) ≠ 0) (k := 1) (a := 36) (b := 32) (L' := [Vr 166, Vi (r : Int), Vi (p : Int), Vi (bf : Int)]) (S' := []) (h' := ((SHv st dr rd), (ovl a s b))) (fun _ => rfl) (fun b29 => ?_) (fun b29 => ?_)
    · refine Ev.fin (k := 2) (r := (some (Vi 0))) (h' := ((SHv st dr rd), (ovl a s b))) (fun _ => rfl) ?_
      refine ⟨?_, rfl⟩
      first | rw [if_pos (by omega)] | rw [if_neg (by omega)]
    · refine Ev.fin (k := 3) (r := (some (Vi 1))) (h' := ((SHv st dr rd), (ovl a s b))) (fun _ => rfl) ?_
      refine ⟨?_, rfl⟩
      first | rw [if_pos (by omega)] | rw [if_neg (by omega)]
theorem m_turn_f {X : List Int} {d : Nat} {st dr rd : Int} {a s b : C3} (p q : Nat) {S : STY} {bk e bf : Nat} {B : SC} (hWY : WfY S) (hbf : bf < 3) (hp : p < nW S) (c0 : SC) (hK0 : WfK S c0 q) {Q : Option pm_V → pm_H → Prop} {b0 : C3} (K : ∀ (s2 b2 : C3) (z : pm_V), SimM S (felsS S B p c0 (nL S)) b2 e → FrD e b0 b2 → Ev X (d + 4) 207 100 [Vr 166, Vi (p : Int), Vi (bf : Int), Vi ((nL S : Nat) : Int), z] [] (SHv st dr rd, ovl a s2 b2) Q) (r : Nat) (z : pm_V) (hr : r ≤ nL S) (hY_b : RepY S b bk) (hB_b : RepB S B b bf) (hS_b : SimM S (felsS S B p c0 r) b e) (hF : FrD e b0 b) : Ev X (d + 4) 207 2 [Vr 166, Vi (p : Int), Vi (bf : Int), Vi (r : Int), z] [] (SHv st dr rd, ovl a s b) (Q) := by
  induction hk : (nL S - r) using Nat.strongRecOn generalizing r s b z with
  | ind k ih =>
    obtain ⟨c_b, hcb⟩ : ∃ c, c = felsS S B p c0 r := ⟨_, rfl⟩
    have hKb := felsS_wf (B := B) (p := p) hK0 r
    rw [← hcb] at hS_b hKb
    have hWC := hKb.1.1
    have hfs : felsS S B p c0 (r + 1) = felS S B p c_b r := by rw [hcb]; rfl
    unfold felS at hfs
    obtain ⟨hb2_b, h12_b, h168_b, h169_b, h170_b, h171_b, h173_b, h172_b, h174_b, h176_b, h178_b, h175_b, h177_b, h179_b, h180_b, h184_b⟩ := id hY_b
    obtain ⟨s0_b, s1_b, s2_b, s3_b, s4_b, s5_b, s7_b, s9_b, s6_b, s8_b, he_b, he2_b⟩ := id hS_b
    obtain ⟨wR, wD, wW, wT, wL, wC, wdoor, wsym, wWI, wTI, wCl, wRu⟩ := id hWY
    obtain ⟨k0, k1, k2, k3, k4, k5, k7, k9⟩ := id hWC
    refine Ev.steps (k := 5) (pc' := 11) (L' := [Vr 166, Vi (p : Int), Vi (bf : Int), Vi (r : Int), z]) (S' := [Vi (b 166 12), Vr 173, Vi (r : Int)]) (h' := ((SHv st dr rd), (ovl a s b))) (fun _ => rfl) ?_
    rw [h12_b]
    refine Ev.iald (v := ((nL S : Nat) : Int)) rfl (by decide) rfl (by omega) (by omega) (h173_b) ?_
    refine Ev.ite (P := ((nL S : Nat) : Int) ≤ (r : Int)) (k := 1) (a := 100) (b := 15) (L' := [Vr 166, Vi (p : Int), Vi (bf : Int), Vi (r : Int), z]) (S' := []) (h' := ((SHv st dr rd), (ovl a s b))) (fun _ => rfl) (fun b12 => ?_) (fun b12 => ?_)
    · obtain rfl : r = nL S := by omega
      rw [hcb] at hS_b
      exact K s b _ hS_b hF
    · have hrl : r < nL S := by omega
      have hlt : nL S - (r + 1) < k := by omega
      have hle : r + 1 ≤ nL S := by omega
      obtain ⟨g184, g185, g186, g187, g188, g189⟩ := h184_b r hrl
      obtain ⟨r1, -, -, -, -, -, -, u3⟩ := wRu r hrl
      refine Ev.steps (k := 3) (pc' := 21) (L' := [Vr 166, Vi (p : Int), Vi (bf : Int), Vi (r : Int), z]) (S' := [Vi (b 166 12), Vi 30]) (h' := ((SHv st dr rd), (ovl a s b))) (fun _ => rfl) ?_
      rw [h12_b]
      refine Ev.steps (k := 1) (pc' := 22) (L' := [Vr 166, Vi (p : Int), Vi (bf : Int), Vi (r : Int), z]) (S' := [Vi (w32 (30 * (bk : Int)))]) (h' := ((SHv st dr rd), (ovl a s b))) (fun _ => rfl) ?_
      rw [show (w32 (30 * (bk : Int))) = (30 * (bk : Int)) from w32_id (by unfold R32; omega)]
      refine Ev.steps (k := 2) (pc' := 24) (L' := [Vr 166, Vi (p : Int), Vi (bf : Int), Vi (r : Int), z]) (S' := [Vi (w32 ((30 * (bk : Int)) + (r : Int)))]) (h' := ((SHv st dr rd), (ovl a s b))) (fun _ => rfl) ?_
      rw [show (w32 ((30 * (bk : Int)) + (r : Int))) = ((30 * (bk : Int)) + (r : Int)) from w32_id (by unfold R32; omega)]
      refine Ev.call (k := 5) (pc1 := 30) (L1 := [Vr 166, Vi (p : Int), Vi (bf : Int), Vi (r : Int), Vi ((30 * (bk : Int)) + (r : Int))]) (S1 := [Vi (bf : Int), Vi (p : Int), Vi (r : Int), Vr 166]) (h1 := ((SHv st dr rd), (ovl a s b))) (m' := 208) (as := [Vr 166, Vi (r : Int), Vi (p : Int), Vi (bf : Int)]) (S' := []) (L0 := [Vr 166, Vi (r : Int), Vi (p : Int), Vi (bf : Int)]) (fun _ => rfl) rfl rfl rfl rfl rfl rfl (m_isOf r p bf hY_b hWY hB_b hbf (by omega)) (fun r0_ h' hq => ?_)
      obtain ⟨rfl, rfl⟩ := hq
      by_cases c30 : S.1 12 r = (p : Int) ∧ B 2 r = 0
      · rw [if_pos c30]
        show Ev X _ _ 33 [Vr 166, Vi (p : Int), Vi (bf : Int), Vi (r : Int), Vi ((30 * (bk : Int)) + (r : Int))] [Vi 1] ((SHv st dr rd), (ovl a s b)) _
        refine Ev.steps (k := 4) (pc' := 42) (L' := [Vr 166, Vi (p : Int), Vi (bf : Int), Vi (r : Int), Vi ((30 * (bk : Int)) + (r : Int))]) (S' := [Vi ((30 * (bk : Int)) + (r : Int)), Vr 184]) (h' := ((SHv st dr rd), (ovl a s b))) (fun _ => rfl) ?_
        refine Ev.iald (v := (S.1 11 r)) rfl (by decide) rfl (by omega) (by omega) (g184) ?_
        refine Ev.ite (P := (S.1 11 r) ≠ 4) (k := 2) (a := 94) (b := 47) (L' := [Vr 166, Vi (p : Int), Vi (bf : Int), Vi (r : Int), Vi ((30 * (bk : Int)) + (r : Int))]) (S' := []) (h' := ((SHv st dr rd), (ovl a s b))) (fun _ => rfl) (fun b44 => ?_) (fun b44 => ?_)
        · refine Ev.steps (k := 1) (pc' := 97) (L' := [Vr 166, Vi (p : Int), Vi (bf : Int), Vi (w32 ((r : Int) + 1)), Vi ((30 * (bk : Int)) + (r : Int))]) (S' := []) (h' := ((SHv st dr rd), (ovl a s b))) (fun _ => rfl) ?_
          rw [show (w32 ((r : Int) + 1)) = ((r : Int) + 1) from w32_id (by unfold R32; omega)]
          refine Ev.steps (k := 1) (pc' := 2) (L' := [Vr 166, Vi (p : Int), Vi (bf : Int), Vi ((r : Int) + 1), Vi ((30 * (bk : Int)) + (r : Int))]) (S' := []) (h' := ((SHv st dr rd), (ovl a s b))) (fun _ => rfl) ?_
          first
            | rw [if_neg (by exact fun h => c30 ⟨h.1, h.2.1⟩)] at hfs
            | rw [if_neg (by exact fun h => b44 h.2.2.1)] at hfs
            | rw [if_neg (by exact fun h => c49 h.2.2.2)] at hfs
          exact ih _ hlt (s := s) (b := b) (r + 1) _ hle hY_b hB_b (by rw [hfs]; exact hS_b) hF rfl
        · refine Ev.call (k := 2) (pc1 := 49) (L1 := [Vr 166, Vi (p : Int), Vi (bf : Int), Vi (r : Int), Vi ((30 * (bk : Int)) + (r : Int))]) (S1 := [Vi (r : Int), Vr 166]) (h1 := ((SHv st dr rd), (ovl a s b))) (m' := 209) (as := [Vr 166, Vi (r : Int)]) (S' := []) (L0 := [Vr 166, Vi (r : Int), Vx]) (fun _ => rfl) rfl rfl rfl rfl rfl rfl (m_holds r hY_b hWY hS_b hWC (by omega)) (fun r0_ h' hq => ?_)
          obtain ⟨s2, rfl, rfl⟩ := hq
          by_cases c49 : wth (nW S) c_b (S.2 (2 * r + 1)) = 1
          · rw [if_pos c49]
            show Ev X _ _ 52 [Vr 166, Vi (p : Int), Vi (bf : Int), Vi (r : Int), Vi ((30 * (bk : Int)) + (r : Int))] [Vi 1] ((SHv st dr rd), (ovl a s2 b)) _
            refine Ev.steps (k := 7) (pc' := 68) (L' := [Vr 166, Vi (p : Int), Vi (bf : Int), Vi (r : Int), Vi ((30 * (bk : Int)) + (r : Int))]) (S' := [Vi (p : Int), Vr 216, Vi (p : Int), Vr 216]) (h' := ((SHv st dr rd), (ovl a s2 b))) (fun _ => rfl) ?_
            refine Ev.iald (v := (c_b 3 p)) rfl (by decide) rfl (by omega) (by omega) (s3_b p (by omega)) ?_
            refine Ev.steps (k := 5) (pc' := 77) (L' := [Vr 166, Vi (p : Int), Vi (bf : Int), Vi (r : Int), Vi ((30 * (bk : Int)) + (r : Int))]) (S' := [Vi ((30 * (bk : Int)) + (r : Int)), Vr 188, Vr 166, Vl (c_b 3 p), Vi (p : Int), Vr 216]) (h' := ((SHv st dr rd), (ovl a s2 b))) (fun _ => rfl) ?_
            refine Ev.iald (v := (b 188 ((30 * bk + r)))) rfl (by decide) rfl (by omega) (by omega) (rfl) ?_
            refine Ev.steps (k := 3) (pc' := 84) (L' := [Vr 166, Vi (p : Int), Vi (bf : Int), Vi (r : Int), Vi ((30 * (bk : Int)) + (r : Int))]) (S' := [Vi ((30 * (bk : Int)) + (r : Int)), Vr 189, Vi (b 188 ((30 * bk + r))), Vr 166, Vl (c_b 3 p), Vi (p : Int), Vr 216]) (h' := ((SHv st dr rd), (ovl a s2 b))) (fun _ => rfl) ?_
            refine Ev.iald (v := (b 189 ((30 * bk + r)))) rfl (by decide) rfl (by omega) (by omega) (rfl) ?_
            refine Ev.call (k := 0) (pc1 := 85) (L1 := [Vr 166, Vi (p : Int), Vi (bf : Int), Vi (r : Int), Vi ((30 * (bk : Int)) + (r : Int))]) (S1 := [Vi (b 189 ((30 * bk + r))), Vi (b 188 ((30 * bk + r))), Vr 166, Vl (c_b 3 p), Vi (p : Int), Vr 216]) (h1 := ((SHv st dr rd), (ovl a s2 b))) (m' := 210) (as := [Vr 166, Vi (b 188 ((30 * bk + r))), Vi (b 189 ((30 * bk + r)))]) (S' := [Vl (c_b 3 p), Vi (p : Int), Vr 216]) (L0 := [Vr 166, Vi (b 188 ((30 * bk + r))), Vi (b 189 ((30 * bk + r))), Vx, Vx, Vx]) (fun _ => rfl) rfl rfl rfl rfl rfl rfl (m_works _ _ (S.2 (2 * r)) false hY_b hWY hS_b hWC (g189 (by omega)) (u3 (by omega)).1 (u3 (by omega)).2) (fun r0_ h' hq => ?_)
            obtain ⟨s3, rfl, rfl⟩ := hq
            have hwb := wth_sum hWC.wfe (u3 (by omega)).1 (u3 (by omega)).2
            have hmb := k3 p
            show Ev X _ _ 88 [Vr 166, Vi (p : Int), Vi (bf : Int), Vi (r : Int), Vi ((30 * (bk : Int)) + (r : Int))] [Vl (wth (nW S) c_b (S.2 (2 * r))), Vl (c_b 3 p), Vi (p : Int), Vr 216] ((SHv st dr rd), (ovl a s3 b)) _
            refine Ev.steps (k := 1) (pc' := 89) (L' := [Vr 166, Vi (p : Int), Vi (bf : Int), Vi (r : Int), Vi ((30 * (bk : Int)) + (r : Int))]) (S' := [Vl (w64 ((c_b 3 p) + (wth (nW S) c_b (S.2 (2 * r))))), Vi (p : Int), Vr 216]) (h' := ((SHv st dr rd), (ovl a s3 b))) (fun _ => rfl) ?_
            rw [show (w64 ((c_b 3 p) + (wth (nW S) c_b (S.2 (2 * r))))) = ((c_b 3 p) + (wth (nW S) c_b (S.2 (2 * r)))) from w64_id (by unfold R64; omega)]
            refine Ev.call (k := 0) (pc1 := 89) (L1 := [Vr 166, Vi (p : Int), Vi (bf : Int), Vi (r : Int), Vi ((30 * (bk : Int)) + (r : Int))]) (S1 := [Vl ((c_b 3 p) + (wth (nW S) c_b (S.2 (2 * r)))), Vi (p : Int), Vr 216]) (h1 := ((SHv st dr rd), (ovl a s3 b))) (m' := 214) (as := [Vl ((c_b 3 p) + (wth (nW S) c_b (S.2 (2 * r))))]) (S' := [Vi (p : Int), Vr 216]) (L0 := [Vl ((c_b 3 p) + (wth (nW S) c_b (S.2 (2 * r)))), Vx]) (fun _ => rfl) rfl rfl rfl rfl rfl rfl (m_held ((c_b 3 p) + (wth (nW S) c_b (S.2 (2 * r))))) (fun r0_ h' hq => ?_)
            obtain ⟨rfl, rfl⟩ := hq
            show Ev X _ _ 92 [Vr 166, Vi (p : Int), Vi (bf : Int), Vi (r : Int), Vi ((30 * (bk : Int)) + (r : Int))] [Vl (hld ((c_b 3 p) + (wth (nW S) c_b (S.2 (2 * r))))), Vi (p : Int), Vr 216] ((SHv st dr rd), (ovl a s3 b)) _
            refine Ev.steps (k := 1) (pc' := 93) (L' := [Vr 166, Vi (p : Int), Vi (bf : Int), Vi (r : Int), Vi ((30 * (bk : Int)) + (r : Int))]) (S' := [Vi (w32 (hld ((c_b 3 p) + (wth (nW S) c_b (S.2 (2 * r)))))), Vi (p : Int), Vr 216]) (h' := ((SHv st dr rd), (ovl a s3 b))) (fun _ => rfl) ?_
            rw [show (w32 (hld ((c_b 3 p) + (wth (nW S) c_b (S.2 (2 * r)))))) = (hld ((c_b 3 p) + (wth (nW S) c_b (S.2 (2 * r))))) from by have hhb := hld_le (c_b 3 p + wth (nW S) c_b (S.2 (2 * r))); exact w32_id (by unfold R32; omega)]
            refine Ev.iast (c' := (ovl a s3 (updC b 216 p (hld ((c_b 3 p) + (wth (nW S) c_b (S.2 (2 * r)))))))) rfl (by decide) rfl (by omega) (by omega) (ovl_wm (by decide)) ?_
            refine Ev.steps (k := 1) (pc' := 97) (L' := [Vr 166, Vi (p : Int), Vi (bf : Int), Vi (w32 ((r : Int) + 1)), Vi ((30 * (bk : Int)) + (r : Int))]) (S' := []) (h' := ((SHv st dr rd), (ovl a s3 (updC b 216 p (hld ((c_b 3 p) + (wth (nW S) c_b (S.2 (2 * r))))))))) (fun _ => rfl) ?_
            rw [show (w32 ((r : Int) + 1)) = ((r : Int) + 1) from w32_id (by unfold R32; omega)]
            refine Ev.steps (k := 1) (pc' := 2) (L' := [Vr 166, Vi (p : Int), Vi (bf : Int), Vi ((r : Int) + 1), Vi ((30 * (bk : Int)) + (r : Int))]) (S' := []) (h' := ((SHv st dr rd), (ovl a s3 (updC b 216 p (hld ((c_b 3 p) + (wth (nW S) c_b (S.2 (2 * r))))))))) (fun _ => rfl) ?_
            have hF2 : FrD e b (updC b 216 p (hld ((c_b 3 p) + (wth (nW S) c_b (S.2 (2 * r)))))) := FrD.rf.up (by unfold InD; omega)
            rw [if_pos ⟨c30.1, c30.2, by omega, c49⟩] at hfs
            exact ih _ hlt (s := s3) (b := (updC b 216 p (hld ((c_b 3 p) + (wth (nW S) c_b (S.2 (2 * r))))))) (r + 1) _ hle (hY_b.fr hF2.fe) (hB_b.fr hF2.fe) (by rw [hfs]; exact hS_b.mood) (hF.tr hF2) rfl
          · rw [if_neg c49]
            show Ev X _ _ 52 [Vr 166, Vi (p : Int), Vi (bf : Int), Vi (r : Int), Vi ((30 * (bk : Int)) + (r : Int))] [Vi 0] ((SHv st dr rd), (ovl a s2 b)) _
            refine Ev.steps (k := 3) (pc' := 97) (L' := [Vr 166, Vi (p : Int), Vi (bf : Int), Vi (w32 ((r : Int) + 1)), Vi ((30 * (bk : Int)) + (r : Int))]) (S' := []) (h' := ((SHv st dr rd), (ovl a s2 b))) (fun _ => rfl) ?_
            rw [show (w32 ((r : Int) + 1)) = ((r : Int) + 1) from w32_id (by unfold R32; omega)]
            refine Ev.steps (k := 1) (pc' := 2) (L' := [Vr 166, Vi (p : Int), Vi (bf : Int), Vi ((r : Int) + 1), Vi ((30 * (bk : Int)) + (r : Int))]) (S' := []) (h' := ((SHv st dr rd), (ovl a s2 b))) (fun _ => rfl) ?_
            first
              | rw [if_neg (by exact fun h => c30 ⟨h.1, h.2.1⟩)] at hfs
              | rw [if_neg (by exact fun h => b44 h.2.2.1)] at hfs
              | rw [if_neg (by exact fun h => c49 h.2.2.2)] at hfs
            exact ih _ hlt (s := s2) (b := b) (r + 1) _ hle hY_b hB_b (by rw [hfs]; exact hS_b) hF rfl
      · rw [if_neg c30]
        show Ev X _ _ 33 [Vr 166, Vi (p : Int), Vi (bf : Int), Vi (r : Int), Vi ((30 * (bk : Int)) + (r : Int))] [Vi 0] ((SHv st dr rd), (ovl a s b)) _
        refine Ev.steps (k := 2) (pc' := 97) (L' := [Vr 166, Vi (p : Int), Vi (bf : Int), Vi (w32 ((r : Int) + 1)), Vi ((30 * (bk : Int)) + (r : Int))]) (S' := []) (h' := ((SHv st dr rd), (ovl a s b))) (fun _ => rfl) ?_
        rw [show (w32 ((r : Int) + 1)) = ((r : Int) + 1) from w32_id (by unfold R32; omega)]
        refine Ev.steps (k := 1) (pc' := 2) (L' := [Vr 166, Vi (p : Int), Vi (bf : Int), Vi ((r : Int) + 1), Vi ((30 * (bk : Int)) + (r : Int))]) (S' := []) (h' := ((SHv st dr rd), (ovl a s b))) (fun _ => rfl) ?_
        first
          | rw [if_neg (by exact fun h => c30 ⟨h.1, h.2.1⟩)] at hfs
          | rw [if_neg (by exact fun h => b44 h.2.2.1)] at hfs
          | rw [if_neg (by exact fun h => c49 h.2.2.2)] at hfs
        exact ih _ hlt (s := s) (b := b) (r + 1) _ hle hY_b hB_b (by rw [hfs]; exact hS_b) hF rfl
/-- what behind a turn -/
def PTn (st dr rd : Int) (a : SC) (S : STY) (e m p : Nat) (x : Int × SC) (b : SC) : Option pm_V → pm_H → Prop := fun rr hh => rr = none ∧ ∃ s' b' : SC, hh = (SHv st dr rd, ovl a s' b') ∧ SimM S x.2 b' e ∧ FrT e (1440 * e + 8 * m + p) b b' ∧ b' 208 (1440 * e + 8 * m + p) = (if x.1 = -1 then b 208 (1440 * e + 8 * m + p) else x.1)
theorem trnS_some {S : STY} {B c c' : SC} {p r : Nat} (h : actS S B p (felsS S B p c (nL S)) (nL S) = some (r, c')) : trnS S B p c = ((r : Int), c') := by
  unfold trnS
  rw [h]
theorem trnS_none {S : STY} {B c : SC} {p : Nat} (h : actS S B p (felsS S B p c (nL S)) (nL S) = none) : trnS S B p c = (-1, felsS S B p c (nL S)) := by
  unfold trnS
  rw [h]
theorem m_turn_a {X : List Int} {d : Nat} {st dr rd : Int} {a s b : C3} (p m : Nat) {S : STY} {bk e bf : Nat} {B : SC} (hWY : WfY S) (hbf : bf < 3) (hp : p < nW S) (c0 c_b : SC) (hcf : c_b = felsS S B p c0 (nL S)) (hK : WfK S c_b p) (hm : c_b 5 0 = (m : Int)) (hk8 : c_b 9 0 < 8) {b0 : C3} (r : Nat) (z : pm_V) (hr : r ≤ nL S) (ha : actS S B p c_b r = none) (hY_b : RepY S b bk) (hB_b : RepB S B b bf) (hS_b : SimM S c_b b e) (hF : FrD e b0 b) : Ev X (d + 4) 207 102 [Vr 166, Vi (p : Int), Vi (bf : Int), Vi (r : Int), z] [] (SHv st dr rd, ovl a s b) (PTn st dr rd a S e m p (trnS S B p c0) b0) := by
  induction hk : (nL S - r) using Nat.strongRecOn generalizing r s b z with
  | ind k ih =>
    have hWC := hK.1
    have hq7 := hK.2.1
    obtain ⟨hb2_b, h12_b, h168_b, h169_b, h170_b, h171_b, h173_b, h172_b, h174_b, h176_b, h178_b, h175_b, h177_b, h179_b, h180_b, h184_b⟩ := id hY_b
    obtain ⟨s0_b, s1_b, s2_b, s3_b, s4_b, s5_b, s7_b, s9_b, s6_b, s8_b, he_b, he2_b⟩ := id hS_b
    obtain ⟨wR, wD, wW, wT, wL, wC, wdoor, wsym, wWI, wTI, wCl, wRu⟩ := id hWY
    obtain ⟨k0, k1, k2, k3, k4, k5, k7, k9⟩ := id hWC
    refine Ev.steps (k := 5) (pc' := 111) (L' := [Vr 166, Vi (p : Int), Vi (bf : Int), Vi (r : Int), z]) (S' := [Vi (b 166 12), Vr 173, Vi (r : Int)]) (h' := ((SHv st dr rd), (ovl a s b))) (fun _ => rfl) ?_
    rw [h12_b]
    refine Ev.iald (v := ((nL S : Nat) : Int)) rfl (by decide) rfl (by omega) (by omega) (h173_b) ?_
    refine Ev.ite (P := ((nL S : Nat) : Int) ≤ (r : Int)) (k := 1) (a := 189) (b := 115) (L' := [Vr 166, Vi (p : Int), Vi (bf : Int), Vi (r : Int), z]) (S' := []) (h' := ((SHv st dr rd), (ovl a s b))) (fun _ => rfl) (fun b112 => ?_) (fun b112 => ?_)
    · refine Ev.fin (k := 1) (r := none) (h' := ((SHv st dr rd), (ovl a s b))) (fun _ => rfl) ?_
      obtain rfl : r = nL S := by omega
      refine ⟨rfl, s, b, rfl, ?_, hF.ft, ?_⟩
      · rw [trnS_none (by rw [← hcf]; exact ha), ← hcf]
        exact hS_b
      · rw [trnS_none (by rw [← hcf]; exact ha), if_pos rfl]
        exact hF 208 _ (by unfold InD; omega)
    · obtain ⟨g184, g185, g186, g187, g188, g189⟩ := h184_b r (by omega)
      obtain ⟨r1, -⟩ := wRu r (by omega)
      have hlt : nL S - (r + 1) < k := by omega
      have hle : r + 1 ≤ nL S := by omega
      have has := actS_s ha
      refine Ev.call (k := 4) (pc1 := 119) (L1 := [Vr 166, Vi (p : Int), Vi (bf : Int), Vi (r : Int), z]) (S1 := [Vi (bf : Int), Vi (p : Int), Vi (r : Int), Vr 166]) (h1 := ((SHv st dr rd), (ovl a s b))) (m' := 208) (as := [Vr 166, Vi (r : Int), Vi (p : Int), Vi (bf : Int)]) (S' := []) (L0 := [Vr 166, Vi (r : Int), Vi (p : Int), Vi (bf : Int)]) (fun _ => rfl) rfl rfl rfl rfl rfl rfl (m_isOf r p bf hY_b hWY hB_b hbf (by omega)) (fun r0_ h' hq => ?_)
      obtain ⟨rfl, rfl⟩ := hq
      by_cases c119 : S.1 12 r = (p : Int) ∧ B 2 r = 0
      · rw [if_pos c119]
        show Ev X _ _ 122 [Vr 166, Vi (p : Int), Vi (bf : Int), Vi (r : Int), z] [Vi 1] ((SHv st dr rd), (ovl a s b)) _
        refine Ev.steps (k := 6) (pc' := 135) (L' := [Vr 166, Vi (p : Int), Vi (bf : Int), Vi (r : Int), z]) (S' := [Vi (b 166 12), Vi 30, Vr 184]) (h' := ((SHv st dr rd), (ovl a s b))) (fun _ => rfl) ?_
        rw [h12_b]
        refine Ev.steps (k := 1) (pc' := 136) (L' := [Vr 166, Vi (p : Int), Vi (bf : Int), Vi (r : Int), z]) (S' := [Vi (w32 (30 * (bk : Int))), Vr 184]) (h' := ((SHv st dr rd), (ovl a s b))) (fun _ => rfl) ?_
        rw [show (w32 (30 * (bk : Int))) = (30 * (bk : Int)) from w32_id (by unfold R32; omega)]
        refine Ev.steps (k := 2) (pc' := 138) (L' := [Vr 166, Vi (p : Int), Vi (bf : Int), Vi (r : Int), z]) (S' := [Vi (w32 ((30 * (bk : Int)) + (r : Int))), Vr 184]) (h' := ((SHv st dr rd), (ovl a s b))) (fun _ => rfl) ?_
        rw [show (w32 ((30 * (bk : Int)) + (r : Int))) = ((30 * (bk : Int)) + (r : Int)) from w32_id (by unfold R32; omega)]
        refine Ev.iald (v := (S.1 11 r)) rfl (by decide) rfl (by omega) (by omega) (g184) ?_
        refine Ev.ite (P := (S.1 11 r) = 4) (k := 2) (a := 183) (b := 143) (L' := [Vr 166, Vi (p : Int), Vi (bf : Int), Vi (r : Int), z]) (S' := []) (h' := ((SHv st dr rd), (ovl a s b))) (fun _ => rfl) (fun b140 => ?_) (fun b140 => ?_)
        · refine Ev.steps (k := 1) (pc' := 186) (L' := [Vr 166, Vi (p : Int), Vi (bf : Int), Vi (w32 ((r : Int) + 1)), z]) (S' := []) (h' := ((SHv st dr rd), (ovl a s b))) (fun _ => rfl) ?_
          rw [show (w32 ((r : Int) + 1)) = ((r : Int) + 1) from w32_id (by unfold R32; omega)]
          refine Ev.steps (k := 1) (pc' := 102) (L' := [Vr 166, Vi (p : Int), Vi (bf : Int), Vi ((r : Int) + 1), z]) (S' := []) (h' := ((SHv st dr rd), (ovl a s b))) (fun _ => rfl) ?_
          first
            | exact ih _ hlt (s := s) (b := b) (r + 1) _ hle (by rw [actS_s ha, if_neg (by exact fun h => c119 ⟨h.1, h.2.1⟩)]) hY_b hB_b hS_b hF rfl
            | exact ih _ hlt (s := s) (b := b) (r + 1) _ hle (by rw [actS_s ha, if_neg (by exact fun h => h.2.2.1 b140)]) hY_b hB_b hS_b hF rfl
            | exact ih _ hlt (s := s) (b := b) (r + 1) _ hle (by rw [actS_s ha, if_neg (by exact fun h => c145 h.2.2.2)]) hY_b hB_b hS_b hF rfl
        · have hk4 : S.1 11 r ≠ 4 := by assumption
          refine Ev.call (k := 2) (pc1 := 145) (L1 := [Vr 166, Vi (p : Int), Vi (bf : Int), Vi (r : Int), z]) (S1 := [Vi (r : Int), Vr 166]) (h1 := ((SHv st dr rd), (ovl a s b))) (m' := 209) (as := [Vr 166, Vi (r : Int)]) (S' := []) (L0 := [Vr 166, Vi (r : Int), Vx]) (fun _ => rfl) rfl rfl rfl rfl rfl rfl (m_holds r hY_b hWY hS_b hWC (by omega)) (fun r0_ h' hq => ?_)
          obtain ⟨s2, rfl, rfl⟩ := hq
          by_cases c145 : wth (nW S) c_b (S.2 (2 * r + 1)) = 1
          · rw [if_pos c145]
            show Ev X _ _ 148 [Vr 166, Vi (p : Int), Vi (bf : Int), Vi (r : Int), z] [Vi 1] ((SHv st dr rd), (ovl a s2 b)) _
            refine Ev.call (k := 3) (pc1 := 153) (L1 := [Vr 166, Vi (p : Int), Vi (bf : Int), Vi (r : Int), z]) (S1 := [Vi (r : Int), Vr 166]) (h1 := ((SHv st dr rd), (ovl a s2 b))) (m' := 216) (as := [Vr 166, Vi (r : Int)]) (S' := []) (L0 := [Vr 166, Vi (r : Int), Vx, Vx, Vx, Vx]) (fun _ => rfl) rfl rfl rfl rfl rfl rfl (m_does r hY_b hWY hS_b hWC (by omega) hk4 (by omega) hk8) (fun r0_ h' hq => ?_)
            rw [if_pos ⟨c119.1, c119.2, hk4, c145⟩] at has
            obtain ⟨v, c3, hv, hR, s3, b3, hhe, hS3, hF3⟩ : ∃ (v : Int) (c3 : SC), ((v = 1 ∧ doesS S c_b r = some c3) ∨ (v = 0 ∧ doesS S c_b r = none ∧ c3 = c_b)) ∧ PM S st dr rd a b e (some (Vi v)) c3 r0_ h' := by
              rcases hq with ⟨c', g1, g2⟩ | ⟨g1, g2⟩
              · exact ⟨1, c', Or.inl ⟨rfl, g1⟩, g2⟩
              · exact ⟨0, c_b, Or.inr ⟨rfl, g1, rfl⟩, g2⟩
            subst hR
            subst hhe
            show Ev X _ _ 156 [Vr 166, Vi (p : Int), Vi (bf : Int), Vi (r : Int), z] [Vi v] ((SHv st dr rd), (ovl a s3 b3)) _
            refine Ev.ite (P := v ≠ 0) (k := 1) (a := 162) (b := 159) (L' := [Vr 166, Vi (p : Int), Vi (bf : Int), Vi (r : Int), z]) (S' := []) (h' := ((SHv st dr rd), (ovl a s3 b3))) (fun _ => rfl) (fun b156 => ?_) (fun b156 => ?_)
            · obtain ⟨rfl, hd⟩ : v = 1 ∧ doesS S c_b r = some c3 := by
                rcases hv with hv | hv
                · exact hv
                · exact absurd hv.1 b156
              rw [hd] at has
              have hW3 := doesS_wf hWY hK (by omega) hk4 (by omega) hk8 hd
              have he_b3 := hS3.2.2.2.2.2.2.2.2.2.2.1
              have s5_b3 : b3 166 65 = (m : Int) := by rw [hS3.2.2.2.2.2.1, hW3.2, hm]
              refine Ev.steps (k := 5) (pc' := 171) (L' := [Vr 166, Vi (p : Int), Vi (bf : Int), Vi (r : Int), z]) (S' := [Vi (b3 166 64), Vr 166, Vr 208]) (h' := ((SHv st dr rd), (ovl a s3 b3))) (fun _ => rfl) ?_
              rw [he_b3]
              refine Ev.steps (k := 2) (pc' := 175) (L' := [Vr 166, Vi (p : Int), Vi (bf : Int), Vi (r : Int), z]) (S' := [Vi (b3 166 65), Vi (e : Int), Vr 166, Vr 208]) (h' := ((SHv st dr rd), (ovl a s3 b3))) (fun _ => rfl) ?_
              rw [s5_b3]
              refine Ev.call (k := 0) (pc1 := 175) (L1 := [Vr 166, Vi (p : Int), Vi (bf : Int), Vi (r : Int), z]) (S1 := [Vi (m : Int), Vi (e : Int), Vr 166, Vr 208]) (h1 := ((SHv st dr rd), (ovl a s3 b3))) (m' := 206) (as := [Vr 166, Vi (e : Int), Vi (m : Int)]) (S' := [Vr 208]) (L0 := [Vr 166, Vi (e : Int), Vi (m : Int)]) (fun _ => rfl) rfl rfl rfl rfl rfl rfl (m_at e m (by omega) (by omega)) (fun r0_ h' hq => ?_)
              obtain ⟨rfl, rfl⟩ := hq
              show Ev X _ _ 178 [Vr 166, Vi (p : Int), Vi (bf : Int), Vi (r : Int), z] [Vi (1440 * (e : Int) + 8 * (m : Int)), Vr 208] ((SHv st dr rd), (ovl a s3 b3)) _
              refine Ev.steps (k := 2) (pc' := 180) (L' := [Vr 166, Vi (p : Int), Vi (bf : Int), Vi (r : Int), z]) (S' := [Vi (w32 ((1440 * (e : Int) + 8 * (m : Int)) + (p : Int))), Vr 208]) (h' := ((SHv st dr rd), (ovl a s3 b3))) (fun _ => rfl) ?_
              rw [show (w32 ((1440 * (e : Int) + 8 * (m : Int)) + (p : Int))) = ((1440 * (e : Int) + 8 * (m : Int)) + (p : Int)) from w32_id (by unfold R32; omega)]
              refine Ev.steps (k := 1) (pc' := 181) (L' := [Vr 166, Vi (p : Int), Vi (bf : Int), Vi (r : Int), z]) (S' := [Vi (r : Int), Vi ((1440 * (e : Int) + 8 * (m : Int)) + (p : Int)), Vr 208]) (h' := ((SHv st dr rd), (ovl a s3 b3))) (fun _ => rfl) ?_
              refine Ev.iast (c' := (ovl a s3 (updC b3 208 (((1440 * e + 8 * m) + p)) (r : Int)))) rfl (by decide) rfl (by omega) (by omega) (ovl_wm (by decide)) ?_
              refine Ev.fin (k := 1) (r := none) (h' := ((SHv st dr rd), (ovl a s3 (updC b3 208 (((1440 * e + 8 * m) + p)) (r : Int))))) (fun _ => rfl) ?_
              have htr := trnS_some (c := c0) (by rw [← hcf]; exact actS_more has (nL S) (by omega))
              refine ⟨rfl, s3, _, rfl, ?_, ?_, ?_⟩
              · rw [htr]
                exact hS3
              · intro o i h1 h2
                rw [updC_nt h2]
                exact (hF.tr hF3) o i h1
              · rw [htr, updC_sm, if_neg (by show ¬ (r : Int) = -1; omega)]
            · obtain ⟨rfl, hd, rfl⟩ : v = 0 ∧ doesS S c_b r = none ∧ c3 = c_b := by
                rcases hv with hv | hv
                · omega
                · exact hv
              rw [hd] at has
              refine Ev.steps (k := 2) (pc' := 186) (L' := [Vr 166, Vi (p : Int), Vi (bf : Int), Vi (w32 ((r : Int) + 1)), z]) (S' := []) (h' := ((SHv st dr rd), (ovl a s3 b3))) (fun _ => rfl) ?_
              rw [show (w32 ((r : Int) + 1)) = ((r : Int) + 1) from w32_id (by unfold R32; omega)]
              refine Ev.steps (k := 1) (pc' := 102) (L' := [Vr 166, Vi (p : Int), Vi (bf : Int), Vi ((r : Int) + 1), z]) (S' := []) (h' := ((SHv st dr rd), (ovl a s3 b3))) (fun _ => rfl) ?_
              exact ih _ hlt (s := s3) (b := b3) (r + 1) _ hle has (hY_b.fr hF3.fe) (hB_b.fr hF3.fe) hS3 (hF.tr hF3) rfl
          · rw [if_neg c145]
            show Ev X _ _ 148 [Vr 166, Vi (p : Int), Vi (bf : Int), Vi (r : Int), z] [Vi 0] ((SHv st dr rd), (ovl a s2 b)) _
            refine Ev.steps (k := 2) (pc' := 186) (L' := [Vr 166, Vi (p : Int), Vi (bf : Int), Vi (w32 ((r : Int) + 1)), z]) (S' := []) (h' := ((SHv st dr rd), (ovl a s2 b))) (fun _ => rfl) ?_
            rw [show (w32 ((r : Int) + 1)) = ((r : Int) + 1) from w32_id (by unfold R32; omega)]
            refine Ev.steps (k := 1) (pc' := 102) (L' := [Vr 166, Vi (p : Int), Vi (bf : Int), Vi ((r : Int) + 1), z]) (S' := []) (h' := ((SHv st dr rd), (ovl a s2 b))) (fun _ => rfl) ?_
            first
              | exact ih _ hlt (s := s2) (b := b) (r + 1) _ hle (by rw [actS_s ha, if_neg (by exact fun h => c119 ⟨h.1, h.2.1⟩)]) hY_b hB_b hS_b hF rfl
              | exact ih _ hlt (s := s2) (b := b) (r + 1) _ hle (by rw [actS_s ha, if_neg (by exact fun h => h.2.2.1 b140)]) hY_b hB_b hS_b hF rfl
              | exact ih _ hlt (s := s2) (b := b) (r + 1) _ hle (by rw [actS_s ha, if_neg (by exact fun h => c145 h.2.2.2)]) hY_b hB_b hS_b hF rfl
      · rw [if_neg c119]
        show Ev X _ _ 122 [Vr 166, Vi (p : Int), Vi (bf : Int), Vi (r : Int), z] [Vi 0] ((SHv st dr rd), (ovl a s b)) _
        refine Ev.steps (k := 2) (pc' := 186) (L' := [Vr 166, Vi (p : Int), Vi (bf : Int), Vi (w32 ((r : Int) + 1)), z]) (S' := []) (h' := ((SHv st dr rd), (ovl a s b))) (fun _ => rfl) ?_
        rw [show (w32 ((r : Int) + 1)) = ((r : Int) + 1) from w32_id (by unfold R32; omega)]
        refine Ev.steps (k := 1) (pc' := 102) (L' := [Vr 166, Vi (p : Int), Vi (bf : Int), Vi ((r : Int) + 1), z]) (S' := []) (h' := ((SHv st dr rd), (ovl a s b))) (fun _ => rfl) ?_
        first
          | exact ih _ hlt (s := s) (b := b) (r + 1) _ hle (by rw [actS_s ha, if_neg (by exact fun h => c119 ⟨h.1, h.2.1⟩)]) hY_b hB_b hS_b hF rfl
          | exact ih _ hlt (s := s) (b := b) (r + 1) _ hle (by rw [actS_s ha, if_neg (by exact fun h => h.2.2.1 b140)]) hY_b hB_b hS_b hF rfl
          | exact ih _ hlt (s := s) (b := b) (r + 1) _ hle (by rw [actS_s ha, if_neg (by exact fun h => c145 h.2.2.2)]) hY_b hB_b hS_b hF rfl
theorem m_turn {X : List Int} {d : Nat} {st dr rd : Int} {a s b : C3} (p m : Nat) {S : STY} {bk e bf : Nat} {B : SC} (hWY : WfY S) (hbf : bf < 3) {c_b : SC} (hp : p < nW S) (hY_b : RepY S b bk) (hB_b : RepB S B b bf) (hS_b : SimM S c_b b e) (hK : WfK S c_b p) (hm : c_b 5 0 = (m : Int)) (hl : c_b 1 p ≠ 0) : Ev X (d + 4) 207 0 [Vr 166, Vi (p : Int), Vi (bf : Int), Vx, Vx] [] (SHv st dr rd, ovl a s b) (PTn st dr rd a S e m p (trnS S B p c_b) b) := by
  have hKf := felsS_wf (B := B) (p := p) hK (nL S)
  refine Ev.steps (k := 2) (pc' := 2) (L' := [Vr 166, Vi (p : Int), Vi (bf : Int), Vi 0, Vx]) (S' := []) (h' := ((SHv st dr rd), (ovl a s b))) (fun _ => rfl) ?_
  refine m_turn_f p p hWY hbf hp c_b hK (b0 := b) (fun s2 b2 z hS2 hF2 => ?_) 0 _ (by omega) hY_b hB_b hS_b FrD.rf
  exact Ev.steps (k := 2) (pc' := 102) (L' := [Vr 166, Vi (p : Int), Vi (bf : Int), Vi 0, z]) (S' := []) (h' := (SHv st dr rd, ovl a s2 b2)) (fun _ => rfl) (m_turn_a p m hWY hbf hp c_b (felsS S B p c_b (nL S)) rfl hKf.1 (by rw [hKf.2.1, hm]) (hKf.1.k8 hWY hp (by rw [hKf.2.2]; exact hl)) (b0 := b) 0 z (by omega) rfl (hY_b.fr hF2.fe) (hB_b.fr hF2.fe) hS2 hF2)
