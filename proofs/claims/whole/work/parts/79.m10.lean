/-! THE REFERENCE: a minute's end, an evening -/
/-- what is kept of the evening's first minutes -/
def HisM (S : STY) (B b : SC) (e M : Nat) : Prop := ∀ m, m < M → (∀ p, p < nW S → b 205 (1440 * e + 8 * m + p) = aftS S B (m + 1) 0 p) ∧ (∀ p, p < nW S → b 206 (1440 * e + 8 * m + p) = aftS S B (m + 1) 1 p) ∧ (∀ t, t < nT S → b 207 (1440 * e + 8 * m + t) = aftS S B (m + 1) 2 t) ∧ (∀ p, p < nW S → b 209 (1440 * e + 8 * m + p) = aftS S B (m + 1) 3 p) ∧ (∀ p, p < nW S → b 208 (1440 * e + 8 * m + p) = hdnS S B m p)
/-- only what is kept of minute m changes -/
def FrH (e m : Nat) (b b' : SC) : Prop := ∀ o i, ¬ ((o = 205 ∨ o = 206 ∨ o = 207 ∨ o = 209) ∧ 1440 * e + 8 * m ≤ i ∧ i < 1440 * e + 8 * m + 8) → ¬ (o = 212 ∧ 64 * e ≤ i ∧ i < 64 * e + 64) → b' o i = b o i
theorem FrH.rf {e m : Nat} {b : SC} : FrH e m b b := fun _ _ _ _ => rfl
theorem FrH.tr {e m : Nat} {b b' b'' : SC} (h : FrH e m b b') (h' : FrH e m b' b'') : FrH e m b b'' := fun o i h1 h2 => (h' o i h1 h2).trans (h o i h1 h2)
theorem FrH.up {e m : Nat} {b b' : SC} {o i : Nat} {v : Int} (h : FrH e m b b') (hi : ((o = 205 ∨ o = 206 ∨ o = 207 ∨ o = 209) ∧ 1440 * e + 8 * m ≤ i ∧ i < 1440 * e + 8 * m + 8) ∨ (o = 212 ∧ 64 * e ≤ i ∧ i < 64 * e + 64)) : FrH e m b (updC b' o i v) := fun o' i' h1 h2 => by
  rw [updC_nt (fun hc => by
    obtain ⟨e1, e2⟩ := hc
    subst e1
    subst e2
    exact hi.elim h1 h2)]
  exact h o' i' h1 h2
theorem FrH.fe {e m : Nat} {b b' : SC} (h : FrH e m b b') (hm : m < 180) : FrE e b b' := fun o i hn => h o i (fun hc => hn (by unfold InE; omega)) (fun hc => hn (by unfold InE; omega))
def FrK (e : Nat) (b b' : SC) : Prop := ∀ o i, ¬ (o = 212 ∧ 64 * e ≤ i ∧ i < 64 * e + 64) → b' o i = b o i
theorem FrK.rf {e : Nat} {b : SC} : FrK e b b := fun _ _ _ => rfl
theorem FrK.tr {e : Nat} {b b' b'' : SC} (h : FrK e b b') (h' : FrK e b' b'') : FrK e b b'' := fun o i h1 => (h' o i h1).trans (h o i h1)
theorem FrK.up {e : Nat} {b b' : SC} {i : Nat} {v : Int} (h : FrK e b b') (hi : 64 * e ≤ i ∧ i < 64 * e + 64) : FrK e b (updC b' 212 i v) := fun o' i' h1 => by
  rw [updC_nt (fun hc => by
    obtain ⟨e1, e2⟩ := hc
    subst e1
    subst e2
    exact h1 ⟨rfl, hi⟩)]
  exact h o' i' h1
theorem FrK.fh {e m : Nat} {b b' : SC} (h : FrK e b b') : FrH e m b b' := fun o i _ h2 => h o i h2
theorem FrH.sm {S : STY} {c b b' : SC} {e m : Nat} (h : FrH e m b b') (hS : SimM S c b e) (hk : ∀ i, i < 64 → b' 212 (64 * e + i) = c 4 i) : SimM S c b' e := by
  obtain ⟨h0, h1, h2, h3, h4, h5, h7, h9, h6, h8, he⟩ := hS
  have g : ∀ o i, o ≠ 205 → o ≠ 206 → o ≠ 207 → o ≠ 209 → o ≠ 212 → b' o i = b o i := fun o i g1 g2 g3 g4 g5 => h o i (by omega) (by omega)
  exact ⟨fun p hp => by rw [g _ _ (by decide) (by decide) (by decide) (by decide) (by decide)]; exact h0 p hp, fun p hp => by rw [g _ _ (by decide) (by decide) (by decide) (by decide) (by decide)]; exact h1 p hp, fun p hp => by rw [g _ _ (by decide) (by decide) (by decide) (by decide) (by decide)]; exact h2 p hp, fun p hp => by rw [g _ _ (by decide) (by decide) (by decide) (by decide) (by decide)]; exact h3 p hp, hk,
    by rw [g _ _ (by decide) (by decide) (by decide) (by decide) (by decide)]; exact h5, by rw [g _ _ (by decide) (by decide) (by decide) (by decide) (by decide)]; exact h7, by rw [g _ _ (by decide) (by decide) (by decide) (by decide) (by decide)]; exact h9, fun i hi => by rw [g _ _ (by decide) (by decide) (by decide) (by decide) (by decide)]; exact h6 i hi, fun i hi => by rw [g _ _ (by decide) (by decide) (by decide) (by decide) (by decide)]; exact h8 i hi, by rw [g _ _ (by decide) (by decide) (by decide) (by decide) (by decide)]; exact he⟩
theorem m_seesN {X : List Int} {d : Nat} {st dr rd : Int} {a s b : C3} (e m p o : Nat) (c : SC) (he : e < 2) (hm : m < 180) (hp : p < 8) (ho : o < 8) (g0p : b 205 (1440 * e + 8 * m + p) = c 0 p) (g0o : b 205 (1440 * e + 8 * m + o) = c 0 o) (g1p : b 206 (1440 * e + 8 * m + p) = c 1 p) (g1o : b 206 (1440 * e + 8 * m + o) = c 1 o) : Ev X (d + 1) 223 0 [Vr 166, Vi (e : Int), Vi (p : Int), Vi (o : Int), Vi (m : Int), Vx] [] (SHv st dr rd, ovl a s b) (fun rr hh => rr = some (Vi (seeS c p o)) ∧ hh = (SHv st dr rd, ovl a s b)) := by
  refine Ev.call (k := 3) (pc1 := 4) (L1 := [Vr 166, Vi (e : Int), Vi (p : Int), Vi (o : Int), Vi (m : Int), Vx]) (S1 := [Vi (m : Int), Vi (e : Int), Vr 166]) (h1 := ((SHv st dr rd), (ovl a s b))) (m' := 206) (as := [Vr 166, Vi (e : Int), Vi (m : Int)]) (S' := []) (L0 := [Vr 166, Vi (e : Int), Vi (m : Int)]) (fun _ => rfl) rfl rfl rfl rfl rfl rfl (m_at (e : Int) (m : Int) (by omega) (by omega)) (fun r h' hq => ?_)
  obtain ⟨rfl, rfl⟩ := hq
  show Ev X _ _ 7 [Vr 166, Vi (e : Int), Vi (p : Int), Vi (o : Int), Vi (m : Int), Vx] [Vi ((1440 * (e : Int)) + (8 * (m : Int)))] ((SHv st dr rd), (ovl a s b)) _
  refine Ev.ite (P := (p : Int) = (o : Int)) (k := 4) (a := 47) (b := 14) (L' := [Vr 166, Vi (e : Int), Vi (p : Int), Vi (o : Int), Vi (m : Int), Vi ((1440 * (e : Int)) + (8 * (m : Int)))]) (S' := []) (h' := ((SHv st dr rd), (ovl a s b))) (fun _ => rfl) (fun b11 => ?_) (fun b11 => ?_)
  · refine Ev.fin (k := 2) (r := (some (Vi 0))) (h' := ((SHv st dr rd), (ovl a s b))) (fun _ => rfl) ?_
    refine ⟨?_, rfl⟩
    unfold seeS
    first | rw [if_pos (by omega)] | rw [if_neg (by omega), if_pos (by omega)] | rw [if_neg (by omega), if_neg (by omega)]
  · refine Ev.steps (k := 5) (pc' := 22) (L' := [Vr 166, Vi (e : Int), Vi (p : Int), Vi (o : Int), Vi (m : Int), Vi ((1440 * (e : Int)) + (8 * (m : Int)))]) (S' := [Vi (w32 (((1440 * (e : Int)) + (8 * (m : Int))) + (p : Int))), Vr 206]) (h' := ((SHv st dr rd), (ovl a s b))) (fun _ => rfl) ?_
    rw [show (w32 (((1440 * (e : Int)) + (8 * (m : Int))) + (p : Int))) = (((1440 * (e : Int)) + (8 * (m : Int))) + (p : Int)) from w32_id (by unfold R32; omega)]
    refine Ev.zald (v := (c 1 p)) rfl (by decide) rfl (by omega) (by omega) (g1p) ?_
    refine Ev.ite (P := (c 1 p) = 0) (k := 1) (a := 47) (b := 26) (L' := [Vr 166, Vi (e : Int), Vi (p : Int), Vi (o : Int), Vi (m : Int), Vi ((1440 * (e : Int)) + (8 * (m : Int)))]) (S' := []) (h' := ((SHv st dr rd), (ovl a s b))) (fun _ => rfl) (fun b23 => ?_) (fun b23 => ?_)
    · refine Ev.fin (k := 2) (r := (some (Vi 0))) (h' := ((SHv st dr rd), (ovl a s b))) (fun _ => rfl) ?_
      refine ⟨?_, rfl⟩
      unfold seeS
      first | rw [if_pos (by omega)] | rw [if_neg (by omega), if_pos (by omega)] | rw [if_neg (by omega), if_neg (by omega)]
    · refine Ev.steps (k := 5) (pc' := 34) (L' := [Vr 166, Vi (e : Int), Vi (p : Int), Vi (o : Int), Vi (m : Int), Vi ((1440 * (e : Int)) + (8 * (m : Int)))]) (S' := [Vi (w32 (((1440 * (e : Int)) + (8 * (m : Int))) + (p : Int))), Vr 205]) (h' := ((SHv st dr rd), (ovl a s b))) (fun _ => rfl) ?_
      rw [show (w32 (((1440 * (e : Int)) + (8 * (m : Int))) + (p : Int))) = (((1440 * (e : Int)) + (8 * (m : Int))) + (p : Int)) from w32_id (by unfold R32; omega)]
      refine Ev.iald (v := (c 0 p)) rfl (by decide) rfl (by omega) (by omega) (g0p) ?_
      refine Ev.steps (k := 5) (pc' := 43) (L' := [Vr 166, Vi (e : Int), Vi (p : Int), Vi (o : Int), Vi (m : Int), Vi ((1440 * (e : Int)) + (8 * (m : Int)))]) (S' := [Vi (w32 (((1440 * (e : Int)) + (8 * (m : Int))) + (o : Int))), Vr 205, Vi (c 0 p)]) (h' := ((SHv st dr rd), (ovl a s b))) (fun _ => rfl) ?_
      rw [show (w32 (((1440 * (e : Int)) + (8 * (m : Int))) + (o : Int))) = (((1440 * (e : Int)) + (8 * (m : Int))) + (o : Int)) from w32_id (by unfold R32; omega)]
      refine Ev.iald (v := (c 0 o)) rfl (by decide) rfl (by omega) (by omega) (g0o) ?_
      refine Ev.ite (P := (c 0 p) = (c 0 o)) (k := 1) (a := 49) (b := 47) (L' := [Vr 166, Vi (e : Int), Vi (p : Int), Vi (o : Int), Vi (m : Int), Vi ((1440 * (e : Int)) + (8 * (m : Int)))]) (S' := []) (h' := ((SHv st dr rd), (ovl a s b))) (fun _ => rfl) (fun b44 => ?_) (fun b44 => ?_)
      · refine Ev.steps (k := 5) (pc' := 57) (L' := [Vr 166, Vi (e : Int), Vi (p : Int), Vi (o : Int), Vi (m : Int), Vi ((1440 * (e : Int)) + (8 * (m : Int)))]) (S' := [Vi (w32 (((1440 * (e : Int)) + (8 * (m : Int))) + (o : Int))), Vr 206]) (h' := ((SHv st dr rd), (ovl a s b))) (fun _ => rfl) ?_
        rw [show (w32 (((1440 * (e : Int)) + (8 * (m : Int))) + (o : Int))) = (((1440 * (e : Int)) + (8 * (m : Int))) + (o : Int)) from w32_id (by unfold R32; omega)]
        refine Ev.zald (v := (c 1 o)) rfl (by decide) rfl (by omega) (by omega) (g1o) ?_
        refine Ev.ite (P := (c 1 o) = 0) (k := 1) (a := 65) (b := 61) (L' := [Vr 166, Vi (e : Int), Vi (p : Int), Vi (o : Int), Vi (m : Int), Vi ((1440 * (e : Int)) + (8 * (m : Int)))]) (S' := []) (h' := ((SHv st dr rd), (ovl a s b))) (fun _ => rfl) (fun b58 => ?_) (fun b58 => ?_)
        · refine Ev.fin (k := 2) (r := (some (Vi 2))) (h' := ((SHv st dr rd), (ovl a s b))) (fun _ => rfl) ?_
          refine ⟨?_, rfl⟩
          unfold seeS
          first | rw [if_pos (by omega)] | rw [if_neg (by omega), if_pos (by omega)] | rw [if_neg (by omega), if_neg (by omega)]
        · refine Ev.fin (k := 3) (r := (some (Vi 1))) (h' := ((SHv st dr rd), (ovl a s b))) (fun _ => rfl) ?_
          refine ⟨?_, rfl⟩
          unfold seeS
          first | rw [if_pos (by omega)] | rw [if_neg (by omega), if_pos (by omega)] | rw [if_neg (by omega), if_neg (by omega)]
      · refine Ev.fin (k := 2) (r := (some (Vi 0))) (h' := ((SHv st dr rd), (ovl a s b))) (fun _ => rfl) ?_
        refine ⟨?_, rfl⟩
        unfold seeS
        first | rw [if_pos (by omega)] | rw [if_neg (by omega), if_pos (by omega)] | rw [if_neg (by omega), if_neg (by omega)]
theorem m_ends_c {X : List Int} {d : Nat} {st dr rd : Int} {a s b : C3} (m : Nat) {S : STY} {e : Nat} {c_b : SC} (hW1 : ∀ p, c_b 1 p = 0 ∨ c_b 1 p = 1) (hm : c_b 5 0 = (m : Int)) (hm2 : m < 180) {b0 : C3} {Q : Option pm_V → pm_H → Prop} (K : ∀ b2 : C3, SimM S c_b b2 e → FrH e m b0 b2 → (∀ q, q < 8 → b2 205 (1440 * e + 8 * m + q) = b2 213 q ∧ b2 206 (1440 * e + 8 * m + q) = b2 214 q ∧ b2 207 (1440 * e + 8 * m + q) = b2 215 q ∧ b2 209 (1440 * e + 8 * m + q) = b2 216 q) → Ev X (d + 2) 222 114 [Vr 166, Vi 8, Vx] [] (SHv st dr rd, ovl a s b2) Q) (k : Nat) (hk8 : k ≤ 8) (hS_b : SimM S c_b b e) (hF : FrH e m b0 b) (hC : ∀ q, q < k → b 205 (1440 * e + 8 * m + q) = b 213 q ∧ b 206 (1440 * e + 8 * m + q) = b 214 q ∧ b 207 (1440 * e + 8 * m + q) = b 215 q ∧ b 209 (1440 * e + 8 * m + q) = b 216 q) : Ev X (d + 2) 222 2 [Vr 166, Vi (k : Int), Vx] [] (SHv st dr rd, ovl a s b) (Q) := by
  induction hk : (8 - k) using Nat.strongRecOn generalizing k b with
  | ind k ih =>
    obtain ⟨s0_b, s1_b, s2_b, s3_b, s4_b, s5_b, s7_b, s9_b, s6_b, s8_b, he_b, he2_b⟩ := id hS_b
    have hl01 : k < 8 → b 214 k = 0 ∨ b 214 k = 1 := fun h => by rw [s1_b k h]; exact hW1 k
    refine Ev.ite (P := 8 ≤ (k : Int)) (k := 3) (a := 114) (b := 8) (L' := [Vr 166, Vi (k : Int), Vx]) (S' := []) (h' := ((SHv st dr rd), (ovl a s b))) (fun _ => rfl) (fun b5 => ?_) (fun b5 => ?_)
    · obtain rfl : k = 8 := by omega
      exact K b hS_b hF hC
    · refine Ev.steps (k := 5) (pc' := 17) (L' := [Vr 166, Vi (k : Int), Vx]) (S' := [Vi (b 166 64), Vr 166, Vr 205]) (h' := ((SHv st dr rd), (ovl a s b))) (fun _ => rfl) ?_
      rw [he_b]
      refine Ev.steps (k := 2) (pc' := 21) (L' := [Vr 166, Vi (k : Int), Vx]) (S' := [Vi (b 166 65), Vi (e : Int), Vr 166, Vr 205]) (h' := ((SHv st dr rd), (ovl a s b))) (fun _ => rfl) ?_
      rw [(show b 166 65 = (m : Int) by rw [s5_b, hm])]
      refine Ev.call (k := 0) (pc1 := 21) (L1 := [Vr 166, Vi (k : Int), Vx]) (S1 := [Vi (m : Int), Vi (e : Int), Vr 166, Vr 205]) (h1 := ((SHv st dr rd), (ovl a s b))) (m' := 206) (as := [Vr 166, Vi (e : Int), Vi (m : Int)]) (S' := [Vr 205]) (L0 := [Vr 166, Vi (e : Int), Vi (m : Int)]) (fun _ => rfl) rfl rfl rfl rfl rfl rfl (m_at (e : Int) (m : Int) (by omega) (by omega)) (fun r h' hq => ?_)
      obtain ⟨rfl, rfl⟩ := hq
      show Ev X _ _ 24 [Vr 166, Vi (k : Int), Vx] [Vi ((1440 * (e : Int)) + (8 * (m : Int))), Vr 205] ((SHv st dr rd), (ovl a s b)) _
      refine Ev.steps (k := 2) (pc' := 26) (L' := [Vr 166, Vi (k : Int), Vx]) (S' := [Vi (w32 (((1440 * (e : Int)) + (8 * (m : Int))) + (k : Int))), Vr 205]) (h' := ((SHv st dr rd), (ovl a s b))) (fun _ => rfl) ?_
      rw [show (w32 (((1440 * (e : Int)) + (8 * (m : Int))) + (k : Int))) = (((1440 * (e : Int)) + (8 * (m : Int))) + (k : Int)) from w32_id (by unfold R32; omega)]
      refine Ev.steps (k := 3) (pc' := 31) (L' := [Vr 166, Vi (k : Int), Vx]) (S' := [Vi (k : Int), Vr 213, Vi (((1440 * (e : Int)) + (8 * (m : Int))) + (k : Int)), Vr 205]) (h' := ((SHv st dr rd), (ovl a s b))) (fun _ => rfl) ?_
      refine Ev.iald (v := (b 213 k)) rfl (by decide) rfl (by omega) (by omega) (rfl) ?_
      refine Ev.iast (c' := (ovl a s (updC b 205 (((1440 * e + 8 * m) + k)) (b 213 k)))) rfl (by decide) rfl (by omega) (by omega) (ovl_wm (by decide)) ?_
      refine Ev.steps (k := 5) (pc' := 42) (L' := [Vr 166, Vi (k : Int), Vx]) (S' := [Vi (b 166 64), Vr 166, Vr 206]) (h' := ((SHv st dr rd), (ovl a s (updC b 205 (((1440 * e + 8 * m) + k)) (b 213 k))))) (fun _ => rfl) ?_
      rw [he_b]
      refine Ev.steps (k := 2) (pc' := 46) (L' := [Vr 166, Vi (k : Int), Vx]) (S' := [Vi (b 166 65), Vi (e : Int), Vr 166, Vr 206]) (h' := ((SHv st dr rd), (ovl a s (updC b 205 (((1440 * e + 8 * m) + k)) (b 213 k))))) (fun _ => rfl) ?_
      rw [(show b 166 65 = (m : Int) by rw [s5_b, hm])]
      refine Ev.call (k := 0) (pc1 := 46) (L1 := [Vr 166, Vi (k : Int), Vx]) (S1 := [Vi (m : Int), Vi (e : Int), Vr 166, Vr 206]) (h1 := ((SHv st dr rd), (ovl a s (updC b 205 (((1440 * e + 8 * m) + k)) (b 213 k))))) (m' := 206) (as := [Vr 166, Vi (e : Int), Vi (m : Int)]) (S' := [Vr 206]) (L0 := [Vr 166, Vi (e : Int), Vi (m : Int)]) (fun _ => rfl) rfl rfl rfl rfl rfl rfl (m_at (e : Int) (m : Int) (by omega) (by omega)) (fun r h' hq => ?_)
      obtain ⟨rfl, rfl⟩ := hq
      show Ev X _ _ 49 [Vr 166, Vi (k : Int), Vx] [Vi ((1440 * (e : Int)) + (8 * (m : Int))), Vr 206] ((SHv st dr rd), (ovl a s (updC b 205 (((1440 * e + 8 * m) + k)) (b 213 k)))) _
      refine Ev.steps (k := 2) (pc' := 51) (L' := [Vr 166, Vi (k : Int), Vx]) (S' := [Vi (w32 (((1440 * (e : Int)) + (8 * (m : Int))) + (k : Int))), Vr 206]) (h' := ((SHv st dr rd), (ovl a s (updC b 205 (((1440 * e + 8 * m) + k)) (b 213 k))))) (fun _ => rfl) ?_
      rw [show (w32 (((1440 * (e : Int)) + (8 * (m : Int))) + (k : Int))) = (((1440 * (e : Int)) + (8 * (m : Int))) + (k : Int)) from w32_id (by unfold R32; omega)]
      refine Ev.steps (k := 3) (pc' := 56) (L' := [Vr 166, Vi (k : Int), Vx]) (S' := [Vi (k : Int), Vr 214, Vi (((1440 * (e : Int)) + (8 * (m : Int))) + (k : Int)), Vr 206]) (h' := ((SHv st dr rd), (ovl a s (updC b 205 (((1440 * e + 8 * m) + k)) (b 213 k))))) (fun _ => rfl) ?_
      refine Ev.zald (v := (b 214 k)) rfl (by decide) rfl (by omega) (by omega) (rfl) ?_
      refine Ev.zast (c' := (ovl a s (updC (updC b 205 (((1440 * e + 8 * m) + k)) (b 213 k)) 206 (((1440 * e + 8 * m) + k)) (b 214 k)))) rfl (by decide) rfl (by omega) (by omega) (by omega) (ovl_wm (by decide)) ?_
      refine Ev.steps (k := 5) (pc' := 67) (L' := [Vr 166, Vi (k : Int), Vx]) (S' := [Vi (b 166 64), Vr 166, Vr 207]) (h' := ((SHv st dr rd), (ovl a s (updC (updC b 205 (((1440 * e + 8 * m) + k)) (b 213 k)) 206 (((1440 * e + 8 * m) + k)) (b 214 k))))) (fun _ => rfl) ?_
      rw [he_b]
      refine Ev.steps (k := 2) (pc' := 71) (L' := [Vr 166, Vi (k : Int), Vx]) (S' := [Vi (b 166 65), Vi (e : Int), Vr 166, Vr 207]) (h' := ((SHv st dr rd), (ovl a s (updC (updC b 205 (((1440 * e + 8 * m) + k)) (b 213 k)) 206 (((1440 * e + 8 * m) + k)) (b 214 k))))) (fun _ => rfl) ?_
      rw [(show b 166 65 = (m : Int) by rw [s5_b, hm])]
      refine Ev.call (k := 0) (pc1 := 71) (L1 := [Vr 166, Vi (k : Int), Vx]) (S1 := [Vi (m : Int), Vi (e : Int), Vr 166, Vr 207]) (h1 := ((SHv st dr rd), (ovl a s (updC (updC b 205 (((1440 * e + 8 * m) + k)) (b 213 k)) 206 (((1440 * e + 8 * m) + k)) (b 214 k))))) (m' := 206) (as := [Vr 166, Vi (e : Int), Vi (m : Int)]) (S' := [Vr 207]) (L0 := [Vr 166, Vi (e : Int), Vi (m : Int)]) (fun _ => rfl) rfl rfl rfl rfl rfl rfl (m_at (e : Int) (m : Int) (by omega) (by omega)) (fun r h' hq => ?_)
      obtain ⟨rfl, rfl⟩ := hq
      show Ev X _ _ 74 [Vr 166, Vi (k : Int), Vx] [Vi ((1440 * (e : Int)) + (8 * (m : Int))), Vr 207] ((SHv st dr rd), (ovl a s (updC (updC b 205 (((1440 * e + 8 * m) + k)) (b 213 k)) 206 (((1440 * e + 8 * m) + k)) (b 214 k)))) _
      refine Ev.steps (k := 2) (pc' := 76) (L' := [Vr 166, Vi (k : Int), Vx]) (S' := [Vi (w32 (((1440 * (e : Int)) + (8 * (m : Int))) + (k : Int))), Vr 207]) (h' := ((SHv st dr rd), (ovl a s (updC (updC b 205 (((1440 * e + 8 * m) + k)) (b 213 k)) 206 (((1440 * e + 8 * m) + k)) (b 214 k))))) (fun _ => rfl) ?_
      rw [show (w32 (((1440 * (e : Int)) + (8 * (m : Int))) + (k : Int))) = (((1440 * (e : Int)) + (8 * (m : Int))) + (k : Int)) from w32_id (by unfold R32; omega)]
      refine Ev.steps (k := 3) (pc' := 81) (L' := [Vr 166, Vi (k : Int), Vx]) (S' := [Vi (k : Int), Vr 215, Vi (((1440 * (e : Int)) + (8 * (m : Int))) + (k : Int)), Vr 207]) (h' := ((SHv st dr rd), (ovl a s (updC (updC b 205 (((1440 * e + 8 * m) + k)) (b 213 k)) 206 (((1440 * e + 8 * m) + k)) (b 214 k))))) (fun _ => rfl) ?_
      refine Ev.iald (v := (b 215 k)) rfl (by decide) rfl (by omega) (by omega) (rfl) ?_
      refine Ev.iast (c' := (ovl a s (updC (updC (updC b 205 (((1440 * e + 8 * m) + k)) (b 213 k)) 206 (((1440 * e + 8 * m) + k)) (b 214 k)) 207 (((1440 * e + 8 * m) + k)) (b 215 k)))) rfl (by decide) rfl (by omega) (by omega) (ovl_wm (by decide)) ?_
      refine Ev.steps (k := 5) (pc' := 92) (L' := [Vr 166, Vi (k : Int), Vx]) (S' := [Vi (b 166 64), Vr 166, Vr 209]) (h' := ((SHv st dr rd), (ovl a s (updC (updC (updC b 205 (((1440 * e + 8 * m) + k)) (b 213 k)) 206 (((1440 * e + 8 * m) + k)) (b 214 k)) 207 (((1440 * e + 8 * m) + k)) (b 215 k))))) (fun _ => rfl) ?_
      rw [he_b]
      refine Ev.steps (k := 2) (pc' := 96) (L' := [Vr 166, Vi (k : Int), Vx]) (S' := [Vi (b 166 65), Vi (e : Int), Vr 166, Vr 209]) (h' := ((SHv st dr rd), (ovl a s (updC (updC (updC b 205 (((1440 * e + 8 * m) + k)) (b 213 k)) 206 (((1440 * e + 8 * m) + k)) (b 214 k)) 207 (((1440 * e + 8 * m) + k)) (b 215 k))))) (fun _ => rfl) ?_
      rw [(show b 166 65 = (m : Int) by rw [s5_b, hm])]
      refine Ev.call (k := 0) (pc1 := 96) (L1 := [Vr 166, Vi (k : Int), Vx]) (S1 := [Vi (m : Int), Vi (e : Int), Vr 166, Vr 209]) (h1 := ((SHv st dr rd), (ovl a s (updC (updC (updC b 205 (((1440 * e + 8 * m) + k)) (b 213 k)) 206 (((1440 * e + 8 * m) + k)) (b 214 k)) 207 (((1440 * e + 8 * m) + k)) (b 215 k))))) (m' := 206) (as := [Vr 166, Vi (e : Int), Vi (m : Int)]) (S' := [Vr 209]) (L0 := [Vr 166, Vi (e : Int), Vi (m : Int)]) (fun _ => rfl) rfl rfl rfl rfl rfl rfl (m_at (e : Int) (m : Int) (by omega) (by omega)) (fun r h' hq => ?_)
      obtain ⟨rfl, rfl⟩ := hq
      show Ev X _ _ 99 [Vr 166, Vi (k : Int), Vx] [Vi ((1440 * (e : Int)) + (8 * (m : Int))), Vr 209] ((SHv st dr rd), (ovl a s (updC (updC (updC b 205 (((1440 * e + 8 * m) + k)) (b 213 k)) 206 (((1440 * e + 8 * m) + k)) (b 214 k)) 207 (((1440 * e + 8 * m) + k)) (b 215 k)))) _
      refine Ev.steps (k := 2) (pc' := 101) (L' := [Vr 166, Vi (k : Int), Vx]) (S' := [Vi (w32 (((1440 * (e : Int)) + (8 * (m : Int))) + (k : Int))), Vr 209]) (h' := ((SHv st dr rd), (ovl a s (updC (updC (updC b 205 (((1440 * e + 8 * m) + k)) (b 213 k)) 206 (((1440 * e + 8 * m) + k)) (b 214 k)) 207 (((1440 * e + 8 * m) + k)) (b 215 k))))) (fun _ => rfl) ?_
      rw [show (w32 (((1440 * (e : Int)) + (8 * (m : Int))) + (k : Int))) = (((1440 * (e : Int)) + (8 * (m : Int))) + (k : Int)) from w32_id (by unfold R32; omega)]
      refine Ev.steps (k := 3) (pc' := 106) (L' := [Vr 166, Vi (k : Int), Vx]) (S' := [Vi (k : Int), Vr 216, Vi (((1440 * (e : Int)) + (8 * (m : Int))) + (k : Int)), Vr 209]) (h' := ((SHv st dr rd), (ovl a s (updC (updC (updC b 205 (((1440 * e + 8 * m) + k)) (b 213 k)) 206 (((1440 * e + 8 * m) + k)) (b 214 k)) 207 (((1440 * e + 8 * m) + k)) (b 215 k))))) (fun _ => rfl) ?_
      refine Ev.iald (v := (b 216 k)) rfl (by decide) rfl (by omega) (by omega) (rfl) ?_
      refine Ev.iast (c' := (ovl a s (updC (updC (updC (updC b 205 (((1440 * e + 8 * m) + k)) (b 213 k)) 206 (((1440 * e + 8 * m) + k)) (b 214 k)) 207 (((1440 * e + 8 * m) + k)) (b 215 k)) 209 (((1440 * e + 8 * m) + k)) (b 216 k)))) rfl (by decide) rfl (by omega) (by omega) (ovl_wm (by decide)) ?_
      refine Ev.steps (k := 1) (pc' := 111) (L' := [Vr 166, Vi (w32 ((k : Int) + 1)), Vx]) (S' := []) (h' := ((SHv st dr rd), (ovl a s (updC (updC (updC (updC b 205 (((1440 * e + 8 * m) + k)) (b 213 k)) 206 (((1440 * e + 8 * m) + k)) (b 214 k)) 207 (((1440 * e + 8 * m) + k)) (b 215 k)) 209 (((1440 * e + 8 * m) + k)) (b 216 k))))) (fun _ => rfl) ?_
      rw [show (w32 ((k : Int) + 1)) = ((k : Int) + 1) from w32_id (by unfold R32; omega)]
      refine Ev.steps (k := 1) (pc' := 2) (L' := [Vr 166, Vi ((k : Int) + 1), Vx]) (S' := []) (h' := ((SHv st dr rd), (ovl a s (updC (updC (updC (updC b 205 (((1440 * e + 8 * m) + k)) (b 213 k)) 206 (((1440 * e + 8 * m) + k)) (b 214 k)) 207 (((1440 * e + 8 * m) + k)) (b 215 k)) 209 (((1440 * e + 8 * m) + k)) (b 216 k))))) (fun _ => rfl) ?_
      have hF2 : FrH e m b (updC (updC (updC (updC b 205 (((1440 * e + 8 * m) + k)) (b 213 k)) 206 (((1440 * e + 8 * m) + k)) (b 214 k)) 207 (((1440 * e + 8 * m) + k)) (b 215 k)) 209 (((1440 * e + 8 * m) + k)) (b 216 k)) := (((FrH.rf.up (by omega)).up (by omega)).up (by omega)).up (by omega)
      refine ih _ (by omega) (b := (updC (updC (updC (updC b 205 (((1440 * e + 8 * m) + k)) (b 213 k)) 206 (((1440 * e + 8 * m) + k)) (b 214 k)) 207 (((1440 * e + 8 * m) + k)) (b 215 k)) 209 (((1440 * e + 8 * m) + k)) (b 216 k))) (k + 1) (by omega) (hF2.sm hS_b hS_b.2.2.2.2.1) (hF.tr hF2) (fun q hq => ?_) rfl
      by_cases hqk : q = k
      · subst hqk
        refine ⟨?_, ?_, ?_, ?_⟩
        · show updC b 205 _ (b 213 q) 205 _ = b 213 q
          rw [updC_sm]
        · show updC b 206 _ (b 214 q) 206 _ = b 214 q
          rw [updC_sm]
        · show updC b 207 _ (b 215 q) 207 _ = b 215 q
          rw [updC_sm]
        · show updC b 209 _ (b 216 q) 209 _ = b 216 q
          rw [updC_sm]
      · obtain ⟨g1, g2, g3, g4⟩ := hC q (by omega)
        refine ⟨?_, ?_, ?_, ?_⟩
        · show updC b 205 _ (b 213 k) 205 _ = b 213 q
          rw [updC_if, if_neg (by omega), g1]
        · show updC b 206 _ (b 214 k) 206 _ = b 214 q
          rw [updC_if, if_neg (by omega), g2]
        · show updC b 207 _ (b 215 k) 207 _ = b 215 q
          rw [updC_if, if_neg (by omega), g3]
        · show updC b 209 _ (b 216 k) 209 _ = b 216 q
          rw [updC_if, if_neg (by omega), g4]
/-- what is learnt by some pairs -/
def lrnU (n j : Nat) (c : SC) : SC := fun t i => if t = 4 ∧ i < j ∧ i / 8 < n ∧ i % 8 < n ∧ seeS c (i / 8) (i % 8) = 2 ∧ c 4 i = -1 then c 5 0 else c t i
theorem lrnU_n {n j : Nat} {c : SC} {t i : Nat} (h : t ≠ 4 ∨ j ≤ i) : lrnU n j c t i = c t i := by
  unfold lrnU
  rw [if_neg (fun hc => by omega)]
theorem lrnU_0 {n : Nat} {c : SC} : lrnU n 0 c = c := by
  funext t i
  exact lrnU_n (by omega)
theorem lrnU_hit {n p o : Nat} {c : SC} (hn : n ≤ 8) (hp : p < n) (ho : o < n) (h2 : seeS c p o = 2) (h1 : c 4 (8 * p + o) = -1) : lrnU n (8 * p + (o + 1)) c = updC (lrnU n (8 * p + o) c) 4 (8 * p + o) (c 5 0) := by
  funext t i
  by_cases hx : t = 4 ∧ i = 8 * p + o
  · rw [hx.1, hx.2, updC_sm]
    unfold lrnU
    rw [show (8 * p + o) / 8 = p by omega, show (8 * p + o) % 8 = o by omega, if_pos ⟨rfl, by omega, hp, ho, h2, h1⟩]
  · rw [updC_nt hx]
    unfold lrnU
    by_cases hc : t = 4 ∧ i < 8 * p + o ∧ i / 8 < n ∧ i % 8 < n ∧ seeS c (i / 8) (i % 8) = 2 ∧ c 4 i = -1
    · rw [if_pos hc, if_pos ⟨hc.1, by omega, hc.2.2⟩]
    · rw [if_neg hc, if_neg (fun h => hc ⟨h.1, by omega, h.2.2⟩)]
theorem lrnU_mis {n p o : Nat} {c : SC} (ho : o < 8) (h : ¬ (seeS c p o = 2 ∧ c 4 (8 * p + o) = -1)) : lrnU n (8 * p + (o + 1)) c = lrnU n (8 * p + o) c := by
  funext t i
  unfold lrnU
  by_cases hc : t = 4 ∧ i < 8 * p + o ∧ i / 8 < n ∧ i % 8 < n ∧ seeS c (i / 8) (i % 8) = 2 ∧ c 4 i = -1
  · rw [if_pos hc, if_pos ⟨hc.1, by omega, hc.2.2⟩]
  · rw [if_neg hc, if_neg (fun g => by
      by_cases hi : i = 8 * p + o
      · rw [hi, show (8 * p + o) / 8 = p by omega, show (8 * p + o) % 8 = o by omega] at g
        exact h ⟨g.2.2.2.2.1, g.2.2.2.2.2⟩
      · exact hc ⟨g.1, by omega, g.2.2⟩)]
theorem lrnU_row {n p : Nat} {c : SC} (hn : n ≤ 8) : lrnU n (8 * p + n) c = lrnU n (8 * (p + 1)) c := by
  funext t i
  unfold lrnU
  by_cases hc : t = 4 ∧ i < 8 * p + n ∧ i / 8 < n ∧ i % 8 < n ∧ seeS c (i / 8) (i % 8) = 2 ∧ c 4 i = -1
  · rw [if_pos hc, if_pos ⟨hc.1, by omega, hc.2.2⟩]
  · rw [if_neg hc, if_neg (fun g => hc ⟨g.1, by omega, g.2.2⟩)]
theorem lrnU_all {n : Nat} {c : SC} (hn : n ≤ 8) : lrnU n (8 * n) c = lrnS n c := by
  funext t i
  unfold lrnU lrnS
  by_cases hc : t = 4 ∧ i / 8 < n ∧ i % 8 < n ∧ seeS c (i / 8) (i % 8) = 2 ∧ c 4 i = -1
  · rw [if_pos hc, if_pos ⟨hc.1, by omega, hc.2⟩]
  · rw [if_neg hc, if_neg (fun g => hc ⟨g.1, g.2.2⟩)]
theorem SimM.know {S : STY} {c b : SC} {e i : Nat} {v : Int} (h : SimM S c b e) : SimM S (updC c 4 i v) (updC b 212 (64 * e + i) v) e := by
  obtain ⟨h0, h1, h2, h3, h4, h5, h7, h9, h6, h8, he⟩ := h
  refine ⟨h0, h1, h2, h3, fun q hq => ?_, h5, h7, h9, h6, h8, he⟩
  rw [updC_if, updC_if, h4 q hq]
  simp only [show (64 * e + q = 64 * e + i) = (q = i) from propext ⟨fun h => by omega, fun h => by omega⟩]
theorem m_ends_o {X : List Int} {d : Nat} {st dr rd : Int} {a s b : C3} (p : Nat) (m : Nat) {S : STY} {bk e : Nat} {c0 : SC} (hWY : WfY S) (hm : c0 5 0 = (m : Int)) (hm2 : m < 180) {b0 : C3} {Q : Option pm_V → pm_H → Prop} (hp : p < nW S) (K : ∀ (b2 : C3), RepY S b2 bk → SimM S (lrnU (nW S) (8 * (p + 1)) c0) b2 e → FrK e b0 b2 → (∀ q, q < nW S → b2 205 (1440 * e + 8 * m + q) = c0 0 q ∧ b2 206 (1440 * e + 8 * m + q) = c0 1 q) → Ev X (d + 2) 222 214 [Vr 166, Vi (p : Int), Vi ((nW S : Nat) : Int)] [] (SHv st dr rd, ovl a s b2) Q) (o : Nat) (ho : o ≤ nW S) (hY_b : RepY S b bk) (hS_b : SimM S (lrnU (nW S) (8 * p + o) c0) b e) (hF : FrK e b0 b) (hR : ∀ q, q < nW S → b 205 (1440 * e + 8 * m + q) = c0 0 q ∧ b 206 (1440 * e + 8 * m + q) = c0 1 q) : Ev X (d + 2) 222 131 [Vr 166, Vi (p : Int), Vi (o : Int)] [] (SHv st dr rd, ovl a s b) (Q) := by
  induction hk : (nW S - o) using Nat.strongRecOn generalizing o b with
  | ind k ih =>
    obtain ⟨hb2_b, h12_b, h168_b, h169_b, h170_b, h171_b, h173_b, h172_b, h174_b, h176_b, h178_b, h175_b, h177_b, h179_b, h180_b, h184_b⟩ := id hY_b
    obtain ⟨s0_b, s1_b, s2_b, s3_b, s4_b, s5_b, s7_b, s9_b, s6_b, s8_b, he_b, he2_b⟩ := id hS_b
    obtain ⟨wR, wD, wW, -⟩ := id hWY
    obtain ⟨w8, -⟩ := wW
    refine Ev.steps (k := 5) (pc' := 140) (L' := [Vr 166, Vi (p : Int), Vi (o : Int)]) (S' := [Vi (b 166 12), Vr 170, Vi (o : Int)]) (h' := ((SHv st dr rd), (ovl a s b))) (fun _ => rfl) ?_
    rw [h12_b]
    refine Ev.iald (v := ((nW S : Nat) : Int)) rfl (by decide) rfl (by omega) (by omega) (h170_b) ?_
    refine Ev.ite (P := ((nW S : Nat) : Int) ≤ (o : Int)) (k := 1) (a := 214) (b := 144) (L' := [Vr 166, Vi (p : Int), Vi (o : Int)]) (S' := []) (h' := ((SHv st dr rd), (ovl a s b))) (fun _ => rfl) (fun b141 => ?_) (fun b141 => ?_)
    · obtain rfl : o = nW S := by omega
      rw [lrnU_row (by omega)] at hS_b
      exact K b hY_b hS_b hF hR
    · refine Ev.steps (k := 3) (pc' := 149) (L' := [Vr 166, Vi (p : Int), Vi (o : Int)]) (S' := [Vi (b 166 64), Vr 166]) (h' := ((SHv st dr rd), (ovl a s b))) (fun _ => rfl) ?_
      rw [he_b]
      refine Ev.steps (k := 4) (pc' := 155) (L' := [Vr 166, Vi (p : Int), Vi (o : Int)]) (S' := [Vi (b 166 65), Vi (o : Int), Vi (p : Int), Vi (e : Int), Vr 166]) (h' := ((SHv st dr rd), (ovl a s b))) (fun _ => rfl) ?_
      rw [(show (b 166 65) = (m : Int) by rw [s5_b, lrnU_n (by omega), hm])]
      refine Ev.call (k := 0) (pc1 := 155) (L1 := [Vr 166, Vi (p : Int), Vi (o : Int)]) (S1 := [Vi (m : Int), Vi (o : Int), Vi (p : Int), Vi (e : Int), Vr 166]) (h1 := ((SHv st dr rd), (ovl a s b))) (m' := 223) (as := [Vr 166, Vi (e : Int), Vi (p : Int), Vi (o : Int), Vi (m : Int)]) (S' := []) (L0 := [Vr 166, Vi (e : Int), Vi (p : Int), Vi (o : Int), Vi (m : Int), Vx]) (fun _ => rfl) rfl rfl rfl rfl rfl rfl (m_seesN e m p o c0 he2_b hm2 (by omega) (by omega) (hR p hp).1 (hR o (by omega)).1 (hR p hp).2 (hR o (by omega)).2) (fun r h' hq => ?_)
      obtain ⟨rfl, rfl⟩ := hq
      show Ev X _ _ 158 [Vr 166, Vi (p : Int), Vi (o : Int)] [Vi (seeS c0 p o)] ((SHv st dr rd), (ovl a s b)) _
      refine Ev.ite (P := (seeS c0 p o) ≠ 2) (k := 2) (a := 208) (b := 162) (L' := [Vr 166, Vi (p : Int), Vi (o : Int)]) (S' := []) (h' := ((SHv st dr rd), (ovl a s b))) (fun _ => rfl) (fun b159 => ?_) (fun b159 => ?_)
      · refine Ev.steps (k := 1) (pc' := 211) (L' := [Vr 166, Vi (p : Int), Vi (w32 ((o : Int) + 1))]) (S' := []) (h' := ((SHv st dr rd), (ovl a s b))) (fun _ => rfl) ?_
        rw [show (w32 ((o : Int) + 1)) = ((o : Int) + 1) from w32_id (by unfold R32; omega)]
        refine Ev.steps (k := 1) (pc' := 131) (L' := [Vr 166, Vi (p : Int), Vi ((o : Int) + 1)]) (S' := []) (h' := ((SHv st dr rd), (ovl a s b))) (fun _ => rfl) ?_
        refine ih _ (by omega) (b := b) (o + 1) (by omega) hY_b ?_ hF hR rfl
        rw [lrnU_mis (by omega) (by omega)]
        exact hS_b
      · refine Ev.steps (k := 5) (pc' := 172) (L' := [Vr 166, Vi (p : Int), Vi (o : Int)]) (S' := [Vi (b 166 64), Vi 64, Vr 212]) (h' := ((SHv st dr rd), (ovl a s b))) (fun _ => rfl) ?_
        rw [he_b]
        refine Ev.steps (k := 1) (pc' := 173) (L' := [Vr 166, Vi (p : Int), Vi (o : Int)]) (S' := [Vi (w32 (64 * (e : Int))), Vr 212]) (h' := ((SHv st dr rd), (ovl a s b))) (fun _ => rfl) ?_
        rw [show (w32 (64 * (e : Int))) = (64 * (e : Int)) from w32_id (by unfold R32; omega)]
        refine Ev.steps (k := 3) (pc' := 177) (L' := [Vr 166, Vi (p : Int), Vi (o : Int)]) (S' := [Vi (w32 (8 * (p : Int))), Vi (64 * (e : Int)), Vr 212]) (h' := ((SHv st dr rd), (ovl a s b))) (fun _ => rfl) ?_
        rw [show (w32 (8 * (p : Int))) = (8 * (p : Int)) from w32_id (by unfold R32; omega)]
        refine Ev.steps (k := 1) (pc' := 178) (L' := [Vr 166, Vi (p : Int), Vi (o : Int)]) (S' := [Vi (w32 ((64 * (e : Int)) + (8 * (p : Int)))), Vr 212]) (h' := ((SHv st dr rd), (ovl a s b))) (fun _ => rfl) ?_
        rw [show (w32 ((64 * (e : Int)) + (8 * (p : Int)))) = ((64 * (e : Int)) + (8 * (p : Int))) from w32_id (by unfold R32; omega)]
        refine Ev.steps (k := 2) (pc' := 180) (L' := [Vr 166, Vi (p : Int), Vi (o : Int)]) (S' := [Vi (w32 (((64 * (e : Int)) + (8 * (p : Int))) + (o : Int))), Vr 212]) (h' := ((SHv st dr rd), (ovl a s b))) (fun _ => rfl) ?_
        rw [show (w32 (((64 * (e : Int)) + (8 * (p : Int))) + (o : Int))) = (((64 * (e : Int)) + (8 * (p : Int))) + (o : Int)) from w32_id (by unfold R32; omega)]
        refine Ev.iald (v := (c0 4 (8 * p + o))) rfl (by decide) rfl (by omega) (by omega) ((show (b 212 (((64 * e + 8 * p) + o))) = _ by rw [show 64 * e + 8 * p + o = 64 * e + (8 * p + o) by omega, s4_b _ (by omega), lrnU_n (by omega)])) ?_
        refine Ev.ite (P := (c0 4 (8 * p + o)) ≠ (-1)) (k := 2) (a := 208) (b := 185) (L' := [Vr 166, Vi (p : Int), Vi (o : Int)]) (S' := []) (h' := ((SHv st dr rd), (ovl a s b))) (fun _ => rfl) (fun b182 => ?_) (fun b182 => ?_)
        · refine Ev.steps (k := 1) (pc' := 211) (L' := [Vr 166, Vi (p : Int), Vi (w32 ((o : Int) + 1))]) (S' := []) (h' := ((SHv st dr rd), (ovl a s b))) (fun _ => rfl) ?_
          rw [show (w32 ((o : Int) + 1)) = ((o : Int) + 1) from w32_id (by unfold R32; omega)]
          refine Ev.steps (k := 1) (pc' := 131) (L' := [Vr 166, Vi (p : Int), Vi ((o : Int) + 1)]) (S' := []) (h' := ((SHv st dr rd), (ovl a s b))) (fun _ => rfl) ?_
          refine ih _ (by omega) (b := b) (o + 1) (by omega) hY_b ?_ hF hR rfl
          rw [lrnU_mis (by omega) (by omega)]
          exact hS_b
        · refine Ev.steps (k := 5) (pc' := 195) (L' := [Vr 166, Vi (p : Int), Vi (o : Int)]) (S' := [Vi (b 166 64), Vi 64, Vr 212]) (h' := ((SHv st dr rd), (ovl a s b))) (fun _ => rfl) ?_
          rw [he_b]
          refine Ev.steps (k := 1) (pc' := 196) (L' := [Vr 166, Vi (p : Int), Vi (o : Int)]) (S' := [Vi (w32 (64 * (e : Int))), Vr 212]) (h' := ((SHv st dr rd), (ovl a s b))) (fun _ => rfl) ?_
          rw [show (w32 (64 * (e : Int))) = (64 * (e : Int)) from w32_id (by unfold R32; omega)]
          refine Ev.steps (k := 3) (pc' := 200) (L' := [Vr 166, Vi (p : Int), Vi (o : Int)]) (S' := [Vi (w32 (8 * (p : Int))), Vi (64 * (e : Int)), Vr 212]) (h' := ((SHv st dr rd), (ovl a s b))) (fun _ => rfl) ?_
          rw [show (w32 (8 * (p : Int))) = (8 * (p : Int)) from w32_id (by unfold R32; omega)]
          refine Ev.steps (k := 1) (pc' := 201) (L' := [Vr 166, Vi (p : Int), Vi (o : Int)]) (S' := [Vi (w32 ((64 * (e : Int)) + (8 * (p : Int)))), Vr 212]) (h' := ((SHv st dr rd), (ovl a s b))) (fun _ => rfl) ?_
          rw [show (w32 ((64 * (e : Int)) + (8 * (p : Int)))) = ((64 * (e : Int)) + (8 * (p : Int))) from w32_id (by unfold R32; omega)]
          refine Ev.steps (k := 2) (pc' := 203) (L' := [Vr 166, Vi (p : Int), Vi (o : Int)]) (S' := [Vi (w32 (((64 * (e : Int)) + (8 * (p : Int))) + (o : Int))), Vr 212]) (h' := ((SHv st dr rd), (ovl a s b))) (fun _ => rfl) ?_
          rw [show (w32 (((64 * (e : Int)) + (8 * (p : Int))) + (o : Int))) = (((64 * (e : Int)) + (8 * (p : Int))) + (o : Int)) from w32_id (by unfold R32; omega)]
          refine Ev.steps (k := 2) (pc' := 207) (L' := [Vr 166, Vi (p : Int), Vi (o : Int)]) (S' := [Vi (b 166 65), Vi (((64 * (e : Int)) + (8 * (p : Int))) + (o : Int)), Vr 212]) (h' := ((SHv st dr rd), (ovl a s b))) (fun _ => rfl) ?_
          rw [(show (b 166 65) = (m : Int) by rw [s5_b, lrnU_n (by omega), hm])]
          refine Ev.iast (c' := (ovl a s (updC b 212 (((64 * e + 8 * p) + o)) (m : Int)))) rfl (by decide) rfl (by omega) (by omega) (ovl_wm (by decide)) ?_
          refine Ev.steps (k := 1) (pc' := 211) (L' := [Vr 166, Vi (p : Int), Vi (w32 ((o : Int) + 1))]) (S' := []) (h' := ((SHv st dr rd), (ovl a s (updC b 212 (((64 * e + 8 * p) + o)) (m : Int))))) (fun _ => rfl) ?_
          rw [show (w32 ((o : Int) + 1)) = ((o : Int) + 1) from w32_id (by unfold R32; omega)]
          refine Ev.steps (k := 1) (pc' := 131) (L' := [Vr 166, Vi (p : Int), Vi ((o : Int) + 1)]) (S' := []) (h' := ((SHv st dr rd), (ovl a s (updC b 212 (((64 * e + 8 * p) + o)) (m : Int))))) (fun _ => rfl) ?_
          have hF2 : FrK e b (updC b 212 (((64 * e + 8 * p) + o)) (m : Int)) := FrK.rf.up (by omega)
          refine ih _ (by omega) (b := (updC b 212 (((64 * e + 8 * p) + o)) (m : Int))) (o + 1) (by omega) (hY_b.fr (hF2.fh.fe hm2)) ?_ (hF.tr hF2) hR rfl
          rw [lrnU_hit (by omega) hp (by omega) (by omega) (by omega), show 64 * e + 8 * p + o = 64 * e + (8 * p + o) by omega, ← hm]
          exact hS_b.know
theorem m_ends_p {X : List Int} {d : Nat} {st dr rd : Int} {a s b : C3} (m : Nat) {S : STY} {bk e : Nat} {c0 : SC} (hWY : WfY S) (hm : c0 5 0 = (m : Int)) (hm2 : m < 180) {b0 : C3} {Q : Option pm_V → pm_H → Prop} (K : ∀ (b2 : C3) (z1 : pm_V), RepY S b2 bk → SimM S (lrnU (nW S) (8 * (nW S)) c0) b2 e → FrK e b0 b2 → (∀ q, q < nW S → b2 205 (1440 * e + 8 * m + q) = c0 0 q ∧ b2 206 (1440 * e + 8 * m + q) = c0 1 q) → Ev X (d + 2) 222 220 [Vr 166, Vi ((nW S : Nat) : Int), z1] [] (SHv st dr rd, ovl a s b2) Q) (p : Nat) (z : pm_V) (hp : p ≤ nW S) (hY_b : RepY S b bk) (hS_b : SimM S (lrnU (nW S) (8 * p + 0) c0) b e) (hF : FrK e b0 b) (hR : ∀ q, q < nW S → b 205 (1440 * e + 8 * m + q) = c0 0 q ∧ b 206 (1440 * e + 8 * m + q) = c0 1 q) : Ev X (d + 2) 222 116 [Vr 166, Vi (p : Int), z] [] (SHv st dr rd, ovl a s b) (Q) := by
  induction hk : (nW S - p) using Nat.strongRecOn generalizing p b z with
  | ind k ih =>
    obtain ⟨hb2_b, h12_b, h168_b, h169_b, h170_b, h171_b, h173_b, h172_b, h174_b, h176_b, h178_b, h175_b, h177_b, h179_b, h180_b, h184_b⟩ := id hY_b
    obtain ⟨s0_b, s1_b, s2_b, s3_b, s4_b, s5_b, s7_b, s9_b, s6_b, s8_b, he_b, he2_b⟩ := id hS_b
    obtain ⟨wR, wD, wW, -⟩ := id hWY
    obtain ⟨w8, -⟩ := wW
    refine Ev.steps (k := 5) (pc' := 125) (L' := [Vr 166, Vi (p : Int), z]) (S' := [Vi (b 166 12), Vr 170, Vi (p : Int)]) (h' := ((SHv st dr rd), (ovl a s b))) (fun _ => rfl) ?_
    rw [h12_b]
    refine Ev.iald (v := ((nW S : Nat) : Int)) rfl (by decide) rfl (by omega) (by omega) (h170_b) ?_
    refine Ev.ite (P := ((nW S : Nat) : Int) ≤ (p : Int)) (k := 1) (a := 220) (b := 129) (L' := [Vr 166, Vi (p : Int), z]) (S' := []) (h' := ((SHv st dr rd), (ovl a s b))) (fun _ => rfl) (fun b126 => ?_) (fun b126 => ?_)
    · obtain rfl : p = nW S := by omega
      exact K b z hY_b hS_b hF hR
    · refine Ev.steps (k := 2) (pc' := 131) (L' := [Vr 166, Vi (p : Int), Vi 0]) (S' := []) (h' := ((SHv st dr rd), (ovl a s b))) (fun _ => rfl) ?_
      refine m_ends_o p m hWY hm hm2 (b0 := b0) (by omega) (fun b2 hY2 hS2 hF2 hR2 => ?_) 0 (by omega) hY_b hS_b hF hR
      refine Ev.steps (k := 2) (pc' := 116) (L' := [Vr 166, Vi ((p : Int) + 1), Vi ((nW S : Nat) : Int)]) (S' := []) (h' := (SHv st dr rd, ovl a s b2)) (fun _ => ?_) (ih _ (by omega) (b := b2) (p + 1) _ (by omega) hY2 hS2 hF2 hR2 rfl)
      show some (116, [Vr 166, Vi (w32 ((p : Int) + 1)), Vi ((nW S : Nat) : Int)], [], _) = _
      rw [show w32 ((p : Int) + 1) = (p : Int) + 1 from w32_id (by unfold R32; omega)]
theorem m_ends {X : List Int} {d : Nat} {st dr rd : Int} {a s b : C3} (m : Nat) {S : STY} {bk e : Nat} {c_b : SC} (hWY : WfY S) (hY_b : RepY S b bk) (hS_b : SimM S c_b b e) (hWC : WfC S c_b) (hm : c_b 5 0 = (m : Int)) (hm2 : m < 180) : Ev X (d + 2) 222 0 [Vr 166, Vx, Vx] [] (SHv st dr rd, ovl a s b) (fun rr hh => rr = none ∧ ∃ b' : C3, hh = (SHv st dr rd, ovl a s b') ∧ SimM S (lrnS (nW S) c_b) b' e ∧ FrH e m b b' ∧ (∀ p, p < nW S → b' 205 (1440 * e + 8 * m + p) = c_b 0 p) ∧ (∀ p, p < nW S → b' 206 (1440 * e + 8 * m + p) = c_b 1 p) ∧ (∀ t, t < nT S → b' 207 (1440 * e + 8 * m + t) = c_b 2 t) ∧ (∀ p, p < nW S → b' 209 (1440 * e + 8 * m + p) = c_b 3 p)) := by
  obtain ⟨wR, wD, wW, wT, -⟩ := id hWY
  obtain ⟨w8, -⟩ := wW
  obtain ⟨t8, -⟩ := wT
  refine Ev.steps (k := 2) (pc' := 2) (L' := [Vr 166, Vi 0, Vx]) (S' := []) (h' := ((SHv st dr rd), (ovl a s b))) (fun _ => rfl) ?_
  refine m_ends_c m hWC.2.1 hm hm2 (b0 := b) (fun b2 hS2 hF2 hC2 => ?_) 0 (by omega) hS_b FrH.rf (fun q hq => absurd hq (by omega))
  refine Ev.steps (k := 2) (pc' := 116) (L' := [Vr 166, Vi 0, Vx]) (S' := []) (h' := (SHv st dr rd, ovl a s b2)) (fun _ => rfl) ?_
  refine m_ends_p m hWY hm hm2 (b0 := b2) (fun b3 z hY3 hS3 hF3 hR3 => ?_) 0 _ (by omega) (hY_b.fr (hF2.fe hm2)) (by rw [show 8 * 0 + 0 = 0 by omega, lrnU_0]; exact hS2) FrK.rf (fun q hq => ⟨by rw [(hC2 q (by omega)).1, hS2.1 q hq], by rw [(hC2 q (by omega)).2.1, hS2.2.1 q (by omega)]⟩)
  refine Ev.fin (k := 1) (r := none) (h' := (SHv st dr rd, ovl a s b3)) (fun _ => rfl) ⟨rfl, b3, rfl, ?_, hF2.tr hF3.fh, fun p hp => (hR3 p hp).1, fun p hp => (hR3 p hp).2, fun t ht => ?_, fun p hp => ?_⟩
  · rw [← lrnU_all (by omega)]
    exact hS3
  · have g : b3 207 (1440 * e + 8 * m + t) = b2 207 (1440 * e + 8 * m + t) := hF3 _ _ (by omega)
    rw [g, (hC2 t (by omega)).2.2.1, hS2.2.2.1 t ht]
  · have g : b3 209 (1440 * e + 8 * m + p) = b2 209 (1440 * e + 8 * m + p) := hF3 _ _ (by omega)
    rw [g, (hC2 p (by omega)).2.2.2, hS2.2.2.2.1 p (by omega)]
