/-! THE CLASS: an evening's notes, whichever evening it is -/
theorem c_dBegin {X : List Int} {d : Nat} {st dr rd : Int} {a s b : C3} {u : Nat} (hu : huS u) : Ev X (d + 1) 63 0 [Vr ((u : Int) + 14)] [] (SHv st dr rd, ovl a s b) (fun rr hh => rr = none ∧ ∃ a' : C3, hh = (SHv st dr rd, ovl a' s b) ∧ FrO (u + 14) (u + 15) a a' ∧ (u = 119 → a' 133 5 = 0 ∧ a' 133 0 = a 133 0 ∧ ∀ j, j < 1440 → a' 134 j = -1) ∧ (u = 142 → a' 156 0 = a 156 0)) := by
  rcases hu with rfl | rfl
  · refine Ev.mono d_begin (fun r h' hq => ?_)
    obtain ⟨g1, a', g2, g3, g4, g5, g6⟩ := hq
    exact ⟨g1, a', g2, g3, fun _ => ⟨g4, g5, g6⟩, fun h => absurd h (by omega)⟩
  · refine Ev.mono e_begin (fun r h' hq => ?_)
    obtain ⟨g1, a', g2, g3, g4⟩ := hq
    exact ⟨g1, a', g2, g3, fun h => absurd h (by omega), fun _ => g4⟩
theorem c_dNoteDone {X : List Int} {d : Nat} {st dr rd : Int} {a s b : C3} {u : Nat} (hu : huS u) {y : Nat} (hy : hyS y) {S : STY} {E c c2 : SC} (hC : RsC S c2 a u) (hWY : WfY S) (hWC : WfC S c) (hWC2 : WfC S c2) (r : Nat) (hr : r < nL S) (hRu : RuC S a y r) (hk4 : S.1 11 r ≠ 4) (hd : doesS S c r = some c2) (h71 : c 7 0 < 1440) (m p : Nat) (hm : m < 180) (hm5 : c 5 0 = (m : Int)) (h25 : c2 5 0 = (m : Int)) (hp : S.1 12 r = (p : Int)) (hD : DyU S E a u c m p) (hh : hdnS S E m p = (r : Int)) : Ev X (d + 1) 99 0 [Vr ((u : Int) + 14), Vr ((u : Int) + 1), Vr ((y + 14 + r : Nat) : Int), Vi (r : Int), Vx] [] (SHv st dr rd, ovl a s b) (fun rr hh => rr = none ∧ ∃ a' : C3, hh = (SHv st dr rd, ovl a' s b) ∧ FrO (u + 14) (u + 17) a a' ∧ DyU S E a' u c2 m (p + 1)) := by
  have hW8 := hWY.2.2.1.1
  have hL30 := hWY.2.2.2.2.1.1
  have hpW : p < nW S := by have := (hWY.2.2.2.2.2.2.2.2.2.2.2 r hr).2.1; omega
  rcases hu with rfl | rfl
  · obtain ⟨hT, hY⟩ := hD.1 rfl
    refine Ev.mono (d_noteDone hy hC hWY hWC hWC2 r hr hRu hk4 hd hT h71 m p hm hm5 hp hY.1) (fun rr h' hq => ?_)
    obtain ⟨g1, a', g2, g3, g4, g5, g6, g7⟩ := hq
    exact ⟨g1, a', g2, g3, fun _ => ⟨g4, hY.next hm hpW hW8 hh.symm g6 (fun i _ => g5 i) g7 (g3 137 (by omega))⟩, fun h => absurd h (by omega)⟩
  · refine Ev.mono (e_noteDone hy r (by omega) m p hm (by omega) (by have := hC.2.2.2.2.2.2.2.2.1; rw [h25] at this; exact this) (by rw [← hp]; exact hRu.2.1) (hD.2 rfl)) (fun rr h' hq => ?_)
    obtain ⟨g1, g2⟩ := hq
    exact ⟨g1, a, g2, FrO.rf, fun h => absurd h (by omega), fun _ => hD.2 rfl⟩
theorem c_dNoteMinute {X : List Int} {d : Nat} {st dr rd : Int} {a s b : C3} {u : Nat} (hu : huS u) {S : STY} {E c : SC} (hC : RsC S c a u) (hWY : WfY S) (m : Nat) (hm : m < 180) (h5 : c 5 0 = (m : Int)) (hD : DyU S E a u c m (nW S)) (hc : c = aftS S E (m + 1)) : Ev X d 104 0 [Vr ((u : Int) + 14), Vr ((u : Int) + 1), Vx, Vx] [] (SHv st dr rd, ovl a s b) (fun rr hh => rr = none ∧ ∃ a' : C3, hh = (SHv st dr rd, ovl a' s b) ∧ FrO (u + 14) (u + 18) a a' ∧ DyU S E a' u c (m + 1) 0) := by
  have hW8 := hWY.2.2.1.1
  have hT8 := hWY.2.2.2.1.1
  obtain ⟨q0, q1, q2, q3, q4, q5, q6, q7, q8, q9, q10⟩ := id hC
  rcases hu with rfl | rfl
  · obtain ⟨hT, hY⟩ := hD.1 rfl
    have hx : ∀ i, i < 8 → a 122 i = (((a 122 i).toNat : Nat) : Int) := fun i hi => by have := q3 i hi; exact (Int.toNat_of_nonneg this.1).symm
    refine Ev.mono (d_noteMinute m hm (fun i => (a 122 i).toNat) (fun i hi => by have := q3 i hi; have e : a (119 + 3) i = a 122 i := rfl; rw [e] at this; omega) hx (by rw [← h5]; exact q8) hY.1) (fun rr h' hq => ?_)
    obtain ⟨g1, a', g2, g3, g4, g5, g6, g7⟩ := hq
    refine ⟨g1, a', g2, g3.wd (by omega) (by omega), fun _ => ⟨hT.cg (by rw [g3 133 (by omega)]) g4 rfl rfl, ?_, fun i hi => ?_, fun j hj => ?_⟩, fun h => absurd h (by omega)⟩
    · rw [g3 133 (by omega)]; exact hY.1
    · rw [g3 134 (by omega), hY.2.1 i hi]
      refine if_cg ?_
      omega
    · by_cases g : j = m
      · subst g
        refine ⟨fun p hp => ?_, fun i => (a 122 i).toNat, fun i hi => ?_, fun t ht => ?_, g6⟩
        · rw [g5, if_pos (by omega), Nat.add_sub_cancel_left, ← hc]
          exact q5 p hp
        · have := q3 i hi
          have e : a (119 + 3) i = a 122 i := rfl
          rw [e] at this
          show (a 122 i).toNat < 16
          omega
        · rw [← hc, ← q2 t ht, ← hx t (by omega)]
      · rw [g7 j g]
        obtain ⟨f1, f2⟩ := hY.2.2 j (by omega)
        refine ⟨fun p hp => ?_, f2⟩
        rw [g5, if_neg (by omega)]
        exact f1 p hp
  · refine Ev.mono (e_noteMinute m hm (by rw [← h5]; exact q8) (hD.2 rfl)) (fun rr h' hq => ?_)
    obtain ⟨g1, g2⟩ := hq
    exact ⟨g1, a, g2, FrO.rf, fun h => absurd h (by omega), fun _ => hD.2 rfl⟩
/-- the deeds -/
def DdC (c a : SC) (u : Nat) : Prop := a u 6 = c 9 0 ∧ ∀ i, i < 6 * (c 9 0).toNat → a (u + 13) i = c 8 i
/-- what a turn may touch -/
def FrT2 (u : Nat) (a a' : SC) : Prop := (∀ o, (o < u ∨ u + 18 < o) → a' o = a o) ∧ (∀ o, u + 8 ≤ o → o ≤ u + 12 → a' o = a o) ∧ a' u 7 = a u 7
theorem FrT2.rf {u : Nat} {a : SC} : FrT2 u a a := ⟨fun _ _ => rfl, fun _ _ _ => rfl, rfl⟩
theorem FrT2.tr {u : Nat} {a b c : SC} (h : FrT2 u a b) (h' : FrT2 u b c) : FrT2 u a c := ⟨fun o ho => (h'.1 o ho).trans (h.1 o ho), fun o h1 h2 => (h'.2.1 o h1 h2).trans (h.2.1 o h1 h2), h'.2.2.trans h.2.2⟩
theorem FrO.t2 {u lo hi : Nat} {a b : SC} (h : FrO lo hi a b) (h1 : u < lo) (h2 : hi ≤ u + 18) (h3 : hi < u + 8 ∨ u + 12 < lo) : FrT2 u a b := ⟨fun o ho => h o (by omega), fun o g1 g2 => h o (by omega), by rw [h u (by omega)]⟩
theorem DdC.fr {c c' a a' : SC} {u : Nat} (h : DdC c a u) (h6 : a' u 6 = a u 6) (h13 : a' (u + 13) = a (u + 13)) (e8 : c' 8 = c 8) (e9 : c' 9 = c 9) : DdC c' a' u := by
  unfold DdC at *
  rw [h6, h13, e8, e9]
  exact h
theorem deedS_n {c : SC} {p o w r t : Nat} (h : t ≠ 8) (h9 : t ≠ 9) : deedS c p o w r t = c t := by
  unfold deedS
  rw [updC_row h9, updC_row h, updC_row h, updC_row h, updC_row h, updC_row h, updC_row h]
theorem deedS_8 {c : SC} {p o w r : Nat} (i : Nat) : deedS c p o w r 8 i = if i = 6 * (c 9 0).toNat + 5 then (r : Int) else if i = 6 * (c 9 0).toNat + 4 then c 0 p else if i = 6 * (c 9 0).toNat + 3 then c 5 0 else if i = 6 * (c 9 0).toNat + 2 then (w : Int) else if i = 6 * (c 9 0).toNat + 1 then (o : Int) else if i = 6 * (c 9 0).toNat then (p : Int) else c 8 i := by
  unfold deedS
  rw [updC_row (o := 9) (o' := 8) (by omega), updC_if, updC_if, updC_if, updC_if, updC_if, updC_if]
/-- what a rule leaves of the deeds -/
theorem doesS_89 {S : STY} {c c2 : SC} {r p : Nat} (hp : S.1 12 r = (p : Int)) (hk4 : S.1 11 r ≠ 4) (hd : doesS S c r = some c2) (h5 : S.1 11 r ≠ 5) (hk : 0 ≤ S.1 11 r ∧ S.1 11 r ≤ 5) : c2 8 = c 8 ∧ c2 9 = c 9 := by
  rw [doesS_at hp] at hd
  split at hd
  · split at hd
    · cases hd
    · cases hd
      exact ⟨rfl, rfl⟩
  · split at hd
    · split at hd
      · cases hd
        exact ⟨by rw [leavS_n (by omega) (by omega)]; rfl, by rw [leavS_n (by omega) (by omega)]; rfl⟩
      · cases hd
    · split at hd
      · split at hd
        · cases hd
          exact ⟨by rw [leavS_n (by omega) (by omega)]; rfl, by rw [leavS_n (by omega) (by omega)]; rfl⟩
        · cases hd
      · split at hd
        · split at hd
          · cases hd
            exact ⟨wipS_n (by omega), wipS_n (by omega)⟩
          · cases hd
        · exfalso; omega
theorem c_forget {X : List Int} {d : Nat} {st dr rd : Int} {a s b : C3} {u : Nat} (hu : huS u) : Ev X (d + 2) 62 0 [Vr (u : Int)] [] (SHv st dr rd, ovl a s b) (fun rr hh => rr = none ∧ ∃ a' : C3, hh = (SHv st dr rd, ovl a' s b) ∧ FrO u (u + 15) a a' ∧ FrO (u + 14) (u + 15) (updC (updC a u 7 0) u 6 0) a' ∧ a' u 7 = 0 ∧ a' u 6 = 0 ∧ (u = 119 → a' 133 5 = 0 ∧ a' 133 0 = a 133 0 ∧ ∀ j, j < 1440 → a' 134 j = -1) ∧ (u = 142 → a' 156 0 = a 156 0)) := by
  have hu0 : u = 119 ∨ u = 142 := hu
  refine Ev.steps (k := 2) (pc' := 2) (L' := [Vr (u : Int)]) (S' := [Vi 0, Vr (u : Int)]) (h' := ((SHv st dr rd), (ovl a s b))) (fun _ => rfl) ?_
  refine Ev.putf (c' := (ovl (updC a u 7 0) s b)) rfl (by omega) (shU_0 hu) rfl rfl (ovl_wc (by omega)) ?_
  refine Ev.steps (k := 2) (pc' := 7) (L' := [Vr (u : Int)]) (S' := [Vi 0, Vr (u : Int)]) (h' := ((SHv st dr rd), (ovl (updC a u 7 0) s b))) (fun _ => rfl) ?_
  refine Ev.putf (c' := (ovl (updC (updC a u 7 0) u 6 0) s b)) rfl (by omega) (shU_0 hu) rfl rfl (ovl_wc (by omega)) ?_
  refine Ev.steps (k := 1) (pc' := 11) (L' := [Vr (u : Int)]) (S' := [Vr (u : Int)]) (h' := ((SHv st dr rd), (ovl (updC (updC a u 7 0) u 6 0) s b))) (fun _ => rfl) ?_
  refine Ev.getr (r := ((u : Int) + 14)) rfl rfl (by omega) (shU_0 hu) rfl rfl rfl ?_
  refine Ev.call (k := 0) (pc1 := 14) (L1 := [Vr (u : Int)]) (S1 := [Vr ((u : Int) + 14)]) (h1 := ((SHv st dr rd), (ovl (updC (updC a u 7 0) u 6 0) s b))) (m' := 63) (as := [Vr ((u : Int) + 14)]) (S' := []) (L0 := [Vr ((u : Int) + 14)]) (fun _ => rfl) rfl rfl rfl rfl (stpC_of rfl (pm_recv_of (by omega) (shU_14 hu))) rfl (c_dBegin hu) (fun r h' hq => ?_)
  obtain ⟨rfl, a2, rfl, g1, g2, g3⟩ := hq
  show Ev X _ _ 17 [Vr (u : Int)] [] ((SHv st dr rd), (ovl a2 s b)) _
  refine Ev.fin (k := 1) (r := none) (h' := ((SHv st dr rd), (ovl a2 s b))) (fun _ => rfl) ?_
  refine ⟨rfl, a2, rfl, ((FrO.rf.up (by omega)).up (by omega)).tr (g1.wd (by omega) (by omega)), g1, ?_, ?_, fun h => ?_, fun h => ?_⟩
  · rw [g1 u (by omega), updC_nt (by omega), updC_sm]
  · rw [g1 u (by omega), updC_sm]
  · have := g2 h
    rw [updC_row (by omega), updC_row (by omega)] at this
    exact this
  · rw [g3 h, updC_row (by omega), updC_row (by omega)]
theorem c_eNoteDone {X : List Int} {d : Nat} {st dr rd : Int} {a s b : C3} {u : Nat} (hu : huS u) {y : Nat} (hy : hyS y) {S : STY} {E c c2 : SC} (hC : RsC S c2 a u) (hWY : WfY S) (hWC : WfC S c) (hWC2 : WfC S c2) (r : Nat) (hr : r < nL S) (hRu : RuC S a y r) (hk4 : S.1 11 r ≠ 4) (hd : doesS S c r = some c2) (h71 : c 7 0 < 1440) (m p : Nat) (hm : m < 180) (hm5 : c 5 0 = (m : Int)) (h25 : c2 5 0 = (m : Int)) (hp : S.1 12 r = (p : Int)) (hD : DyU S E a u c m p) (hh : hdnS S E m p = (r : Int)) (hDd : DdC c a u) (hk9 : c 9 0 < 8) (h20 : S.1 11 r = 5 → c2 0 p = c 0 p) : Ev X (d + 2) 98 0 [Vr (u : Int), Vr ((y + 14 + r : Nat) : Int), Vi (r : Int), Vx] [] (SHv st dr rd, ovl a s b) (fun rr hh => rr = none ∧ ∃ a' : C3, hh = (SHv st dr rd, ovl a' s b) ∧ FrT2 u a a' ∧ RsC S c2 a' u ∧ DyU S E a' u c2 m (p + 1) ∧ DdC c2 a' u) := by
  have hu0 : u = 119 ∨ u = 142 := hu
  have hy0 : y = 2 ∨ y = 58 := hy
  have hW8 := hWY.2.2.1.1
  have hL30 := hWY.2.2.2.2.1.1
  have hwr := hWY.2.2.2.2.2.2.2.2.2.2.2 r hr
  have hpW : p < nW S := by have := hwr.2.1; omega
  have k9 := hWC.2.2.2.2.2.2.2
  obtain ⟨n9, hn9⟩ : ∃ n9 : Nat, c 9 0 = (n9 : Int) := ⟨(c 9 0).toNat, by omega⟩
  refine Ev.steps (k := 1) (pc' := 1) (L' := [Vr (u : Int), Vr ((y + 14 + r : Nat) : Int), Vi (r : Int), Vx]) (S' := [Vr (u : Int)]) (h' := ((SHv st dr rd), (ovl a s b))) (fun _ => rfl) ?_
  refine Ev.getr (r := ((u : Int) + 14)) rfl rfl (by omega) (shU_0 hu) rfl rfl rfl ?_
  refine Ev.steps (k := 1) (pc' := 5) (L' := [Vr (u : Int), Vr ((y + 14 + r : Nat) : Int), Vi (r : Int), Vx]) (S' := [Vr (u : Int), Vr ((u : Int) + 14)]) (h' := ((SHv st dr rd), (ovl a s b))) (fun _ => rfl) ?_
  refine Ev.getr (r := ((u : Int) + 1)) rfl rfl (by omega) (shU_0 hu) rfl rfl rfl ?_
  refine Ev.call (k := 2) (pc1 := 10) (L1 := [Vr (u : Int), Vr ((y + 14 + r : Nat) : Int), Vi (r : Int), Vx]) (S1 := [Vi (r : Int), Vr ((y + 14 + r : Nat) : Int), Vr ((u : Int) + 1), Vr ((u : Int) + 14)]) (h1 := ((SHv st dr rd), (ovl a s b))) (m' := 99) (as := [Vr ((u : Int) + 14), Vr ((u : Int) + 1), Vr ((y + 14 + r : Nat) : Int), Vi (r : Int)]) (S' := []) (L0 := [Vr ((u : Int) + 14), Vr ((u : Int) + 1), Vr ((y + 14 + r : Nat) : Int), Vi (r : Int), Vx]) (fun _ => rfl) rfl rfl rfl rfl (stpC_of rfl (pm_recv_of (by omega) (shU_14 hu))) rfl (c_dNoteDone hu hy hC hWY hWC hWC2 r hr hRu hk4 hd h71 m p hm hm5 h25 hp hD hh) (fun r h' hq => ?_)
  obtain ⟨rfl, a2, rfl, g1, g2⟩ := hq
  have hRu2 : RuC S a2 y r := by
    unfold RuC at hRu ⊢
    rw [g1 (y + 14 + r) (by omega), g1 (y + 11) (by omega)]
    exact hRu
  obtain ⟨v1, v2, v3, v4, -⟩ := hRu2
  rw [hp] at v2
  have hC2 : RsC S c2 a2 u := hC.fr (fun o g2 g3 => g1 o (by omega))
  have e6 : a2 u 6 = (n9 : Int) := by rw [g1 u (by omega), hDd.1]; exact hn9
  have em : a2 (u + 1) 6 = (m : Int) := by rw [hC2.2.2.2.2.2.2.2.2.1]; exact h25
  have er : a2 (u + 2) p = c2 0 p := hC2.1 p hpW
  have hr8 := hC2.2.1 p (by omega)
  show Ev X _ _ 13 [Vr (u : Int), Vr ((y + 14 + r : Nat) : Int), Vi (r : Int), Vx] [] ((SHv st dr rd), (ovl a2 s b)) _
  refine Ev.steps (k := 1) (pc' := 14) (L' := [Vr (u : Int), Vr ((y + 14 + r : Nat) : Int), Vi (r : Int), Vx]) (S' := [Vr ((y + 14 + r : Nat) : Int)]) (h' := ((SHv st dr rd), (ovl a2 s b))) (fun _ => rfl) ?_
  refine Ev.getf (v := (S.1 11 r + 262)) rfl rfl (by omega) (shRu hy (by omega)) rfl rfl ((ovl_rc (by omega)).trans (v1)) ?_
  refine Ev.ite (P := (S.1 11 r + 262) ≠ 267) (k := 2) (a := 128) (b := 23) (L' := [Vr (u : Int), Vr ((y + 14 + r : Nat) : Int), Vi (r : Int), Vx]) (S' := []) (h' := ((SHv st dr rd), (ovl a2 s b))) (fun _ => rfl) (fun b20 => ?_) (fun b20 => ?_)
  · refine Ev.fin (k := 1) (r := none) (h' := ((SHv st dr rd), (ovl a2 s b))) (fun _ => rfl) ?_
    first
      | (have h5 : S.1 11 r ≠ 5 := by omega
         obtain ⟨e8, e9⟩ := doesS_89 hp hk4 hd h5 hwr.1
         exact ⟨rfl, a2, rfl, g1.t2 (by omega) (by omega) (by omega), hC2, g2, hDd.fr (by rw [g1 u (by omega)]) (g1 (u + 13) (by omega)) e8 e9⟩)
      | (have h5 : S.1 11 r = 5 := by omega
         have hw5 := hwr.2.2.2.2.1 h5
         obtain ⟨v5, v6⟩ := v4 h5
         have hds := doesS_at (c := c) hp
         rw [hd, if_neg (by omega), if_neg (by omega), if_neg (by omega), if_neg (by omega)] at hds
         have hc2 : c2 = leavS (deedS (dropS (nT S) (updC c 1 (S.1 13 r).toNat 0) (S.1 13 r).toNat) p (S.1 13 r).toNat (S.1 14 r).toNat r) 3 (S.1 14 r) p := by
           split at hds
           · exact Option.some.inj hds
           · cases hds
         have x9 : (dropS (nT S) (updC c 1 (S.1 13 r).toNat 0) (S.1 13 r).toNat) 9 = c 9 := dropS_r (by omega)
         have x8 : (dropS (nT S) (updC c 1 (S.1 13 r).toNat 0) (S.1 13 r).toNat) 8 = c 8 := dropS_r (by omega)
         have x5 : (dropS (nT S) (updC c 1 (S.1 13 r).toNat 0) (S.1 13 r).toNat) 5 = c 5 := dropS_r (by omega)
         have x0 : (dropS (nT S) (updC c 1 (S.1 13 r).toNat 0) (S.1 13 r).toNat) 0 = c 0 := dropS_r (by omega)
         have h29 : c2 9 0 = (n9 : Int) + 1 := by
           rw [hc2, leavS_n (by omega) (by omega), deedS_9, x9, hn9]
         have h28 := fun i => (show c2 8 i = deedS (dropS (nT S) (updC c 1 (S.1 13 r).toNat 0) (S.1 13 r).toNat) p (S.1 13 r).toNat (S.1 14 r).toNat r 8 i by rw [hc2, leavS_n (by omega) (by omega)]).trans (deedS_8 i)
         rw [x9, x8, x5, x0, hn9, Int.toNat_natCast] at h28
         refine ⟨rfl, _, rfl, ?_, ?_, ?_, ?_, ?_⟩
         · refine ⟨fun o ho => ?_, fun o g3 g4 => ?_, ?_⟩
           · rw [updC_row (by omega), updC_row (by omega), updC_row (by omega), updC_row (by omega), updC_row (by omega), updC_row (by omega), updC_row (by omega), g1 o (by omega)]
           · rw [updC_row (by omega), updC_row (by omega), updC_row (by omega), updC_row (by omega), updC_row (by omega), updC_row (by omega), updC_row (by omega), g1 o (by omega)]
           · rw [updC_nt (by omega), updC_row (by omega), updC_row (by omega), updC_row (by omega), updC_row (by omega), updC_row (by omega), updC_row (by omega), g1 u (by omega)]
         · exact hC2.fr (fun o g3 g4 => by rw [updC_row (by omega), updC_row (by omega), updC_row (by omega), updC_row (by omega), updC_row (by omega), updC_row (by omega), updC_row (by omega)])
         · exact g2.fr (fun o g3 g4 => by rw [updC_row (by omega), updC_row (by omega), updC_row (by omega), updC_row (by omega), updC_row (by omega), updC_row (by omega), updC_row (by omega)]) rfl rfl
         · rw [updC_sm, h29]
         · intro i hi
           rw [h29] at hi
           rw [updC_row (by omega), updC_if, updC_if, updC_if, updC_if, updC_if, updC_if, h28 i, g1 (u + 13) (by omega), hm5, ← h20 h5]
           by_cases i5 : i = 6 * n9 + 5
           · rw [if_pos i5, if_pos i5]
           rw [if_neg i5, if_neg i5]
           by_cases i4 : i = 6 * n9 + 4
           · rw [if_pos i4, if_pos i4]
           rw [if_neg i4, if_neg i4]
           by_cases i3 : i = 6 * n9 + 3
           · rw [if_pos i3, if_pos i3]
           rw [if_neg i3, if_neg i3]
           by_cases i2 : i = 6 * n9 + 2
           · rw [if_pos i2, if_pos i2, v6]; omega
           rw [if_neg i2, if_neg i2]
           by_cases i1 : i = 6 * n9 + 1
           · rw [if_pos i1, if_pos i1, v5]; omega
           rw [if_neg i1, if_neg i1]
           by_cases i0 : i = 6 * n9
           · rw [if_pos i0, if_pos i0]
           rw [if_neg i0, if_neg i0]
           exact hDd.2 i (by omega))
  · refine Ev.steps (k := 1) (pc' := 24) (L' := [Vr (u : Int), Vr ((y + 14 + r : Nat) : Int), Vi (r : Int), Vx]) (S' := [Vr (u : Int)]) (h' := ((SHv st dr rd), (ovl a2 s b))) (fun _ => rfl) ?_
    refine Ev.getf (v := (n9 : Int)) rfl rfl (by omega) (shU_0 hu) rfl rfl ((ovl_rc (by omega)).trans (e6)) ?_
    refine Ev.ite (P := 8 ≤ (n9 : Int)) (k := 2) (a := 128) (b := 32) (L' := [Vr (u : Int), Vr ((y + 14 + r : Nat) : Int), Vi (r : Int), Vx]) (S' := []) (h' := ((SHv st dr rd), (ovl a2 s b))) (fun _ => rfl) (fun b29 => ?_) (fun b29 => ?_)
    · exfalso; omega
    · refine Ev.steps (k := 1) (pc' := 33) (L' := [Vr (u : Int), Vr ((y + 14 + r : Nat) : Int), Vi (r : Int), Vx]) (S' := [Vr (u : Int)]) (h' := ((SHv st dr rd), (ovl a2 s b))) (fun _ => rfl) ?_
      refine Ev.getf (v := (n9 : Int)) rfl rfl (by omega) (shU_0 hu) rfl rfl ((ovl_rc (by omega)).trans (e6)) ?_
      refine Ev.steps (k := 2) (pc' := 39) (L' := [Vr (u : Int), Vr ((y + 14 + r : Nat) : Int), Vi (r : Int), Vx]) (S' := [Vi (w32 ((n9 : Int) * 6))]) (h' := ((SHv st dr rd), (ovl a2 s b))) (fun _ => rfl) ?_
      rw [show (w32 ((n9 : Int) * 6)) = ((6 * n9 : Nat) : Int) from (by unfold w32; omega)]
      refine Ev.steps (k := 2) (pc' := 41) (L' := [Vr (u : Int), Vr ((y + 14 + r : Nat) : Int), Vi (r : Int), Vi ((6 * n9 : Nat) : Int)]) (S' := [Vr (u : Int)]) (h' := ((SHv st dr rd), (ovl a2 s b))) (fun _ => rfl) ?_
      refine Ev.getr (r := ((u : Int) + 13)) rfl rfl (by omega) (shU_0 hu) rfl rfl rfl ?_
      refine Ev.steps (k := 2) (pc' := 46) (L' := [Vr (u : Int), Vr ((y + 14 + r : Nat) : Int), Vi (r : Int), Vi ((6 * n9 : Nat) : Int)]) (S' := [Vr ((y + 14 + r : Nat) : Int), Vi ((6 * n9 : Nat) : Int), Vr ((u : Int) + 13)]) (h' := ((SHv st dr rd), (ovl a2 s b))) (fun _ => rfl) ?_
      refine Ev.getf (v := (p : Int)) rfl rfl (by omega) (shRu hy (by omega)) rfl rfl ((ovl_rc (by omega)).trans (v2)) ?_
      refine Ev.iast (c' := (ovl (updC a2 (u + 13) ((6 * n9)) (p : Int)) s b)) rfl (by omega) (shU_13 hu) (by omega) (by omega) (ovl_wc (by omega)) ?_
      refine Ev.steps (k := 1) (pc' := 51) (L' := [Vr (u : Int), Vr ((y + 14 + r : Nat) : Int), Vi (r : Int), Vi ((6 * n9 : Nat) : Int)]) (S' := [Vr (u : Int)]) (h' := ((SHv st dr rd), (ovl (updC a2 (u + 13) ((6 * n9)) (p : Int)) s b))) (fun _ => rfl) ?_
      refine Ev.getr (r := ((u : Int) + 13)) rfl rfl (by omega) (shU_0 hu) rfl rfl rfl ?_
      refine Ev.steps (k := 3) (pc' := 57) (L' := [Vr (u : Int), Vr ((y + 14 + r : Nat) : Int), Vi (r : Int), Vi ((6 * n9 : Nat) : Int)]) (S' := [Vi (w32 (((6 * n9 : Nat) : Int) + 1)), Vr ((u : Int) + 13)]) (h' := ((SHv st dr rd), (ovl (updC a2 (u + 13) ((6 * n9)) (p : Int)) s b))) (fun _ => rfl) ?_
      rw [show (w32 (((6 * n9 : Nat) : Int) + 1)) = ((6 * n9 + 1 : Nat) : Int) from (by unfold w32; omega)]
      refine Ev.steps (k := 1) (pc' := 58) (L' := [Vr (u : Int), Vr ((y + 14 + r : Nat) : Int), Vi (r : Int), Vi ((6 * n9 : Nat) : Int)]) (S' := [Vr ((y + 14 + r : Nat) : Int), Vi ((6 * n9 + 1 : Nat) : Int), Vr ((u : Int) + 13)]) (h' := ((SHv st dr rd), (ovl (updC a2 (u + 13) ((6 * n9)) (p : Int)) s b))) (fun _ => rfl) ?_
      refine Ev.getf (v := (a2 (y + 14 + r) 3)) rfl rfl (by omega) (shRu hy (by omega)) rfl rfl ((ovl_rc (by omega)).trans (by show (updC a2 (u + 13) ((6 * n9)) (p : Int)) (y + 14 + r) 3 = _; rw [updC_nt (by omega)])) ?_
      refine Ev.iast (c' := (ovl (updC (updC a2 (u + 13) ((6 * n9)) (p : Int)) (u + 13) ((6 * n9 + 1)) (a2 (y + 14 + r) 3)) s b)) rfl (by omega) (shU_13 hu) (by omega) (by omega) (ovl_wc (by omega)) ?_
      refine Ev.steps (k := 1) (pc' := 63) (L' := [Vr (u : Int), Vr ((y + 14 + r : Nat) : Int), Vi (r : Int), Vi ((6 * n9 : Nat) : Int)]) (S' := [Vr (u : Int)]) (h' := ((SHv st dr rd), (ovl (updC (updC a2 (u + 13) ((6 * n9)) (p : Int)) (u + 13) ((6 * n9 + 1)) (a2 (y + 14 + r) 3)) s b))) (fun _ => rfl) ?_
      refine Ev.getr (r := ((u : Int) + 13)) rfl rfl (by omega) (shU_0 hu) rfl rfl rfl ?_
      refine Ev.steps (k := 3) (pc' := 69) (L' := [Vr (u : Int), Vr ((y + 14 + r : Nat) : Int), Vi (r : Int), Vi ((6 * n9 : Nat) : Int)]) (S' := [Vi (w32 (((6 * n9 : Nat) : Int) + 2)), Vr ((u : Int) + 13)]) (h' := ((SHv st dr rd), (ovl (updC (updC a2 (u + 13) ((6 * n9)) (p : Int)) (u + 13) ((6 * n9 + 1)) (a2 (y + 14 + r) 3)) s b))) (fun _ => rfl) ?_
      rw [show (w32 (((6 * n9 : Nat) : Int) + 2)) = ((6 * n9 + 2 : Nat) : Int) from (by unfold w32; omega)]
      refine Ev.steps (k := 1) (pc' := 70) (L' := [Vr (u : Int), Vr ((y + 14 + r : Nat) : Int), Vi (r : Int), Vi ((6 * n9 : Nat) : Int)]) (S' := [Vr ((y + 14 + r : Nat) : Int), Vi ((6 * n9 + 2 : Nat) : Int), Vr ((u : Int) + 13)]) (h' := ((SHv st dr rd), (ovl (updC (updC a2 (u + 13) ((6 * n9)) (p : Int)) (u + 13) ((6 * n9 + 1)) (a2 (y + 14 + r) 3)) s b))) (fun _ => rfl) ?_
      refine Ev.getf (v := (a2 (y + 14 + r) 2)) rfl rfl (by omega) (shRu hy (by omega)) rfl rfl ((ovl_rc (by omega)).trans (by show (updC (updC a2 (u + 13) ((6 * n9)) (p : Int)) (u + 13) ((6 * n9 + 1)) (a2 (y + 14 + r) 3)) (y + 14 + r) 2 = _; rw [updC_nt (by omega), updC_nt (by omega)])) ?_
      refine Ev.iast (c' := (ovl (updC (updC (updC a2 (u + 13) ((6 * n9)) (p : Int)) (u + 13) ((6 * n9 + 1)) (a2 (y + 14 + r) 3)) (u + 13) ((6 * n9 + 2)) (a2 (y + 14 + r) 2)) s b)) rfl (by omega) (shU_13 hu) (by omega) (by omega) (ovl_wc (by omega)) ?_
      refine Ev.steps (k := 1) (pc' := 75) (L' := [Vr (u : Int), Vr ((y + 14 + r : Nat) : Int), Vi (r : Int), Vi ((6 * n9 : Nat) : Int)]) (S' := [Vr (u : Int)]) (h' := ((SHv st dr rd), (ovl (updC (updC (updC a2 (u + 13) ((6 * n9)) (p : Int)) (u + 13) ((6 * n9 + 1)) (a2 (y + 14 + r) 3)) (u + 13) ((6 * n9 + 2)) (a2 (y + 14 + r) 2)) s b))) (fun _ => rfl) ?_
      refine Ev.getr (r := ((u : Int) + 13)) rfl rfl (by omega) (shU_0 hu) rfl rfl rfl ?_
      refine Ev.steps (k := 3) (pc' := 81) (L' := [Vr (u : Int), Vr ((y + 14 + r : Nat) : Int), Vi (r : Int), Vi ((6 * n9 : Nat) : Int)]) (S' := [Vi (w32 (((6 * n9 : Nat) : Int) + 3)), Vr ((u : Int) + 13)]) (h' := ((SHv st dr rd), (ovl (updC (updC (updC a2 (u + 13) ((6 * n9)) (p : Int)) (u + 13) ((6 * n9 + 1)) (a2 (y + 14 + r) 3)) (u + 13) ((6 * n9 + 2)) (a2 (y + 14 + r) 2)) s b))) (fun _ => rfl) ?_
      rw [show (w32 (((6 * n9 : Nat) : Int) + 3)) = ((6 * n9 + 3 : Nat) : Int) from (by unfold w32; omega)]
      refine Ev.steps (k := 1) (pc' := 82) (L' := [Vr (u : Int), Vr ((y + 14 + r : Nat) : Int), Vi (r : Int), Vi ((6 * n9 : Nat) : Int)]) (S' := [Vr (u : Int), Vi ((6 * n9 + 3 : Nat) : Int), Vr ((u : Int) + 13)]) (h' := ((SHv st dr rd), (ovl (updC (updC (updC a2 (u + 13) ((6 * n9)) (p : Int)) (u + 13) ((6 * n9 + 1)) (a2 (y + 14 + r) 3)) (u + 13) ((6 * n9 + 2)) (a2 (y + 14 + r) 2)) s b))) (fun _ => rfl) ?_
      refine Ev.getr (r := ((u : Int) + 1)) rfl rfl (by omega) (shU_0 hu) rfl rfl rfl ?_
      refine Ev.getf (v := (m : Int)) rfl rfl (by omega) (shU_1 hu) rfl rfl (((ovl_rc (by omega)).trans (by show (updC (updC (updC a2 (u + 13) ((6 * n9)) (p : Int)) (u + 13) ((6 * n9 + 1)) (a2 (y + 14 + r) 3)) (u + 13) ((6 * n9 + 2)) (a2 (y + 14 + r) 2)) (u + 1) 6 = _; rw [updC_nt (by omega), updC_nt (by omega), updC_nt (by omega)])).trans (em)) ?_
      refine Ev.iast (c' := (ovl (updC (updC (updC (updC a2 (u + 13) ((6 * n9)) (p : Int)) (u + 13) ((6 * n9 + 1)) (a2 (y + 14 + r) 3)) (u + 13) ((6 * n9 + 2)) (a2 (y + 14 + r) 2)) (u + 13) ((6 * n9 + 3)) (m : Int)) s b)) rfl (by omega) (shU_13 hu) (by omega) (by omega) (ovl_wc (by omega)) ?_
      refine Ev.steps (k := 1) (pc' := 90) (L' := [Vr (u : Int), Vr ((y + 14 + r : Nat) : Int), Vi (r : Int), Vi ((6 * n9 : Nat) : Int)]) (S' := [Vr (u : Int)]) (h' := ((SHv st dr rd), (ovl (updC (updC (updC (updC a2 (u + 13) ((6 * n9)) (p : Int)) (u + 13) ((6 * n9 + 1)) (a2 (y + 14 + r) 3)) (u + 13) ((6 * n9 + 2)) (a2 (y + 14 + r) 2)) (u + 13) ((6 * n9 + 3)) (m : Int)) s b))) (fun _ => rfl) ?_
      refine Ev.getr (r := ((u : Int) + 13)) rfl rfl (by omega) (shU_0 hu) rfl rfl rfl ?_
      refine Ev.steps (k := 3) (pc' := 96) (L' := [Vr (u : Int), Vr ((y + 14 + r : Nat) : Int), Vi (r : Int), Vi ((6 * n9 : Nat) : Int)]) (S' := [Vi (w32 (((6 * n9 : Nat) : Int) + 4)), Vr ((u : Int) + 13)]) (h' := ((SHv st dr rd), (ovl (updC (updC (updC (updC a2 (u + 13) ((6 * n9)) (p : Int)) (u + 13) ((6 * n9 + 1)) (a2 (y + 14 + r) 3)) (u + 13) ((6 * n9 + 2)) (a2 (y + 14 + r) 2)) (u + 13) ((6 * n9 + 3)) (m : Int)) s b))) (fun _ => rfl) ?_
      rw [show (w32 (((6 * n9 : Nat) : Int) + 4)) = ((6 * n9 + 4 : Nat) : Int) from (by unfold w32; omega)]
      refine Ev.steps (k := 1) (pc' := 97) (L' := [Vr (u : Int), Vr ((y + 14 + r : Nat) : Int), Vi (r : Int), Vi ((6 * n9 : Nat) : Int)]) (S' := [Vr (u : Int), Vi ((6 * n9 + 4 : Nat) : Int), Vr ((u : Int) + 13)]) (h' := ((SHv st dr rd), (ovl (updC (updC (updC (updC a2 (u + 13) ((6 * n9)) (p : Int)) (u + 13) ((6 * n9 + 1)) (a2 (y + 14 + r) 3)) (u + 13) ((6 * n9 + 2)) (a2 (y + 14 + r) 2)) (u + 13) ((6 * n9 + 3)) (m : Int)) s b))) (fun _ => rfl) ?_
      refine Ev.getr (r := ((u : Int) + 1)) rfl rfl (by omega) (shU_0 hu) rfl rfl rfl ?_
      refine Ev.getr (r := ((u : Int) + 2)) rfl rfl (by omega) (shU_1 hu) rfl rfl rfl ?_
      refine Ev.steps (k := 1) (pc' := 104) (L' := [Vr (u : Int), Vr ((y + 14 + r : Nat) : Int), Vi (r : Int), Vi ((6 * n9 : Nat) : Int)]) (S' := [Vr ((y + 14 + r : Nat) : Int), Vr ((u : Int) + 2), Vi ((6 * n9 + 4 : Nat) : Int), Vr ((u : Int) + 13)]) (h' := ((SHv st dr rd), (ovl (updC (updC (updC (updC a2 (u + 13) ((6 * n9)) (p : Int)) (u + 13) ((6 * n9 + 1)) (a2 (y + 14 + r) 3)) (u + 13) ((6 * n9 + 2)) (a2 (y + 14 + r) 2)) (u + 13) ((6 * n9 + 3)) (m : Int)) s b))) (fun _ => rfl) ?_
      refine Ev.getf (v := (p : Int)) rfl rfl (by omega) (shRu hy (by omega)) rfl rfl (((ovl_rc (by omega)).trans (by show (updC (updC (updC (updC a2 (u + 13) ((6 * n9)) (p : Int)) (u + 13) ((6 * n9 + 1)) (a2 (y + 14 + r) 3)) (u + 13) ((6 * n9 + 2)) (a2 (y + 14 + r) 2)) (u + 13) ((6 * n9 + 3)) (m : Int)) (y + 14 + r) 1 = _; rw [updC_nt (by omega), updC_nt (by omega), updC_nt (by omega), updC_nt (by omega)])).trans (v2)) ?_
      refine Ev.iald (v := (c2 0 p)) rfl (by omega) (shU_2 hu) (by omega) (by omega) (((ovl_rc (by omega)).trans (by show (updC (updC (updC (updC a2 (u + 13) ((6 * n9)) (p : Int)) (u + 13) ((6 * n9 + 1)) (a2 (y + 14 + r) 3)) (u + 13) ((6 * n9 + 2)) (a2 (y + 14 + r) 2)) (u + 13) ((6 * n9 + 3)) (m : Int)) (u + 2) p = _; rw [updC_nt (by omega), updC_nt (by omega), updC_nt (by omega), updC_nt (by omega)])).trans (er)) ?_
      refine Ev.iast (c' := (ovl (updC (updC (updC (updC (updC a2 (u + 13) ((6 * n9)) (p : Int)) (u + 13) ((6 * n9 + 1)) (a2 (y + 14 + r) 3)) (u + 13) ((6 * n9 + 2)) (a2 (y + 14 + r) 2)) (u + 13) ((6 * n9 + 3)) (m : Int)) (u + 13) ((6 * n9 + 4)) (c2 0 p)) s b)) rfl (by omega) (shU_13 hu) (by omega) (by omega) (ovl_wc (by omega)) ?_
      refine Ev.steps (k := 1) (pc' := 110) (L' := [Vr (u : Int), Vr ((y + 14 + r : Nat) : Int), Vi (r : Int), Vi ((6 * n9 : Nat) : Int)]) (S' := [Vr (u : Int)]) (h' := ((SHv st dr rd), (ovl (updC (updC (updC (updC (updC a2 (u + 13) ((6 * n9)) (p : Int)) (u + 13) ((6 * n9 + 1)) (a2 (y + 14 + r) 3)) (u + 13) ((6 * n9 + 2)) (a2 (y + 14 + r) 2)) (u + 13) ((6 * n9 + 3)) (m : Int)) (u + 13) ((6 * n9 + 4)) (c2 0 p)) s b))) (fun _ => rfl) ?_
      refine Ev.getr (r := ((u : Int) + 13)) rfl rfl (by omega) (shU_0 hu) rfl rfl rfl ?_
      refine Ev.steps (k := 3) (pc' := 116) (L' := [Vr (u : Int), Vr ((y + 14 + r : Nat) : Int), Vi (r : Int), Vi ((6 * n9 : Nat) : Int)]) (S' := [Vi (w32 (((6 * n9 : Nat) : Int) + 5)), Vr ((u : Int) + 13)]) (h' := ((SHv st dr rd), (ovl (updC (updC (updC (updC (updC a2 (u + 13) ((6 * n9)) (p : Int)) (u + 13) ((6 * n9 + 1)) (a2 (y + 14 + r) 3)) (u + 13) ((6 * n9 + 2)) (a2 (y + 14 + r) 2)) (u + 13) ((6 * n9 + 3)) (m : Int)) (u + 13) ((6 * n9 + 4)) (c2 0 p)) s b))) (fun _ => rfl) ?_
      rw [show (w32 (((6 * n9 : Nat) : Int) + 5)) = ((6 * n9 + 5 : Nat) : Int) from (by unfold w32; omega)]
      refine Ev.steps (k := 1) (pc' := 117) (L' := [Vr (u : Int), Vr ((y + 14 + r : Nat) : Int), Vi (r : Int), Vi ((6 * n9 : Nat) : Int)]) (S' := [Vi (r : Int), Vi ((6 * n9 + 5 : Nat) : Int), Vr ((u : Int) + 13)]) (h' := ((SHv st dr rd), (ovl (updC (updC (updC (updC (updC a2 (u + 13) ((6 * n9)) (p : Int)) (u + 13) ((6 * n9 + 1)) (a2 (y + 14 + r) 3)) (u + 13) ((6 * n9 + 2)) (a2 (y + 14 + r) 2)) (u + 13) ((6 * n9 + 3)) (m : Int)) (u + 13) ((6 * n9 + 4)) (c2 0 p)) s b))) (fun _ => rfl) ?_
      refine Ev.iast (c' := (ovl (updC (updC (updC (updC (updC (updC a2 (u + 13) ((6 * n9)) (p : Int)) (u + 13) ((6 * n9 + 1)) (a2 (y + 14 + r) 3)) (u + 13) ((6 * n9 + 2)) (a2 (y + 14 + r) 2)) (u + 13) ((6 * n9 + 3)) (m : Int)) (u + 13) ((6 * n9 + 4)) (c2 0 p)) (u + 13) ((6 * n9 + 5)) (r : Int)) s b)) rfl (by omega) (shU_13 hu) (by omega) (by omega) (ovl_wc (by omega)) ?_
      refine Ev.steps (k := 2) (pc' := 120) (L' := [Vr (u : Int), Vr ((y + 14 + r : Nat) : Int), Vi (r : Int), Vi ((6 * n9 : Nat) : Int)]) (S' := [Vr (u : Int), Vr (u : Int)]) (h' := ((SHv st dr rd), (ovl (updC (updC (updC (updC (updC (updC a2 (u + 13) ((6 * n9)) (p : Int)) (u + 13) ((6 * n9 + 1)) (a2 (y + 14 + r) 3)) (u + 13) ((6 * n9 + 2)) (a2 (y + 14 + r) 2)) (u + 13) ((6 * n9 + 3)) (m : Int)) (u + 13) ((6 * n9 + 4)) (c2 0 p)) (u + 13) ((6 * n9 + 5)) (r : Int)) s b))) (fun _ => rfl) ?_
      refine Ev.getf (v := (n9 : Int)) rfl rfl (by omega) (shU_0 hu) rfl rfl (((ovl_rc (by omega)).trans (by show (updC (updC (updC (updC (updC (updC a2 (u + 13) ((6 * n9)) (p : Int)) (u + 13) ((6 * n9 + 1)) (a2 (y + 14 + r) 3)) (u + 13) ((6 * n9 + 2)) (a2 (y + 14 + r) 2)) (u + 13) ((6 * n9 + 3)) (m : Int)) (u + 13) ((6 * n9 + 4)) (c2 0 p)) (u + 13) ((6 * n9 + 5)) (r : Int)) u 6 = _; rw [updC_nt (by omega), updC_nt (by omega), updC_nt (by omega), updC_nt (by omega), updC_nt (by omega), updC_nt (by omega)])).trans (e6)) ?_
      refine Ev.steps (k := 2) (pc' := 125) (L' := [Vr (u : Int), Vr ((y + 14 + r : Nat) : Int), Vi (r : Int), Vi ((6 * n9 : Nat) : Int)]) (S' := [Vi (w32 ((n9 : Int) + 1)), Vr (u : Int)]) (h' := ((SHv st dr rd), (ovl (updC (updC (updC (updC (updC (updC a2 (u + 13) ((6 * n9)) (p : Int)) (u + 13) ((6 * n9 + 1)) (a2 (y + 14 + r) 3)) (u + 13) ((6 * n9 + 2)) (a2 (y + 14 + r) 2)) (u + 13) ((6 * n9 + 3)) (m : Int)) (u + 13) ((6 * n9 + 4)) (c2 0 p)) (u + 13) ((6 * n9 + 5)) (r : Int)) s b))) (fun _ => rfl) ?_
      rw [show (w32 ((n9 : Int) + 1)) = ((n9 : Int) + 1) from w32_id (by unfold R32; omega)]
      refine Ev.putf (c' := (ovl (updC (updC (updC (updC (updC (updC (updC a2 (u + 13) ((6 * n9)) (p : Int)) (u + 13) ((6 * n9 + 1)) (a2 (y + 14 + r) 3)) (u + 13) ((6 * n9 + 2)) (a2 (y + 14 + r) 2)) (u + 13) ((6 * n9 + 3)) (m : Int)) (u + 13) ((6 * n9 + 4)) (c2 0 p)) (u + 13) ((6 * n9 + 5)) (r : Int)) u 6 ((n9 : Int) + 1)) s b)) rfl (by omega) (shU_0 hu) rfl rfl (ovl_wc (by omega)) ?_
      refine Ev.fin (k := 1) (r := none) (h' := ((SHv st dr rd), (ovl (updC (updC (updC (updC (updC (updC (updC a2 (u + 13) ((6 * n9)) (p : Int)) (u + 13) ((6 * n9 + 1)) (a2 (y + 14 + r) 3)) (u + 13) ((6 * n9 + 2)) (a2 (y + 14 + r) 2)) (u + 13) ((6 * n9 + 3)) (m : Int)) (u + 13) ((6 * n9 + 4)) (c2 0 p)) (u + 13) ((6 * n9 + 5)) (r : Int)) u 6 ((n9 : Int) + 1)) s b))) (fun _ => rfl) ?_
      first
        | (have h5 : S.1 11 r ≠ 5 := by omega
           obtain ⟨e8, e9⟩ := doesS_89 hp hk4 hd h5 hwr.1
           exact ⟨rfl, a2, rfl, g1.t2 (by omega) (by omega) (by omega), hC2, g2, hDd.fr (by rw [g1 u (by omega)]) (g1 (u + 13) (by omega)) e8 e9⟩)
        | (have h5 : S.1 11 r = 5 := by omega
           have hw5 := hwr.2.2.2.2.1 h5
           obtain ⟨v5, v6⟩ := v4 h5
           have hds := doesS_at (c := c) hp
           rw [hd, if_neg (by omega), if_neg (by omega), if_neg (by omega), if_neg (by omega)] at hds
           have hc2 : c2 = leavS (deedS (dropS (nT S) (updC c 1 (S.1 13 r).toNat 0) (S.1 13 r).toNat) p (S.1 13 r).toNat (S.1 14 r).toNat r) 3 (S.1 14 r) p := by
             split at hds
             · exact Option.some.inj hds
             · cases hds
           have x9 : (dropS (nT S) (updC c 1 (S.1 13 r).toNat 0) (S.1 13 r).toNat) 9 = c 9 := dropS_r (by omega)
           have x8 : (dropS (nT S) (updC c 1 (S.1 13 r).toNat 0) (S.1 13 r).toNat) 8 = c 8 := dropS_r (by omega)
           have x5 : (dropS (nT S) (updC c 1 (S.1 13 r).toNat 0) (S.1 13 r).toNat) 5 = c 5 := dropS_r (by omega)
           have x0 : (dropS (nT S) (updC c 1 (S.1 13 r).toNat 0) (S.1 13 r).toNat) 0 = c 0 := dropS_r (by omega)
           have h29 : c2 9 0 = (n9 : Int) + 1 := by
             rw [hc2, leavS_n (by omega) (by omega), deedS_9, x9, hn9]
           have h28 := fun i => (show c2 8 i = deedS (dropS (nT S) (updC c 1 (S.1 13 r).toNat 0) (S.1 13 r).toNat) p (S.1 13 r).toNat (S.1 14 r).toNat r 8 i by rw [hc2, leavS_n (by omega) (by omega)]).trans (deedS_8 i)
           rw [x9, x8, x5, x0, hn9, Int.toNat_natCast] at h28
           refine ⟨rfl, _, rfl, ?_, ?_, ?_, ?_, ?_⟩
           · refine ⟨fun o ho => ?_, fun o g3 g4 => ?_, ?_⟩
             · rw [updC_row (by omega), updC_row (by omega), updC_row (by omega), updC_row (by omega), updC_row (by omega), updC_row (by omega), updC_row (by omega), g1 o (by omega)]
             · rw [updC_row (by omega), updC_row (by omega), updC_row (by omega), updC_row (by omega), updC_row (by omega), updC_row (by omega), updC_row (by omega), g1 o (by omega)]
             · rw [updC_nt (by omega), updC_row (by omega), updC_row (by omega), updC_row (by omega), updC_row (by omega), updC_row (by omega), updC_row (by omega), g1 u (by omega)]
           · exact hC2.fr (fun o g3 g4 => by rw [updC_row (by omega), updC_row (by omega), updC_row (by omega), updC_row (by omega), updC_row (by omega), updC_row (by omega), updC_row (by omega)])
           · exact g2.fr (fun o g3 g4 => by rw [updC_row (by omega), updC_row (by omega), updC_row (by omega), updC_row (by omega), updC_row (by omega), updC_row (by omega), updC_row (by omega)]) rfl rfl
           · rw [updC_sm, h29]
           · intro i hi
             rw [h29] at hi
             rw [updC_row (by omega), updC_if, updC_if, updC_if, updC_if, updC_if, updC_if, h28 i, g1 (u + 13) (by omega), hm5, ← h20 h5]
             by_cases i5 : i = 6 * n9 + 5
             · rw [if_pos i5, if_pos i5]
             rw [if_neg i5, if_neg i5]
             by_cases i4 : i = 6 * n9 + 4
             · rw [if_pos i4, if_pos i4]
             rw [if_neg i4, if_neg i4]
             by_cases i3 : i = 6 * n9 + 3
             · rw [if_pos i3, if_pos i3]
             rw [if_neg i3, if_neg i3]
             by_cases i2 : i = 6 * n9 + 2
             · rw [if_pos i2, if_pos i2, v6]; omega
             rw [if_neg i2, if_neg i2]
             by_cases i1 : i = 6 * n9 + 1
             · rw [if_pos i1, if_pos i1, v5]; omega
             rw [if_neg i1, if_neg i1]
             by_cases i0 : i = 6 * n9
             · rw [if_pos i0, if_pos i0]
             rw [if_neg i0, if_neg i0]
             exact hDd.2 i (by omega))
