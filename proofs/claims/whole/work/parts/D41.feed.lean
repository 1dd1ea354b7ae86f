/-! THE CLASS: feed, end -/
theorem TopC.tp {G : GST} {a a' : SC} {rd : Int} {y z : Nat} {T : Nat → Int} {t : Nat} (h : TopC G a rd y z) (hf : ∀ o, o ≠ 0 → o ≠ 1 → a' o = a o) (h1 : t ≤ 1200) (h2 : a' 0 1 = (t : Int)) (h3 : ∀ i, i < t → a' 1 i = sbS (T i) ∧ 0 ≤ T i ∧ T i < 256) : TopC (gsT G T t) a' rd y z := by
  obtain ⟨hyz, hrd, hY, hWY, hBB, hWB, hWE, hn180, hE, hTp, hfk, hfp, hCh, h156, hOwn⟩ := h
  have hL30 := hWY.2.2.2.2.1.1
  have hC12 := hWY.2.2.2.2.2.1.1
  have hs : ∀ w, aSpare (gsT G T t) w = aSpare G w := fun _ => rfl
  have hv : ∀ w, aFairest (gsT G T t) w = aFairest G w := fun _ => aFairest_cg
  refine ⟨hyz, hrd, hY.fr (fun o g1 g2 => hf o (by omega) (by omega)) hL30 hC12, hWY, hBB.fr (fun o g1 g2 => hf o (by omega) (by omega)), hWB, hWE, hn180, hE.fr (fun o g1 g2 => hf o (by omega) (by omega)), ⟨h1, h2, h3⟩, ?_, ?_, ?_, ?_, ?_⟩
  · rw [hf 114 (by omega) (by omega)]; exact hfk
  · rw [hf 114 (by omega) (by omega)]; exact hfp
  · unfold ChC at hCh ⊢
    rw [hf 141 (by omega) (by omega), hf 164 (by omega) (by omega), hf 165 (by omega) (by omega)]
    exact ⟨hCh.1, hCh.2.1, fun g => ⟨(hCh.2.2.1 g).1, fun w hw => by rw [hs]; exact (hCh.2.2.1 g).2 w hw⟩, fun g => ⟨(hCh.2.2.2 g).1, fun w hw => by rw [hv]; exact (hCh.2.2.2 g).2 w hw⟩⟩
  · rw [hf 156 (by omega) (by omega)]; exact h156
  · unfold OwnC
    rw [hf 115 (by omega) (by omega)]; exact hOwn
theorem c_write_l {X : List Int} {d : Nat} {st dr rd : Int} {a s b : C3} (v : Int) (t : Nat) (ht : t + 4 ≤ 1200) {a0 : C3} (k : Nat) (hk4 : k ≤ 4) (e1 : a 0 1 = ((t + k : Nat) : Int)) (hf : ∀ o, o ≠ 0 → o ≠ 1 → a o = a0 o) (ho : ∀ i, i < t → a 1 i = a0 1 i) (hv : ∀ i, i < k → a 1 (t + i) = sbS (bytS v i)) : Ev X d 19 3 [Vr 0, Vi v, Vi (24 - 8 * (k : Int))] [] (SHv st dr rd, ovl a s b) (fun rr hh => rr = none ∧ ∃ a' : C3, hh = (SHv st dr rd, ovl a' s b) ∧ a' 0 1 = ((t + 4 : Nat) : Int) ∧ (∀ o, o ≠ 0 → o ≠ 1 → a' o = a0 o) ∧ (∀ i, i < t → a' 1 i = a0 1 i) ∧ ∀ i, i < 4 → a' 1 (t + i) = sbS (bytS v i)) := by
  induction hkk : (4 - k) using Nat.strongRecOn generalizing k a with
  | ind kk ih =>
    refine Ev.ite (P := (24 - 8 * (k : Int)) < 0) (k := 2) (a := 48) (b := 7) (L' := [Vr 0, Vi v, Vi (24 - 8 * (k : Int))]) (S' := []) (h' := ((SHv st dr rd), (ovl a s b))) (fun _ => rfl) (fun b4 => ?_) (fun b4 => ?_)
    · refine Ev.fin (k := 1) (r := none) (h' := ((SHv st dr rd), (ovl a s b))) (fun _ => rfl) ?_
      obtain rfl : k = 4 := by omega
      exact ⟨rfl, a, rfl, e1, hf, ho, hv⟩
    · refine Ev.steps (k := 2) (pc' := 11) (L' := [Vr 0, Vi v, Vi (24 - 8 * (k : Int))]) (S' := [Vi (a 0 1)]) (h' := ((SHv st dr rd), (ovl a s b))) (fun _ => rfl) ?_
      rw [e1]
      refine Ev.ite (P := 1200 ≤ ((t + k : Nat) : Int)) (k := 4) (a := 42) (b := 19) (L' := [Vr 0, Vi v, Vi (24 - 8 * (k : Int))]) (S' := []) (h' := ((SHv st dr rd), (ovl a s b))) (fun _ => rfl) (fun b16 => ?_) (fun b16 => ?_)
      · exfalso; omega
      · refine Ev.steps (k := 4) (pc' := 27) (L' := [Vr 0, Vi v, Vi (24 - 8 * (k : Int))]) (S' := [Vi (a 0 1), Vr 1]) (h' := ((SHv st dr rd), (ovl a s b))) (fun _ => rfl) ?_
        rw [e1]
        refine Ev.steps (k := 4) (pc' := 31) (L' := [Vr 0, Vi v, Vi (24 - 8 * (k : Int))]) (S' := [Vi (w8 (i_ushr v (24 - 8 * (k : Int)))), Vi ((t + k : Nat) : Int), Vr 1]) (h' := ((SHv st dr rd), (ovl a s b))) (fun _ => rfl) ?_
        rw [show (w8 (i_ushr v (24 - 8 * (k : Int)))) = (sbS (bytS v k)) from (by rw [show (24 - 8 * (k : Int)) = ((24 - 8 * k : Nat) : Int) by omega]; exact byt_sb k (by omega))]
        refine Ev.bast (c' := (ovl (updC a 1 ((t + k)) (sbS (bytS v k))) s b)) rfl (by decide) rfl (by omega) (by omega) (by (have hby := bytS_r v k; unfold sbS; split <;> omega)) (ovl_wc (by decide)) ?_
        refine Ev.steps (k := 3) (pc' := 37) (L' := [Vr 0, Vi v, Vi (24 - 8 * (k : Int))]) (S' := [Vi (a 0 1), Vr 0]) (h' := ((SHv st dr rd), (ovl (updC a 1 ((t + k)) (sbS (bytS v k))) s b))) (fun _ => rfl) ?_
        rw [e1]
        refine Ev.steps (k := 2) (pc' := 39) (L' := [Vr 0, Vi v, Vi (24 - 8 * (k : Int))]) (S' := [Vi (w32 (((t + k : Nat) : Int) + 1)), Vr 0]) (h' := ((SHv st dr rd), (ovl (updC a 1 ((t + k)) (sbS (bytS v k))) s b))) (fun _ => rfl) ?_
        rw [show (w32 (((t + k : Nat) : Int) + 1)) = (((t + k : Nat) : Int) + 1) from w32_id (by unfold R32; omega)]
        refine Ev.putf (c' := (ovl (updC (updC a 1 ((t + k)) (sbS (bytS v k))) 0 1 (((t + k : Nat) : Int) + 1)) s b)) rfl (by decide) rfl rfl rfl (ovl_wc (by decide)) ?_
        refine Ev.steps (k := 1) (pc' := 45) (L' := [Vr 0, Vi v, Vi (w32 ((24 - 8 * (k : Int)) + (-8)))]) (S' := []) (h' := ((SHv st dr rd), (ovl (updC (updC a 1 ((t + k)) (sbS (bytS v k))) 0 1 (((t + k : Nat) : Int) + 1)) s b))) (fun _ => rfl) ?_
        rw [show (w32 ((24 - 8 * (k : Int)) + (-8))) = (24 - 8 * ((k : Int) + 1)) from (by unfold w32; omega)]
        refine Ev.steps (k := 1) (pc' := 3) (L' := [Vr 0, Vi v, Vi (24 - 8 * ((k : Int) + 1))]) (S' := []) (h' := ((SHv st dr rd), (ovl (updC (updC a 1 ((t + k)) (sbS (bytS v k))) 0 1 (((t + k : Nat) : Int) + 1)) s b))) (fun _ => rfl) ?_
        refine ih _ (by omega) (a := (updC (updC a 1 ((t + k)) (sbS (bytS v k))) 0 1 (((t + k : Nat) : Int) + 1))) (k + 1) (by omega) ?_ (fun o o0 o1 => ?_) (fun i hi => ?_) (fun i hi => ?_) rfl
        · show ((t + k : Nat) : Int) + 1 = ((t + (k + 1) : Nat) : Int)
          omega
        · rw [updC_row (by omega), updC_row (by omega)]
          exact hf o o0 o1
        · rw [updC_row (by omega), updC_if, if_neg (by omega)]
          exact ho i hi
        · rw [updC_row (by omega), updC_if]
          by_cases h : i = k
          · rw [h, if_pos rfl]
          · rw [if_neg (by omega)]
            exact hv i (by omega)
theorem c_write {X : List Int} {d : Nat} {st dr rd : Int} {a s b : C3} (v : Int) (t : Nat) (ht : t + 4 ≤ 1200) (e1 : a 0 1 = (t : Int)) : Ev X d 19 0 [Vr 0, Vi v, Vx] [] (SHv st dr rd, ovl a s b) (fun rr hh => rr = none ∧ ∃ a' : C3, hh = (SHv st dr rd, ovl a' s b) ∧ a' 0 1 = ((t + 4 : Nat) : Int) ∧ (∀ o, o ≠ 0 → o ≠ 1 → a' o = a o) ∧ (∀ i, i < t → a' 1 i = a 1 i) ∧ ∀ i, i < 4 → a' 1 (t + i) = sbS (bytS v i)) := by
  refine Ev.steps (k := 2) (pc' := 3) (L' := [Vr 0, Vi v, Vi 24]) (S' := []) (h' := ((SHv st dr rd), (ovl a s b))) (fun _ => rfl) ?_
  exact c_write_l v t ht 0 (by omega) e1 (fun _ _ _ => rfl) (fun _ _ => rfl) (fun i h => absurd h (by omega))
theorem h_feed {X : List Int} {d : Nat} {rd : Int} {a s b : C3} {y z : Nat} {G : GST} (hT : TopC G a rd y z) (x0 x1 x2 x3 x4 : Int) : Ev X (d + 1) 18 0 [Vr 0, Vi x0, Vi x1, Vi x2, Vi x3, Vi x4] [] (SHv (y : Int) (z : Int) rd, ovl a s b) (fun rr hh => rr = some (Vi (if gt G + 20 ≤ 1200 then ((gt G + 20 : Nat) : Int) else -1)) ∧ ∃ a' : C3, hh = (SHv (y : Int) (z : Int) rd, ovl a' s b) ∧ TopC (nFeed G (fun i => match i with | 0 => x0 | 1 => x1 | 2 => x2 | 3 => x3 | _ => x4)) a' rd y z) := by
  obtain ⟨hyz, hrd, hY, hWY, hBB, hWB, hWE, hn180, ⟨e7, e6, e5, e0, hEv⟩, hTp, hfk, hfp, hCh, h156, hOwn⟩ := id hT
  have hy : hyS y := by show y = 2 ∨ y = 58; omega
  have hy0 : y = 2 ∨ y = 58 := hy
  have hW8 := hWY.2.2.1.1
  have hR8 := hWY.1.1
  have hT8 := hWY.2.2.2.1.1
  have hL30 := hWY.2.2.2.2.1.1
  have hC12 := hWY.2.2.2.2.2.1.1
  have ht1 := hTp.1
  have e1 : a 0 1 = ((gt G : Nat) : Int) := hTp.2.1
  refine Ev.steps (k := 2) (pc' := 4) (L' := [Vr 0, Vi x0, Vi x1, Vi x2, Vi x3, Vi x4]) (S' := [Vi (a 0 1)]) (h' := ((SHv (y : Int) (z : Int) rd), (ovl a s b))) (fun _ => rfl) ?_
  rw [e1]
  refine Ev.steps (k := 2) (pc' := 7) (L' := [Vr 0, Vi x0, Vi x1, Vi x2, Vi x3, Vi x4]) (S' := [Vi (w32 (((gt G : Nat) : Int) + 20))]) (h' := ((SHv (y : Int) (z : Int) rd), (ovl a s b))) (fun _ => rfl) ?_
  rw [show (w32 (((gt G : Nat) : Int) + 20)) = (((gt G : Nat) : Int) + 20) from w32_id (by unfold R32; omega)]
  refine Ev.ite (P := (((gt G : Nat) : Int) + 20) ≤ 1200) (k := 2) (a := 15) (b := 13) (L' := [Vr 0, Vi x0, Vi x1, Vi x2, Vi x3, Vi x4]) (S' := []) (h' := ((SHv (y : Int) (z : Int) rd), (ovl a s b))) (fun _ => rfl) (fun b10 => ?_) (fun b10 => ?_)
  · refine Ev.call (k := 2) (pc1 := 17) (L1 := [Vr 0, Vi x0, Vi x1, Vi x2, Vi x3, Vi x4]) (S1 := [Vi x0, Vr 0]) (h1 := ((SHv (y : Int) (z : Int) rd), (ovl a s b))) (m' := 19) (as := [Vr 0, Vi x0]) (S' := []) (L0 := [Vr 0, Vi x0, Vx]) (fun _ => rfl) rfl rfl rfl rfl rfl rfl (c_write x0 (gt G) (by omega) hTp.2.1) (fun r h' hq => ?_)
    obtain ⟨rfl, a1, rfl, w11, w12, w13, w14⟩ := hq
    show Ev X _ _ 20 [Vr 0, Vi x0, Vi x1, Vi x2, Vi x3, Vi x4] [] ((SHv (y : Int) (z : Int) rd), (ovl a1 s b)) _
    refine Ev.call (k := 2) (pc1 := 22) (L1 := [Vr 0, Vi x0, Vi x1, Vi x2, Vi x3, Vi x4]) (S1 := [Vi x1, Vr 0]) (h1 := ((SHv (y : Int) (z : Int) rd), (ovl a1 s b))) (m' := 19) (as := [Vr 0, Vi x1]) (S' := []) (L0 := [Vr 0, Vi x1, Vx]) (fun _ => rfl) rfl rfl rfl rfl rfl rfl (c_write x1 (gt G + 4) (by omega) w11) (fun r h' hq => ?_)
    obtain ⟨rfl, a2, rfl, w21, w22, w23, w24⟩ := hq
    show Ev X _ _ 25 [Vr 0, Vi x0, Vi x1, Vi x2, Vi x3, Vi x4] [] ((SHv (y : Int) (z : Int) rd), (ovl a2 s b)) _
    refine Ev.call (k := 2) (pc1 := 27) (L1 := [Vr 0, Vi x0, Vi x1, Vi x2, Vi x3, Vi x4]) (S1 := [Vi x2, Vr 0]) (h1 := ((SHv (y : Int) (z : Int) rd), (ovl a2 s b))) (m' := 19) (as := [Vr 0, Vi x2]) (S' := []) (L0 := [Vr 0, Vi x2, Vx]) (fun _ => rfl) rfl rfl rfl rfl rfl rfl (c_write x2 (gt G + 8) (by omega) w21) (fun r h' hq => ?_)
    obtain ⟨rfl, a3, rfl, w31, w32, w33, w34⟩ := hq
    show Ev X _ _ 30 [Vr 0, Vi x0, Vi x1, Vi x2, Vi x3, Vi x4] [] ((SHv (y : Int) (z : Int) rd), (ovl a3 s b)) _
    refine Ev.call (k := 2) (pc1 := 33) (L1 := [Vr 0, Vi x0, Vi x1, Vi x2, Vi x3, Vi x4]) (S1 := [Vi x3, Vr 0]) (h1 := ((SHv (y : Int) (z : Int) rd), (ovl a3 s b))) (m' := 19) (as := [Vr 0, Vi x3]) (S' := []) (L0 := [Vr 0, Vi x3, Vx]) (fun _ => rfl) rfl rfl rfl rfl rfl rfl (c_write x3 (gt G + 12) (by omega) w31) (fun r h' hq => ?_)
    obtain ⟨rfl, a4, rfl, w41, w42, w43, w44⟩ := hq
    show Ev X _ _ 36 [Vr 0, Vi x0, Vi x1, Vi x2, Vi x3, Vi x4] [] ((SHv (y : Int) (z : Int) rd), (ovl a4 s b)) _
    refine Ev.call (k := 2) (pc1 := 39) (L1 := [Vr 0, Vi x0, Vi x1, Vi x2, Vi x3, Vi x4]) (S1 := [Vi x4, Vr 0]) (h1 := ((SHv (y : Int) (z : Int) rd), (ovl a4 s b))) (m' := 19) (as := [Vr 0, Vi x4]) (S' := []) (L0 := [Vr 0, Vi x4, Vx]) (fun _ => rfl) rfl rfl rfl rfl rfl rfl (c_write x4 (gt G + 16) (by omega) w41) (fun r h' hq => ?_)
    obtain ⟨rfl, a5, rfl, w51, w52, w53, w54⟩ := hq
    show Ev X _ _ 42 [Vr 0, Vi x0, Vi x1, Vi x2, Vi x3, Vi x4] [] ((SHv (y : Int) (z : Int) rd), (ovl a5 s b)) _
    refine Ev.steps (k := 2) (pc' := 46) (L' := [Vr 0, Vi x0, Vi x1, Vi x2, Vi x3, Vi x4]) (S' := [Vi (a5 0 1)]) (h' := ((SHv (y : Int) (z : Int) rd), (ovl a5 s b))) (fun _ => rfl) ?_
    rw [w51]
    refine Ev.fin (k := 1) (r := (some (Vi ((gt G + 16 + 4 : Nat) : Int)))) (h' := ((SHv (y : Int) (z : Int) rd), (ovl a5 s b))) (fun _ => rfl) ?_
    unfold nFeed
    rw [if_pos (by omega), if_pos (by omega)]
    have key : ∀ (q : Nat) (i : Nat), q < 5 → i < 4 → a5 1 (gt G + 4 * q + i) = sbS (bytS ((fun i => match i with | 0 => x0 | 1 => x1 | 2 => x2 | 3 => x3 | _ => x4) q) i) := by
      intro q i hq hi
      rcases (show q = 0 ∨ q = 1 ∨ q = 2 ∨ q = 3 ∨ q = 4 by omega) with rfl | rfl | rfl | rfl | rfl
      · rw [w53 _ (by omega), w43 _ (by omega), w33 _ (by omega), w23 _ (by omega)]
        exact w14 i hi
      · rw [w53 _ (by omega), w43 _ (by omega), w33 _ (by omega)]
        exact w24 i hi
      · rw [w53 _ (by omega), w43 _ (by omega)]
        exact w34 i hi
      · rw [w53 _ (by omega)]
        exact w44 i hi
      · exact w54 i hi
    refine ⟨rfl, a5, rfl, hT.tp (fun o o0 o1 => (w52 o o0 o1).trans ((w42 o o0 o1).trans ((w32 o o0 o1).trans ((w22 o o0 o1).trans (w12 o o0 o1))))) (by omega) w51 (fun i hi => ?_)⟩
    unfold fedT
    by_cases h : i < gt G
    · rw [if_pos h, w53 _ (by omega), w43 _ (by omega), w33 _ (by omega), w23 _ (by omega), w13 _ (by omega)]
      exact hTp.2.2 i h
    · rw [if_neg h]
      have hk := key ((i - gt G) / 4) ((i - gt G) % 4) (by omega) (by omega)
      rw [show gt G + 4 * ((i - gt G) / 4) + (i - gt G) % 4 = i by omega] at hk
      exact ⟨hk, bytS_r _ _⟩
  · refine Ev.fin (k := 2) (r := (some (Vi (-1)))) (h' := ((SHv (y : Int) (z : Int) rd), (ovl a s b))) (fun _ => rfl) ?_
    unfold nFeed
    rw [if_neg (by omega), if_neg (by omega)]
    exact ⟨rfl, a, rfl, hT⟩
theorem h_end {X : List Int} {d : Nat} {rd : Int} {a s b : C3} {y z : Nat} {G : GST} (hT : TopC G a rd y z) (n : Int) : Ev X d 20 0 [Vr 0, Vi n] [] (SHv (y : Int) (z : Int) rd, ovl a s b) (fun rr hh => rr = some (Vi (if 0 ≤ n ∧ n ≤ ((gt G : Nat) : Int) then 1 else 0)) ∧ ∃ a' : C3, hh = (SHv (y : Int) (z : Int) rd, ovl a' s b) ∧ TopC (nEnd G n) a' rd y z) := by
  obtain ⟨hyz, hrd, hY, hWY, hBB, hWB, hWE, hn180, ⟨e7, e6, e5, e0, hEv⟩, hTp, hfk, hfp, hCh, h156, hOwn⟩ := id hT
  have hy : hyS y := by show y = 2 ∨ y = 58; omega
  have hy0 : y = 2 ∨ y = 58 := hy
  have hW8 := hWY.2.2.1.1
  have hR8 := hWY.1.1
  have hT8 := hWY.2.2.2.1.1
  have hL30 := hWY.2.2.2.2.1.1
  have hC12 := hWY.2.2.2.2.2.1.1
  have ht1 := hTp.1
  have e1 : a 0 1 = ((gt G : Nat) : Int) := hTp.2.1
  refine Ev.ite (P := n < 0) (k := 2) (a := 12) (b := 4) (L' := [Vr 0, Vi n]) (S' := []) (h' := ((SHv (y : Int) (z : Int) rd), (ovl a s b))) (fun _ => rfl) (fun b1 => ?_) (fun b1 => ?_)
  · refine Ev.fin (k := 2) (r := (some (Vi 0))) (h' := ((SHv (y : Int) (z : Int) rd), (ovl a s b))) (fun _ => rfl) ?_
    unfold nEnd
    rw [if_neg (by omega), if_neg (by omega)]
    exact ⟨rfl, a, rfl, hT⟩
  · refine Ev.steps (k := 3) (pc' := 9) (L' := [Vr 0, Vi n]) (S' := [Vi (a 0 1), Vi n]) (h' := ((SHv (y : Int) (z : Int) rd), (ovl a s b))) (fun _ => rfl) ?_
    rw [e1]
    refine Ev.ite (P := n ≤ ((gt G : Nat) : Int)) (k := 1) (a := 14) (b := 12) (L' := [Vr 0, Vi n]) (S' := []) (h' := ((SHv (y : Int) (z : Int) rd), (ovl a s b))) (fun _ => rfl) (fun b9 => ?_) (fun b9 => ?_)
    · refine Ev.steps (k := 2) (pc' := 16) (L' := [Vr 0, Vi n]) (S' := [Vi n, Vr 0]) (h' := ((SHv (y : Int) (z : Int) rd), (ovl a s b))) (fun _ => rfl) ?_
      refine Ev.putf (c' := (ovl (updC a 0 1 n) s b)) rfl (by decide) rfl rfl rfl (ovl_wc (by decide)) ?_
      refine Ev.fin (k := 2) (r := (some (Vi 1))) (h' := ((SHv (y : Int) (z : Int) rd), (ovl (updC a 0 1 n) s b))) (fun _ => rfl) ?_
      unfold nEnd
      rw [if_pos (by omega), if_pos (by omega)]
      refine ⟨rfl, _, rfl, hT.tp (fun o o0 o1 => updC_row o0) (by omega) (by rw [updC_sm]; omega) (fun i hi => ?_)⟩
      rw [updC_row (by omega)]
      exact hTp.2.2 i (by omega)
    · refine Ev.fin (k := 2) (r := (some (Vi 0))) (h' := ((SHv (y : Int) (z : Int) rd), (ovl a s b))) (fun _ => rfl) ?_
      unfold nEnd
      rw [if_neg (by omega), if_neg (by omega)]
      exact ⟨rfl, a, rfl, hT⟩
