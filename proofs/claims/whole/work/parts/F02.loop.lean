/-! THE LAW: its loop -/
theorem law_sw {X : List Int} {d n : Nat} {Q : Option pm_V → pm_H → Prop} (hX : X.length ≤ 3072) (hn : n + 6 ≤ X.length) (K : LawK X d Q n) {G : GST} {a s b : C3} {rd : Int} {y z : Nat} (hT : TopC G a rd y z) (hM : TopM G b) (hNV : NmV (gS G)) {v : Int} (hv : 0 ≤ v ∧ v ≤ 31) : Ev X (d + 403) 259 33 [Vr (-2), Vr 0, Vr 166, Vi (n : Int)] [Vi v] (SHv (y : Int) (z : Int) rd, ovl a s b) Q := by
  rcases (show v = 0 ∨ v = 1 ∨ v = 2 ∨ v = 3 ∨ v = 4 ∨ v = 5 ∨ v = 6 ∨ v = 7 ∨ v = 8 ∨ v = 9 ∨ v = 10 ∨ v = 11 ∨ v = 12 ∨ v = 13 ∨ v = 14 ∨ v = 15 ∨ v = 16 ∨ v = 17 ∨ v = 18 ∨ v = 19 ∨ v = 20 ∨ v = 21 ∨ v = 22 ∨ v = 23 ∨ v = 24 ∨ v = 25 ∨ v = 26 ∨ v = 27 ∨ v = 28 ∨ (v ≠ 0 ∧ v ≠ 1 ∧ v ≠ 2 ∧ v ≠ 3 ∧ v ≠ 4 ∧ v ≠ 5 ∧ v ≠ 6 ∧ v ≠ 7 ∧ v ≠ 8 ∧ v ≠ 9 ∧ v ≠ 10 ∧ v ≠ 11 ∧ v ≠ 12 ∧ v ≠ 13 ∧ v ≠ 14 ∧ v ≠ 15 ∧ v ≠ 16 ∧ v ≠ 17 ∧ v ≠ 18 ∧ v ≠ 19 ∧ v ≠ 20 ∧ v ≠ 21 ∧ v ≠ 22 ∧ v ≠ 23 ∧ v ≠ 24 ∧ v ≠ 25 ∧ v ≠ 26 ∧ v ≠ 27 ∧ v ≠ 28) by omega) with b33 | b33 | b33 | b33 | b33 | b33 | b33 | b33 | b33 | b33 | b33 | b33 | b33 | b33 | b33 | b33 | b33 | b33 | b33 | b33 | b33 | b33 | b33 | b33 | b33 | b33 | b33 | b33 | b33 | b33
  · rw [b33]
    refine Ev.steps (k := 1) (pc' := 164) (L' := [Vr (-2), Vr 0, Vr 166, Vi (n : Int)]) (S' := []) (h' := ((SHv (y : Int) (z : Int) rd), (ovl a s b))) (fun _ => rfl) ?_
    exact law_0 hX hn K hT hM hNV
  · rw [b33]
    refine Ev.steps (k := 1) (pc' := 227) (L' := [Vr (-2), Vr 0, Vr 166, Vi (n : Int)]) (S' := []) (h' := ((SHv (y : Int) (z : Int) rd), (ovl a s b))) (fun _ => rfl) ?_
    exact law_1 hX hn K hT hM hNV
  · rw [b33]
    refine Ev.steps (k := 1) (pc' := 250) (L' := [Vr (-2), Vr 0, Vr 166, Vi (n : Int)]) (S' := []) (h' := ((SHv (y : Int) (z : Int) rd), (ovl a s b))) (fun _ => rfl) ?_
    exact law_2 hX hn K hT hM hNV
  · rw [b33]
    refine Ev.steps (k := 1) (pc' := 263) (L' := [Vr (-2), Vr 0, Vr 166, Vi (n : Int)]) (S' := []) (h' := ((SHv (y : Int) (z : Int) rd), (ovl a s b))) (fun _ => rfl) ?_
    exact law_3 hX hn K hT hM hNV
  · rw [b33]
    refine Ev.steps (k := 1) (pc' := 286) (L' := [Vr (-2), Vr 0, Vr 166, Vi (n : Int)]) (S' := []) (h' := ((SHv (y : Int) (z : Int) rd), (ovl a s b))) (fun _ => rfl) ?_
    exact law_4 hX hn K hT hM hNV
  · rw [b33]
    refine Ev.steps (k := 1) (pc' := 309) (L' := [Vr (-2), Vr 0, Vr 166, Vi (n : Int)]) (S' := []) (h' := ((SHv (y : Int) (z : Int) rd), (ovl a s b))) (fun _ => rfl) ?_
    exact law_5 hX hn K hT hM hNV
  · rw [b33]
    refine Ev.steps (k := 1) (pc' := 352) (L' := [Vr (-2), Vr 0, Vr 166, Vi (n : Int)]) (S' := []) (h' := ((SHv (y : Int) (z : Int) rd), (ovl a s b))) (fun _ => rfl) ?_
    exact law_6 hX hn K hT hM hNV
  · rw [b33]
    refine Ev.steps (k := 1) (pc' := 385) (L' := [Vr (-2), Vr 0, Vr 166, Vi (n : Int)]) (S' := []) (h' := ((SHv (y : Int) (z : Int) rd), (ovl a s b))) (fun _ => rfl) ?_
    exact law_7 hX hn K hT hM hNV
  · rw [b33]
    refine Ev.steps (k := 1) (pc' := 418) (L' := [Vr (-2), Vr 0, Vr 166, Vi (n : Int)]) (S' := []) (h' := ((SHv (y : Int) (z : Int) rd), (ovl a s b))) (fun _ => rfl) ?_
    exact law_8 hX hn K hT hM hNV
  · rw [b33]
    refine Ev.steps (k := 1) (pc' := 467) (L' := [Vr (-2), Vr 0, Vr 166, Vi (n : Int)]) (S' := []) (h' := ((SHv (y : Int) (z : Int) rd), (ovl a s b))) (fun _ => rfl) ?_
    exact law_9 hX hn K hT hM hNV
  · rw [b33]
    refine Ev.steps (k := 1) (pc' := 478) (L' := [Vr (-2), Vr 0, Vr 166, Vi (n : Int)]) (S' := []) (h' := ((SHv (y : Int) (z : Int) rd), (ovl a s b))) (fun _ => rfl) ?_
    exact law_10 hX hn K hT hM hNV
  · rw [b33]
    refine Ev.steps (k := 1) (pc' := 501) (L' := [Vr (-2), Vr 0, Vr 166, Vi (n : Int)]) (S' := []) (h' := ((SHv (y : Int) (z : Int) rd), (ovl a s b))) (fun _ => rfl) ?_
    exact law_11 hX hn K hT hM hNV
  · rw [b33]
    refine Ev.steps (k := 1) (pc' := 534) (L' := [Vr (-2), Vr 0, Vr 166, Vi (n : Int)]) (S' := []) (h' := ((SHv (y : Int) (z : Int) rd), (ovl a s b))) (fun _ => rfl) ?_
    exact law_12 hX hn K hT hM hNV
  · rw [b33]
    refine Ev.steps (k := 1) (pc' := 567) (L' := [Vr (-2), Vr 0, Vr 166, Vi (n : Int)]) (S' := []) (h' := ((SHv (y : Int) (z : Int) rd), (ovl a s b))) (fun _ => rfl) ?_
    exact law_13 hX hn K hT hM hNV
  · rw [b33]
    refine Ev.steps (k := 1) (pc' := 600) (L' := [Vr (-2), Vr 0, Vr 166, Vi (n : Int)]) (S' := []) (h' := ((SHv (y : Int) (z : Int) rd), (ovl a s b))) (fun _ => rfl) ?_
    exact law_14 hX hn K hT hM hNV
  · rw [b33]
    refine Ev.steps (k := 1) (pc' := 633) (L' := [Vr (-2), Vr 0, Vr 166, Vi (n : Int)]) (S' := []) (h' := ((SHv (y : Int) (z : Int) rd), (ovl a s b))) (fun _ => rfl) ?_
    exact law_15 hX hn K hT hM hNV
  · rw [b33]
    refine Ev.steps (k := 1) (pc' := 666) (L' := [Vr (-2), Vr 0, Vr 166, Vi (n : Int)]) (S' := []) (h' := ((SHv (y : Int) (z : Int) rd), (ovl a s b))) (fun _ => rfl) ?_
    exact law_16 hX hn K hT hM hNV
  · rw [b33]
    refine Ev.steps (k := 1) (pc' := 699) (L' := [Vr (-2), Vr 0, Vr 166, Vi (n : Int)]) (S' := []) (h' := ((SHv (y : Int) (z : Int) rd), (ovl a s b))) (fun _ => rfl) ?_
    exact law_17 hX hn K hT hM hNV
  · rw [b33]
    refine Ev.steps (k := 1) (pc' := 732) (L' := [Vr (-2), Vr 0, Vr 166, Vi (n : Int)]) (S' := []) (h' := ((SHv (y : Int) (z : Int) rd), (ovl a s b))) (fun _ => rfl) ?_
    exact law_18 hX hn K hT hM hNV
  · rw [b33]
    refine Ev.steps (k := 1) (pc' := 775) (L' := [Vr (-2), Vr 0, Vr 166, Vi (n : Int)]) (S' := []) (h' := ((SHv (y : Int) (z : Int) rd), (ovl a s b))) (fun _ => rfl) ?_
    exact law_19 hX hn K hT hM hNV
  · rw [b33]
    refine Ev.steps (k := 1) (pc' := 808) (L' := [Vr (-2), Vr 0, Vr 166, Vi (n : Int)]) (S' := []) (h' := ((SHv (y : Int) (z : Int) rd), (ovl a s b))) (fun _ => rfl) ?_
    exact law_20 hX hn K hT hM hNV
  · rw [b33]
    refine Ev.steps (k := 1) (pc' := 841) (L' := [Vr (-2), Vr 0, Vr 166, Vi (n : Int)]) (S' := []) (h' := ((SHv (y : Int) (z : Int) rd), (ovl a s b))) (fun _ => rfl) ?_
    exact law_21 hX hn K hT hM hNV
  · rw [b33]
    refine Ev.steps (k := 1) (pc' := 900) (L' := [Vr (-2), Vr 0, Vr 166, Vi (n : Int)]) (S' := []) (h' := ((SHv (y : Int) (z : Int) rd), (ovl a s b))) (fun _ => rfl) ?_
    exact law_22 hX hn K hT hM hNV
  · rw [b33]
    refine Ev.steps (k := 1) (pc' := 943) (L' := [Vr (-2), Vr 0, Vr 166, Vi (n : Int)]) (S' := []) (h' := ((SHv (y : Int) (z : Int) rd), (ovl a s b))) (fun _ => rfl) ?_
    exact law_23 hX hn K hT hM hNV
  · rw [b33]
    refine Ev.steps (k := 1) (pc' := 992) (L' := [Vr (-2), Vr 0, Vr 166, Vi (n : Int)]) (S' := []) (h' := ((SHv (y : Int) (z : Int) rd), (ovl a s b))) (fun _ => rfl) ?_
    exact law_24 hX hn K hT hM hNV
  · rw [b33]
    refine Ev.steps (k := 1) (pc' := 1015) (L' := [Vr (-2), Vr 0, Vr 166, Vi (n : Int)]) (S' := []) (h' := ((SHv (y : Int) (z : Int) rd), (ovl a s b))) (fun _ => rfl) ?_
    exact law_25 hX hn K hT hM hNV
  · rw [b33]
    refine Ev.steps (k := 1) (pc' := 1038) (L' := [Vr (-2), Vr 0, Vr 166, Vi (n : Int)]) (S' := []) (h' := ((SHv (y : Int) (z : Int) rd), (ovl a s b))) (fun _ => rfl) ?_
    exact law_26 hX hn K hT hM hNV
  · rw [b33]
    refine Ev.steps (k := 1) (pc' := 1087) (L' := [Vr (-2), Vr 0, Vr 166, Vi (n : Int)]) (S' := []) (h' := ((SHv (y : Int) (z : Int) rd), (ovl a s b))) (fun _ => rfl) ?_
    exact law_27 hX hn K hT hM hNV
  · rw [b33]
    refine Ev.steps (k := 1) (pc' := 1110) (L' := [Vr (-2), Vr 0, Vr 166, Vi (n : Int)]) (S' := []) (h' := ((SHv (y : Int) (z : Int) rd), (ovl a s b))) (fun _ => rfl) ?_
    exact law_28 hX hn K hT hM hNV
  · refine Ev.tswd (dflt := 1100) rfl (by omega) (by decide) ?_
    show Ev X _ _ 1133 [Vr (-2), Vr 0, Vr 166, Vi (n : Int)] [] ((SHv (y : Int) (z : Int) rd), (ovl a s b)) _
    exact K _ _ _ _ _ _ _ hT hM hNV
theorem law_l {X : List Int} {d : Nat} (hX : X.length ≤ 3072) : ∀ (f n : Nat), X.length ≤ n + f → n ≤ 4000 → ∀ (G : GST) (a s b : C3) (rd : Int) (y z : Nat), TopC G a rd y z → TopM G b → NmV (gS G) → Ev X (d + 403) 259 18 [Vr (-2), Vr 0, Vr 166, Vi (n : Int)] [] (SHv (y : Int) (z : Int) rd, ovl a s b) (fun rr hh => rr = some (Vi 1) ∧ ∃ (y z : Nat) (rd : Int) (c : C3), hh = (SHv (y : Int) (z : Int) rd, c)) := by
  intro f
  induction f using Nat.strongRecOn with
  | ind f ih =>
    intro n hf hn4 G a s b rd y z hT hM hNV
    refine Ev.steps (k := 5) (pc' := 24) (L' := [Vr (-2), Vr 0, Vr 166, Vi (n : Int)]) (S' := [Vi (w32 (((X.length : Nat) : Int) - 6)), Vi (n : Int)]) (h' := ((SHv (y : Int) (z : Int) rd), (ovl a s b))) (fun _ => rfl) ?_
    rw [show (w32 (((X.length : Nat) : Int) - 6)) = (((X.length : Nat) : Int) - 6) from w32_id (by unfold R32; omega)]
    refine Ev.ite (P := (((X.length : Nat) : Int) - 6) < (n : Int)) (k := 1) (a := 1139) (b := 27) (L' := [Vr (-2), Vr 0, Vr 166, Vi (n : Int)]) (S' := []) (h' := ((SHv (y : Int) (z : Int) rd), (ovl a s b))) (fun _ => rfl) (fun b24 => ?_) (fun b24 => ?_)
    · refine Ev.fin (k := 2) (r := (some (Vi 1))) (h' := ((SHv (y : Int) (z : Int) rd), (ovl a s b))) (fun _ => rfl) ?_
      exact ⟨rfl, y, z, rd, _, rfl⟩
    · refine Ev.steps (k := 2) (pc' := 29) (L' := [Vr (-2), Vr 0, Vr 166, Vi (n : Int)]) (S' := [Vi (n : Int), Vr (-2)]) (h' := ((SHv (y : Int) (z : Int) rd), (ovl a s b))) (fun _ => rfl) ?_
      refine Ev.rald (v := (xvL X n)) rfl (by decide) rfl (by omega) (xv_at (by omega)) ?_
      refine Ev.steps (k := 2) (pc' := 33) (L' := [Vr (-2), Vr 0, Vr 166, Vi (n : Int)]) (S' := [Vi (i_and (xvL X n) 31)]) (h' := ((SHv (y : Int) (z : Int) rd), (ovl a s b))) (fun _ => rfl) ?_
      have hn : n + 6 ≤ X.length := by omega
      refine law_sw hX hn (fun G1 a1 s1 b1 rd1 y1 z1 hT1 hM1 hNV1 => ?_) hT hM hNV (i_and31 _)
      refine Ev.steps (k := 2) (pc' := 18) (L' := [Vr (-2), Vr 0, Vr 166, Vi (w32 ((n : Int) + 6))]) (S' := []) (h' := (SHv (y1 : Int) (z1 : Int) rd1, ovl a1 s1 b1)) (fun _ => rfl) ?_
      rw [show w32 ((n : Int) + 6) = ((n + 6 : Nat) : Int) from by unfold w32; omega]
      exact ih (f - 6) (by omega) (n + 6) (by omega) (by omega) G1 a1 s1 b1 rd1 y1 z1 hT1 hM1 hNV1
