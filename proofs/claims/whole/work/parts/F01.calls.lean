/-! THE LAW: one call after another -/
def xvL (X : List Int) (n : Nat) : Int := X.getD n 0
theorem xv_at : ∀ {X : List Int} {n : Nat}, n < X.length → pm_nth X n = some (xvL X n)
  | [], n, h => absurd h (Nat.not_lt_zero n)
  | x :: X, 0, h => rfl
  | x :: X, n + 1, h => xv_at (X := X) (n := n) (Nat.lt_of_succ_lt_succ h)
theorem i_and31 (x : Int) : 0 ≤ i_and x 31 ∧ i_and x 31 ≤ 31 := by
  have h : ∀ y : Int32, 0 ≤ (y &&& 31).toInt ∧ (y &&& 31).toInt ≤ 31 := fun y => by
    have h1 : (y &&& 31).toBitVec = y.toBitVec &&& 31#32 := rfl
    have h2 : (y &&& 31).toInt = (y.toBitVec &&& 31#32).toInt := rfl
    rw [h2]
    have h3 : (y.toBitVec &&& 31#32).toNat ≤ 31 := by
      rw [BitVec.toNat_and]
      exact Nat.and_le_right
    rw [BitVec.toInt_eq_toNat_of_lt (by omega)]
    omega
  exact h (Int32.ofInt x)
/-- the law goes on with any state of the two -/
def LawK (X : List Int) (d : Nat) (Q : Option pm_V → pm_H → Prop) (n : Nat) : Prop := ∀ (G : GST) (a s b : C3) (rd : Int) (y z : Nat), TopC G a rd y z → TopM G b → NmV (gS G) → Ev X (d + 403) 259 1133 [Vr (-2), Vr 0, Vr 166, Vi (n : Int)] [] (SHv (y : Int) (z : Int) rd, ovl a s b) Q
theorem law_0 {X : List Int} {d n : Nat} {Q : Option pm_V → pm_H → Prop} (hX : X.length ≤ 3072) (hn : n + 6 ≤ X.length) (K : LawK X d Q n) {G : GST} {a s b : C3} {rd : Int} {y z : Nat} (hT : TopC G a rd y z) (hM : TopM G b) (hNV : NmV (gS G)) : Ev X (d + 403) 259 164 [Vr (-2), Vr 0, Vr 166, Vi (n : Int)] [] (SHv (y : Int) (z : Int) rd, ovl a s b) Q := by
  refine Ev.steps (k := 5) (pc' := 169) (L' := [Vr (-2), Vr 0, Vr 166, Vi (n : Int)]) (S' := [Vi (w32 ((n : Int) + 1)), Vr (-2), Vr 0]) (h' := ((SHv (y : Int) (z : Int) rd), (ovl a s b))) (fun _ => rfl) ?_
  rw [show (w32 ((n : Int) + 1)) = ((n : Int) + 1) from w32_id (by unfold R32; omega)]
  refine Ev.rald (v := (xvL X ((n + 1)))) rfl (by decide) rfl (by omega) (xv_at (by omega)) ?_
  refine Ev.steps (k := 4) (pc' := 174) (L' := [Vr (-2), Vr 0, Vr 166, Vi (n : Int)]) (S' := [Vi (w32 ((n : Int) + 2)), Vr (-2), Vi (xvL X ((n + 1))), Vr 0]) (h' := ((SHv (y : Int) (z : Int) rd), (ovl a s b))) (fun _ => rfl) ?_
  rw [show (w32 ((n : Int) + 2)) = ((n : Int) + 2) from w32_id (by unfold R32; omega)]
  refine Ev.rald (v := (xvL X ((n + 2)))) rfl (by decide) rfl (by omega) (xv_at (by omega)) ?_
  refine Ev.steps (k := 4) (pc' := 179) (L' := [Vr (-2), Vr 0, Vr 166, Vi (n : Int)]) (S' := [Vi (w32 ((n : Int) + 3)), Vr (-2), Vi (xvL X ((n + 2))), Vi (xvL X ((n + 1))), Vr 0]) (h' := ((SHv (y : Int) (z : Int) rd), (ovl a s b))) (fun _ => rfl) ?_
  rw [show (w32 ((n : Int) + 3)) = ((n : Int) + 3) from w32_id (by unfold R32; omega)]
  refine Ev.rald (v := (xvL X ((n + 3)))) rfl (by decide) rfl (by omega) (xv_at (by omega)) ?_
  refine Ev.steps (k := 4) (pc' := 184) (L' := [Vr (-2), Vr 0, Vr 166, Vi (n : Int)]) (S' := [Vi (w32 ((n : Int) + 4)), Vr (-2), Vi (xvL X ((n + 3))), Vi (xvL X ((n + 2))), Vi (xvL X ((n + 1))), Vr 0]) (h' := ((SHv (y : Int) (z : Int) rd), (ovl a s b))) (fun _ => rfl) ?_
  rw [show (w32 ((n : Int) + 4)) = ((n : Int) + 4) from w32_id (by unfold R32; omega)]
  refine Ev.rald (v := (xvL X ((n + 4)))) rfl (by decide) rfl (by omega) (xv_at (by omega)) ?_
  refine Ev.steps (k := 4) (pc' := 189) (L' := [Vr (-2), Vr 0, Vr 166, Vi (n : Int)]) (S' := [Vi (w32 ((n : Int) + 5)), Vr (-2), Vi (xvL X ((n + 4))), Vi (xvL X ((n + 3))), Vi (xvL X ((n + 2))), Vi (xvL X ((n + 1))), Vr 0]) (h' := ((SHv (y : Int) (z : Int) rd), (ovl a s b))) (fun _ => rfl) ?_
  rw [show (w32 ((n : Int) + 5)) = ((n : Int) + 5) from w32_id (by unfold R32; omega)]
  refine Ev.rald (v := (xvL X ((n + 5)))) rfl (by decide) rfl (by omega) (xv_at (by omega)) ?_
  refine Ev.call (k := 0) (pc1 := 190) (L1 := [Vr (-2), Vr 0, Vr 166, Vi (n : Int)]) (S1 := [Vi (xvL X ((n + 5))), Vi (xvL X ((n + 4))), Vi (xvL X ((n + 3))), Vi (xvL X ((n + 2))), Vi (xvL X ((n + 1))), Vr 0]) (h1 := ((SHv (y : Int) (z : Int) rd), (ovl a s b))) (m' := 18) (as := [Vr 0, Vi (xvL X ((n + 1))), Vi (xvL X ((n + 2))), Vi (xvL X ((n + 3))), Vi (xvL X ((n + 4))), Vi (xvL X ((n + 5)))]) (S' := []) (L0 := [Vr 0, Vi (xvL X ((n + 1))), Vi (xvL X ((n + 2))), Vi (xvL X ((n + 3))), Vi (xvL X ((n + 4))), Vi (xvL X ((n + 5)))]) (fun _ => rfl) rfl rfl rfl rfl rfl rfl (h_feed (b := b) (s := s) hT (xvL X ((n + 1))) (xvL X ((n + 2))) (xvL X ((n + 3))) (xvL X ((n + 4))) (xvL X ((n + 5)))) (fun r h' hq => ?_)
  obtain ⟨rfl, a1, rfl, hT1⟩ := hq
  show Ev X _ _ 193 [Vr (-2), Vr 0, Vr 166, Vi (n : Int)] [Vi (if gt G + 20 ≤ 1200 then ((gt G + 20 : Nat) : Int) else -1)] ((SHv (y : Int) (z : Int) rd), (ovl a1 s b)) _
  refine Ev.steps (k := 5) (pc' := 198) (L' := [Vr (-2), Vr 0, Vr 166, Vi (n : Int)]) (S' := [Vi (w32 ((n : Int) + 1)), Vr (-2), Vr 166, Vi (if gt G + 20 ≤ 1200 then ((gt G + 20 : Nat) : Int) else -1)]) (h' := ((SHv (y : Int) (z : Int) rd), (ovl a1 s b))) (fun _ => rfl) ?_
  rw [show (w32 ((n : Int) + 1)) = ((n : Int) + 1) from w32_id (by unfold R32; omega)]
  refine Ev.rald (v := (xvL X ((n + 1)))) rfl (by decide) rfl (by omega) (xv_at (by omega)) ?_
  refine Ev.steps (k := 4) (pc' := 203) (L' := [Vr (-2), Vr 0, Vr 166, Vi (n : Int)]) (S' := [Vi (w32 ((n : Int) + 2)), Vr (-2), Vi (xvL X ((n + 1))), Vr 166, Vi (if gt G + 20 ≤ 1200 then ((gt G + 20 : Nat) : Int) else -1)]) (h' := ((SHv (y : Int) (z : Int) rd), (ovl a1 s b))) (fun _ => rfl) ?_
  rw [show (w32 ((n : Int) + 2)) = ((n : Int) + 2) from w32_id (by unfold R32; omega)]
  refine Ev.rald (v := (xvL X ((n + 2)))) rfl (by decide) rfl (by omega) (xv_at (by omega)) ?_
  refine Ev.steps (k := 4) (pc' := 208) (L' := [Vr (-2), Vr 0, Vr 166, Vi (n : Int)]) (S' := [Vi (w32 ((n : Int) + 3)), Vr (-2), Vi (xvL X ((n + 2))), Vi (xvL X ((n + 1))), Vr 166, Vi (if gt G + 20 ≤ 1200 then ((gt G + 20 : Nat) : Int) else -1)]) (h' := ((SHv (y : Int) (z : Int) rd), (ovl a1 s b))) (fun _ => rfl) ?_
  rw [show (w32 ((n : Int) + 3)) = ((n : Int) + 3) from w32_id (by unfold R32; omega)]
  refine Ev.rald (v := (xvL X ((n + 3)))) rfl (by decide) rfl (by omega) (xv_at (by omega)) ?_
  refine Ev.steps (k := 4) (pc' := 213) (L' := [Vr (-2), Vr 0, Vr 166, Vi (n : Int)]) (S' := [Vi (w32 ((n : Int) + 4)), Vr (-2), Vi (xvL X ((n + 3))), Vi (xvL X ((n + 2))), Vi (xvL X ((n + 1))), Vr 166, Vi (if gt G + 20 ≤ 1200 then ((gt G + 20 : Nat) : Int) else -1)]) (h' := ((SHv (y : Int) (z : Int) rd), (ovl a1 s b))) (fun _ => rfl) ?_
  rw [show (w32 ((n : Int) + 4)) = ((n : Int) + 4) from w32_id (by unfold R32; omega)]
  refine Ev.rald (v := (xvL X ((n + 4)))) rfl (by decide) rfl (by omega) (xv_at (by omega)) ?_
  refine Ev.steps (k := 4) (pc' := 218) (L' := [Vr (-2), Vr 0, Vr 166, Vi (n : Int)]) (S' := [Vi (w32 ((n : Int) + 5)), Vr (-2), Vi (xvL X ((n + 4))), Vi (xvL X ((n + 3))), Vi (xvL X ((n + 2))), Vi (xvL X ((n + 1))), Vr 166, Vi (if gt G + 20 ≤ 1200 then ((gt G + 20 : Nat) : Int) else -1)]) (h' := ((SHv (y : Int) (z : Int) rd), (ovl a1 s b))) (fun _ => rfl) ?_
  rw [show (w32 ((n : Int) + 5)) = ((n : Int) + 5) from w32_id (by unfold R32; omega)]
  refine Ev.rald (v := (xvL X ((n + 5)))) rfl (by decide) rfl (by omega) (xv_at (by omega)) ?_
  refine Ev.call (k := 0) (pc1 := 219) (L1 := [Vr (-2), Vr 0, Vr 166, Vi (n : Int)]) (S1 := [Vi (xvL X ((n + 5))), Vi (xvL X ((n + 4))), Vi (xvL X ((n + 3))), Vi (xvL X ((n + 2))), Vi (xvL X ((n + 1))), Vr 166, Vi (if gt G + 20 ≤ 1200 then ((gt G + 20 : Nat) : Int) else -1)]) (h1 := ((SHv (y : Int) (z : Int) rd), (ovl a1 s b))) (m' := 153) (as := [Vr 166, Vi (xvL X ((n + 1))), Vi (xvL X ((n + 2))), Vi (xvL X ((n + 3))), Vi (xvL X ((n + 4))), Vi (xvL X ((n + 5)))]) (S' := [Vi (if gt G + 20 ≤ 1200 then ((gt G + 20 : Nat) : Int) else -1)]) (L0 := [Vr 166, Vi (xvL X ((n + 1))), Vi (xvL X ((n + 2))), Vi (xvL X ((n + 3))), Vi (xvL X ((n + 4))), Vi (xvL X ((n + 5)))]) (fun _ => rfl) rfl rfl rfl rfl rfl rfl (g_feed (a := a1) (xvL X ((n + 1))) (xvL X ((n + 2))) (xvL X ((n + 3))) (xvL X ((n + 4))) (xvL X ((n + 5))) hM) (fun r h' hq => ?_)
  obtain ⟨rfl, b1, rfl, hM1⟩ := hq
  show Ev X _ _ 222 [Vr (-2), Vr 0, Vr 166, Vi (n : Int)] [Vi (if gt G + 20 ≤ 1200 then ((gt G + 20 : Nat) : Int) else -1), Vi (if gt G + 20 ≤ 1200 then ((gt G + 20 : Nat) : Int) else -1)] ((SHv (y : Int) (z : Int) rd), (ovl a1 s b1)) _
  refine Ev.ite (P := (if gt G + 20 ≤ 1200 then ((gt G + 20 : Nat) : Int) else -1) = (if gt G + 20 ≤ 1200 then ((gt G + 20 : Nat) : Int) else -1)) (k := 1) (a := 1133) (b := 225) (L' := [Vr (-2), Vr 0, Vr 166, Vi (n : Int)]) (S' := []) (h' := ((SHv (y : Int) (z : Int) rd), (ovl a1 s b1))) (fun _ => rfl) (fun b222 => ?_) (fun b222 => ?_)
  · exact K _ _ _ _ _ _ _ hT1 hM1 (by unfold nFeed; split <;> exact hNV)
  · exact absurd rfl b222
theorem law_1 {X : List Int} {d n : Nat} {Q : Option pm_V → pm_H → Prop} (hX : X.length ≤ 3072) (hn : n + 6 ≤ X.length) (K : LawK X d Q n) {G : GST} {a s b : C3} {rd : Int} {y z : Nat} (hT : TopC G a rd y z) (hM : TopM G b) (hNV : NmV (gS G)) : Ev X (d + 403) 259 227 [Vr (-2), Vr 0, Vr 166, Vi (n : Int)] [] (SHv (y : Int) (z : Int) rd, ovl a s b) Q := by
  refine Ev.steps (k := 5) (pc' := 232) (L' := [Vr (-2), Vr 0, Vr 166, Vi (n : Int)]) (S' := [Vi (w32 ((n : Int) + 1)), Vr (-2), Vr 0]) (h' := ((SHv (y : Int) (z : Int) rd), (ovl a s b))) (fun _ => rfl) ?_
  rw [show (w32 ((n : Int) + 1)) = ((n : Int) + 1) from w32_id (by unfold R32; omega)]
  refine Ev.rald (v := (xvL X ((n + 1)))) rfl (by decide) rfl (by omega) (xv_at (by omega)) ?_
  refine Ev.call (k := 0) (pc1 := 233) (L1 := [Vr (-2), Vr 0, Vr 166, Vi (n : Int)]) (S1 := [Vi (xvL X ((n + 1))), Vr 0]) (h1 := ((SHv (y : Int) (z : Int) rd), (ovl a s b))) (m' := 20) (as := [Vr 0, Vi (xvL X ((n + 1)))]) (S' := []) (L0 := [Vr 0, Vi (xvL X ((n + 1)))]) (fun _ => rfl) rfl rfl rfl rfl rfl rfl (h_end (b := b) (s := s) hT (xvL X ((n + 1)))) (fun r h' hq => ?_)
  obtain ⟨rfl, a1, rfl, hT1⟩ := hq
  show Ev X _ _ 236 [Vr (-2), Vr 0, Vr 166, Vi (n : Int)] [Vi (if 0 ≤ (xvL X ((n + 1))) ∧ (xvL X ((n + 1))) ≤ ((gt G : Nat) : Int) then 1 else 0)] ((SHv (y : Int) (z : Int) rd), (ovl a1 s b)) _
  refine Ev.steps (k := 5) (pc' := 241) (L' := [Vr (-2), Vr 0, Vr 166, Vi (n : Int)]) (S' := [Vi (w32 ((n : Int) + 1)), Vr (-2), Vr 166, Vi (if 0 ≤ (xvL X ((n + 1))) ∧ (xvL X ((n + 1))) ≤ ((gt G : Nat) : Int) then 1 else 0)]) (h' := ((SHv (y : Int) (z : Int) rd), (ovl a1 s b))) (fun _ => rfl) ?_
  rw [show (w32 ((n : Int) + 1)) = ((n : Int) + 1) from w32_id (by unfold R32; omega)]
  refine Ev.rald (v := (xvL X ((n + 1)))) rfl (by decide) rfl (by omega) (xv_at (by omega)) ?_
  refine Ev.call (k := 0) (pc1 := 242) (L1 := [Vr (-2), Vr 0, Vr 166, Vi (n : Int)]) (S1 := [Vi (xvL X ((n + 1))), Vr 166, Vi (if 0 ≤ (xvL X ((n + 1))) ∧ (xvL X ((n + 1))) ≤ ((gt G : Nat) : Int) then 1 else 0)]) (h1 := ((SHv (y : Int) (z : Int) rd), (ovl a1 s b))) (m' := 155) (as := [Vr 166, Vi (xvL X ((n + 1)))]) (S' := [Vi (if 0 ≤ (xvL X ((n + 1))) ∧ (xvL X ((n + 1))) ≤ ((gt G : Nat) : Int) then 1 else 0)]) (L0 := [Vr 166, Vi (xvL X ((n + 1)))]) (fun _ => rfl) rfl rfl rfl rfl rfl rfl (g_end (a := a1) (xvL X ((n + 1))) hM) (fun r h' hq => ?_)
  obtain ⟨rfl, b1, rfl, hM1⟩ := hq
  show Ev X _ _ 245 [Vr (-2), Vr 0, Vr 166, Vi (n : Int)] [Vi (if 0 ≤ (xvL X ((n + 1))) ∧ (xvL X ((n + 1))) ≤ ((gt G : Nat) : Int) then 1 else 0), Vi (if 0 ≤ (xvL X ((n + 1))) ∧ (xvL X ((n + 1))) ≤ ((gt G : Nat) : Int) then 1 else 0)] ((SHv (y : Int) (z : Int) rd), (ovl a1 s b1)) _
  refine Ev.ite (P := (if 0 ≤ (xvL X ((n + 1))) ∧ (xvL X ((n + 1))) ≤ ((gt G : Nat) : Int) then 1 else 0) = (if 0 ≤ (xvL X ((n + 1))) ∧ (xvL X ((n + 1))) ≤ ((gt G : Nat) : Int) then 1 else 0)) (k := 1) (a := 1133) (b := 248) (L' := [Vr (-2), Vr 0, Vr 166, Vi (n : Int)]) (S' := []) (h' := ((SHv (y : Int) (z : Int) rd), (ovl a1 s b1))) (fun _ => rfl) (fun b245 => ?_) (fun b245 => ?_)
  · exact K _ _ _ _ _ _ _ hT1 hM1 (by unfold nEnd; split <;> exact hNV)
  · exact absurd rfl b245
theorem law_2 {X : List Int} {d n : Nat} {Q : Option pm_V → pm_H → Prop} (hX : X.length ≤ 3072) (hn : n + 6 ≤ X.length) (K : LawK X d Q n) {G : GST} {a s b : C3} {rd : Int} {y z : Nat} (hT : TopC G a rd y z) (hM : TopM G b) (hNV : NmV (gS G)) : Ev X (d + 403) 259 250 [Vr (-2), Vr 0, Vr 166, Vi (n : Int)] [] (SHv (y : Int) (z : Int) rd, ovl a s b) Q := by
  have hTC := hT.2.2.2.2.2.2.2.2.2.1
  refine Ev.call (k := 1) (pc1 := 251) (L1 := [Vr (-2), Vr 0, Vr 166, Vi (n : Int)]) (S1 := [Vr 0]) (h1 := ((SHv (y : Int) (z : Int) rd), (ovl a s b))) (m' := 21) (as := [Vr 0]) (S' := []) (L0 := [Vr 0, Vx, Vx]) (fun _ => rfl) rfl rfl rfl rfl rfl rfl (h_text (b := b) (s := s) hT) (fun r h' hq => ?_)
  obtain ⟨rfl, a1, rd1, y1, z1, rfl, hT1⟩ := hq
  show Ev X _ _ 254 [Vr (-2), Vr 0, Vr 166, Vi (n : Int)] [Vi (aText G)] ((SHv (y1 : Int) (z1 : Int) rd1), (ovl a1 s b)) _
  refine Ev.call (k := 1) (pc1 := 255) (L1 := [Vr (-2), Vr 0, Vr 166, Vi (n : Int)]) (S1 := [Vr 166, Vi (aText G)]) (h1 := ((SHv (y1 : Int) (z1 : Int) rd1), (ovl a1 s b))) (m' := 156) (as := [Vr 166]) (S' := [Vi (aText G)]) (L0 := [Vr 166, Vx]) (fun _ => rfl) rfl rfl rfl rfl rfl rfl (g_text (a := a1) hM) (fun r h' hq => ?_)
  obtain ⟨rfl, b1, rfl, hM1⟩ := hq
  show Ev X _ _ 258 [Vr (-2), Vr 0, Vr 166, Vi (n : Int)] [Vi (aText G), Vi (aText G)] ((SHv (y1 : Int) (z1 : Int) rd1), (ovl a1 s b1)) _
  refine Ev.ite (P := (aText G) = (aText G)) (k := 1) (a := 1133) (b := 261) (L' := [Vr (-2), Vr 0, Vr 166, Vi (n : Int)]) (S' := []) (h' := ((SHv (y1 : Int) (z1 : Int) rd1), (ovl a1 s b1))) (fun _ => rfl) (fun b258 => ?_) (fun b258 => ?_)
  · exact K _ _ _ _ _ _ _ hT1 hM1 (nText_nm ⟨hTC.1, fun i hi => (hTC.2.2 i hi).2⟩ hNV)
  · exact absurd rfl b258
theorem law_3 {X : List Int} {d n : Nat} {Q : Option pm_V → pm_H → Prop} (hX : X.length ≤ 3072) (hn : n + 6 ≤ X.length) (K : LawK X d Q n) {G : GST} {a s b : C3} {rd : Int} {y z : Nat} (hT : TopC G a rd y z) (hM : TopM G b) (hNV : NmV (gS G)) : Ev X (d + 403) 259 263 [Vr (-2), Vr 0, Vr 166, Vi (n : Int)] [] (SHv (y : Int) (z : Int) rd, ovl a s b) Q := by
  refine Ev.steps (k := 5) (pc' := 268) (L' := [Vr (-2), Vr 0, Vr 166, Vi (n : Int)]) (S' := [Vi (w32 ((n : Int) + 1)), Vr (-2), Vr 0]) (h' := ((SHv (y : Int) (z : Int) rd), (ovl a s b))) (fun _ => rfl) ?_
  rw [show (w32 ((n : Int) + 1)) = ((n : Int) + 1) from w32_id (by unfold R32; omega)]
  refine Ev.rald (v := (xvL X ((n + 1)))) rfl (by decide) rfl (by omega) (xv_at (by omega)) ?_
  refine Ev.call (k := 0) (pc1 := 269) (L1 := [Vr (-2), Vr 0, Vr 166, Vi (n : Int)]) (S1 := [Vi (xvL X ((n + 1))), Vr 0]) (h1 := ((SHv (y : Int) (z : Int) rd), (ovl a s b))) (m' := 66) (as := [Vr 0, Vi (xvL X ((n + 1)))]) (S' := []) (L0 := [Vr 0, Vi (xvL X ((n + 1)))]) (fun _ => rfl) rfl rfl rfl rfl rfl rfl (h_fault (b := b) (s := s) hT (xvL X ((n + 1)))) (fun r h' hq => ?_)
  obtain ⟨rfl, rfl⟩ := hq
  have hT1 := hT
  show Ev X _ _ 272 [Vr (-2), Vr 0, Vr 166, Vi (n : Int)] [Vi (if (xvL X ((n + 1))) = 0 then gk G else if (xvL X ((n + 1))) = 1 then gp G else -1)] ((SHv (y : Int) (z : Int) rd), (ovl a s b)) _
  refine Ev.steps (k := 5) (pc' := 277) (L' := [Vr (-2), Vr 0, Vr 166, Vi (n : Int)]) (S' := [Vi (w32 ((n : Int) + 1)), Vr (-2), Vr 166, Vi (if (xvL X ((n + 1))) = 0 then gk G else if (xvL X ((n + 1))) = 1 then gp G else -1)]) (h' := ((SHv (y : Int) (z : Int) rd), (ovl a s b))) (fun _ => rfl) ?_
  rw [show (w32 ((n : Int) + 1)) = ((n : Int) + 1) from w32_id (by unfold R32; omega)]
  refine Ev.rald (v := (xvL X ((n + 1)))) rfl (by decide) rfl (by omega) (xv_at (by omega)) ?_
  refine Ev.call (k := 0) (pc1 := 278) (L1 := [Vr (-2), Vr 0, Vr 166, Vi (n : Int)]) (S1 := [Vi (xvL X ((n + 1))), Vr 166, Vi (if (xvL X ((n + 1))) = 0 then gk G else if (xvL X ((n + 1))) = 1 then gp G else -1)]) (h1 := ((SHv (y : Int) (z : Int) rd), (ovl a s b))) (m' := 192) (as := [Vr 166, Vi (xvL X ((n + 1)))]) (S' := [Vi (if (xvL X ((n + 1))) = 0 then gk G else if (xvL X ((n + 1))) = 1 then gp G else -1)]) (L0 := [Vr 166, Vi (xvL X ((n + 1)))]) (fun _ => rfl) rfl rfl rfl rfl rfl rfl (g_fault (a := a) (xvL X ((n + 1))) hM) (fun r h' hq => ?_)
  obtain ⟨rfl, rfl⟩ := hq
  have hM1 := hM
  show Ev X _ _ 281 [Vr (-2), Vr 0, Vr 166, Vi (n : Int)] [Vi (if (xvL X ((n + 1))) = 0 then gk G else if (xvL X ((n + 1))) = 1 then gp G else -1), Vi (if (xvL X ((n + 1))) = 0 then gk G else if (xvL X ((n + 1))) = 1 then gp G else -1)] ((SHv (y : Int) (z : Int) rd), (ovl a s b)) _
  refine Ev.ite (P := (if (xvL X ((n + 1))) = 0 then gk G else if (xvL X ((n + 1))) = 1 then gp G else -1) = (if (xvL X ((n + 1))) = 0 then gk G else if (xvL X ((n + 1))) = 1 then gp G else -1)) (k := 1) (a := 1133) (b := 284) (L' := [Vr (-2), Vr 0, Vr 166, Vi (n : Int)]) (S' := []) (h' := ((SHv (y : Int) (z : Int) rd), (ovl a s b))) (fun _ => rfl) (fun b281 => ?_) (fun b281 => ?_)
  · exact K _ _ _ _ _ _ _ hT1 hM1 hNV
  · exact absurd rfl b281
theorem law_4 {X : List Int} {d n : Nat} {Q : Option pm_V → pm_H → Prop} (hX : X.length ≤ 3072) (hn : n + 6 ≤ X.length) (K : LawK X d Q n) {G : GST} {a s b : C3} {rd : Int} {y z : Nat} (hT : TopC G a rd y z) (hM : TopM G b) (hNV : NmV (gS G)) : Ev X (d + 403) 259 286 [Vr (-2), Vr 0, Vr 166, Vi (n : Int)] [] (SHv (y : Int) (z : Int) rd, ovl a s b) Q := by
  refine Ev.steps (k := 5) (pc' := 291) (L' := [Vr (-2), Vr 0, Vr 166, Vi (n : Int)]) (S' := [Vi (w32 ((n : Int) + 1)), Vr (-2), Vr 0]) (h' := ((SHv (y : Int) (z : Int) rd), (ovl a s b))) (fun _ => rfl) ?_
  rw [show (w32 ((n : Int) + 1)) = ((n : Int) + 1) from w32_id (by unfold R32; omega)]
  refine Ev.rald (v := (xvL X ((n + 1)))) rfl (by decide) rfl (by omega) (xv_at (by omega)) ?_
  refine Ev.call (k := 0) (pc1 := 292) (L1 := [Vr (-2), Vr 0, Vr 166, Vi (n : Int)]) (S1 := [Vi (xvL X ((n + 1))), Vr 0]) (h1 := ((SHv (y : Int) (z : Int) rd), (ovl a s b))) (m' := 67) (as := [Vr 0, Vi (xvL X ((n + 1)))]) (S' := []) (L0 := [Vr 0, Vi (xvL X ((n + 1)))]) (fun _ => rfl) rfl rfl rfl rfl rfl rfl (h_has (b := b) (s := s) hT (xvL X ((n + 1)))) (fun r h' hq => ?_)
  obtain ⟨rfl, rfl⟩ := hq
  have hT1 := hT
  show Ev X _ _ 295 [Vr (-2), Vr 0, Vr 166, Vi (n : Int)] [Vi (aHas G (xvL X ((n + 1))))] ((SHv (y : Int) (z : Int) rd), (ovl a s b)) _
  refine Ev.steps (k := 5) (pc' := 300) (L' := [Vr (-2), Vr 0, Vr 166, Vi (n : Int)]) (S' := [Vi (w32 ((n : Int) + 1)), Vr (-2), Vr 166, Vi (aHas G (xvL X ((n + 1))))]) (h' := ((SHv (y : Int) (z : Int) rd), (ovl a s b))) (fun _ => rfl) ?_
  rw [show (w32 ((n : Int) + 1)) = ((n : Int) + 1) from w32_id (by unfold R32; omega)]
  refine Ev.rald (v := (xvL X ((n + 1)))) rfl (by decide) rfl (by omega) (xv_at (by omega)) ?_
  refine Ev.call (k := 0) (pc1 := 301) (L1 := [Vr (-2), Vr 0, Vr 166, Vi (n : Int)]) (S1 := [Vi (xvL X ((n + 1))), Vr 166, Vi (aHas G (xvL X ((n + 1))))]) (h1 := ((SHv (y : Int) (z : Int) rd), (ovl a s b))) (m' := 193) (as := [Vr 166, Vi (xvL X ((n + 1)))]) (S' := [Vi (aHas G (xvL X ((n + 1))))]) (L0 := [Vr 166, Vi (xvL X ((n + 1)))]) (fun _ => rfl) rfl rfl rfl rfl rfl rfl (g_has (a := a) (xvL X ((n + 1))) hM) (fun r h' hq => ?_)
  obtain ⟨rfl, rfl⟩ := hq
  have hM1 := hM
  show Ev X _ _ 304 [Vr (-2), Vr 0, Vr 166, Vi (n : Int)] [Vi (aHas G (xvL X ((n + 1)))), Vi (aHas G (xvL X ((n + 1))))] ((SHv (y : Int) (z : Int) rd), (ovl a s b)) _
  refine Ev.ite (P := (aHas G (xvL X ((n + 1)))) = (aHas G (xvL X ((n + 1))))) (k := 1) (a := 1133) (b := 307) (L' := [Vr (-2), Vr 0, Vr 166, Vi (n : Int)]) (S' := []) (h' := ((SHv (y : Int) (z : Int) rd), (ovl a s b))) (fun _ => rfl) (fun b304 => ?_) (fun b304 => ?_)
  · exact K _ _ _ _ _ _ _ hT1 hM1 hNV
  · exact absurd rfl b304
theorem law_5 {X : List Int} {d n : Nat} {Q : Option pm_V → pm_H → Prop} (hX : X.length ≤ 3072) (hn : n + 6 ≤ X.length) (K : LawK X d Q n) {G : GST} {a s b : C3} {rd : Int} {y z : Nat} (hT : TopC G a rd y z) (hM : TopM G b) (hNV : NmV (gS G)) : Ev X (d + 403) 259 309 [Vr (-2), Vr 0, Vr 166, Vi (n : Int)] [] (SHv (y : Int) (z : Int) rd, ovl a s b) Q := by
  refine Ev.steps (k := 5) (pc' := 314) (L' := [Vr (-2), Vr 0, Vr 166, Vi (n : Int)]) (S' := [Vi (w32 ((n : Int) + 1)), Vr (-2), Vr 0]) (h' := ((SHv (y : Int) (z : Int) rd), (ovl a s b))) (fun _ => rfl) ?_
  rw [show (w32 ((n : Int) + 1)) = ((n : Int) + 1) from w32_id (by unfold R32; omega)]
  refine Ev.rald (v := (xvL X ((n + 1)))) rfl (by decide) rfl (by omega) (xv_at (by omega)) ?_
  refine Ev.steps (k := 4) (pc' := 319) (L' := [Vr (-2), Vr 0, Vr 166, Vi (n : Int)]) (S' := [Vi (w32 ((n : Int) + 2)), Vr (-2), Vi (xvL X ((n + 1))), Vr 0]) (h' := ((SHv (y : Int) (z : Int) rd), (ovl a s b))) (fun _ => rfl) ?_
  rw [show (w32 ((n : Int) + 2)) = ((n : Int) + 2) from w32_id (by unfold R32; omega)]
  refine Ev.rald (v := (xvL X ((n + 2)))) rfl (by decide) rfl (by omega) (xv_at (by omega)) ?_
  refine Ev.steps (k := 4) (pc' := 324) (L' := [Vr (-2), Vr 0, Vr 166, Vi (n : Int)]) (S' := [Vi (w32 ((n : Int) + 3)), Vr (-2), Vi (xvL X ((n + 2))), Vi (xvL X ((n + 1))), Vr 0]) (h' := ((SHv (y : Int) (z : Int) rd), (ovl a s b))) (fun _ => rfl) ?_
  rw [show (w32 ((n : Int) + 3)) = ((n : Int) + 3) from w32_id (by unfold R32; omega)]
  refine Ev.rald (v := (xvL X ((n + 3)))) rfl (by decide) rfl (by omega) (xv_at (by omega)) ?_
  refine Ev.call (k := 0) (pc1 := 325) (L1 := [Vr (-2), Vr 0, Vr 166, Vi (n : Int)]) (S1 := [Vi (xvL X ((n + 3))), Vi (xvL X ((n + 2))), Vi (xvL X ((n + 1))), Vr 0]) (h1 := ((SHv (y : Int) (z : Int) rd), (ovl a s b))) (m' := 68) (as := [Vr 0, Vi (xvL X ((n + 1))), Vi (xvL X ((n + 2))), Vi (xvL X ((n + 3)))]) (S' := []) (L0 := [Vr 0, Vi (xvL X ((n + 1))), Vi (xvL X ((n + 2))), Vi (xvL X ((n + 3)))]) (fun _ => rfl) rfl rfl rfl rfl rfl rfl (h_letter (b := b) (s := s) hT hNV (xvL X ((n + 1))) (xvL X ((n + 2))) (xvL X ((n + 3)))) (fun r h' hq => ?_)
  obtain ⟨rfl, rfl⟩ := hq
  have hT1 := hT
  show Ev X _ _ 328 [Vr (-2), Vr 0, Vr 166, Vi (n : Int)] [Vi (aLetter G (xvL X ((n + 1))) (xvL X ((n + 2))) (xvL X ((n + 3))))] ((SHv (y : Int) (z : Int) rd), (ovl a s b)) _
  refine Ev.steps (k := 5) (pc' := 333) (L' := [Vr (-2), Vr 0, Vr 166, Vi (n : Int)]) (S' := [Vi (w32 ((n : Int) + 1)), Vr (-2), Vr 166, Vi (aLetter G (xvL X ((n + 1))) (xvL X ((n + 2))) (xvL X ((n + 3))))]) (h' := ((SHv (y : Int) (z : Int) rd), (ovl a s b))) (fun _ => rfl) ?_
  rw [show (w32 ((n : Int) + 1)) = ((n : Int) + 1) from w32_id (by unfold R32; omega)]
  refine Ev.rald (v := (xvL X ((n + 1)))) rfl (by decide) rfl (by omega) (xv_at (by omega)) ?_
  refine Ev.steps (k := 4) (pc' := 338) (L' := [Vr (-2), Vr 0, Vr 166, Vi (n : Int)]) (S' := [Vi (w32 ((n : Int) + 2)), Vr (-2), Vi (xvL X ((n + 1))), Vr 166, Vi (aLetter G (xvL X ((n + 1))) (xvL X ((n + 2))) (xvL X ((n + 3))))]) (h' := ((SHv (y : Int) (z : Int) rd), (ovl a s b))) (fun _ => rfl) ?_
  rw [show (w32 ((n : Int) + 2)) = ((n : Int) + 2) from w32_id (by unfold R32; omega)]
  refine Ev.rald (v := (xvL X ((n + 2)))) rfl (by decide) rfl (by omega) (xv_at (by omega)) ?_
  refine Ev.steps (k := 4) (pc' := 343) (L' := [Vr (-2), Vr 0, Vr 166, Vi (n : Int)]) (S' := [Vi (w32 ((n : Int) + 3)), Vr (-2), Vi (xvL X ((n + 2))), Vi (xvL X ((n + 1))), Vr 166, Vi (aLetter G (xvL X ((n + 1))) (xvL X ((n + 2))) (xvL X ((n + 3))))]) (h' := ((SHv (y : Int) (z : Int) rd), (ovl a s b))) (fun _ => rfl) ?_
  rw [show (w32 ((n : Int) + 3)) = ((n : Int) + 3) from w32_id (by unfold R32; omega)]
  refine Ev.rald (v := (xvL X ((n + 3)))) rfl (by decide) rfl (by omega) (xv_at (by omega)) ?_
  refine Ev.call (k := 0) (pc1 := 344) (L1 := [Vr (-2), Vr 0, Vr 166, Vi (n : Int)]) (S1 := [Vi (xvL X ((n + 3))), Vi (xvL X ((n + 2))), Vi (xvL X ((n + 1))), Vr 166, Vi (aLetter G (xvL X ((n + 1))) (xvL X ((n + 2))) (xvL X ((n + 3))))]) (h1 := ((SHv (y : Int) (z : Int) rd), (ovl a s b))) (m' := 194) (as := [Vr 166, Vi (xvL X ((n + 1))), Vi (xvL X ((n + 2))), Vi (xvL X ((n + 3)))]) (S' := [Vi (aLetter G (xvL X ((n + 1))) (xvL X ((n + 2))) (xvL X ((n + 3))))]) (L0 := [Vr 166, Vi (xvL X ((n + 1))), Vi (xvL X ((n + 2))), Vi (xvL X ((n + 3)))]) (fun _ => rfl) rfl rfl rfl rfl rfl rfl (g_letter (a := a) (xvL X ((n + 1))) (xvL X ((n + 2))) (xvL X ((n + 3))) hM hNV) (fun r h' hq => ?_)
  obtain ⟨rfl, rfl⟩ := hq
  have hM1 := hM
  show Ev X _ _ 347 [Vr (-2), Vr 0, Vr 166, Vi (n : Int)] [Vi (aLetter G (xvL X ((n + 1))) (xvL X ((n + 2))) (xvL X ((n + 3)))), Vi (aLetter G (xvL X ((n + 1))) (xvL X ((n + 2))) (xvL X ((n + 3))))] ((SHv (y : Int) (z : Int) rd), (ovl a s b)) _
  refine Ev.ite (P := (aLetter G (xvL X ((n + 1))) (xvL X ((n + 2))) (xvL X ((n + 3)))) = (aLetter G (xvL X ((n + 1))) (xvL X ((n + 2))) (xvL X ((n + 3))))) (k := 1) (a := 1133) (b := 350) (L' := [Vr (-2), Vr 0, Vr 166, Vi (n : Int)]) (S' := []) (h' := ((SHv (y : Int) (z : Int) rd), (ovl a s b))) (fun _ => rfl) (fun b347 => ?_) (fun b347 => ?_)
  · exact K _ _ _ _ _ _ _ hT1 hM1 hNV
  · exact absurd rfl b347
theorem law_6 {X : List Int} {d n : Nat} {Q : Option pm_V → pm_H → Prop} (hX : X.length ≤ 3072) (hn : n + 6 ≤ X.length) (K : LawK X d Q n) {G : GST} {a s b : C3} {rd : Int} {y z : Nat} (hT : TopC G a rd y z) (hM : TopM G b) (hNV : NmV (gS G)) : Ev X (d + 403) 259 352 [Vr (-2), Vr 0, Vr 166, Vi (n : Int)] [] (SHv (y : Int) (z : Int) rd, ovl a s b) Q := by
  refine Ev.steps (k := 5) (pc' := 357) (L' := [Vr (-2), Vr 0, Vr 166, Vi (n : Int)]) (S' := [Vi (w32 ((n : Int) + 1)), Vr (-2), Vr 0]) (h' := ((SHv (y : Int) (z : Int) rd), (ovl a s b))) (fun _ => rfl) ?_
  rw [show (w32 ((n : Int) + 1)) = ((n : Int) + 1) from w32_id (by unfold R32; omega)]
  refine Ev.rald (v := (xvL X ((n + 1)))) rfl (by decide) rfl (by omega) (xv_at (by omega)) ?_
  refine Ev.steps (k := 4) (pc' := 362) (L' := [Vr (-2), Vr 0, Vr 166, Vi (n : Int)]) (S' := [Vi (w32 ((n : Int) + 2)), Vr (-2), Vi (xvL X ((n + 1))), Vr 0]) (h' := ((SHv (y : Int) (z : Int) rd), (ovl a s b))) (fun _ => rfl) ?_
  rw [show (w32 ((n : Int) + 2)) = ((n : Int) + 2) from w32_id (by unfold R32; omega)]
  refine Ev.rald (v := (xvL X ((n + 2)))) rfl (by decide) rfl (by omega) (xv_at (by omega)) ?_
  refine Ev.call (k := 0) (pc1 := 363) (L1 := [Vr (-2), Vr 0, Vr 166, Vi (n : Int)]) (S1 := [Vi (xvL X ((n + 2))), Vi (xvL X ((n + 1))), Vr 0]) (h1 := ((SHv (y : Int) (z : Int) rd), (ovl a s b))) (m' := 71) (as := [Vr 0, Vi (xvL X ((n + 1))), Vi (xvL X ((n + 2)))]) (S' := []) (L0 := [Vr 0, Vi (xvL X ((n + 1))), Vi (xvL X ((n + 2)))]) (fun _ => rfl) rfl rfl rfl rfl rfl rfl (h_begin (b := b) (s := s) hT (xvL X ((n + 1))) (xvL X ((n + 2)))) (fun r h' hq => ?_)
  obtain ⟨rfl, a1, rfl, hT1⟩ := hq
  show Ev X _ _ 366 [Vr (-2), Vr 0, Vr 166, Vi (n : Int)] [Vi (if okW G (xvL X ((n + 1))) ∧ okR G (xvL X ((n + 2))) then 1 else 0)] ((SHv (y : Int) (z : Int) rd), (ovl a1 s b)) _
  refine Ev.steps (k := 5) (pc' := 371) (L' := [Vr (-2), Vr 0, Vr 166, Vi (n : Int)]) (S' := [Vi (w32 ((n : Int) + 1)), Vr (-2), Vr 166, Vi (if okW G (xvL X ((n + 1))) ∧ okR G (xvL X ((n + 2))) then 1 else 0)]) (h' := ((SHv (y : Int) (z : Int) rd), (ovl a1 s b))) (fun _ => rfl) ?_
  rw [show (w32 ((n : Int) + 1)) = ((n : Int) + 1) from w32_id (by unfold R32; omega)]
  refine Ev.rald (v := (xvL X ((n + 1)))) rfl (by decide) rfl (by omega) (xv_at (by omega)) ?_
  refine Ev.steps (k := 4) (pc' := 376) (L' := [Vr (-2), Vr 0, Vr 166, Vi (n : Int)]) (S' := [Vi (w32 ((n : Int) + 2)), Vr (-2), Vi (xvL X ((n + 1))), Vr 166, Vi (if okW G (xvL X ((n + 1))) ∧ okR G (xvL X ((n + 2))) then 1 else 0)]) (h' := ((SHv (y : Int) (z : Int) rd), (ovl a1 s b))) (fun _ => rfl) ?_
  rw [show (w32 ((n : Int) + 2)) = ((n : Int) + 2) from w32_id (by unfold R32; omega)]
  refine Ev.rald (v := (xvL X ((n + 2)))) rfl (by decide) rfl (by omega) (xv_at (by omega)) ?_
  refine Ev.call (k := 0) (pc1 := 377) (L1 := [Vr (-2), Vr 0, Vr 166, Vi (n : Int)]) (S1 := [Vi (xvL X ((n + 2))), Vi (xvL X ((n + 1))), Vr 166, Vi (if okW G (xvL X ((n + 1))) ∧ okR G (xvL X ((n + 2))) then 1 else 0)]) (h1 := ((SHv (y : Int) (z : Int) rd), (ovl a1 s b))) (m' := 199) (as := [Vr 166, Vi (xvL X ((n + 1))), Vi (xvL X ((n + 2)))]) (S' := [Vi (if okW G (xvL X ((n + 1))) ∧ okR G (xvL X ((n + 2))) then 1 else 0)]) (L0 := [Vr 166, Vi (xvL X ((n + 1))), Vi (xvL X ((n + 2)))]) (fun _ => rfl) rfl rfl rfl rfl rfl rfl (g_begin (a := a1) (xvL X ((n + 1))) (xvL X ((n + 2))) hM) (fun r h' hq => ?_)
  obtain ⟨rfl, b1, rfl, hM1⟩ := hq
  show Ev X _ _ 380 [Vr (-2), Vr 0, Vr 166, Vi (n : Int)] [Vi (if okW G (xvL X ((n + 1))) ∧ okR G (xvL X ((n + 2))) then 1 else 0), Vi (if okW G (xvL X ((n + 1))) ∧ okR G (xvL X ((n + 2))) then 1 else 0)] ((SHv (y : Int) (z : Int) rd), (ovl a1 s b1)) _
  refine Ev.ite (P := (if okW G (xvL X ((n + 1))) ∧ okR G (xvL X ((n + 2))) then 1 else 0) = (if okW G (xvL X ((n + 1))) ∧ okR G (xvL X ((n + 2))) then 1 else 0)) (k := 1) (a := 1133) (b := 383) (L' := [Vr (-2), Vr 0, Vr 166, Vi (n : Int)]) (S' := []) (h' := ((SHv (y : Int) (z : Int) rd), (ovl a1 s b1))) (fun _ => rfl) (fun b380 => ?_) (fun b380 => ?_)
  · exact K _ _ _ _ _ _ _ hT1 hM1 (by unfold nBegin; split <;> exact hNV)
  · exact absurd rfl b380
theorem law_7 {X : List Int} {d n : Nat} {Q : Option pm_V → pm_H → Prop} (hX : X.length ≤ 3072) (hn : n + 6 ≤ X.length) (K : LawK X d Q n) {G : GST} {a s b : C3} {rd : Int} {y z : Nat} (hT : TopC G a rd y z) (hM : TopM G b) (hNV : NmV (gS G)) : Ev X (d + 403) 259 385 [Vr (-2), Vr 0, Vr 166, Vi (n : Int)] [] (SHv (y : Int) (z : Int) rd, ovl a s b) Q := by
  refine Ev.steps (k := 5) (pc' := 390) (L' := [Vr (-2), Vr 0, Vr 166, Vi (n : Int)]) (S' := [Vi (w32 ((n : Int) + 1)), Vr (-2), Vr 0]) (h' := ((SHv (y : Int) (z : Int) rd), (ovl a s b))) (fun _ => rfl) ?_
  rw [show (w32 ((n : Int) + 1)) = ((n : Int) + 1) from w32_id (by unfold R32; omega)]
  refine Ev.rald (v := (xvL X ((n + 1)))) rfl (by decide) rfl (by omega) (xv_at (by omega)) ?_
  refine Ev.steps (k := 4) (pc' := 395) (L' := [Vr (-2), Vr 0, Vr 166, Vi (n : Int)]) (S' := [Vi (w32 ((n : Int) + 2)), Vr (-2), Vi (xvL X ((n + 1))), Vr 0]) (h' := ((SHv (y : Int) (z : Int) rd), (ovl a s b))) (fun _ => rfl) ?_
  rw [show (w32 ((n : Int) + 2)) = ((n : Int) + 2) from w32_id (by unfold R32; omega)]
  refine Ev.rald (v := (xvL X ((n + 2)))) rfl (by decide) rfl (by omega) (xv_at (by omega)) ?_
  refine Ev.call (k := 0) (pc1 := 396) (L1 := [Vr (-2), Vr 0, Vr 166, Vi (n : Int)]) (S1 := [Vi (xvL X ((n + 2))), Vi (xvL X ((n + 1))), Vr 0]) (h1 := ((SHv (y : Int) (z : Int) rd), (ovl a s b))) (m' := 72) (as := [Vr 0, Vi (xvL X ((n + 1))), Vi (xvL X ((n + 2)))]) (S' := []) (L0 := [Vr 0, Vi (xvL X ((n + 1))), Vi (xvL X ((n + 2)))]) (fun _ => rfl) rfl rfl rfl rfl rfl rfl (h_put (b := b) (s := s) hT (xvL X ((n + 1))) (xvL X ((n + 2)))) (fun r h' hq => ?_)
  obtain ⟨rfl, a1, rfl, hT1⟩ := hq
  show Ev X _ _ 399 [Vr (-2), Vr 0, Vr 166, Vi (n : Int)] [Vi (if okT G (xvL X ((n + 1))) ∧ okR G (xvL X ((n + 2))) then 1 else 0)] ((SHv (y : Int) (z : Int) rd), (ovl a1 s b)) _
  refine Ev.steps (k := 5) (pc' := 404) (L' := [Vr (-2), Vr 0, Vr 166, Vi (n : Int)]) (S' := [Vi (w32 ((n : Int) + 1)), Vr (-2), Vr 166, Vi (if okT G (xvL X ((n + 1))) ∧ okR G (xvL X ((n + 2))) then 1 else 0)]) (h' := ((SHv (y : Int) (z : Int) rd), (ovl a1 s b))) (fun _ => rfl) ?_
  rw [show (w32 ((n : Int) + 1)) = ((n : Int) + 1) from w32_id (by unfold R32; omega)]
  refine Ev.rald (v := (xvL X ((n + 1)))) rfl (by decide) rfl (by omega) (xv_at (by omega)) ?_
  refine Ev.steps (k := 4) (pc' := 409) (L' := [Vr (-2), Vr 0, Vr 166, Vi (n : Int)]) (S' := [Vi (w32 ((n : Int) + 2)), Vr (-2), Vi (xvL X ((n + 1))), Vr 166, Vi (if okT G (xvL X ((n + 1))) ∧ okR G (xvL X ((n + 2))) then 1 else 0)]) (h' := ((SHv (y : Int) (z : Int) rd), (ovl a1 s b))) (fun _ => rfl) ?_
  rw [show (w32 ((n : Int) + 2)) = ((n : Int) + 2) from w32_id (by unfold R32; omega)]
  refine Ev.rald (v := (xvL X ((n + 2)))) rfl (by decide) rfl (by omega) (xv_at (by omega)) ?_
  refine Ev.call (k := 0) (pc1 := 410) (L1 := [Vr (-2), Vr 0, Vr 166, Vi (n : Int)]) (S1 := [Vi (xvL X ((n + 2))), Vi (xvL X ((n + 1))), Vr 166, Vi (if okT G (xvL X ((n + 1))) ∧ okR G (xvL X ((n + 2))) then 1 else 0)]) (h1 := ((SHv (y : Int) (z : Int) rd), (ovl a1 s b))) (m' := 200) (as := [Vr 166, Vi (xvL X ((n + 1))), Vi (xvL X ((n + 2)))]) (S' := [Vi (if okT G (xvL X ((n + 1))) ∧ okR G (xvL X ((n + 2))) then 1 else 0)]) (L0 := [Vr 166, Vi (xvL X ((n + 1))), Vi (xvL X ((n + 2)))]) (fun _ => rfl) rfl rfl rfl rfl rfl rfl (g_put (a := a1) (xvL X ((n + 1))) (xvL X ((n + 2))) hM) (fun r h' hq => ?_)
  obtain ⟨rfl, b1, rfl, hM1⟩ := hq
  show Ev X _ _ 413 [Vr (-2), Vr 0, Vr 166, Vi (n : Int)] [Vi (if okT G (xvL X ((n + 1))) ∧ okR G (xvL X ((n + 2))) then 1 else 0), Vi (if okT G (xvL X ((n + 1))) ∧ okR G (xvL X ((n + 2))) then 1 else 0)] ((SHv (y : Int) (z : Int) rd), (ovl a1 s b1)) _
  refine Ev.ite (P := (if okT G (xvL X ((n + 1))) ∧ okR G (xvL X ((n + 2))) then 1 else 0) = (if okT G (xvL X ((n + 1))) ∧ okR G (xvL X ((n + 2))) then 1 else 0)) (k := 1) (a := 1133) (b := 416) (L' := [Vr (-2), Vr 0, Vr 166, Vi (n : Int)]) (S' := []) (h' := ((SHv (y : Int) (z : Int) rd), (ovl a1 s b1))) (fun _ => rfl) (fun b413 => ?_) (fun b413 => ?_)
  · exact K _ _ _ _ _ _ _ hT1 hM1 (by unfold nPut; split <;> exact hNV)
  · exact absurd rfl b413
theorem law_8 {X : List Int} {d n : Nat} {Q : Option pm_V → pm_H → Prop} (hX : X.length ≤ 3072) (hn : n + 6 ≤ X.length) (K : LawK X d Q n) {G : GST} {a s b : C3} {rd : Int} {y z : Nat} (hT : TopC G a rd y z) (hM : TopM G b) (hNV : NmV (gS G)) : Ev X (d + 403) 259 418 [Vr (-2), Vr 0, Vr 166, Vi (n : Int)] [] (SHv (y : Int) (z : Int) rd, ovl a s b) Q := by
  by_cases hz : (xvL X (n + 2)) = 0
  · refine Ev.steps (k := 5) (pc' := 423) (L' := [Vr (-2), Vr 0, Vr 166, Vi (n : Int)]) (S' := [Vi (w32 ((n : Int) + 1)), Vr (-2), Vr 0]) (h' := ((SHv (y : Int) (z : Int) rd), (ovl a s b))) (fun _ => rfl) ?_
    rw [show (w32 ((n : Int) + 1)) = ((n : Int) + 1) from w32_id (by unfold R32; omega)]
    refine Ev.rald (v := (xvL X ((n + 1)))) rfl (by decide) rfl (by omega) (xv_at (by omega)) ?_
    refine Ev.steps (k := 4) (pc' := 428) (L' := [Vr (-2), Vr 0, Vr 166, Vi (n : Int)]) (S' := [Vi (w32 ((n : Int) + 2)), Vr (-2), Vi (xvL X ((n + 1))), Vr 0]) (h' := ((SHv (y : Int) (z : Int) rd), (ovl a s b))) (fun _ => rfl) ?_
    rw [show (w32 ((n : Int) + 2)) = ((n : Int) + 2) from w32_id (by unfold R32; omega)]
    refine Ev.rald (v := (xvL X ((n + 2)))) rfl (by decide) rfl (by omega) (xv_at (by omega)) ?_
    refine Ev.ite (P := (xvL X ((n + 2))) = 0) (k := 1) (a := 436) (b := 432) (L' := [Vr (-2), Vr 0, Vr 166, Vi (n : Int)]) (S' := [Vi (xvL X ((n + 1))), Vr 0]) (h' := ((SHv (y : Int) (z : Int) rd), (ovl a s b))) (fun _ => rfl) (fun b429 => ?_) (fun b429 => ?_)
    · refine Ev.call (k := 1) (pc1 := 437) (L1 := [Vr (-2), Vr 0, Vr 166, Vi (n : Int)]) (S1 := [Vi 0, Vi (xvL X ((n + 1))), Vr 0]) (h1 := ((SHv (y : Int) (z : Int) rd), (ovl a s b))) (m' := 73) (as := [Vr 0, Vi (xvL X ((n + 1))), Vi 0]) (S' := []) (L0 := [Vr 0, Vi (xvL X ((n + 1))), Vi 0]) (fun _ => rfl) rfl rfl rfl rfl rfl rfl (h_skip (b := b) (s := s) hT (xvL X ((n + 1))) 0 (by omega)) (fun r h' hq => ?_)
      obtain ⟨rfl, a1, rfl, hT1⟩ := hq
      show Ev X _ _ 440 [Vr (-2), Vr 0, Vr 166, Vi (n : Int)] [Vi (if okRl G (xvL X ((n + 1))) then 1 else 0)] ((SHv (y : Int) (z : Int) rd), (ovl a1 s b)) _
      refine Ev.steps (k := 5) (pc' := 445) (L' := [Vr (-2), Vr 0, Vr 166, Vi (n : Int)]) (S' := [Vi (w32 ((n : Int) + 1)), Vr (-2), Vr 166, Vi (if okRl G (xvL X ((n + 1))) then 1 else 0)]) (h' := ((SHv (y : Int) (z : Int) rd), (ovl a1 s b))) (fun _ => rfl) ?_
      rw [show (w32 ((n : Int) + 1)) = ((n : Int) + 1) from w32_id (by unfold R32; omega)]
      refine Ev.rald (v := (xvL X ((n + 1)))) rfl (by decide) rfl (by omega) (xv_at (by omega)) ?_
      refine Ev.steps (k := 4) (pc' := 450) (L' := [Vr (-2), Vr 0, Vr 166, Vi (n : Int)]) (S' := [Vi (w32 ((n : Int) + 2)), Vr (-2), Vi (xvL X ((n + 1))), Vr 166, Vi (if okRl G (xvL X ((n + 1))) then 1 else 0)]) (h' := ((SHv (y : Int) (z : Int) rd), (ovl a1 s b))) (fun _ => rfl) ?_
      rw [show (w32 ((n : Int) + 2)) = ((n : Int) + 2) from w32_id (by unfold R32; omega)]
      refine Ev.rald (v := (xvL X ((n + 2)))) rfl (by decide) rfl (by omega) (xv_at (by omega)) ?_
      refine Ev.ite (P := (xvL X ((n + 2))) = 0) (k := 1) (a := 458) (b := 454) (L' := [Vr (-2), Vr 0, Vr 166, Vi (n : Int)]) (S' := [Vi (xvL X ((n + 1))), Vr 166, Vi (if okRl G (xvL X ((n + 1))) then 1 else 0)]) (h' := ((SHv (y : Int) (z : Int) rd), (ovl a1 s b))) (fun _ => rfl) (fun b451 => ?_) (fun b451 => ?_)
      · refine Ev.call (k := 1) (pc1 := 459) (L1 := [Vr (-2), Vr 0, Vr 166, Vi (n : Int)]) (S1 := [Vi 0, Vi (xvL X ((n + 1))), Vr 166, Vi (if okRl G (xvL X ((n + 1))) then 1 else 0)]) (h1 := ((SHv (y : Int) (z : Int) rd), (ovl a1 s b))) (m' := 201) (as := [Vr 166, Vi (xvL X ((n + 1))), Vi 0]) (S' := [Vi (if okRl G (xvL X ((n + 1))) then 1 else 0)]) (L0 := [Vr 166, Vi (xvL X ((n + 1))), Vi 0]) (fun _ => rfl) rfl rfl rfl rfl rfl rfl (g_skip (a := a1) (xvL X ((n + 1))) 0 hM (by omega)) (fun r h' hq => ?_)
        obtain ⟨rfl, b1, rfl, hM1⟩ := hq
        show Ev X _ _ 462 [Vr (-2), Vr 0, Vr 166, Vi (n : Int)] [Vi (if okRl G (xvL X ((n + 1))) then 1 else 0), Vi (if okRl G (xvL X ((n + 1))) then 1 else 0)] ((SHv (y : Int) (z : Int) rd), (ovl a1 s b1)) _
        refine Ev.ite (P := (if okRl G (xvL X ((n + 1))) then 1 else 0) = (if okRl G (xvL X ((n + 1))) then 1 else 0)) (k := 1) (a := 1133) (b := 465) (L' := [Vr (-2), Vr 0, Vr 166, Vi (n : Int)]) (S' := []) (h' := ((SHv (y : Int) (z : Int) rd), (ovl a1 s b1))) (fun _ => rfl) (fun b462 => ?_) (fun b462 => ?_)
        · exact K _ _ _ _ _ _ _ hT1 hM1 (by unfold nSkip; split <;> exact hNV)
        · exact absurd rfl b462
      · exact absurd hz b451
    · exact absurd hz b429
  · refine Ev.steps (k := 5) (pc' := 423) (L' := [Vr (-2), Vr 0, Vr 166, Vi (n : Int)]) (S' := [Vi (w32 ((n : Int) + 1)), Vr (-2), Vr 0]) (h' := ((SHv (y : Int) (z : Int) rd), (ovl a s b))) (fun _ => rfl) ?_
    rw [show (w32 ((n : Int) + 1)) = ((n : Int) + 1) from w32_id (by unfold R32; omega)]
    refine Ev.rald (v := (xvL X ((n + 1)))) rfl (by decide) rfl (by omega) (xv_at (by omega)) ?_
    refine Ev.steps (k := 4) (pc' := 428) (L' := [Vr (-2), Vr 0, Vr 166, Vi (n : Int)]) (S' := [Vi (w32 ((n : Int) + 2)), Vr (-2), Vi (xvL X ((n + 1))), Vr 0]) (h' := ((SHv (y : Int) (z : Int) rd), (ovl a s b))) (fun _ => rfl) ?_
    rw [show (w32 ((n : Int) + 2)) = ((n : Int) + 2) from w32_id (by unfold R32; omega)]
    refine Ev.rald (v := (xvL X ((n + 2)))) rfl (by decide) rfl (by omega) (xv_at (by omega)) ?_
    refine Ev.ite (P := (xvL X ((n + 2))) = 0) (k := 1) (a := 436) (b := 432) (L' := [Vr (-2), Vr 0, Vr 166, Vi (n : Int)]) (S' := [Vi (xvL X ((n + 1))), Vr 0]) (h' := ((SHv (y : Int) (z : Int) rd), (ovl a s b))) (fun _ => rfl) (fun b429 => ?_) (fun b429 => ?_)
    · exact absurd b429 hz
    · refine Ev.call (k := 2) (pc1 := 437) (L1 := [Vr (-2), Vr 0, Vr 166, Vi (n : Int)]) (S1 := [Vi 1, Vi (xvL X ((n + 1))), Vr 0]) (h1 := ((SHv (y : Int) (z : Int) rd), (ovl a s b))) (m' := 73) (as := [Vr 0, Vi (xvL X ((n + 1))), Vi 1]) (S' := []) (L0 := [Vr 0, Vi (xvL X ((n + 1))), Vi 1]) (fun _ => rfl) rfl rfl rfl rfl rfl rfl (h_skip (b := b) (s := s) hT (xvL X ((n + 1))) 1 (by omega)) (fun r h' hq => ?_)
      obtain ⟨rfl, a1, rfl, hT1⟩ := hq
      show Ev X _ _ 440 [Vr (-2), Vr 0, Vr 166, Vi (n : Int)] [Vi (if okRl G (xvL X ((n + 1))) then 1 else 0)] ((SHv (y : Int) (z : Int) rd), (ovl a1 s b)) _
      refine Ev.steps (k := 5) (pc' := 445) (L' := [Vr (-2), Vr 0, Vr 166, Vi (n : Int)]) (S' := [Vi (w32 ((n : Int) + 1)), Vr (-2), Vr 166, Vi (if okRl G (xvL X ((n + 1))) then 1 else 0)]) (h' := ((SHv (y : Int) (z : Int) rd), (ovl a1 s b))) (fun _ => rfl) ?_
      rw [show (w32 ((n : Int) + 1)) = ((n : Int) + 1) from w32_id (by unfold R32; omega)]
      refine Ev.rald (v := (xvL X ((n + 1)))) rfl (by decide) rfl (by omega) (xv_at (by omega)) ?_
      refine Ev.steps (k := 4) (pc' := 450) (L' := [Vr (-2), Vr 0, Vr 166, Vi (n : Int)]) (S' := [Vi (w32 ((n : Int) + 2)), Vr (-2), Vi (xvL X ((n + 1))), Vr 166, Vi (if okRl G (xvL X ((n + 1))) then 1 else 0)]) (h' := ((SHv (y : Int) (z : Int) rd), (ovl a1 s b))) (fun _ => rfl) ?_
      rw [show (w32 ((n : Int) + 2)) = ((n : Int) + 2) from w32_id (by unfold R32; omega)]
      refine Ev.rald (v := (xvL X ((n + 2)))) rfl (by decide) rfl (by omega) (xv_at (by omega)) ?_
      refine Ev.ite (P := (xvL X ((n + 2))) = 0) (k := 1) (a := 458) (b := 454) (L' := [Vr (-2), Vr 0, Vr 166, Vi (n : Int)]) (S' := [Vi (xvL X ((n + 1))), Vr 166, Vi (if okRl G (xvL X ((n + 1))) then 1 else 0)]) (h' := ((SHv (y : Int) (z : Int) rd), (ovl a1 s b))) (fun _ => rfl) (fun b451 => ?_) (fun b451 => ?_)
      · exact absurd b451 hz
      · refine Ev.call (k := 2) (pc1 := 459) (L1 := [Vr (-2), Vr 0, Vr 166, Vi (n : Int)]) (S1 := [Vi 1, Vi (xvL X ((n + 1))), Vr 166, Vi (if okRl G (xvL X ((n + 1))) then 1 else 0)]) (h1 := ((SHv (y : Int) (z : Int) rd), (ovl a1 s b))) (m' := 201) (as := [Vr 166, Vi (xvL X ((n + 1))), Vi 1]) (S' := [Vi (if okRl G (xvL X ((n + 1))) then 1 else 0)]) (L0 := [Vr 166, Vi (xvL X ((n + 1))), Vi 1]) (fun _ => rfl) rfl rfl rfl rfl rfl rfl (g_skip (a := a1) (xvL X ((n + 1))) 1 hM (by omega)) (fun r h' hq => ?_)
        obtain ⟨rfl, b1, rfl, hM1⟩ := hq
        show Ev X _ _ 462 [Vr (-2), Vr 0, Vr 166, Vi (n : Int)] [Vi (if okRl G (xvL X ((n + 1))) then 1 else 0), Vi (if okRl G (xvL X ((n + 1))) then 1 else 0)] ((SHv (y : Int) (z : Int) rd), (ovl a1 s b1)) _
        refine Ev.ite (P := (if okRl G (xvL X ((n + 1))) then 1 else 0) = (if okRl G (xvL X ((n + 1))) then 1 else 0)) (k := 1) (a := 1133) (b := 465) (L' := [Vr (-2), Vr 0, Vr 166, Vi (n : Int)]) (S' := []) (h' := ((SHv (y : Int) (z : Int) rd), (ovl a1 s b1))) (fun _ => rfl) (fun b462 => ?_) (fun b462 => ?_)
        · exact K _ _ _ _ _ _ _ hT1 hM1 (by unfold nSkip; split <;> exact hNV)
        · exact absurd rfl b462
theorem law_9 {X : List Int} {d n : Nat} {Q : Option pm_V → pm_H → Prop} (hX : X.length ≤ 3072) (hn : n + 6 ≤ X.length) (K : LawK X d Q n) {G : GST} {a s b : C3} {rd : Int} {y z : Nat} (hT : TopC G a rd y z) (hM : TopM G b) (hNV : NmV (gS G)) : Ev X (d + 403) 259 467 [Vr (-2), Vr 0, Vr 166, Vi (n : Int)] [] (SHv (y : Int) (z : Int) rd, ovl a s b) Q := by
  refine Ev.call (k := 1) (pc1 := 468) (L1 := [Vr (-2), Vr 0, Vr 166, Vi (n : Int)]) (S1 := [Vr 0]) (h1 := ((SHv (y : Int) (z : Int) rd), (ovl a s b))) (m' := 75) (as := [Vr 0]) (S' := []) (L0 := [Vr 0]) (fun _ => rfl) rfl rfl rfl rfl rfl rfl (h_anew (b := b) (s := s) hT) (fun r h' hq => ?_)
  obtain ⟨rfl, a1, rfl, hT1⟩ := hq
  show Ev X _ _ 471 [Vr (-2), Vr 0, Vr 166, Vi (n : Int)] [] ((SHv (y : Int) (z : Int) rd), (ovl a1 s b)) _
  refine Ev.call (k := 1) (pc1 := 472) (L1 := [Vr (-2), Vr 0, Vr 166, Vi (n : Int)]) (S1 := [Vr 166]) (h1 := ((SHv (y : Int) (z : Int) rd), (ovl a1 s b))) (m' := 202) (as := [Vr 166]) (S' := []) (L0 := [Vr 166]) (fun _ => rfl) rfl rfl rfl rfl rfl rfl (g_anew (a := a1) hM) (fun r h' hq => ?_)
  obtain ⟨rfl, b1, rfl, hM1⟩ := hq
  show Ev X _ _ 475 [Vr (-2), Vr 0, Vr 166, Vi (n : Int)] [] ((SHv (y : Int) (z : Int) rd), (ovl a1 s b1)) _
  refine Ev.steps (k := 1) (pc' := 1133) (L' := [Vr (-2), Vr 0, Vr 166, Vi (n : Int)]) (S' := []) (h' := ((SHv (y : Int) (z : Int) rd), (ovl a1 s b1))) (fun _ => rfl) ?_
  exact K _ _ _ _ _ _ _ hT1 hM1 hNV
theorem law_10 {X : List Int} {d n : Nat} {Q : Option pm_V → pm_H → Prop} (hX : X.length ≤ 3072) (hn : n + 6 ≤ X.length) (K : LawK X d Q n) {G : GST} {a s b : C3} {rd : Int} {y z : Nat} (hT : TopC G a rd y z) (hM : TopM G b) (hNV : NmV (gS G)) : Ev X (d + 403) 259 478 [Vr (-2), Vr 0, Vr 166, Vi (n : Int)] [] (SHv (y : Int) (z : Int) rd, ovl a s b) Q := by
  refine Ev.steps (k := 5) (pc' := 483) (L' := [Vr (-2), Vr 0, Vr 166, Vi (n : Int)]) (S' := [Vi (w32 ((n : Int) + 1)), Vr (-2), Vr 0]) (h' := ((SHv (y : Int) (z : Int) rd), (ovl a s b))) (fun _ => rfl) ?_
  rw [show (w32 ((n : Int) + 1)) = ((n : Int) + 1) from w32_id (by unfold R32; omega)]
  refine Ev.rald (v := (xvL X ((n + 1)))) rfl (by decide) rfl (by omega) (xv_at (by omega)) ?_
  refine Ev.call (k := 0) (pc1 := 484) (L1 := [Vr (-2), Vr 0, Vr 166, Vi (n : Int)]) (S1 := [Vi (xvL X ((n + 1))), Vr 0]) (h1 := ((SHv (y : Int) (z : Int) rd), (ovl a s b))) (m' := 76) (as := [Vr 0, Vi (xvL X ((n + 1)))]) (S' := []) (L0 := [Vr 0, Vi (xvL X ((n + 1)))]) (fun _ => rfl) rfl rfl rfl rfl rfl rfl (h_run (b := b) (s := s) hT (xvL X ((n + 1)))) (fun r h' hq => ?_)
  obtain ⟨rfl, a1, rfl, hT1⟩ := hq
  show Ev X _ _ 487 [Vr (-2), Vr 0, Vr 166, Vi (n : Int)] [Vi (aRun G (xvL X ((n + 1))))] ((SHv (y : Int) (z : Int) rd), (ovl a1 s b)) _
  refine Ev.steps (k := 5) (pc' := 492) (L' := [Vr (-2), Vr 0, Vr 166, Vi (n : Int)]) (S' := [Vi (w32 ((n : Int) + 1)), Vr (-2), Vr 166, Vi (aRun G (xvL X ((n + 1))))]) (h' := ((SHv (y : Int) (z : Int) rd), (ovl a1 s b))) (fun _ => rfl) ?_
  rw [show (w32 ((n : Int) + 1)) = ((n : Int) + 1) from w32_id (by unfold R32; omega)]
  refine Ev.rald (v := (xvL X ((n + 1)))) rfl (by decide) rfl (by omega) (xv_at (by omega)) ?_
  refine Ev.call (k := 0) (pc1 := 493) (L1 := [Vr (-2), Vr 0, Vr 166, Vi (n : Int)]) (S1 := [Vi (xvL X ((n + 1))), Vr 166, Vi (aRun G (xvL X ((n + 1))))]) (h1 := ((SHv (y : Int) (z : Int) rd), (ovl a1 s b))) (m' := 203) (as := [Vr 166, Vi (xvL X ((n + 1)))]) (S' := [Vi (aRun G (xvL X ((n + 1))))]) (L0 := [Vr 166, Vi (xvL X ((n + 1)))]) (fun _ => rfl) rfl rfl rfl rfl rfl rfl (g_run (a := a1) (xvL X ((n + 1))) hM) (fun r h' hq => ?_)
  obtain ⟨rfl, s1, b1, rfl, hM1⟩ := hq
  show Ev X _ _ 496 [Vr (-2), Vr 0, Vr 166, Vi (n : Int)] [Vi (aRun G (xvL X ((n + 1)))), Vi (aRun G (xvL X ((n + 1))))] ((SHv (y : Int) (z : Int) rd), (ovl a1 s1 b1)) _
  refine Ev.ite (P := (aRun G (xvL X ((n + 1)))) = (aRun G (xvL X ((n + 1))))) (k := 1) (a := 1133) (b := 499) (L' := [Vr (-2), Vr 0, Vr 166, Vi (n : Int)]) (S' := []) (h' := ((SHv (y : Int) (z : Int) rd), (ovl a1 s1 b1))) (fun _ => rfl) (fun b496 => ?_) (fun b496 => ?_)
  · exact K _ _ _ _ _ _ _ hT1 hM1 (by unfold nRun; split <;> exact hNV)
  · exact absurd rfl b496
theorem law_11 {X : List Int} {d n : Nat} {Q : Option pm_V → pm_H → Prop} (hX : X.length ≤ 3072) (hn : n + 6 ≤ X.length) (K : LawK X d Q n) {G : GST} {a s b : C3} {rd : Int} {y z : Nat} (hT : TopC G a rd y z) (hM : TopM G b) (hNV : NmV (gS G)) : Ev X (d + 403) 259 501 [Vr (-2), Vr 0, Vr 166, Vi (n : Int)] [] (SHv (y : Int) (z : Int) rd, ovl a s b) Q := by
  refine Ev.steps (k := 5) (pc' := 506) (L' := [Vr (-2), Vr 0, Vr 166, Vi (n : Int)]) (S' := [Vi (w32 ((n : Int) + 1)), Vr (-2), Vr 0]) (h' := ((SHv (y : Int) (z : Int) rd), (ovl a s b))) (fun _ => rfl) ?_
  rw [show (w32 ((n : Int) + 1)) = ((n : Int) + 1) from w32_id (by unfold R32; omega)]
  refine Ev.rald (v := (xvL X ((n + 1)))) rfl (by decide) rfl (by omega) (xv_at (by omega)) ?_
  refine Ev.steps (k := 4) (pc' := 511) (L' := [Vr (-2), Vr 0, Vr 166, Vi (n : Int)]) (S' := [Vi (w32 ((n : Int) + 2)), Vr (-2), Vi (xvL X ((n + 1))), Vr 0]) (h' := ((SHv (y : Int) (z : Int) rd), (ovl a s b))) (fun _ => rfl) ?_
  rw [show (w32 ((n : Int) + 2)) = ((n : Int) + 2) from w32_id (by unfold R32; omega)]
  refine Ev.rald (v := (xvL X ((n + 2)))) rfl (by decide) rfl (by omega) (xv_at (by omega)) ?_
  refine Ev.call (k := 0) (pc1 := 512) (L1 := [Vr (-2), Vr 0, Vr 166, Vi (n : Int)]) (S1 := [Vi (xvL X ((n + 2))), Vi (xvL X ((n + 1))), Vr 0]) (h1 := ((SHv (y : Int) (z : Int) rd), (ovl a s b))) (m' := 105) (as := [Vr 0, Vi (xvL X ((n + 1))), Vi (xvL X ((n + 2)))]) (S' := []) (L0 := [Vr 0, Vi (xvL X ((n + 1))), Vi (xvL X ((n + 2)))]) (fun _ => rfl) rfl rfl rfl rfl rfl rfl (h_was (b := b) (s := s) hT (xvL X ((n + 1))) (xvL X ((n + 2)))) (fun r h' hq => ?_)
  obtain ⟨rfl, rfl⟩ := hq
  have hT1 := hT
  show Ev X _ _ 515 [Vr (-2), Vr 0, Vr 166, Vi (n : Int)] [Vi (aWas G (xvL X ((n + 1))) (xvL X ((n + 2))))] ((SHv (y : Int) (z : Int) rd), (ovl a s b)) _
  refine Ev.steps (k := 5) (pc' := 520) (L' := [Vr (-2), Vr 0, Vr 166, Vi (n : Int)]) (S' := [Vi (w32 ((n : Int) + 1)), Vr (-2), Vr 166, Vi (aWas G (xvL X ((n + 1))) (xvL X ((n + 2))))]) (h' := ((SHv (y : Int) (z : Int) rd), (ovl a s b))) (fun _ => rfl) ?_
  rw [show (w32 ((n : Int) + 1)) = ((n : Int) + 1) from w32_id (by unfold R32; omega)]
  refine Ev.rald (v := (xvL X ((n + 1)))) rfl (by decide) rfl (by omega) (xv_at (by omega)) ?_
  refine Ev.steps (k := 4) (pc' := 525) (L' := [Vr (-2), Vr 0, Vr 166, Vi (n : Int)]) (S' := [Vi (w32 ((n : Int) + 2)), Vr (-2), Vi (xvL X ((n + 1))), Vr 166, Vi (aWas G (xvL X ((n + 1))) (xvL X ((n + 2))))]) (h' := ((SHv (y : Int) (z : Int) rd), (ovl a s b))) (fun _ => rfl) ?_
  rw [show (w32 ((n : Int) + 2)) = ((n : Int) + 2) from w32_id (by unfold R32; omega)]
  refine Ev.rald (v := (xvL X ((n + 2)))) rfl (by decide) rfl (by omega) (xv_at (by omega)) ?_
  refine Ev.call (k := 0) (pc1 := 526) (L1 := [Vr (-2), Vr 0, Vr 166, Vi (n : Int)]) (S1 := [Vi (xvL X ((n + 2))), Vi (xvL X ((n + 1))), Vr 166, Vi (aWas G (xvL X ((n + 1))) (xvL X ((n + 2))))]) (h1 := ((SHv (y : Int) (z : Int) rd), (ovl a s b))) (m' := 224) (as := [Vr 166, Vi (xvL X ((n + 1))), Vi (xvL X ((n + 2)))]) (S' := [Vi (aWas G (xvL X ((n + 1))) (xvL X ((n + 2))))]) (L0 := [Vr 166, Vi (xvL X ((n + 1))), Vi (xvL X ((n + 2)))]) (fun _ => rfl) rfl rfl rfl rfl rfl rfl (g_was (a := a) (xvL X ((n + 1))) (xvL X ((n + 2))) hM) (fun r h' hq => ?_)
  obtain ⟨rfl, rfl⟩ := hq
  have hM1 := hM
  show Ev X _ _ 529 [Vr (-2), Vr 0, Vr 166, Vi (n : Int)] [Vi (aWas G (xvL X ((n + 1))) (xvL X ((n + 2)))), Vi (aWas G (xvL X ((n + 1))) (xvL X ((n + 2))))] ((SHv (y : Int) (z : Int) rd), (ovl a s b)) _
  refine Ev.ite (P := (aWas G (xvL X ((n + 1))) (xvL X ((n + 2)))) = (aWas G (xvL X ((n + 1))) (xvL X ((n + 2))))) (k := 1) (a := 1133) (b := 532) (L' := [Vr (-2), Vr 0, Vr 166, Vi (n : Int)]) (S' := []) (h' := ((SHv (y : Int) (z : Int) rd), (ovl a s b))) (fun _ => rfl) (fun b529 => ?_) (fun b529 => ?_)
  · exact K _ _ _ _ _ _ _ hT1 hM1 hNV
  · exact absurd rfl b529
theorem law_12 {X : List Int} {d n : Nat} {Q : Option pm_V → pm_H → Prop} (hX : X.length ≤ 3072) (hn : n + 6 ≤ X.length) (K : LawK X d Q n) {G : GST} {a s b : C3} {rd : Int} {y z : Nat} (hT : TopC G a rd y z) (hM : TopM G b) (hNV : NmV (gS G)) : Ev X (d + 403) 259 534 [Vr (-2), Vr 0, Vr 166, Vi (n : Int)] [] (SHv (y : Int) (z : Int) rd, ovl a s b) Q := by
  refine Ev.steps (k := 5) (pc' := 539) (L' := [Vr (-2), Vr 0, Vr 166, Vi (n : Int)]) (S' := [Vi (w32 ((n : Int) + 1)), Vr (-2), Vr 0]) (h' := ((SHv (y : Int) (z : Int) rd), (ovl a s b))) (fun _ => rfl) ?_
  rw [show (w32 ((n : Int) + 1)) = ((n : Int) + 1) from w32_id (by unfold R32; omega)]
  refine Ev.rald (v := (xvL X ((n + 1)))) rfl (by decide) rfl (by omega) (xv_at (by omega)) ?_
  refine Ev.steps (k := 4) (pc' := 544) (L' := [Vr (-2), Vr 0, Vr 166, Vi (n : Int)]) (S' := [Vi (w32 ((n : Int) + 2)), Vr (-2), Vi (xvL X ((n + 1))), Vr 0]) (h' := ((SHv (y : Int) (z : Int) rd), (ovl a s b))) (fun _ => rfl) ?_
  rw [show (w32 ((n : Int) + 2)) = ((n : Int) + 2) from w32_id (by unfold R32; omega)]
  refine Ev.rald (v := (xvL X ((n + 2)))) rfl (by decide) rfl (by omega) (xv_at (by omega)) ?_
  refine Ev.call (k := 0) (pc1 := 545) (L1 := [Vr (-2), Vr 0, Vr 166, Vi (n : Int)]) (S1 := [Vi (xvL X ((n + 2))), Vi (xvL X ((n + 1))), Vr 0]) (h1 := ((SHv (y : Int) (z : Int) rd), (ovl a s b))) (m' := 108) (as := [Vr 0, Vi (xvL X ((n + 1))), Vi (xvL X ((n + 2)))]) (S' := []) (L0 := [Vr 0, Vi (xvL X ((n + 1))), Vi (xvL X ((n + 2)))]) (fun _ => rfl) rfl rfl rfl rfl rfl rfl (h_alive (b := b) (s := s) hT (xvL X ((n + 1))) (xvL X ((n + 2)))) (fun r h' hq => ?_)
  obtain ⟨rfl, rfl⟩ := hq
  have hT1 := hT
  show Ev X _ _ 548 [Vr (-2), Vr 0, Vr 166, Vi (n : Int)] [Vi (aAlive G (xvL X ((n + 1))) (xvL X ((n + 2))))] ((SHv (y : Int) (z : Int) rd), (ovl a s b)) _
  refine Ev.steps (k := 5) (pc' := 553) (L' := [Vr (-2), Vr 0, Vr 166, Vi (n : Int)]) (S' := [Vi (w32 ((n : Int) + 1)), Vr (-2), Vr 166, Vi (aAlive G (xvL X ((n + 1))) (xvL X ((n + 2))))]) (h' := ((SHv (y : Int) (z : Int) rd), (ovl a s b))) (fun _ => rfl) ?_
  rw [show (w32 ((n : Int) + 1)) = ((n : Int) + 1) from w32_id (by unfold R32; omega)]
  refine Ev.rald (v := (xvL X ((n + 1)))) rfl (by decide) rfl (by omega) (xv_at (by omega)) ?_
  refine Ev.steps (k := 4) (pc' := 558) (L' := [Vr (-2), Vr 0, Vr 166, Vi (n : Int)]) (S' := [Vi (w32 ((n : Int) + 2)), Vr (-2), Vi (xvL X ((n + 1))), Vr 166, Vi (aAlive G (xvL X ((n + 1))) (xvL X ((n + 2))))]) (h' := ((SHv (y : Int) (z : Int) rd), (ovl a s b))) (fun _ => rfl) ?_
  rw [show (w32 ((n : Int) + 2)) = ((n : Int) + 2) from w32_id (by unfold R32; omega)]
  refine Ev.rald (v := (xvL X ((n + 2)))) rfl (by decide) rfl (by omega) (xv_at (by omega)) ?_
  refine Ev.call (k := 0) (pc1 := 559) (L1 := [Vr (-2), Vr 0, Vr 166, Vi (n : Int)]) (S1 := [Vi (xvL X ((n + 2))), Vi (xvL X ((n + 1))), Vr 166, Vi (aAlive G (xvL X ((n + 1))) (xvL X ((n + 2))))]) (h1 := ((SHv (y : Int) (z : Int) rd), (ovl a s b))) (m' := 226) (as := [Vr 166, Vi (xvL X ((n + 1))), Vi (xvL X ((n + 2)))]) (S' := [Vi (aAlive G (xvL X ((n + 1))) (xvL X ((n + 2))))]) (L0 := [Vr 166, Vi (xvL X ((n + 1))), Vi (xvL X ((n + 2)))]) (fun _ => rfl) rfl rfl rfl rfl rfl rfl (g_alive (a := a) (xvL X ((n + 1))) (xvL X ((n + 2))) hM) (fun r h' hq => ?_)
  obtain ⟨rfl, rfl⟩ := hq
  have hM1 := hM
  show Ev X _ _ 562 [Vr (-2), Vr 0, Vr 166, Vi (n : Int)] [Vi (aAlive G (xvL X ((n + 1))) (xvL X ((n + 2)))), Vi (aAlive G (xvL X ((n + 1))) (xvL X ((n + 2))))] ((SHv (y : Int) (z : Int) rd), (ovl a s b)) _
  refine Ev.ite (P := (aAlive G (xvL X ((n + 1))) (xvL X ((n + 2)))) = (aAlive G (xvL X ((n + 1))) (xvL X ((n + 2))))) (k := 1) (a := 1133) (b := 565) (L' := [Vr (-2), Vr 0, Vr 166, Vi (n : Int)]) (S' := []) (h' := ((SHv (y : Int) (z : Int) rd), (ovl a s b))) (fun _ => rfl) (fun b562 => ?_) (fun b562 => ?_)
  · exact K _ _ _ _ _ _ _ hT1 hM1 hNV
  · exact absurd rfl b562
theorem law_13 {X : List Int} {d n : Nat} {Q : Option pm_V → pm_H → Prop} (hX : X.length ≤ 3072) (hn : n + 6 ≤ X.length) (K : LawK X d Q n) {G : GST} {a s b : C3} {rd : Int} {y z : Nat} (hT : TopC G a rd y z) (hM : TopM G b) (hNV : NmV (gS G)) : Ev X (d + 403) 259 567 [Vr (-2), Vr 0, Vr 166, Vi (n : Int)] [] (SHv (y : Int) (z : Int) rd, ovl a s b) Q := by
  refine Ev.steps (k := 5) (pc' := 572) (L' := [Vr (-2), Vr 0, Vr 166, Vi (n : Int)]) (S' := [Vi (w32 ((n : Int) + 1)), Vr (-2), Vr 0]) (h' := ((SHv (y : Int) (z : Int) rd), (ovl a s b))) (fun _ => rfl) ?_
  rw [show (w32 ((n : Int) + 1)) = ((n : Int) + 1) from w32_id (by unfold R32; omega)]
  refine Ev.rald (v := (xvL X ((n + 1)))) rfl (by decide) rfl (by omega) (xv_at (by omega)) ?_
  refine Ev.steps (k := 4) (pc' := 577) (L' := [Vr (-2), Vr 0, Vr 166, Vi (n : Int)]) (S' := [Vi (w32 ((n : Int) + 2)), Vr (-2), Vi (xvL X ((n + 1))), Vr 0]) (h' := ((SHv (y : Int) (z : Int) rd), (ovl a s b))) (fun _ => rfl) ?_
  rw [show (w32 ((n : Int) + 2)) = ((n : Int) + 2) from w32_id (by unfold R32; omega)]
  refine Ev.rald (v := (xvL X ((n + 2)))) rfl (by decide) rfl (by omega) (xv_at (by omega)) ?_
  refine Ev.call (k := 0) (pc1 := 578) (L1 := [Vr (-2), Vr 0, Vr 166, Vi (n : Int)]) (S1 := [Vi (xvL X ((n + 2))), Vi (xvL X ((n + 1))), Vr 0]) (h1 := ((SHv (y : Int) (z : Int) rd), (ovl a s b))) (m' := 111) (as := [Vr 0, Vi (xvL X ((n + 1))), Vi (xvL X ((n + 2)))]) (S' := []) (L0 := [Vr 0, Vi (xvL X ((n + 1))), Vi (xvL X ((n + 2))), Vx]) (fun _ => rfl) rfl rfl rfl rfl rfl rfl (h_where (b := b) (s := s) hT (xvL X ((n + 1))) (xvL X ((n + 2)))) (fun r h' hq => ?_)
  obtain ⟨rfl, rfl⟩ := hq
  have hT1 := hT
  show Ev X _ _ 581 [Vr (-2), Vr 0, Vr 166, Vi (n : Int)] [Vi (aWhere G (xvL X ((n + 1))) (xvL X ((n + 2))))] ((SHv (y : Int) (z : Int) rd), (ovl a s b)) _
  refine Ev.steps (k := 5) (pc' := 586) (L' := [Vr (-2), Vr 0, Vr 166, Vi (n : Int)]) (S' := [Vi (w32 ((n : Int) + 1)), Vr (-2), Vr 166, Vi (aWhere G (xvL X ((n + 1))) (xvL X ((n + 2))))]) (h' := ((SHv (y : Int) (z : Int) rd), (ovl a s b))) (fun _ => rfl) ?_
  rw [show (w32 ((n : Int) + 1)) = ((n : Int) + 1) from w32_id (by unfold R32; omega)]
  refine Ev.rald (v := (xvL X ((n + 1)))) rfl (by decide) rfl (by omega) (xv_at (by omega)) ?_
  refine Ev.steps (k := 4) (pc' := 591) (L' := [Vr (-2), Vr 0, Vr 166, Vi (n : Int)]) (S' := [Vi (w32 ((n : Int) + 2)), Vr (-2), Vi (xvL X ((n + 1))), Vr 166, Vi (aWhere G (xvL X ((n + 1))) (xvL X ((n + 2))))]) (h' := ((SHv (y : Int) (z : Int) rd), (ovl a s b))) (fun _ => rfl) ?_
  rw [show (w32 ((n : Int) + 2)) = ((n : Int) + 2) from w32_id (by unfold R32; omega)]
  refine Ev.rald (v := (xvL X ((n + 2)))) rfl (by decide) rfl (by omega) (xv_at (by omega)) ?_
  refine Ev.call (k := 0) (pc1 := 592) (L1 := [Vr (-2), Vr 0, Vr 166, Vi (n : Int)]) (S1 := [Vi (xvL X ((n + 2))), Vi (xvL X ((n + 1))), Vr 166, Vi (aWhere G (xvL X ((n + 1))) (xvL X ((n + 2))))]) (h1 := ((SHv (y : Int) (z : Int) rd), (ovl a s b))) (m' := 227) (as := [Vr 166, Vi (xvL X ((n + 1))), Vi (xvL X ((n + 2)))]) (S' := [Vi (aWhere G (xvL X ((n + 1))) (xvL X ((n + 2))))]) (L0 := [Vr 166, Vi (xvL X ((n + 1))), Vi (xvL X ((n + 2)))]) (fun _ => rfl) rfl rfl rfl rfl rfl rfl (g_where (a := a) (xvL X ((n + 1))) (xvL X ((n + 2))) hM) (fun r h' hq => ?_)
  obtain ⟨rfl, rfl⟩ := hq
  have hM1 := hM
  show Ev X _ _ 595 [Vr (-2), Vr 0, Vr 166, Vi (n : Int)] [Vi (aWhere G (xvL X ((n + 1))) (xvL X ((n + 2)))), Vi (aWhere G (xvL X ((n + 1))) (xvL X ((n + 2))))] ((SHv (y : Int) (z : Int) rd), (ovl a s b)) _
  refine Ev.ite (P := (aWhere G (xvL X ((n + 1))) (xvL X ((n + 2)))) = (aWhere G (xvL X ((n + 1))) (xvL X ((n + 2))))) (k := 1) (a := 1133) (b := 598) (L' := [Vr (-2), Vr 0, Vr 166, Vi (n : Int)]) (S' := []) (h' := ((SHv (y : Int) (z : Int) rd), (ovl a s b))) (fun _ => rfl) (fun b595 => ?_) (fun b595 => ?_)
  · exact K _ _ _ _ _ _ _ hT1 hM1 hNV
  · exact absurd rfl b595
theorem law_14 {X : List Int} {d n : Nat} {Q : Option pm_V → pm_H → Prop} (hX : X.length ≤ 3072) (hn : n + 6 ≤ X.length) (K : LawK X d Q n) {G : GST} {a s b : C3} {rd : Int} {y z : Nat} (hT : TopC G a rd y z) (hM : TopM G b) (hNV : NmV (gS G)) : Ev X (d + 403) 259 600 [Vr (-2), Vr 0, Vr 166, Vi (n : Int)] [] (SHv (y : Int) (z : Int) rd, ovl a s b) Q := by
  refine Ev.steps (k := 5) (pc' := 605) (L' := [Vr (-2), Vr 0, Vr 166, Vi (n : Int)]) (S' := [Vi (w32 ((n : Int) + 1)), Vr (-2), Vr 0]) (h' := ((SHv (y : Int) (z : Int) rd), (ovl a s b))) (fun _ => rfl) ?_
  rw [show (w32 ((n : Int) + 1)) = ((n : Int) + 1) from w32_id (by unfold R32; omega)]
  refine Ev.rald (v := (xvL X ((n + 1)))) rfl (by decide) rfl (by omega) (xv_at (by omega)) ?_
  refine Ev.steps (k := 4) (pc' := 610) (L' := [Vr (-2), Vr 0, Vr 166, Vi (n : Int)]) (S' := [Vi (w32 ((n : Int) + 2)), Vr (-2), Vi (xvL X ((n + 1))), Vr 0]) (h' := ((SHv (y : Int) (z : Int) rd), (ovl a s b))) (fun _ => rfl) ?_
  rw [show (w32 ((n : Int) + 2)) = ((n : Int) + 2) from w32_id (by unfold R32; omega)]
  refine Ev.rald (v := (xvL X ((n + 2)))) rfl (by decide) rfl (by omega) (xv_at (by omega)) ?_
  refine Ev.call (k := 0) (pc1 := 611) (L1 := [Vr (-2), Vr 0, Vr 166, Vi (n : Int)]) (S1 := [Vi (xvL X ((n + 2))), Vi (xvL X ((n + 1))), Vr 0]) (h1 := ((SHv (y : Int) (z : Int) rd), (ovl a s b))) (m' := 113) (as := [Vr 0, Vi (xvL X ((n + 1))), Vi (xvL X ((n + 2)))]) (S' := []) (L0 := [Vr 0, Vi (xvL X ((n + 1))), Vi (xvL X ((n + 2)))]) (fun _ => rfl) rfl rfl rfl rfl rfl rfl (h_did (b := b) (s := s) hT (xvL X ((n + 1))) (xvL X ((n + 2)))) (fun r h' hq => ?_)
  obtain ⟨rfl, rfl⟩ := hq
  have hT1 := hT
  show Ev X _ _ 614 [Vr (-2), Vr 0, Vr 166, Vi (n : Int)] [Vi (aDid G (xvL X ((n + 1))) (xvL X ((n + 2))))] ((SHv (y : Int) (z : Int) rd), (ovl a s b)) _
  refine Ev.steps (k := 5) (pc' := 619) (L' := [Vr (-2), Vr 0, Vr 166, Vi (n : Int)]) (S' := [Vi (w32 ((n : Int) + 1)), Vr (-2), Vr 166, Vi (aDid G (xvL X ((n + 1))) (xvL X ((n + 2))))]) (h' := ((SHv (y : Int) (z : Int) rd), (ovl a s b))) (fun _ => rfl) ?_
  rw [show (w32 ((n : Int) + 1)) = ((n : Int) + 1) from w32_id (by unfold R32; omega)]
  refine Ev.rald (v := (xvL X ((n + 1)))) rfl (by decide) rfl (by omega) (xv_at (by omega)) ?_
  refine Ev.steps (k := 4) (pc' := 624) (L' := [Vr (-2), Vr 0, Vr 166, Vi (n : Int)]) (S' := [Vi (w32 ((n : Int) + 2)), Vr (-2), Vi (xvL X ((n + 1))), Vr 166, Vi (aDid G (xvL X ((n + 1))) (xvL X ((n + 2))))]) (h' := ((SHv (y : Int) (z : Int) rd), (ovl a s b))) (fun _ => rfl) ?_
  rw [show (w32 ((n : Int) + 2)) = ((n : Int) + 2) from w32_id (by unfold R32; omega)]
  refine Ev.rald (v := (xvL X ((n + 2)))) rfl (by decide) rfl (by omega) (xv_at (by omega)) ?_
  refine Ev.call (k := 0) (pc1 := 625) (L1 := [Vr (-2), Vr 0, Vr 166, Vi (n : Int)]) (S1 := [Vi (xvL X ((n + 2))), Vi (xvL X ((n + 1))), Vr 166, Vi (aDid G (xvL X ((n + 1))) (xvL X ((n + 2))))]) (h1 := ((SHv (y : Int) (z : Int) rd), (ovl a s b))) (m' := 228) (as := [Vr 166, Vi (xvL X ((n + 1))), Vi (xvL X ((n + 2)))]) (S' := [Vi (aDid G (xvL X ((n + 1))) (xvL X ((n + 2))))]) (L0 := [Vr 166, Vi (xvL X ((n + 1))), Vi (xvL X ((n + 2)))]) (fun _ => rfl) rfl rfl rfl rfl rfl rfl (g_did (a := a) (xvL X ((n + 1))) (xvL X ((n + 2))) hM) (fun r h' hq => ?_)
  obtain ⟨rfl, rfl⟩ := hq
  have hM1 := hM
  show Ev X _ _ 628 [Vr (-2), Vr 0, Vr 166, Vi (n : Int)] [Vi (aDid G (xvL X ((n + 1))) (xvL X ((n + 2)))), Vi (aDid G (xvL X ((n + 1))) (xvL X ((n + 2))))] ((SHv (y : Int) (z : Int) rd), (ovl a s b)) _
  refine Ev.ite (P := (aDid G (xvL X ((n + 1))) (xvL X ((n + 2)))) = (aDid G (xvL X ((n + 1))) (xvL X ((n + 2))))) (k := 1) (a := 1133) (b := 631) (L' := [Vr (-2), Vr 0, Vr 166, Vi (n : Int)]) (S' := []) (h' := ((SHv (y : Int) (z : Int) rd), (ovl a s b))) (fun _ => rfl) (fun b628 => ?_) (fun b628 => ?_)
  · exact K _ _ _ _ _ _ _ hT1 hM1 hNV
  · exact absurd rfl b628
theorem law_15 {X : List Int} {d n : Nat} {Q : Option pm_V → pm_H → Prop} (hX : X.length ≤ 3072) (hn : n + 6 ≤ X.length) (K : LawK X d Q n) {G : GST} {a s b : C3} {rd : Int} {y z : Nat} (hT : TopC G a rd y z) (hM : TopM G b) (hNV : NmV (gS G)) : Ev X (d + 403) 259 633 [Vr (-2), Vr 0, Vr 166, Vi (n : Int)] [] (SHv (y : Int) (z : Int) rd, ovl a s b) Q := by
  refine Ev.steps (k := 5) (pc' := 638) (L' := [Vr (-2), Vr 0, Vr 166, Vi (n : Int)]) (S' := [Vi (w32 ((n : Int) + 1)), Vr (-2), Vr 0]) (h' := ((SHv (y : Int) (z : Int) rd), (ovl a s b))) (fun _ => rfl) ?_
  rw [show (w32 ((n : Int) + 1)) = ((n : Int) + 1) from w32_id (by unfold R32; omega)]
  refine Ev.rald (v := (xvL X ((n + 1)))) rfl (by decide) rfl (by omega) (xv_at (by omega)) ?_
  refine Ev.steps (k := 4) (pc' := 643) (L' := [Vr (-2), Vr 0, Vr 166, Vi (n : Int)]) (S' := [Vi (w32 ((n : Int) + 2)), Vr (-2), Vi (xvL X ((n + 1))), Vr 0]) (h' := ((SHv (y : Int) (z : Int) rd), (ovl a s b))) (fun _ => rfl) ?_
  rw [show (w32 ((n : Int) + 2)) = ((n : Int) + 2) from w32_id (by unfold R32; omega)]
  refine Ev.rald (v := (xvL X ((n + 2)))) rfl (by decide) rfl (by omega) (xv_at (by omega)) ?_
  refine Ev.call (k := 0) (pc1 := 644) (L1 := [Vr (-2), Vr 0, Vr 166, Vi (n : Int)]) (S1 := [Vi (xvL X ((n + 2))), Vi (xvL X ((n + 1))), Vr 0]) (h1 := ((SHv (y : Int) (z : Int) rd), (ovl a s b))) (m' := 115) (as := [Vr 0, Vi (xvL X ((n + 1))), Vi (xvL X ((n + 2)))]) (S' := []) (L0 := [Vr 0, Vi (xvL X ((n + 1))), Vi (xvL X ((n + 2)))]) (fun _ => rfl) rfl rfl rfl rfl rfl rfl (h_mood (b := b) (s := s) hT (xvL X ((n + 1))) (xvL X ((n + 2)))) (fun r h' hq => ?_)
  obtain ⟨rfl, rfl⟩ := hq
  have hT1 := hT
  show Ev X _ _ 647 [Vr (-2), Vr 0, Vr 166, Vi (n : Int)] [Vi (aMood G (xvL X ((n + 1))) (xvL X ((n + 2))))] ((SHv (y : Int) (z : Int) rd), (ovl a s b)) _
  refine Ev.steps (k := 5) (pc' := 652) (L' := [Vr (-2), Vr 0, Vr 166, Vi (n : Int)]) (S' := [Vi (w32 ((n : Int) + 1)), Vr (-2), Vr 166, Vi (aMood G (xvL X ((n + 1))) (xvL X ((n + 2))))]) (h' := ((SHv (y : Int) (z : Int) rd), (ovl a s b))) (fun _ => rfl) ?_
  rw [show (w32 ((n : Int) + 1)) = ((n : Int) + 1) from w32_id (by unfold R32; omega)]
  refine Ev.rald (v := (xvL X ((n + 1)))) rfl (by decide) rfl (by omega) (xv_at (by omega)) ?_
  refine Ev.steps (k := 4) (pc' := 657) (L' := [Vr (-2), Vr 0, Vr 166, Vi (n : Int)]) (S' := [Vi (w32 ((n : Int) + 2)), Vr (-2), Vi (xvL X ((n + 1))), Vr 166, Vi (aMood G (xvL X ((n + 1))) (xvL X ((n + 2))))]) (h' := ((SHv (y : Int) (z : Int) rd), (ovl a s b))) (fun _ => rfl) ?_
  rw [show (w32 ((n : Int) + 2)) = ((n : Int) + 2) from w32_id (by unfold R32; omega)]
  refine Ev.rald (v := (xvL X ((n + 2)))) rfl (by decide) rfl (by omega) (xv_at (by omega)) ?_
  refine Ev.call (k := 0) (pc1 := 658) (L1 := [Vr (-2), Vr 0, Vr 166, Vi (n : Int)]) (S1 := [Vi (xvL X ((n + 2))), Vi (xvL X ((n + 1))), Vr 166, Vi (aMood G (xvL X ((n + 1))) (xvL X ((n + 2))))]) (h1 := ((SHv (y : Int) (z : Int) rd), (ovl a s b))) (m' := 229) (as := [Vr 166, Vi (xvL X ((n + 1))), Vi (xvL X ((n + 2)))]) (S' := [Vi (aMood G (xvL X ((n + 1))) (xvL X ((n + 2))))]) (L0 := [Vr 166, Vi (xvL X ((n + 1))), Vi (xvL X ((n + 2)))]) (fun _ => rfl) rfl rfl rfl rfl rfl rfl (g_mood (a := a) (xvL X ((n + 1))) (xvL X ((n + 2))) hM) (fun r h' hq => ?_)
  obtain ⟨rfl, rfl⟩ := hq
  have hM1 := hM
  show Ev X _ _ 661 [Vr (-2), Vr 0, Vr 166, Vi (n : Int)] [Vi (aMood G (xvL X ((n + 1))) (xvL X ((n + 2)))), Vi (aMood G (xvL X ((n + 1))) (xvL X ((n + 2))))] ((SHv (y : Int) (z : Int) rd), (ovl a s b)) _
  refine Ev.ite (P := (aMood G (xvL X ((n + 1))) (xvL X ((n + 2)))) = (aMood G (xvL X ((n + 1))) (xvL X ((n + 2))))) (k := 1) (a := 1133) (b := 664) (L' := [Vr (-2), Vr 0, Vr 166, Vi (n : Int)]) (S' := []) (h' := ((SHv (y : Int) (z : Int) rd), (ovl a s b))) (fun _ => rfl) (fun b661 => ?_) (fun b661 => ?_)
  · exact K _ _ _ _ _ _ _ hT1 hM1 hNV
  · exact absurd rfl b661
theorem law_16 {X : List Int} {d n : Nat} {Q : Option pm_V → pm_H → Prop} (hX : X.length ≤ 3072) (hn : n + 6 ≤ X.length) (K : LawK X d Q n) {G : GST} {a s b : C3} {rd : Int} {y z : Nat} (hT : TopC G a rd y z) (hM : TopM G b) (hNV : NmV (gS G)) : Ev X (d + 403) 259 666 [Vr (-2), Vr 0, Vr 166, Vi (n : Int)] [] (SHv (y : Int) (z : Int) rd, ovl a s b) Q := by
  refine Ev.steps (k := 5) (pc' := 671) (L' := [Vr (-2), Vr 0, Vr 166, Vi (n : Int)]) (S' := [Vi (w32 ((n : Int) + 1)), Vr (-2), Vr 0]) (h' := ((SHv (y : Int) (z : Int) rd), (ovl a s b))) (fun _ => rfl) ?_
  rw [show (w32 ((n : Int) + 1)) = ((n : Int) + 1) from w32_id (by unfold R32; omega)]
  refine Ev.rald (v := (xvL X ((n + 1)))) rfl (by decide) rfl (by omega) (xv_at (by omega)) ?_
  refine Ev.steps (k := 4) (pc' := 676) (L' := [Vr (-2), Vr 0, Vr 166, Vi (n : Int)]) (S' := [Vi (w32 ((n : Int) + 2)), Vr (-2), Vi (xvL X ((n + 1))), Vr 0]) (h' := ((SHv (y : Int) (z : Int) rd), (ovl a s b))) (fun _ => rfl) ?_
  rw [show (w32 ((n : Int) + 2)) = ((n : Int) + 2) from w32_id (by unfold R32; omega)]
  refine Ev.rald (v := (xvL X ((n + 2)))) rfl (by decide) rfl (by omega) (xv_at (by omega)) ?_
  refine Ev.call (k := 0) (pc1 := 677) (L1 := [Vr (-2), Vr 0, Vr 166, Vi (n : Int)]) (S1 := [Vi (xvL X ((n + 2))), Vi (xvL X ((n + 1))), Vr 0]) (h1 := ((SHv (y : Int) (z : Int) rd), (ovl a s b))) (m' := 117) (as := [Vr 0, Vi (xvL X ((n + 1))), Vi (xvL X ((n + 2)))]) (S' := []) (L0 := [Vr 0, Vi (xvL X ((n + 1))), Vi (xvL X ((n + 2)))]) (fun _ => rfl) rfl rfl rfl rfl rfl rfl (h_deed (b := b) (s := s) hT (xvL X ((n + 1))) (xvL X ((n + 2)))) (fun r h' hq => ?_)
  obtain ⟨rfl, rfl⟩ := hq
  have hT1 := hT
  show Ev X _ _ 680 [Vr (-2), Vr 0, Vr 166, Vi (n : Int)] [Vi (aDeed G (xvL X ((n + 1))) (xvL X ((n + 2))))] ((SHv (y : Int) (z : Int) rd), (ovl a s b)) _
  refine Ev.steps (k := 5) (pc' := 685) (L' := [Vr (-2), Vr 0, Vr 166, Vi (n : Int)]) (S' := [Vi (w32 ((n : Int) + 1)), Vr (-2), Vr 166, Vi (aDeed G (xvL X ((n + 1))) (xvL X ((n + 2))))]) (h' := ((SHv (y : Int) (z : Int) rd), (ovl a s b))) (fun _ => rfl) ?_
  rw [show (w32 ((n : Int) + 1)) = ((n : Int) + 1) from w32_id (by unfold R32; omega)]
  refine Ev.rald (v := (xvL X ((n + 1)))) rfl (by decide) rfl (by omega) (xv_at (by omega)) ?_
  refine Ev.steps (k := 4) (pc' := 690) (L' := [Vr (-2), Vr 0, Vr 166, Vi (n : Int)]) (S' := [Vi (w32 ((n : Int) + 2)), Vr (-2), Vi (xvL X ((n + 1))), Vr 166, Vi (aDeed G (xvL X ((n + 1))) (xvL X ((n + 2))))]) (h' := ((SHv (y : Int) (z : Int) rd), (ovl a s b))) (fun _ => rfl) ?_
  rw [show (w32 ((n : Int) + 2)) = ((n : Int) + 2) from w32_id (by unfold R32; omega)]
  refine Ev.rald (v := (xvL X ((n + 2)))) rfl (by decide) rfl (by omega) (xv_at (by omega)) ?_
  refine Ev.call (k := 0) (pc1 := 691) (L1 := [Vr (-2), Vr 0, Vr 166, Vi (n : Int)]) (S1 := [Vi (xvL X ((n + 2))), Vi (xvL X ((n + 1))), Vr 166, Vi (aDeed G (xvL X ((n + 1))) (xvL X ((n + 2))))]) (h1 := ((SHv (y : Int) (z : Int) rd), (ovl a s b))) (m' := 230) (as := [Vr 166, Vi (xvL X ((n + 1))), Vi (xvL X ((n + 2)))]) (S' := [Vi (aDeed G (xvL X ((n + 1))) (xvL X ((n + 2))))]) (L0 := [Vr 166, Vi (xvL X ((n + 1))), Vi (xvL X ((n + 2)))]) (fun _ => rfl) rfl rfl rfl rfl rfl rfl (g_deed (a := a) (xvL X ((n + 1))) (xvL X ((n + 2))) hM) (fun r h' hq => ?_)
  obtain ⟨rfl, rfl⟩ := hq
  have hM1 := hM
  show Ev X _ _ 694 [Vr (-2), Vr 0, Vr 166, Vi (n : Int)] [Vi (aDeed G (xvL X ((n + 1))) (xvL X ((n + 2)))), Vi (aDeed G (xvL X ((n + 1))) (xvL X ((n + 2))))] ((SHv (y : Int) (z : Int) rd), (ovl a s b)) _
  refine Ev.ite (P := (aDeed G (xvL X ((n + 1))) (xvL X ((n + 2)))) = (aDeed G (xvL X ((n + 1))) (xvL X ((n + 2))))) (k := 1) (a := 1133) (b := 697) (L' := [Vr (-2), Vr 0, Vr 166, Vi (n : Int)]) (S' := []) (h' := ((SHv (y : Int) (z : Int) rd), (ovl a s b))) (fun _ => rfl) (fun b694 => ?_) (fun b694 => ?_)
  · exact K _ _ _ _ _ _ _ hT1 hM1 hNV
  · exact absurd rfl b694
theorem law_17 {X : List Int} {d n : Nat} {Q : Option pm_V → pm_H → Prop} (hX : X.length ≤ 3072) (hn : n + 6 ≤ X.length) (K : LawK X d Q n) {G : GST} {a s b : C3} {rd : Int} {y z : Nat} (hT : TopC G a rd y z) (hM : TopM G b) (hNV : NmV (gS G)) : Ev X (d + 403) 259 699 [Vr (-2), Vr 0, Vr 166, Vi (n : Int)] [] (SHv (y : Int) (z : Int) rd, ovl a s b) Q := by
  refine Ev.steps (k := 5) (pc' := 704) (L' := [Vr (-2), Vr 0, Vr 166, Vi (n : Int)]) (S' := [Vi (w32 ((n : Int) + 1)), Vr (-2), Vr 0]) (h' := ((SHv (y : Int) (z : Int) rd), (ovl a s b))) (fun _ => rfl) ?_
  rw [show (w32 ((n : Int) + 1)) = ((n : Int) + 1) from w32_id (by unfold R32; omega)]
  refine Ev.rald (v := (xvL X ((n + 1)))) rfl (by decide) rfl (by omega) (xv_at (by omega)) ?_
  refine Ev.steps (k := 4) (pc' := 709) (L' := [Vr (-2), Vr 0, Vr 166, Vi (n : Int)]) (S' := [Vi (w32 ((n : Int) + 2)), Vr (-2), Vi (xvL X ((n + 1))), Vr 0]) (h' := ((SHv (y : Int) (z : Int) rd), (ovl a s b))) (fun _ => rfl) ?_
  rw [show (w32 ((n : Int) + 2)) = ((n : Int) + 2) from w32_id (by unfold R32; omega)]
  refine Ev.rald (v := (xvL X ((n + 2)))) rfl (by decide) rfl (by omega) (xv_at (by omega)) ?_
  refine Ev.call (k := 0) (pc1 := 710) (L1 := [Vr (-2), Vr 0, Vr 166, Vi (n : Int)]) (S1 := [Vi (xvL X ((n + 2))), Vi (xvL X ((n + 1))), Vr 0]) (h1 := ((SHv (y : Int) (z : Int) rd), (ovl a s b))) (m' := 119) (as := [Vr 0, Vi (xvL X ((n + 1))), Vi (xvL X ((n + 2)))]) (S' := []) (L0 := [Vr 0, Vi (xvL X ((n + 1))), Vi (xvL X ((n + 2)))]) (fun _ => rfl) rfl rfl rfl rfl rfl rfl (h_trace (b := b) (s := s) hT (xvL X ((n + 1))) (xvL X ((n + 2)))) (fun r h' hq => ?_)
  obtain ⟨rfl, rfl⟩ := hq
  have hT1 := hT
  show Ev X _ _ 713 [Vr (-2), Vr 0, Vr 166, Vi (n : Int)] [Vi (aTrace G (xvL X ((n + 1))) (xvL X ((n + 2))))] ((SHv (y : Int) (z : Int) rd), (ovl a s b)) _
  refine Ev.steps (k := 5) (pc' := 718) (L' := [Vr (-2), Vr 0, Vr 166, Vi (n : Int)]) (S' := [Vi (w32 ((n : Int) + 1)), Vr (-2), Vr 166, Vi (aTrace G (xvL X ((n + 1))) (xvL X ((n + 2))))]) (h' := ((SHv (y : Int) (z : Int) rd), (ovl a s b))) (fun _ => rfl) ?_
  rw [show (w32 ((n : Int) + 1)) = ((n : Int) + 1) from w32_id (by unfold R32; omega)]
  refine Ev.rald (v := (xvL X ((n + 1)))) rfl (by decide) rfl (by omega) (xv_at (by omega)) ?_
  refine Ev.steps (k := 4) (pc' := 723) (L' := [Vr (-2), Vr 0, Vr 166, Vi (n : Int)]) (S' := [Vi (w32 ((n : Int) + 2)), Vr (-2), Vi (xvL X ((n + 1))), Vr 166, Vi (aTrace G (xvL X ((n + 1))) (xvL X ((n + 2))))]) (h' := ((SHv (y : Int) (z : Int) rd), (ovl a s b))) (fun _ => rfl) ?_
  rw [show (w32 ((n : Int) + 2)) = ((n : Int) + 2) from w32_id (by unfold R32; omega)]
  refine Ev.rald (v := (xvL X ((n + 2)))) rfl (by decide) rfl (by omega) (xv_at (by omega)) ?_
  refine Ev.call (k := 0) (pc1 := 724) (L1 := [Vr (-2), Vr 0, Vr 166, Vi (n : Int)]) (S1 := [Vi (xvL X ((n + 2))), Vi (xvL X ((n + 1))), Vr 166, Vi (aTrace G (xvL X ((n + 1))) (xvL X ((n + 2))))]) (h1 := ((SHv (y : Int) (z : Int) rd), (ovl a s b))) (m' := 231) (as := [Vr 166, Vi (xvL X ((n + 1))), Vi (xvL X ((n + 2)))]) (S' := [Vi (aTrace G (xvL X ((n + 1))) (xvL X ((n + 2))))]) (L0 := [Vr 166, Vi (xvL X ((n + 1))), Vi (xvL X ((n + 2)))]) (fun _ => rfl) rfl rfl rfl rfl rfl rfl (g_trace (a := a) (xvL X ((n + 1))) (xvL X ((n + 2))) hM) (fun r h' hq => ?_)
  obtain ⟨rfl, rfl⟩ := hq
  have hM1 := hM
  show Ev X _ _ 727 [Vr (-2), Vr 0, Vr 166, Vi (n : Int)] [Vi (aTrace G (xvL X ((n + 1))) (xvL X ((n + 2)))), Vi (aTrace G (xvL X ((n + 1))) (xvL X ((n + 2))))] ((SHv (y : Int) (z : Int) rd), (ovl a s b)) _
  refine Ev.ite (P := (aTrace G (xvL X ((n + 1))) (xvL X ((n + 2)))) = (aTrace G (xvL X ((n + 1))) (xvL X ((n + 2))))) (k := 1) (a := 1133) (b := 730) (L' := [Vr (-2), Vr 0, Vr 166, Vi (n : Int)]) (S' := []) (h' := ((SHv (y : Int) (z : Int) rd), (ovl a s b))) (fun _ => rfl) (fun b727 => ?_) (fun b727 => ?_)
  · exact K _ _ _ _ _ _ _ hT1 hM1 hNV
  · exact absurd rfl b727
theorem law_18 {X : List Int} {d n : Nat} {Q : Option pm_V → pm_H → Prop} (hX : X.length ≤ 3072) (hn : n + 6 ≤ X.length) (K : LawK X d Q n) {G : GST} {a s b : C3} {rd : Int} {y z : Nat} (hT : TopC G a rd y z) (hM : TopM G b) (hNV : NmV (gS G)) : Ev X (d + 403) 259 732 [Vr (-2), Vr 0, Vr 166, Vi (n : Int)] [] (SHv (y : Int) (z : Int) rd, ovl a s b) Q := by
  refine Ev.steps (k := 5) (pc' := 737) (L' := [Vr (-2), Vr 0, Vr 166, Vi (n : Int)]) (S' := [Vi (w32 ((n : Int) + 1)), Vr (-2), Vr 0]) (h' := ((SHv (y : Int) (z : Int) rd), (ovl a s b))) (fun _ => rfl) ?_
  rw [show (w32 ((n : Int) + 1)) = ((n : Int) + 1) from w32_id (by unfold R32; omega)]
  refine Ev.rald (v := (xvL X ((n + 1)))) rfl (by decide) rfl (by omega) (xv_at (by omega)) ?_
  refine Ev.steps (k := 4) (pc' := 742) (L' := [Vr (-2), Vr 0, Vr 166, Vi (n : Int)]) (S' := [Vi (w32 ((n : Int) + 2)), Vr (-2), Vi (xvL X ((n + 1))), Vr 0]) (h' := ((SHv (y : Int) (z : Int) rd), (ovl a s b))) (fun _ => rfl) ?_
  rw [show (w32 ((n : Int) + 2)) = ((n : Int) + 2) from w32_id (by unfold R32; omega)]
  refine Ev.rald (v := (xvL X ((n + 2)))) rfl (by decide) rfl (by omega) (xv_at (by omega)) ?_
  refine Ev.steps (k := 4) (pc' := 747) (L' := [Vr (-2), Vr 0, Vr 166, Vi (n : Int)]) (S' := [Vi (w32 ((n : Int) + 3)), Vr (-2), Vi (xvL X ((n + 2))), Vi (xvL X ((n + 1))), Vr 0]) (h' := ((SHv (y : Int) (z : Int) rd), (ovl a s b))) (fun _ => rfl) ?_
  rw [show (w32 ((n : Int) + 3)) = ((n : Int) + 3) from w32_id (by unfold R32; omega)]
  refine Ev.rald (v := (xvL X ((n + 3)))) rfl (by decide) rfl (by omega) (xv_at (by omega)) ?_
  refine Ev.call (k := 0) (pc1 := 748) (L1 := [Vr (-2), Vr 0, Vr 166, Vi (n : Int)]) (S1 := [Vi (xvL X ((n + 3))), Vi (xvL X ((n + 2))), Vi (xvL X ((n + 1))), Vr 0]) (h1 := ((SHv (y : Int) (z : Int) rd), (ovl a s b))) (m' := 121) (as := [Vr 0, Vi (xvL X ((n + 1))), Vi (xvL X ((n + 2))), Vi (xvL X ((n + 3)))]) (S' := []) (L0 := [Vr 0, Vi (xvL X ((n + 1))), Vi (xvL X ((n + 2))), Vi (xvL X ((n + 3)))]) (fun _ => rfl) rfl rfl rfl rfl rfl rfl (h_saw (b := b) (s := s) hT (xvL X ((n + 1))) (xvL X ((n + 2))) (xvL X ((n + 3)))) (fun r h' hq => ?_)
  obtain ⟨rfl, rfl⟩ := hq
  have hT1 := hT
  show Ev X _ _ 751 [Vr (-2), Vr 0, Vr 166, Vi (n : Int)] [Vi (aSaw G (xvL X ((n + 1))) (xvL X ((n + 2))) (xvL X ((n + 3))))] ((SHv (y : Int) (z : Int) rd), (ovl a s b)) _
  refine Ev.steps (k := 5) (pc' := 756) (L' := [Vr (-2), Vr 0, Vr 166, Vi (n : Int)]) (S' := [Vi (w32 ((n : Int) + 1)), Vr (-2), Vr 166, Vi (aSaw G (xvL X ((n + 1))) (xvL X ((n + 2))) (xvL X ((n + 3))))]) (h' := ((SHv (y : Int) (z : Int) rd), (ovl a s b))) (fun _ => rfl) ?_
  rw [show (w32 ((n : Int) + 1)) = ((n : Int) + 1) from w32_id (by unfold R32; omega)]
  refine Ev.rald (v := (xvL X ((n + 1)))) rfl (by decide) rfl (by omega) (xv_at (by omega)) ?_
  refine Ev.steps (k := 4) (pc' := 761) (L' := [Vr (-2), Vr 0, Vr 166, Vi (n : Int)]) (S' := [Vi (w32 ((n : Int) + 2)), Vr (-2), Vi (xvL X ((n + 1))), Vr 166, Vi (aSaw G (xvL X ((n + 1))) (xvL X ((n + 2))) (xvL X ((n + 3))))]) (h' := ((SHv (y : Int) (z : Int) rd), (ovl a s b))) (fun _ => rfl) ?_
  rw [show (w32 ((n : Int) + 2)) = ((n : Int) + 2) from w32_id (by unfold R32; omega)]
  refine Ev.rald (v := (xvL X ((n + 2)))) rfl (by decide) rfl (by omega) (xv_at (by omega)) ?_
  refine Ev.steps (k := 4) (pc' := 766) (L' := [Vr (-2), Vr 0, Vr 166, Vi (n : Int)]) (S' := [Vi (w32 ((n : Int) + 3)), Vr (-2), Vi (xvL X ((n + 2))), Vi (xvL X ((n + 1))), Vr 166, Vi (aSaw G (xvL X ((n + 1))) (xvL X ((n + 2))) (xvL X ((n + 3))))]) (h' := ((SHv (y : Int) (z : Int) rd), (ovl a s b))) (fun _ => rfl) ?_
  rw [show (w32 ((n : Int) + 3)) = ((n : Int) + 3) from w32_id (by unfold R32; omega)]
  refine Ev.rald (v := (xvL X ((n + 3)))) rfl (by decide) rfl (by omega) (xv_at (by omega)) ?_
  refine Ev.call (k := 0) (pc1 := 767) (L1 := [Vr (-2), Vr 0, Vr 166, Vi (n : Int)]) (S1 := [Vi (xvL X ((n + 3))), Vi (xvL X ((n + 2))), Vi (xvL X ((n + 1))), Vr 166, Vi (aSaw G (xvL X ((n + 1))) (xvL X ((n + 2))) (xvL X ((n + 3))))]) (h1 := ((SHv (y : Int) (z : Int) rd), (ovl a s b))) (m' := 232) (as := [Vr 166, Vi (xvL X ((n + 1))), Vi (xvL X ((n + 2))), Vi (xvL X ((n + 3)))]) (S' := [Vi (aSaw G (xvL X ((n + 1))) (xvL X ((n + 2))) (xvL X ((n + 3))))]) (L0 := [Vr 166, Vi (xvL X ((n + 1))), Vi (xvL X ((n + 2))), Vi (xvL X ((n + 3)))]) (fun _ => rfl) rfl rfl rfl rfl rfl rfl (g_saw (a := a) (xvL X ((n + 1))) (xvL X ((n + 2))) (xvL X ((n + 3))) hM) (fun r h' hq => ?_)
  obtain ⟨rfl, rfl⟩ := hq
  have hM1 := hM
  show Ev X _ _ 770 [Vr (-2), Vr 0, Vr 166, Vi (n : Int)] [Vi (aSaw G (xvL X ((n + 1))) (xvL X ((n + 2))) (xvL X ((n + 3)))), Vi (aSaw G (xvL X ((n + 1))) (xvL X ((n + 2))) (xvL X ((n + 3))))] ((SHv (y : Int) (z : Int) rd), (ovl a s b)) _
  refine Ev.ite (P := (aSaw G (xvL X ((n + 1))) (xvL X ((n + 2))) (xvL X ((n + 3)))) = (aSaw G (xvL X ((n + 1))) (xvL X ((n + 2))) (xvL X ((n + 3))))) (k := 1) (a := 1133) (b := 773) (L' := [Vr (-2), Vr 0, Vr 166, Vi (n : Int)]) (S' := []) (h' := ((SHv (y : Int) (z : Int) rd), (ovl a s b))) (fun _ => rfl) (fun b770 => ?_) (fun b770 => ?_)
  · exact K _ _ _ _ _ _ _ hT1 hM1 hNV
  · exact absurd rfl b770
theorem law_19 {X : List Int} {d n : Nat} {Q : Option pm_V → pm_H → Prop} (hX : X.length ≤ 3072) (hn : n + 6 ≤ X.length) (K : LawK X d Q n) {G : GST} {a s b : C3} {rd : Int} {y z : Nat} (hT : TopC G a rd y z) (hM : TopM G b) (hNV : NmV (gS G)) : Ev X (d + 403) 259 775 [Vr (-2), Vr 0, Vr 166, Vi (n : Int)] [] (SHv (y : Int) (z : Int) rd, ovl a s b) Q := by
  refine Ev.steps (k := 5) (pc' := 780) (L' := [Vr (-2), Vr 0, Vr 166, Vi (n : Int)]) (S' := [Vi (w32 ((n : Int) + 1)), Vr (-2), Vr 0]) (h' := ((SHv (y : Int) (z : Int) rd), (ovl a s b))) (fun _ => rfl) ?_
  rw [show (w32 ((n : Int) + 1)) = ((n : Int) + 1) from w32_id (by unfold R32; omega)]
  refine Ev.rald (v := (xvL X ((n + 1)))) rfl (by decide) rfl (by omega) (xv_at (by omega)) ?_
  refine Ev.steps (k := 4) (pc' := 785) (L' := [Vr (-2), Vr 0, Vr 166, Vi (n : Int)]) (S' := [Vi (w32 ((n : Int) + 2)), Vr (-2), Vi (xvL X ((n + 1))), Vr 0]) (h' := ((SHv (y : Int) (z : Int) rd), (ovl a s b))) (fun _ => rfl) ?_
  rw [show (w32 ((n : Int) + 2)) = ((n : Int) + 2) from w32_id (by unfold R32; omega)]
  refine Ev.rald (v := (xvL X ((n + 2)))) rfl (by decide) rfl (by omega) (xv_at (by omega)) ?_
  refine Ev.call (k := 0) (pc1 := 786) (L1 := [Vr (-2), Vr 0, Vr 166, Vi (n : Int)]) (S1 := [Vi (xvL X ((n + 2))), Vi (xvL X ((n + 1))), Vr 0]) (h1 := ((SHv (y : Int) (z : Int) rd), (ovl a s b))) (m' := 123) (as := [Vr 0, Vi (xvL X ((n + 1))), Vi (xvL X ((n + 2)))]) (S' := []) (L0 := [Vr 0, Vi (xvL X ((n + 1))), Vi (xvL X ((n + 2)))]) (fun _ => rfl) rfl rfl rfl rfl rfl rfl (h_knows (b := b) (s := s) hT (xvL X ((n + 1))) (xvL X ((n + 2)))) (fun r h' hq => ?_)
  obtain ⟨rfl, rfl⟩ := hq
  have hT1 := hT
  show Ev X _ _ 789 [Vr (-2), Vr 0, Vr 166, Vi (n : Int)] [Vi (aKnows G (xvL X ((n + 1))) (xvL X ((n + 2))))] ((SHv (y : Int) (z : Int) rd), (ovl a s b)) _
  refine Ev.steps (k := 5) (pc' := 794) (L' := [Vr (-2), Vr 0, Vr 166, Vi (n : Int)]) (S' := [Vi (w32 ((n : Int) + 1)), Vr (-2), Vr 166, Vi (aKnows G (xvL X ((n + 1))) (xvL X ((n + 2))))]) (h' := ((SHv (y : Int) (z : Int) rd), (ovl a s b))) (fun _ => rfl) ?_
  rw [show (w32 ((n : Int) + 1)) = ((n : Int) + 1) from w32_id (by unfold R32; omega)]
  refine Ev.rald (v := (xvL X ((n + 1)))) rfl (by decide) rfl (by omega) (xv_at (by omega)) ?_
  refine Ev.steps (k := 4) (pc' := 799) (L' := [Vr (-2), Vr 0, Vr 166, Vi (n : Int)]) (S' := [Vi (w32 ((n : Int) + 2)), Vr (-2), Vi (xvL X ((n + 1))), Vr 166, Vi (aKnows G (xvL X ((n + 1))) (xvL X ((n + 2))))]) (h' := ((SHv (y : Int) (z : Int) rd), (ovl a s b))) (fun _ => rfl) ?_
  rw [show (w32 ((n : Int) + 2)) = ((n : Int) + 2) from w32_id (by unfold R32; omega)]
  refine Ev.rald (v := (xvL X ((n + 2)))) rfl (by decide) rfl (by omega) (xv_at (by omega)) ?_
  refine Ev.call (k := 0) (pc1 := 800) (L1 := [Vr (-2), Vr 0, Vr 166, Vi (n : Int)]) (S1 := [Vi (xvL X ((n + 2))), Vi (xvL X ((n + 1))), Vr 166, Vi (aKnows G (xvL X ((n + 1))) (xvL X ((n + 2))))]) (h1 := ((SHv (y : Int) (z : Int) rd), (ovl a s b))) (m' := 233) (as := [Vr 166, Vi (xvL X ((n + 1))), Vi (xvL X ((n + 2)))]) (S' := [Vi (aKnows G (xvL X ((n + 1))) (xvL X ((n + 2))))]) (L0 := [Vr 166, Vi (xvL X ((n + 1))), Vi (xvL X ((n + 2)))]) (fun _ => rfl) rfl rfl rfl rfl rfl rfl (g_knows (a := a) (xvL X ((n + 1))) (xvL X ((n + 2))) hM) (fun r h' hq => ?_)
  obtain ⟨rfl, rfl⟩ := hq
  have hM1 := hM
  show Ev X _ _ 803 [Vr (-2), Vr 0, Vr 166, Vi (n : Int)] [Vi (aKnows G (xvL X ((n + 1))) (xvL X ((n + 2)))), Vi (aKnows G (xvL X ((n + 1))) (xvL X ((n + 2))))] ((SHv (y : Int) (z : Int) rd), (ovl a s b)) _
  refine Ev.ite (P := (aKnows G (xvL X ((n + 1))) (xvL X ((n + 2)))) = (aKnows G (xvL X ((n + 1))) (xvL X ((n + 2))))) (k := 1) (a := 1133) (b := 806) (L' := [Vr (-2), Vr 0, Vr 166, Vi (n : Int)]) (S' := []) (h' := ((SHv (y : Int) (z : Int) rd), (ovl a s b))) (fun _ => rfl) (fun b803 => ?_) (fun b803 => ?_)
  · exact K _ _ _ _ _ _ _ hT1 hM1 hNV
  · exact absurd rfl b803
theorem law_20 {X : List Int} {d n : Nat} {Q : Option pm_V → pm_H → Prop} (hX : X.length ≤ 3072) (hn : n + 6 ≤ X.length) (K : LawK X d Q n) {G : GST} {a s b : C3} {rd : Int} {y z : Nat} (hT : TopC G a rd y z) (hM : TopM G b) (hNV : NmV (gS G)) : Ev X (d + 403) 259 808 [Vr (-2), Vr 0, Vr 166, Vi (n : Int)] [] (SHv (y : Int) (z : Int) rd, ovl a s b) Q := by
  refine Ev.steps (k := 5) (pc' := 813) (L' := [Vr (-2), Vr 0, Vr 166, Vi (n : Int)]) (S' := [Vi (w32 ((n : Int) + 1)), Vr (-2), Vr 0]) (h' := ((SHv (y : Int) (z : Int) rd), (ovl a s b))) (fun _ => rfl) ?_
  rw [show (w32 ((n : Int) + 1)) = ((n : Int) + 1) from w32_id (by unfold R32; omega)]
  refine Ev.rald (v := (xvL X ((n + 1)))) rfl (by decide) rfl (by omega) (xv_at (by omega)) ?_
  refine Ev.steps (k := 4) (pc' := 818) (L' := [Vr (-2), Vr 0, Vr 166, Vi (n : Int)]) (S' := [Vi (w32 ((n : Int) + 2)), Vr (-2), Vi (xvL X ((n + 1))), Vr 0]) (h' := ((SHv (y : Int) (z : Int) rd), (ovl a s b))) (fun _ => rfl) ?_
  rw [show (w32 ((n : Int) + 2)) = ((n : Int) + 2) from w32_id (by unfold R32; omega)]
  refine Ev.rald (v := (xvL X ((n + 2)))) rfl (by decide) rfl (by omega) (xv_at (by omega)) ?_
  refine Ev.call (k := 0) (pc1 := 819) (L1 := [Vr (-2), Vr 0, Vr 166, Vi (n : Int)]) (S1 := [Vi (xvL X ((n + 2))), Vi (xvL X ((n + 1))), Vr 0]) (h1 := ((SHv (y : Int) (z : Int) rd), (ovl a s b))) (m' := 124) (as := [Vr 0, Vi (xvL X ((n + 1))), Vi (xvL X ((n + 2)))]) (S' := []) (L0 := [Vr 0, Vi (xvL X ((n + 1))), Vi (xvL X ((n + 2)))]) (fun _ => rfl) rfl rfl rfl rfl rfl rfl (h_needed (b := b) (s := s) hT (xvL X ((n + 1))) (xvL X ((n + 2)))) (fun r h' hq => ?_)
  obtain ⟨rfl, a1, rfl, hT1⟩ := hq
  show Ev X _ _ 822 [Vr (-2), Vr 0, Vr 166, Vi (n : Int)] [Vi (aNeeded G (xvL X ((n + 1))) (xvL X ((n + 2))))] ((SHv (y : Int) (z : Int) rd), (ovl a1 s b)) _
  refine Ev.steps (k := 5) (pc' := 827) (L' := [Vr (-2), Vr 0, Vr 166, Vi (n : Int)]) (S' := [Vi (w32 ((n : Int) + 1)), Vr (-2), Vr 166, Vi (aNeeded G (xvL X ((n + 1))) (xvL X ((n + 2))))]) (h' := ((SHv (y : Int) (z : Int) rd), (ovl a1 s b))) (fun _ => rfl) ?_
  rw [show (w32 ((n : Int) + 1)) = ((n : Int) + 1) from w32_id (by unfold R32; omega)]
  refine Ev.rald (v := (xvL X ((n + 1)))) rfl (by decide) rfl (by omega) (xv_at (by omega)) ?_
  refine Ev.steps (k := 4) (pc' := 832) (L' := [Vr (-2), Vr 0, Vr 166, Vi (n : Int)]) (S' := [Vi (w32 ((n : Int) + 2)), Vr (-2), Vi (xvL X ((n + 1))), Vr 166, Vi (aNeeded G (xvL X ((n + 1))) (xvL X ((n + 2))))]) (h' := ((SHv (y : Int) (z : Int) rd), (ovl a1 s b))) (fun _ => rfl) ?_
  rw [show (w32 ((n : Int) + 2)) = ((n : Int) + 2) from w32_id (by unfold R32; omega)]
  refine Ev.rald (v := (xvL X ((n + 2)))) rfl (by decide) rfl (by omega) (xv_at (by omega)) ?_
  refine Ev.call (k := 0) (pc1 := 833) (L1 := [Vr (-2), Vr 0, Vr 166, Vi (n : Int)]) (S1 := [Vi (xvL X ((n + 2))), Vi (xvL X ((n + 1))), Vr 166, Vi (aNeeded G (xvL X ((n + 1))) (xvL X ((n + 2))))]) (h1 := ((SHv (y : Int) (z : Int) rd), (ovl a1 s b))) (m' := 234) (as := [Vr 166, Vi (xvL X ((n + 1))), Vi (xvL X ((n + 2)))]) (S' := [Vi (aNeeded G (xvL X ((n + 1))) (xvL X ((n + 2))))]) (L0 := [Vr 166, Vi (xvL X ((n + 1))), Vi (xvL X ((n + 2))), Vx, Vx]) (fun _ => rfl) rfl rfl rfl rfl rfl rfl (g_needed (a := a1) (xvL X ((n + 1))) (xvL X ((n + 2))) hM) (fun r h' hq => ?_)
  obtain ⟨rfl, s1, b1, rfl, hM1⟩ := hq
  show Ev X _ _ 836 [Vr (-2), Vr 0, Vr 166, Vi (n : Int)] [Vi (aNeeded G (xvL X ((n + 1))) (xvL X ((n + 2)))), Vi (aNeeded G (xvL X ((n + 1))) (xvL X ((n + 2))))] ((SHv (y : Int) (z : Int) rd), (ovl a1 s1 b1)) _
  refine Ev.ite (P := (aNeeded G (xvL X ((n + 1))) (xvL X ((n + 2)))) = (aNeeded G (xvL X ((n + 1))) (xvL X ((n + 2))))) (k := 1) (a := 1133) (b := 839) (L' := [Vr (-2), Vr 0, Vr 166, Vi (n : Int)]) (S' := []) (h' := ((SHv (y : Int) (z : Int) rd), (ovl a1 s1 b1))) (fun _ => rfl) (fun b836 => ?_) (fun b836 => ?_)
  · exact K _ _ _ _ _ _ _ hT1 hM1 hNV
  · exact absurd rfl b836
theorem law_21 {X : List Int} {d n : Nat} {Q : Option pm_V → pm_H → Prop} (hX : X.length ≤ 3072) (hn : n + 6 ≤ X.length) (K : LawK X d Q n) {G : GST} {a s b : C3} {rd : Int} {y z : Nat} (hT : TopC G a rd y z) (hM : TopM G b) (hNV : NmV (gS G)) : Ev X (d + 403) 259 841 [Vr (-2), Vr 0, Vr 166, Vi (n : Int)] [] (SHv (y : Int) (z : Int) rd, ovl a s b) Q := by
  by_cases hz : (xvL X (n + 3)) = 0
  · refine Ev.steps (k := 5) (pc' := 846) (L' := [Vr (-2), Vr 0, Vr 166, Vi (n : Int)]) (S' := [Vi (w32 ((n : Int) + 1)), Vr (-2), Vr 0]) (h' := ((SHv (y : Int) (z : Int) rd), (ovl a s b))) (fun _ => rfl) ?_
    rw [show (w32 ((n : Int) + 1)) = ((n : Int) + 1) from w32_id (by unfold R32; omega)]
    refine Ev.rald (v := (xvL X ((n + 1)))) rfl (by decide) rfl (by omega) (xv_at (by omega)) ?_
    refine Ev.steps (k := 4) (pc' := 851) (L' := [Vr (-2), Vr 0, Vr 166, Vi (n : Int)]) (S' := [Vi (w32 ((n : Int) + 2)), Vr (-2), Vi (xvL X ((n + 1))), Vr 0]) (h' := ((SHv (y : Int) (z : Int) rd), (ovl a s b))) (fun _ => rfl) ?_
    rw [show (w32 ((n : Int) + 2)) = ((n : Int) + 2) from w32_id (by unfold R32; omega)]
    refine Ev.rald (v := (xvL X ((n + 2)))) rfl (by decide) rfl (by omega) (xv_at (by omega)) ?_
    refine Ev.steps (k := 4) (pc' := 856) (L' := [Vr (-2), Vr 0, Vr 166, Vi (n : Int)]) (S' := [Vi (w32 ((n : Int) + 3)), Vr (-2), Vi (xvL X ((n + 2))), Vi (xvL X ((n + 1))), Vr 0]) (h' := ((SHv (y : Int) (z : Int) rd), (ovl a s b))) (fun _ => rfl) ?_
    rw [show (w32 ((n : Int) + 3)) = ((n : Int) + 3) from w32_id (by unfold R32; omega)]
    refine Ev.rald (v := (xvL X ((n + 3)))) rfl (by decide) rfl (by omega) (xv_at (by omega)) ?_
    refine Ev.ite (P := (xvL X ((n + 3))) = 0) (k := 1) (a := 864) (b := 860) (L' := [Vr (-2), Vr 0, Vr 166, Vi (n : Int)]) (S' := [Vi (xvL X ((n + 2))), Vi (xvL X ((n + 1))), Vr 0]) (h' := ((SHv (y : Int) (z : Int) rd), (ovl a s b))) (fun _ => rfl) (fun b857 => ?_) (fun b857 => ?_)
    · refine Ev.call (k := 1) (pc1 := 865) (L1 := [Vr (-2), Vr 0, Vr 166, Vi (n : Int)]) (S1 := [Vi 0, Vi (xvL X ((n + 2))), Vi (xvL X ((n + 1))), Vr 0]) (h1 := ((SHv (y : Int) (z : Int) rd), (ovl a s b))) (m' := 128) (as := [Vr 0, Vi (xvL X ((n + 1))), Vi (xvL X ((n + 2))), Vi 0]) (S' := []) (L0 := [Vr 0, Vi (xvL X ((n + 1))), Vi (xvL X ((n + 2))), Vi 0]) (fun _ => rfl) rfl rfl rfl rfl rfl rfl (h_span (b := b) (s := s) hT (xvL X ((n + 1))) (xvL X ((n + 2))) 0) (fun r h' hq => ?_)
      obtain ⟨rfl, a1, rfl, hT1⟩ := hq
      show Ev X _ _ 868 [Vr (-2), Vr 0, Vr 166, Vi (n : Int)] [Vi (aSpan G (xvL X ((n + 1))) (xvL X ((n + 2))) (decide (0 ≠ 0)))] ((SHv (y : Int) (z : Int) rd), (ovl a1 s b)) _
      refine Ev.steps (k := 5) (pc' := 873) (L' := [Vr (-2), Vr 0, Vr 166, Vi (n : Int)]) (S' := [Vi (w32 ((n : Int) + 1)), Vr (-2), Vr 166, Vi (aSpan G (xvL X ((n + 1))) (xvL X ((n + 2))) (decide (0 ≠ 0)))]) (h' := ((SHv (y : Int) (z : Int) rd), (ovl a1 s b))) (fun _ => rfl) ?_
      rw [show (w32 ((n : Int) + 1)) = ((n : Int) + 1) from w32_id (by unfold R32; omega)]
      refine Ev.rald (v := (xvL X ((n + 1)))) rfl (by decide) rfl (by omega) (xv_at (by omega)) ?_
      refine Ev.steps (k := 4) (pc' := 878) (L' := [Vr (-2), Vr 0, Vr 166, Vi (n : Int)]) (S' := [Vi (w32 ((n : Int) + 2)), Vr (-2), Vi (xvL X ((n + 1))), Vr 166, Vi (aSpan G (xvL X ((n + 1))) (xvL X ((n + 2))) (decide (0 ≠ 0)))]) (h' := ((SHv (y : Int) (z : Int) rd), (ovl a1 s b))) (fun _ => rfl) ?_
      rw [show (w32 ((n : Int) + 2)) = ((n : Int) + 2) from w32_id (by unfold R32; omega)]
      refine Ev.rald (v := (xvL X ((n + 2)))) rfl (by decide) rfl (by omega) (xv_at (by omega)) ?_
      refine Ev.steps (k := 4) (pc' := 883) (L' := [Vr (-2), Vr 0, Vr 166, Vi (n : Int)]) (S' := [Vi (w32 ((n : Int) + 3)), Vr (-2), Vi (xvL X ((n + 2))), Vi (xvL X ((n + 1))), Vr 166, Vi (aSpan G (xvL X ((n + 1))) (xvL X ((n + 2))) (decide (0 ≠ 0)))]) (h' := ((SHv (y : Int) (z : Int) rd), (ovl a1 s b))) (fun _ => rfl) ?_
      rw [show (w32 ((n : Int) + 3)) = ((n : Int) + 3) from w32_id (by unfold R32; omega)]
      refine Ev.rald (v := (xvL X ((n + 3)))) rfl (by decide) rfl (by omega) (xv_at (by omega)) ?_
      refine Ev.ite (P := (xvL X ((n + 3))) = 0) (k := 1) (a := 891) (b := 887) (L' := [Vr (-2), Vr 0, Vr 166, Vi (n : Int)]) (S' := [Vi (xvL X ((n + 2))), Vi (xvL X ((n + 1))), Vr 166, Vi (aSpan G (xvL X ((n + 1))) (xvL X ((n + 2))) (decide (0 ≠ 0)))]) (h' := ((SHv (y : Int) (z : Int) rd), (ovl a1 s b))) (fun _ => rfl) (fun b884 => ?_) (fun b884 => ?_)
      · refine Ev.call (k := 1) (pc1 := 892) (L1 := [Vr (-2), Vr 0, Vr 166, Vi (n : Int)]) (S1 := [Vi 0, Vi (xvL X ((n + 2))), Vi (xvL X ((n + 1))), Vr 166, Vi (aSpan G (xvL X ((n + 1))) (xvL X ((n + 2))) (decide (0 ≠ 0)))]) (h1 := ((SHv (y : Int) (z : Int) rd), (ovl a1 s b))) (m' := 235) (as := [Vr 166, Vi (xvL X ((n + 1))), Vi (xvL X ((n + 2))), Vi 0]) (S' := [Vi (aSpan G (xvL X ((n + 1))) (xvL X ((n + 2))) (decide (0 ≠ 0)))]) (L0 := [Vr 166, Vi (xvL X ((n + 1))), Vi (xvL X ((n + 2))), Vi 0]) (fun _ => rfl) rfl rfl rfl rfl rfl rfl (g_span (a := a1) (xvL X ((n + 1))) (xvL X ((n + 2))) 0 hM) (fun r h' hq => ?_)
        obtain ⟨rfl, b1, rfl, hM1⟩ := hq
        show Ev X _ _ 895 [Vr (-2), Vr 0, Vr 166, Vi (n : Int)] [Vi (aSpan G (xvL X ((n + 1))) (xvL X ((n + 2))) (decide (0 ≠ 0))), Vi (aSpan G (xvL X ((n + 1))) (xvL X ((n + 2))) (decide (0 ≠ 0)))] ((SHv (y : Int) (z : Int) rd), (ovl a1 s b1)) _
        refine Ev.ite (P := (aSpan G (xvL X ((n + 1))) (xvL X ((n + 2))) (decide (0 ≠ 0))) = (aSpan G (xvL X ((n + 1))) (xvL X ((n + 2))) (decide (0 ≠ 0)))) (k := 1) (a := 1133) (b := 898) (L' := [Vr (-2), Vr 0, Vr 166, Vi (n : Int)]) (S' := []) (h' := ((SHv (y : Int) (z : Int) rd), (ovl a1 s b1))) (fun _ => rfl) (fun b895 => ?_) (fun b895 => ?_)
        · exact K _ _ _ _ _ _ _ hT1 hM1 hNV
        · exact absurd rfl b895
      · exact absurd hz b884
    · exact absurd hz b857
  · refine Ev.steps (k := 5) (pc' := 846) (L' := [Vr (-2), Vr 0, Vr 166, Vi (n : Int)]) (S' := [Vi (w32 ((n : Int) + 1)), Vr (-2), Vr 0]) (h' := ((SHv (y : Int) (z : Int) rd), (ovl a s b))) (fun _ => rfl) ?_
    rw [show (w32 ((n : Int) + 1)) = ((n : Int) + 1) from w32_id (by unfold R32; omega)]
    refine Ev.rald (v := (xvL X ((n + 1)))) rfl (by decide) rfl (by omega) (xv_at (by omega)) ?_
    refine Ev.steps (k := 4) (pc' := 851) (L' := [Vr (-2), Vr 0, Vr 166, Vi (n : Int)]) (S' := [Vi (w32 ((n : Int) + 2)), Vr (-2), Vi (xvL X ((n + 1))), Vr 0]) (h' := ((SHv (y : Int) (z : Int) rd), (ovl a s b))) (fun _ => rfl) ?_
    rw [show (w32 ((n : Int) + 2)) = ((n : Int) + 2) from w32_id (by unfold R32; omega)]
    refine Ev.rald (v := (xvL X ((n + 2)))) rfl (by decide) rfl (by omega) (xv_at (by omega)) ?_
    refine Ev.steps (k := 4) (pc' := 856) (L' := [Vr (-2), Vr 0, Vr 166, Vi (n : Int)]) (S' := [Vi (w32 ((n : Int) + 3)), Vr (-2), Vi (xvL X ((n + 2))), Vi (xvL X ((n + 1))), Vr 0]) (h' := ((SHv (y : Int) (z : Int) rd), (ovl a s b))) (fun _ => rfl) ?_
    rw [show (w32 ((n : Int) + 3)) = ((n : Int) + 3) from w32_id (by unfold R32; omega)]
    refine Ev.rald (v := (xvL X ((n + 3)))) rfl (by decide) rfl (by omega) (xv_at (by omega)) ?_
    refine Ev.ite (P := (xvL X ((n + 3))) = 0) (k := 1) (a := 864) (b := 860) (L' := [Vr (-2), Vr 0, Vr 166, Vi (n : Int)]) (S' := [Vi (xvL X ((n + 2))), Vi (xvL X ((n + 1))), Vr 0]) (h' := ((SHv (y : Int) (z : Int) rd), (ovl a s b))) (fun _ => rfl) (fun b857 => ?_) (fun b857 => ?_)
    · exact absurd b857 hz
    · refine Ev.call (k := 2) (pc1 := 865) (L1 := [Vr (-2), Vr 0, Vr 166, Vi (n : Int)]) (S1 := [Vi 1, Vi (xvL X ((n + 2))), Vi (xvL X ((n + 1))), Vr 0]) (h1 := ((SHv (y : Int) (z : Int) rd), (ovl a s b))) (m' := 128) (as := [Vr 0, Vi (xvL X ((n + 1))), Vi (xvL X ((n + 2))), Vi 1]) (S' := []) (L0 := [Vr 0, Vi (xvL X ((n + 1))), Vi (xvL X ((n + 2))), Vi 1]) (fun _ => rfl) rfl rfl rfl rfl rfl rfl (h_span (b := b) (s := s) hT (xvL X ((n + 1))) (xvL X ((n + 2))) 1) (fun r h' hq => ?_)
      obtain ⟨rfl, a1, rfl, hT1⟩ := hq
      show Ev X _ _ 868 [Vr (-2), Vr 0, Vr 166, Vi (n : Int)] [Vi (aSpan G (xvL X ((n + 1))) (xvL X ((n + 2))) (decide (1 ≠ 0)))] ((SHv (y : Int) (z : Int) rd), (ovl a1 s b)) _
      refine Ev.steps (k := 5) (pc' := 873) (L' := [Vr (-2), Vr 0, Vr 166, Vi (n : Int)]) (S' := [Vi (w32 ((n : Int) + 1)), Vr (-2), Vr 166, Vi (aSpan G (xvL X ((n + 1))) (xvL X ((n + 2))) (decide (1 ≠ 0)))]) (h' := ((SHv (y : Int) (z : Int) rd), (ovl a1 s b))) (fun _ => rfl) ?_
      rw [show (w32 ((n : Int) + 1)) = ((n : Int) + 1) from w32_id (by unfold R32; omega)]
      refine Ev.rald (v := (xvL X ((n + 1)))) rfl (by decide) rfl (by omega) (xv_at (by omega)) ?_
      refine Ev.steps (k := 4) (pc' := 878) (L' := [Vr (-2), Vr 0, Vr 166, Vi (n : Int)]) (S' := [Vi (w32 ((n : Int) + 2)), Vr (-2), Vi (xvL X ((n + 1))), Vr 166, Vi (aSpan G (xvL X ((n + 1))) (xvL X ((n + 2))) (decide (1 ≠ 0)))]) (h' := ((SHv (y : Int) (z : Int) rd), (ovl a1 s b))) (fun _ => rfl) ?_
      rw [show (w32 ((n : Int) + 2)) = ((n : Int) + 2) from w32_id (by unfold R32; omega)]
      refine Ev.rald (v := (xvL X ((n + 2)))) rfl (by decide) rfl (by omega) (xv_at (by omega)) ?_
      refine Ev.steps (k := 4) (pc' := 883) (L' := [Vr (-2), Vr 0, Vr 166, Vi (n : Int)]) (S' := [Vi (w32 ((n : Int) + 3)), Vr (-2), Vi (xvL X ((n + 2))), Vi (xvL X ((n + 1))), Vr 166, Vi (aSpan G (xvL X ((n + 1))) (xvL X ((n + 2))) (decide (1 ≠ 0)))]) (h' := ((SHv (y : Int) (z : Int) rd), (ovl a1 s b))) (fun _ => rfl) ?_
      rw [show (w32 ((n : Int) + 3)) = ((n : Int) + 3) from w32_id (by unfold R32; omega)]
      refine Ev.rald (v := (xvL X ((n + 3)))) rfl (by decide) rfl (by omega) (xv_at (by omega)) ?_
      refine Ev.ite (P := (xvL X ((n + 3))) = 0) (k := 1) (a := 891) (b := 887) (L' := [Vr (-2), Vr 0, Vr 166, Vi (n : Int)]) (S' := [Vi (xvL X ((n + 2))), Vi (xvL X ((n + 1))), Vr 166, Vi (aSpan G (xvL X ((n + 1))) (xvL X ((n + 2))) (decide (1 ≠ 0)))]) (h' := ((SHv (y : Int) (z : Int) rd), (ovl a1 s b))) (fun _ => rfl) (fun b884 => ?_) (fun b884 => ?_)
      · exact absurd b884 hz
      · refine Ev.call (k := 2) (pc1 := 892) (L1 := [Vr (-2), Vr 0, Vr 166, Vi (n : Int)]) (S1 := [Vi 1, Vi (xvL X ((n + 2))), Vi (xvL X ((n + 1))), Vr 166, Vi (aSpan G (xvL X ((n + 1))) (xvL X ((n + 2))) (decide (1 ≠ 0)))]) (h1 := ((SHv (y : Int) (z : Int) rd), (ovl a1 s b))) (m' := 235) (as := [Vr 166, Vi (xvL X ((n + 1))), Vi (xvL X ((n + 2))), Vi 1]) (S' := [Vi (aSpan G (xvL X ((n + 1))) (xvL X ((n + 2))) (decide (1 ≠ 0)))]) (L0 := [Vr 166, Vi (xvL X ((n + 1))), Vi (xvL X ((n + 2))), Vi 1]) (fun _ => rfl) rfl rfl rfl rfl rfl rfl (g_span (a := a1) (xvL X ((n + 1))) (xvL X ((n + 2))) 1 hM) (fun r h' hq => ?_)
        obtain ⟨rfl, b1, rfl, hM1⟩ := hq
        show Ev X _ _ 895 [Vr (-2), Vr 0, Vr 166, Vi (n : Int)] [Vi (aSpan G (xvL X ((n + 1))) (xvL X ((n + 2))) (decide (1 ≠ 0))), Vi (aSpan G (xvL X ((n + 1))) (xvL X ((n + 2))) (decide (1 ≠ 0)))] ((SHv (y : Int) (z : Int) rd), (ovl a1 s b1)) _
        refine Ev.ite (P := (aSpan G (xvL X ((n + 1))) (xvL X ((n + 2))) (decide (1 ≠ 0))) = (aSpan G (xvL X ((n + 1))) (xvL X ((n + 2))) (decide (1 ≠ 0)))) (k := 1) (a := 1133) (b := 898) (L' := [Vr (-2), Vr 0, Vr 166, Vi (n : Int)]) (S' := []) (h' := ((SHv (y : Int) (z : Int) rd), (ovl a1 s b1))) (fun _ => rfl) (fun b895 => ?_) (fun b895 => ?_)
        · exact K _ _ _ _ _ _ _ hT1 hM1 hNV
        · exact absurd rfl b895
theorem law_22 {X : List Int} {d n : Nat} {Q : Option pm_V → pm_H → Prop} (hX : X.length ≤ 3072) (hn : n + 6 ≤ X.length) (K : LawK X d Q n) {G : GST} {a s b : C3} {rd : Int} {y z : Nat} (hT : TopC G a rd y z) (hM : TopM G b) (hNV : NmV (gS G)) : Ev X (d + 403) 259 900 [Vr (-2), Vr 0, Vr 166, Vi (n : Int)] [] (SHv (y : Int) (z : Int) rd, ovl a s b) Q := by
  refine Ev.steps (k := 5) (pc' := 905) (L' := [Vr (-2), Vr 0, Vr 166, Vi (n : Int)]) (S' := [Vi (w32 ((n : Int) + 1)), Vr (-2), Vr 0]) (h' := ((SHv (y : Int) (z : Int) rd), (ovl a s b))) (fun _ => rfl) ?_
  rw [show (w32 ((n : Int) + 1)) = ((n : Int) + 1) from w32_id (by unfold R32; omega)]
  refine Ev.rald (v := (xvL X ((n + 1)))) rfl (by decide) rfl (by omega) (xv_at (by omega)) ?_
  refine Ev.steps (k := 4) (pc' := 910) (L' := [Vr (-2), Vr 0, Vr 166, Vi (n : Int)]) (S' := [Vi (w32 ((n : Int) + 2)), Vr (-2), Vi (xvL X ((n + 1))), Vr 0]) (h' := ((SHv (y : Int) (z : Int) rd), (ovl a s b))) (fun _ => rfl) ?_
  rw [show (w32 ((n : Int) + 2)) = ((n : Int) + 2) from w32_id (by unfold R32; omega)]
  refine Ev.rald (v := (xvL X ((n + 2)))) rfl (by decide) rfl (by omega) (xv_at (by omega)) ?_
  refine Ev.steps (k := 4) (pc' := 915) (L' := [Vr (-2), Vr 0, Vr 166, Vi (n : Int)]) (S' := [Vi (w32 ((n : Int) + 3)), Vr (-2), Vi (xvL X ((n + 2))), Vi (xvL X ((n + 1))), Vr 0]) (h' := ((SHv (y : Int) (z : Int) rd), (ovl a s b))) (fun _ => rfl) ?_
  rw [show (w32 ((n : Int) + 3)) = ((n : Int) + 3) from w32_id (by unfold R32; omega)]
  refine Ev.rald (v := (xvL X ((n + 3)))) rfl (by decide) rfl (by omega) (xv_at (by omega)) ?_
  refine Ev.call (k := 0) (pc1 := 916) (L1 := [Vr (-2), Vr 0, Vr 166, Vi (n : Int)]) (S1 := [Vi (xvL X ((n + 3))), Vi (xvL X ((n + 2))), Vi (xvL X ((n + 1))), Vr 0]) (h1 := ((SHv (y : Int) (z : Int) rd), (ovl a s b))) (m' := 134) (as := [Vr 0, Vi (xvL X ((n + 1))), Vi (xvL X ((n + 2))), Vi (xvL X ((n + 3)))]) (S' := []) (L0 := [Vr 0, Vi (xvL X ((n + 1))), Vi (xvL X ((n + 2))), Vi (xvL X ((n + 3))), Vx]) (fun _ => rfl) rfl rfl rfl rfl rfl rfl (h_could (b := b) (s := s) hT (xvL X ((n + 1))) (xvL X ((n + 2))) (xvL X ((n + 3)))) (fun r h' hq => ?_)
  obtain ⟨rfl, a1, rfl, hT1⟩ := hq
  show Ev X _ _ 919 [Vr (-2), Vr 0, Vr 166, Vi (n : Int)] [Vi (aCould G (xvL X ((n + 1))) (xvL X ((n + 2))) (xvL X ((n + 3))))] ((SHv (y : Int) (z : Int) rd), (ovl a1 s b)) _
  refine Ev.steps (k := 5) (pc' := 924) (L' := [Vr (-2), Vr 0, Vr 166, Vi (n : Int)]) (S' := [Vi (w32 ((n : Int) + 1)), Vr (-2), Vr 166, Vi (aCould G (xvL X ((n + 1))) (xvL X ((n + 2))) (xvL X ((n + 3))))]) (h' := ((SHv (y : Int) (z : Int) rd), (ovl a1 s b))) (fun _ => rfl) ?_
  rw [show (w32 ((n : Int) + 1)) = ((n : Int) + 1) from w32_id (by unfold R32; omega)]
  refine Ev.rald (v := (xvL X ((n + 1)))) rfl (by decide) rfl (by omega) (xv_at (by omega)) ?_
  refine Ev.steps (k := 4) (pc' := 929) (L' := [Vr (-2), Vr 0, Vr 166, Vi (n : Int)]) (S' := [Vi (w32 ((n : Int) + 2)), Vr (-2), Vi (xvL X ((n + 1))), Vr 166, Vi (aCould G (xvL X ((n + 1))) (xvL X ((n + 2))) (xvL X ((n + 3))))]) (h' := ((SHv (y : Int) (z : Int) rd), (ovl a1 s b))) (fun _ => rfl) ?_
  rw [show (w32 ((n : Int) + 2)) = ((n : Int) + 2) from w32_id (by unfold R32; omega)]
  refine Ev.rald (v := (xvL X ((n + 2)))) rfl (by decide) rfl (by omega) (xv_at (by omega)) ?_
  refine Ev.steps (k := 4) (pc' := 934) (L' := [Vr (-2), Vr 0, Vr 166, Vi (n : Int)]) (S' := [Vi (w32 ((n : Int) + 3)), Vr (-2), Vi (xvL X ((n + 2))), Vi (xvL X ((n + 1))), Vr 166, Vi (aCould G (xvL X ((n + 1))) (xvL X ((n + 2))) (xvL X ((n + 3))))]) (h' := ((SHv (y : Int) (z : Int) rd), (ovl a1 s b))) (fun _ => rfl) ?_
  rw [show (w32 ((n : Int) + 3)) = ((n : Int) + 3) from w32_id (by unfold R32; omega)]
  refine Ev.rald (v := (xvL X ((n + 3)))) rfl (by decide) rfl (by omega) (xv_at (by omega)) ?_
  refine Ev.call (k := 0) (pc1 := 935) (L1 := [Vr (-2), Vr 0, Vr 166, Vi (n : Int)]) (S1 := [Vi (xvL X ((n + 3))), Vi (xvL X ((n + 2))), Vi (xvL X ((n + 1))), Vr 166, Vi (aCould G (xvL X ((n + 1))) (xvL X ((n + 2))) (xvL X ((n + 3))))]) (h1 := ((SHv (y : Int) (z : Int) rd), (ovl a1 s b))) (m' := 242) (as := [Vr 166, Vi (xvL X ((n + 1))), Vi (xvL X ((n + 2))), Vi (xvL X ((n + 3)))]) (S' := [Vi (aCould G (xvL X ((n + 1))) (xvL X ((n + 2))) (xvL X ((n + 3))))]) (L0 := [Vr 166, Vi (xvL X ((n + 1))), Vi (xvL X ((n + 2))), Vi (xvL X ((n + 3)))]) (fun _ => rfl) rfl rfl rfl rfl rfl rfl (g_could (a := a1) (xvL X ((n + 1))) (xvL X ((n + 2))) (xvL X ((n + 3))) hM) (fun r h' hq => ?_)
  obtain ⟨rfl, b1, rfl, hM1⟩ := hq
  show Ev X _ _ 938 [Vr (-2), Vr 0, Vr 166, Vi (n : Int)] [Vi (aCould G (xvL X ((n + 1))) (xvL X ((n + 2))) (xvL X ((n + 3)))), Vi (aCould G (xvL X ((n + 1))) (xvL X ((n + 2))) (xvL X ((n + 3))))] ((SHv (y : Int) (z : Int) rd), (ovl a1 s b1)) _
  refine Ev.ite (P := (aCould G (xvL X ((n + 1))) (xvL X ((n + 2))) (xvL X ((n + 3)))) = (aCould G (xvL X ((n + 1))) (xvL X ((n + 2))) (xvL X ((n + 3))))) (k := 1) (a := 1133) (b := 941) (L' := [Vr (-2), Vr 0, Vr 166, Vi (n : Int)]) (S' := []) (h' := ((SHv (y : Int) (z : Int) rd), (ovl a1 s b1))) (fun _ => rfl) (fun b938 => ?_) (fun b938 => ?_)
  · exact K _ _ _ _ _ _ _ hT1 hM1 hNV
  · exact absurd rfl b938
theorem law_23 {X : List Int} {d n : Nat} {Q : Option pm_V → pm_H → Prop} (hX : X.length ≤ 3072) (hn : n + 6 ≤ X.length) (K : LawK X d Q n) {G : GST} {a s b : C3} {rd : Int} {y z : Nat} (hT : TopC G a rd y z) (hM : TopM G b) (hNV : NmV (gS G)) : Ev X (d + 403) 259 943 [Vr (-2), Vr 0, Vr 166, Vi (n : Int)] [] (SHv (y : Int) (z : Int) rd, ovl a s b) Q := by
  by_cases hz : (xvL X (n + 2)) = 0
  · refine Ev.steps (k := 5) (pc' := 948) (L' := [Vr (-2), Vr 0, Vr 166, Vi (n : Int)]) (S' := [Vi (w32 ((n : Int) + 1)), Vr (-2), Vr 0]) (h' := ((SHv (y : Int) (z : Int) rd), (ovl a s b))) (fun _ => rfl) ?_
    rw [show (w32 ((n : Int) + 1)) = ((n : Int) + 1) from w32_id (by unfold R32; omega)]
    refine Ev.rald (v := (xvL X ((n + 1)))) rfl (by decide) rfl (by omega) (xv_at (by omega)) ?_
    refine Ev.steps (k := 4) (pc' := 953) (L' := [Vr (-2), Vr 0, Vr 166, Vi (n : Int)]) (S' := [Vi (w32 ((n : Int) + 2)), Vr (-2), Vi (xvL X ((n + 1))), Vr 0]) (h' := ((SHv (y : Int) (z : Int) rd), (ovl a s b))) (fun _ => rfl) ?_
    rw [show (w32 ((n : Int) + 2)) = ((n : Int) + 2) from w32_id (by unfold R32; omega)]
    refine Ev.rald (v := (xvL X ((n + 2)))) rfl (by decide) rfl (by omega) (xv_at (by omega)) ?_
    refine Ev.ite (P := (xvL X ((n + 2))) = 0) (k := 1) (a := 961) (b := 957) (L' := [Vr (-2), Vr 0, Vr 166, Vi (n : Int)]) (S' := [Vi (xvL X ((n + 1))), Vr 0]) (h' := ((SHv (y : Int) (z : Int) rd), (ovl a s b))) (fun _ => rfl) (fun b954 => ?_) (fun b954 => ?_)
    · refine Ev.call (k := 1) (pc1 := 962) (L1 := [Vr (-2), Vr 0, Vr 166, Vi (n : Int)]) (S1 := [Vi 0, Vi (xvL X ((n + 1))), Vr 0]) (h1 := ((SHv (y : Int) (z : Int) rd), (ovl a s b))) (m' := 137) (as := [Vr 0, Vi (xvL X ((n + 1))), Vi 0]) (S' := []) (L0 := [Vr 0, Vi (xvL X ((n + 1))), Vi 0, Vx]) (fun _ => rfl) rfl rfl rfl rfl rfl rfl (h_least (b := b) (s := s) hT (xvL X ((n + 1))) 0) (fun r h' hq => ?_)
      obtain ⟨rfl, a1, rfl, hT1⟩ := hq
      show Ev X _ _ 965 [Vr (-2), Vr 0, Vr 166, Vi (n : Int)] [Vi (aLeast G (xvL X ((n + 1))) (decide (0 ≠ 0)))] ((SHv (y : Int) (z : Int) rd), (ovl a1 s b)) _
      refine Ev.steps (k := 5) (pc' := 970) (L' := [Vr (-2), Vr 0, Vr 166, Vi (n : Int)]) (S' := [Vi (w32 ((n : Int) + 1)), Vr (-2), Vr 166, Vi (aLeast G (xvL X ((n + 1))) (decide (0 ≠ 0)))]) (h' := ((SHv (y : Int) (z : Int) rd), (ovl a1 s b))) (fun _ => rfl) ?_
      rw [show (w32 ((n : Int) + 1)) = ((n : Int) + 1) from w32_id (by unfold R32; omega)]
      refine Ev.rald (v := (xvL X ((n + 1)))) rfl (by decide) rfl (by omega) (xv_at (by omega)) ?_
      refine Ev.steps (k := 4) (pc' := 975) (L' := [Vr (-2), Vr 0, Vr 166, Vi (n : Int)]) (S' := [Vi (w32 ((n : Int) + 2)), Vr (-2), Vi (xvL X ((n + 1))), Vr 166, Vi (aLeast G (xvL X ((n + 1))) (decide (0 ≠ 0)))]) (h' := ((SHv (y : Int) (z : Int) rd), (ovl a1 s b))) (fun _ => rfl) ?_
      rw [show (w32 ((n : Int) + 2)) = ((n : Int) + 2) from w32_id (by unfold R32; omega)]
      refine Ev.rald (v := (xvL X ((n + 2)))) rfl (by decide) rfl (by omega) (xv_at (by omega)) ?_
      refine Ev.ite (P := (xvL X ((n + 2))) = 0) (k := 1) (a := 983) (b := 979) (L' := [Vr (-2), Vr 0, Vr 166, Vi (n : Int)]) (S' := [Vi (xvL X ((n + 1))), Vr 166, Vi (aLeast G (xvL X ((n + 1))) (decide (0 ≠ 0)))]) (h' := ((SHv (y : Int) (z : Int) rd), (ovl a1 s b))) (fun _ => rfl) (fun b976 => ?_) (fun b976 => ?_)
      · refine Ev.call (k := 1) (pc1 := 984) (L1 := [Vr (-2), Vr 0, Vr 166, Vi (n : Int)]) (S1 := [Vi 0, Vi (xvL X ((n + 1))), Vr 166, Vi (aLeast G (xvL X ((n + 1))) (decide (0 ≠ 0)))]) (h1 := ((SHv (y : Int) (z : Int) rd), (ovl a1 s b))) (m' := 245) (as := [Vr 166, Vi (xvL X ((n + 1))), Vi 0]) (S' := [Vi (aLeast G (xvL X ((n + 1))) (decide (0 ≠ 0)))]) (L0 := [Vr 166, Vi (xvL X ((n + 1))), Vi 0, Vx]) (fun _ => rfl) rfl rfl rfl rfl rfl rfl (g_least (a := a1) (xvL X ((n + 1))) 0 hM) (fun r h' hq => ?_)
        obtain ⟨rfl, b1, rfl, hM1⟩ := hq
        show Ev X _ _ 987 [Vr (-2), Vr 0, Vr 166, Vi (n : Int)] [Vi (aLeast G (xvL X ((n + 1))) (decide (0 ≠ 0))), Vi (aLeast G (xvL X ((n + 1))) (decide (0 ≠ 0)))] ((SHv (y : Int) (z : Int) rd), (ovl a1 s b1)) _
        refine Ev.ite (P := (aLeast G (xvL X ((n + 1))) (decide (0 ≠ 0))) = (aLeast G (xvL X ((n + 1))) (decide (0 ≠ 0)))) (k := 1) (a := 1133) (b := 990) (L' := [Vr (-2), Vr 0, Vr 166, Vi (n : Int)]) (S' := []) (h' := ((SHv (y : Int) (z : Int) rd), (ovl a1 s b1))) (fun _ => rfl) (fun b987 => ?_) (fun b987 => ?_)
        · exact K _ _ _ _ _ _ _ hT1 hM1 hNV
        · exact absurd rfl b987
      · exact absurd hz b976
    · exact absurd hz b954
  · refine Ev.steps (k := 5) (pc' := 948) (L' := [Vr (-2), Vr 0, Vr 166, Vi (n : Int)]) (S' := [Vi (w32 ((n : Int) + 1)), Vr (-2), Vr 0]) (h' := ((SHv (y : Int) (z : Int) rd), (ovl a s b))) (fun _ => rfl) ?_
    rw [show (w32 ((n : Int) + 1)) = ((n : Int) + 1) from w32_id (by unfold R32; omega)]
    refine Ev.rald (v := (xvL X ((n + 1)))) rfl (by decide) rfl (by omega) (xv_at (by omega)) ?_
    refine Ev.steps (k := 4) (pc' := 953) (L' := [Vr (-2), Vr 0, Vr 166, Vi (n : Int)]) (S' := [Vi (w32 ((n : Int) + 2)), Vr (-2), Vi (xvL X ((n + 1))), Vr 0]) (h' := ((SHv (y : Int) (z : Int) rd), (ovl a s b))) (fun _ => rfl) ?_
    rw [show (w32 ((n : Int) + 2)) = ((n : Int) + 2) from w32_id (by unfold R32; omega)]
    refine Ev.rald (v := (xvL X ((n + 2)))) rfl (by decide) rfl (by omega) (xv_at (by omega)) ?_
    refine Ev.ite (P := (xvL X ((n + 2))) = 0) (k := 1) (a := 961) (b := 957) (L' := [Vr (-2), Vr 0, Vr 166, Vi (n : Int)]) (S' := [Vi (xvL X ((n + 1))), Vr 0]) (h' := ((SHv (y : Int) (z : Int) rd), (ovl a s b))) (fun _ => rfl) (fun b954 => ?_) (fun b954 => ?_)
    · exact absurd b954 hz
    · refine Ev.call (k := 2) (pc1 := 962) (L1 := [Vr (-2), Vr 0, Vr 166, Vi (n : Int)]) (S1 := [Vi 1, Vi (xvL X ((n + 1))), Vr 0]) (h1 := ((SHv (y : Int) (z : Int) rd), (ovl a s b))) (m' := 137) (as := [Vr 0, Vi (xvL X ((n + 1))), Vi 1]) (S' := []) (L0 := [Vr 0, Vi (xvL X ((n + 1))), Vi 1, Vx]) (fun _ => rfl) rfl rfl rfl rfl rfl rfl (h_least (b := b) (s := s) hT (xvL X ((n + 1))) 1) (fun r h' hq => ?_)
      obtain ⟨rfl, a1, rfl, hT1⟩ := hq
      show Ev X _ _ 965 [Vr (-2), Vr 0, Vr 166, Vi (n : Int)] [Vi (aLeast G (xvL X ((n + 1))) (decide (1 ≠ 0)))] ((SHv (y : Int) (z : Int) rd), (ovl a1 s b)) _
      refine Ev.steps (k := 5) (pc' := 970) (L' := [Vr (-2), Vr 0, Vr 166, Vi (n : Int)]) (S' := [Vi (w32 ((n : Int) + 1)), Vr (-2), Vr 166, Vi (aLeast G (xvL X ((n + 1))) (decide (1 ≠ 0)))]) (h' := ((SHv (y : Int) (z : Int) rd), (ovl a1 s b))) (fun _ => rfl) ?_
      rw [show (w32 ((n : Int) + 1)) = ((n : Int) + 1) from w32_id (by unfold R32; omega)]
      refine Ev.rald (v := (xvL X ((n + 1)))) rfl (by decide) rfl (by omega) (xv_at (by omega)) ?_
      refine Ev.steps (k := 4) (pc' := 975) (L' := [Vr (-2), Vr 0, Vr 166, Vi (n : Int)]) (S' := [Vi (w32 ((n : Int) + 2)), Vr (-2), Vi (xvL X ((n + 1))), Vr 166, Vi (aLeast G (xvL X ((n + 1))) (decide (1 ≠ 0)))]) (h' := ((SHv (y : Int) (z : Int) rd), (ovl a1 s b))) (fun _ => rfl) ?_
      rw [show (w32 ((n : Int) + 2)) = ((n : Int) + 2) from w32_id (by unfold R32; omega)]
      refine Ev.rald (v := (xvL X ((n + 2)))) rfl (by decide) rfl (by omega) (xv_at (by omega)) ?_
      refine Ev.ite (P := (xvL X ((n + 2))) = 0) (k := 1) (a := 983) (b := 979) (L' := [Vr (-2), Vr 0, Vr 166, Vi (n : Int)]) (S' := [Vi (xvL X ((n + 1))), Vr 166, Vi (aLeast G (xvL X ((n + 1))) (decide (1 ≠ 0)))]) (h' := ((SHv (y : Int) (z : Int) rd), (ovl a1 s b))) (fun _ => rfl) (fun b976 => ?_) (fun b976 => ?_)
      · exact absurd b976 hz
      · refine Ev.call (k := 2) (pc1 := 984) (L1 := [Vr (-2), Vr 0, Vr 166, Vi (n : Int)]) (S1 := [Vi 1, Vi (xvL X ((n + 1))), Vr 166, Vi (aLeast G (xvL X ((n + 1))) (decide (1 ≠ 0)))]) (h1 := ((SHv (y : Int) (z : Int) rd), (ovl a1 s b))) (m' := 245) (as := [Vr 166, Vi (xvL X ((n + 1))), Vi 1]) (S' := [Vi (aLeast G (xvL X ((n + 1))) (decide (1 ≠ 0)))]) (L0 := [Vr 166, Vi (xvL X ((n + 1))), Vi 1, Vx]) (fun _ => rfl) rfl rfl rfl rfl rfl rfl (g_least (a := a1) (xvL X ((n + 1))) 1 hM) (fun r h' hq => ?_)
        obtain ⟨rfl, b1, rfl, hM1⟩ := hq
        show Ev X _ _ 987 [Vr (-2), Vr 0, Vr 166, Vi (n : Int)] [Vi (aLeast G (xvL X ((n + 1))) (decide (1 ≠ 0))), Vi (aLeast G (xvL X ((n + 1))) (decide (1 ≠ 0)))] ((SHv (y : Int) (z : Int) rd), (ovl a1 s b1)) _
        refine Ev.ite (P := (aLeast G (xvL X ((n + 1))) (decide (1 ≠ 0))) = (aLeast G (xvL X ((n + 1))) (decide (1 ≠ 0)))) (k := 1) (a := 1133) (b := 990) (L' := [Vr (-2), Vr 0, Vr 166, Vi (n : Int)]) (S' := []) (h' := ((SHv (y : Int) (z : Int) rd), (ovl a1 s b1))) (fun _ => rfl) (fun b987 => ?_) (fun b987 => ?_)
        · exact K _ _ _ _ _ _ _ hT1 hM1 hNV
        · exact absurd rfl b987
theorem law_24 {X : List Int} {d n : Nat} {Q : Option pm_V → pm_H → Prop} (hX : X.length ≤ 3072) (hn : n + 6 ≤ X.length) (K : LawK X d Q n) {G : GST} {a s b : C3} {rd : Int} {y z : Nat} (hT : TopC G a rd y z) (hM : TopM G b) (hNV : NmV (gS G)) : Ev X (d + 403) 259 992 [Vr (-2), Vr 0, Vr 166, Vi (n : Int)] [] (SHv (y : Int) (z : Int) rd, ovl a s b) Q := by
  refine Ev.steps (k := 5) (pc' := 997) (L' := [Vr (-2), Vr 0, Vr 166, Vi (n : Int)]) (S' := [Vi (w32 ((n : Int) + 1)), Vr (-2), Vr 0]) (h' := ((SHv (y : Int) (z : Int) rd), (ovl a s b))) (fun _ => rfl) ?_
  rw [show (w32 ((n : Int) + 1)) = ((n : Int) + 1) from w32_id (by unfold R32; omega)]
  refine Ev.rald (v := (xvL X ((n + 1)))) rfl (by decide) rfl (by omega) (xv_at (by omega)) ?_
  refine Ev.call (k := 0) (pc1 := 998) (L1 := [Vr (-2), Vr 0, Vr 166, Vi (n : Int)]) (S1 := [Vi (xvL X ((n + 1))), Vr 0]) (h1 := ((SHv (y : Int) (z : Int) rd), (ovl a s b))) (m' := 141) (as := [Vr 0, Vi (xvL X ((n + 1)))]) (S' := []) (L0 := [Vr 0, Vi (xvL X ((n + 1)))]) (fun _ => rfl) rfl rfl rfl rfl rfl rfl (h_fair (b := b) (s := s) hT (xvL X ((n + 1)))) (fun r h' hq => ?_)
  obtain ⟨rfl, a1, rfl, hT1⟩ := hq
  show Ev X _ _ 1001 [Vr (-2), Vr 0, Vr 166, Vi (n : Int)] [Vi (aFair G (xvL X ((n + 1))))] ((SHv (y : Int) (z : Int) rd), (ovl a1 s b)) _
  refine Ev.steps (k := 5) (pc' := 1006) (L' := [Vr (-2), Vr 0, Vr 166, Vi (n : Int)]) (S' := [Vi (w32 ((n : Int) + 1)), Vr (-2), Vr 166, Vi (aFair G (xvL X ((n + 1))))]) (h' := ((SHv (y : Int) (z : Int) rd), (ovl a1 s b))) (fun _ => rfl) ?_
  rw [show (w32 ((n : Int) + 1)) = ((n : Int) + 1) from w32_id (by unfold R32; omega)]
  refine Ev.rald (v := (xvL X ((n + 1)))) rfl (by decide) rfl (by omega) (xv_at (by omega)) ?_
  refine Ev.call (k := 0) (pc1 := 1007) (L1 := [Vr (-2), Vr 0, Vr 166, Vi (n : Int)]) (S1 := [Vi (xvL X ((n + 1))), Vr 166, Vi (aFair G (xvL X ((n + 1))))]) (h1 := ((SHv (y : Int) (z : Int) rd), (ovl a1 s b))) (m' := 248) (as := [Vr 166, Vi (xvL X ((n + 1)))]) (S' := [Vi (aFair G (xvL X ((n + 1))))]) (L0 := [Vr 166, Vi (xvL X ((n + 1)))]) (fun _ => rfl) rfl rfl rfl rfl rfl rfl (g_fair (a := a1) (xvL X ((n + 1))) hM) (fun r h' hq => ?_)
  obtain ⟨rfl, b1, rfl, hM1⟩ := hq
  show Ev X _ _ 1010 [Vr (-2), Vr 0, Vr 166, Vi (n : Int)] [Vi (aFair G (xvL X ((n + 1)))), Vi (aFair G (xvL X ((n + 1))))] ((SHv (y : Int) (z : Int) rd), (ovl a1 s b1)) _
  refine Ev.ite (P := (aFair G (xvL X ((n + 1)))) = (aFair G (xvL X ((n + 1))))) (k := 1) (a := 1133) (b := 1013) (L' := [Vr (-2), Vr 0, Vr 166, Vi (n : Int)]) (S' := []) (h' := ((SHv (y : Int) (z : Int) rd), (ovl a1 s b1))) (fun _ => rfl) (fun b1010 => ?_) (fun b1010 => ?_)
  · exact K _ _ _ _ _ _ _ hT1 hM1 hNV
  · exact absurd rfl b1010
theorem law_25 {X : List Int} {d n : Nat} {Q : Option pm_V → pm_H → Prop} (hX : X.length ≤ 3072) (hn : n + 6 ≤ X.length) (K : LawK X d Q n) {G : GST} {a s b : C3} {rd : Int} {y z : Nat} (hT : TopC G a rd y z) (hM : TopM G b) (hNV : NmV (gS G)) : Ev X (d + 403) 259 1015 [Vr (-2), Vr 0, Vr 166, Vi (n : Int)] [] (SHv (y : Int) (z : Int) rd, ovl a s b) Q := by
  refine Ev.steps (k := 5) (pc' := 1020) (L' := [Vr (-2), Vr 0, Vr 166, Vi (n : Int)]) (S' := [Vi (w32 ((n : Int) + 1)), Vr (-2), Vr 0]) (h' := ((SHv (y : Int) (z : Int) rd), (ovl a s b))) (fun _ => rfl) ?_
  rw [show (w32 ((n : Int) + 1)) = ((n : Int) + 1) from w32_id (by unfold R32; omega)]
  refine Ev.rald (v := (xvL X ((n + 1)))) rfl (by decide) rfl (by omega) (xv_at (by omega)) ?_
  refine Ev.call (k := 0) (pc1 := 1021) (L1 := [Vr (-2), Vr 0, Vr 166, Vi (n : Int)]) (S1 := [Vi (xvL X ((n + 1))), Vr 0]) (h1 := ((SHv (y : Int) (z : Int) rd), (ovl a s b))) (m' := 142) (as := [Vr 0, Vi (xvL X ((n + 1)))]) (S' := []) (L0 := [Vr 0, Vi (xvL X ((n + 1))), Vx]) (fun _ => rfl) rfl rfl rfl rfl rfl rfl (h_claim (b := b) (s := s) hT (xvL X ((n + 1)))) (fun r h' hq => ?_)
  obtain ⟨rfl, rfl⟩ := hq
  have hT1 := hT
  show Ev X _ _ 1024 [Vr (-2), Vr 0, Vr 166, Vi (n : Int)] [Vi (aClaim G (xvL X ((n + 1))))] ((SHv (y : Int) (z : Int) rd), (ovl a s b)) _
  refine Ev.steps (k := 5) (pc' := 1029) (L' := [Vr (-2), Vr 0, Vr 166, Vi (n : Int)]) (S' := [Vi (w32 ((n : Int) + 1)), Vr (-2), Vr 166, Vi (aClaim G (xvL X ((n + 1))))]) (h' := ((SHv (y : Int) (z : Int) rd), (ovl a s b))) (fun _ => rfl) ?_
  rw [show (w32 ((n : Int) + 1)) = ((n : Int) + 1) from w32_id (by unfold R32; omega)]
  refine Ev.rald (v := (xvL X ((n + 1)))) rfl (by decide) rfl (by omega) (xv_at (by omega)) ?_
  refine Ev.call (k := 0) (pc1 := 1030) (L1 := [Vr (-2), Vr 0, Vr 166, Vi (n : Int)]) (S1 := [Vi (xvL X ((n + 1))), Vr 166, Vi (aClaim G (xvL X ((n + 1))))]) (h1 := ((SHv (y : Int) (z : Int) rd), (ovl a s b))) (m' := 250) (as := [Vr 166, Vi (xvL X ((n + 1)))]) (S' := [Vi (aClaim G (xvL X ((n + 1))))]) (L0 := [Vr 166, Vi (xvL X ((n + 1)))]) (fun _ => rfl) rfl rfl rfl rfl rfl rfl (g_claim (a := a) (xvL X ((n + 1))) hM) (fun r h' hq => ?_)
  obtain ⟨rfl, b1, rfl, hM1⟩ := hq
  show Ev X _ _ 1033 [Vr (-2), Vr 0, Vr 166, Vi (n : Int)] [Vi (aClaim G (xvL X ((n + 1)))), Vi (aClaim G (xvL X ((n + 1))))] ((SHv (y : Int) (z : Int) rd), (ovl a s b1)) _
  refine Ev.ite (P := (aClaim G (xvL X ((n + 1)))) = (aClaim G (xvL X ((n + 1))))) (k := 1) (a := 1133) (b := 1036) (L' := [Vr (-2), Vr 0, Vr 166, Vi (n : Int)]) (S' := []) (h' := ((SHv (y : Int) (z : Int) rd), (ovl a s b1))) (fun _ => rfl) (fun b1033 => ?_) (fun b1033 => ?_)
  · exact K _ _ _ _ _ _ _ hT1 hM1 hNV
  · exact absurd rfl b1033
theorem law_26 {X : List Int} {d n : Nat} {Q : Option pm_V → pm_H → Prop} (hX : X.length ≤ 3072) (hn : n + 6 ≤ X.length) (K : LawK X d Q n) {G : GST} {a s b : C3} {rd : Int} {y z : Nat} (hT : TopC G a rd y z) (hM : TopM G b) (hNV : NmV (gS G)) : Ev X (d + 403) 259 1038 [Vr (-2), Vr 0, Vr 166, Vi (n : Int)] [] (SHv (y : Int) (z : Int) rd, ovl a s b) Q := by
  by_cases hz : (xvL X (n + 2)) = 0
  · refine Ev.steps (k := 5) (pc' := 1043) (L' := [Vr (-2), Vr 0, Vr 166, Vi (n : Int)]) (S' := [Vi (w32 ((n : Int) + 1)), Vr (-2), Vr 0]) (h' := ((SHv (y : Int) (z : Int) rd), (ovl a s b))) (fun _ => rfl) ?_
    rw [show (w32 ((n : Int) + 1)) = ((n : Int) + 1) from w32_id (by unfold R32; omega)]
    refine Ev.rald (v := (xvL X ((n + 1)))) rfl (by decide) rfl (by omega) (xv_at (by omega)) ?_
    refine Ev.steps (k := 4) (pc' := 1048) (L' := [Vr (-2), Vr 0, Vr 166, Vi (n : Int)]) (S' := [Vi (w32 ((n : Int) + 2)), Vr (-2), Vi (xvL X ((n + 1))), Vr 0]) (h' := ((SHv (y : Int) (z : Int) rd), (ovl a s b))) (fun _ => rfl) ?_
    rw [show (w32 ((n : Int) + 2)) = ((n : Int) + 2) from w32_id (by unfold R32; omega)]
    refine Ev.rald (v := (xvL X ((n + 2)))) rfl (by decide) rfl (by omega) (xv_at (by omega)) ?_
    refine Ev.ite (P := (xvL X ((n + 2))) = 0) (k := 1) (a := 1056) (b := 1052) (L' := [Vr (-2), Vr 0, Vr 166, Vi (n : Int)]) (S' := [Vi (xvL X ((n + 1))), Vr 0]) (h' := ((SHv (y : Int) (z : Int) rd), (ovl a s b))) (fun _ => rfl) (fun b1049 => ?_) (fun b1049 => ?_)
    · refine Ev.call (k := 1) (pc1 := 1057) (L1 := [Vr (-2), Vr 0, Vr 166, Vi (n : Int)]) (S1 := [Vi 0, Vi (xvL X ((n + 1))), Vr 0]) (h1 := ((SHv (y : Int) (z : Int) rd), (ovl a s b))) (m' := 145) (as := [Vr 0, Vi (xvL X ((n + 1))), Vi 0]) (S' := []) (L0 := [Vr 0, Vi (xvL X ((n + 1))), Vi 0, Vx]) (fun _ => rfl) rfl rfl rfl rfl rfl rfl (h_caught (b := b) (s := s) hT (xvL X ((n + 1))) 0) (fun r h' hq => ?_)
      obtain ⟨rfl, rfl⟩ := hq
      have hT1 := hT
      show Ev X _ _ 1060 [Vr (-2), Vr 0, Vr 166, Vi (n : Int)] [Vi (aCaught G (xvL X ((n + 1))) (decide (0 ≠ 0)))] ((SHv (y : Int) (z : Int) rd), (ovl a s b)) _
      refine Ev.steps (k := 5) (pc' := 1065) (L' := [Vr (-2), Vr 0, Vr 166, Vi (n : Int)]) (S' := [Vi (w32 ((n : Int) + 1)), Vr (-2), Vr 166, Vi (aCaught G (xvL X ((n + 1))) (decide (0 ≠ 0)))]) (h' := ((SHv (y : Int) (z : Int) rd), (ovl a s b))) (fun _ => rfl) ?_
      rw [show (w32 ((n : Int) + 1)) = ((n : Int) + 1) from w32_id (by unfold R32; omega)]
      refine Ev.rald (v := (xvL X ((n + 1)))) rfl (by decide) rfl (by omega) (xv_at (by omega)) ?_
      refine Ev.steps (k := 4) (pc' := 1070) (L' := [Vr (-2), Vr 0, Vr 166, Vi (n : Int)]) (S' := [Vi (w32 ((n : Int) + 2)), Vr (-2), Vi (xvL X ((n + 1))), Vr 166, Vi (aCaught G (xvL X ((n + 1))) (decide (0 ≠ 0)))]) (h' := ((SHv (y : Int) (z : Int) rd), (ovl a s b))) (fun _ => rfl) ?_
      rw [show (w32 ((n : Int) + 2)) = ((n : Int) + 2) from w32_id (by unfold R32; omega)]
      refine Ev.rald (v := (xvL X ((n + 2)))) rfl (by decide) rfl (by omega) (xv_at (by omega)) ?_
      refine Ev.ite (P := (xvL X ((n + 2))) = 0) (k := 1) (a := 1078) (b := 1074) (L' := [Vr (-2), Vr 0, Vr 166, Vi (n : Int)]) (S' := [Vi (xvL X ((n + 1))), Vr 166, Vi (aCaught G (xvL X ((n + 1))) (decide (0 ≠ 0)))]) (h' := ((SHv (y : Int) (z : Int) rd), (ovl a s b))) (fun _ => rfl) (fun b1071 => ?_) (fun b1071 => ?_)
      · refine Ev.call (k := 1) (pc1 := 1079) (L1 := [Vr (-2), Vr 0, Vr 166, Vi (n : Int)]) (S1 := [Vi 0, Vi (xvL X ((n + 1))), Vr 166, Vi (aCaught G (xvL X ((n + 1))) (decide (0 ≠ 0)))]) (h1 := ((SHv (y : Int) (z : Int) rd), (ovl a s b))) (m' := 255) (as := [Vr 166, Vi (xvL X ((n + 1))), Vi 0]) (S' := [Vi (aCaught G (xvL X ((n + 1))) (decide (0 ≠ 0)))]) (L0 := [Vr 166, Vi (xvL X ((n + 1))), Vi 0]) (fun _ => rfl) rfl rfl rfl rfl rfl rfl (g_caught (a := a) (xvL X ((n + 1))) 0 hM) (fun r h' hq => ?_)
        obtain ⟨rfl, b1, rfl, hM1⟩ := hq
        show Ev X _ _ 1082 [Vr (-2), Vr 0, Vr 166, Vi (n : Int)] [Vi (aCaught G (xvL X ((n + 1))) (decide (0 ≠ 0))), Vi (aCaught G (xvL X ((n + 1))) (decide (0 ≠ 0)))] ((SHv (y : Int) (z : Int) rd), (ovl a s b1)) _
        refine Ev.ite (P := (aCaught G (xvL X ((n + 1))) (decide (0 ≠ 0))) = (aCaught G (xvL X ((n + 1))) (decide (0 ≠ 0)))) (k := 1) (a := 1133) (b := 1085) (L' := [Vr (-2), Vr 0, Vr 166, Vi (n : Int)]) (S' := []) (h' := ((SHv (y : Int) (z : Int) rd), (ovl a s b1))) (fun _ => rfl) (fun b1082 => ?_) (fun b1082 => ?_)
        · exact K _ _ _ _ _ _ _ hT1 hM1 hNV
        · exact absurd rfl b1082
      · exact absurd hz b1071
    · exact absurd hz b1049
  · refine Ev.steps (k := 5) (pc' := 1043) (L' := [Vr (-2), Vr 0, Vr 166, Vi (n : Int)]) (S' := [Vi (w32 ((n : Int) + 1)), Vr (-2), Vr 0]) (h' := ((SHv (y : Int) (z : Int) rd), (ovl a s b))) (fun _ => rfl) ?_
    rw [show (w32 ((n : Int) + 1)) = ((n : Int) + 1) from w32_id (by unfold R32; omega)]
    refine Ev.rald (v := (xvL X ((n + 1)))) rfl (by decide) rfl (by omega) (xv_at (by omega)) ?_
    refine Ev.steps (k := 4) (pc' := 1048) (L' := [Vr (-2), Vr 0, Vr 166, Vi (n : Int)]) (S' := [Vi (w32 ((n : Int) + 2)), Vr (-2), Vi (xvL X ((n + 1))), Vr 0]) (h' := ((SHv (y : Int) (z : Int) rd), (ovl a s b))) (fun _ => rfl) ?_
    rw [show (w32 ((n : Int) + 2)) = ((n : Int) + 2) from w32_id (by unfold R32; omega)]
    refine Ev.rald (v := (xvL X ((n + 2)))) rfl (by decide) rfl (by omega) (xv_at (by omega)) ?_
    refine Ev.ite (P := (xvL X ((n + 2))) = 0) (k := 1) (a := 1056) (b := 1052) (L' := [Vr (-2), Vr 0, Vr 166, Vi (n : Int)]) (S' := [Vi (xvL X ((n + 1))), Vr 0]) (h' := ((SHv (y : Int) (z : Int) rd), (ovl a s b))) (fun _ => rfl) (fun b1049 => ?_) (fun b1049 => ?_)
    · exact absurd b1049 hz
    · refine Ev.call (k := 2) (pc1 := 1057) (L1 := [Vr (-2), Vr 0, Vr 166, Vi (n : Int)]) (S1 := [Vi 1, Vi (xvL X ((n + 1))), Vr 0]) (h1 := ((SHv (y : Int) (z : Int) rd), (ovl a s b))) (m' := 145) (as := [Vr 0, Vi (xvL X ((n + 1))), Vi 1]) (S' := []) (L0 := [Vr 0, Vi (xvL X ((n + 1))), Vi 1, Vx]) (fun _ => rfl) rfl rfl rfl rfl rfl rfl (h_caught (b := b) (s := s) hT (xvL X ((n + 1))) 1) (fun r h' hq => ?_)
      obtain ⟨rfl, rfl⟩ := hq
      have hT1 := hT
      show Ev X _ _ 1060 [Vr (-2), Vr 0, Vr 166, Vi (n : Int)] [Vi (aCaught G (xvL X ((n + 1))) (decide (1 ≠ 0)))] ((SHv (y : Int) (z : Int) rd), (ovl a s b)) _
      refine Ev.steps (k := 5) (pc' := 1065) (L' := [Vr (-2), Vr 0, Vr 166, Vi (n : Int)]) (S' := [Vi (w32 ((n : Int) + 1)), Vr (-2), Vr 166, Vi (aCaught G (xvL X ((n + 1))) (decide (1 ≠ 0)))]) (h' := ((SHv (y : Int) (z : Int) rd), (ovl a s b))) (fun _ => rfl) ?_
      rw [show (w32 ((n : Int) + 1)) = ((n : Int) + 1) from w32_id (by unfold R32; omega)]
      refine Ev.rald (v := (xvL X ((n + 1)))) rfl (by decide) rfl (by omega) (xv_at (by omega)) ?_
      refine Ev.steps (k := 4) (pc' := 1070) (L' := [Vr (-2), Vr 0, Vr 166, Vi (n : Int)]) (S' := [Vi (w32 ((n : Int) + 2)), Vr (-2), Vi (xvL X ((n + 1))), Vr 166, Vi (aCaught G (xvL X ((n + 1))) (decide (1 ≠ 0)))]) (h' := ((SHv (y : Int) (z : Int) rd), (ovl a s b))) (fun _ => rfl) ?_
      rw [show (w32 ((n : Int) + 2)) = ((n : Int) + 2) from w32_id (by unfold R32; omega)]
      refine Ev.rald (v := (xvL X ((n + 2)))) rfl (by decide) rfl (by omega) (xv_at (by omega)) ?_
      refine Ev.ite (P := (xvL X ((n + 2))) = 0) (k := 1) (a := 1078) (b := 1074) (L' := [Vr (-2), Vr 0, Vr 166, Vi (n : Int)]) (S' := [Vi (xvL X ((n + 1))), Vr 166, Vi (aCaught G (xvL X ((n + 1))) (decide (1 ≠ 0)))]) (h' := ((SHv (y : Int) (z : Int) rd), (ovl a s b))) (fun _ => rfl) (fun b1071 => ?_) (fun b1071 => ?_)
      · exact absurd b1071 hz
      · refine Ev.call (k := 2) (pc1 := 1079) (L1 := [Vr (-2), Vr 0, Vr 166, Vi (n : Int)]) (S1 := [Vi 1, Vi (xvL X ((n + 1))), Vr 166, Vi (aCaught G (xvL X ((n + 1))) (decide (1 ≠ 0)))]) (h1 := ((SHv (y : Int) (z : Int) rd), (ovl a s b))) (m' := 255) (as := [Vr 166, Vi (xvL X ((n + 1))), Vi 1]) (S' := [Vi (aCaught G (xvL X ((n + 1))) (decide (1 ≠ 0)))]) (L0 := [Vr 166, Vi (xvL X ((n + 1))), Vi 1]) (fun _ => rfl) rfl rfl rfl rfl rfl rfl (g_caught (a := a) (xvL X ((n + 1))) 1 hM) (fun r h' hq => ?_)
        obtain ⟨rfl, b1, rfl, hM1⟩ := hq
        show Ev X _ _ 1082 [Vr (-2), Vr 0, Vr 166, Vi (n : Int)] [Vi (aCaught G (xvL X ((n + 1))) (decide (1 ≠ 0))), Vi (aCaught G (xvL X ((n + 1))) (decide (1 ≠ 0)))] ((SHv (y : Int) (z : Int) rd), (ovl a s b1)) _
        refine Ev.ite (P := (aCaught G (xvL X ((n + 1))) (decide (1 ≠ 0))) = (aCaught G (xvL X ((n + 1))) (decide (1 ≠ 0)))) (k := 1) (a := 1133) (b := 1085) (L' := [Vr (-2), Vr 0, Vr 166, Vi (n : Int)]) (S' := []) (h' := ((SHv (y : Int) (z : Int) rd), (ovl a s b1))) (fun _ => rfl) (fun b1082 => ?_) (fun b1082 => ?_)
        · exact K _ _ _ _ _ _ _ hT1 hM1 hNV
        · exact absurd rfl b1082
theorem law_27 {X : List Int} {d n : Nat} {Q : Option pm_V → pm_H → Prop} (hX : X.length ≤ 3072) (hn : n + 6 ≤ X.length) (K : LawK X d Q n) {G : GST} {a s b : C3} {rd : Int} {y z : Nat} (hT : TopC G a rd y z) (hM : TopM G b) (hNV : NmV (gS G)) : Ev X (d + 403) 259 1087 [Vr (-2), Vr 0, Vr 166, Vi (n : Int)] [] (SHv (y : Int) (z : Int) rd, ovl a s b) Q := by
  refine Ev.steps (k := 5) (pc' := 1092) (L' := [Vr (-2), Vr 0, Vr 166, Vi (n : Int)]) (S' := [Vi (w32 ((n : Int) + 1)), Vr (-2), Vr 0]) (h' := ((SHv (y : Int) (z : Int) rd), (ovl a s b))) (fun _ => rfl) ?_
  rw [show (w32 ((n : Int) + 1)) = ((n : Int) + 1) from w32_id (by unfold R32; omega)]
  refine Ev.rald (v := (xvL X ((n + 1)))) rfl (by decide) rfl (by omega) (xv_at (by omega)) ?_
  refine Ev.call (k := 0) (pc1 := 1093) (L1 := [Vr (-2), Vr 0, Vr 166, Vi (n : Int)]) (S1 := [Vi (xvL X ((n + 1))), Vr 0]) (h1 := ((SHv (y : Int) (z : Int) rd), (ovl a s b))) (m' := 146) (as := [Vr 0, Vi (xvL X ((n + 1)))]) (S' := []) (L0 := [Vr 0, Vi (xvL X ((n + 1)))]) (fun _ => rfl) rfl rfl rfl rfl rfl rfl (h_spare (b := b) (s := s) hT (xvL X ((n + 1)))) (fun r h' hq => ?_)
  obtain ⟨rfl, a1, rfl, hT1⟩ := hq
  show Ev X _ _ 1096 [Vr (-2), Vr 0, Vr 166, Vi (n : Int)] [Vi (aSpare G (xvL X ((n + 1))))] ((SHv (y : Int) (z : Int) rd), (ovl a1 s b)) _
  refine Ev.steps (k := 5) (pc' := 1101) (L' := [Vr (-2), Vr 0, Vr 166, Vi (n : Int)]) (S' := [Vi (w32 ((n : Int) + 1)), Vr (-2), Vr 166, Vi (aSpare G (xvL X ((n + 1))))]) (h' := ((SHv (y : Int) (z : Int) rd), (ovl a1 s b))) (fun _ => rfl) ?_
  rw [show (w32 ((n : Int) + 1)) = ((n : Int) + 1) from w32_id (by unfold R32; omega)]
  refine Ev.rald (v := (xvL X ((n + 1)))) rfl (by decide) rfl (by omega) (xv_at (by omega)) ?_
  refine Ev.call (k := 0) (pc1 := 1102) (L1 := [Vr (-2), Vr 0, Vr 166, Vi (n : Int)]) (S1 := [Vi (xvL X ((n + 1))), Vr 166, Vi (aSpare G (xvL X ((n + 1))))]) (h1 := ((SHv (y : Int) (z : Int) rd), (ovl a1 s b))) (m' := 256) (as := [Vr 166, Vi (xvL X ((n + 1)))]) (S' := [Vi (aSpare G (xvL X ((n + 1))))]) (L0 := [Vr 166, Vi (xvL X ((n + 1))), Vx, Vx]) (fun _ => rfl) rfl rfl rfl rfl rfl rfl (g_spare (a := a1) (xvL X ((n + 1))) hM) (fun r h' hq => ?_)
  obtain ⟨rfl, s1, b1, rfl, hM1⟩ := hq
  show Ev X _ _ 1105 [Vr (-2), Vr 0, Vr 166, Vi (n : Int)] [Vi (aSpare G (xvL X ((n + 1)))), Vi (aSpare G (xvL X ((n + 1))))] ((SHv (y : Int) (z : Int) rd), (ovl a1 s1 b1)) _
  refine Ev.ite (P := (aSpare G (xvL X ((n + 1)))) = (aSpare G (xvL X ((n + 1))))) (k := 1) (a := 1133) (b := 1108) (L' := [Vr (-2), Vr 0, Vr 166, Vi (n : Int)]) (S' := []) (h' := ((SHv (y : Int) (z : Int) rd), (ovl a1 s1 b1))) (fun _ => rfl) (fun b1105 => ?_) (fun b1105 => ?_)
  · exact K _ _ _ _ _ _ _ hT1 hM1 hNV
  · exact absurd rfl b1105
theorem law_28 {X : List Int} {d n : Nat} {Q : Option pm_V → pm_H → Prop} (hX : X.length ≤ 3072) (hn : n + 6 ≤ X.length) (K : LawK X d Q n) {G : GST} {a s b : C3} {rd : Int} {y z : Nat} (hT : TopC G a rd y z) (hM : TopM G b) (hNV : NmV (gS G)) : Ev X (d + 403) 259 1110 [Vr (-2), Vr 0, Vr 166, Vi (n : Int)] [] (SHv (y : Int) (z : Int) rd, ovl a s b) Q := by
  refine Ev.steps (k := 5) (pc' := 1115) (L' := [Vr (-2), Vr 0, Vr 166, Vi (n : Int)]) (S' := [Vi (w32 ((n : Int) + 1)), Vr (-2), Vr 0]) (h' := ((SHv (y : Int) (z : Int) rd), (ovl a s b))) (fun _ => rfl) ?_
  rw [show (w32 ((n : Int) + 1)) = ((n : Int) + 1) from w32_id (by unfold R32; omega)]
  refine Ev.rald (v := (xvL X ((n + 1)))) rfl (by decide) rfl (by omega) (xv_at (by omega)) ?_
  refine Ev.call (k := 0) (pc1 := 1116) (L1 := [Vr (-2), Vr 0, Vr 166, Vi (n : Int)]) (S1 := [Vi (xvL X ((n + 1))), Vr 0]) (h1 := ((SHv (y : Int) (z : Int) rd), (ovl a s b))) (m' := 149) (as := [Vr 0, Vi (xvL X ((n + 1)))]) (S' := []) (L0 := [Vr 0, Vi (xvL X ((n + 1)))]) (fun _ => rfl) rfl rfl rfl rfl rfl rfl (h_fairest (b := b) (s := s) hT (xvL X ((n + 1)))) (fun r h' hq => ?_)
  obtain ⟨rfl, a1, rfl, hT1⟩ := hq
  show Ev X _ _ 1119 [Vr (-2), Vr 0, Vr 166, Vi (n : Int)] [Vi (aFairest G (xvL X ((n + 1))))] ((SHv (y : Int) (z : Int) rd), (ovl a1 s b)) _
  refine Ev.steps (k := 5) (pc' := 1124) (L' := [Vr (-2), Vr 0, Vr 166, Vi (n : Int)]) (S' := [Vi (w32 ((n : Int) + 1)), Vr (-2), Vr 166, Vi (aFairest G (xvL X ((n + 1))))]) (h' := ((SHv (y : Int) (z : Int) rd), (ovl a1 s b))) (fun _ => rfl) ?_
  rw [show (w32 ((n : Int) + 1)) = ((n : Int) + 1) from w32_id (by unfold R32; omega)]
  refine Ev.rald (v := (xvL X ((n + 1)))) rfl (by decide) rfl (by omega) (xv_at (by omega)) ?_
  refine Ev.call (k := 0) (pc1 := 1125) (L1 := [Vr (-2), Vr 0, Vr 166, Vi (n : Int)]) (S1 := [Vi (xvL X ((n + 1))), Vr 166, Vi (aFairest G (xvL X ((n + 1))))]) (h1 := ((SHv (y : Int) (z : Int) rd), (ovl a1 s b))) (m' := 258) (as := [Vr 166, Vi (xvL X ((n + 1)))]) (S' := [Vi (aFairest G (xvL X ((n + 1))))]) (L0 := [Vr 166, Vi (xvL X ((n + 1))), Vx, Vx, Vx, Vx, Vx]) (fun _ => rfl) rfl rfl rfl rfl rfl rfl (g_fairest (a := a1) (xvL X ((n + 1))) hM) (fun r h' hq => ?_)
  obtain ⟨rfl, s1, b1, rfl, hM1⟩ := hq
  show Ev X _ _ 1128 [Vr (-2), Vr 0, Vr 166, Vi (n : Int)] [Vi (aFairest G (xvL X ((n + 1)))), Vi (aFairest G (xvL X ((n + 1))))] ((SHv (y : Int) (z : Int) rd), (ovl a1 s1 b1)) _
  refine Ev.ite (P := (aFairest G (xvL X ((n + 1)))) = (aFairest G (xvL X ((n + 1))))) (k := 1) (a := 1133) (b := 1131) (L' := [Vr (-2), Vr 0, Vr 166, Vi (n : Int)]) (S' := []) (h' := ((SHv (y : Int) (z : Int) rd), (ovl a1 s1 b1))) (fun _ => rfl) (fun b1128 => ?_) (fun b1128 => ?_)
  · exact K _ _ _ _ _ _ _ hT1 hM1 hNV
  · exact absurd rfl b1128
