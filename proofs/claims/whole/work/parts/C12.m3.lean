/-! THE CLASS: a stretch of code is worked off -/
theorem wd_e {e w : Nat} (he : e < 512) (hw : w < 10000) : i_and ((e + 512 * w : Nat) : Int) 511 = (e : Int) := by
  rw [show (511 : Int) = ((511 : Nat) : Int) from rfl, i_and_nat (by omega) (by omega), show (e + 512 * w) &&& 511 = (e + 512 * w) % 2 ^ 9 from Nat.and_two_pow_sub_one_eq_mod _ 9]
  omega
theorem wd_w {e w : Nat} (he : e < 512) (hw : w < 10000) : i_ushr ((e + 512 * w : Nat) : Int) 9 = (w : Int) := by
  rw [show (9 : Int) = ((9 : Nat) : Int) from rfl, i_ushr_nat (by omega) (by omega)]
  omega
theorem c_maxm {X : List Int} {d : Nat} {st dr rd : Int} {a s b : C3} (m : Nat) : Ev X d 83 0 [Vi ((m : Int) - 1), Vi (-1)] [] (SHv st dr rd, ovl a s b) (fun rr hh => rr = some (Vi ((m : Int) - 1)) ∧ hh = (SHv st dr rd, ovl a s b)) := by
  have h := c_max4 (X := X) (d := d) (st := st) (dr := dr) (rd := rd) (a := a) (s := s) (b := b) ((m : Int) - 1) (-1)
  rwa [if_pos (by omega)] at h
theorem w_leaf {X : List Int} {d : Nat} {st dr rd : Int} {a s b : C3} {u : Nat} (hu : huS u) {y : Nat} (hy : hyS y) (f t : Int) (k i : Nat) (z7 z8 : pm_V) (e w : Nat) (he5 : e < 512) (hw : w < 10000) (hcode : a (y + 11) k = ((e + 512 * w : Nat) : Int)) (hk : (k : Int) < t) (ht : t ≤ 1200) (hi : i ≤ k) {Q : Option pm_V → pm_H → Prop} (n : Nat) (hn : n < 48) (v : Int) (he : 272 ≤ e ∧ e ≠ 281 ∧ e ≠ 282) (hfnd : Ev X (d + 2) 90 0 [Vr ((u : Int) + 1), Vi (e : Int), Vi (w : Int), Vx, Vx] [] (SHv st dr rd, ovl a s b) (fun rr hh => rr = some (Vi v) ∧ hh = (SHv st dr rd, ovl a s b))) (K : Ev X (d + 3) 82 9 [Vr ((u : Int) + 1), Vr ((y : Int) + 11), Vi f, Vi t, Vi (n : Int), Vi ((k : Int) + 1), Vi ((i : Int) + 1), Vi (e : Int), Vi (w : Int)] [] (SHv st dr rd, ovl (updC a (u + 7) n v) s b) Q) : Ev X (d + 3) 82 9 [Vr ((u : Int) + 1), Vr ((y : Int) + 11), Vi f, Vi t, Vi ((n : Int) - 1), Vi (k : Int), Vi (i : Int), z7, z8] [] (SHv st dr rd, ovl a s b) Q := by
  have hu0 : u = 119 ∨ u = 142 := hu
  have hy0 : y = 2 ∨ y = 58 := hy
  refine Ev.ite (P := 1200 ≤ (i : Int)) (k := 3) (a := 264) (b := 17) (L' := [Vr ((u : Int) + 1), Vr ((y : Int) + 11), Vi f, Vi t, Vi ((n : Int) - 1), Vi (k : Int), Vi (i : Int), z7, z8]) (S' := []) (h' := ((SHv st dr rd), (ovl a s b))) (fun _ => rfl) (fun b14 => ?_) (fun b14 => ?_)
  · exfalso; omega
  · refine Ev.ite (P := (k : Int) < 0) (k := 2) (a := 264) (b := 22) (L' := [Vr ((u : Int) + 1), Vr ((y : Int) + 11), Vi f, Vi t, Vi ((n : Int) - 1), Vi (k : Int), Vi (i : Int), z7, z8]) (S' := []) (h' := ((SHv st dr rd), (ovl a s b))) (fun _ => rfl) (fun b19 => ?_) (fun b19 => ?_)
    · exfalso; omega
    · refine Ev.ite (P := t ≤ (k : Int)) (k := 3) (a := 264) (b := 28) (L' := [Vr ((u : Int) + 1), Vr ((y : Int) + 11), Vi f, Vi t, Vi ((n : Int) - 1), Vi (k : Int), Vi (i : Int), z7, z8]) (S' := []) (h' := ((SHv st dr rd), (ovl a s b))) (fun _ => rfl) (fun b25 => ?_) (fun b25 => ?_)
      · exfalso; omega
      · refine Ev.steps (k := 2) (pc' := 31) (L' := [Vr ((u : Int) + 1), Vr ((y : Int) + 11), Vi f, Vi t, Vi ((n : Int) - 1), Vi (k : Int), Vi (i : Int), z7, z8]) (S' := [Vr ((y : Int) + 11), Vi (k : Int)]) (h' := ((SHv st dr rd), (ovl a s b))) (fun _ => rfl) ?_
        refine Ev.alen (v := 1200) rfl (by omega) (shY_11 hy) rfl rfl ?_
        refine Ev.ite (P := 1200 ≤ (k : Int)) (k := 1) (a := 264) (b := 35) (L' := [Vr ((u : Int) + 1), Vr ((y : Int) + 11), Vi f, Vi t, Vi ((n : Int) - 1), Vi (k : Int), Vi (i : Int), z7, z8]) (S' := []) (h' := ((SHv st dr rd), (ovl a s b))) (fun _ => rfl) (fun b32 => ?_) (fun b32 => ?_)
        · exfalso; omega
        · refine Ev.steps (k := 2) (pc' := 38) (L' := [Vr ((u : Int) + 1), Vr ((y : Int) + 11), Vi f, Vi t, Vi ((n : Int) - 1), Vi (k : Int), Vi (i : Int), z7, z8]) (S' := [Vi (k : Int), Vr ((y : Int) + 11)]) (h' := ((SHv st dr rd), (ovl a s b))) (fun _ => rfl) ?_
          refine Ev.iald (v := ((e + 512 * w : Nat) : Int)) rfl (by omega) (shY_11 hy) (by omega) (by omega) ((ovl_rc (by omega)).trans (hcode)) ?_
          refine Ev.steps (k := 2) (pc' := 43) (L' := [Vr ((u : Int) + 1), Vr ((y : Int) + 11), Vi f, Vi t, Vi ((n : Int) - 1), Vi (k : Int), Vi (i : Int), z7, z8]) (S' := [Vi (i_and ((e + 512 * w : Nat) : Int) 511)]) (h' := ((SHv st dr rd), (ovl a s b))) (fun _ => rfl) ?_
          rw [show (i_and ((e + 512 * w : Nat) : Int) 511) = (e : Int) from wd_e he5 hw]
          refine Ev.steps (k := 3) (pc' := 48) (L' := [Vr ((u : Int) + 1), Vr ((y : Int) + 11), Vi f, Vi t, Vi ((n : Int) - 1), Vi (k : Int), Vi (i : Int), Vi (e : Int), z8]) (S' := [Vi (k : Int), Vr ((y : Int) + 11)]) (h' := ((SHv st dr rd), (ovl a s b))) (fun _ => rfl) ?_
          refine Ev.iald (v := ((e + 512 * w : Nat) : Int)) rfl (by omega) (shY_11 hy) (by omega) (by omega) ((ovl_rc (by omega)).trans (hcode)) ?_
          refine Ev.steps (k := 2) (pc' := 52) (L' := [Vr ((u : Int) + 1), Vr ((y : Int) + 11), Vi f, Vi t, Vi ((n : Int) - 1), Vi (k : Int), Vi (i : Int), Vi (e : Int), z8]) (S' := [Vi (i_ushr ((e + 512 * w : Nat) : Int) 9)]) (h' := ((SHv st dr rd), (ovl a s b))) (fun _ => rfl) ?_
          rw [show (i_ushr ((e + 512 * w : Nat) : Int) 9) = (w : Int) from wd_w he5 hw]
          refine Ev.steps (k := 2) (pc' := 57) (L' := [Vr ((u : Int) + 1), Vr ((y : Int) + 11), Vi f, Vi t, Vi ((n : Int) - 1), Vi (w32 ((k : Int) + 1)), Vi (i : Int), Vi (e : Int), Vi (w : Int)]) (S' := []) (h' := ((SHv st dr rd), (ovl a s b))) (fun _ => rfl) ?_
          rw [show (w32 ((k : Int) + 1)) = ((k : Int) + 1) from w32_id (by unfold R32; omega)]
          refine Ev.ite (P := (e : Int) = 269) (k := 3) (a := 73) (b := 65) (L' := [Vr ((u : Int) + 1), Vr ((y : Int) + 11), Vi f, Vi t, Vi ((n : Int) - 1), Vi ((k : Int) + 1), Vi (i : Int), Vi (e : Int), Vi (w : Int)]) (S' := []) (h' := ((SHv st dr rd), (ovl a s b))) (fun _ => rfl) (fun b62 => ?_) (fun b62 => ?_)
          · exfalso; omega
          · refine Ev.ite (P := (e : Int) ≠ 270) (k := 3) (a := 129) (b := 73) (L' := [Vr ((u : Int) + 1), Vr ((y : Int) + 11), Vi f, Vi t, Vi ((n : Int) - 1), Vi ((k : Int) + 1), Vi (i : Int), Vi (e : Int), Vi (w : Int)]) (S' := []) (h' := ((SHv st dr rd), (ovl a s b))) (fun _ => rfl) (fun b70 => ?_) (fun b70 => ?_)
            · refine Ev.ite (P := (e : Int) ≠ 271) (k := 3) (a := 161) (b := 137) (L' := [Vr ((u : Int) + 1), Vr ((y : Int) + 11), Vi f, Vi t, Vi ((n : Int) - 1), Vi ((k : Int) + 1), Vi (i : Int), Vi (e : Int), Vi (w : Int)]) (S' := []) (h' := ((SHv st dr rd), (ovl a s b))) (fun _ => rfl) (fun b134 => ?_) (fun b134 => ?_)
              · refine Ev.ite (P := (e : Int) < 256) (k := 3) (a := 185) (b := 169) (L' := [Vr ((u : Int) + 1), Vr ((y : Int) + 11), Vi f, Vi t, Vi ((n : Int) - 1), Vi ((k : Int) + 1), Vi (i : Int), Vi (e : Int), Vi (w : Int)]) (S' := []) (h' := ((SHv st dr rd), (ovl a s b))) (fun _ => rfl) (fun b166 => ?_) (fun b166 => ?_)
                · exfalso; omega
                · refine Ev.ite (P := (e : Int) = 281) (k := 3) (a := 185) (b := 177) (L' := [Vr ((u : Int) + 1), Vr ((y : Int) + 11), Vi f, Vi t, Vi ((n : Int) - 1), Vi ((k : Int) + 1), Vi (i : Int), Vi (e : Int), Vi (w : Int)]) (S' := []) (h' := ((SHv st dr rd), (ovl a s b))) (fun _ => rfl) (fun b174 => ?_) (fun b174 => ?_)
                  · exfalso; omega
                  · refine Ev.ite (P := (e : Int) ≠ 282) (k := 3) (a := 228) (b := 185) (L' := [Vr ((u : Int) + 1), Vr ((y : Int) + 11), Vi f, Vi t, Vi ((n : Int) - 1), Vi ((k : Int) + 1), Vi (i : Int), Vi (e : Int), Vi (w : Int)]) (S' := []) (h' := ((SHv st dr rd), (ovl a s b))) (fun _ => rfl) (fun b182 => ?_) (fun b182 => ?_)
                    · refine Ev.steps (k := 3) (pc' := 232) (L' := [Vr ((u : Int) + 1), Vr ((y : Int) + 11), Vi f, Vi t, Vi ((n : Int) - 1), Vi ((k : Int) + 1), Vi (i : Int), Vi (e : Int), Vi (w : Int)]) (S' := [Vi (w32 (((n : Int) - 1) + 1))]) (h' := ((SHv st dr rd), (ovl a s b))) (fun _ => rfl) ?_
                      rw [show (w32 (((n : Int) - 1) + 1)) = (n : Int) from (by unfold w32; omega)]
                      refine Ev.steps (k := 1) (pc' := 233) (L' := [Vr ((u : Int) + 1), Vr ((y : Int) + 11), Vi f, Vi t, Vi ((n : Int) - 1), Vi ((k : Int) + 1), Vi (i : Int), Vi (e : Int), Vi (w : Int)]) (S' := [Vr ((u : Int) + 1), Vi (n : Int)]) (h' := ((SHv st dr rd), (ovl a s b))) (fun _ => rfl) ?_
                      refine Ev.getr (r := ((u : Int) + 7)) rfl rfl (by omega) (shU_1 hu) rfl rfl rfl ?_
                      refine Ev.alen (v := 48) rfl (by omega) (shU_7 hu) rfl rfl ?_
                      refine Ev.ite (P := 48 ≤ (n : Int)) (k := 1) (a := 258) (b := 240) (L' := [Vr ((u : Int) + 1), Vr ((y : Int) + 11), Vi f, Vi t, Vi ((n : Int) - 1), Vi ((k : Int) + 1), Vi (i : Int), Vi (e : Int), Vi (w : Int)]) (S' := []) (h' := ((SHv st dr rd), (ovl a s b))) (fun _ => rfl) (fun b237 => ?_) (fun b237 => ?_)
                      · exfalso; omega
                      · refine Ev.steps (k := 1) (pc' := 243) (L' := [Vr ((u : Int) + 1), Vr ((y : Int) + 11), Vi f, Vi t, Vi (w32 (((n : Int) - 1) + 1)), Vi ((k : Int) + 1), Vi (i : Int), Vi (e : Int), Vi (w : Int)]) (S' := []) (h' := ((SHv st dr rd), (ovl a s b))) (fun _ => rfl) ?_
                        rw [show (w32 (((n : Int) - 1) + 1)) = (n : Int) from (by unfold w32; omega)]
                        refine Ev.steps (k := 1) (pc' := 244) (L' := [Vr ((u : Int) + 1), Vr ((y : Int) + 11), Vi f, Vi t, Vi (n : Int), Vi ((k : Int) + 1), Vi (i : Int), Vi (e : Int), Vi (w : Int)]) (S' := [Vr ((u : Int) + 1)]) (h' := ((SHv st dr rd), (ovl a s b))) (fun _ => rfl) ?_
                        refine Ev.getr (r := ((u : Int) + 7)) rfl rfl (by omega) (shU_1 hu) rfl rfl rfl ?_
                        refine Ev.call (k := 4) (pc1 := 254) (L1 := [Vr ((u : Int) + 1), Vr ((y : Int) + 11), Vi f, Vi t, Vi (n : Int), Vi ((k : Int) + 1), Vi (i : Int), Vi (e : Int), Vi (w : Int)]) (S1 := [Vi (w : Int), Vi (e : Int), Vr ((u : Int) + 1), Vi (n : Int), Vr ((u : Int) + 7)]) (h1 := ((SHv st dr rd), (ovl a s b))) (m' := 90) (as := [Vr ((u : Int) + 1), Vi (e : Int), Vi (w : Int)]) (S' := [Vi (n : Int), Vr ((u : Int) + 7)]) (L0 := [Vr ((u : Int) + 1), Vi (e : Int), Vi (w : Int), Vx, Vx]) (fun _ => rfl) rfl rfl rfl rfl (stpC_of rfl (pm_recv_of (by omega) (shU_1 hu))) rfl (hfnd) (fun r h' hq => ?_)
                        obtain ⟨rfl, rfl⟩ := hq
                        show Ev X _ _ 257 [Vr ((u : Int) + 1), Vr ((y : Int) + 11), Vi f, Vi t, Vi (n : Int), Vi ((k : Int) + 1), Vi (i : Int), Vi (e : Int), Vi (w : Int)] [Vi v, Vi (n : Int), Vr ((u : Int) + 7)] ((SHv st dr rd), (ovl a s b)) _
                        refine Ev.iast (c' := (ovl (updC a (u + 7) n v) s b)) rfl (by omega) (shU_7 hu) (by omega) (by omega) (ovl_wc (by omega)) ?_
                        refine Ev.steps (k := 1) (pc' := 261) (L' := [Vr ((u : Int) + 1), Vr ((y : Int) + 11), Vi f, Vi t, Vi (n : Int), Vi ((k : Int) + 1), Vi (w32 ((i : Int) + 1)), Vi (e : Int), Vi (w : Int)]) (S' := []) (h' := ((SHv st dr rd), (ovl (updC a (u + 7) n v) s b))) (fun _ => rfl) ?_
                        rw [show (w32 ((i : Int) + 1)) = ((i : Int) + 1) from w32_id (by unfold R32; omega)]
                        refine Ev.steps (k := 1) (pc' := 9) (L' := [Vr ((u : Int) + 1), Vr ((y : Int) + 11), Vi f, Vi t, Vi (n : Int), Vi ((k : Int) + 1), Vi ((i : Int) + 1), Vi (e : Int), Vi (w : Int)]) (S' := []) (h' := ((SHv st dr rd), (ovl (updC a (u + 7) n v) s b))) (fun _ => rfl) ?_
                        first | exact K | (exfalso; omega)
                    · exfalso; omega
              · exfalso; omega
            · exfalso; omega
theorem w_not {X : List Int} {d : Nat} {st dr rd : Int} {a s b : C3} {u : Nat} (hu : huS u) {y : Nat} (hy : hyS y) (f t : Int) (k i : Nat) (z7 z8 : pm_V) (e w : Nat) (he5 : e < 512) (hw : w < 10000) (hcode : a (y + 11) k = ((e + 512 * w : Nat) : Int)) (hk : (k : Int) < t) (ht : t ≤ 1200) (hi : i ≤ k) {Q : Option pm_V → pm_H → Prop} (m : Nat) (hm : m < 48) (x : Int) (hx : a (u + 7) m = x) (hx2 : x = 0 ∨ x = 1) (he : e = 271) (K : Ev X (d + 3) 82 9 [Vr ((u : Int) + 1), Vr ((y : Int) + 11), Vi f, Vi t, Vi (m : Int), Vi ((k : Int) + 1), Vi ((i : Int) + 1), Vi (e : Int), Vi (w : Int)] [] (SHv st dr rd, ovl (updC a (u + 7) m (1 - x)) s b) Q) : Ev X (d + 3) 82 9 [Vr ((u : Int) + 1), Vr ((y : Int) + 11), Vi f, Vi t, Vi (m : Int), Vi (k : Int), Vi (i : Int), z7, z8] [] (SHv st dr rd, ovl a s b) Q := by
  have hu0 : u = 119 ∨ u = 142 := hu
  have hy0 : y = 2 ∨ y = 58 := hy
  refine Ev.ite (P := 1200 ≤ (i : Int)) (k := 3) (a := 264) (b := 17) (L' := [Vr ((u : Int) + 1), Vr ((y : Int) + 11), Vi f, Vi t, Vi (m : Int), Vi (k : Int), Vi (i : Int), z7, z8]) (S' := []) (h' := ((SHv st dr rd), (ovl a s b))) (fun _ => rfl) (fun b14 => ?_) (fun b14 => ?_)
  · exfalso; omega
  · refine Ev.ite (P := (k : Int) < 0) (k := 2) (a := 264) (b := 22) (L' := [Vr ((u : Int) + 1), Vr ((y : Int) + 11), Vi f, Vi t, Vi (m : Int), Vi (k : Int), Vi (i : Int), z7, z8]) (S' := []) (h' := ((SHv st dr rd), (ovl a s b))) (fun _ => rfl) (fun b19 => ?_) (fun b19 => ?_)
    · exfalso; omega
    · refine Ev.ite (P := t ≤ (k : Int)) (k := 3) (a := 264) (b := 28) (L' := [Vr ((u : Int) + 1), Vr ((y : Int) + 11), Vi f, Vi t, Vi (m : Int), Vi (k : Int), Vi (i : Int), z7, z8]) (S' := []) (h' := ((SHv st dr rd), (ovl a s b))) (fun _ => rfl) (fun b25 => ?_) (fun b25 => ?_)
      · exfalso; omega
      · refine Ev.steps (k := 2) (pc' := 31) (L' := [Vr ((u : Int) + 1), Vr ((y : Int) + 11), Vi f, Vi t, Vi (m : Int), Vi (k : Int), Vi (i : Int), z7, z8]) (S' := [Vr ((y : Int) + 11), Vi (k : Int)]) (h' := ((SHv st dr rd), (ovl a s b))) (fun _ => rfl) ?_
        refine Ev.alen (v := 1200) rfl (by omega) (shY_11 hy) rfl rfl ?_
        refine Ev.ite (P := 1200 ≤ (k : Int)) (k := 1) (a := 264) (b := 35) (L' := [Vr ((u : Int) + 1), Vr ((y : Int) + 11), Vi f, Vi t, Vi (m : Int), Vi (k : Int), Vi (i : Int), z7, z8]) (S' := []) (h' := ((SHv st dr rd), (ovl a s b))) (fun _ => rfl) (fun b32 => ?_) (fun b32 => ?_)
        · exfalso; omega
        · refine Ev.steps (k := 2) (pc' := 38) (L' := [Vr ((u : Int) + 1), Vr ((y : Int) + 11), Vi f, Vi t, Vi (m : Int), Vi (k : Int), Vi (i : Int), z7, z8]) (S' := [Vi (k : Int), Vr ((y : Int) + 11)]) (h' := ((SHv st dr rd), (ovl a s b))) (fun _ => rfl) ?_
          refine Ev.iald (v := ((e + 512 * w : Nat) : Int)) rfl (by omega) (shY_11 hy) (by omega) (by omega) ((ovl_rc (by omega)).trans (hcode)) ?_
          refine Ev.steps (k := 2) (pc' := 43) (L' := [Vr ((u : Int) + 1), Vr ((y : Int) + 11), Vi f, Vi t, Vi (m : Int), Vi (k : Int), Vi (i : Int), z7, z8]) (S' := [Vi (i_and ((e + 512 * w : Nat) : Int) 511)]) (h' := ((SHv st dr rd), (ovl a s b))) (fun _ => rfl) ?_
          rw [show (i_and ((e + 512 * w : Nat) : Int) 511) = (e : Int) from wd_e he5 hw]
          refine Ev.steps (k := 3) (pc' := 48) (L' := [Vr ((u : Int) + 1), Vr ((y : Int) + 11), Vi f, Vi t, Vi (m : Int), Vi (k : Int), Vi (i : Int), Vi (e : Int), z8]) (S' := [Vi (k : Int), Vr ((y : Int) + 11)]) (h' := ((SHv st dr rd), (ovl a s b))) (fun _ => rfl) ?_
          refine Ev.iald (v := ((e + 512 * w : Nat) : Int)) rfl (by omega) (shY_11 hy) (by omega) (by omega) ((ovl_rc (by omega)).trans (hcode)) ?_
          refine Ev.steps (k := 2) (pc' := 52) (L' := [Vr ((u : Int) + 1), Vr ((y : Int) + 11), Vi f, Vi t, Vi (m : Int), Vi (k : Int), Vi (i : Int), Vi (e : Int), z8]) (S' := [Vi (i_ushr ((e + 512 * w : Nat) : Int) 9)]) (h' := ((SHv st dr rd), (ovl a s b))) (fun _ => rfl) ?_
          rw [show (i_ushr ((e + 512 * w : Nat) : Int) 9) = (w : Int) from wd_w he5 hw]
          refine Ev.steps (k := 2) (pc' := 57) (L' := [Vr ((u : Int) + 1), Vr ((y : Int) + 11), Vi f, Vi t, Vi (m : Int), Vi (w32 ((k : Int) + 1)), Vi (i : Int), Vi (e : Int), Vi (w : Int)]) (S' := []) (h' := ((SHv st dr rd), (ovl a s b))) (fun _ => rfl) ?_
          rw [show (w32 ((k : Int) + 1)) = ((k : Int) + 1) from w32_id (by unfold R32; omega)]
          refine Ev.ite (P := (e : Int) = 269) (k := 3) (a := 73) (b := 65) (L' := [Vr ((u : Int) + 1), Vr ((y : Int) + 11), Vi f, Vi t, Vi (m : Int), Vi ((k : Int) + 1), Vi (i : Int), Vi (e : Int), Vi (w : Int)]) (S' := []) (h' := ((SHv st dr rd), (ovl a s b))) (fun _ => rfl) (fun b62 => ?_) (fun b62 => ?_)
          · exfalso; omega
          · refine Ev.ite (P := (e : Int) ≠ 270) (k := 3) (a := 129) (b := 73) (L' := [Vr ((u : Int) + 1), Vr ((y : Int) + 11), Vi f, Vi t, Vi (m : Int), Vi ((k : Int) + 1), Vi (i : Int), Vi (e : Int), Vi (w : Int)]) (S' := []) (h' := ((SHv st dr rd), (ovl a s b))) (fun _ => rfl) (fun b70 => ?_) (fun b70 => ?_)
            · refine Ev.ite (P := (e : Int) ≠ 271) (k := 3) (a := 161) (b := 137) (L' := [Vr ((u : Int) + 1), Vr ((y : Int) + 11), Vi f, Vi t, Vi (m : Int), Vi ((k : Int) + 1), Vi (i : Int), Vi (e : Int), Vi (w : Int)]) (S' := []) (h' := ((SHv st dr rd), (ovl a s b))) (fun _ => rfl) (fun b134 => ?_) (fun b134 => ?_)
              · exfalso; omega
              · refine Ev.ite (P := (m : Int) < 0) (k := 2) (a := 258) (b := 142) (L' := [Vr ((u : Int) + 1), Vr ((y : Int) + 11), Vi f, Vi t, Vi (m : Int), Vi ((k : Int) + 1), Vi (i : Int), Vi (e : Int), Vi (w : Int)]) (S' := []) (h' := ((SHv st dr rd), (ovl a s b))) (fun _ => rfl) (fun b139 => ?_) (fun b139 => ?_)
                · exfalso; omega
                · refine Ev.steps (k := 1) (pc' := 143) (L' := [Vr ((u : Int) + 1), Vr ((y : Int) + 11), Vi f, Vi t, Vi (m : Int), Vi ((k : Int) + 1), Vi (i : Int), Vi (e : Int), Vi (w : Int)]) (S' := [Vr ((u : Int) + 1)]) (h' := ((SHv st dr rd), (ovl a s b))) (fun _ => rfl) ?_
                  refine Ev.getr (r := ((u : Int) + 7)) rfl rfl (by omega) (shU_1 hu) rfl rfl rfl ?_
                  refine Ev.steps (k := 3) (pc' := 150) (L' := [Vr ((u : Int) + 1), Vr ((y : Int) + 11), Vi f, Vi t, Vi (m : Int), Vi ((k : Int) + 1), Vi (i : Int), Vi (e : Int), Vi (w : Int)]) (S' := [Vr ((u : Int) + 1), Vi 1, Vi (m : Int), Vr ((u : Int) + 7)]) (h' := ((SHv st dr rd), (ovl a s b))) (fun _ => rfl) ?_
                  refine Ev.getr (r := ((u : Int) + 7)) rfl rfl (by omega) (shU_1 hu) rfl rfl rfl ?_
                  refine Ev.steps (k := 1) (pc' := 155) (L' := [Vr ((u : Int) + 1), Vr ((y : Int) + 11), Vi f, Vi t, Vi (m : Int), Vi ((k : Int) + 1), Vi (i : Int), Vi (e : Int), Vi (w : Int)]) (S' := [Vi (m : Int), Vr ((u : Int) + 7), Vi 1, Vi (m : Int), Vr ((u : Int) + 7)]) (h' := ((SHv st dr rd), (ovl a s b))) (fun _ => rfl) ?_
                  refine Ev.iald (v := x) rfl (by omega) (shU_7 hu) (by omega) (by omega) ((ovl_rc (by omega)).trans (hx)) ?_
                  refine Ev.steps (k := 1) (pc' := 157) (L' := [Vr ((u : Int) + 1), Vr ((y : Int) + 11), Vi f, Vi t, Vi (m : Int), Vi ((k : Int) + 1), Vi (i : Int), Vi (e : Int), Vi (w : Int)]) (S' := [Vi (w32 (1 - x)), Vi (m : Int), Vr ((u : Int) + 7)]) (h' := ((SHv st dr rd), (ovl a s b))) (fun _ => rfl) ?_
                  rw [show (w32 (1 - x)) = (1 - x) from w32_id (by unfold R32; omega)]
                  refine Ev.iast (c' := (ovl (updC a (u + 7) m (1 - x)) s b)) rfl (by omega) (shU_7 hu) (by omega) (by omega) (ovl_wc (by omega)) ?_
                  refine Ev.steps (k := 2) (pc' := 261) (L' := [Vr ((u : Int) + 1), Vr ((y : Int) + 11), Vi f, Vi t, Vi (m : Int), Vi ((k : Int) + 1), Vi (w32 ((i : Int) + 1)), Vi (e : Int), Vi (w : Int)]) (S' := []) (h' := ((SHv st dr rd), (ovl (updC a (u + 7) m (1 - x)) s b))) (fun _ => rfl) ?_
                  rw [show (w32 ((i : Int) + 1)) = ((i : Int) + 1) from w32_id (by unfold R32; omega)]
                  refine Ev.steps (k := 1) (pc' := 9) (L' := [Vr ((u : Int) + 1), Vr ((y : Int) + 11), Vi f, Vi t, Vi (m : Int), Vi ((k : Int) + 1), Vi ((i : Int) + 1), Vi (e : Int), Vi (w : Int)]) (S' := []) (h' := ((SHv st dr rd), (ovl (updC a (u + 7) m (1 - x)) s b))) (fun _ => rfl) ?_
                  first | exact K | (exfalso; omega)
            · exfalso; omega
theorem w_bin {X : List Int} {d : Nat} {st dr rd : Int} {a s b : C3} {u : Nat} (hu : huS u) {y : Nat} (hy : hyS y) (f t : Int) (k i : Nat) (z7 z8 : pm_V) (e w : Nat) (he5 : e < 512) (hw : w < 10000) (hcode : a (y + 11) k = ((e + 512 * w : Nat) : Int)) (hk : (k : Int) < t) (ht : t ≤ 1200) (hi : i ≤ k) {Q : Option pm_V → pm_H → Prop} (m : Nat) (hm : m + 1 < 48) (x x2 v : Int) (hx : a (u + 7) m = x) (hx2 : a (u + 7) (m + 1) = x2) (he : e < 256 ∨ e = 281 ∨ e = 282) (hjn : Ev X (d + 2) 84 0 [Vr ((u : Int) + 1), Vi (e : Int), Vi x, Vi x2] [] (SHv st dr rd, ovl a s b) (fun rr hh => rr = some (Vi v) ∧ hh = (SHv st dr rd, ovl a s b))) (K : Ev X (d + 3) 82 9 [Vr ((u : Int) + 1), Vr ((y : Int) + 11), Vi f, Vi t, Vi (m : Int), Vi ((k : Int) + 1), Vi ((i : Int) + 1), Vi (e : Int), Vi (w : Int)] [] (SHv st dr rd, ovl (updC a (u + 7) m v) s b) Q) : Ev X (d + 3) 82 9 [Vr ((u : Int) + 1), Vr ((y : Int) + 11), Vi f, Vi t, Vi ((m : Int) + 1), Vi (k : Int), Vi (i : Int), z7, z8] [] (SHv st dr rd, ovl a s b) Q := by
  have hu0 : u = 119 ∨ u = 142 := hu
  have hy0 : y = 2 ∨ y = 58 := hy
  refine Ev.ite (P := 1200 ≤ (i : Int)) (k := 3) (a := 264) (b := 17) (L' := [Vr ((u : Int) + 1), Vr ((y : Int) + 11), Vi f, Vi t, Vi ((m : Int) + 1), Vi (k : Int), Vi (i : Int), z7, z8]) (S' := []) (h' := ((SHv st dr rd), (ovl a s b))) (fun _ => rfl) (fun b14 => ?_) (fun b14 => ?_)
  · exfalso; omega
  · refine Ev.ite (P := (k : Int) < 0) (k := 2) (a := 264) (b := 22) (L' := [Vr ((u : Int) + 1), Vr ((y : Int) + 11), Vi f, Vi t, Vi ((m : Int) + 1), Vi (k : Int), Vi (i : Int), z7, z8]) (S' := []) (h' := ((SHv st dr rd), (ovl a s b))) (fun _ => rfl) (fun b19 => ?_) (fun b19 => ?_)
    · exfalso; omega
    · refine Ev.ite (P := t ≤ (k : Int)) (k := 3) (a := 264) (b := 28) (L' := [Vr ((u : Int) + 1), Vr ((y : Int) + 11), Vi f, Vi t, Vi ((m : Int) + 1), Vi (k : Int), Vi (i : Int), z7, z8]) (S' := []) (h' := ((SHv st dr rd), (ovl a s b))) (fun _ => rfl) (fun b25 => ?_) (fun b25 => ?_)
      · exfalso; omega
      · refine Ev.steps (k := 2) (pc' := 31) (L' := [Vr ((u : Int) + 1), Vr ((y : Int) + 11), Vi f, Vi t, Vi ((m : Int) + 1), Vi (k : Int), Vi (i : Int), z7, z8]) (S' := [Vr ((y : Int) + 11), Vi (k : Int)]) (h' := ((SHv st dr rd), (ovl a s b))) (fun _ => rfl) ?_
        refine Ev.alen (v := 1200) rfl (by omega) (shY_11 hy) rfl rfl ?_
        refine Ev.ite (P := 1200 ≤ (k : Int)) (k := 1) (a := 264) (b := 35) (L' := [Vr ((u : Int) + 1), Vr ((y : Int) + 11), Vi f, Vi t, Vi ((m : Int) + 1), Vi (k : Int), Vi (i : Int), z7, z8]) (S' := []) (h' := ((SHv st dr rd), (ovl a s b))) (fun _ => rfl) (fun b32 => ?_) (fun b32 => ?_)
        · exfalso; omega
        · refine Ev.steps (k := 2) (pc' := 38) (L' := [Vr ((u : Int) + 1), Vr ((y : Int) + 11), Vi f, Vi t, Vi ((m : Int) + 1), Vi (k : Int), Vi (i : Int), z7, z8]) (S' := [Vi (k : Int), Vr ((y : Int) + 11)]) (h' := ((SHv st dr rd), (ovl a s b))) (fun _ => rfl) ?_
          refine Ev.iald (v := ((e + 512 * w : Nat) : Int)) rfl (by omega) (shY_11 hy) (by omega) (by omega) ((ovl_rc (by omega)).trans (hcode)) ?_
          refine Ev.steps (k := 2) (pc' := 43) (L' := [Vr ((u : Int) + 1), Vr ((y : Int) + 11), Vi f, Vi t, Vi ((m : Int) + 1), Vi (k : Int), Vi (i : Int), z7, z8]) (S' := [Vi (i_and ((e + 512 * w : Nat) : Int) 511)]) (h' := ((SHv st dr rd), (ovl a s b))) (fun _ => rfl) ?_
          rw [show (i_and ((e + 512 * w : Nat) : Int) 511) = (e : Int) from wd_e he5 hw]
          refine Ev.steps (k := 3) (pc' := 48) (L' := [Vr ((u : Int) + 1), Vr ((y : Int) + 11), Vi f, Vi t, Vi ((m : Int) + 1), Vi (k : Int), Vi (i : Int), Vi (e : Int), z8]) (S' := [Vi (k : Int), Vr ((y : Int) + 11)]) (h' := ((SHv st dr rd), (ovl a s b))) (fun _ => rfl) ?_
          refine Ev.iald (v := ((e + 512 * w : Nat) : Int)) rfl (by omega) (shY_11 hy) (by omega) (by omega) ((ovl_rc (by omega)).trans (hcode)) ?_
          refine Ev.steps (k := 2) (pc' := 52) (L' := [Vr ((u : Int) + 1), Vr ((y : Int) + 11), Vi f, Vi t, Vi ((m : Int) + 1), Vi (k : Int), Vi (i : Int), Vi (e : Int), z8]) (S' := [Vi (i_ushr ((e + 512 * w : Nat) : Int) 9)]) (h' := ((SHv st dr rd), (ovl a s b))) (fun _ => rfl) ?_
          rw [show (i_ushr ((e + 512 * w : Nat) : Int) 9) = (w : Int) from wd_w he5 hw]
          refine Ev.steps (k := 2) (pc' := 57) (L' := [Vr ((u : Int) + 1), Vr ((y : Int) + 11), Vi f, Vi t, Vi ((m : Int) + 1), Vi (w32 ((k : Int) + 1)), Vi (i : Int), Vi (e : Int), Vi (w : Int)]) (S' := []) (h' := ((SHv st dr rd), (ovl a s b))) (fun _ => rfl) ?_
          rw [show (w32 ((k : Int) + 1)) = ((k : Int) + 1) from w32_id (by unfold R32; omega)]
          refine Ev.ite (P := (e : Int) = 269) (k := 3) (a := 73) (b := 65) (L' := [Vr ((u : Int) + 1), Vr ((y : Int) + 11), Vi f, Vi t, Vi ((m : Int) + 1), Vi ((k : Int) + 1), Vi (i : Int), Vi (e : Int), Vi (w : Int)]) (S' := []) (h' := ((SHv st dr rd), (ovl a s b))) (fun _ => rfl) (fun b62 => ?_) (fun b62 => ?_)
          · exfalso; omega
          · refine Ev.ite (P := (e : Int) ≠ 270) (k := 3) (a := 129) (b := 73) (L' := [Vr ((u : Int) + 1), Vr ((y : Int) + 11), Vi f, Vi t, Vi ((m : Int) + 1), Vi ((k : Int) + 1), Vi (i : Int), Vi (e : Int), Vi (w : Int)]) (S' := []) (h' := ((SHv st dr rd), (ovl a s b))) (fun _ => rfl) (fun b70 => ?_) (fun b70 => ?_)
            · refine Ev.ite (P := (e : Int) ≠ 271) (k := 3) (a := 161) (b := 137) (L' := [Vr ((u : Int) + 1), Vr ((y : Int) + 11), Vi f, Vi t, Vi ((m : Int) + 1), Vi ((k : Int) + 1), Vi (i : Int), Vi (e : Int), Vi (w : Int)]) (S' := []) (h' := ((SHv st dr rd), (ovl a s b))) (fun _ => rfl) (fun b134 => ?_) (fun b134 => ?_)
              · refine Ev.ite (P := (e : Int) < 256) (k := 3) (a := 185) (b := 169) (L' := [Vr ((u : Int) + 1), Vr ((y : Int) + 11), Vi f, Vi t, Vi ((m : Int) + 1), Vi ((k : Int) + 1), Vi (i : Int), Vi (e : Int), Vi (w : Int)]) (S' := []) (h' := ((SHv st dr rd), (ovl a s b))) (fun _ => rfl) (fun b166 => ?_) (fun b166 => ?_)
                · refine Ev.ite (P := ((m : Int) + 1) < 1) (k := 3) (a := 258) (b := 191) (L' := [Vr ((u : Int) + 1), Vr ((y : Int) + 11), Vi f, Vi t, Vi ((m : Int) + 1), Vi ((k : Int) + 1), Vi (i : Int), Vi (e : Int), Vi (w : Int)]) (S' := []) (h' := ((SHv st dr rd), (ovl a s b))) (fun _ => rfl) (fun b188 => ?_) (fun b188 => ?_)
                  · exfalso; omega
                  · refine Ev.steps (k := 1) (pc' := 192) (L' := [Vr ((u : Int) + 1), Vr ((y : Int) + 11), Vi f, Vi t, Vi ((m : Int) + 1), Vi ((k : Int) + 1), Vi (i : Int), Vi (e : Int), Vi (w : Int)]) (S' := [Vr ((u : Int) + 1)]) (h' := ((SHv st dr rd), (ovl a s b))) (fun _ => rfl) ?_
                    refine Ev.getr (r := ((u : Int) + 7)) rfl rfl (by omega) (shU_1 hu) rfl rfl rfl ?_
                    refine Ev.steps (k := 3) (pc' := 199) (L' := [Vr ((u : Int) + 1), Vr ((y : Int) + 11), Vi f, Vi t, Vi ((m : Int) + 1), Vi ((k : Int) + 1), Vi (i : Int), Vi (e : Int), Vi (w : Int)]) (S' := [Vi (w32 (((m : Int) + 1) - 1)), Vr ((u : Int) + 7)]) (h' := ((SHv st dr rd), (ovl a s b))) (fun _ => rfl) ?_
                    rw [show (w32 (((m : Int) + 1) - 1)) = (m : Int) from (by unfold w32; omega)]
                    refine Ev.steps (k := 3) (pc' := 203) (L' := [Vr ((u : Int) + 1), Vr ((y : Int) + 11), Vi f, Vi t, Vi ((m : Int) + 1), Vi ((k : Int) + 1), Vi (i : Int), Vi (e : Int), Vi (w : Int)]) (S' := [Vr ((u : Int) + 1), Vi (e : Int), Vr ((u : Int) + 1), Vi (m : Int), Vr ((u : Int) + 7)]) (h' := ((SHv st dr rd), (ovl a s b))) (fun _ => rfl) ?_
                    refine Ev.getr (r := ((u : Int) + 7)) rfl rfl (by omega) (shU_1 hu) rfl rfl rfl ?_
                    refine Ev.steps (k := 3) (pc' := 210) (L' := [Vr ((u : Int) + 1), Vr ((y : Int) + 11), Vi f, Vi t, Vi ((m : Int) + 1), Vi ((k : Int) + 1), Vi (i : Int), Vi (e : Int), Vi (w : Int)]) (S' := [Vi (w32 (((m : Int) + 1) - 1)), Vr ((u : Int) + 7), Vi (e : Int), Vr ((u : Int) + 1), Vi (m : Int), Vr ((u : Int) + 7)]) (h' := ((SHv st dr rd), (ovl a s b))) (fun _ => rfl) ?_
                    rw [show (w32 (((m : Int) + 1) - 1)) = (m : Int) from (by unfold w32; omega)]
                    refine Ev.iald (v := x) rfl (by omega) (shU_7 hu) (by omega) (by omega) ((ovl_rc (by omega)).trans (hx)) ?_
                    refine Ev.steps (k := 1) (pc' := 212) (L' := [Vr ((u : Int) + 1), Vr ((y : Int) + 11), Vi f, Vi t, Vi ((m : Int) + 1), Vi ((k : Int) + 1), Vi (i : Int), Vi (e : Int), Vi (w : Int)]) (S' := [Vr ((u : Int) + 1), Vi x, Vi (e : Int), Vr ((u : Int) + 1), Vi (m : Int), Vr ((u : Int) + 7)]) (h' := ((SHv st dr rd), (ovl a s b))) (fun _ => rfl) ?_
                    refine Ev.getr (r := ((u : Int) + 7)) rfl rfl (by omega) (shU_1 hu) rfl rfl rfl ?_
                    refine Ev.steps (k := 1) (pc' := 217) (L' := [Vr ((u : Int) + 1), Vr ((y : Int) + 11), Vi f, Vi t, Vi ((m : Int) + 1), Vi ((k : Int) + 1), Vi (i : Int), Vi (e : Int), Vi (w : Int)]) (S' := [Vi ((m : Int) + 1), Vr ((u : Int) + 7), Vi x, Vi (e : Int), Vr ((u : Int) + 1), Vi (m : Int), Vr ((u : Int) + 7)]) (h' := ((SHv st dr rd), (ovl a s b))) (fun _ => rfl) ?_
                    refine Ev.iald (v := x2) rfl (by omega) (shU_7 hu) (by omega) (by omega) ((ovl_rc (by omega)).trans (hx2)) ?_
                    refine Ev.call (k := 0) (pc1 := 218) (L1 := [Vr ((u : Int) + 1), Vr ((y : Int) + 11), Vi f, Vi t, Vi ((m : Int) + 1), Vi ((k : Int) + 1), Vi (i : Int), Vi (e : Int), Vi (w : Int)]) (S1 := [Vi x2, Vi x, Vi (e : Int), Vr ((u : Int) + 1), Vi (m : Int), Vr ((u : Int) + 7)]) (h1 := ((SHv st dr rd), (ovl a s b))) (m' := 84) (as := [Vr ((u : Int) + 1), Vi (e : Int), Vi x, Vi x2]) (S' := [Vi (m : Int), Vr ((u : Int) + 7)]) (L0 := [Vr ((u : Int) + 1), Vi (e : Int), Vi x, Vi x2]) (fun _ => rfl) rfl rfl rfl rfl (stpC_of rfl (pm_recv_of (by omega) (shU_1 hu))) rfl (hjn) (fun r h' hq => ?_)
                    obtain ⟨rfl, rfl⟩ := hq
                    show Ev X _ _ 221 [Vr ((u : Int) + 1), Vr ((y : Int) + 11), Vi f, Vi t, Vi ((m : Int) + 1), Vi ((k : Int) + 1), Vi (i : Int), Vi (e : Int), Vi (w : Int)] [Vi v, Vi (m : Int), Vr ((u : Int) + 7)] ((SHv st dr rd), (ovl a s b)) _
                    refine Ev.iast (c' := (ovl (updC a (u + 7) m v) s b)) rfl (by omega) (shU_7 hu) (by omega) (by omega) (ovl_wc (by omega)) ?_
                    refine Ev.steps (k := 1) (pc' := 225) (L' := [Vr ((u : Int) + 1), Vr ((y : Int) + 11), Vi f, Vi t, Vi (w32 (((m : Int) + 1) + (-1))), Vi ((k : Int) + 1), Vi (i : Int), Vi (e : Int), Vi (w : Int)]) (S' := []) (h' := ((SHv st dr rd), (ovl (updC a (u + 7) m v) s b))) (fun _ => rfl) ?_
                    rw [show (w32 (((m : Int) + 1) + (-1))) = (m : Int) from (by unfold w32; omega)]
                    refine Ev.steps (k := 2) (pc' := 261) (L' := [Vr ((u : Int) + 1), Vr ((y : Int) + 11), Vi f, Vi t, Vi (m : Int), Vi ((k : Int) + 1), Vi (w32 ((i : Int) + 1)), Vi (e : Int), Vi (w : Int)]) (S' := []) (h' := ((SHv st dr rd), (ovl (updC a (u + 7) m v) s b))) (fun _ => rfl) ?_
                    rw [show (w32 ((i : Int) + 1)) = ((i : Int) + 1) from w32_id (by unfold R32; omega)]
                    refine Ev.steps (k := 1) (pc' := 9) (L' := [Vr ((u : Int) + 1), Vr ((y : Int) + 11), Vi f, Vi t, Vi (m : Int), Vi ((k : Int) + 1), Vi ((i : Int) + 1), Vi (e : Int), Vi (w : Int)]) (S' := []) (h' := ((SHv st dr rd), (ovl (updC a (u + 7) m v) s b))) (fun _ => rfl) ?_
                    first | exact K | (exfalso; omega)
                · refine Ev.ite (P := (e : Int) = 281) (k := 3) (a := 185) (b := 177) (L' := [Vr ((u : Int) + 1), Vr ((y : Int) + 11), Vi f, Vi t, Vi ((m : Int) + 1), Vi ((k : Int) + 1), Vi (i : Int), Vi (e : Int), Vi (w : Int)]) (S' := []) (h' := ((SHv st dr rd), (ovl a s b))) (fun _ => rfl) (fun b174 => ?_) (fun b174 => ?_)
                  · refine Ev.ite (P := ((m : Int) + 1) < 1) (k := 3) (a := 258) (b := 191) (L' := [Vr ((u : Int) + 1), Vr ((y : Int) + 11), Vi f, Vi t, Vi ((m : Int) + 1), Vi ((k : Int) + 1), Vi (i : Int), Vi (e : Int), Vi (w : Int)]) (S' := []) (h' := ((SHv st dr rd), (ovl a s b))) (fun _ => rfl) (fun b188 => ?_) (fun b188 => ?_)
                    · exfalso; omega
                    · refine Ev.steps (k := 1) (pc' := 192) (L' := [Vr ((u : Int) + 1), Vr ((y : Int) + 11), Vi f, Vi t, Vi ((m : Int) + 1), Vi ((k : Int) + 1), Vi (i : Int), Vi (e : Int), Vi (w : Int)]) (S' := [Vr ((u : Int) + 1)]) (h' := ((SHv st dr rd), (ovl a s b))) (fun _ => rfl) ?_
                      refine Ev.getr (r := ((u : Int) + 7)) rfl rfl (by omega) (shU_1 hu) rfl rfl rfl ?_
                      refine Ev.steps (k := 3) (pc' := 199) (L' := [Vr ((u : Int) + 1), Vr ((y : Int) + 11), Vi f, Vi t, Vi ((m : Int) + 1), Vi ((k : Int) + 1), Vi (i : Int), Vi (e : Int), Vi (w : Int)]) (S' := [Vi (w32 (((m : Int) + 1) - 1)), Vr ((u : Int) + 7)]) (h' := ((SHv st dr rd), (ovl a s b))) (fun _ => rfl) ?_
                      rw [show (w32 (((m : Int) + 1) - 1)) = (m : Int) from (by unfold w32; omega)]
                      refine Ev.steps (k := 3) (pc' := 203) (L' := [Vr ((u : Int) + 1), Vr ((y : Int) + 11), Vi f, Vi t, Vi ((m : Int) + 1), Vi ((k : Int) + 1), Vi (i : Int), Vi (e : Int), Vi (w : Int)]) (S' := [Vr ((u : Int) + 1), Vi (e : Int), Vr ((u : Int) + 1), Vi (m : Int), Vr ((u : Int) + 7)]) (h' := ((SHv st dr rd), (ovl a s b))) (fun _ => rfl) ?_
                      refine Ev.getr (r := ((u : Int) + 7)) rfl rfl (by omega) (shU_1 hu) rfl rfl rfl ?_
                      refine Ev.steps (k := 3) (pc' := 210) (L' := [Vr ((u : Int) + 1), Vr ((y : Int) + 11), Vi f, Vi t, Vi ((m : Int) + 1), Vi ((k : Int) + 1), Vi (i : Int), Vi (e : Int), Vi (w : Int)]) (S' := [Vi (w32 (((m : Int) + 1) - 1)), Vr ((u : Int) + 7), Vi (e : Int), Vr ((u : Int) + 1), Vi (m : Int), Vr ((u : Int) + 7)]) (h' := ((SHv st dr rd), (ovl a s b))) (fun _ => rfl) ?_
                      rw [show (w32 (((m : Int) + 1) - 1)) = (m : Int) from (by unfold w32; omega)]
                      refine Ev.iald (v := x) rfl (by omega) (shU_7 hu) (by omega) (by omega) ((ovl_rc (by omega)).trans (hx)) ?_
                      refine Ev.steps (k := 1) (pc' := 212) (L' := [Vr ((u : Int) + 1), Vr ((y : Int) + 11), Vi f, Vi t, Vi ((m : Int) + 1), Vi ((k : Int) + 1), Vi (i : Int), Vi (e : Int), Vi (w : Int)]) (S' := [Vr ((u : Int) + 1), Vi x, Vi (e : Int), Vr ((u : Int) + 1), Vi (m : Int), Vr ((u : Int) + 7)]) (h' := ((SHv st dr rd), (ovl a s b))) (fun _ => rfl) ?_
                      refine Ev.getr (r := ((u : Int) + 7)) rfl rfl (by omega) (shU_1 hu) rfl rfl rfl ?_
                      refine Ev.steps (k := 1) (pc' := 217) (L' := [Vr ((u : Int) + 1), Vr ((y : Int) + 11), Vi f, Vi t, Vi ((m : Int) + 1), Vi ((k : Int) + 1), Vi (i : Int), Vi (e : Int), Vi (w : Int)]) (S' := [Vi ((m : Int) + 1), Vr ((u : Int) + 7), Vi x, Vi (e : Int), Vr ((u : Int) + 1), Vi (m : Int), Vr ((u : Int) + 7)]) (h' := ((SHv st dr rd), (ovl a s b))) (fun _ => rfl) ?_
                      refine Ev.iald (v := x2) rfl (by omega) (shU_7 hu) (by omega) (by omega) ((ovl_rc (by omega)).trans (hx2)) ?_
                      refine Ev.call (k := 0) (pc1 := 218) (L1 := [Vr ((u : Int) + 1), Vr ((y : Int) + 11), Vi f, Vi t, Vi ((m : Int) + 1), Vi ((k : Int) + 1), Vi (i : Int), Vi (e : Int), Vi (w : Int)]) (S1 := [Vi x2, Vi x, Vi (e : Int), Vr ((u : Int) + 1), Vi (m : Int), Vr ((u : Int) + 7)]) (h1 := ((SHv st dr rd), (ovl a s b))) (m' := 84) (as := [Vr ((u : Int) + 1), Vi (e : Int), Vi x, Vi x2]) (S' := [Vi (m : Int), Vr ((u : Int) + 7)]) (L0 := [Vr ((u : Int) + 1), Vi (e : Int), Vi x, Vi x2]) (fun _ => rfl) rfl rfl rfl rfl (stpC_of rfl (pm_recv_of (by omega) (shU_1 hu))) rfl (hjn) (fun r h' hq => ?_)
                      obtain ⟨rfl, rfl⟩ := hq
                      show Ev X _ _ 221 [Vr ((u : Int) + 1), Vr ((y : Int) + 11), Vi f, Vi t, Vi ((m : Int) + 1), Vi ((k : Int) + 1), Vi (i : Int), Vi (e : Int), Vi (w : Int)] [Vi v, Vi (m : Int), Vr ((u : Int) + 7)] ((SHv st dr rd), (ovl a s b)) _
                      refine Ev.iast (c' := (ovl (updC a (u + 7) m v) s b)) rfl (by omega) (shU_7 hu) (by omega) (by omega) (ovl_wc (by omega)) ?_
                      refine Ev.steps (k := 1) (pc' := 225) (L' := [Vr ((u : Int) + 1), Vr ((y : Int) + 11), Vi f, Vi t, Vi (w32 (((m : Int) + 1) + (-1))), Vi ((k : Int) + 1), Vi (i : Int), Vi (e : Int), Vi (w : Int)]) (S' := []) (h' := ((SHv st dr rd), (ovl (updC a (u + 7) m v) s b))) (fun _ => rfl) ?_
                      rw [show (w32 (((m : Int) + 1) + (-1))) = (m : Int) from (by unfold w32; omega)]
                      refine Ev.steps (k := 2) (pc' := 261) (L' := [Vr ((u : Int) + 1), Vr ((y : Int) + 11), Vi f, Vi t, Vi (m : Int), Vi ((k : Int) + 1), Vi (w32 ((i : Int) + 1)), Vi (e : Int), Vi (w : Int)]) (S' := []) (h' := ((SHv st dr rd), (ovl (updC a (u + 7) m v) s b))) (fun _ => rfl) ?_
                      rw [show (w32 ((i : Int) + 1)) = ((i : Int) + 1) from w32_id (by unfold R32; omega)]
                      refine Ev.steps (k := 1) (pc' := 9) (L' := [Vr ((u : Int) + 1), Vr ((y : Int) + 11), Vi f, Vi t, Vi (m : Int), Vi ((k : Int) + 1), Vi ((i : Int) + 1), Vi (e : Int), Vi (w : Int)]) (S' := []) (h' := ((SHv st dr rd), (ovl (updC a (u + 7) m v) s b))) (fun _ => rfl) ?_
                      first | exact K | (exfalso; omega)
                  · refine Ev.ite (P := (e : Int) ≠ 282) (k := 3) (a := 228) (b := 185) (L' := [Vr ((u : Int) + 1), Vr ((y : Int) + 11), Vi f, Vi t, Vi ((m : Int) + 1), Vi ((k : Int) + 1), Vi (i : Int), Vi (e : Int), Vi (w : Int)]) (S' := []) (h' := ((SHv st dr rd), (ovl a s b))) (fun _ => rfl) (fun b182 => ?_) (fun b182 => ?_)
                    · exfalso; omega
                    · refine Ev.ite (P := ((m : Int) + 1) < 1) (k := 3) (a := 258) (b := 191) (L' := [Vr ((u : Int) + 1), Vr ((y : Int) + 11), Vi f, Vi t, Vi ((m : Int) + 1), Vi ((k : Int) + 1), Vi (i : Int), Vi (e : Int), Vi (w : Int)]) (S' := []) (h' := ((SHv st dr rd), (ovl a s b))) (fun _ => rfl) (fun b188 => ?_) (fun b188 => ?_)
                      · exfalso; omega
                      · refine Ev.steps (k := 1) (pc' := 192) (L' := [Vr ((u : Int) + 1), Vr ((y : Int) + 11), Vi f, Vi t, Vi ((m : Int) + 1), Vi ((k : Int) + 1), Vi (i : Int), Vi (e : Int), Vi (w : Int)]) (S' := [Vr ((u : Int) + 1)]) (h' := ((SHv st dr rd), (ovl a s b))) (fun _ => rfl) ?_
                        refine Ev.getr (r := ((u : Int) + 7)) rfl rfl (by omega) (shU_1 hu) rfl rfl rfl ?_
                        refine Ev.steps (k := 3) (pc' := 199) (L' := [Vr ((u : Int) + 1), Vr ((y : Int) + 11), Vi f, Vi t, Vi ((m : Int) + 1), Vi ((k : Int) + 1), Vi (i : Int), Vi (e : Int), Vi (w : Int)]) (S' := [Vi (w32 (((m : Int) + 1) - 1)), Vr ((u : Int) + 7)]) (h' := ((SHv st dr rd), (ovl a s b))) (fun _ => rfl) ?_
                        rw [show (w32 (((m : Int) + 1) - 1)) = (m : Int) from (by unfold w32; omega)]
                        refine Ev.steps (k := 3) (pc' := 203) (L' := [Vr ((u : Int) + 1), Vr ((y : Int) + 11), Vi f, Vi t, Vi ((m : Int) + 1), Vi ((k : Int) + 1), Vi (i : Int), Vi (e : Int), Vi (w : Int)]) (S' := [Vr ((u : Int) + 1), Vi (e : Int), Vr ((u : Int) + 1), Vi (m : Int), Vr ((u : Int) + 7)]) (h' := ((SHv st dr rd), (ovl a s b))) (fun _ => rfl) ?_
                        refine Ev.getr (r := ((u : Int) + 7)) rfl rfl (by omega) (shU_1 hu) rfl rfl rfl ?_
                        refine Ev.steps (k := 3) (pc' := 210) (L' := [Vr ((u : Int) + 1), Vr ((y : Int) + 11), Vi f, Vi t, Vi ((m : Int) + 1), Vi ((k : Int) + 1), Vi (i : Int), Vi (e : Int), Vi (w : Int)]) (S' := [Vi (w32 (((m : Int) + 1) - 1)), Vr ((u : Int) + 7), Vi (e : Int), Vr ((u : Int) + 1), Vi (m : Int), Vr ((u : Int) + 7)]) (h' := ((SHv st dr rd), (ovl a s b))) (fun _ => rfl) ?_
                        rw [show (w32 (((m : Int) + 1) - 1)) = (m : Int) from (by unfold w32; omega)]
                        refine Ev.iald (v := x) rfl (by omega) (shU_7 hu) (by omega) (by omega) ((ovl_rc (by omega)).trans (hx)) ?_
                        refine Ev.steps (k := 1) (pc' := 212) (L' := [Vr ((u : Int) + 1), Vr ((y : Int) + 11), Vi f, Vi t, Vi ((m : Int) + 1), Vi ((k : Int) + 1), Vi (i : Int), Vi (e : Int), Vi (w : Int)]) (S' := [Vr ((u : Int) + 1), Vi x, Vi (e : Int), Vr ((u : Int) + 1), Vi (m : Int), Vr ((u : Int) + 7)]) (h' := ((SHv st dr rd), (ovl a s b))) (fun _ => rfl) ?_
                        refine Ev.getr (r := ((u : Int) + 7)) rfl rfl (by omega) (shU_1 hu) rfl rfl rfl ?_
                        refine Ev.steps (k := 1) (pc' := 217) (L' := [Vr ((u : Int) + 1), Vr ((y : Int) + 11), Vi f, Vi t, Vi ((m : Int) + 1), Vi ((k : Int) + 1), Vi (i : Int), Vi (e : Int), Vi (w : Int)]) (S' := [Vi ((m : Int) + 1), Vr ((u : Int) + 7), Vi x, Vi (e : Int), Vr ((u : Int) + 1), Vi (m : Int), Vr ((u : Int) + 7)]) (h' := ((SHv st dr rd), (ovl a s b))) (fun _ => rfl) ?_
                        refine Ev.iald (v := x2) rfl (by omega) (shU_7 hu) (by omega) (by omega) ((ovl_rc (by omega)).trans (hx2)) ?_
                        refine Ev.call (k := 0) (pc1 := 218) (L1 := [Vr ((u : Int) + 1), Vr ((y : Int) + 11), Vi f, Vi t, Vi ((m : Int) + 1), Vi ((k : Int) + 1), Vi (i : Int), Vi (e : Int), Vi (w : Int)]) (S1 := [Vi x2, Vi x, Vi (e : Int), Vr ((u : Int) + 1), Vi (m : Int), Vr ((u : Int) + 7)]) (h1 := ((SHv st dr rd), (ovl a s b))) (m' := 84) (as := [Vr ((u : Int) + 1), Vi (e : Int), Vi x, Vi x2]) (S' := [Vi (m : Int), Vr ((u : Int) + 7)]) (L0 := [Vr ((u : Int) + 1), Vi (e : Int), Vi x, Vi x2]) (fun _ => rfl) rfl rfl rfl rfl (stpC_of rfl (pm_recv_of (by omega) (shU_1 hu))) rfl (hjn) (fun r h' hq => ?_)
                        obtain ⟨rfl, rfl⟩ := hq
                        show Ev X _ _ 221 [Vr ((u : Int) + 1), Vr ((y : Int) + 11), Vi f, Vi t, Vi ((m : Int) + 1), Vi ((k : Int) + 1), Vi (i : Int), Vi (e : Int), Vi (w : Int)] [Vi v, Vi (m : Int), Vr ((u : Int) + 7)] ((SHv st dr rd), (ovl a s b)) _
                        refine Ev.iast (c' := (ovl (updC a (u + 7) m v) s b)) rfl (by omega) (shU_7 hu) (by omega) (by omega) (ovl_wc (by omega)) ?_
                        refine Ev.steps (k := 1) (pc' := 225) (L' := [Vr ((u : Int) + 1), Vr ((y : Int) + 11), Vi f, Vi t, Vi (w32 (((m : Int) + 1) + (-1))), Vi ((k : Int) + 1), Vi (i : Int), Vi (e : Int), Vi (w : Int)]) (S' := []) (h' := ((SHv st dr rd), (ovl (updC a (u + 7) m v) s b))) (fun _ => rfl) ?_
                        rw [show (w32 (((m : Int) + 1) + (-1))) = (m : Int) from (by unfold w32; omega)]
                        refine Ev.steps (k := 2) (pc' := 261) (L' := [Vr ((u : Int) + 1), Vr ((y : Int) + 11), Vi f, Vi t, Vi (m : Int), Vi ((k : Int) + 1), Vi (w32 ((i : Int) + 1)), Vi (e : Int), Vi (w : Int)]) (S' := []) (h' := ((SHv st dr rd), (ovl (updC a (u + 7) m v) s b))) (fun _ => rfl) ?_
                        rw [show (w32 ((i : Int) + 1)) = ((i : Int) + 1) from w32_id (by unfold R32; omega)]
                        refine Ev.steps (k := 1) (pc' := 9) (L' := [Vr ((u : Int) + 1), Vr ((y : Int) + 11), Vi f, Vi t, Vi (m : Int), Vi ((k : Int) + 1), Vi ((i : Int) + 1), Vi (e : Int), Vi (w : Int)]) (S' := []) (h' := ((SHv st dr rd), (ovl (updC a (u + 7) m v) s b))) (fun _ => rfl) ?_
                        first | exact K | (exfalso; omega)
              · exfalso; omega
            · exfalso; omega
theorem w_jmp {X : List Int} {d : Nat} {st dr rd : Int} {a s b : C3} {u : Nat} (hu : huS u) {y : Nat} (hy : hyS y) (f t : Int) (k i : Nat) (z7 z8 : pm_V) (e w : Nat) (he5 : e < 512) (hw : w < 10000) (hcode : a (y + 11) k = ((e + 512 * w : Nat) : Int)) (hk : (k : Int) < t) (ht : t ≤ 1200) (hi : i ≤ k) {Q : Option pm_V → pm_H → Prop} (m : Nat) (hm : m < 48) (x : Int) (hx : a (u + 7) m = x) (he : (e = 269 ∧ x ≠ 0) ∨ (e = 270 ∧ x = 0)) (K : Ev X (d + 3) 82 9 [Vr ((u : Int) + 1), Vr ((y : Int) + 11), Vi f, Vi t, Vi (m : Int), Vi (w : Int), Vi ((i : Int) + 1), Vi (e : Int), Vi (w : Int)] [] (SHv st dr rd, ovl a s b) Q) : Ev X (d + 3) 82 9 [Vr ((u : Int) + 1), Vr ((y : Int) + 11), Vi f, Vi t, Vi (m : Int), Vi (k : Int), Vi (i : Int), z7, z8] [] (SHv st dr rd, ovl a s b) Q := by
  have hu0 : u = 119 ∨ u = 142 := hu
  have hy0 : y = 2 ∨ y = 58 := hy
  refine Ev.ite (P := 1200 ≤ (i : Int)) (k := 3) (a := 264) (b := 17) (L' := [Vr ((u : Int) + 1), Vr ((y : Int) + 11), Vi f, Vi t, Vi (m : Int), Vi (k : Int), Vi (i : Int), z7, z8]) (S' := []) (h' := ((SHv st dr rd), (ovl a s b))) (fun _ => rfl) (fun b14 => ?_) (fun b14 => ?_)
  · exfalso; omega
  · refine Ev.ite (P := (k : Int) < 0) (k := 2) (a := 264) (b := 22) (L' := [Vr ((u : Int) + 1), Vr ((y : Int) + 11), Vi f, Vi t, Vi (m : Int), Vi (k : Int), Vi (i : Int), z7, z8]) (S' := []) (h' := ((SHv st dr rd), (ovl a s b))) (fun _ => rfl) (fun b19 => ?_) (fun b19 => ?_)
    · exfalso; omega
    · refine Ev.ite (P := t ≤ (k : Int)) (k := 3) (a := 264) (b := 28) (L' := [Vr ((u : Int) + 1), Vr ((y : Int) + 11), Vi f, Vi t, Vi (m : Int), Vi (k : Int), Vi (i : Int), z7, z8]) (S' := []) (h' := ((SHv st dr rd), (ovl a s b))) (fun _ => rfl) (fun b25 => ?_) (fun b25 => ?_)
      · exfalso; omega
      · refine Ev.steps (k := 2) (pc' := 31) (L' := [Vr ((u : Int) + 1), Vr ((y : Int) + 11), Vi f, Vi t, Vi (m : Int), Vi (k : Int), Vi (i : Int), z7, z8]) (S' := [Vr ((y : Int) + 11), Vi (k : Int)]) (h' := ((SHv st dr rd), (ovl a s b))) (fun _ => rfl) ?_
        refine Ev.alen (v := 1200) rfl (by omega) (shY_11 hy) rfl rfl ?_
        refine Ev.ite (P := 1200 ≤ (k : Int)) (k := 1) (a := 264) (b := 35) (L' := [Vr ((u : Int) + 1), Vr ((y : Int) + 11), Vi f, Vi t, Vi (m : Int), Vi (k : Int), Vi (i : Int), z7, z8]) (S' := []) (h' := ((SHv st dr rd), (ovl a s b))) (fun _ => rfl) (fun b32 => ?_) (fun b32 => ?_)
        · exfalso; omega
        · refine Ev.steps (k := 2) (pc' := 38) (L' := [Vr ((u : Int) + 1), Vr ((y : Int) + 11), Vi f, Vi t, Vi (m : Int), Vi (k : Int), Vi (i : Int), z7, z8]) (S' := [Vi (k : Int), Vr ((y : Int) + 11)]) (h' := ((SHv st dr rd), (ovl a s b))) (fun _ => rfl) ?_
          refine Ev.iald (v := ((e + 512 * w : Nat) : Int)) rfl (by omega) (shY_11 hy) (by omega) (by omega) ((ovl_rc (by omega)).trans (hcode)) ?_
          refine Ev.steps (k := 2) (pc' := 43) (L' := [Vr ((u : Int) + 1), Vr ((y : Int) + 11), Vi f, Vi t, Vi (m : Int), Vi (k : Int), Vi (i : Int), z7, z8]) (S' := [Vi (i_and ((e + 512 * w : Nat) : Int) 511)]) (h' := ((SHv st dr rd), (ovl a s b))) (fun _ => rfl) ?_
          rw [show (i_and ((e + 512 * w : Nat) : Int) 511) = (e : Int) from wd_e he5 hw]
          refine Ev.steps (k := 3) (pc' := 48) (L' := [Vr ((u : Int) + 1), Vr ((y : Int) + 11), Vi f, Vi t, Vi (m : Int), Vi (k : Int), Vi (i : Int), Vi (e : Int), z8]) (S' := [Vi (k : Int), Vr ((y : Int) + 11)]) (h' := ((SHv st dr rd), (ovl a s b))) (fun _ => rfl) ?_
          refine Ev.iald (v := ((e + 512 * w : Nat) : Int)) rfl (by omega) (shY_11 hy) (by omega) (by omega) ((ovl_rc (by omega)).trans (hcode)) ?_
          refine Ev.steps (k := 2) (pc' := 52) (L' := [Vr ((u : Int) + 1), Vr ((y : Int) + 11), Vi f, Vi t, Vi (m : Int), Vi (k : Int), Vi (i : Int), Vi (e : Int), z8]) (S' := [Vi (i_ushr ((e + 512 * w : Nat) : Int) 9)]) (h' := ((SHv st dr rd), (ovl a s b))) (fun _ => rfl) ?_
          rw [show (i_ushr ((e + 512 * w : Nat) : Int) 9) = (w : Int) from wd_w he5 hw]
          refine Ev.steps (k := 2) (pc' := 57) (L' := [Vr ((u : Int) + 1), Vr ((y : Int) + 11), Vi f, Vi t, Vi (m : Int), Vi (w32 ((k : Int) + 1)), Vi (i : Int), Vi (e : Int), Vi (w : Int)]) (S' := []) (h' := ((SHv st dr rd), (ovl a s b))) (fun _ => rfl) ?_
          rw [show (w32 ((k : Int) + 1)) = ((k : Int) + 1) from w32_id (by unfold R32; omega)]
          refine Ev.ite (P := (e : Int) = 269) (k := 3) (a := 73) (b := 65) (L' := [Vr ((u : Int) + 1), Vr ((y : Int) + 11), Vi f, Vi t, Vi (m : Int), Vi ((k : Int) + 1), Vi (i : Int), Vi (e : Int), Vi (w : Int)]) (S' := []) (h' := ((SHv st dr rd), (ovl a s b))) (fun _ => rfl) (fun b62 => ?_) (fun b62 => ?_)
          · refine Ev.ite (P := (m : Int) < 0) (k := 2) (a := 116) (b := 78) (L' := [Vr ((u : Int) + 1), Vr ((y : Int) + 11), Vi f, Vi t, Vi (m : Int), Vi ((k : Int) + 1), Vi (i : Int), Vi (e : Int), Vi (w : Int)]) (S' := []) (h' := ((SHv st dr rd), (ovl a s b))) (fun _ => rfl) (fun b75 => ?_) (fun b75 => ?_)
            · exfalso; omega
            · refine Ev.steps (k := 1) (pc' := 79) (L' := [Vr ((u : Int) + 1), Vr ((y : Int) + 11), Vi f, Vi t, Vi (m : Int), Vi ((k : Int) + 1), Vi (i : Int), Vi (e : Int), Vi (w : Int)]) (S' := [Vr ((u : Int) + 1)]) (h' := ((SHv st dr rd), (ovl a s b))) (fun _ => rfl) ?_
              refine Ev.getr (r := ((u : Int) + 7)) rfl rfl (by omega) (shU_1 hu) rfl rfl rfl ?_
              refine Ev.steps (k := 1) (pc' := 84) (L' := [Vr ((u : Int) + 1), Vr ((y : Int) + 11), Vi f, Vi t, Vi (m : Int), Vi ((k : Int) + 1), Vi (i : Int), Vi (e : Int), Vi (w : Int)]) (S' := [Vi (m : Int), Vr ((u : Int) + 7)]) (h' := ((SHv st dr rd), (ovl a s b))) (fun _ => rfl) ?_
              refine Ev.iald (v := x) rfl (by omega) (shU_7 hu) (by omega) (by omega) ((ovl_rc (by omega)).trans (hx)) ?_
              refine Ev.ite (P := x = 0) (k := 1) (a := 92) (b := 88) (L' := [Vr ((u : Int) + 1), Vr ((y : Int) + 11), Vi f, Vi t, Vi (m : Int), Vi ((k : Int) + 1), Vi (i : Int), Vi (e : Int), Vi (w : Int)]) (S' := []) (h' := ((SHv st dr rd), (ovl a s b))) (fun _ => rfl) (fun b85 => ?_) (fun b85 => ?_)
              · refine Ev.ite (P := (e : Int) ≠ 269) (k := 4) (a := 105) (b := 101) (L' := [Vr ((u : Int) + 1), Vr ((y : Int) + 11), Vi f, Vi t, Vi (m : Int), Vi ((k : Int) + 1), Vi (i : Int), Vi (e : Int), Vi (w : Int)]) (S' := [Vi 0]) (h' := ((SHv st dr rd), (ovl a s b))) (fun _ => rfl) (fun b98 => ?_) (fun b98 => ?_)
                · refine Ev.steps (k := 6) (pc' := 261) (L' := [Vr ((u : Int) + 1), Vr ((y : Int) + 11), Vi f, Vi t, Vi (m : Int), Vi (w : Int), Vi (w32 ((i : Int) + 1)), Vi (e : Int), Vi (w : Int)]) (S' := []) (h' := ((SHv st dr rd), (ovl a s b))) (fun _ => rfl) ?_
                  rw [show (w32 ((i : Int) + 1)) = ((i : Int) + 1) from w32_id (by unfold R32; omega)]
                  refine Ev.steps (k := 1) (pc' := 9) (L' := [Vr ((u : Int) + 1), Vr ((y : Int) + 11), Vi f, Vi t, Vi (m : Int), Vi (w : Int), Vi ((i : Int) + 1), Vi (e : Int), Vi (w : Int)]) (S' := []) (h' := ((SHv st dr rd), (ovl a s b))) (fun _ => rfl) ?_
                  first | exact K | (exfalso; omega)
                · refine Ev.steps (k := 3) (pc' := 116) (L' := [Vr ((u : Int) + 1), Vr ((y : Int) + 11), Vi f, Vi t, Vi (m : Int), Vi ((k : Int) + 1), Vi (i : Int), Vi (e : Int), Vi (w : Int)]) (S' := []) (h' := ((SHv st dr rd), (ovl a s b))) (fun _ => rfl) ?_
                  exfalso; omega
              · refine Ev.ite (P := (e : Int) ≠ 269) (k := 5) (a := 105) (b := 101) (L' := [Vr ((u : Int) + 1), Vr ((y : Int) + 11), Vi f, Vi t, Vi (m : Int), Vi ((k : Int) + 1), Vi (i : Int), Vi (e : Int), Vi (w : Int)]) (S' := [Vi 1]) (h' := ((SHv st dr rd), (ovl a s b))) (fun _ => rfl) (fun b98 => ?_) (fun b98 => ?_)
                · refine Ev.steps (k := 2) (pc' := 116) (L' := [Vr ((u : Int) + 1), Vr ((y : Int) + 11), Vi f, Vi t, Vi (m : Int), Vi ((k : Int) + 1), Vi (i : Int), Vi (e : Int), Vi (w : Int)]) (S' := []) (h' := ((SHv st dr rd), (ovl a s b))) (fun _ => rfl) ?_
                  exfalso; omega
                · refine Ev.steps (k := 7) (pc' := 261) (L' := [Vr ((u : Int) + 1), Vr ((y : Int) + 11), Vi f, Vi t, Vi (m : Int), Vi (w : Int), Vi (w32 ((i : Int) + 1)), Vi (e : Int), Vi (w : Int)]) (S' := []) (h' := ((SHv st dr rd), (ovl a s b))) (fun _ => rfl) ?_
                  rw [show (w32 ((i : Int) + 1)) = ((i : Int) + 1) from w32_id (by unfold R32; omega)]
                  refine Ev.steps (k := 1) (pc' := 9) (L' := [Vr ((u : Int) + 1), Vr ((y : Int) + 11), Vi f, Vi t, Vi (m : Int), Vi (w : Int), Vi ((i : Int) + 1), Vi (e : Int), Vi (w : Int)]) (S' := []) (h' := ((SHv st dr rd), (ovl a s b))) (fun _ => rfl) ?_
                  first | exact K | (exfalso; omega)
          · refine Ev.ite (P := (e : Int) ≠ 270) (k := 3) (a := 129) (b := 73) (L' := [Vr ((u : Int) + 1), Vr ((y : Int) + 11), Vi f, Vi t, Vi (m : Int), Vi ((k : Int) + 1), Vi (i : Int), Vi (e : Int), Vi (w : Int)]) (S' := []) (h' := ((SHv st dr rd), (ovl a s b))) (fun _ => rfl) (fun b70 => ?_) (fun b70 => ?_)
            · exfalso; omega
            · refine Ev.ite (P := (m : Int) < 0) (k := 2) (a := 116) (b := 78) (L' := [Vr ((u : Int) + 1), Vr ((y : Int) + 11), Vi f, Vi t, Vi (m : Int), Vi ((k : Int) + 1), Vi (i : Int), Vi (e : Int), Vi (w : Int)]) (S' := []) (h' := ((SHv st dr rd), (ovl a s b))) (fun _ => rfl) (fun b75 => ?_) (fun b75 => ?_)
              · exfalso; omega
              · refine Ev.steps (k := 1) (pc' := 79) (L' := [Vr ((u : Int) + 1), Vr ((y : Int) + 11), Vi f, Vi t, Vi (m : Int), Vi ((k : Int) + 1), Vi (i : Int), Vi (e : Int), Vi (w : Int)]) (S' := [Vr ((u : Int) + 1)]) (h' := ((SHv st dr rd), (ovl a s b))) (fun _ => rfl) ?_
                refine Ev.getr (r := ((u : Int) + 7)) rfl rfl (by omega) (shU_1 hu) rfl rfl rfl ?_
                refine Ev.steps (k := 1) (pc' := 84) (L' := [Vr ((u : Int) + 1), Vr ((y : Int) + 11), Vi f, Vi t, Vi (m : Int), Vi ((k : Int) + 1), Vi (i : Int), Vi (e : Int), Vi (w : Int)]) (S' := [Vi (m : Int), Vr ((u : Int) + 7)]) (h' := ((SHv st dr rd), (ovl a s b))) (fun _ => rfl) ?_
                refine Ev.iald (v := x) rfl (by omega) (shU_7 hu) (by omega) (by omega) ((ovl_rc (by omega)).trans (hx)) ?_
                refine Ev.ite (P := x = 0) (k := 1) (a := 92) (b := 88) (L' := [Vr ((u : Int) + 1), Vr ((y : Int) + 11), Vi f, Vi t, Vi (m : Int), Vi ((k : Int) + 1), Vi (i : Int), Vi (e : Int), Vi (w : Int)]) (S' := []) (h' := ((SHv st dr rd), (ovl a s b))) (fun _ => rfl) (fun b85 => ?_) (fun b85 => ?_)
                · refine Ev.ite (P := (e : Int) ≠ 269) (k := 4) (a := 105) (b := 101) (L' := [Vr ((u : Int) + 1), Vr ((y : Int) + 11), Vi f, Vi t, Vi (m : Int), Vi ((k : Int) + 1), Vi (i : Int), Vi (e : Int), Vi (w : Int)]) (S' := [Vi 0]) (h' := ((SHv st dr rd), (ovl a s b))) (fun _ => rfl) (fun b98 => ?_) (fun b98 => ?_)
                  · refine Ev.steps (k := 6) (pc' := 261) (L' := [Vr ((u : Int) + 1), Vr ((y : Int) + 11), Vi f, Vi t, Vi (m : Int), Vi (w : Int), Vi (w32 ((i : Int) + 1)), Vi (e : Int), Vi (w : Int)]) (S' := []) (h' := ((SHv st dr rd), (ovl a s b))) (fun _ => rfl) ?_
                    rw [show (w32 ((i : Int) + 1)) = ((i : Int) + 1) from w32_id (by unfold R32; omega)]
                    refine Ev.steps (k := 1) (pc' := 9) (L' := [Vr ((u : Int) + 1), Vr ((y : Int) + 11), Vi f, Vi t, Vi (m : Int), Vi (w : Int), Vi ((i : Int) + 1), Vi (e : Int), Vi (w : Int)]) (S' := []) (h' := ((SHv st dr rd), (ovl a s b))) (fun _ => rfl) ?_
                    first | exact K | (exfalso; omega)
                  · refine Ev.steps (k := 3) (pc' := 116) (L' := [Vr ((u : Int) + 1), Vr ((y : Int) + 11), Vi f, Vi t, Vi (m : Int), Vi ((k : Int) + 1), Vi (i : Int), Vi (e : Int), Vi (w : Int)]) (S' := []) (h' := ((SHv st dr rd), (ovl a s b))) (fun _ => rfl) ?_
                    exfalso; omega
                · refine Ev.ite (P := (e : Int) ≠ 269) (k := 5) (a := 105) (b := 101) (L' := [Vr ((u : Int) + 1), Vr ((y : Int) + 11), Vi f, Vi t, Vi (m : Int), Vi ((k : Int) + 1), Vi (i : Int), Vi (e : Int), Vi (w : Int)]) (S' := [Vi 1]) (h' := ((SHv st dr rd), (ovl a s b))) (fun _ => rfl) (fun b98 => ?_) (fun b98 => ?_)
                  · refine Ev.steps (k := 2) (pc' := 116) (L' := [Vr ((u : Int) + 1), Vr ((y : Int) + 11), Vi f, Vi t, Vi (m : Int), Vi ((k : Int) + 1), Vi (i : Int), Vi (e : Int), Vi (w : Int)]) (S' := []) (h' := ((SHv st dr rd), (ovl a s b))) (fun _ => rfl) ?_
                    exfalso; omega
                  · refine Ev.steps (k := 7) (pc' := 261) (L' := [Vr ((u : Int) + 1), Vr ((y : Int) + 11), Vi f, Vi t, Vi (m : Int), Vi (w : Int), Vi (w32 ((i : Int) + 1)), Vi (e : Int), Vi (w : Int)]) (S' := []) (h' := ((SHv st dr rd), (ovl a s b))) (fun _ => rfl) ?_
                    rw [show (w32 ((i : Int) + 1)) = ((i : Int) + 1) from w32_id (by unfold R32; omega)]
                    refine Ev.steps (k := 1) (pc' := 9) (L' := [Vr ((u : Int) + 1), Vr ((y : Int) + 11), Vi f, Vi t, Vi (m : Int), Vi (w : Int), Vi ((i : Int) + 1), Vi (e : Int), Vi (w : Int)]) (S' := []) (h' := ((SHv st dr rd), (ovl a s b))) (fun _ => rfl) ?_
                    first | exact K | (exfalso; omega)
theorem w_fal {X : List Int} {d : Nat} {st dr rd : Int} {a s b : C3} {u : Nat} (hu : huS u) {y : Nat} (hy : hyS y) (f t : Int) (k i : Nat) (z7 z8 : pm_V) (e w : Nat) (he5 : e < 512) (hw : w < 10000) (hcode : a (y + 11) k = ((e + 512 * w : Nat) : Int)) (hk : (k : Int) < t) (ht : t ≤ 1200) (hi : i ≤ k) {Q : Option pm_V → pm_H → Prop} (m : Nat) (hm : m < 48) (x : Int) (hx : a (u + 7) m = x) (he : (e = 269 ∧ x = 0) ∨ (e = 270 ∧ x ≠ 0)) (K : Ev X (d + 3) 82 9 [Vr ((u : Int) + 1), Vr ((y : Int) + 11), Vi f, Vi t, Vi ((m : Int) - 1), Vi ((k : Int) + 1), Vi ((i : Int) + 1), Vi (e : Int), Vi (w : Int)] [] (SHv st dr rd, ovl a s b) Q) : Ev X (d + 3) 82 9 [Vr ((u : Int) + 1), Vr ((y : Int) + 11), Vi f, Vi t, Vi (m : Int), Vi (k : Int), Vi (i : Int), z7, z8] [] (SHv st dr rd, ovl a s b) Q := by
  have hu0 : u = 119 ∨ u = 142 := hu
  have hy0 : y = 2 ∨ y = 58 := hy
  refine Ev.ite (P := 1200 ≤ (i : Int)) (k := 3) (a := 264) (b := 17) (L' := [Vr ((u : Int) + 1), Vr ((y : Int) + 11), Vi f, Vi t, Vi (m : Int), Vi (k : Int), Vi (i : Int), z7, z8]) (S' := []) (h' := ((SHv st dr rd), (ovl a s b))) (fun _ => rfl) (fun b14 => ?_) (fun b14 => ?_)
  · exfalso; omega
  · refine Ev.ite (P := (k : Int) < 0) (k := 2) (a := 264) (b := 22) (L' := [Vr ((u : Int) + 1), Vr ((y : Int) + 11), Vi f, Vi t, Vi (m : Int), Vi (k : Int), Vi (i : Int), z7, z8]) (S' := []) (h' := ((SHv st dr rd), (ovl a s b))) (fun _ => rfl) (fun b19 => ?_) (fun b19 => ?_)
    · exfalso; omega
    · refine Ev.ite (P := t ≤ (k : Int)) (k := 3) (a := 264) (b := 28) (L' := [Vr ((u : Int) + 1), Vr ((y : Int) + 11), Vi f, Vi t, Vi (m : Int), Vi (k : Int), Vi (i : Int), z7, z8]) (S' := []) (h' := ((SHv st dr rd), (ovl a s b))) (fun _ => rfl) (fun b25 => ?_) (fun b25 => ?_)
      · exfalso; omega
      · refine Ev.steps (k := 2) (pc' := 31) (L' := [Vr ((u : Int) + 1), Vr ((y : Int) + 11), Vi f, Vi t, Vi (m : Int), Vi (k : Int), Vi (i : Int), z7, z8]) (S' := [Vr ((y : Int) + 11), Vi (k : Int)]) (h' := ((SHv st dr rd), (ovl a s b))) (fun _ => rfl) ?_
        refine Ev.alen (v := 1200) rfl (by omega) (shY_11 hy) rfl rfl ?_
        refine Ev.ite (P := 1200 ≤ (k : Int)) (k := 1) (a := 264) (b := 35) (L' := [Vr ((u : Int) + 1), Vr ((y : Int) + 11), Vi f, Vi t, Vi (m : Int), Vi (k : Int), Vi (i : Int), z7, z8]) (S' := []) (h' := ((SHv st dr rd), (ovl a s b))) (fun _ => rfl) (fun b32 => ?_) (fun b32 => ?_)
        · exfalso; omega
        · refine Ev.steps (k := 2) (pc' := 38) (L' := [Vr ((u : Int) + 1), Vr ((y : Int) + 11), Vi f, Vi t, Vi (m : Int), Vi (k : Int), Vi (i : Int), z7, z8]) (S' := [Vi (k : Int), Vr ((y : Int) + 11)]) (h' := ((SHv st dr rd), (ovl a s b))) (fun _ => rfl) ?_
          refine Ev.iald (v := ((e + 512 * w : Nat) : Int)) rfl (by omega) (shY_11 hy) (by omega) (by omega) ((ovl_rc (by omega)).trans (hcode)) ?_
          refine Ev.steps (k := 2) (pc' := 43) (L' := [Vr ((u : Int) + 1), Vr ((y : Int) + 11), Vi f, Vi t, Vi (m : Int), Vi (k : Int), Vi (i : Int), z7, z8]) (S' := [Vi (i_and ((e + 512 * w : Nat) : Int) 511)]) (h' := ((SHv st dr rd), (ovl a s b))) (fun _ => rfl) ?_
          rw [show (i_and ((e + 512 * w : Nat) : Int) 511) = (e : Int) from wd_e he5 hw]
          refine Ev.steps (k := 3) (pc' := 48) (L' := [Vr ((u : Int) + 1), Vr ((y : Int) + 11), Vi f, Vi t, Vi (m : Int), Vi (k : Int), Vi (i : Int), Vi (e : Int), z8]) (S' := [Vi (k : Int), Vr ((y : Int) + 11)]) (h' := ((SHv st dr rd), (ovl a s b))) (fun _ => rfl) ?_
          refine Ev.iald (v := ((e + 512 * w : Nat) : Int)) rfl (by omega) (shY_11 hy) (by omega) (by omega) ((ovl_rc (by omega)).trans (hcode)) ?_
          refine Ev.steps (k := 2) (pc' := 52) (L' := [Vr ((u : Int) + 1), Vr ((y : Int) + 11), Vi f, Vi t, Vi (m : Int), Vi (k : Int), Vi (i : Int), Vi (e : Int), z8]) (S' := [Vi (i_ushr ((e + 512 * w : Nat) : Int) 9)]) (h' := ((SHv st dr rd), (ovl a s b))) (fun _ => rfl) ?_
          rw [show (i_ushr ((e + 512 * w : Nat) : Int) 9) = (w : Int) from wd_w he5 hw]
          refine Ev.steps (k := 2) (pc' := 57) (L' := [Vr ((u : Int) + 1), Vr ((y : Int) + 11), Vi f, Vi t, Vi (m : Int), Vi (w32 ((k : Int) + 1)), Vi (i : Int), Vi (e : Int), Vi (w : Int)]) (S' := []) (h' := ((SHv st dr rd), (ovl a s b))) (fun _ => rfl) ?_
          rw [show (w32 ((k : Int) + 1)) = ((k : Int) + 1) from w32_id (by unfold R32; omega)]
          refine Ev.ite (P := (e : Int) = 269) (k := 3) (a := 73) (b := 65) (L' := [Vr ((u : Int) + 1), Vr ((y : Int) + 11), Vi f, Vi t, Vi (m : Int), Vi ((k : Int) + 1), Vi (i : Int), Vi (e : Int), Vi (w : Int)]) (S' := []) (h' := ((SHv st dr rd), (ovl a s b))) (fun _ => rfl) (fun b62 => ?_) (fun b62 => ?_)
          · refine Ev.ite (P := (m : Int) < 0) (k := 2) (a := 116) (b := 78) (L' := [Vr ((u : Int) + 1), Vr ((y : Int) + 11), Vi f, Vi t, Vi (m : Int), Vi ((k : Int) + 1), Vi (i : Int), Vi (e : Int), Vi (w : Int)]) (S' := []) (h' := ((SHv st dr rd), (ovl a s b))) (fun _ => rfl) (fun b75 => ?_) (fun b75 => ?_)
            · exfalso; omega
            · refine Ev.steps (k := 1) (pc' := 79) (L' := [Vr ((u : Int) + 1), Vr ((y : Int) + 11), Vi f, Vi t, Vi (m : Int), Vi ((k : Int) + 1), Vi (i : Int), Vi (e : Int), Vi (w : Int)]) (S' := [Vr ((u : Int) + 1)]) (h' := ((SHv st dr rd), (ovl a s b))) (fun _ => rfl) ?_
              refine Ev.getr (r := ((u : Int) + 7)) rfl rfl (by omega) (shU_1 hu) rfl rfl rfl ?_
              refine Ev.steps (k := 1) (pc' := 84) (L' := [Vr ((u : Int) + 1), Vr ((y : Int) + 11), Vi f, Vi t, Vi (m : Int), Vi ((k : Int) + 1), Vi (i : Int), Vi (e : Int), Vi (w : Int)]) (S' := [Vi (m : Int), Vr ((u : Int) + 7)]) (h' := ((SHv st dr rd), (ovl a s b))) (fun _ => rfl) ?_
              refine Ev.iald (v := x) rfl (by omega) (shU_7 hu) (by omega) (by omega) ((ovl_rc (by omega)).trans (hx)) ?_
              refine Ev.ite (P := x = 0) (k := 1) (a := 92) (b := 88) (L' := [Vr ((u : Int) + 1), Vr ((y : Int) + 11), Vi f, Vi t, Vi (m : Int), Vi ((k : Int) + 1), Vi (i : Int), Vi (e : Int), Vi (w : Int)]) (S' := []) (h' := ((SHv st dr rd), (ovl a s b))) (fun _ => rfl) (fun b85 => ?_) (fun b85 => ?_)
              · refine Ev.ite (P := (e : Int) ≠ 269) (k := 4) (a := 105) (b := 101) (L' := [Vr ((u : Int) + 1), Vr ((y : Int) + 11), Vi f, Vi t, Vi (m : Int), Vi ((k : Int) + 1), Vi (i : Int), Vi (e : Int), Vi (w : Int)]) (S' := [Vi 0]) (h' := ((SHv st dr rd), (ovl a s b))) (fun _ => rfl) (fun b98 => ?_) (fun b98 => ?_)
                · refine Ev.steps (k := 6) (pc' := 261) (L' := [Vr ((u : Int) + 1), Vr ((y : Int) + 11), Vi f, Vi t, Vi (m : Int), Vi (w : Int), Vi (w32 ((i : Int) + 1)), Vi (e : Int), Vi (w : Int)]) (S' := []) (h' := ((SHv st dr rd), (ovl a s b))) (fun _ => rfl) ?_
                  rw [show (w32 ((i : Int) + 1)) = ((i : Int) + 1) from w32_id (by unfold R32; omega)]
                  refine Ev.steps (k := 1) (pc' := 9) (L' := [Vr ((u : Int) + 1), Vr ((y : Int) + 11), Vi f, Vi t, Vi (m : Int), Vi (w : Int), Vi ((i : Int) + 1), Vi (e : Int), Vi (w : Int)]) (S' := []) (h' := ((SHv st dr rd), (ovl a s b))) (fun _ => rfl) ?_
                  first | exact K | (exfalso; omega)
                · refine Ev.steps (k := 6) (pc' := 120) (L' := [Vr ((u : Int) + 1), Vr ((y : Int) + 11), Vi f, Vi t, Vi (m : Int), Vi ((k : Int) + 1), Vi (i : Int), Vi (e : Int), Vi (w : Int)]) (S' := [Vi (w32 ((m : Int) - 1))]) (h' := ((SHv st dr rd), (ovl a s b))) (fun _ => rfl) ?_
                  rw [show (w32 ((m : Int) - 1)) = ((m : Int) - 1) from (by unfold w32; omega)]
                  refine Ev.call (k := 1) (pc1 := 121) (L1 := [Vr ((u : Int) + 1), Vr ((y : Int) + 11), Vi f, Vi t, Vi (m : Int), Vi ((k : Int) + 1), Vi (i : Int), Vi (e : Int), Vi (w : Int)]) (S1 := [Vi (-1), Vi ((m : Int) - 1)]) (h1 := ((SHv st dr rd), (ovl a s b))) (m' := 83) (as := [Vi ((m : Int) - 1), Vi (-1)]) (S' := []) (L0 := [Vi ((m : Int) - 1), Vi (-1)]) (fun _ => rfl) rfl rfl rfl rfl rfl rfl ((c_maxm m)) (fun r h' hq => ?_)
                  obtain ⟨rfl, rfl⟩ := hq
                  show Ev X _ _ 124 [Vr ((u : Int) + 1), Vr ((y : Int) + 11), Vi f, Vi t, Vi (m : Int), Vi ((k : Int) + 1), Vi (i : Int), Vi (e : Int), Vi (w : Int)] [Vi ((m : Int) - 1)] ((SHv st dr rd), (ovl a s b)) _
                  refine Ev.steps (k := 3) (pc' := 261) (L' := [Vr ((u : Int) + 1), Vr ((y : Int) + 11), Vi f, Vi t, Vi ((m : Int) - 1), Vi ((k : Int) + 1), Vi (w32 ((i : Int) + 1)), Vi (e : Int), Vi (w : Int)]) (S' := []) (h' := ((SHv st dr rd), (ovl a s b))) (fun _ => rfl) ?_
                  rw [show (w32 ((i : Int) + 1)) = ((i : Int) + 1) from w32_id (by unfold R32; omega)]
                  refine Ev.steps (k := 1) (pc' := 9) (L' := [Vr ((u : Int) + 1), Vr ((y : Int) + 11), Vi f, Vi t, Vi ((m : Int) - 1), Vi ((k : Int) + 1), Vi ((i : Int) + 1), Vi (e : Int), Vi (w : Int)]) (S' := []) (h' := ((SHv st dr rd), (ovl a s b))) (fun _ => rfl) ?_
                  first | exact K | (exfalso; omega)
              · refine Ev.ite (P := (e : Int) ≠ 269) (k := 5) (a := 105) (b := 101) (L' := [Vr ((u : Int) + 1), Vr ((y : Int) + 11), Vi f, Vi t, Vi (m : Int), Vi ((k : Int) + 1), Vi (i : Int), Vi (e : Int), Vi (w : Int)]) (S' := [Vi 1]) (h' := ((SHv st dr rd), (ovl a s b))) (fun _ => rfl) (fun b98 => ?_) (fun b98 => ?_)
                · refine Ev.steps (k := 5) (pc' := 120) (L' := [Vr ((u : Int) + 1), Vr ((y : Int) + 11), Vi f, Vi t, Vi (m : Int), Vi ((k : Int) + 1), Vi (i : Int), Vi (e : Int), Vi (w : Int)]) (S' := [Vi (w32 ((m : Int) - 1))]) (h' := ((SHv st dr rd), (ovl a s b))) (fun _ => rfl) ?_
                  rw [show (w32 ((m : Int) - 1)) = ((m : Int) - 1) from (by unfold w32; omega)]
                  refine Ev.call (k := 1) (pc1 := 121) (L1 := [Vr ((u : Int) + 1), Vr ((y : Int) + 11), Vi f, Vi t, Vi (m : Int), Vi ((k : Int) + 1), Vi (i : Int), Vi (e : Int), Vi (w : Int)]) (S1 := [Vi (-1), Vi ((m : Int) - 1)]) (h1 := ((SHv st dr rd), (ovl a s b))) (m' := 83) (as := [Vi ((m : Int) - 1), Vi (-1)]) (S' := []) (L0 := [Vi ((m : Int) - 1), Vi (-1)]) (fun _ => rfl) rfl rfl rfl rfl rfl rfl ((c_maxm m)) (fun r h' hq => ?_)
                  obtain ⟨rfl, rfl⟩ := hq
                  show Ev X _ _ 124 [Vr ((u : Int) + 1), Vr ((y : Int) + 11), Vi f, Vi t, Vi (m : Int), Vi ((k : Int) + 1), Vi (i : Int), Vi (e : Int), Vi (w : Int)] [Vi ((m : Int) - 1)] ((SHv st dr rd), (ovl a s b)) _
                  refine Ev.steps (k := 3) (pc' := 261) (L' := [Vr ((u : Int) + 1), Vr ((y : Int) + 11), Vi f, Vi t, Vi ((m : Int) - 1), Vi ((k : Int) + 1), Vi (w32 ((i : Int) + 1)), Vi (e : Int), Vi (w : Int)]) (S' := []) (h' := ((SHv st dr rd), (ovl a s b))) (fun _ => rfl) ?_
                  rw [show (w32 ((i : Int) + 1)) = ((i : Int) + 1) from w32_id (by unfold R32; omega)]
                  refine Ev.steps (k := 1) (pc' := 9) (L' := [Vr ((u : Int) + 1), Vr ((y : Int) + 11), Vi f, Vi t, Vi ((m : Int) - 1), Vi ((k : Int) + 1), Vi ((i : Int) + 1), Vi (e : Int), Vi (w : Int)]) (S' := []) (h' := ((SHv st dr rd), (ovl a s b))) (fun _ => rfl) ?_
                  first | exact K | (exfalso; omega)
                · refine Ev.steps (k := 7) (pc' := 261) (L' := [Vr ((u : Int) + 1), Vr ((y : Int) + 11), Vi f, Vi t, Vi (m : Int), Vi (w : Int), Vi (w32 ((i : Int) + 1)), Vi (e : Int), Vi (w : Int)]) (S' := []) (h' := ((SHv st dr rd), (ovl a s b))) (fun _ => rfl) ?_
                  rw [show (w32 ((i : Int) + 1)) = ((i : Int) + 1) from w32_id (by unfold R32; omega)]
                  refine Ev.steps (k := 1) (pc' := 9) (L' := [Vr ((u : Int) + 1), Vr ((y : Int) + 11), Vi f, Vi t, Vi (m : Int), Vi (w : Int), Vi ((i : Int) + 1), Vi (e : Int), Vi (w : Int)]) (S' := []) (h' := ((SHv st dr rd), (ovl a s b))) (fun _ => rfl) ?_
                  first | exact K | (exfalso; omega)
          · refine Ev.ite (P := (e : Int) ≠ 270) (k := 3) (a := 129) (b := 73) (L' := [Vr ((u : Int) + 1), Vr ((y : Int) + 11), Vi f, Vi t, Vi (m : Int), Vi ((k : Int) + 1), Vi (i : Int), Vi (e : Int), Vi (w : Int)]) (S' := []) (h' := ((SHv st dr rd), (ovl a s b))) (fun _ => rfl) (fun b70 => ?_) (fun b70 => ?_)
            · exfalso; omega
            · refine Ev.ite (P := (m : Int) < 0) (k := 2) (a := 116) (b := 78) (L' := [Vr ((u : Int) + 1), Vr ((y : Int) + 11), Vi f, Vi t, Vi (m : Int), Vi ((k : Int) + 1), Vi (i : Int), Vi (e : Int), Vi (w : Int)]) (S' := []) (h' := ((SHv st dr rd), (ovl a s b))) (fun _ => rfl) (fun b75 => ?_) (fun b75 => ?_)
              · exfalso; omega
              · refine Ev.steps (k := 1) (pc' := 79) (L' := [Vr ((u : Int) + 1), Vr ((y : Int) + 11), Vi f, Vi t, Vi (m : Int), Vi ((k : Int) + 1), Vi (i : Int), Vi (e : Int), Vi (w : Int)]) (S' := [Vr ((u : Int) + 1)]) (h' := ((SHv st dr rd), (ovl a s b))) (fun _ => rfl) ?_
                refine Ev.getr (r := ((u : Int) + 7)) rfl rfl (by omega) (shU_1 hu) rfl rfl rfl ?_
                refine Ev.steps (k := 1) (pc' := 84) (L' := [Vr ((u : Int) + 1), Vr ((y : Int) + 11), Vi f, Vi t, Vi (m : Int), Vi ((k : Int) + 1), Vi (i : Int), Vi (e : Int), Vi (w : Int)]) (S' := [Vi (m : Int), Vr ((u : Int) + 7)]) (h' := ((SHv st dr rd), (ovl a s b))) (fun _ => rfl) ?_
                refine Ev.iald (v := x) rfl (by omega) (shU_7 hu) (by omega) (by omega) ((ovl_rc (by omega)).trans (hx)) ?_
                refine Ev.ite (P := x = 0) (k := 1) (a := 92) (b := 88) (L' := [Vr ((u : Int) + 1), Vr ((y : Int) + 11), Vi f, Vi t, Vi (m : Int), Vi ((k : Int) + 1), Vi (i : Int), Vi (e : Int), Vi (w : Int)]) (S' := []) (h' := ((SHv st dr rd), (ovl a s b))) (fun _ => rfl) (fun b85 => ?_) (fun b85 => ?_)
                · refine Ev.ite (P := (e : Int) ≠ 269) (k := 4) (a := 105) (b := 101) (L' := [Vr ((u : Int) + 1), Vr ((y : Int) + 11), Vi f, Vi t, Vi (m : Int), Vi ((k : Int) + 1), Vi (i : Int), Vi (e : Int), Vi (w : Int)]) (S' := [Vi 0]) (h' := ((SHv st dr rd), (ovl a s b))) (fun _ => rfl) (fun b98 => ?_) (fun b98 => ?_)
                  · refine Ev.steps (k := 6) (pc' := 261) (L' := [Vr ((u : Int) + 1), Vr ((y : Int) + 11), Vi f, Vi t, Vi (m : Int), Vi (w : Int), Vi (w32 ((i : Int) + 1)), Vi (e : Int), Vi (w : Int)]) (S' := []) (h' := ((SHv st dr rd), (ovl a s b))) (fun _ => rfl) ?_
                    rw [show (w32 ((i : Int) + 1)) = ((i : Int) + 1) from w32_id (by unfold R32; omega)]
                    refine Ev.steps (k := 1) (pc' := 9) (L' := [Vr ((u : Int) + 1), Vr ((y : Int) + 11), Vi f, Vi t, Vi (m : Int), Vi (w : Int), Vi ((i : Int) + 1), Vi (e : Int), Vi (w : Int)]) (S' := []) (h' := ((SHv st dr rd), (ovl a s b))) (fun _ => rfl) ?_
                    first | exact K | (exfalso; omega)
                  · refine Ev.steps (k := 6) (pc' := 120) (L' := [Vr ((u : Int) + 1), Vr ((y : Int) + 11), Vi f, Vi t, Vi (m : Int), Vi ((k : Int) + 1), Vi (i : Int), Vi (e : Int), Vi (w : Int)]) (S' := [Vi (w32 ((m : Int) - 1))]) (h' := ((SHv st dr rd), (ovl a s b))) (fun _ => rfl) ?_
                    rw [show (w32 ((m : Int) - 1)) = ((m : Int) - 1) from (by unfold w32; omega)]
                    refine Ev.call (k := 1) (pc1 := 121) (L1 := [Vr ((u : Int) + 1), Vr ((y : Int) + 11), Vi f, Vi t, Vi (m : Int), Vi ((k : Int) + 1), Vi (i : Int), Vi (e : Int), Vi (w : Int)]) (S1 := [Vi (-1), Vi ((m : Int) - 1)]) (h1 := ((SHv st dr rd), (ovl a s b))) (m' := 83) (as := [Vi ((m : Int) - 1), Vi (-1)]) (S' := []) (L0 := [Vi ((m : Int) - 1), Vi (-1)]) (fun _ => rfl) rfl rfl rfl rfl rfl rfl ((c_maxm m)) (fun r h' hq => ?_)
                    obtain ⟨rfl, rfl⟩ := hq
                    show Ev X _ _ 124 [Vr ((u : Int) + 1), Vr ((y : Int) + 11), Vi f, Vi t, Vi (m : Int), Vi ((k : Int) + 1), Vi (i : Int), Vi (e : Int), Vi (w : Int)] [Vi ((m : Int) - 1)] ((SHv st dr rd), (ovl a s b)) _
                    refine Ev.steps (k := 3) (pc' := 261) (L' := [Vr ((u : Int) + 1), Vr ((y : Int) + 11), Vi f, Vi t, Vi ((m : Int) - 1), Vi ((k : Int) + 1), Vi (w32 ((i : Int) + 1)), Vi (e : Int), Vi (w : Int)]) (S' := []) (h' := ((SHv st dr rd), (ovl a s b))) (fun _ => rfl) ?_
                    rw [show (w32 ((i : Int) + 1)) = ((i : Int) + 1) from w32_id (by unfold R32; omega)]
                    refine Ev.steps (k := 1) (pc' := 9) (L' := [Vr ((u : Int) + 1), Vr ((y : Int) + 11), Vi f, Vi t, Vi ((m : Int) - 1), Vi ((k : Int) + 1), Vi ((i : Int) + 1), Vi (e : Int), Vi (w : Int)]) (S' := []) (h' := ((SHv st dr rd), (ovl a s b))) (fun _ => rfl) ?_
                    first | exact K | (exfalso; omega)
                · refine Ev.ite (P := (e : Int) ≠ 269) (k := 5) (a := 105) (b := 101) (L' := [Vr ((u : Int) + 1), Vr ((y : Int) + 11), Vi f, Vi t, Vi (m : Int), Vi ((k : Int) + 1), Vi (i : Int), Vi (e : Int), Vi (w : Int)]) (S' := [Vi 1]) (h' := ((SHv st dr rd), (ovl a s b))) (fun _ => rfl) (fun b98 => ?_) (fun b98 => ?_)
                  · refine Ev.steps (k := 5) (pc' := 120) (L' := [Vr ((u : Int) + 1), Vr ((y : Int) + 11), Vi f, Vi t, Vi (m : Int), Vi ((k : Int) + 1), Vi (i : Int), Vi (e : Int), Vi (w : Int)]) (S' := [Vi (w32 ((m : Int) - 1))]) (h' := ((SHv st dr rd), (ovl a s b))) (fun _ => rfl) ?_
                    rw [show (w32 ((m : Int) - 1)) = ((m : Int) - 1) from (by unfold w32; omega)]
                    refine Ev.call (k := 1) (pc1 := 121) (L1 := [Vr ((u : Int) + 1), Vr ((y : Int) + 11), Vi f, Vi t, Vi (m : Int), Vi ((k : Int) + 1), Vi (i : Int), Vi (e : Int), Vi (w : Int)]) (S1 := [Vi (-1), Vi ((m : Int) - 1)]) (h1 := ((SHv st dr rd), (ovl a s b))) (m' := 83) (as := [Vi ((m : Int) - 1), Vi (-1)]) (S' := []) (L0 := [Vi ((m : Int) - 1), Vi (-1)]) (fun _ => rfl) rfl rfl rfl rfl rfl rfl ((c_maxm m)) (fun r h' hq => ?_)
                    obtain ⟨rfl, rfl⟩ := hq
                    show Ev X _ _ 124 [Vr ((u : Int) + 1), Vr ((y : Int) + 11), Vi f, Vi t, Vi (m : Int), Vi ((k : Int) + 1), Vi (i : Int), Vi (e : Int), Vi (w : Int)] [Vi ((m : Int) - 1)] ((SHv st dr rd), (ovl a s b)) _
                    refine Ev.steps (k := 3) (pc' := 261) (L' := [Vr ((u : Int) + 1), Vr ((y : Int) + 11), Vi f, Vi t, Vi ((m : Int) - 1), Vi ((k : Int) + 1), Vi (w32 ((i : Int) + 1)), Vi (e : Int), Vi (w : Int)]) (S' := []) (h' := ((SHv st dr rd), (ovl a s b))) (fun _ => rfl) ?_
                    rw [show (w32 ((i : Int) + 1)) = ((i : Int) + 1) from w32_id (by unfold R32; omega)]
                    refine Ev.steps (k := 1) (pc' := 9) (L' := [Vr ((u : Int) + 1), Vr ((y : Int) + 11), Vi f, Vi t, Vi ((m : Int) - 1), Vi ((k : Int) + 1), Vi ((i : Int) + 1), Vi (e : Int), Vi (w : Int)]) (S' := []) (h' := ((SHv st dr rd), (ovl a s b))) (fun _ => rfl) ?_
                    first | exact K | (exfalso; omega)
                  · refine Ev.steps (k := 7) (pc' := 261) (L' := [Vr ((u : Int) + 1), Vr ((y : Int) + 11), Vi f, Vi t, Vi (m : Int), Vi (w : Int), Vi (w32 ((i : Int) + 1)), Vi (e : Int), Vi (w : Int)]) (S' := []) (h' := ((SHv st dr rd), (ovl a s b))) (fun _ => rfl) ?_
                    rw [show (w32 ((i : Int) + 1)) = ((i : Int) + 1) from w32_id (by unfold R32; omega)]
                    refine Ev.steps (k := 1) (pc' := 9) (L' := [Vr ((u : Int) + 1), Vr ((y : Int) + 11), Vi f, Vi t, Vi (m : Int), Vi (w : Int), Vi ((i : Int) + 1), Vi (e : Int), Vi (w : Int)]) (S' := []) (h' := ((SHv st dr rd), (ovl a s b))) (fun _ => rfl) ?_
                    first | exact K | (exfalso; omega)
theorem runR_app {n : Nat} {c : SC} : ∀ (l l' : List (Nat × Nat)) (s : List Int), runR n c (l ++ l') s = match runR n c l s with
    | some s' => runR n c l' s'
    | none => none
  | [], l', s => rfl
  | q :: l, l', s => by
    show (match stR n c q s with
      | some s' => runR n c (l ++ l') s'
      | none => none) = match (match stR n c q s with
      | some s' => runR n c l s'
      | none => none) with
      | some s' => runR n c l' s'
      | none => none
    cases stR n c q s with
    | none => rfl
    | some s' => exact runR_app l l' s'
theorem hpS_cons {a : SC} {o n : Nat} {v : Int} {t : List Int} (h : hpS (a o) t) (hn : n = t.length) : hpS (updC a o n v o) (v :: t) := by
  have key : ∀ t : List Int, t.length ≤ n → hpS (a o) t → hpS (updC a o n v o) t := by
    intro t
    induction t with
    | nil => intro _ _; trivial
    | cons x t ih =>
      intro hn h
      have hn : t.length + 1 ≤ n := hn
      exact ⟨by rw [updC_if, if_neg (by omega)]; exact h.1, ih (by omega) h.2⟩
  exact ⟨by rw [← hn, updC_sm], key t (by omega) h⟩
theorem tyL_mid {l l' : List (Nat × Nat)} {ts ts' : List Bool} (h : tyL (l ++ l') ts = some ts') : ∃ t, tyL l ts = some t ∧ tyL l' t = some ts' := by
  rw [tyL_app] at h
  cases h1 : tyL l ts with
  | none => rw [h1] at h; cases h
  | some t => rw [h1] at h; exact ⟨t, rfl, h⟩
theorem tyL_one {q : Nat × Nat} {ts ts' : List Bool} (h : tyL [q] ts = some ts') : tySt q ts = some ts' := by
  obtain ⟨t, h1, h2⟩ := tyL_cons h
  have : t = ts' := Option.some.inj h2
  rw [h1, this]
theorem enc_lt (op : Nat) : encT op < 512 := by unfold encT; split <;> omega
theorem enc9 {op : Nat} (h : op ≤ 9) : 272 ≤ encT op ∧ encT op ≠ 281 ∧ encT op ≠ 282 := by
  have : op = 0 ∨ op = 1 ∨ op = 2 ∨ op = 3 ∨ op = 4 ∨ op = 5 ∨ op = 6 ∨ op = 7 ∨ op = 8 ∨ op = 9 := by omega
  rcases this with rfl | rfl | rfl | rfl | rfl | rfl | rfl | rfl | rfl | rfl <;> decide
theorem enc24 {op : Nat} (h : 15 ≤ op) (h2 : op ≤ 24) : encT op < 256 ∨ encT op = 281 ∨ encT op = 282 := by
  have : op = 15 ∨ op = 16 ∨ op = 17 ∨ op = 18 ∨ op = 19 ∨ op = 20 ∨ op = 21 ∨ op = 22 ∨ op = 23 ∨ op = 24 := by omega
  rcases this with rfl | rfl | rfl | rfl | rfl | rfl | rfl | rfl | rfl | rfl <;> decide
theorem c_found {X : List Int} {d : Nat} {st dr rd : Int} {a s b : C3} {u : Nat} (hu : huS u) {S : STY} {c : SC} (hC : RsC S c a u) (hWY : WfY S) (hWC : WfC S c) (q : Nat × Nat) (hq : OkQ S q) (h9 : q.1 ≤ 9) : Ev X (d + 1) 90 0 [Vr ((u : Int) + 1), Vi ((encT q.1 : Nat) : Int), Vi ((encV q.1 q.2 : Nat) : Int), Vx, Vx] [] (SHv st dr rd, ovl a s b) (fun rr hh => rr = some (Vi (leafS (nW S) c q.1 q.2)) ∧ hh = (SHv st dr rd, ovl a s b)) := by
  obtain ⟨op, v⟩ := q
  dsimp only at hq h9 ⊢
  obtain ⟨g0, g2, g4, g5, g6, g7, g8, g9, -⟩ := hq
  dsimp only at g0 g2 g4 g5 g6 g7 g8 g9
  have hW8 := hWY.2.2.1.1
  obtain ⟨k0, k1, k2, k3, k4, k5, k7, k9⟩ := hWC
  have hR8 := hWY.1.1
  have hs : ∀ op, op ≤ 9 → 3 ≤ op → encV op v = v / 8 + 8 * (v % 8) := fun op h h3 => if_pos h3
  have hv : 8 * (v / 8) + v % 8 = v := by omega
  have h0 : op = 0 ∨ op = 1 ∨ op = 2 ∨ op = 3 ∨ op = 4 ∨ op = 5 ∨ op = 6 ∨ op = 7 ∨ op = 8 ∨ op = 9 := by omega
  rcases h0 with rfl | rfl | rfl | rfl | rfl | rfl | rfl | rfl | rfl | rfl
  · exact c_found_0 hu v (g0 rfl)
  · have : v = 0 := g9 (Or.inl rfl)
    subst this
    exact c_found_1 hu hC hW8 0 0 (by omega) (by omega)
  · have := g2 rfl
    have h := c_found_2 (X := X) (d := d) (st := st) (dr := dr) (rd := rd) (s := s) (b := b) hu hC hW8 v 0 (by omega) (by omega) this
    rwa [Nat.mul_zero, Nat.add_zero] at h
  · have : v = 0 := g9 (Or.inr rfl)
    subst this
    exact c_found_3 hu hC hW8 0 0 (by omega) (by omega)
  · have := g4 (by omega)
    have := g5 rfl
    have h := c_found_4 (X := X) (d := d) (st := st) (dr := dr) (rd := rd) (s := s) (b := b) hu hC hW8 (v / 8) (v % 8) (by omega) (by omega) (by omega)
    rw [hv] at h
    exact h
  · have := g4 (by omega)
    have := g6 rfl
    have h := c_found_5 (X := X) (d := d) (st := st) (dr := dr) (rd := rd) (s := s) (b := b) hu hC hW8 (v / 8) (v % 8) (by omega) (by omega) (by omega) (by omega) (by have := k2 (v % 8) (by omega); omega)
    rw [hv] at h
    exact h
  · have := g4 (by omega)
    have := g7 (Or.inl rfl)
    have h := c_found_6 (X := X) (d := d) (st := st) (dr := dr) (rd := rd) (s := s) (b := b) hu hC hW8 (v / 8) (v % 8) (by omega) (by omega) (by omega) (by omega)
    rw [hv] at h
    exact h
  · have := g4 (by omega)
    have h := c_found_7 (X := X) (d := d) (st := st) (dr := dr) (rd := rd) (s := s) (b := b) hu hC hW8 (v / 8) (v % 8) (by omega) (by omega) (by omega) (by have := k0 (v / 8) (by omega); omega)
    rw [hv] at h
    exact h
  · have := g4 (by omega)
    have h := c_found_8 (X := X) (d := d) (st := st) (dr := dr) (rd := rd) (s := s) (b := b) hu hC hW8 (v / 8) (v % 8) (by omega) (by omega) (by omega)
    rw [hv] at h
    exact h
  · have := g4 (by omega)
    have := g7 (Or.inr rfl)
    have h := c_found_9 (X := X) (d := d) (st := st) (dr := dr) (rd := rd) (s := s) (b := b) hu hC hW8 (v / 8) (v % 8) (by omega) (by omega) (by omega) (by omega)
    rw [hv] at h
    exact h
/-- the class's loop, from k on to k' -/
abbrev W9 (X : List Int) (d : Nat) (st dr rd : Int) (s b : C3) (u y : Nat) (f t : Int) (Q : Option pm_V → pm_H → Prop) (a : C3) (n k i : Nat) (z7 z8 : pm_V) : Prop := Ev X (d + 3) 82 9 [Vr ((u : Int) + 1), Vr ((y : Int) + 11), Vi f, Vi t, Vi ((n : Int) - 1), Vi (k : Int), Vi (i : Int), z7, z8] [] (SHv st dr rd, ovl a s b) Q
theorem W9.mk {X : List Int} {d : Nat} {st dr rd : Int} {s b a : C3} {u y : Nat} {f t tp kk ii : Int} {Q : Option pm_V → pm_H → Prop} {n k i : Nat} {z7 z8 : pm_V} (h : W9 X d st dr rd s b u y f t Q a n k i z7 z8) (h1 : tp = (n : Int) - 1) (h2 : kk = k) (h3 : ii = i) : Ev X (d + 3) 82 9 [Vr ((u : Int) + 1), Vr ((y : Int) + 11), Vi f, Vi t, Vi tp, Vi kk, Vi ii, z7, z8] [] (SHv st dr rd, ovl a s b) Q := by
  subst h1 h2 h3
  exact h
theorem W9.mk2 {X : List Int} {d : Nat} {st dr rd : Int} {s b a : C3} {u y : Nat} {f t : Int} {Q : Option pm_V → pm_H → Prop} {k : Nat} {z7 z8 : pm_V} (h : W9 X d st dr rd s b u y f t Q a 0 k 0 z7 z8) : Ev X (d + 3) 82 9 [Vr ((u : Int) + 1), Vr ((y : Int) + 11), Vi f, Vi t, Vi (-1), Vi (k : Int), Vi 0, z7, z8] [] (SHv st dr rd, ovl a s b) Q := h
theorem W9.of {X : List Int} {d : Nat} {st dr rd : Int} {s b a : C3} {u y : Nat} {f t : Int} {Q : Option pm_V → pm_H → Prop} {n k i : Nat} {z7 z8 : pm_V} {tp : Int} (h1 : tp = (n : Int) - 1) (h : Ev X (d + 3) 82 9 [Vr ((u : Int) + 1), Vr ((y : Int) + 11), Vi f, Vi t, Vi tp, Vi (k : Int), Vi (i : Int), z7, z8] [] (SHv st dr rd, ovl a s b) Q) : W9 X d st dr rd s b u y f t Q a n k i z7 z8 := by
  subst h1
  exact h
theorem ty_9 {q : Nat × Nat} (h : q.1 ≤ 9) (ts : List Bool) : tySt q ts = some (decide (2 < q.1) :: ts) := by
  unfold tySt
  by_cases h2 : q.1 ≤ 2
  · rw [if_pos h2, decide_eq_false (by omega)]
  · rw [if_neg h2, if_pos h, decide_eq_true (by omega)]
theorem ty_not {tv : Bool} {ts t0 : List Bool} (h : tySt (27, 0) (tv :: ts) = some t0) : tv = true := by
  cases tv
  · have h : (none : Option (List Bool)) = some t0 := h
    cases h
  · rfl
theorem ty_bin {op : Nat} (h1 : 15 ≤ op) (h2 : op ≤ 24) {tv tw : Bool} {ts t0 : List Bool} (h : tySt (op, 0) (tw :: tv :: ts) = some t0) : tv = false ∧ tw = false := by
  have : op = 15 ∨ op = 16 ∨ op = 17 ∨ op = 18 ∨ op = 19 ∨ op = 20 ∨ op = 21 ∨ op = 22 ∨ op = 23 ∨ op = 24 := by omega
  have no : ∀ x : List Bool, (none : Option (List Bool)) = some x → False := fun x h => by cases h
  rcases this with rfl | rfl | rfl | rfl | rfl | rfl | rfl | rfl | rfl | rfl <;> cases tv <;> cases tw <;> first | exact ⟨rfl, rfl⟩ | exact absurd h (no t0)
theorem ty_bin2 {op : Nat} (h1 : 15 ≤ op) (h2 : op ≤ 24) (ts : List Bool) : tySt (op, 0) (false :: false :: ts) = some (decide (21 < op) :: ts) := by
  have : op = 15 ∨ op = 16 ∨ op = 17 ∨ op = 18 ∨ op = 19 ∨ op = 20 ∨ op = 21 ∨ op = 22 ∨ op = 23 ∨ op = 24 := by omega
  rcases this with rfl | rfl | rfl | rfl | rfl | rfl | rfl | rfl | rfl | rfl <;> rfl
theorem ty_log {op : Nat} (h1 : op = 25 ∨ op = 26) {tv tw : Bool} {ts t0 : List Bool} (h : tySt (op, 0) (tw :: tv :: ts) = some t0) : tv = true ∧ tw = true := by
  have no : ∀ x : List Bool, (none : Option (List Bool)) = some x → False := fun x h => by cases h
  rcases h1 with rfl | rfl <;> cases tv <;> cases tw <;> first | exact ⟨rfl, rfl⟩ | exact absurd h (no t0)
theorem ty_log2 {op : Nat} (h1 : op = 25 ∨ op = 26) (ts : List Bool) : tySt (op, 0) (true :: true :: ts) = some (true :: ts) := by
  rcases h1 with rfl | rfl <;> rfl
theorem tyL_snoc {l : List (Nat × Nat)} {q : Nat × Nat} {ts t1 t2 : List Bool} (h1 : tyL l ts = some t1) (h2 : tySt q t1 = some t2) : tyL (l ++ [q]) ts = some t2 := by
  rw [tyL_app, h1]
  show (match tySt q t1 with
    | some t => some t
    | none => none) = _
  rw [h2]
theorem runR_snoc {n : Nat} {c : SC} {l : List (Nat × Nat)} {q : Nat × Nat} {s s1 s2 : List Int} (h1 : runR n c l s = some s1) (h2 : stR n c q s1 = some s2) : runR n c (l ++ [q]) s = some s2 := by
  rw [runR_app, h1]
  show (match stR n c q s1 with
    | some t => some t
    | none => none) = _
  rw [h2]
theorem stR_b {n : Nat} {c : SC} {op : Nat} {x y : Int} {s : List Int} (h1 : 15 ≤ op) (h2 : op ≤ 26) : stR n c (op, 0) (y :: x :: s) = some (jnd op x y :: s) := by
  unfold stR
  dsimp only
  rw [if_neg (by omega), if_neg (by omega)]
def WM (X : List Int) (d : Nat) (st dr rd : Int) (s b : C3) (u y : Nat) (f : Int) (t : Nat) (Q : Option pm_V → pm_H → Prop) (S : STY) (c : SC) (A : Nat → Int) (D k : Nat) (l : List (Nat × Nat)) (k' : Nat) : Prop :=
  k < k' ∧ 1 ≤ D ∧ ((∀ q, q ∈ l → OkQ S q) → ∀ ts0 t0, tyL l ts0 = some t0 → ∃ (w : Int) (tv : Bool), TyV tv w ∧ (∀ ts, tyL l ts = some (tv :: ts)) ∧ (∀ stk, runR (nW S) c l stk = some (w :: stk)) ∧
    ∀ (stk : List Int) (a : C3) (i : Nat) (z7 z8 : pm_V), k' ≤ t → hpS (a (u + 7)) stk → stk.length + D ≤ 48 → i ≤ k → a (y + 11) = A → RsC S c a u →
      (∀ (a2 : C3) (i2 : Nat) (z7 z8 : pm_V), i2 ≤ k' → FrO (u + 7) (u + 7) a a2 → hpS (a2 (u + 7)) (w :: stk) → W9 X d st dr rd s b u y f t Q a2 (stk.length + 1) k' i2 z7 z8) →
      W9 X d st dr rd s b u y f t Q a stk.length k i z7 z8)
theorem c_worth_l {X : List Int} {d : Nat} {st dr rd : Int} {s b : C3} {u : Nat} (hu : huS u) {y : Nat} (hy : hyS y) (f : Int) (t : Nat) (ht : t ≤ 1200) {S : STY} {c : SC} (hWY : WfY S) (hWC : WfC S c) {Q : Option pm_V → pm_H → Prop} {A : Nat → Int} {D k k' : Nat} {l : List (Nat × Nat)} (h : CoC A D k l k') : WM X d st dr rd s b u y f t Q S c A D k l k' := by
  have hu0 : u = 119 ∨ u = 142 := hu
  have hy0 : y = 2 ∨ y = 58 := hy
  refine h (WM X d st dr rd s b u y f t Q S c A) ?_ ?_ ?_ ?_ ?_
  · intro D k q h9 hD hA
    refine ⟨by omega, hD, fun hok ts0 t0 hty => ⟨leafS (nW S) c q.1 q.2, decide (2 < q.1), leafS_ty hWC.wfe (hok q List.mem_cons_self) h9, fun ts => ?_, fun stk => ?_, fun stk a i z7 z8 hkt hhp hlen hi hAa hC K => ?_⟩⟩
    · exact tyL_snoc (l := []) rfl (ty_9 h9 ts)
    · exact runR_snoc (l := []) rfl (by unfold stR; rw [if_pos h9])
    · have hq := hok q List.mem_cons_self
      have hw : encV q.1 q.2 < 10000 := by
        obtain ⟨g0, g2, g4, g5, g6, g7, g8, g9, -⟩ := hq
        unfold encV
        split
        · by_cases h3 : q.1 = 3
          · have := g9 (Or.inr h3)
            omega
          · have := g4 (by omega)
            omega
        · by_cases h1 : q.1 = 0
          · have := g0 h1; omega
          · by_cases h2 : q.1 = 1
            · have := g9 (Or.inl h2); omega
            · have := g2 (by omega)
              have := hWY.2.2.1.1
              omega
      refine w_leaf hu hy f t k i z7 z8 (encT q.1) (encV q.1 q.2) (enc_lt _) hw (by rw [hAa]; exact hA) (by omega) (by omega) hi stk.length (by omega) (leafS (nW S) c q.1 q.2) (enc9 h9) (c_found hu hC hWY hWC q hq h9) ?_
      exact W9.mk (K _ (i + 1) _ _ (by omega) (FrO.rf.up (by omega)) (hpS_cons hhp rfl)) (by omega) (by omega) (by omega)
  · rintro D k l k' ⟨ih1, ihD, ih⟩ hA
    refine ⟨by omega, ihD, fun hok ts0 t0 hty => ?_⟩
    obtain ⟨t1, ht1, ht2⟩ := tyL_mid hty
    obtain ⟨w, tv, g1, g2, g3, g4⟩ := ih (fun q hq => hok q (List.mem_append_left _ hq)) ts0 t1 ht1
    rw [g2] at ht1
    cases ht1
    obtain rfl := ty_not (tyL_one ht2)
    have g11 : w = 0 ∨ w = 1 := g1
    refine ⟨1 - w, true, by show 1 - w = 0 ∨ 1 - w = 1; omega, fun ts => tyL_snoc (g2 ts) rfl, fun stk => runR_snoc (g3 stk) rfl, fun stk a i z7 z8 hkt hhp hlen hi hAa hC K => ?_⟩
    refine g4 stk a i z7 z8 (by omega) hhp hlen hi hAa hC ?_
    intro a2 i2 y7 y8 hi2 hf2 hp2
    refine W9.of (tp := ((stk.length : Nat) : Int)) (by omega) (w_not hu hy f t k' i2 y7 y8 271 0 (by omega) (by omega) (by rw [hf2 (y + 11) (by omega), hAa]; exact hA) (by omega) (by omega) hi2 stk.length (by omega) w hp2.1 g11 rfl ?_)
    exact W9.mk (K _ (i2 + 1) _ _ (by omega) (hf2.up (by omega)) (hpS_cons hp2.2 rfl)) (by omega) (by omega) (by omega)
  · rintro D D' k l k1 l' k2 op ho1 ho2 ⟨ih1, ihD, ih⟩ ⟨jh1, jhD, jh⟩ hD hA
    refine ⟨by omega, ihD, fun hok ts0 t0 hty => ?_⟩
    obtain ⟨t1, ht1, ht2⟩ := tyL_mid hty
    obtain ⟨t2, ht2, ht3⟩ := tyL_mid ht2
    obtain ⟨v, tv, g1, g2, g3, g4⟩ := ih (fun q hq => hok q (List.mem_append_left _ hq)) ts0 t1 ht1
    obtain ⟨w, tw, h1, h2, h3, h4⟩ := jh (fun q hq => hok q (List.mem_append_right _ (List.mem_append_left _ hq))) t1 t2 ht2
    rw [g2] at ht1
    cases ht1
    rw [h2] at ht2
    cases ht2
    obtain ⟨rfl, rfl⟩ := ty_bin ho1 ho2 (tyL_one ht3)
    have hv6 : M6 v := g1
    have hw6 : M6 w := h1
    refine ⟨jnd op v w, decide (21 < op), ?_, fun ts => ?_, fun stk => ?_, fun stk a i z7 z8 hkt hhp hlen hi hAa hC K => ?_⟩
    · by_cases h21 : 21 < op
      · rw [decide_eq_true h21]
        exact jnd_cmp (by omega)
      · rw [decide_eq_false h21]
        exact jnd_sum (by omega) hv6 hw6
    · rw [← List.append_assoc]
      refine tyL_snoc (t1 := false :: false :: ts) ?_ (ty_bin2 ho1 ho2 ts)
      rw [tyL_app, g2]
      exact h2 _
    · rw [← List.append_assoc]
      refine runR_snoc (s1 := w :: v :: stk) ?_ (stR_b ho1 (by omega))
      rw [runR_app, g3]
      exact h3 _
    · refine g4 stk a i z7 z8 (by omega) hhp (by omega) hi hAa hC ?_
      intro a2 i2 y7 y8 hi2 hf2 hp2
      refine h4 (v :: stk) a2 i2 y7 y8 (by omega) hp2 (by show stk.length + 1 + D' ≤ 48; omega) (by omega) (by rw [hf2 (y + 11) (by omega), hAa]) (hC.fr (fun o g1 g2 => hf2 o (by omega))) ?_
      intro a3 i3 x7 x8 hi3 hf3 hp3
      refine W9.of (tp := ((stk.length : Nat) : Int) + 1) (by show ((stk.length : Nat) : Int) + 1 = ((stk.length + 1 + 1 : Nat) : Int) - 1; omega) (w_bin hu hy f t k2 i3 x7 x8 (encT op) 0 (enc_lt _) (by omega) (by rw [Nat.mul_zero, Nat.add_zero, hf3 (y + 11) (by omega), hf2 (y + 11) (by omega), hAa]; exact hA) (by omega) (by omega) hi3 stk.length (by omega) v w (jnd op v w) hp3.2.1 hp3.1 (enc24 ho1 ho2) (c_joined hu op ⟨ho1, ho2⟩ v w hv6 hw6) ?_)
      exact W9.mk (K _ (i3 + 1) _ _ (by omega) ((hf2.tr hf3).up (by omega)) (hpS_cons hp3.2.2 rfl)) (by omega) (by omega) (by omega)
  · rintro D k l k1 l' k2 op hop ⟨ih1, ihD, ih⟩ hA ⟨jh1, jhD, jh⟩
    refine ⟨by omega, ihD, fun hok ts0 t0 hty => ?_⟩
    obtain ⟨t1, ht1, ht2⟩ := tyL_mid hty
    obtain ⟨t2, ht2, ht3⟩ := tyL_mid ht2
    obtain ⟨v, tv, g1, g2, g3, g4⟩ := ih (fun q hq => hok q (List.mem_append_left _ hq)) ts0 t1 ht1
    obtain ⟨w, tw, h1, h2, h3, h4⟩ := jh (fun q hq => hok q (List.mem_append_right _ (List.mem_append_left _ hq))) t1 t2 ht2
    rw [g2] at ht1
    cases ht1
    rw [h2] at ht2
    cases ht2
    obtain ⟨rfl, rfl⟩ := ty_log hop (tyL_one ht3)
    have hv : v = 0 ∨ v = 1 := g1
    have hw : w = 0 ∨ w = 1 := h1
    have e25 : ∀ v w : Int, jnd 25 v w = v * w := fun _ _ => rfl
    have e26 : ∀ v w : Int, jnd 26 v w = if 0 < v + w then 1 else 0 := fun _ _ => rfl
    refine ⟨jnd op v w, true, jnd_log hop hv hw, fun ts => ?_, fun stk => ?_, fun stk a i z7 z8 hkt hhp hlen hi hAa hC K => ?_⟩
    · rw [← List.append_assoc]
      refine tyL_snoc (t1 := true :: true :: ts) ?_ (ty_log2 hop ts)
      rw [tyL_app, g2]
      exact h2 _
    · rw [← List.append_assoc]
      refine runR_snoc (s1 := w :: v :: stk) ?_ (stR_b (by omega) (by omega))
      rw [runR_app, g3]
      exact h3 _
    · refine g4 stk a i z7 z8 (by omega) hhp (by omega) hi hAa hC ?_
      intro a2 i2 y7 y8 hi2 hf2 hp2
      have hA2 : a2 (y + 11) k1 = ((encT op + 512 * k2 : Nat) : Int) := by rw [hf2 (y + 11) (by omega), hAa]; exact hA
      by_cases hj : (encT op = 269 ∧ v ≠ 0) ∨ (encT op = 270 ∧ v = 0)
      · refine W9.of (tp := ((stk.length : Nat) : Int)) (by omega) (w_jmp hu hy f t k1 i2 y7 y8 (encT op) k2 (enc_lt _) (by omega) hA2 (by omega) (by omega) hi2 stk.length (by omega) v hp2.1 hj ?_)
        have hjv : jnd op v w = v := by
          rcases hop with rfl | rfl
          · have : v = 0 := (hj.resolve_left (fun h => absurd h.1 (by decide))).2
            rw [e25, this, Int.zero_mul]
          · have : v ≠ 0 := (hj.resolve_right (fun h => absurd h.1 (by decide))).2
            rw [e26, if_pos (by omega)]
            omega
        rw [hjv] at K
        exact W9.mk (K _ (i2 + 1) _ _ (by omega) hf2 hp2) (by omega) (by omega) (by omega)
      · have hj2 : (encT op = 269 ∧ v = 0) ∨ (encT op = 270 ∧ v ≠ 0) := by
          rcases hop with rfl | rfl
          · exact Or.inr ⟨rfl, fun h => hj (Or.inr ⟨rfl, h⟩)⟩
          · exact Or.inl ⟨rfl, Classical.not_not.mp (fun h => hj (Or.inl ⟨rfl, h⟩))⟩
        refine W9.of (tp := ((stk.length : Nat) : Int)) (by omega) (w_fal hu hy f t k1 i2 y7 y8 (encT op) k2 (enc_lt _) (by omega) hA2 (by omega) (by omega) hi2 stk.length (by omega) v hp2.1 hj2 ?_)
        have hjv : jnd op v w = w := by
          rcases hop with rfl | rfl
          · have : v ≠ 0 := (hj2.resolve_left (fun h => absurd h.1 (by decide))).2
            rw [e25, show v = 1 by omega, Int.one_mul]
          · have : v = 0 := (hj2.resolve_right (fun h => absurd h.1 (by decide))).2
            rw [e26]
            split <;> omega
        rw [hjv] at K
        refine W9.mk (h4 stk a2 (i2 + 1) _ _ (by omega) hp2.2 hlen (by omega) (by rw [hf2 (y + 11) (by omega), hAa]) (hC.fr (fun o g1 g2 => hf2 o (by omega))) ?_) (by omega) (by omega) (by omega)
        intro a3 i3 x7 x8 hi3 hf3 hp3
        exact K _ i3 _ _ hi3 (hf2.tr hf3) hp3
  · rintro D k l k' ⟨ih1, ihD, ih⟩
    refine ⟨ih1, ihD, fun hok ts0 t0 hty => ?_⟩
    obtain ⟨t1, ht1, ht2⟩ := tyL_mid hty
    obtain ⟨t2, ht3, ht4⟩ := tyL_mid ht1
    obtain ⟨w, tv, g1, g2, g3, g4⟩ := ih (fun q hq => hok q (List.mem_append_left _ (List.mem_append_left _ hq))) ts0 t2 ht3
    rw [g2] at ht3
    cases ht3
    obtain rfl := ty_not (tyL_one ht4)
    refine ⟨w, true, g1, fun ts => tyL_snoc (tyL_snoc (g2 ts) rfl) rfl, fun stk => ?_, g4⟩
    have h2 : runR (nW S) c (l ++ [(27, 0)] ++ [(27, 0)]) stk = some ((1 - (1 - w)) :: stk) := runR_snoc (runR_snoc (g3 stk) rfl) rfl
    rw [h2, show 1 - (1 - w) = w by omega]
theorem c_worth {X : List Int} {d : Nat} {st dr rd : Int} {a s b : C3} {u : Nat} (hu : huS u) {y : Nat} (hy : hyS y) (f t : Nat) (l : List (Nat × Nat)) (v0 : Bool) {S : STY} {c : SC} (hWY : WfY S) (hWC : WfC S c) (hC : RsC S c a u) (hco : CoC (a (y + 11)) 48 f l t) (ht : t ≤ 1200) (hok : ∀ q, q ∈ l → OkQ S q) (hty : tyL l [] = some [v0]) : Ev X (d + 3) 82 0 [Vr ((u : Int) + 1), Vr ((y : Int) + 11), Vi (f : Int), Vi (t : Int), Vx, Vx, Vx, Vx, Vx] [] (SHv st dr rd, ovl a s b) (fun rr hh => ∃ a2 : C3, rr = some (Vi (wth (nW S) c l)) ∧ hh = (SHv st dr rd, ovl a2 s b) ∧ FrO (u + 7) (u + 7) a a2) := by
  have hu0 : u = 119 ∨ u = 142 := hu
  have hy0 : y = 2 ∨ y = 58 := hy
  obtain ⟨hlt, -, hM⟩ := c_worth_l (X := X) (d := d) (st := st) (dr := dr) (rd := rd) (s := s) (b := b) hu hy (f : Int) t ht hWY hWC (Q := fun rr hh => ∃ a2 : C3, rr = some (Vi (wth (nW S) c l)) ∧ hh = (SHv st dr rd, ovl a2 s b) ∧ FrO (u + 7) (u + 7) a a2) hco
  obtain ⟨w, tv, g1, g2, g3, g4⟩ := hM hok [] [v0] hty
  have hw : wth (nW S) c l = w := by
    unfold wth
    rw [g3]
  have hg := g4 [] a 0 Vx Vx (Nat.le_refl t) trivial (by show 0 + 48 ≤ 48; omega) (by omega) rfl hC (fun a2 i2 z7 z8 hi2 hf2 hp2 => W9.of (tp := 0) (by show (0 : Int) = ((0 + 1 : Nat) : Int) - 1; omega) ?_)
  refine Ev.steps (k := 6) (pc' := 9) (L' := [Vr ((u : Int) + 1), Vr ((y : Int) + 11), Vi (f : Int), Vi (t : Int), Vi (-1), Vi (f : Int), Vi 0, Vx, Vx]) (S' := []) (h' := ((SHv st dr rd), (ovl a s b))) (fun _ => rfl) ?_
  exact hg.mk2
  · have hx : a2 (u + 7) 0 = w := hp2.1
    refine Ev.ite (P := 1200 ≤ (i2 : Int)) (k := 3) (a := 264) (b := 17) (L' := [Vr ((u : Int) + 1), Vr ((y : Int) + 11), Vi (f : Int), Vi (t : Int), Vi 0, Vi (t : Int), Vi (i2 : Int), z7, z8]) (S' := []) (h' := ((SHv st dr rd), (ovl a2 s b))) (fun _ => rfl) (fun b14 => ?_) (fun b14 => ?_)
    · refine Ev.steps (k := 3) (pc' := 270) (L' := [Vr ((u : Int) + 1), Vr ((y : Int) + 11), Vi (f : Int), Vi (t : Int), Vi 0, Vi (t : Int), Vi (i2 : Int), z7, z8]) (S' := [Vr ((u : Int) + 1)]) (h' := ((SHv st dr rd), (ovl a2 s b))) (fun _ => rfl) ?_
      refine Ev.getr (r := ((u : Int) + 7)) rfl rfl (by omega) (shU_1 hu) rfl rfl rfl ?_
      refine Ev.steps (k := 1) (pc' := 275) (L' := [Vr ((u : Int) + 1), Vr ((y : Int) + 11), Vi (f : Int), Vi (t : Int), Vi 0, Vi (t : Int), Vi (i2 : Int), z7, z8]) (S' := [Vi 0, Vr ((u : Int) + 7)]) (h' := ((SHv st dr rd), (ovl a2 s b))) (fun _ => rfl) ?_
      refine Ev.iald (v := w) rfl (by omega) (shU_7 hu) (by omega) (by omega) ((ovl_rc (by omega)).trans (hx)) ?_
      refine Ev.fin (k := 2) (r := (some (Vi w))) (h' := ((SHv st dr rd), (ovl a2 s b))) (fun _ => rfl) ?_
      rw [hw]
      exact ⟨a2, rfl, rfl, hf2.wd (by omega) (by omega)⟩
    · refine Ev.ite (P := (t : Int) < 0) (k := 2) (a := 264) (b := 22) (L' := [Vr ((u : Int) + 1), Vr ((y : Int) + 11), Vi (f : Int), Vi (t : Int), Vi 0, Vi (t : Int), Vi (i2 : Int), z7, z8]) (S' := []) (h' := ((SHv st dr rd), (ovl a2 s b))) (fun _ => rfl) (fun b19 => ?_) (fun b19 => ?_)
      · exfalso; omega
      · refine Ev.ite (P := (t : Int) ≤ (t : Int)) (k := 3) (a := 264) (b := 28) (L' := [Vr ((u : Int) + 1), Vr ((y : Int) + 11), Vi (f : Int), Vi (t : Int), Vi 0, Vi (t : Int), Vi (i2 : Int), z7, z8]) (S' := []) (h' := ((SHv st dr rd), (ovl a2 s b))) (fun _ => rfl) (fun b25 => ?_) (fun b25 => ?_)
        · refine Ev.steps (k := 3) (pc' := 270) (L' := [Vr ((u : Int) + 1), Vr ((y : Int) + 11), Vi (f : Int), Vi (t : Int), Vi 0, Vi (t : Int), Vi (i2 : Int), z7, z8]) (S' := [Vr ((u : Int) + 1)]) (h' := ((SHv st dr rd), (ovl a2 s b))) (fun _ => rfl) ?_
          refine Ev.getr (r := ((u : Int) + 7)) rfl rfl (by omega) (shU_1 hu) rfl rfl rfl ?_
          refine Ev.steps (k := 1) (pc' := 275) (L' := [Vr ((u : Int) + 1), Vr ((y : Int) + 11), Vi (f : Int), Vi (t : Int), Vi 0, Vi (t : Int), Vi (i2 : Int), z7, z8]) (S' := [Vi 0, Vr ((u : Int) + 7)]) (h' := ((SHv st dr rd), (ovl a2 s b))) (fun _ => rfl) ?_
          refine Ev.iald (v := w) rfl (by omega) (shU_7 hu) (by omega) (by omega) ((ovl_rc (by omega)).trans (hx)) ?_
          refine Ev.fin (k := 2) (r := (some (Vi w))) (h' := ((SHv st dr rd), (ovl a2 s b))) (fun _ => rfl) ?_
          rw [hw]
          exact ⟨a2, rfl, rfl, hf2.wd (by omega) (by omega)⟩
        · exfalso; omega
theorem c_wipes0 {X : List Int} {d : Nat} {st dr rd : Int} {a s b : C3} {u : Nat} (hu : huS u) (r : Nat) (x : Nat) (hr : r < 8) (hx : x < 256) (h8 : a (u + 1) 8 = (x : Int)) : Ev X d 96 0 [Vr ((u : Int) + 1), Vi (r : Int), Vx] [] (SHv st dr rd, ovl a s b) (fun rr hh => rr = some (Vi (if x.testBit r = true then 1 else 0)) ∧ hh = (SHv st dr rd, ovl (updC a (u + 1) 8 ((x &&& (x ^^^ 2 ^ r) : Nat) : Int)) s b)) := by
  have hu0 : u = 119 ∨ u = 142 := hu
  have hp2 : 2 ^ r ≤ 2 ^ 7 := Nat.pow_le_pow_right (by omega) (by omega)
  refine Ev.steps (k := 1) (pc' := 1) (L' := [Vr ((u : Int) + 1), Vi (r : Int), Vx]) (S' := [Vr ((u : Int) + 1)]) (h' := ((SHv st dr rd), (ovl a s b))) (fun _ => rfl) ?_
  refine Ev.getf (v := (x : Int)) rfl rfl (by omega) (shU_1 hu) rfl rfl ((ovl_rc (by omega)).trans (h8)) ?_
  refine Ev.ite (P := (i_and (x : Int) (i_shl 1 (r : Int))) = 0) (k := 5) (a := 15) (b := 11) (L' := [Vr ((u : Int) + 1), Vi (r : Int), Vx]) (S' := []) (h' := ((SHv st dr rd), (ovl a s b))) (fun _ => rfl) (fun b8 => ?_) (fun b8 => ?_)
  · rw [ib0 (by omega) (by omega)] at b8
    refine Ev.steps (k := 4) (pc' := 19) (L' := [Vr ((u : Int) + 1), Vi (r : Int), Vi 0]) (S' := [Vr ((u : Int) + 1), Vr ((u : Int) + 1)]) (h' := ((SHv st dr rd), (ovl a s b))) (fun _ => rfl) ?_
    refine Ev.getf (v := (x : Int)) rfl rfl (by omega) (shU_1 hu) rfl rfl ((ovl_rc (by omega)).trans (h8)) ?_
    refine Ev.steps (k := 6) (pc' := 28) (L' := [Vr ((u : Int) + 1), Vi (r : Int), Vi 0]) (S' := [Vi (i_and (x : Int) (i_xor (i_shl 1 (r : Int)) (-1))), Vr ((u : Int) + 1)]) (h' := ((SHv st dr rd), (ovl a s b))) (fun _ => rfl) ?_
    rw [show (i_and (x : Int) (i_xor (i_shl 1 (r : Int)) (-1))) = ((x &&& (x ^^^ 2 ^ r) : Nat) : Int) from (by rw [i_shl1 (by omega), i_andn_nat (by omega) (by omega)])]
    refine Ev.putf (c' := (ovl (updC a (u + 1) 8 ((x &&& (x ^^^ 2 ^ r) : Nat) : Int)) s b)) rfl (by omega) (shU_1 hu) rfl rfl (ovl_wc (by omega)) ?_
    refine Ev.fin (k := 2) (r := (some (Vi 0))) (h' := ((SHv st dr rd), (ovl (updC a (u + 1) 8 ((x &&& (x ^^^ 2 ^ r) : Nat) : Int)) s b))) (fun _ => rfl) ?_
    refine ⟨?_, rfl⟩
    first | rw [if_pos (by exact Classical.not_not.mp b8)] | rw [if_neg b8]
  · rw [ib0 (by omega) (by omega)] at b8
    refine Ev.steps (k := 5) (pc' := 19) (L' := [Vr ((u : Int) + 1), Vi (r : Int), Vi 1]) (S' := [Vr ((u : Int) + 1), Vr ((u : Int) + 1)]) (h' := ((SHv st dr rd), (ovl a s b))) (fun _ => rfl) ?_
    refine Ev.getf (v := (x : Int)) rfl rfl (by omega) (shU_1 hu) rfl rfl ((ovl_rc (by omega)).trans (h8)) ?_
    refine Ev.steps (k := 6) (pc' := 28) (L' := [Vr ((u : Int) + 1), Vi (r : Int), Vi 1]) (S' := [Vi (i_and (x : Int) (i_xor (i_shl 1 (r : Int)) (-1))), Vr ((u : Int) + 1)]) (h' := ((SHv st dr rd), (ovl a s b))) (fun _ => rfl) ?_
    rw [show (i_and (x : Int) (i_xor (i_shl 1 (r : Int)) (-1))) = ((x &&& (x ^^^ 2 ^ r) : Nat) : Int) from (by rw [i_shl1 (by omega), i_andn_nat (by omega) (by omega)])]
    refine Ev.putf (c' := (ovl (updC a (u + 1) 8 ((x &&& (x ^^^ 2 ^ r) : Nat) : Int)) s b)) rfl (by omega) (shU_1 hu) rfl rfl (ovl_wc (by omega)) ?_
    refine Ev.fin (k := 2) (r := (some (Vi 1))) (h' := ((SHv st dr rd), (ovl (updC a (u + 1) 8 ((x &&& (x ^^^ 2 ^ r) : Nat) : Int)) s b))) (fun _ => rfl) ?_
    refine ⟨?_, rfl⟩
    first | rw [if_pos (by exact Classical.not_not.mp b8)] | rw [if_neg b8]
