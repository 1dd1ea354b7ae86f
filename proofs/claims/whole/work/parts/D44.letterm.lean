/-! THE REFERENCE: letter -/
theorem lu_nat {y k : Nat} (hk : k < 64) (hy : y < 9223372036854775808) : l_ushr (y : Int) (k : Int) = ((y / 2 ^ k : Nat) : Int) := by
  have h1 := Nat.div_le_self y (2 ^ k)
  rw [← b64_s (x := y) hy, b64_ushr hk (by omega), b64_s (by omega)]
theorem la_255 {y : Nat} (hy : y < 9223372036854775808) : l_and (y : Int) 255 = ((y % 256 : Nat) : Int) := by
  rw [← b64_s (x := y) hy, show (255 : Int) = b64 255 from rfl, b64_and, show y &&& 255 = y % 256 from Nat.and_two_pow_sub_one_eq_mod y 8, b64_s (by omega)]
theorem m_letterE {X : List Int} {d : Nat} {st dr rd : Int} {a s b : C3} (w : Nat) (hv : vdN 6 w) (k : Int) : Ev X d 196 25 [Vl (w : Int), Vx, Vi k, Vi ((lenV 6 w : Nat) : Int), Vl 0, Vx] [] (SHv st dr rd, ovl a s b) (fun rr hh => rr = some (Vi (letS w k)) ∧ hh = (SHv st dr rd, ovl a s b)) := by
  have hl6 := lenV_le 6 w
  have hwl : w < 281474976710656 := vdN_lt 6 w hv
  refine Ev.ite (P := k < 0) (k := 2) (a := 34) (b := 29) (L' := [Vl (w : Int), Vx, Vi k, Vi ((lenV 6 w : Nat) : Int), Vl 0, Vx]) (S' := []) (h' := ((SHv st dr rd), (ovl a s b))) (fun _ => rfl) (fun b26 => ?_) (fun b26 => ?_)
  · refine Ev.fin (k := 3) (r := (some (Vi (-1)))) (h' := ((SHv st dr rd), (ovl a s b))) (fun _ => rfl) ?_
    refine ⟨?_, rfl⟩
    unfold letS
    first
      | (rw [if_neg (by omega)]; done)
      | (rw [if_pos ⟨by omega, by omega⟩, show 256 ^ (lenV 6 w - 1 - k.toNat) = 2 ^ (8 * (lenV 6 w - 1 - k.toNat)) by rw [Nat.pow_mul]])
  · refine Ev.ite (P := k < ((lenV 6 w : Nat) : Int)) (k := 3) (a := 38) (b := 34) (L' := [Vl (w : Int), Vx, Vi k, Vi ((lenV 6 w : Nat) : Int), Vl 0, Vx]) (S' := []) (h' := ((SHv st dr rd), (ovl a s b))) (fun _ => rfl) (fun b31 => ?_) (fun b31 => ?_)
    · refine Ev.steps (k := 5) (pc' := 44) (L' := [Vl (w : Int), Vx, Vi k, Vi ((lenV 6 w : Nat) : Int), Vl 0, Vx]) (S' := [Vi (w32 (((lenV 6 w : Nat) : Int) - 1)), Vi 8, Vl (w : Int)]) (h' := ((SHv st dr rd), (ovl a s b))) (fun _ => rfl) ?_
      rw [show (w32 (((lenV 6 w : Nat) : Int) - 1)) = ((lenV 6 w - 1 : Nat) : Int) from (by unfold w32; omega)]
      refine Ev.steps (k := 2) (pc' := 46) (L' := [Vl (w : Int), Vx, Vi k, Vi ((lenV 6 w : Nat) : Int), Vl 0, Vx]) (S' := [Vi (w32 (((lenV 6 w - 1 : Nat) : Int) - k)), Vi 8, Vl (w : Int)]) (h' := ((SHv st dr rd), (ovl a s b))) (fun _ => rfl) ?_
      rw [show (w32 (((lenV 6 w - 1 : Nat) : Int) - k)) = ((lenV 6 w - 1 - k.toNat : Nat) : Int) from (by unfold w32; omega)]
      refine Ev.steps (k := 1) (pc' := 47) (L' := [Vl (w : Int), Vx, Vi k, Vi ((lenV 6 w : Nat) : Int), Vl 0, Vx]) (S' := [Vi (w32 (8 * ((lenV 6 w - 1 - k.toNat : Nat) : Int))), Vl (w : Int)]) (h' := ((SHv st dr rd), (ovl a s b))) (fun _ => rfl) ?_
      rw [show (w32 (8 * ((lenV 6 w - 1 - k.toNat : Nat) : Int))) = ((8 * (lenV 6 w - 1 - k.toNat) : Nat) : Int) from (by unfold w32; omega)]
      refine Ev.steps (k := 1) (pc' := 48) (L' := [Vl (w : Int), Vx, Vi k, Vi ((lenV 6 w : Nat) : Int), Vl 0, Vx]) (S' := [Vl (l_ushr (w : Int) ((8 * (lenV 6 w - 1 - k.toNat) : Nat) : Int))]) (h' := ((SHv st dr rd), (ovl a s b))) (fun _ => rfl) ?_
      rw [show (l_ushr (w : Int) ((8 * (lenV 6 w - 1 - k.toNat) : Nat) : Int)) = ((w / 2 ^ (8 * (lenV 6 w - 1 - k.toNat)) : Nat) : Int) from (lu_nat (by omega) (by omega))]
      refine Ev.steps (k := 2) (pc' := 52) (L' := [Vl (w : Int), Vx, Vi k, Vi ((lenV 6 w : Nat) : Int), Vl 0, Vx]) (S' := [Vl (l_and ((w / 2 ^ (8 * (lenV 6 w - 1 - k.toNat)) : Nat) : Int) 255)]) (h' := ((SHv st dr rd), (ovl a s b))) (fun _ => rfl) ?_
      rw [show (l_and ((w / 2 ^ (8 * (lenV 6 w - 1 - k.toNat)) : Nat) : Int) 255) = ((w / 2 ^ (8 * (lenV 6 w - 1 - k.toNat)) % 256 : Nat) : Int) from (la_255 (by have := Nat.div_le_self w (2 ^ (8 * (lenV 6 w - 1 - k.toNat))); omega))]
      refine Ev.steps (k := 1) (pc' := 53) (L' := [Vl (w : Int), Vx, Vi k, Vi ((lenV 6 w : Nat) : Int), Vl 0, Vx]) (S' := [Vi (w32 ((w / 2 ^ (8 * (lenV 6 w - 1 - k.toNat)) % 256 : Nat) : Int))]) (h' := ((SHv st dr rd), (ovl a s b))) (fun _ => rfl) ?_
      rw [show (w32 ((w / 2 ^ (8 * (lenV 6 w - 1 - k.toNat)) % 256 : Nat) : Int)) = ((w / 2 ^ (8 * (lenV 6 w - 1 - k.toNat)) % 256 : Nat) : Int) from (by unfold w32; omega)]
      refine Ev.fin (k := 1) (r := (some (Vi ((w / 2 ^ (8 * (lenV 6 w - 1 - k.toNat)) % 256 : Nat) : Int)))) (h' := ((SHv st dr rd), (ovl a s b))) (fun _ => rfl) ?_
      refine ⟨?_, rfl⟩
      unfold letS
      first
        | (rw [if_neg (by omega)]; done)
        | (rw [if_pos ⟨by omega, by omega⟩, show 256 ^ (lenV 6 w - 1 - k.toNat) = 2 ^ (8 * (lenV 6 w - 1 - k.toNat)) by rw [Nat.pow_mul]])
    · refine Ev.fin (k := 3) (r := (some (Vi (-1)))) (h' := ((SHv st dr rd), (ovl a s b))) (fun _ => rfl) ?_
      refine ⟨?_, rfl⟩
      unfold letS
      first
        | (rw [if_neg (by omega)]; done)
        | (rw [if_pos ⟨by omega, by omega⟩, show 256 ^ (lenV 6 w - 1 - k.toNat) = 2 ^ (8 * (lenV 6 w - 1 - k.toNat)) by rw [Nat.pow_mul]])
theorem m_letter_l {X : List Int} {d : Nat} {st dr rd : Int} {a s b : C3} (w : Nat) (hv : vdN 6 w) (k : Int) (i : Nat) (hi : i ≤ lenV 6 w) : Ev X d 196 5 [Vl (w : Int), Vx, Vi k, Vi (i : Int), Vl ((w / 256 ^ i : Nat) : Int), Vx] [] (SHv st dr rd, ovl a s b) (fun rr hh => rr = some (Vi (letS w k)) ∧ hh = (SHv st dr rd, ovl a s b)) := by
  induction hkk : (lenV 6 w - i) using Nat.strongRecOn generalizing i with
  | ind kk ih =>
    have hl6 := lenV_le 6 w
    have hwl : w < 281474976710656 := vdN_lt 6 w hv
    have hlw := len_w 6 w hv i
    have hdl := Nat.div_le_self w (256 ^ i)
    refine Ev.ite (P := (l_cmp ((w / 256 ^ i : Nat) : Int) 0) = 0) (k := 4) (a := 25) (b := 12) (L' := [Vl (w : Int), Vx, Vi k, Vi (i : Int), Vl ((w / 256 ^ i : Nat) : Int), Vx]) (S' := []) (h' := ((SHv st dr rd), (ovl a s b))) (fun _ => rfl) (fun b9 => ?_) (fun b9 => ?_)
    · rw [lc_eq] at b9
      have hie : i = lenV 6 w := by
        have := fun g => hlw.mpr g
        omega
      have h0 : w / 256 ^ i = 0 := by omega
      rw [h0, hie]
      exact m_letterE w hv k
    · rw [lc_eq] at b9
      refine Ev.steps (k := 1) (pc' := 15) (L' := [Vl (w : Int), Vx, Vi k, Vi (w32 ((i : Int) + 1)), Vl ((w / 256 ^ i : Nat) : Int), Vx]) (S' := []) (h' := ((SHv st dr rd), (ovl a s b))) (fun _ => rfl) ?_
      rw [show (w32 ((i : Int) + 1)) = ((i : Int) + 1) from w32_id (by unfold R32; omega)]
      refine Ev.steps (k := 3) (pc' := 20) (L' := [Vl (w : Int), Vx, Vi k, Vi ((i : Int) + 1), Vl ((w / 256 ^ i : Nat) : Int), Vx]) (S' := [Vl (l_ushr ((w / 256 ^ i : Nat) : Int) 8)]) (h' := ((SHv st dr rd), (ovl a s b))) (fun _ => rfl) ?_
      rw [show (l_ushr ((w / 256 ^ i : Nat) : Int) 8) = ((w / 256 ^ (i + 1) : Nat) : Int) from ((lu_nat (k := 8) (by omega) (by omega)).trans (by rw [Nat.div_div_eq_div_mul, ← Nat.pow_succ]))]
      refine Ev.steps (k := 2) (pc' := 5) (L' := [Vl (w : Int), Vx, Vi k, Vi ((i : Int) + 1), Vl ((w / 256 ^ (i + 1) : Nat) : Int), Vx]) (S' := []) (h' := ((SHv st dr rd), (ovl a s b))) (fun _ => rfl) ?_
      exact ih _ (by have := hlw.mp (by omega); omega) (i + 1) (by have := hlw.mp (by omega); omega) rfl
theorem m_letterOf {X : List Int} {d : Nat} {st dr rd : Int} {a s b : C3} (w : Nat) (hv : vdN 6 w) (k : Int) : Ev X d 196 0 [Vl (w : Int), Vx, Vi k, Vx, Vx, Vx] [] (SHv st dr rd, ovl a s b) (fun rr hh => rr = some (Vi (letS w k)) ∧ hh = (SHv st dr rd, ovl a s b)) := by
  refine Ev.steps (k := 4) (pc' := 5) (L' := [Vl (w : Int), Vx, Vi k, Vi 0, Vl (w : Int), Vx]) (S' := []) (h' := ((SHv st dr rd), (ovl a s b))) (fun _ => rfl) ?_
  have hh := m_letter_l (X := X) (d := d) (st := st) (dr := dr) (rd := rd) (a := a) (s := s) (b := b) w hv k 0 (by omega)
  rw [Nat.pow_zero, Nat.div_one] at hh
  exact hh
theorem g_letter {X : List Int} {d : Nat} {st dr rd : Int} {a s b : C3} (kd wh k : Int) {G : GST} (hT : TopM G b) (hNV : NmV (gS G)) : Ev X (d + 2) 194 0 [Vr 166, Vi kd, Vi wh, Vi k] [] (SHv st dr rd, ovl a s b) (fun rr hh => rr = some (Vi (aLetter G kd wh k)) ∧ hh = (SHv st dr rd, ovl a s b)) := by
  obtain ⟨bk, hY_b, hWY, hB1, hWB, hWE, hn180, hEQ, hTp, hfk, hfp, hO⟩ := id hT
  obtain ⟨hb2_b, h12_b, h168_b, h169_b, h170_b, h171_b, h173_b, h172_b, h174_b, h176_b, h178_b, h175_b, h177_b, h179_b, h180_b, h184_b⟩ := id hY_b
  obtain ⟨wR, wD, wW, wT, wL, wC, wdoor, wsym, wWI, wTI, wCl, wRu⟩ := id hWY
  obtain ⟨w8, wWc⟩ := wW
  obtain ⟨t8, wTc⟩ := wT
  obtain ⟨r8, wRc⟩ := wR
  obtain ⟨l30, wLc⟩ := wL
  obtain ⟨c12, wCc⟩ := wC
  obtain ⟨e202, e203, e204, e211, e210, eHis, e212⟩ := id hEQ
  refine Ev.ite (P := kd ≠ 0) (k := 2) (a := 31) (b := 4) (L' := [Vr 166, Vi kd, Vi wh, Vi k]) (S' := []) (h' := ((SHv st dr rd), (ovl a s b))) (fun _ => rfl) (fun b1 => ?_) (fun b1 => ?_)
  · refine Ev.ite (P := kd ≠ 1) (k := 3) (a := 63) (b := 36) (L' := [Vr 166, Vi kd, Vi wh, Vi k]) (S' := []) (h' := ((SHv st dr rd), (ovl a s b))) (fun _ => rfl) (fun b33 => ?_) (fun b33 => ?_)
    · refine Ev.ite (P := kd ≠ 2) (k := 3) (a := 95) (b := 68) (L' := [Vr 166, Vi kd, Vi wh, Vi k]) (S' := []) (h' := ((SHv st dr rd), (ovl a s b))) (fun _ => rfl) (fun b65 => ?_) (fun b65 => ?_)
      · refine Ev.fin (k := 2) (r := (some (Vi (-1)))) (h' := ((SHv st dr rd), (ovl a s b))) (fun _ => rfl) ?_
        refine ⟨?_, rfl⟩
        unfold aLetter
        rw [if_neg (fun g => by first | omega | exact c6 g.2), if_neg (fun g => by first | omega | exact c38 g.2), if_neg (fun g => by first | omega | exact c70 g.2)]
      · refine Ev.call (k := 2) (pc1 := 70) (L1 := [Vr 166, Vi kd, Vi wh, Vi k]) (S1 := [Vi wh, Vr 166]) (h1 := ((SHv st dr rd), (ovl a s b))) (m' := 198) (as := [Vr 166, Vi wh]) (S' := []) (L0 := [Vr 166, Vi wh]) (fun _ => rfl) rfl rfl rfl rfl rfl rfl (m_gThing wh hT) (fun r h' hq => ?_)
        obtain ⟨rfl, rfl⟩ := hq
        by_cases c70 : okT G wh
        · rw [if_pos c70]
          show Ev X _ _ 73 [Vr 166, Vi kd, Vi wh, Vi k] [Vi 1] ((SHv st dr rd), (ovl a s b)) _
          refine Ev.steps (k := 6) (pc' := 86) (L' := [Vr 166, Vi kd, Vi wh, Vi k]) (S' := [Vi (b 166 12), Vi 8, Vr 178]) (h' := ((SHv st dr rd), (ovl a s b))) (fun _ => rfl) ?_
          rw [h12_b]
          refine Ev.steps (k := 1) (pc' := 87) (L' := [Vr 166, Vi kd, Vi wh, Vi k]) (S' := [Vi (w32 (8 * (bk : Int))), Vr 178]) (h' := ((SHv st dr rd), (ovl a s b))) (fun _ => rfl) ?_
          rw [show (w32 (8 * (bk : Int))) = (8 * (bk : Int)) from w32_id (by unfold R32; omega)]
          refine Ev.steps (k := 2) (pc' := 89) (L' := [Vr 166, Vi kd, Vi wh, Vi k]) (S' := [Vi (w32 ((8 * (bk : Int)) + wh)), Vr 178]) (h' := ((SHv st dr rd), (ovl a s b))) (fun _ => rfl) ?_
          rw [show (w32 ((8 * (bk : Int)) + wh)) = ((8 * (bk : Int)) + wh) from w32_id (by unfold R32; omega)]
          refine Ev.lald (v := ((((gS G).1 3 wh.toNat).toNat : Nat) : Int)) rfl (by decide) rfl (by omega) (by omega) ((show (b 178 ((8 * (bk : Int)) + wh).toNat) = _ by have h1 := c70.1; have h2 := c70.2; have hj : wh.toNat < nT (gS G) := (by omega); have hx := h178_b wh.toNat hj; have hv := (hNV 2 (by decide) wh.toNat hj).1; have hv : 0 ≤ (gS G).1 3 wh.toNat := hv; rw [show (8 * (bk : Int) + wh).toNat = 8 * bk + wh.toNat by omega, hx, Int.toNat_of_nonneg hv])) ?_
          refine Ev.call (k := 1) (pc1 := 91) (L1 := [Vr 166, Vi kd, Vi wh, Vi k]) (S1 := [Vi k, Vl ((((gS G).1 3 wh.toNat).toNat : Nat) : Int)]) (h1 := ((SHv st dr rd), (ovl a s b))) (m' := 196) (as := [Vl ((((gS G).1 3 wh.toNat).toNat : Nat) : Int), Vi k]) (S' := []) (L0 := [Vl ((((gS G).1 3 wh.toNat).toNat : Nat) : Int), Vx, Vi k, Vx, Vx, Vx]) (fun _ => rfl) rfl rfl rfl rfl rfl rfl (m_letterOf ((gS G).1 3 wh.toNat).toNat (hNV 2 (by decide) wh.toNat (show wh.toNat < nT (gS G) by have h1 := c70.1; have h2 := c70.2; omega)).2 k) (fun r h' hq => ?_)
          obtain ⟨rfl, rfl⟩ := hq
          show Ev X _ _ 94 [Vr 166, Vi kd, Vi wh, Vi k] [Vi (letS ((gS G).1 3 wh.toNat).toNat k)] ((SHv st dr rd), (ovl a s b)) _
          refine Ev.fin (k := 1) (r := (some (Vi (letS ((gS G).1 3 wh.toNat).toNat k)))) (h' := ((SHv st dr rd), (ovl a s b))) (fun _ => rfl) ?_
          refine ⟨?_, rfl⟩
          unfold aLetter
          rw [if_neg (fun g => by omega), if_neg (fun g => by omega), if_pos ⟨Classical.not_not.mp b65, c70⟩]
        · rw [if_neg c70]
          show Ev X _ _ 73 [Vr 166, Vi kd, Vi wh, Vi k] [Vi 0] ((SHv st dr rd), (ovl a s b)) _
          refine Ev.fin (k := 3) (r := (some (Vi (-1)))) (h' := ((SHv st dr rd), (ovl a s b))) (fun _ => rfl) ?_
          refine ⟨?_, rfl⟩
          unfold aLetter
          rw [if_neg (fun g => by first | omega | exact c6 g.2), if_neg (fun g => by first | omega | exact c38 g.2), if_neg (fun g => by first | omega | exact c70 g.2)]
    · refine Ev.call (k := 2) (pc1 := 38) (L1 := [Vr 166, Vi kd, Vi wh, Vi k]) (S1 := [Vi wh, Vr 166]) (h1 := ((SHv st dr rd), (ovl a s b))) (m' := 197) (as := [Vr 166, Vi wh]) (S' := []) (L0 := [Vr 166, Vi wh]) (fun _ => rfl) rfl rfl rfl rfl rfl rfl (m_gWho wh hT) (fun r h' hq => ?_)
      obtain ⟨rfl, rfl⟩ := hq
      by_cases c38 : okW G wh
      · rw [if_pos c38]
        show Ev X _ _ 41 [Vr 166, Vi kd, Vi wh, Vi k] [Vi 1] ((SHv st dr rd), (ovl a s b)) _
        refine Ev.steps (k := 6) (pc' := 54) (L' := [Vr 166, Vi kd, Vi wh, Vi k]) (S' := [Vi (b 166 12), Vi 8, Vr 176]) (h' := ((SHv st dr rd), (ovl a s b))) (fun _ => rfl) ?_
        rw [h12_b]
        refine Ev.steps (k := 1) (pc' := 55) (L' := [Vr 166, Vi kd, Vi wh, Vi k]) (S' := [Vi (w32 (8 * (bk : Int))), Vr 176]) (h' := ((SHv st dr rd), (ovl a s b))) (fun _ => rfl) ?_
        rw [show (w32 (8 * (bk : Int))) = (8 * (bk : Int)) from w32_id (by unfold R32; omega)]
        refine Ev.steps (k := 2) (pc' := 57) (L' := [Vr 166, Vi kd, Vi wh, Vi k]) (S' := [Vi (w32 ((8 * (bk : Int)) + wh)), Vr 176]) (h' := ((SHv st dr rd), (ovl a s b))) (fun _ => rfl) ?_
        rw [show (w32 ((8 * (bk : Int)) + wh)) = ((8 * (bk : Int)) + wh) from w32_id (by unfold R32; omega)]
        refine Ev.lald (v := ((((gS G).1 2 wh.toNat).toNat : Nat) : Int)) rfl (by decide) rfl (by omega) (by omega) ((show (b 176 ((8 * (bk : Int)) + wh).toNat) = _ by have h1 := c38.1; have h2 := c38.2; have hj : wh.toNat < nW (gS G) := (by omega); have hx := h176_b wh.toNat hj; have hv := (hNV 1 (by decide) wh.toNat hj).1; have hv : 0 ≤ (gS G).1 2 wh.toNat := hv; rw [show (8 * (bk : Int) + wh).toNat = 8 * bk + wh.toNat by omega, hx, Int.toNat_of_nonneg hv])) ?_
        refine Ev.call (k := 1) (pc1 := 59) (L1 := [Vr 166, Vi kd, Vi wh, Vi k]) (S1 := [Vi k, Vl ((((gS G).1 2 wh.toNat).toNat : Nat) : Int)]) (h1 := ((SHv st dr rd), (ovl a s b))) (m' := 196) (as := [Vl ((((gS G).1 2 wh.toNat).toNat : Nat) : Int), Vi k]) (S' := []) (L0 := [Vl ((((gS G).1 2 wh.toNat).toNat : Nat) : Int), Vx, Vi k, Vx, Vx, Vx]) (fun _ => rfl) rfl rfl rfl rfl rfl rfl (m_letterOf ((gS G).1 2 wh.toNat).toNat (hNV 1 (by decide) wh.toNat (show wh.toNat < nW (gS G) by have h1 := c38.1; have h2 := c38.2; omega)).2 k) (fun r h' hq => ?_)
        obtain ⟨rfl, rfl⟩ := hq
        show Ev X _ _ 62 [Vr 166, Vi kd, Vi wh, Vi k] [Vi (letS ((gS G).1 2 wh.toNat).toNat k)] ((SHv st dr rd), (ovl a s b)) _
        refine Ev.fin (k := 1) (r := (some (Vi (letS ((gS G).1 2 wh.toNat).toNat k)))) (h' := ((SHv st dr rd), (ovl a s b))) (fun _ => rfl) ?_
        refine ⟨?_, rfl⟩
        unfold aLetter
        rw [if_neg (fun g => by omega), if_pos ⟨Classical.not_not.mp b33, c38⟩]
      · rw [if_neg c38]
        show Ev X _ _ 41 [Vr 166, Vi kd, Vi wh, Vi k] [Vi 0] ((SHv st dr rd), (ovl a s b)) _
        refine Ev.ite (P := kd ≠ 2) (k := 4) (a := 95) (b := 68) (L' := [Vr 166, Vi kd, Vi wh, Vi k]) (S' := []) (h' := ((SHv st dr rd), (ovl a s b))) (fun _ => rfl) (fun b65 => ?_) (fun b65 => ?_)
        · refine Ev.fin (k := 2) (r := (some (Vi (-1)))) (h' := ((SHv st dr rd), (ovl a s b))) (fun _ => rfl) ?_
          refine ⟨?_, rfl⟩
          unfold aLetter
          rw [if_neg (fun g => by first | omega | exact c6 g.2), if_neg (fun g => by first | omega | exact c38 g.2), if_neg (fun g => by first | omega | exact c70 g.2)]
        · refine Ev.call (k := 2) (pc1 := 70) (L1 := [Vr 166, Vi kd, Vi wh, Vi k]) (S1 := [Vi wh, Vr 166]) (h1 := ((SHv st dr rd), (ovl a s b))) (m' := 198) (as := [Vr 166, Vi wh]) (S' := []) (L0 := [Vr 166, Vi wh]) (fun _ => rfl) rfl rfl rfl rfl rfl rfl (m_gThing wh hT) (fun r h' hq => ?_)
          obtain ⟨rfl, rfl⟩ := hq
          by_cases c70 : okT G wh
          · rw [if_pos c70]
            show Ev X _ _ 73 [Vr 166, Vi kd, Vi wh, Vi k] [Vi 1] ((SHv st dr rd), (ovl a s b)) _
            refine Ev.steps (k := 6) (pc' := 86) (L' := [Vr 166, Vi kd, Vi wh, Vi k]) (S' := [Vi (b 166 12), Vi 8, Vr 178]) (h' := ((SHv st dr rd), (ovl a s b))) (fun _ => rfl) ?_
            rw [h12_b]
            refine Ev.steps (k := 1) (pc' := 87) (L' := [Vr 166, Vi kd, Vi wh, Vi k]) (S' := [Vi (w32 (8 * (bk : Int))), Vr 178]) (h' := ((SHv st dr rd), (ovl a s b))) (fun _ => rfl) ?_
            rw [show (w32 (8 * (bk : Int))) = (8 * (bk : Int)) from w32_id (by unfold R32; omega)]
            refine Ev.steps (k := 2) (pc' := 89) (L' := [Vr 166, Vi kd, Vi wh, Vi k]) (S' := [Vi (w32 ((8 * (bk : Int)) + wh)), Vr 178]) (h' := ((SHv st dr rd), (ovl a s b))) (fun _ => rfl) ?_
            rw [show (w32 ((8 * (bk : Int)) + wh)) = ((8 * (bk : Int)) + wh) from w32_id (by unfold R32; omega)]
            refine Ev.lald (v := ((((gS G).1 3 wh.toNat).toNat : Nat) : Int)) rfl (by decide) rfl (by omega) (by omega) ((show (b 178 ((8 * (bk : Int)) + wh).toNat) = _ by have h1 := c70.1; have h2 := c70.2; have hj : wh.toNat < nT (gS G) := (by omega); have hx := h178_b wh.toNat hj; have hv := (hNV 2 (by decide) wh.toNat hj).1; have hv : 0 ≤ (gS G).1 3 wh.toNat := hv; rw [show (8 * (bk : Int) + wh).toNat = 8 * bk + wh.toNat by omega, hx, Int.toNat_of_nonneg hv])) ?_
            refine Ev.call (k := 1) (pc1 := 91) (L1 := [Vr 166, Vi kd, Vi wh, Vi k]) (S1 := [Vi k, Vl ((((gS G).1 3 wh.toNat).toNat : Nat) : Int)]) (h1 := ((SHv st dr rd), (ovl a s b))) (m' := 196) (as := [Vl ((((gS G).1 3 wh.toNat).toNat : Nat) : Int), Vi k]) (S' := []) (L0 := [Vl ((((gS G).1 3 wh.toNat).toNat : Nat) : Int), Vx, Vi k, Vx, Vx, Vx]) (fun _ => rfl) rfl rfl rfl rfl rfl rfl (m_letterOf ((gS G).1 3 wh.toNat).toNat (hNV 2 (by decide) wh.toNat (show wh.toNat < nT (gS G) by have h1 := c70.1; have h2 := c70.2; omega)).2 k) (fun r h' hq => ?_)
            obtain ⟨rfl, rfl⟩ := hq
            show Ev X _ _ 94 [Vr 166, Vi kd, Vi wh, Vi k] [Vi (letS ((gS G).1 3 wh.toNat).toNat k)] ((SHv st dr rd), (ovl a s b)) _
            refine Ev.fin (k := 1) (r := (some (Vi (letS ((gS G).1 3 wh.toNat).toNat k)))) (h' := ((SHv st dr rd), (ovl a s b))) (fun _ => rfl) ?_
            refine ⟨?_, rfl⟩
            unfold aLetter
            rw [if_neg (fun g => by omega), if_neg (fun g => by omega), if_pos ⟨Classical.not_not.mp b65, c70⟩]
          · rw [if_neg c70]
            show Ev X _ _ 73 [Vr 166, Vi kd, Vi wh, Vi k] [Vi 0] ((SHv st dr rd), (ovl a s b)) _
            refine Ev.fin (k := 3) (r := (some (Vi (-1)))) (h' := ((SHv st dr rd), (ovl a s b))) (fun _ => rfl) ?_
            refine ⟨?_, rfl⟩
            unfold aLetter
            rw [if_neg (fun g => by first | omega | exact c6 g.2), if_neg (fun g => by first | omega | exact c38 g.2), if_neg (fun g => by first | omega | exact c70 g.2)]
  · refine Ev.call (k := 2) (pc1 := 6) (L1 := [Vr 166, Vi kd, Vi wh, Vi k]) (S1 := [Vi wh, Vr 166]) (h1 := ((SHv st dr rd), (ovl a s b))) (m' := 195) (as := [Vr 166, Vi wh]) (S' := []) (L0 := [Vr 166, Vi wh]) (fun _ => rfl) rfl rfl rfl rfl rfl rfl (m_gRoom wh hT) (fun r h' hq => ?_)
    obtain ⟨rfl, rfl⟩ := hq
    by_cases c6 : okR G wh
    · rw [if_pos c6]
      show Ev X _ _ 9 [Vr 166, Vi kd, Vi wh, Vi k] [Vi 1] ((SHv st dr rd), (ovl a s b)) _
      refine Ev.steps (k := 6) (pc' := 22) (L' := [Vr 166, Vi kd, Vi wh, Vi k]) (S' := [Vi (b 166 12), Vi 8, Vr 174]) (h' := ((SHv st dr rd), (ovl a s b))) (fun _ => rfl) ?_
      rw [h12_b]
      refine Ev.steps (k := 1) (pc' := 23) (L' := [Vr 166, Vi kd, Vi wh, Vi k]) (S' := [Vi (w32 (8 * (bk : Int))), Vr 174]) (h' := ((SHv st dr rd), (ovl a s b))) (fun _ => rfl) ?_
      rw [show (w32 (8 * (bk : Int))) = (8 * (bk : Int)) from w32_id (by unfold R32; omega)]
      refine Ev.steps (k := 2) (pc' := 25) (L' := [Vr 166, Vi kd, Vi wh, Vi k]) (S' := [Vi (w32 ((8 * (bk : Int)) + wh)), Vr 174]) (h' := ((SHv st dr rd), (ovl a s b))) (fun _ => rfl) ?_
      rw [show (w32 ((8 * (bk : Int)) + wh)) = ((8 * (bk : Int)) + wh) from w32_id (by unfold R32; omega)]
      refine Ev.lald (v := ((((gS G).1 1 wh.toNat).toNat : Nat) : Int)) rfl (by decide) rfl (by omega) (by omega) ((show (b 174 ((8 * (bk : Int)) + wh).toNat) = _ by have h1 := c6.1; have h2 := c6.2; have hj : wh.toNat < nR (gS G) := (by omega); have hx := h174_b wh.toNat hj; have hv := (hNV 0 (by decide) wh.toNat hj).1; have hv : 0 ≤ (gS G).1 1 wh.toNat := hv; rw [show (8 * (bk : Int) + wh).toNat = 8 * bk + wh.toNat by omega, hx, Int.toNat_of_nonneg hv])) ?_
      refine Ev.call (k := 1) (pc1 := 27) (L1 := [Vr 166, Vi kd, Vi wh, Vi k]) (S1 := [Vi k, Vl ((((gS G).1 1 wh.toNat).toNat : Nat) : Int)]) (h1 := ((SHv st dr rd), (ovl a s b))) (m' := 196) (as := [Vl ((((gS G).1 1 wh.toNat).toNat : Nat) : Int), Vi k]) (S' := []) (L0 := [Vl ((((gS G).1 1 wh.toNat).toNat : Nat) : Int), Vx, Vi k, Vx, Vx, Vx]) (fun _ => rfl) rfl rfl rfl rfl rfl rfl (m_letterOf ((gS G).1 1 wh.toNat).toNat (hNV 0 (by decide) wh.toNat (show wh.toNat < nR (gS G) by have h1 := c6.1; have h2 := c6.2; omega)).2 k) (fun r h' hq => ?_)
      obtain ⟨rfl, rfl⟩ := hq
      show Ev X _ _ 30 [Vr 166, Vi kd, Vi wh, Vi k] [Vi (letS ((gS G).1 1 wh.toNat).toNat k)] ((SHv st dr rd), (ovl a s b)) _
      refine Ev.fin (k := 1) (r := (some (Vi (letS ((gS G).1 1 wh.toNat).toNat k)))) (h' := ((SHv st dr rd), (ovl a s b))) (fun _ => rfl) ?_
      refine ⟨?_, rfl⟩
      unfold aLetter
      rw [if_pos ⟨Classical.not_not.mp b1, c6⟩]
    · rw [if_neg c6]
      show Ev X _ _ 9 [Vr 166, Vi kd, Vi wh, Vi k] [Vi 0] ((SHv st dr rd), (ovl a s b)) _
      refine Ev.ite (P := kd ≠ 1) (k := 4) (a := 63) (b := 36) (L' := [Vr 166, Vi kd, Vi wh, Vi k]) (S' := []) (h' := ((SHv st dr rd), (ovl a s b))) (fun _ => rfl) (fun b33 => ?_) (fun b33 => ?_)
      · refine Ev.ite (P := kd ≠ 2) (k := 3) (a := 95) (b := 68) (L' := [Vr 166, Vi kd, Vi wh, Vi k]) (S' := []) (h' := ((SHv st dr rd), (ovl a s b))) (fun _ => rfl) (fun b65 => ?_) (fun b65 => ?_)
        · refine Ev.fin (k := 2) (r := (some (Vi (-1)))) (h' := ((SHv st dr rd), (ovl a s b))) (fun _ => rfl) ?_
          refine ⟨?_, rfl⟩
          unfold aLetter
          rw [if_neg (fun g => by first | omega | exact c6 g.2), if_neg (fun g => by first | omega | exact c38 g.2), if_neg (fun g => by first | omega | exact c70 g.2)]
        · refine Ev.call (k := 2) (pc1 := 70) (L1 := [Vr 166, Vi kd, Vi wh, Vi k]) (S1 := [Vi wh, Vr 166]) (h1 := ((SHv st dr rd), (ovl a s b))) (m' := 198) (as := [Vr 166, Vi wh]) (S' := []) (L0 := [Vr 166, Vi wh]) (fun _ => rfl) rfl rfl rfl rfl rfl rfl (m_gThing wh hT) (fun r h' hq => ?_)
          obtain ⟨rfl, rfl⟩ := hq
          by_cases c70 : okT G wh
          · rw [if_pos c70]
            show Ev X _ _ 73 [Vr 166, Vi kd, Vi wh, Vi k] [Vi 1] ((SHv st dr rd), (ovl a s b)) _
            refine Ev.steps (k := 6) (pc' := 86) (L' := [Vr 166, Vi kd, Vi wh, Vi k]) (S' := [Vi (b 166 12), Vi 8, Vr 178]) (h' := ((SHv st dr rd), (ovl a s b))) (fun _ => rfl) ?_
            rw [h12_b]
            refine Ev.steps (k := 1) (pc' := 87) (L' := [Vr 166, Vi kd, Vi wh, Vi k]) (S' := [Vi (w32 (8 * (bk : Int))), Vr 178]) (h' := ((SHv st dr rd), (ovl a s b))) (fun _ => rfl) ?_
            rw [show (w32 (8 * (bk : Int))) = (8 * (bk : Int)) from w32_id (by unfold R32; omega)]
            refine Ev.steps (k := 2) (pc' := 89) (L' := [Vr 166, Vi kd, Vi wh, Vi k]) (S' := [Vi (w32 ((8 * (bk : Int)) + wh)), Vr 178]) (h' := ((SHv st dr rd), (ovl a s b))) (fun _ => rfl) ?_
            rw [show (w32 ((8 * (bk : Int)) + wh)) = ((8 * (bk : Int)) + wh) from w32_id (by unfold R32; omega)]
            refine Ev.lald (v := ((((gS G).1 3 wh.toNat).toNat : Nat) : Int)) rfl (by decide) rfl (by omega) (by omega) ((show (b 178 ((8 * (bk : Int)) + wh).toNat) = _ by have h1 := c70.1; have h2 := c70.2; have hj : wh.toNat < nT (gS G) := (by omega); have hx := h178_b wh.toNat hj; have hv := (hNV 2 (by decide) wh.toNat hj).1; have hv : 0 ≤ (gS G).1 3 wh.toNat := hv; rw [show (8 * (bk : Int) + wh).toNat = 8 * bk + wh.toNat by omega, hx, Int.toNat_of_nonneg hv])) ?_
            refine Ev.call (k := 1) (pc1 := 91) (L1 := [Vr 166, Vi kd, Vi wh, Vi k]) (S1 := [Vi k, Vl ((((gS G).1 3 wh.toNat).toNat : Nat) : Int)]) (h1 := ((SHv st dr rd), (ovl a s b))) (m' := 196) (as := [Vl ((((gS G).1 3 wh.toNat).toNat : Nat) : Int), Vi k]) (S' := []) (L0 := [Vl ((((gS G).1 3 wh.toNat).toNat : Nat) : Int), Vx, Vi k, Vx, Vx, Vx]) (fun _ => rfl) rfl rfl rfl rfl rfl rfl (m_letterOf ((gS G).1 3 wh.toNat).toNat (hNV 2 (by decide) wh.toNat (show wh.toNat < nT (gS G) by have h1 := c70.1; have h2 := c70.2; omega)).2 k) (fun r h' hq => ?_)
            obtain ⟨rfl, rfl⟩ := hq
            show Ev X _ _ 94 [Vr 166, Vi kd, Vi wh, Vi k] [Vi (letS ((gS G).1 3 wh.toNat).toNat k)] ((SHv st dr rd), (ovl a s b)) _
            refine Ev.fin (k := 1) (r := (some (Vi (letS ((gS G).1 3 wh.toNat).toNat k)))) (h' := ((SHv st dr rd), (ovl a s b))) (fun _ => rfl) ?_
            refine ⟨?_, rfl⟩
            unfold aLetter
            rw [if_neg (fun g => by omega), if_neg (fun g => by omega), if_pos ⟨Classical.not_not.mp b65, c70⟩]
          · rw [if_neg c70]
            show Ev X _ _ 73 [Vr 166, Vi kd, Vi wh, Vi k] [Vi 0] ((SHv st dr rd), (ovl a s b)) _
            refine Ev.fin (k := 3) (r := (some (Vi (-1)))) (h' := ((SHv st dr rd), (ovl a s b))) (fun _ => rfl) ?_
            refine ⟨?_, rfl⟩
            unfold aLetter
            rw [if_neg (fun g => by first | omega | exact c6 g.2), if_neg (fun g => by first | omega | exact c38 g.2), if_neg (fun g => by first | omega | exact c70 g.2)]
      · refine Ev.call (k := 2) (pc1 := 38) (L1 := [Vr 166, Vi kd, Vi wh, Vi k]) (S1 := [Vi wh, Vr 166]) (h1 := ((SHv st dr rd), (ovl a s b))) (m' := 197) (as := [Vr 166, Vi wh]) (S' := []) (L0 := [Vr 166, Vi wh]) (fun _ => rfl) rfl rfl rfl rfl rfl rfl (m_gWho wh hT) (fun r h' hq => ?_)
        obtain ⟨rfl, rfl⟩ := hq
        by_cases c38 : okW G wh
        · rw [if_pos c38]
          show Ev X _ _ 41 [Vr 166, Vi kd, Vi wh, Vi k] [Vi 1] ((SHv st dr rd), (ovl a s b)) _
          refine Ev.steps (k := 6) (pc' := 54) (L' := [Vr 166, Vi kd, Vi wh, Vi k]) (S' := [Vi (b 166 12), Vi 8, Vr 176]) (h' := ((SHv st dr rd), (ovl a s b))) (fun _ => rfl) ?_
          rw [h12_b]
          refine Ev.steps (k := 1) (pc' := 55) (L' := [Vr 166, Vi kd, Vi wh, Vi k]) (S' := [Vi (w32 (8 * (bk : Int))), Vr 176]) (h' := ((SHv st dr rd), (ovl a s b))) (fun _ => rfl) ?_
          rw [show (w32 (8 * (bk : Int))) = (8 * (bk : Int)) from w32_id (by unfold R32; omega)]
          refine Ev.steps (k := 2) (pc' := 57) (L' := [Vr 166, Vi kd, Vi wh, Vi k]) (S' := [Vi (w32 ((8 * (bk : Int)) + wh)), Vr 176]) (h' := ((SHv st dr rd), (ovl a s b))) (fun _ => rfl) ?_
          rw [show (w32 ((8 * (bk : Int)) + wh)) = ((8 * (bk : Int)) + wh) from w32_id (by unfold R32; omega)]
          refine Ev.lald (v := ((((gS G).1 2 wh.toNat).toNat : Nat) : Int)) rfl (by decide) rfl (by omega) (by omega) ((show (b 176 ((8 * (bk : Int)) + wh).toNat) = _ by have h1 := c38.1; have h2 := c38.2; have hj : wh.toNat < nW (gS G) := (by omega); have hx := h176_b wh.toNat hj; have hv := (hNV 1 (by decide) wh.toNat hj).1; have hv : 0 ≤ (gS G).1 2 wh.toNat := hv; rw [show (8 * (bk : Int) + wh).toNat = 8 * bk + wh.toNat by omega, hx, Int.toNat_of_nonneg hv])) ?_
          refine Ev.call (k := 1) (pc1 := 59) (L1 := [Vr 166, Vi kd, Vi wh, Vi k]) (S1 := [Vi k, Vl ((((gS G).1 2 wh.toNat).toNat : Nat) : Int)]) (h1 := ((SHv st dr rd), (ovl a s b))) (m' := 196) (as := [Vl ((((gS G).1 2 wh.toNat).toNat : Nat) : Int), Vi k]) (S' := []) (L0 := [Vl ((((gS G).1 2 wh.toNat).toNat : Nat) : Int), Vx, Vi k, Vx, Vx, Vx]) (fun _ => rfl) rfl rfl rfl rfl rfl rfl (m_letterOf ((gS G).1 2 wh.toNat).toNat (hNV 1 (by decide) wh.toNat (show wh.toNat < nW (gS G) by have h1 := c38.1; have h2 := c38.2; omega)).2 k) (fun r h' hq => ?_)
          obtain ⟨rfl, rfl⟩ := hq
          show Ev X _ _ 62 [Vr 166, Vi kd, Vi wh, Vi k] [Vi (letS ((gS G).1 2 wh.toNat).toNat k)] ((SHv st dr rd), (ovl a s b)) _
          refine Ev.fin (k := 1) (r := (some (Vi (letS ((gS G).1 2 wh.toNat).toNat k)))) (h' := ((SHv st dr rd), (ovl a s b))) (fun _ => rfl) ?_
          refine ⟨?_, rfl⟩
          unfold aLetter
          rw [if_neg (fun g => by omega), if_pos ⟨Classical.not_not.mp b33, c38⟩]
        · rw [if_neg c38]
          show Ev X _ _ 41 [Vr 166, Vi kd, Vi wh, Vi k] [Vi 0] ((SHv st dr rd), (ovl a s b)) _
          refine Ev.ite (P := kd ≠ 2) (k := 4) (a := 95) (b := 68) (L' := [Vr 166, Vi kd, Vi wh, Vi k]) (S' := []) (h' := ((SHv st dr rd), (ovl a s b))) (fun _ => rfl) (fun b65 => ?_) (fun b65 => ?_)
          · refine Ev.fin (k := 2) (r := (some (Vi (-1)))) (h' := ((SHv st dr rd), (ovl a s b))) (fun _ => rfl) ?_
            refine ⟨?_, rfl⟩
            unfold aLetter
            rw [if_neg (fun g => by first | omega | exact c6 g.2), if_neg (fun g => by first | omega | exact c38 g.2), if_neg (fun g => by first | omega | exact c70 g.2)]
          · refine Ev.call (k := 2) (pc1 := 70) (L1 := [Vr 166, Vi kd, Vi wh, Vi k]) (S1 := [Vi wh, Vr 166]) (h1 := ((SHv st dr rd), (ovl a s b))) (m' := 198) (as := [Vr 166, Vi wh]) (S' := []) (L0 := [Vr 166, Vi wh]) (fun _ => rfl) rfl rfl rfl rfl rfl rfl (m_gThing wh hT) (fun r h' hq => ?_)
            obtain ⟨rfl, rfl⟩ := hq
            by_cases c70 : okT G wh
            · rw [if_pos c70]
              show Ev X _ _ 73 [Vr 166, Vi kd, Vi wh, Vi k] [Vi 1] ((SHv st dr rd), (ovl a s b)) _
              refine Ev.steps (k := 6) (pc' := 86) (L' := [Vr 166, Vi kd, Vi wh, Vi k]) (S' := [Vi (b 166 12), Vi 8, Vr 178]) (h' := ((SHv st dr rd), (ovl a s b))) (fun _ => rfl) ?_
              rw [h12_b]
              refine Ev.steps (k := 1) (pc' := 87) (L' := [Vr 166, Vi kd, Vi wh, Vi k]) (S' := [Vi (w32 (8 * (bk : Int))), Vr 178]) (h' := ((SHv st dr rd), (ovl a s b))) (fun _ => rfl) ?_
              rw [show (w32 (8 * (bk : Int))) = (8 * (bk : Int)) from w32_id (by unfold R32; omega)]
              refine Ev.steps (k := 2) (pc' := 89) (L' := [Vr 166, Vi kd, Vi wh, Vi k]) (S' := [Vi (w32 ((8 * (bk : Int)) + wh)), Vr 178]) (h' := ((SHv st dr rd), (ovl a s b))) (fun _ => rfl) ?_
              rw [show (w32 ((8 * (bk : Int)) + wh)) = ((8 * (bk : Int)) + wh) from w32_id (by unfold R32; omega)]
              refine Ev.lald (v := ((((gS G).1 3 wh.toNat).toNat : Nat) : Int)) rfl (by decide) rfl (by omega) (by omega) ((show (b 178 ((8 * (bk : Int)) + wh).toNat) = _ by have h1 := c70.1; have h2 := c70.2; have hj : wh.toNat < nT (gS G) := (by omega); have hx := h178_b wh.toNat hj; have hv := (hNV 2 (by decide) wh.toNat hj).1; have hv : 0 ≤ (gS G).1 3 wh.toNat := hv; rw [show (8 * (bk : Int) + wh).toNat = 8 * bk + wh.toNat by omega, hx, Int.toNat_of_nonneg hv])) ?_
              refine Ev.call (k := 1) (pc1 := 91) (L1 := [Vr 166, Vi kd, Vi wh, Vi k]) (S1 := [Vi k, Vl ((((gS G).1 3 wh.toNat).toNat : Nat) : Int)]) (h1 := ((SHv st dr rd), (ovl a s b))) (m' := 196) (as := [Vl ((((gS G).1 3 wh.toNat).toNat : Nat) : Int), Vi k]) (S' := []) (L0 := [Vl ((((gS G).1 3 wh.toNat).toNat : Nat) : Int), Vx, Vi k, Vx, Vx, Vx]) (fun _ => rfl) rfl rfl rfl rfl rfl rfl (m_letterOf ((gS G).1 3 wh.toNat).toNat (hNV 2 (by decide) wh.toNat (show wh.toNat < nT (gS G) by have h1 := c70.1; have h2 := c70.2; omega)).2 k) (fun r h' hq => ?_)
              obtain ⟨rfl, rfl⟩ := hq
              show Ev X _ _ 94 [Vr 166, Vi kd, Vi wh, Vi k] [Vi (letS ((gS G).1 3 wh.toNat).toNat k)] ((SHv st dr rd), (ovl a s b)) _
              refine Ev.fin (k := 1) (r := (some (Vi (letS ((gS G).1 3 wh.toNat).toNat k)))) (h' := ((SHv st dr rd), (ovl a s b))) (fun _ => rfl) ?_
              refine ⟨?_, rfl⟩
              unfold aLetter
              rw [if_neg (fun g => by omega), if_neg (fun g => by omega), if_pos ⟨Classical.not_not.mp b65, c70⟩]
            · rw [if_neg c70]
              show Ev X _ _ 73 [Vr 166, Vi kd, Vi wh, Vi k] [Vi 0] ((SHv st dr rd), (ovl a s b)) _
              refine Ev.fin (k := 3) (r := (some (Vi (-1)))) (h' := ((SHv st dr rd), (ovl a s b))) (fun _ => rfl) ?_
              refine ⟨?_, rfl⟩
              unfold aLetter
              rw [if_neg (fun g => by first | omega | exact c6 g.2), if_neg (fun g => by first | omega | exact c38 g.2), if_neg (fun g => by first | omega | exact c70 g.2)]
