/-! THE REFERENCE: what it answers of an evening -/
theorem ite_cg {α : Type} {P Q : Prop} [Decidable P] [Decidable Q] {x y : α} (h : P ↔ Q) : (if P then x else y) = if Q then x else y := by
  by_cases hp : P
  · rw [if_pos hp, if_pos (h.mp hp)]
  · rw [if_neg hp, if_neg (fun hq => hp (h.mpr hq))]
theorem m_gWho {X : List Int} {d : Nat} {st dr rd : Int} {a s b : C3} (x : Int) {G : GST} (hT : TopM G b) : Ev X (d + 1) 197 0 [Vr 166, Vi x] [] (SHv st dr rd, ovl a s b) (fun rr hh => rr = some (Vi (if okW G x then 1 else 0)) ∧ hh = (SHv st dr rd, ovl a s b)) := by
  obtain ⟨bk, hY_b, hWY, hB1, hWB, hWE, hn180, hEQ, hTp, hfk, hfp, hO⟩ := id hT
  obtain ⟨hb2_b, h12_b, h168_b, h169_b, h170_b, h171_b, h173_b, h172_b, h174_b, h176_b, h178_b, h175_b, h177_b, h179_b, h180_b, h184_b⟩ := id hY_b
  obtain ⟨wR, wD, wW, wT, wL, wC, wdoor, wsym, wWI, wTI, wCl, wRu⟩ := id hWY
  obtain ⟨w8, wWc⟩ := wW
  obtain ⟨t8, wTc⟩ := wT
  obtain ⟨r8, wRc⟩ := wR
  obtain ⟨l30, wLc⟩ := wL
  obtain ⟨c12, wCc⟩ := wC
  obtain ⟨e202, e203, e204, e211, e210, eHis, e212⟩ := id hEQ
  refine Ev.steps (k := 6) (pc' := 10) (L' := [Vr 166, Vi x]) (S' := [Vi (b 166 12), Vr 170, Vi 0, Vi x]) (h' := ((SHv st dr rd), (ovl a s b))) (fun _ => rfl) ?_
  rw [h12_b]
  refine Ev.iald (v := ((nW (gS G) : Nat) : Int)) rfl (by decide) rfl (by omega) (by omega) (h170_b) ?_
  refine Ev.steps (k := 2) (pc' := 13) (L' := [Vr 166, Vi x]) (S' := [Vi (w32 (((nW (gS G) : Nat) : Int) - 1)), Vi 0, Vi x]) (h' := ((SHv st dr rd), (ovl a s b))) (fun _ => rfl) ?_
  rw [show (w32 (((nW (gS G) : Nat) : Int) - 1)) = (((nW (gS G) : Nat) : Int) - 1) from w32_id (by unfold R32; omega)]
  refine Ev.call (k := 0) (pc1 := 13) (L1 := [Vr 166, Vi x]) (S1 := [Vi (((nW (gS G) : Nat) : Int) - 1), Vi 0, Vi x]) (h1 := ((SHv st dr rd), (ovl a s b))) (m' := 189) (as := [Vi x, Vi 0, Vi (((nW (gS G) : Nat) : Int) - 1)]) (S' := []) (L0 := [Vi x, Vi 0, Vi (((nW (gS G) : Nat) : Int) - 1)]) (fun _ => rfl) rfl rfl rfl rfl rfl rfl (m_is x 0 ((((nW (gS G) : Nat) : Int) - 1))) (fun r h' hq => ?_)
  obtain ⟨rfl, rfl⟩ := hq
  show Ev X _ _ 16 [Vr 166, Vi x] [Vi (if 0 ≤ x ∧ x ≤ (((nW (gS G) : Nat) : Int) - 1) then 1 else 0)] ((SHv st dr rd), (ovl a s b)) _
  refine Ev.fin (k := 1) (r := (some (Vi (if 0 ≤ x ∧ x ≤ (((nW (gS G) : Nat) : Int) - 1) then 1 else 0)))) (h' := ((SHv st dr rd), (ovl a s b))) (fun _ => Ev_retz rfl (by omega)) ?_
  refine ⟨?_, rfl⟩
  rw [ite_cg (show (0 ≤ x ∧ x ≤ ((nW (gS G) : Nat) : Int) - 1) ↔ okW G x from ⟨fun h => by omega, fun h => by omega⟩)]
theorem m_gRoom {X : List Int} {d : Nat} {st dr rd : Int} {a s b : C3} (x : Int) {G : GST} (hT : TopM G b) : Ev X (d + 1) 195 0 [Vr 166, Vi x] [] (SHv st dr rd, ovl a s b) (fun rr hh => rr = some (Vi (if okR G x then 1 else 0)) ∧ hh = (SHv st dr rd, ovl a s b)) := by
  obtain ⟨bk, hY_b, hWY, hB1, hWB, hWE, hn180, hEQ, hTp, hfk, hfp, hO⟩ := id hT
  obtain ⟨hb2_b, h12_b, h168_b, h169_b, h170_b, h171_b, h173_b, h172_b, h174_b, h176_b, h178_b, h175_b, h177_b, h179_b, h180_b, h184_b⟩ := id hY_b
  obtain ⟨wR, wD, wW, wT, wL, wC, wdoor, wsym, wWI, wTI, wCl, wRu⟩ := id hWY
  obtain ⟨w8, wWc⟩ := wW
  obtain ⟨t8, wTc⟩ := wT
  obtain ⟨r8, wRc⟩ := wR
  obtain ⟨l30, wLc⟩ := wL
  obtain ⟨c12, wCc⟩ := wC
  obtain ⟨e202, e203, e204, e211, e210, eHis, e212⟩ := id hEQ
  refine Ev.steps (k := 6) (pc' := 10) (L' := [Vr 166, Vi x]) (S' := [Vi (b 166 12), Vr 168, Vi 0, Vi x]) (h' := ((SHv st dr rd), (ovl a s b))) (fun _ => rfl) ?_
  rw [h12_b]
  refine Ev.iald (v := ((nR (gS G) : Nat) : Int)) rfl (by decide) rfl (by omega) (by omega) (h168_b) ?_
  refine Ev.steps (k := 2) (pc' := 13) (L' := [Vr 166, Vi x]) (S' := [Vi (w32 (((nR (gS G) : Nat) : Int) - 1)), Vi 0, Vi x]) (h' := ((SHv st dr rd), (ovl a s b))) (fun _ => rfl) ?_
  rw [show (w32 (((nR (gS G) : Nat) : Int) - 1)) = (((nR (gS G) : Nat) : Int) - 1) from w32_id (by unfold R32; omega)]
  refine Ev.call (k := 0) (pc1 := 13) (L1 := [Vr 166, Vi x]) (S1 := [Vi (((nR (gS G) : Nat) : Int) - 1), Vi 0, Vi x]) (h1 := ((SHv st dr rd), (ovl a s b))) (m' := 189) (as := [Vi x, Vi 0, Vi (((nR (gS G) : Nat) : Int) - 1)]) (S' := []) (L0 := [Vi x, Vi 0, Vi (((nR (gS G) : Nat) : Int) - 1)]) (fun _ => rfl) rfl rfl rfl rfl rfl rfl (m_is x 0 ((((nR (gS G) : Nat) : Int) - 1))) (fun r h' hq => ?_)
  obtain ⟨rfl, rfl⟩ := hq
  show Ev X _ _ 16 [Vr 166, Vi x] [Vi (if 0 ≤ x ∧ x ≤ (((nR (gS G) : Nat) : Int) - 1) then 1 else 0)] ((SHv st dr rd), (ovl a s b)) _
  refine Ev.fin (k := 1) (r := (some (Vi (if 0 ≤ x ∧ x ≤ (((nR (gS G) : Nat) : Int) - 1) then 1 else 0)))) (h' := ((SHv st dr rd), (ovl a s b))) (fun _ => Ev_retz rfl (by omega)) ?_
  refine ⟨?_, rfl⟩
  rw [ite_cg (show (0 ≤ x ∧ x ≤ ((nR (gS G) : Nat) : Int) - 1) ↔ okR G x from ⟨fun h => by omega, fun h => by omega⟩)]
theorem m_gThing {X : List Int} {d : Nat} {st dr rd : Int} {a s b : C3} (x : Int) {G : GST} (hT : TopM G b) : Ev X (d + 1) 198 0 [Vr 166, Vi x] [] (SHv st dr rd, ovl a s b) (fun rr hh => rr = some (Vi (if okT G x then 1 else 0)) ∧ hh = (SHv st dr rd, ovl a s b)) := by
  obtain ⟨bk, hY_b, hWY, hB1, hWB, hWE, hn180, hEQ, hTp, hfk, hfp, hO⟩ := id hT
  obtain ⟨hb2_b, h12_b, h168_b, h169_b, h170_b, h171_b, h173_b, h172_b, h174_b, h176_b, h178_b, h175_b, h177_b, h179_b, h180_b, h184_b⟩ := id hY_b
  obtain ⟨wR, wD, wW, wT, wL, wC, wdoor, wsym, wWI, wTI, wCl, wRu⟩ := id hWY
  obtain ⟨w8, wWc⟩ := wW
  obtain ⟨t8, wTc⟩ := wT
  obtain ⟨r8, wRc⟩ := wR
  obtain ⟨l30, wLc⟩ := wL
  obtain ⟨c12, wCc⟩ := wC
  obtain ⟨e202, e203, e204, e211, e210, eHis, e212⟩ := id hEQ
  refine Ev.steps (k := 6) (pc' := 10) (L' := [Vr 166, Vi x]) (S' := [Vi (b 166 12), Vr 171, Vi 0, Vi x]) (h' := ((SHv st dr rd), (ovl a s b))) (fun _ => rfl) ?_
  rw [h12_b]
  refine Ev.iald (v := ((nT (gS G) : Nat) : Int)) rfl (by decide) rfl (by omega) (by omega) (h171_b) ?_
  refine Ev.steps (k := 2) (pc' := 13) (L' := [Vr 166, Vi x]) (S' := [Vi (w32 (((nT (gS G) : Nat) : Int) - 1)), Vi 0, Vi x]) (h' := ((SHv st dr rd), (ovl a s b))) (fun _ => rfl) ?_
  rw [show (w32 (((nT (gS G) : Nat) : Int) - 1)) = (((nT (gS G) : Nat) : Int) - 1) from w32_id (by unfold R32; omega)]
  refine Ev.call (k := 0) (pc1 := 13) (L1 := [Vr 166, Vi x]) (S1 := [Vi (((nT (gS G) : Nat) : Int) - 1), Vi 0, Vi x]) (h1 := ((SHv st dr rd), (ovl a s b))) (m' := 189) (as := [Vi x, Vi 0, Vi (((nT (gS G) : Nat) : Int) - 1)]) (S' := []) (L0 := [Vi x, Vi 0, Vi (((nT (gS G) : Nat) : Int) - 1)]) (fun _ => rfl) rfl rfl rfl rfl rfl rfl (m_is x 0 ((((nT (gS G) : Nat) : Int) - 1))) (fun r h' hq => ?_)
  obtain ⟨rfl, rfl⟩ := hq
  show Ev X _ _ 16 [Vr 166, Vi x] [Vi (if 0 ≤ x ∧ x ≤ (((nT (gS G) : Nat) : Int) - 1) then 1 else 0)] ((SHv st dr rd), (ovl a s b)) _
  refine Ev.fin (k := 1) (r := (some (Vi (if 0 ≤ x ∧ x ≤ (((nT (gS G) : Nat) : Int) - 1) then 1 else 0)))) (h' := ((SHv st dr rd), (ovl a s b))) (fun _ => Ev_retz rfl (by omega)) ?_
  refine ⟨?_, rfl⟩
  rw [ite_cg (show (0 ≤ x ∧ x ≤ ((nT (gS G) : Nat) : Int) - 1) ↔ okT G x from ⟨fun h => by omega, fun h => by omega⟩)]
theorem m_gMin {X : List Int} {d : Nat} {st dr rd : Int} {a s b : C3} (x : Int) {G : GST} (hT : TopM G b) : Ev X (d + 1) 225 0 [Vr 166, Vi x] [] (SHv st dr rd, ovl a s b) (fun rr hh => rr = some (Vi (if okM G x then 1 else 0)) ∧ hh = (SHv st dr rd, ovl a s b)) := by
  obtain ⟨bk, hY_b, hWY, hB1, hWB, hWE, hn180, hEQ, hTp, hfk, hfp, hO⟩ := id hT
  obtain ⟨hb2_b, h12_b, h168_b, h169_b, h170_b, h171_b, h173_b, h172_b, h174_b, h176_b, h178_b, h175_b, h177_b, h179_b, h180_b, h184_b⟩ := id hY_b
  obtain ⟨wR, wD, wW, wT, wL, wC, wdoor, wsym, wWI, wTI, wCl, wRu⟩ := id hWY
  obtain ⟨w8, wWc⟩ := wW
  obtain ⟨t8, wTc⟩ := wT
  obtain ⟨r8, wRc⟩ := wR
  obtain ⟨l30, wLc⟩ := wL
  obtain ⟨c12, wCc⟩ := wC
  obtain ⟨e202, e203, e204, e211, e210, eHis, e212⟩ := id hEQ
  refine Ev.steps (k := 6) (pc' := 8) (L' := [Vr 166, Vi x]) (S' := [Vi (b 202 0), Vi 0, Vi x]) (h' := ((SHv st dr rd), (ovl a s b))) (fun _ => rfl) ?_
  rw [e202]
  refine Ev.steps (k := 2) (pc' := 10) (L' := [Vr 166, Vi x]) (S' := [Vi (w32 (((gn G : Nat) : Int) - 1)), Vi 0, Vi x]) (h' := ((SHv st dr rd), (ovl a s b))) (fun _ => rfl) ?_
  rw [show (w32 (((gn G : Nat) : Int) - 1)) = (((gn G : Nat) : Int) - 1) from w32_id (by unfold R32; omega)]
  refine Ev.call (k := 0) (pc1 := 10) (L1 := [Vr 166, Vi x]) (S1 := [Vi (((gn G : Nat) : Int) - 1), Vi 0, Vi x]) (h1 := ((SHv st dr rd), (ovl a s b))) (m' := 189) (as := [Vi x, Vi 0, Vi (((gn G : Nat) : Int) - 1)]) (S' := []) (L0 := [Vi x, Vi 0, Vi (((gn G : Nat) : Int) - 1)]) (fun _ => rfl) rfl rfl rfl rfl rfl rfl (m_is x 0 ((((gn G : Nat) : Int) - 1))) (fun r h' hq => ?_)
  obtain ⟨rfl, rfl⟩ := hq
  show Ev X _ _ 13 [Vr 166, Vi x] [Vi (if 0 ≤ x ∧ x ≤ (((gn G : Nat) : Int) - 1) then 1 else 0)] ((SHv st dr rd), (ovl a s b)) _
  refine Ev.fin (k := 1) (r := (some (Vi (if 0 ≤ x ∧ x ≤ (((gn G : Nat) : Int) - 1) then 1 else 0)))) (h' := ((SHv st dr rd), (ovl a s b))) (fun _ => Ev_retz rfl (by omega)) ?_
  refine ⟨?_, rfl⟩
  rw [ite_cg (show (0 ≤ x ∧ x ≤ ((gn G : Nat) : Int) - 1) ↔ okM G x from ⟨fun h => by omega, fun h => by omega⟩)]
theorem g_was {X : List Int} {d : Nat} {st dr rd : Int} {a s b : C3} (x m : Int) {G : GST} (hT : TopM G b) : Ev X (d + 2) 224 0 [Vr 166, Vi x, Vi m] [] (SHv st dr rd, ovl a s b) (fun rr hh => rr = some (Vi (aWas G x m)) ∧ hh = (SHv st dr rd, ovl a s b)) := by
  obtain ⟨bk, hY_b, hWY, hB1, hWB, hWE, hn180, hEQ, hTp, hfk, hfp, hO⟩ := id hT
  obtain ⟨hb2_b, h12_b, h168_b, h169_b, h170_b, h171_b, h173_b, h172_b, h174_b, h176_b, h178_b, h175_b, h177_b, h179_b, h180_b, h184_b⟩ := id hY_b
  obtain ⟨wR, wD, wW, wT, wL, wC, wdoor, wsym, wWI, wTI, wCl, wRu⟩ := id hWY
  obtain ⟨w8, wWc⟩ := wW
  obtain ⟨t8, wTc⟩ := wT
  obtain ⟨r8, wRc⟩ := wR
  obtain ⟨l30, wLc⟩ := wL
  obtain ⟨c12, wCc⟩ := wC
  obtain ⟨e202, e203, e204, e211, e210, eHis, e212⟩ := id hEQ
  refine Ev.call (k := 2) (pc1 := 2) (L1 := [Vr 166, Vi x, Vi m]) (S1 := [Vi x, Vr 166]) (h1 := ((SHv st dr rd), (ovl a s b))) (m' := 197) (as := [Vr 166, Vi x]) (S' := []) (L0 := [Vr 166, Vi x]) (fun _ => rfl) rfl rfl rfl rfl rfl rfl (m_gWho x hT) (fun r h' hq => ?_)
  obtain ⟨rfl, rfl⟩ := hq
  by_cases c2 : okW G x
  · rw [if_pos c2]
    show Ev X _ _ 5 [Vr 166, Vi x, Vi m] [Vi 1] ((SHv st dr rd), (ovl a s b)) _
    refine Ev.call (k := 3) (pc1 := 10) (L1 := [Vr 166, Vi x, Vi m]) (S1 := [Vi m, Vr 166]) (h1 := ((SHv st dr rd), (ovl a s b))) (m' := 225) (as := [Vr 166, Vi m]) (S' := []) (L0 := [Vr 166, Vi m]) (fun _ => rfl) rfl rfl rfl rfl rfl rfl (m_gMin m hT) (fun r h' hq => ?_)
    obtain ⟨rfl, rfl⟩ := hq
    by_cases c10 : okM G m
    · rw [if_pos c10]
      show Ev X _ _ 13 [Vr 166, Vi x, Vi m] [Vi 1] ((SHv st dr rd), (ovl a s b)) _
      refine Ev.call (k := 6) (pc1 := 23) (L1 := [Vr 166, Vi x, Vi m]) (S1 := [Vi m, Vi 0, Vr 166, Vr 205]) (h1 := ((SHv st dr rd), (ovl a s b))) (m' := 206) (as := [Vr 166, Vi 0, Vi m]) (S' := [Vr 205]) (L0 := [Vr 166, Vi 0, Vi m]) (fun _ => rfl) rfl rfl rfl rfl rfl rfl (m_at 0 m (by omega) (by omega)) (fun r h' hq => ?_)
      obtain ⟨rfl, rfl⟩ := hq
      show Ev X _ _ 26 [Vr 166, Vi x, Vi m] [Vi ((1440 * 0) + (8 * m)), Vr 205] ((SHv st dr rd), (ovl a s b)) _
      refine Ev.steps (k := 2) (pc' := 28) (L' := [Vr 166, Vi x, Vi m]) (S' := [Vi (w32 (((1440 * 0) + (8 * m)) + x)), Vr 205]) (h' := ((SHv st dr rd), (ovl a s b))) (fun _ => rfl) ?_
      rw [show (w32 (((1440 * 0) + (8 * m)) + x)) = (((1440 * 0) + (8 * m)) + x) from w32_id (by unfold R32; omega)]
      refine Ev.iald (v := (b 205 (((1440 * 0) + (8 * m)) + x).toNat)) rfl (by decide) rfl (by omega) (by omega) (rfl) ?_
      refine Ev.fin (k := 2) (r := (some (Vi (b 205 (((1440 * 0) + (8 * m)) + x).toNat)))) (h' := ((SHv st dr rd), (ovl a s b))) (fun _ => rfl) ?_
      refine ⟨?_, rfl⟩
      unfold aWas
      first
        | (rw [if_neg (by omega)])
        | (rw [if_pos (by omega)]
           have hx := (eHis m.toNat (by omega)).1 x.toNat (by omega)
           rw [show (1440 * 0 + 8 * m + x).toNat = 1440 * 0 + 8 * m.toNat + x.toNat by omega, hx])
    · rw [if_neg c10]
      show Ev X _ _ 13 [Vr 166, Vi x, Vi m] [Vi 0] ((SHv st dr rd), (ovl a s b)) _
      refine Ev.fin (k := 3) (r := (some (Vi (-1)))) (h' := ((SHv st dr rd), (ovl a s b))) (fun _ => rfl) ?_
      refine ⟨?_, rfl⟩
      unfold aWas
      first
        | (rw [if_neg (by omega)])
        | (rw [if_pos (by omega)]
           have hx := (eHis m.toNat (by omega)).1 x.toNat (by omega)
           rw [show (1440 * 0 + 8 * m + x).toNat = 1440 * 0 + 8 * m.toNat + x.toNat by omega, hx])
  · rw [if_neg c2]
    show Ev X _ _ 5 [Vr 166, Vi x, Vi m] [Vi 0] ((SHv st dr rd), (ovl a s b)) _
    refine Ev.fin (k := 3) (r := (some (Vi (-1)))) (h' := ((SHv st dr rd), (ovl a s b))) (fun _ => rfl) ?_
    refine ⟨?_, rfl⟩
    unfold aWas
    first
      | (rw [if_neg (by omega)])
      | (rw [if_pos (by omega)]
         have hx := (eHis m.toNat (by omega)).1 x.toNat (by omega)
         rw [show (1440 * 0 + 8 * m + x).toNat = 1440 * 0 + 8 * m.toNat + x.toNat by omega, hx])
theorem g_where {X : List Int} {d : Nat} {st dr rd : Int} {a s b : C3} (x m : Int) {G : GST} (hT : TopM G b) : Ev X (d + 2) 227 0 [Vr 166, Vi x, Vi m] [] (SHv st dr rd, ovl a s b) (fun rr hh => rr = some (Vi (aWhere G x m)) ∧ hh = (SHv st dr rd, ovl a s b)) := by
  obtain ⟨bk, hY_b, hWY, hB1, hWB, hWE, hn180, hEQ, hTp, hfk, hfp, hO⟩ := id hT
  obtain ⟨hb2_b, h12_b, h168_b, h169_b, h170_b, h171_b, h173_b, h172_b, h174_b, h176_b, h178_b, h175_b, h177_b, h179_b, h180_b, h184_b⟩ := id hY_b
  obtain ⟨wR, wD, wW, wT, wL, wC, wdoor, wsym, wWI, wTI, wCl, wRu⟩ := id hWY
  obtain ⟨w8, wWc⟩ := wW
  obtain ⟨t8, wTc⟩ := wT
  obtain ⟨r8, wRc⟩ := wR
  obtain ⟨l30, wLc⟩ := wL
  obtain ⟨c12, wCc⟩ := wC
  obtain ⟨e202, e203, e204, e211, e210, eHis, e212⟩ := id hEQ
  refine Ev.call (k := 2) (pc1 := 2) (L1 := [Vr 166, Vi x, Vi m]) (S1 := [Vi x, Vr 166]) (h1 := ((SHv st dr rd), (ovl a s b))) (m' := 198) (as := [Vr 166, Vi x]) (S' := []) (L0 := [Vr 166, Vi x]) (fun _ => rfl) rfl rfl rfl rfl rfl rfl (m_gThing x hT) (fun r h' hq => ?_)
  obtain ⟨rfl, rfl⟩ := hq
  by_cases c2 : okT G x
  · rw [if_pos c2]
    show Ev X _ _ 5 [Vr 166, Vi x, Vi m] [Vi 1] ((SHv st dr rd), (ovl a s b)) _
    refine Ev.call (k := 3) (pc1 := 10) (L1 := [Vr 166, Vi x, Vi m]) (S1 := [Vi m, Vr 166]) (h1 := ((SHv st dr rd), (ovl a s b))) (m' := 225) (as := [Vr 166, Vi m]) (S' := []) (L0 := [Vr 166, Vi m]) (fun _ => rfl) rfl rfl rfl rfl rfl rfl (m_gMin m hT) (fun r h' hq => ?_)
    obtain ⟨rfl, rfl⟩ := hq
    by_cases c10 : okM G m
    · rw [if_pos c10]
      show Ev X _ _ 13 [Vr 166, Vi x, Vi m] [Vi 1] ((SHv st dr rd), (ovl a s b)) _
      refine Ev.call (k := 6) (pc1 := 23) (L1 := [Vr 166, Vi x, Vi m]) (S1 := [Vi m, Vi 0, Vr 166, Vr 207]) (h1 := ((SHv st dr rd), (ovl a s b))) (m' := 206) (as := [Vr 166, Vi 0, Vi m]) (S' := [Vr 207]) (L0 := [Vr 166, Vi 0, Vi m]) (fun _ => rfl) rfl rfl rfl rfl rfl rfl (m_at 0 m (by omega) (by omega)) (fun r h' hq => ?_)
      obtain ⟨rfl, rfl⟩ := hq
      show Ev X _ _ 26 [Vr 166, Vi x, Vi m] [Vi ((1440 * 0) + (8 * m)), Vr 207] ((SHv st dr rd), (ovl a s b)) _
      refine Ev.steps (k := 2) (pc' := 28) (L' := [Vr 166, Vi x, Vi m]) (S' := [Vi (w32 (((1440 * 0) + (8 * m)) + x)), Vr 207]) (h' := ((SHv st dr rd), (ovl a s b))) (fun _ => rfl) ?_
      rw [show (w32 (((1440 * 0) + (8 * m)) + x)) = (((1440 * 0) + (8 * m)) + x) from w32_id (by unfold R32; omega)]
      refine Ev.iald (v := (b 207 (((1440 * 0) + (8 * m)) + x).toNat)) rfl (by decide) rfl (by omega) (by omega) (rfl) ?_
      refine Ev.fin (k := 2) (r := (some (Vi (b 207 (((1440 * 0) + (8 * m)) + x).toNat)))) (h' := ((SHv st dr rd), (ovl a s b))) (fun _ => rfl) ?_
      refine ⟨?_, rfl⟩
      unfold aWhere
      first
        | (rw [if_neg (by omega)])
        | (rw [if_pos (by omega)]
           have hx := (eHis m.toNat (by omega)).2.2.1 x.toNat (by omega)
           rw [show (1440 * 0 + 8 * m + x).toNat = 1440 * 0 + 8 * m.toNat + x.toNat by omega, hx])
    · rw [if_neg c10]
      show Ev X _ _ 13 [Vr 166, Vi x, Vi m] [Vi 0] ((SHv st dr rd), (ovl a s b)) _
      refine Ev.fin (k := 3) (r := (some (Vi (-1)))) (h' := ((SHv st dr rd), (ovl a s b))) (fun _ => rfl) ?_
      refine ⟨?_, rfl⟩
      unfold aWhere
      first
        | (rw [if_neg (by omega)])
        | (rw [if_pos (by omega)]
           have hx := (eHis m.toNat (by omega)).2.2.1 x.toNat (by omega)
           rw [show (1440 * 0 + 8 * m + x).toNat = 1440 * 0 + 8 * m.toNat + x.toNat by omega, hx])
  · rw [if_neg c2]
    show Ev X _ _ 5 [Vr 166, Vi x, Vi m] [Vi 0] ((SHv st dr rd), (ovl a s b)) _
    refine Ev.fin (k := 3) (r := (some (Vi (-1)))) (h' := ((SHv st dr rd), (ovl a s b))) (fun _ => rfl) ?_
    refine ⟨?_, rfl⟩
    unfold aWhere
    first
      | (rw [if_neg (by omega)])
      | (rw [if_pos (by omega)]
         have hx := (eHis m.toNat (by omega)).2.2.1 x.toNat (by omega)
         rw [show (1440 * 0 + 8 * m + x).toNat = 1440 * 0 + 8 * m.toNat + x.toNat by omega, hx])
theorem g_did {X : List Int} {d : Nat} {st dr rd : Int} {a s b : C3} (x m : Int) {G : GST} (hT : TopM G b) : Ev X (d + 2) 228 0 [Vr 166, Vi x, Vi m] [] (SHv st dr rd, ovl a s b) (fun rr hh => rr = some (Vi (aDid G x m)) ∧ hh = (SHv st dr rd, ovl a s b)) := by
  obtain ⟨bk, hY_b, hWY, hB1, hWB, hWE, hn180, hEQ, hTp, hfk, hfp, hO⟩ := id hT
  obtain ⟨hb2_b, h12_b, h168_b, h169_b, h170_b, h171_b, h173_b, h172_b, h174_b, h176_b, h178_b, h175_b, h177_b, h179_b, h180_b, h184_b⟩ := id hY_b
  obtain ⟨wR, wD, wW, wT, wL, wC, wdoor, wsym, wWI, wTI, wCl, wRu⟩ := id hWY
  obtain ⟨w8, wWc⟩ := wW
  obtain ⟨t8, wTc⟩ := wT
  obtain ⟨r8, wRc⟩ := wR
  obtain ⟨l30, wLc⟩ := wL
  obtain ⟨c12, wCc⟩ := wC
  obtain ⟨e202, e203, e204, e211, e210, eHis, e212⟩ := id hEQ
  refine Ev.call (k := 2) (pc1 := 2) (L1 := [Vr 166, Vi x, Vi m]) (S1 := [Vi x, Vr 166]) (h1 := ((SHv st dr rd), (ovl a s b))) (m' := 197) (as := [Vr 166, Vi x]) (S' := []) (L0 := [Vr 166, Vi x]) (fun _ => rfl) rfl rfl rfl rfl rfl rfl (m_gWho x hT) (fun r h' hq => ?_)
  obtain ⟨rfl, rfl⟩ := hq
  by_cases c2 : okW G x
  · rw [if_pos c2]
    show Ev X _ _ 5 [Vr 166, Vi x, Vi m] [Vi 1] ((SHv st dr rd), (ovl a s b)) _
    refine Ev.call (k := 3) (pc1 := 10) (L1 := [Vr 166, Vi x, Vi m]) (S1 := [Vi m, Vr 166]) (h1 := ((SHv st dr rd), (ovl a s b))) (m' := 225) (as := [Vr 166, Vi m]) (S' := []) (L0 := [Vr 166, Vi m]) (fun _ => rfl) rfl rfl rfl rfl rfl rfl (m_gMin m hT) (fun r h' hq => ?_)
    obtain ⟨rfl, rfl⟩ := hq
    by_cases c10 : okM G m
    · rw [if_pos c10]
      show Ev X _ _ 13 [Vr 166, Vi x, Vi m] [Vi 1] ((SHv st dr rd), (ovl a s b)) _
      refine Ev.call (k := 6) (pc1 := 23) (L1 := [Vr 166, Vi x, Vi m]) (S1 := [Vi m, Vi 0, Vr 166, Vr 208]) (h1 := ((SHv st dr rd), (ovl a s b))) (m' := 206) (as := [Vr 166, Vi 0, Vi m]) (S' := [Vr 208]) (L0 := [Vr 166, Vi 0, Vi m]) (fun _ => rfl) rfl rfl rfl rfl rfl rfl (m_at 0 m (by omega) (by omega)) (fun r h' hq => ?_)
      obtain ⟨rfl, rfl⟩ := hq
      show Ev X _ _ 26 [Vr 166, Vi x, Vi m] [Vi ((1440 * 0) + (8 * m)), Vr 208] ((SHv st dr rd), (ovl a s b)) _
      refine Ev.steps (k := 2) (pc' := 28) (L' := [Vr 166, Vi x, Vi m]) (S' := [Vi (w32 (((1440 * 0) + (8 * m)) + x)), Vr 208]) (h' := ((SHv st dr rd), (ovl a s b))) (fun _ => rfl) ?_
      rw [show (w32 (((1440 * 0) + (8 * m)) + x)) = (((1440 * 0) + (8 * m)) + x) from w32_id (by unfold R32; omega)]
      refine Ev.iald (v := (b 208 (((1440 * 0) + (8 * m)) + x).toNat)) rfl (by decide) rfl (by omega) (by omega) (rfl) ?_
      refine Ev.fin (k := 2) (r := (some (Vi (b 208 (((1440 * 0) + (8 * m)) + x).toNat)))) (h' := ((SHv st dr rd), (ovl a s b))) (fun _ => rfl) ?_
      refine ⟨?_, rfl⟩
      unfold aDid
      first
        | (rw [if_neg (by omega)])
        | (rw [if_pos (by omega)]
           have hx := (eHis m.toNat (by omega)).2.2.2.2 x.toNat (by omega)
           rw [show (1440 * 0 + 8 * m + x).toNat = 1440 * 0 + 8 * m.toNat + x.toNat by omega, hx])
    · rw [if_neg c10]
      show Ev X _ _ 13 [Vr 166, Vi x, Vi m] [Vi 0] ((SHv st dr rd), (ovl a s b)) _
      refine Ev.fin (k := 3) (r := (some (Vi (-1)))) (h' := ((SHv st dr rd), (ovl a s b))) (fun _ => rfl) ?_
      refine ⟨?_, rfl⟩
      unfold aDid
      first
        | (rw [if_neg (by omega)])
        | (rw [if_pos (by omega)]
           have hx := (eHis m.toNat (by omega)).2.2.2.2 x.toNat (by omega)
           rw [show (1440 * 0 + 8 * m + x).toNat = 1440 * 0 + 8 * m.toNat + x.toNat by omega, hx])
  · rw [if_neg c2]
    show Ev X _ _ 5 [Vr 166, Vi x, Vi m] [Vi 0] ((SHv st dr rd), (ovl a s b)) _
    refine Ev.fin (k := 3) (r := (some (Vi (-1)))) (h' := ((SHv st dr rd), (ovl a s b))) (fun _ => rfl) ?_
    refine ⟨?_, rfl⟩
    unfold aDid
    first
      | (rw [if_neg (by omega)])
      | (rw [if_pos (by omega)]
         have hx := (eHis m.toNat (by omega)).2.2.2.2 x.toNat (by omega)
         rw [show (1440 * 0 + 8 * m + x).toNat = 1440 * 0 + 8 * m.toNat + x.toNat by omega, hx])
theorem g_mood {X : List Int} {d : Nat} {st dr rd : Int} {a s b : C3} (x m : Int) {G : GST} (hT : TopM G b) : Ev X (d + 2) 229 0 [Vr 166, Vi x, Vi m] [] (SHv st dr rd, ovl a s b) (fun rr hh => rr = some (Vi (aMood G x m)) ∧ hh = (SHv st dr rd, ovl a s b)) := by
  obtain ⟨bk, hY_b, hWY, hB1, hWB, hWE, hn180, hEQ, hTp, hfk, hfp, hO⟩ := id hT
  obtain ⟨hb2_b, h12_b, h168_b, h169_b, h170_b, h171_b, h173_b, h172_b, h174_b, h176_b, h178_b, h175_b, h177_b, h179_b, h180_b, h184_b⟩ := id hY_b
  obtain ⟨wR, wD, wW, wT, wL, wC, wdoor, wsym, wWI, wTI, wCl, wRu⟩ := id hWY
  obtain ⟨w8, wWc⟩ := wW
  obtain ⟨t8, wTc⟩ := wT
  obtain ⟨r8, wRc⟩ := wR
  obtain ⟨l30, wLc⟩ := wL
  obtain ⟨c12, wCc⟩ := wC
  obtain ⟨e202, e203, e204, e211, e210, eHis, e212⟩ := id hEQ
  refine Ev.call (k := 2) (pc1 := 2) (L1 := [Vr 166, Vi x, Vi m]) (S1 := [Vi x, Vr 166]) (h1 := ((SHv st dr rd), (ovl a s b))) (m' := 197) (as := [Vr 166, Vi x]) (S' := []) (L0 := [Vr 166, Vi x]) (fun _ => rfl) rfl rfl rfl rfl rfl rfl (m_gWho x hT) (fun r h' hq => ?_)
  obtain ⟨rfl, rfl⟩ := hq
  by_cases c2 : okW G x
  · rw [if_pos c2]
    show Ev X _ _ 5 [Vr 166, Vi x, Vi m] [Vi 1] ((SHv st dr rd), (ovl a s b)) _
    refine Ev.call (k := 3) (pc1 := 10) (L1 := [Vr 166, Vi x, Vi m]) (S1 := [Vi m, Vr 166]) (h1 := ((SHv st dr rd), (ovl a s b))) (m' := 225) (as := [Vr 166, Vi m]) (S' := []) (L0 := [Vr 166, Vi m]) (fun _ => rfl) rfl rfl rfl rfl rfl rfl (m_gMin m hT) (fun r h' hq => ?_)
    obtain ⟨rfl, rfl⟩ := hq
    by_cases c10 : okM G m
    · rw [if_pos c10]
      show Ev X _ _ 13 [Vr 166, Vi x, Vi m] [Vi 1] ((SHv st dr rd), (ovl a s b)) _
      refine Ev.call (k := 6) (pc1 := 23) (L1 := [Vr 166, Vi x, Vi m]) (S1 := [Vi m, Vi 0, Vr 166, Vr 209]) (h1 := ((SHv st dr rd), (ovl a s b))) (m' := 206) (as := [Vr 166, Vi 0, Vi m]) (S' := [Vr 209]) (L0 := [Vr 166, Vi 0, Vi m]) (fun _ => rfl) rfl rfl rfl rfl rfl rfl (m_at 0 m (by omega) (by omega)) (fun r h' hq => ?_)
      obtain ⟨rfl, rfl⟩ := hq
      show Ev X _ _ 26 [Vr 166, Vi x, Vi m] [Vi ((1440 * 0) + (8 * m)), Vr 209] ((SHv st dr rd), (ovl a s b)) _
      refine Ev.steps (k := 2) (pc' := 28) (L' := [Vr 166, Vi x, Vi m]) (S' := [Vi (w32 (((1440 * 0) + (8 * m)) + x)), Vr 209]) (h' := ((SHv st dr rd), (ovl a s b))) (fun _ => rfl) ?_
      rw [show (w32 (((1440 * 0) + (8 * m)) + x)) = (((1440 * 0) + (8 * m)) + x) from w32_id (by unfold R32; omega)]
      refine Ev.iald (v := (b 209 (((1440 * 0) + (8 * m)) + x).toNat)) rfl (by decide) rfl (by omega) (by omega) (rfl) ?_
      refine Ev.fin (k := 2) (r := (some (Vi (b 209 (((1440 * 0) + (8 * m)) + x).toNat)))) (h' := ((SHv st dr rd), (ovl a s b))) (fun _ => rfl) ?_
      refine ⟨?_, rfl⟩
      unfold aMood
      first
        | (rw [if_neg (by omega)])
        | (rw [if_pos (by omega)]
           have hx := (eHis m.toNat (by omega)).2.2.2.1 x.toNat (by omega)
           rw [show (1440 * 0 + 8 * m + x).toNat = 1440 * 0 + 8 * m.toNat + x.toNat by omega, hx])
    · rw [if_neg c10]
      show Ev X _ _ 13 [Vr 166, Vi x, Vi m] [Vi 0] ((SHv st dr rd), (ovl a s b)) _
      refine Ev.fin (k := 3) (r := (some (Vi (-2000000000)))) (h' := ((SHv st dr rd), (ovl a s b))) (fun _ => rfl) ?_
      refine ⟨?_, rfl⟩
      unfold aMood
      first
        | (rw [if_neg (by omega)])
        | (rw [if_pos (by omega)]
           have hx := (eHis m.toNat (by omega)).2.2.2.1 x.toNat (by omega)
           rw [show (1440 * 0 + 8 * m + x).toNat = 1440 * 0 + 8 * m.toNat + x.toNat by omega, hx])
  · rw [if_neg c2]
    show Ev X _ _ 5 [Vr 166, Vi x, Vi m] [Vi 0] ((SHv st dr rd), (ovl a s b)) _
    refine Ev.fin (k := 3) (r := (some (Vi (-2000000000)))) (h' := ((SHv st dr rd), (ovl a s b))) (fun _ => rfl) ?_
    refine ⟨?_, rfl⟩
    unfold aMood
    first
      | (rw [if_neg (by omega)])
      | (rw [if_pos (by omega)]
         have hx := (eHis m.toNat (by omega)).2.2.2.1 x.toNat (by omega)
         rw [show (1440 * 0 + 8 * m + x).toNat = 1440 * 0 + 8 * m.toNat + x.toNat by omega, hx])
theorem g_alive {X : List Int} {d : Nat} {st dr rd : Int} {a s b : C3} (x m : Int) {G : GST} (hT : TopM G b) : Ev X (d + 2) 226 0 [Vr 166, Vi x, Vi m] [] (SHv st dr rd, ovl a s b) (fun rr hh => rr = some (Vi (aAlive G x m)) ∧ hh = (SHv st dr rd, ovl a s b)) := by
  obtain ⟨bk, hY_b, hWY, hB1, hWB, hWE, hn180, hEQ, hTp, hfk, hfp, hO⟩ := id hT
  obtain ⟨hb2_b, h12_b, h168_b, h169_b, h170_b, h171_b, h173_b, h172_b, h174_b, h176_b, h178_b, h175_b, h177_b, h179_b, h180_b, h184_b⟩ := id hY_b
  obtain ⟨wR, wD, wW, wT, wL, wC, wdoor, wsym, wWI, wTI, wCl, wRu⟩ := id hWY
  obtain ⟨w8, wWc⟩ := wW
  obtain ⟨t8, wTc⟩ := wT
  obtain ⟨r8, wRc⟩ := wR
  obtain ⟨l30, wLc⟩ := wL
  obtain ⟨c12, wCc⟩ := wC
  obtain ⟨e202, e203, e204, e211, e210, eHis, e212⟩ := id hEQ
  refine Ev.call (k := 2) (pc1 := 2) (L1 := [Vr 166, Vi x, Vi m]) (S1 := [Vi x, Vr 166]) (h1 := ((SHv st dr rd), (ovl a s b))) (m' := 197) (as := [Vr 166, Vi x]) (S' := []) (L0 := [Vr 166, Vi x]) (fun _ => rfl) rfl rfl rfl rfl rfl rfl (m_gWho x hT) (fun r h' hq => ?_)
  obtain ⟨rfl, rfl⟩ := hq
  by_cases c2 : okW G x
  · rw [if_pos c2]
    show Ev X _ _ 5 [Vr 166, Vi x, Vi m] [Vi 1] ((SHv st dr rd), (ovl a s b)) _
    refine Ev.call (k := 3) (pc1 := 10) (L1 := [Vr 166, Vi x, Vi m]) (S1 := [Vi m, Vr 166]) (h1 := ((SHv st dr rd), (ovl a s b))) (m' := 225) (as := [Vr 166, Vi m]) (S' := []) (L0 := [Vr 166, Vi m]) (fun _ => rfl) rfl rfl rfl rfl rfl rfl (m_gMin m hT) (fun r h' hq => ?_)
    obtain ⟨rfl, rfl⟩ := hq
    by_cases c10 : okM G m
    · rw [if_pos c10]
      show Ev X _ _ 13 [Vr 166, Vi x, Vi m] [Vi 1] ((SHv st dr rd), (ovl a s b)) _
      refine Ev.call (k := 6) (pc1 := 27) (L1 := [Vr 166, Vi x, Vi m]) (S1 := [Vi m, Vi 0, Vr 166, Vr 206]) (h1 := ((SHv st dr rd), (ovl a s b))) (m' := 206) (as := [Vr 166, Vi 0, Vi m]) (S' := [Vr 206]) (L0 := [Vr 166, Vi 0, Vi m]) (fun _ => rfl) rfl rfl rfl rfl rfl rfl (m_at 0 m (by omega) (by omega)) (fun r h' hq => ?_)
      obtain ⟨rfl, rfl⟩ := hq
      show Ev X _ _ 30 [Vr 166, Vi x, Vi m] [Vi ((1440 * 0) + (8 * m)), Vr 206] ((SHv st dr rd), (ovl a s b)) _
      refine Ev.steps (k := 2) (pc' := 32) (L' := [Vr 166, Vi x, Vi m]) (S' := [Vi (w32 (((1440 * 0) + (8 * m)) + x)), Vr 206]) (h' := ((SHv st dr rd), (ovl a s b))) (fun _ => rfl) ?_
      rw [show (w32 (((1440 * 0) + (8 * m)) + x)) = (((1440 * 0) + (8 * m)) + x) from w32_id (by unfold R32; omega)]
      refine Ev.zald (v := (b 206 (((1440 * 0) + (8 * m)) + x).toNat)) rfl (by decide) rfl (by omega) (by omega) (rfl) ?_
      refine Ev.ite (P := (b 206 (((1440 * 0) + (8 * m)) + x).toNat) = 0) (k := 1) (a := 40) (b := 36) (L' := [Vr 166, Vi x, Vi m]) (S' := []) (h' := ((SHv st dr rd), (ovl a s b))) (fun _ => rfl) (fun b33 => ?_) (fun b33 => ?_)
      · refine Ev.fin (k := 2) (r := (some (Vi 0))) (h' := ((SHv st dr rd), (ovl a s b))) (fun _ => rfl) ?_
        refine ⟨?_, rfl⟩
        unfold aAlive
        first
          | (rw [if_neg (by omega)])
          | (rw [if_pos (by omega)]
             have hx : b 206 (1440 * 0 + 8 * m + x).toNat = gA G (m.toNat + 1) 1 x.toNat := by
               rw [show (1440 * 0 + 8 * m + x).toNat = 1440 * 0 + 8 * m.toNat + x.toNat by omega]
               exact (eHis m.toNat (by omega)).2.1 x.toNat (by omega)
             first
               | rw [if_pos (by omega)]
               | rw [if_neg (by omega)])
      · refine Ev.fin (k := 3) (r := (some (Vi 1))) (h' := ((SHv st dr rd), (ovl a s b))) (fun _ => rfl) ?_
        refine ⟨?_, rfl⟩
        unfold aAlive
        first
          | (rw [if_neg (by omega)])
          | (rw [if_pos (by omega)]
             have hx : b 206 (1440 * 0 + 8 * m + x).toNat = gA G (m.toNat + 1) 1 x.toNat := by
               rw [show (1440 * 0 + 8 * m + x).toNat = 1440 * 0 + 8 * m.toNat + x.toNat by omega]
               exact (eHis m.toNat (by omega)).2.1 x.toNat (by omega)
             first
               | rw [if_pos (by omega)]
               | rw [if_neg (by omega)])
    · rw [if_neg c10]
      show Ev X _ _ 13 [Vr 166, Vi x, Vi m] [Vi 0] ((SHv st dr rd), (ovl a s b)) _
      refine Ev.fin (k := 4) (r := (some (Vi (-1)))) (h' := ((SHv st dr rd), (ovl a s b))) (fun _ => rfl) ?_
      refine ⟨?_, rfl⟩
      unfold aAlive
      first
        | (rw [if_neg (by omega)])
        | (rw [if_pos (by omega)]
           have hx : b 206 (1440 * 0 + 8 * m + x).toNat = gA G (m.toNat + 1) 1 x.toNat := by
             rw [show (1440 * 0 + 8 * m + x).toNat = 1440 * 0 + 8 * m.toNat + x.toNat by omega]
             exact (eHis m.toNat (by omega)).2.1 x.toNat (by omega)
           first
             | rw [if_pos (by omega)]
             | rw [if_neg (by omega)])
  · rw [if_neg c2]
    show Ev X _ _ 5 [Vr 166, Vi x, Vi m] [Vi 0] ((SHv st dr rd), (ovl a s b)) _
    refine Ev.fin (k := 4) (r := (some (Vi (-1)))) (h' := ((SHv st dr rd), (ovl a s b))) (fun _ => rfl) ?_
    refine ⟨?_, rfl⟩
    unfold aAlive
    first
      | (rw [if_neg (by omega)])
      | (rw [if_pos (by omega)]
         have hx : b 206 (1440 * 0 + 8 * m + x).toNat = gA G (m.toNat + 1) 1 x.toNat := by
           rw [show (1440 * 0 + 8 * m + x).toNat = 1440 * 0 + 8 * m.toNat + x.toNat by omega]
           exact (eHis m.toNat (by omega)).2.1 x.toNat (by omega)
         first
           | rw [if_pos (by omega)]
           | rw [if_neg (by omega)])
theorem g_deed {X : List Int} {d : Nat} {st dr rd : Int} {a s b : C3} (k w : Int) {G : GST} (hT : TopM G b) : Ev X (d + 1) 230 0 [Vr 166, Vi k, Vi w] [] (SHv st dr rd, ovl a s b) (fun rr hh => rr = some (Vi (aDeed G k w)) ∧ hh = (SHv st dr rd, ovl a s b)) := by
  obtain ⟨bk, hY_b, hWY, hB1, hWB, hWE, hn180, hEQ, hTp, hfk, hfp, hO⟩ := id hT
  obtain ⟨hb2_b, h12_b, h168_b, h169_b, h170_b, h171_b, h173_b, h172_b, h174_b, h176_b, h178_b, h175_b, h177_b, h179_b, h180_b, h184_b⟩ := id hY_b
  obtain ⟨wR, wD, wW, wT, wL, wC, wdoor, wsym, wWI, wTI, wCl, wRu⟩ := id hWY
  obtain ⟨w8, wWc⟩ := wW
  obtain ⟨t8, wTc⟩ := wT
  obtain ⟨r8, wRc⟩ := wR
  obtain ⟨l30, wLc⟩ := wL
  obtain ⟨c12, wCc⟩ := wC
  obtain ⟨e202, e203, e204, e211, e210, eHis, e212⟩ := id hEQ
  obtain ⟨a1, -⟩ := aftS_wf hWY hWE (gn G) hn180
  have a7 : 0 ≤ gA G (gn G) 7 0 ∧ gA G (gn G) 7 0 ≤ 8 * gA G (gn G) 5 0 + 8 := a1.2.2.2.2.2.2.1
  have a9 : 0 ≤ gA G (gn G) 9 0 ∧ gA G (gn G) 9 0 ≤ 8 := a1.2.2.2.2.2.2.2
  have a5 : 0 ≤ gA G (gn G) 5 0 ∧ gA G (gn G) 5 0 < 180 := a1.2.2.2.2.2.1
  refine Ev.steps (k := 6) (pc' := 8) (L' := [Vr 166, Vi k, Vi w]) (S' := [Vi (b 203 0), Vi 0, Vi k]) (h' := ((SHv st dr rd), (ovl a s b))) (fun _ => rfl) ?_
  rw [e203]
  refine Ev.steps (k := 2) (pc' := 10) (L' := [Vr 166, Vi k, Vi w]) (S' := [Vi (w32 ((gA G (gn G) 9 0) - 1)), Vi 0, Vi k]) (h' := ((SHv st dr rd), (ovl a s b))) (fun _ => rfl) ?_
  rw [show (w32 ((gA G (gn G) 9 0) - 1)) = ((gA G (gn G) 9 0) - 1) from w32_id (by unfold R32; omega)]
  refine Ev.call (k := 0) (pc1 := 10) (L1 := [Vr 166, Vi k, Vi w]) (S1 := [Vi ((gA G (gn G) 9 0) - 1), Vi 0, Vi k]) (h1 := ((SHv st dr rd), (ovl a s b))) (m' := 189) (as := [Vi k, Vi 0, Vi ((gA G (gn G) 9 0) - 1)]) (S' := []) (L0 := [Vi k, Vi 0, Vi ((gA G (gn G) 9 0) - 1)]) (fun _ => rfl) rfl rfl rfl rfl rfl rfl (m_is k 0 (((gA G (gn G) 9 0) - 1))) (fun r h' hq => ?_)
  obtain ⟨rfl, rfl⟩ := hq
  rw [show (if 0 ≤ k ∧ k ≤ ((gA G (gn G) 9 0) - 1) then (1 : Int) else 0) = if 0 ≤ k ∧ k < gA G (gn G) 9 0 then 1 else 0 from ite_cg (by omega)]
  by_cases c10 : 0 ≤ k ∧ k < gA G (gn G) 9 0
  · rw [if_pos c10]
    show Ev X _ _ 13 [Vr 166, Vi k, Vi w] [Vi 1] ((SHv st dr rd), (ovl a s b)) _
    refine Ev.call (k := 4) (pc1 := 19) (L1 := [Vr 166, Vi k, Vi w]) (S1 := [Vi 5, Vi 0, Vi w]) (h1 := ((SHv st dr rd), (ovl a s b))) (m' := 189) (as := [Vi w, Vi 0, Vi 5]) (S' := []) (L0 := [Vi w, Vi 0, Vi 5]) (fun _ => rfl) rfl rfl rfl rfl rfl rfl (m_is w 0 (5)) (fun r h' hq => ?_)
    obtain ⟨rfl, rfl⟩ := hq
    rw [show (if 0 ≤ w ∧ w ≤ 5 then (1 : Int) else 0) = if 0 ≤ w ∧ w ≤ 5 then 1 else 0 from ite_cg (by omega)]
    by_cases c19 : 0 ≤ w ∧ w ≤ 5
    · rw [if_pos c19]
      show Ev X _ _ 22 [Vr 166, Vi k, Vi w] [Vi 1] ((SHv st dr rd), (ovl a s b)) _
      refine Ev.steps (k := 6) (pc' := 33) (L' := [Vr 166, Vi k, Vi w]) (S' := [Vi (w32 (6 * k)), Vr 210]) (h' := ((SHv st dr rd), (ovl a s b))) (fun _ => rfl) ?_
      rw [show (w32 (6 * k)) = (6 * k) from w32_id (by unfold R32; omega)]
      refine Ev.steps (k := 2) (pc' := 35) (L' := [Vr 166, Vi k, Vi w]) (S' := [Vi (w32 ((6 * k) + w)), Vr 210]) (h' := ((SHv st dr rd), (ovl a s b))) (fun _ => rfl) ?_
      rw [show (w32 ((6 * k) + w)) = ((6 * k) + w) from w32_id (by unfold R32; omega)]
      refine Ev.iald (v := (b 210 ((6 * k) + w).toNat)) rfl (by decide) rfl (by omega) (by omega) (rfl) ?_
      refine Ev.fin (k := 2) (r := (some (Vi (b 210 ((6 * k) + w).toNat)))) (h' := ((SHv st dr rd), (ovl a s b))) (fun _ => rfl) ?_
      refine ⟨?_, rfl⟩
      unfold aDeed
      first
        | (rw [if_neg (by omega)])
        | (rw [if_pos (by omega)]
           have hx := e210 (6 * k + w).toNat (by show (6 * k + w).toNat < 6 * (gA G (gn G) 9 0).toNat; omega)
           rw [hx, show (6 * k + w).toNat = 6 * k.toNat + w.toNat by omega])
    · rw [if_neg c19]
      show Ev X _ _ 22 [Vr 166, Vi k, Vi w] [Vi 0] ((SHv st dr rd), (ovl a s b)) _
      refine Ev.fin (k := 3) (r := (some (Vi (-1)))) (h' := ((SHv st dr rd), (ovl a s b))) (fun _ => rfl) ?_
      refine ⟨?_, rfl⟩
      unfold aDeed
      first
        | (rw [if_neg (by omega)])
        | (rw [if_pos (by omega)]
           have hx := e210 (6 * k + w).toNat (by show (6 * k + w).toNat < 6 * (gA G (gn G) 9 0).toNat; omega)
           rw [hx, show (6 * k + w).toNat = 6 * k.toNat + w.toNat by omega])
  · rw [if_neg c10]
    show Ev X _ _ 13 [Vr 166, Vi k, Vi w] [Vi 0] ((SHv st dr rd), (ovl a s b)) _
    refine Ev.fin (k := 3) (r := (some (Vi (-1)))) (h' := ((SHv st dr rd), (ovl a s b))) (fun _ => rfl) ?_
    refine ⟨?_, rfl⟩
    unfold aDeed
    first
      | (rw [if_neg (by omega)])
      | (rw [if_pos (by omega)]
         have hx := e210 (6 * k + w).toNat (by show (6 * k + w).toNat < 6 * (gA G (gn G) 9 0).toNat; omega)
         rw [hx, show (6 * k + w).toNat = 6 * k.toNat + w.toNat by omega])
theorem g_trace {X : List Int} {d : Nat} {st dr rd : Int} {a s b : C3} (k w : Int) {G : GST} (hT : TopM G b) : Ev X (d + 1) 231 0 [Vr 166, Vi k, Vi w] [] (SHv st dr rd, ovl a s b) (fun rr hh => rr = some (Vi (aTrace G k w)) ∧ hh = (SHv st dr rd, ovl a s b)) := by
  obtain ⟨bk, hY_b, hWY, hB1, hWB, hWE, hn180, hEQ, hTp, hfk, hfp, hO⟩ := id hT
  obtain ⟨hb2_b, h12_b, h168_b, h169_b, h170_b, h171_b, h173_b, h172_b, h174_b, h176_b, h178_b, h175_b, h177_b, h179_b, h180_b, h184_b⟩ := id hY_b
  obtain ⟨wR, wD, wW, wT, wL, wC, wdoor, wsym, wWI, wTI, wCl, wRu⟩ := id hWY
  obtain ⟨w8, wWc⟩ := wW
  obtain ⟨t8, wTc⟩ := wT
  obtain ⟨r8, wRc⟩ := wR
  obtain ⟨l30, wLc⟩ := wL
  obtain ⟨c12, wCc⟩ := wC
  obtain ⟨e202, e203, e204, e211, e210, eHis, e212⟩ := id hEQ
  obtain ⟨a1, -⟩ := aftS_wf hWY hWE (gn G) hn180
  have a7 : 0 ≤ gA G (gn G) 7 0 ∧ gA G (gn G) 7 0 ≤ 8 * gA G (gn G) 5 0 + 8 := a1.2.2.2.2.2.2.1
  have a9 : 0 ≤ gA G (gn G) 9 0 ∧ gA G (gn G) 9 0 ≤ 8 := a1.2.2.2.2.2.2.2
  have a5 : 0 ≤ gA G (gn G) 5 0 ∧ gA G (gn G) 5 0 < 180 := a1.2.2.2.2.2.1
  refine Ev.steps (k := 6) (pc' := 8) (L' := [Vr 166, Vi k, Vi w]) (S' := [Vi (b 204 0), Vi 0, Vi k]) (h' := ((SHv st dr rd), (ovl a s b))) (fun _ => rfl) ?_
  rw [e204]
  refine Ev.steps (k := 2) (pc' := 10) (L' := [Vr 166, Vi k, Vi w]) (S' := [Vi (w32 ((gA G (gn G) 7 0) - 1)), Vi 0, Vi k]) (h' := ((SHv st dr rd), (ovl a s b))) (fun _ => rfl) ?_
  rw [show (w32 ((gA G (gn G) 7 0) - 1)) = ((gA G (gn G) 7 0) - 1) from w32_id (by unfold R32; omega)]
  refine Ev.call (k := 0) (pc1 := 10) (L1 := [Vr 166, Vi k, Vi w]) (S1 := [Vi ((gA G (gn G) 7 0) - 1), Vi 0, Vi k]) (h1 := ((SHv st dr rd), (ovl a s b))) (m' := 189) (as := [Vi k, Vi 0, Vi ((gA G (gn G) 7 0) - 1)]) (S' := []) (L0 := [Vi k, Vi 0, Vi ((gA G (gn G) 7 0) - 1)]) (fun _ => rfl) rfl rfl rfl rfl rfl rfl (m_is k 0 (((gA G (gn G) 7 0) - 1))) (fun r h' hq => ?_)
  obtain ⟨rfl, rfl⟩ := hq
  rw [show (if 0 ≤ k ∧ k ≤ ((gA G (gn G) 7 0) - 1) then (1 : Int) else 0) = if 0 ≤ k ∧ k < gA G (gn G) 7 0 then 1 else 0 from ite_cg (by omega)]
  by_cases c10 : 0 ≤ k ∧ k < gA G (gn G) 7 0
  · rw [if_pos c10]
    show Ev X _ _ 13 [Vr 166, Vi k, Vi w] [Vi 1] ((SHv st dr rd), (ovl a s b)) _
    refine Ev.call (k := 4) (pc1 := 19) (L1 := [Vr 166, Vi k, Vi w]) (S1 := [Vi 5, Vi 0, Vi w]) (h1 := ((SHv st dr rd), (ovl a s b))) (m' := 189) (as := [Vi w, Vi 0, Vi 5]) (S' := []) (L0 := [Vi w, Vi 0, Vi 5]) (fun _ => rfl) rfl rfl rfl rfl rfl rfl (m_is w 0 (5)) (fun r h' hq => ?_)
    obtain ⟨rfl, rfl⟩ := hq
    rw [show (if 0 ≤ w ∧ w ≤ 5 then (1 : Int) else 0) = if 0 ≤ w ∧ w ≤ 5 then 1 else 0 from ite_cg (by omega)]
    by_cases c19 : 0 ≤ w ∧ w ≤ 5
    · rw [if_pos c19]
      show Ev X _ _ 22 [Vr 166, Vi k, Vi w] [Vi 1] ((SHv st dr rd), (ovl a s b)) _
      refine Ev.steps (k := 6) (pc' := 33) (L' := [Vr 166, Vi k, Vi w]) (S' := [Vi (w32 (6 * k)), Vr 211]) (h' := ((SHv st dr rd), (ovl a s b))) (fun _ => rfl) ?_
      rw [show (w32 (6 * k)) = (6 * k) from w32_id (by unfold R32; omega)]
      refine Ev.steps (k := 2) (pc' := 35) (L' := [Vr 166, Vi k, Vi w]) (S' := [Vi (w32 ((6 * k) + w)), Vr 211]) (h' := ((SHv st dr rd), (ovl a s b))) (fun _ => rfl) ?_
      rw [show (w32 ((6 * k) + w)) = ((6 * k) + w) from w32_id (by unfold R32; omega)]
      refine Ev.iald (v := (b 211 ((6 * k) + w).toNat)) rfl (by decide) rfl (by omega) (by omega) (rfl) ?_
      refine Ev.fin (k := 2) (r := (some (Vi (b 211 ((6 * k) + w).toNat)))) (h' := ((SHv st dr rd), (ovl a s b))) (fun _ => rfl) ?_
      refine ⟨?_, rfl⟩
      unfold aTrace
      first
        | (rw [if_neg (by omega)])
        | (rw [if_pos (by omega)]
           have hx := e211 (6 * k + w).toNat (by show (6 * k + w).toNat < 6 * (gA G (gn G) 7 0).toNat; omega)
           rw [hx, show (6 * k + w).toNat = 6 * k.toNat + w.toNat by omega])
    · rw [if_neg c19]
      show Ev X _ _ 22 [Vr 166, Vi k, Vi w] [Vi 0] ((SHv st dr rd), (ovl a s b)) _
      refine Ev.fin (k := 3) (r := (some (Vi (-1)))) (h' := ((SHv st dr rd), (ovl a s b))) (fun _ => rfl) ?_
      refine ⟨?_, rfl⟩
      unfold aTrace
      first
        | (rw [if_neg (by omega)])
        | (rw [if_pos (by omega)]
           have hx := e211 (6 * k + w).toNat (by show (6 * k + w).toNat < 6 * (gA G (gn G) 7 0).toNat; omega)
           rw [hx, show (6 * k + w).toNat = 6 * k.toNat + w.toNat by omega])
  · rw [if_neg c10]
    show Ev X _ _ 13 [Vr 166, Vi k, Vi w] [Vi 0] ((SHv st dr rd), (ovl a s b)) _
    refine Ev.fin (k := 3) (r := (some (Vi (-1)))) (h' := ((SHv st dr rd), (ovl a s b))) (fun _ => rfl) ?_
    refine ⟨?_, rfl⟩
    unfold aTrace
    first
      | (rw [if_neg (by omega)])
      | (rw [if_pos (by omega)]
         have hx := e211 (6 * k + w).toNat (by show (6 * k + w).toNat < 6 * (gA G (gn G) 7 0).toNat; omega)
         rw [hx, show (6 * k + w).toNat = 6 * k.toNat + w.toNat by omega])
theorem g_sees {X : List Int} {d : Nat} {st dr rd : Int} {a s b : C3} (p o m : Int) {G : GST} (hT : TopM G b) (hp : okW G p) (ho : okW G o) (hm : okM G m) : Ev X (d + 1) 223 0 [Vr 166, Vi 0, Vi p, Vi o, Vi m, Vx] [] (SHv st dr rd, ovl a s b) (fun rr hh => rr = some (Vi (seeS (gA G (m.toNat + 1)) p.toNat o.toNat)) ∧ hh = (SHv st dr rd, ovl a s b)) := by
  obtain ⟨bk, hY_b, hWY, hB1, hWB, hWE, hn180, hEQ, hTp, hfk, hfp, hO⟩ := id hT
  obtain ⟨hb2_b, h12_b, h168_b, h169_b, h170_b, h171_b, h173_b, h172_b, h174_b, h176_b, h178_b, h175_b, h177_b, h179_b, h180_b, h184_b⟩ := id hY_b
  obtain ⟨wR, wD, wW, wT, wL, wC, wdoor, wsym, wWI, wTI, wCl, wRu⟩ := id hWY
  obtain ⟨w8, wWc⟩ := wW
  obtain ⟨t8, wTc⟩ := wT
  obtain ⟨r8, wRc⟩ := wR
  obtain ⟨l30, wLc⟩ := wL
  obtain ⟨c12, wCc⟩ := wC
  obtain ⟨e202, e203, e204, e211, e210, eHis, e212⟩ := id hEQ
  obtain ⟨p, rfl⟩ : ∃ x : Nat, p = x := ⟨p.toNat, by omega⟩
  obtain ⟨o, rfl⟩ : ∃ x : Nat, o = x := ⟨o.toNat, by omega⟩
  obtain ⟨m, rfl⟩ : ∃ x : Nat, m = x := ⟨m.toNat, by omega⟩
  rw [Int.toNat_natCast, Int.toNat_natCast, Int.toNat_natCast]
  have hh := eHis m (by omega)
  exact m_seesN 0 m p o (gA G (m + 1)) (by omega) (by omega) (by omega) (by omega) (hh.1 p (by omega)) (hh.1 o (by omega)) (hh.2.1 p (by omega)) (hh.2.1 o (by omega))
theorem g_saw {X : List Int} {d : Nat} {st dr rd : Int} {a s b : C3} (p o m : Int) {G : GST} (hT : TopM G b) : Ev X (d + 2) 232 0 [Vr 166, Vi p, Vi o, Vi m] [] (SHv st dr rd, ovl a s b) (fun rr hh => rr = some (Vi (aSaw G p o m)) ∧ hh = (SHv st dr rd, ovl a s b)) := by
  obtain ⟨bk, hY_b, hWY, hB1, hWB, hWE, hn180, hEQ, hTp, hfk, hfp, hO⟩ := id hT
  obtain ⟨hb2_b, h12_b, h168_b, h169_b, h170_b, h171_b, h173_b, h172_b, h174_b, h176_b, h178_b, h175_b, h177_b, h179_b, h180_b, h184_b⟩ := id hY_b
  obtain ⟨wR, wD, wW, wT, wL, wC, wdoor, wsym, wWI, wTI, wCl, wRu⟩ := id hWY
  obtain ⟨w8, wWc⟩ := wW
  obtain ⟨t8, wTc⟩ := wT
  obtain ⟨r8, wRc⟩ := wR
  obtain ⟨l30, wLc⟩ := wL
  obtain ⟨c12, wCc⟩ := wC
  obtain ⟨e202, e203, e204, e211, e210, eHis, e212⟩ := id hEQ
  refine Ev.call (k := 2) (pc1 := 2) (L1 := [Vr 166, Vi p, Vi o, Vi m]) (S1 := [Vi p, Vr 166]) (h1 := ((SHv st dr rd), (ovl a s b))) (m' := 197) (as := [Vr 166, Vi p]) (S' := []) (L0 := [Vr 166, Vi p]) (fun _ => rfl) rfl rfl rfl rfl rfl rfl (m_gWho p hT) (fun r h' hq => ?_)
  obtain ⟨rfl, rfl⟩ := hq
  by_cases c2 : okW G p
  · rw [if_pos c2]
    show Ev X _ _ 5 [Vr 166, Vi p, Vi o, Vi m] [Vi 1] ((SHv st dr rd), (ovl a s b)) _
    refine Ev.call (k := 3) (pc1 := 10) (L1 := [Vr 166, Vi p, Vi o, Vi m]) (S1 := [Vi o, Vr 166]) (h1 := ((SHv st dr rd), (ovl a s b))) (m' := 197) (as := [Vr 166, Vi o]) (S' := []) (L0 := [Vr 166, Vi o]) (fun _ => rfl) rfl rfl rfl rfl rfl rfl (m_gWho o hT) (fun r h' hq => ?_)
    obtain ⟨rfl, rfl⟩ := hq
    by_cases c10 : okW G o
    · rw [if_pos c10]
      show Ev X _ _ 13 [Vr 166, Vi p, Vi o, Vi m] [Vi 1] ((SHv st dr rd), (ovl a s b)) _
      refine Ev.call (k := 3) (pc1 := 18) (L1 := [Vr 166, Vi p, Vi o, Vi m]) (S1 := [Vi m, Vr 166]) (h1 := ((SHv st dr rd), (ovl a s b))) (m' := 225) (as := [Vr 166, Vi m]) (S' := []) (L0 := [Vr 166, Vi m]) (fun _ => rfl) rfl rfl rfl rfl rfl rfl (m_gMin m hT) (fun r h' hq => ?_)
      obtain ⟨rfl, rfl⟩ := hq
      by_cases c18 : okM G m
      · rw [if_pos c18]
        show Ev X _ _ 21 [Vr 166, Vi p, Vi o, Vi m] [Vi 1] ((SHv st dr rd), (ovl a s b)) _
        refine Ev.call (k := 6) (pc1 := 29) (L1 := [Vr 166, Vi p, Vi o, Vi m]) (S1 := [Vi m, Vi o, Vi p, Vi 0, Vr 166]) (h1 := ((SHv st dr rd), (ovl a s b))) (m' := 223) (as := [Vr 166, Vi 0, Vi p, Vi o, Vi m]) (S' := []) (L0 := [Vr 166, Vi 0, Vi p, Vi o, Vi m, Vx]) (fun _ => rfl) rfl rfl rfl rfl rfl rfl (g_sees p o m hT (by omega) (by omega) (by omega)) (fun r h' hq => ?_)
        obtain ⟨rfl, rfl⟩ := hq
        show Ev X _ _ 32 [Vr 166, Vi p, Vi o, Vi m] [Vi (seeS (gA G (m.toNat + 1)) p.toNat o.toNat)] ((SHv st dr rd), (ovl a s b)) _
        refine Ev.fin (k := 2) (r := (some (Vi (seeS (gA G (m.toNat + 1)) p.toNat o.toNat)))) (h' := ((SHv st dr rd), (ovl a s b))) (fun _ => rfl) ?_
        refine ⟨?_, rfl⟩
        unfold aSaw
        first | rw [if_neg (by omega)] | rw [if_pos (by omega)]
      · rw [if_neg c18]
        show Ev X _ _ 21 [Vr 166, Vi p, Vi o, Vi m] [Vi 0] ((SHv st dr rd), (ovl a s b)) _
        refine Ev.fin (k := 3) (r := (some (Vi (-1)))) (h' := ((SHv st dr rd), (ovl a s b))) (fun _ => rfl) ?_
        refine ⟨?_, rfl⟩
        unfold aSaw
        first | rw [if_neg (by omega)] | rw [if_pos (by omega)]
    · rw [if_neg c10]
      show Ev X _ _ 13 [Vr 166, Vi p, Vi o, Vi m] [Vi 0] ((SHv st dr rd), (ovl a s b)) _
      refine Ev.fin (k := 3) (r := (some (Vi (-1)))) (h' := ((SHv st dr rd), (ovl a s b))) (fun _ => rfl) ?_
      refine ⟨?_, rfl⟩
      unfold aSaw
      first | rw [if_neg (by omega)] | rw [if_pos (by omega)]
  · rw [if_neg c2]
    show Ev X _ _ 5 [Vr 166, Vi p, Vi o, Vi m] [Vi 0] ((SHv st dr rd), (ovl a s b)) _
    refine Ev.fin (k := 3) (r := (some (Vi (-1)))) (h' := ((SHv st dr rd), (ovl a s b))) (fun _ => rfl) ?_
    refine ⟨?_, rfl⟩
    unfold aSaw
    first | rw [if_neg (by omega)] | rw [if_pos (by omega)]
theorem g_knows {X : List Int} {d : Nat} {st dr rd : Int} {a s b : C3} (p o : Int) {G : GST} (hT : TopM G b) : Ev X (d + 2) 233 0 [Vr 166, Vi p, Vi o] [] (SHv st dr rd, ovl a s b) (fun rr hh => rr = some (Vi (aKnows G p o)) ∧ hh = (SHv st dr rd, ovl a s b)) := by
  obtain ⟨bk, hY_b, hWY, hB1, hWB, hWE, hn180, hEQ, hTp, hfk, hfp, hO⟩ := id hT
  obtain ⟨hb2_b, h12_b, h168_b, h169_b, h170_b, h171_b, h173_b, h172_b, h174_b, h176_b, h178_b, h175_b, h177_b, h179_b, h180_b, h184_b⟩ := id hY_b
  obtain ⟨wR, wD, wW, wT, wL, wC, wdoor, wsym, wWI, wTI, wCl, wRu⟩ := id hWY
  obtain ⟨w8, wWc⟩ := wW
  obtain ⟨t8, wTc⟩ := wT
  obtain ⟨r8, wRc⟩ := wR
  obtain ⟨l30, wLc⟩ := wL
  obtain ⟨c12, wCc⟩ := wC
  obtain ⟨e202, e203, e204, e211, e210, eHis, e212⟩ := id hEQ
  refine Ev.call (k := 2) (pc1 := 2) (L1 := [Vr 166, Vi p, Vi o]) (S1 := [Vi p, Vr 166]) (h1 := ((SHv st dr rd), (ovl a s b))) (m' := 197) (as := [Vr 166, Vi p]) (S' := []) (L0 := [Vr 166, Vi p]) (fun _ => rfl) rfl rfl rfl rfl rfl rfl (m_gWho p hT) (fun r h' hq => ?_)
  obtain ⟨rfl, rfl⟩ := hq
  by_cases c2 : okW G p
  · rw [if_pos c2]
    show Ev X _ _ 5 [Vr 166, Vi p, Vi o] [Vi 1] ((SHv st dr rd), (ovl a s b)) _
    refine Ev.call (k := 3) (pc1 := 10) (L1 := [Vr 166, Vi p, Vi o]) (S1 := [Vi o, Vr 166]) (h1 := ((SHv st dr rd), (ovl a s b))) (m' := 197) (as := [Vr 166, Vi o]) (S' := []) (L0 := [Vr 166, Vi o]) (fun _ => rfl) rfl rfl rfl rfl rfl rfl (m_gWho o hT) (fun r h' hq => ?_)
    obtain ⟨rfl, rfl⟩ := hq
    by_cases c10 : okW G o
    · rw [if_pos c10]
      show Ev X _ _ 13 [Vr 166, Vi p, Vi o] [Vi 1] ((SHv st dr rd), (ovl a s b)) _
      refine Ev.steps (k := 5) (pc' := 22) (L' := [Vr 166, Vi p, Vi o]) (S' := [Vi (b 202 0)]) (h' := ((SHv st dr rd), (ovl a s b))) (fun _ => rfl) ?_
      rw [e202]
      refine Ev.ite (P := ((gn G : Nat) : Int) ≤ 0) (k := 1) (a := 39) (b := 25) (L' := [Vr 166, Vi p, Vi o]) (S' := []) (h' := ((SHv st dr rd), (ovl a s b))) (fun _ => rfl) (fun b22 => ?_) (fun b22 => ?_)
      · refine Ev.fin (k := 2) (r := (some (Vi (-1)))) (h' := ((SHv st dr rd), (ovl a s b))) (fun _ => rfl) ?_
        refine ⟨?_, rfl⟩
        unfold aKnows
        first
          | (rw [if_neg (by omega)])
          | (rw [if_pos (by omega)]
             have hx := (e212 (by omega)).1 (8 * p + o).toNat (by omega)
             rw [hx, show (8 * p + o).toNat = 8 * p.toNat + o.toNat by omega])
      · refine Ev.steps (k := 5) (pc' := 33) (L' := [Vr 166, Vi p, Vi o]) (S' := [Vi (w32 (8 * p)), Vr 212]) (h' := ((SHv st dr rd), (ovl a s b))) (fun _ => rfl) ?_
        rw [show (w32 (8 * p)) = (8 * p) from w32_id (by unfold R32; omega)]
        refine Ev.steps (k := 2) (pc' := 35) (L' := [Vr 166, Vi p, Vi o]) (S' := [Vi (w32 ((8 * p) + o)), Vr 212]) (h' := ((SHv st dr rd), (ovl a s b))) (fun _ => rfl) ?_
        rw [show (w32 ((8 * p) + o)) = ((8 * p) + o) from w32_id (by unfold R32; omega)]
        refine Ev.iald (v := (b 212 ((8 * p) + o).toNat)) rfl (by decide) rfl (by omega) (by omega) (rfl) ?_
        refine Ev.fin (k := 2) (r := (some (Vi (b 212 ((8 * p) + o).toNat)))) (h' := ((SHv st dr rd), (ovl a s b))) (fun _ => rfl) ?_
        refine ⟨?_, rfl⟩
        unfold aKnows
        first
          | (rw [if_neg (by omega)])
          | (rw [if_pos (by omega)]
             have hx := (e212 (by omega)).1 (8 * p + o).toNat (by omega)
             rw [hx, show (8 * p + o).toNat = 8 * p.toNat + o.toNat by omega])
    · rw [if_neg c10]
      show Ev X _ _ 13 [Vr 166, Vi p, Vi o] [Vi 0] ((SHv st dr rd), (ovl a s b)) _
      refine Ev.fin (k := 3) (r := (some (Vi (-1)))) (h' := ((SHv st dr rd), (ovl a s b))) (fun _ => rfl) ?_
      refine ⟨?_, rfl⟩
      unfold aKnows
      first
        | (rw [if_neg (by omega)])
        | (rw [if_pos (by omega)]
           have hx := (e212 (by omega)).1 (8 * p + o).toNat (by omega)
           rw [hx, show (8 * p + o).toNat = 8 * p.toNat + o.toNat by omega])
  · rw [if_neg c2]
    show Ev X _ _ 5 [Vr 166, Vi p, Vi o] [Vi 0] ((SHv st dr rd), (ovl a s b)) _
    refine Ev.fin (k := 3) (r := (some (Vi (-1)))) (h' := ((SHv st dr rd), (ovl a s b))) (fun _ => rfl) ?_
    refine ⟨?_, rfl⟩
    unfold aKnows
    first
      | (rw [if_neg (by omega)])
      | (rw [if_pos (by omega)]
         have hx := (e212 (by omega)).1 (8 * p + o).toNat (by omega)
         rw [hx, show (8 * p + o).toNat = 8 * p.toNat + o.toNat by omega])
theorem g_has {X : List Int} {d : Nat} {st dr rd : Int} {a s b : C3} (w : Int) {G : GST} (hT : TopM G b) : Ev X d 193 0 [Vr 166, Vi w] [] (SHv st dr rd, ovl a s b) (fun rr hh => rr = some (Vi (aHas G w)) ∧ hh = (SHv st dr rd, ovl a s b)) := by
  obtain ⟨bk, hY_b, hWY, hB1, hWB, hWE, hn180, hEQ, hTp, hfk, hfp, hO⟩ := id hT
  obtain ⟨hb2_b, h12_b, h168_b, h169_b, h170_b, h171_b, h173_b, h172_b, h174_b, h176_b, h178_b, h175_b, h177_b, h179_b, h180_b, h184_b⟩ := id hY_b
  obtain ⟨wR, wD, wW, wT, wL, wC, wdoor, wsym, wWI, wTI, wCl, wRu⟩ := id hWY
  obtain ⟨w8, wWc⟩ := wW
  obtain ⟨t8, wTc⟩ := wT
  obtain ⟨r8, wRc⟩ := wR
  obtain ⟨l30, wLc⟩ := wL
  obtain ⟨c12, wCc⟩ := wC
  obtain ⟨e202, e203, e204, e211, e210, eHis, e212⟩ := id hEQ
  refine Ev.steps (k := 1) (pc' := 1) (L' := [Vr 166, Vi w]) (S' := [Vi w]) (h' := ((SHv st dr rd), (ovl a s b))) (fun _ => rfl) ?_
  rcases (show w = 0 ∨ w = 1 ∨ w = 2 ∨ w = 3 ∨ w = 4 ∨ w = 5 ∨ w = 6 ∨ w = 7 ∨ w = 8 ∨ (w ≠ 0 ∧ w ≠ 1 ∧ w ≠ 2 ∧ w ≠ 3 ∧ w ≠ 4 ∧ w ≠ 5 ∧ w ≠ 6 ∧ w ≠ 7 ∧ w ≠ 8) by omega) with b1 | b1 | b1 | b1 | b1 | b1 | b1 | b1 | b1 | b1
  · rw [b1]
    refine Ev.steps (k := 5) (pc' := 60) (L' := [Vr 166, Vi 0]) (S' := [Vi (b 166 12), Vr 168]) (h' := ((SHv st dr rd), (ovl a s b))) (fun _ => rfl) ?_
    rw [h12_b]
    refine Ev.iald (v := ((nR (gS G) : Nat) : Int)) rfl (by decide) rfl (by omega) (by omega) (h168_b) ?_
    refine Ev.fin (k := 1) (r := (some (Vi ((nR (gS G) : Nat) : Int)))) (h' := ((SHv st dr rd), (ovl a s b))) (fun _ => rfl) ?_
    refine ⟨?_, rfl⟩
    unfold aHas
    first | (rw [if_neg (by omega), if_neg (by omega), if_neg (by omega), if_neg (by omega), if_neg (by omega), if_neg (by omega), if_neg (by omega), if_neg (by omega), if_neg (by omega)]) | (subst b1; simp only [if_true, if_false, Int.reduceEq]; all_goals first | rfl | exact congrArg (fun z => some (Vi z)) wRc.symm | exact congrArg (fun z => some (Vi z)) wWc.symm | exact congrArg (fun z => some (Vi z)) wTc.symm | exact congrArg (fun z => some (Vi z)) wLc.symm | exact congrArg (fun z => some (Vi z)) wCc.symm)
  · rw [b1]
    refine Ev.steps (k := 5) (pc' := 70) (L' := [Vr 166, Vi 1]) (S' := [Vi (b 166 12), Vr 169]) (h' := ((SHv st dr rd), (ovl a s b))) (fun _ => rfl) ?_
    rw [h12_b]
    refine Ev.iald (v := ((gS G).1 0 1)) rfl (by decide) rfl (by omega) (by omega) (h169_b) ?_
    refine Ev.fin (k := 1) (r := (some (Vi ((gS G).1 0 1)))) (h' := ((SHv st dr rd), (ovl a s b))) (fun _ => rfl) ?_
    refine ⟨?_, rfl⟩
    unfold aHas
    first | (rw [if_neg (by omega), if_neg (by omega), if_neg (by omega), if_neg (by omega), if_neg (by omega), if_neg (by omega), if_neg (by omega), if_neg (by omega), if_neg (by omega)]) | (subst b1; simp only [if_true, if_false, Int.reduceEq]; all_goals first | rfl | exact congrArg (fun z => some (Vi z)) wRc.symm | exact congrArg (fun z => some (Vi z)) wWc.symm | exact congrArg (fun z => some (Vi z)) wTc.symm | exact congrArg (fun z => some (Vi z)) wLc.symm | exact congrArg (fun z => some (Vi z)) wCc.symm)
  · rw [b1]
    refine Ev.steps (k := 5) (pc' := 80) (L' := [Vr 166, Vi 2]) (S' := [Vi (b 166 12), Vr 170]) (h' := ((SHv st dr rd), (ovl a s b))) (fun _ => rfl) ?_
    rw [h12_b]
    refine Ev.iald (v := ((nW (gS G) : Nat) : Int)) rfl (by decide) rfl (by omega) (by omega) (h170_b) ?_
    refine Ev.fin (k := 1) (r := (some (Vi ((nW (gS G) : Nat) : Int)))) (h' := ((SHv st dr rd), (ovl a s b))) (fun _ => rfl) ?_
    refine ⟨?_, rfl⟩
    unfold aHas
    first | (rw [if_neg (by omega), if_neg (by omega), if_neg (by omega), if_neg (by omega), if_neg (by omega), if_neg (by omega), if_neg (by omega), if_neg (by omega), if_neg (by omega)]) | (subst b1; simp only [if_true, if_false, Int.reduceEq]; all_goals first | rfl | exact congrArg (fun z => some (Vi z)) wRc.symm | exact congrArg (fun z => some (Vi z)) wWc.symm | exact congrArg (fun z => some (Vi z)) wTc.symm | exact congrArg (fun z => some (Vi z)) wLc.symm | exact congrArg (fun z => some (Vi z)) wCc.symm)
  · rw [b1]
    refine Ev.steps (k := 5) (pc' := 90) (L' := [Vr 166, Vi 3]) (S' := [Vi (b 166 12), Vr 171]) (h' := ((SHv st dr rd), (ovl a s b))) (fun _ => rfl) ?_
    rw [h12_b]
    refine Ev.iald (v := ((nT (gS G) : Nat) : Int)) rfl (by decide) rfl (by omega) (by omega) (h171_b) ?_
    refine Ev.fin (k := 1) (r := (some (Vi ((nT (gS G) : Nat) : Int)))) (h' := ((SHv st dr rd), (ovl a s b))) (fun _ => rfl) ?_
    refine ⟨?_, rfl⟩
    unfold aHas
    first | (rw [if_neg (by omega), if_neg (by omega), if_neg (by omega), if_neg (by omega), if_neg (by omega), if_neg (by omega), if_neg (by omega), if_neg (by omega), if_neg (by omega)]) | (subst b1; simp only [if_true, if_false, Int.reduceEq]; all_goals first | rfl | exact congrArg (fun z => some (Vi z)) wRc.symm | exact congrArg (fun z => some (Vi z)) wWc.symm | exact congrArg (fun z => some (Vi z)) wTc.symm | exact congrArg (fun z => some (Vi z)) wLc.symm | exact congrArg (fun z => some (Vi z)) wCc.symm)
  · rw [b1]
    refine Ev.steps (k := 5) (pc' := 100) (L' := [Vr 166, Vi 4]) (S' := [Vi (b 166 12), Vr 173]) (h' := ((SHv st dr rd), (ovl a s b))) (fun _ => rfl) ?_
    rw [h12_b]
    refine Ev.iald (v := ((nL (gS G) : Nat) : Int)) rfl (by decide) rfl (by omega) (by omega) (h173_b) ?_
    refine Ev.fin (k := 1) (r := (some (Vi ((nL (gS G) : Nat) : Int)))) (h' := ((SHv st dr rd), (ovl a s b))) (fun _ => rfl) ?_
    refine ⟨?_, rfl⟩
    unfold aHas
    first | (rw [if_neg (by omega), if_neg (by omega), if_neg (by omega), if_neg (by omega), if_neg (by omega), if_neg (by omega), if_neg (by omega), if_neg (by omega), if_neg (by omega)]) | (subst b1; simp only [if_true, if_false, Int.reduceEq]; all_goals first | rfl | exact congrArg (fun z => some (Vi z)) wRc.symm | exact congrArg (fun z => some (Vi z)) wWc.symm | exact congrArg (fun z => some (Vi z)) wTc.symm | exact congrArg (fun z => some (Vi z)) wLc.symm | exact congrArg (fun z => some (Vi z)) wCc.symm)
  · rw [b1]
    refine Ev.steps (k := 5) (pc' := 110) (L' := [Vr 166, Vi 5]) (S' := [Vi (b 166 12), Vr 172]) (h' := ((SHv st dr rd), (ovl a s b))) (fun _ => rfl) ?_
    rw [h12_b]
    refine Ev.iald (v := ((nC (gS G) : Nat) : Int)) rfl (by decide) rfl (by omega) (by omega) (h172_b) ?_
    refine Ev.fin (k := 1) (r := (some (Vi ((nC (gS G) : Nat) : Int)))) (h' := ((SHv st dr rd), (ovl a s b))) (fun _ => rfl) ?_
    refine ⟨?_, rfl⟩
    unfold aHas
    first | (rw [if_neg (by omega), if_neg (by omega), if_neg (by omega), if_neg (by omega), if_neg (by omega), if_neg (by omega), if_neg (by omega), if_neg (by omega), if_neg (by omega)]) | (subst b1; simp only [if_true, if_false, Int.reduceEq]; all_goals first | rfl | exact congrArg (fun z => some (Vi z)) wRc.symm | exact congrArg (fun z => some (Vi z)) wWc.symm | exact congrArg (fun z => some (Vi z)) wTc.symm | exact congrArg (fun z => some (Vi z)) wLc.symm | exact congrArg (fun z => some (Vi z)) wCc.symm)
  · rw [b1]
    refine Ev.steps (k := 5) (pc' := 118) (L' := [Vr 166, Vi 6]) (S' := [Vi (b 202 0)]) (h' := ((SHv st dr rd), (ovl a s b))) (fun _ => rfl) ?_
    rw [e202]
    refine Ev.fin (k := 1) (r := (some (Vi ((gn G : Nat) : Int)))) (h' := ((SHv st dr rd), (ovl a s b))) (fun _ => rfl) ?_
    refine ⟨?_, rfl⟩
    unfold aHas
    first | (rw [if_neg (by omega), if_neg (by omega), if_neg (by omega), if_neg (by omega), if_neg (by omega), if_neg (by omega), if_neg (by omega), if_neg (by omega), if_neg (by omega)]) | (subst b1; simp only [if_true, if_false, Int.reduceEq]; all_goals first | rfl | exact congrArg (fun z => some (Vi z)) wRc.symm | exact congrArg (fun z => some (Vi z)) wWc.symm | exact congrArg (fun z => some (Vi z)) wTc.symm | exact congrArg (fun z => some (Vi z)) wLc.symm | exact congrArg (fun z => some (Vi z)) wCc.symm)
  · rw [b1]
    refine Ev.steps (k := 5) (pc' := 125) (L' := [Vr 166, Vi 7]) (S' := [Vi (b 203 0)]) (h' := ((SHv st dr rd), (ovl a s b))) (fun _ => rfl) ?_
    rw [e203]
    refine Ev.fin (k := 1) (r := (some (Vi (gA G (gn G) 9 0)))) (h' := ((SHv st dr rd), (ovl a s b))) (fun _ => rfl) ?_
    refine ⟨?_, rfl⟩
    unfold aHas
    first | (rw [if_neg (by omega), if_neg (by omega), if_neg (by omega), if_neg (by omega), if_neg (by omega), if_neg (by omega), if_neg (by omega), if_neg (by omega), if_neg (by omega)]) | (subst b1; simp only [if_true, if_false, Int.reduceEq]; all_goals first | rfl | exact congrArg (fun z => some (Vi z)) wRc.symm | exact congrArg (fun z => some (Vi z)) wWc.symm | exact congrArg (fun z => some (Vi z)) wTc.symm | exact congrArg (fun z => some (Vi z)) wLc.symm | exact congrArg (fun z => some (Vi z)) wCc.symm)
  · rw [b1]
    refine Ev.steps (k := 5) (pc' := 132) (L' := [Vr 166, Vi 8]) (S' := [Vi (b 204 0)]) (h' := ((SHv st dr rd), (ovl a s b))) (fun _ => rfl) ?_
    rw [e204]
    refine Ev.fin (k := 1) (r := (some (Vi (gA G (gn G) 7 0)))) (h' := ((SHv st dr rd), (ovl a s b))) (fun _ => rfl) ?_
    refine ⟨?_, rfl⟩
    unfold aHas
    first | (rw [if_neg (by omega), if_neg (by omega), if_neg (by omega), if_neg (by omega), if_neg (by omega), if_neg (by omega), if_neg (by omega), if_neg (by omega), if_neg (by omega)]) | (subst b1; simp only [if_true, if_false, Int.reduceEq]; all_goals first | rfl | exact congrArg (fun z => some (Vi z)) wRc.symm | exact congrArg (fun z => some (Vi z)) wWc.symm | exact congrArg (fun z => some (Vi z)) wTc.symm | exact congrArg (fun z => some (Vi z)) wLc.symm | exact congrArg (fun z => some (Vi z)) wCc.symm)
  · refine Ev.tswd (dflt := 132) rfl (by omega) (by decide) ?_
    show Ev X _ _ 133 [Vr 166, Vi w] [] ((SHv st dr rd), (ovl a s b)) _
    refine Ev.fin (k := 2) (r := (some (Vi (-1)))) (h' := ((SHv st dr rd), (ovl a s b))) (fun _ => rfl) ?_
    refine ⟨?_, rfl⟩
    unfold aHas
    first | (rw [if_neg (by omega), if_neg (by omega), if_neg (by omega), if_neg (by omega), if_neg (by omega), if_neg (by omega), if_neg (by omega), if_neg (by omega), if_neg (by omega)]) | (subst b1; simp only [if_true, if_false, Int.reduceEq]; all_goals first | rfl | exact congrArg (fun z => some (Vi z)) wRc.symm | exact congrArg (fun z => some (Vi z)) wWc.symm | exact congrArg (fun z => some (Vi z)) wTc.symm | exact congrArg (fun z => some (Vi z)) wLc.symm | exact congrArg (fun z => some (Vi z)) wCc.symm)
theorem g_fault {X : List Int} {d : Nat} {st dr rd : Int} {a s b : C3} (w : Int) {G : GST} (hT : TopM G b) : Ev X d 192 0 [Vr 166, Vi w] [] (SHv st dr rd, ovl a s b) (fun rr hh => rr = some (Vi (if w = 0 then gk G else if w = 1 then gp G else -1)) ∧ hh = (SHv st dr rd, ovl a s b)) := by
  obtain ⟨bk, hY_b, hWY, hB1, hWB, hWE, hn180, hEQ, hTp, hfk, hfp, hO⟩ := id hT
  obtain ⟨hb2_b, h12_b, h168_b, h169_b, h170_b, h171_b, h173_b, h172_b, h174_b, h176_b, h178_b, h175_b, h177_b, h179_b, h180_b, h184_b⟩ := id hY_b
  obtain ⟨wR, wD, wW, wT, wL, wC, wdoor, wsym, wWI, wTI, wCl, wRu⟩ := id hWY
  obtain ⟨w8, wWc⟩ := wW
  obtain ⟨t8, wTc⟩ := wT
  obtain ⟨r8, wRc⟩ := wR
  obtain ⟨l30, wLc⟩ := wL
  obtain ⟨c12, wCc⟩ := wC
  obtain ⟨e202, e203, e204, e211, e210, eHis, e212⟩ := id hEQ
  refine Ev.ite (P := w ≠ 0) (k := 2) (a := 11) (b := 4) (L' := [Vr 166, Vi w]) (S' := []) (h' := ((SHv st dr rd), (ovl a s b))) (fun _ => rfl) (fun b1 => ?_) (fun b1 => ?_)
  · refine Ev.ite (P := w ≠ 1) (k := 3) (a := 23) (b := 16) (L' := [Vr 166, Vi w]) (S' := []) (h' := ((SHv st dr rd), (ovl a s b))) (fun _ => rfl) (fun b13 => ?_) (fun b13 => ?_)
    · refine Ev.fin (k := 2) (r := (some (Vi (-1)))) (h' := ((SHv st dr rd), (ovl a s b))) (fun _ => rfl) ?_
      refine ⟨?_, rfl⟩
      first | rw [if_pos (by omega)] | (rw [if_neg (by omega), if_pos (by omega)]) | (rw [if_neg (by omega), if_neg (by omega)])
    · refine Ev.steps (k := 2) (pc' := 20) (L' := [Vr 166, Vi w]) (S' := [Vi (b 166 11)]) (h' := ((SHv st dr rd), (ovl a s b))) (fun _ => rfl) ?_
      rw [hfp]
      refine Ev.fin (k := 2) (r := (some (Vi (gp G)))) (h' := ((SHv st dr rd), (ovl a s b))) (fun _ => rfl) ?_
      refine ⟨?_, rfl⟩
      first | rw [if_pos (by omega)] | (rw [if_neg (by omega), if_pos (by omega)]) | (rw [if_neg (by omega), if_neg (by omega)])
  · refine Ev.steps (k := 2) (pc' := 8) (L' := [Vr 166, Vi w]) (S' := [Vi (b 166 10)]) (h' := ((SHv st dr rd), (ovl a s b))) (fun _ => rfl) ?_
    rw [hfk]
    refine Ev.fin (k := 2) (r := (some (Vi (gk G)))) (h' := ((SHv st dr rd), (ovl a s b))) (fun _ => rfl) ?_
    refine ⟨?_, rfl⟩
    first | rw [if_pos (by omega)] | (rw [if_neg (by omega), if_pos (by omega)]) | (rw [if_neg (by omega), if_neg (by omega)])
