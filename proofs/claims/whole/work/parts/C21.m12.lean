/-! THE CLASS: its whole state, against what is said; what is asked of an evening -/
/-- what is kept of the changes that were sought -/
def ChC (G : GST) (a : SC) : Prop := (a 141 4 = 0 ∨ a 141 4 = 1) ∧ (a 141 5 = 0 ∨ a 141 5 = 1) ∧ (a 141 4 = 1 → gA G (gn G) 9 0 ≠ 0 ∧ ∀ w, w < 3 → a 164 w = aSpare G w) ∧ (a 141 5 = 1 → 0 < gn G ∧ ∀ w, w < 4 → a 165 w = aFairest G w)
def EvT (G : GST) (a : SC) : Prop := a 119 7 = ((gn G : Nat) : Int) ∧ a 119 6 = gA G (gn G) 9 0 ∧ a 133 5 = gA G (gn G) 7 0 ∧ a 133 0 = 1 ∧ (0 < gn G → EvF (gS G) (gE G) a 119 (gn G))
/-- a byte, as the class has it -/
def sbS (v : Int) : Int := if v < 128 then v else v - 256
/-- the own words, as the class has them -/
def ownL : List Int := [605677, 146930, 23823, 302, 21243335, 624435, 239, 656741, 12345, 763397, 201900, 370060, 762030, 498, 1476, 14836, 1420, 52, 8243, 463922, 1457605, 136228, 12009203, 446125701, 441828, 13614, 13368]
def ownN (w : Nat) : Int := match pm_nth ownL w with
  | some v => v
  | none => 0
def OwnC (a : SC) : Prop := ∀ w, w < 27 → a 115 w = ownN w
def TopC (G : GST) (a : SC) (rd : Int) (y z : Nat) : Prop :=
  (y = 2 ∧ z = 58 ∨ y = 58 ∧ z = 2) ∧ (rd = 2 ∨ rd = 58) ∧ RpC (gS G) a y ∧ WfY (gS G) ∧ RbC (gS G) (gB G) a 116 ∧ WfB (gS G) (gB G) ∧ WfB (gS G) (gE G) ∧ gn G ≤ 180 ∧ EvT G a ∧
  (gt G ≤ 1200 ∧ a 0 1 = ((gt G : Nat) : Int) ∧ ∀ i, i < gt G → a 1 i = sbS (gT G i) ∧ 0 ≤ gT G i ∧ gT G i < 256) ∧ a 114 9 = gk G ∧ a 114 10 = gp G ∧ ChC G a ∧ a 156 0 = 0 ∧ OwnC a
theorem q_thR {X : List Int} {d : Nat} {rd : Int} {a s b : C3} {y z : Nat} {G : GST} (hT : TopC G a rd y z) (x : Int) : Ev X d 70 0 [Vr (y : Int), Vi 0, Vi x] [] (SHv (y : Int) (z : Int) rd, ovl a s b) (fun rr hh => rr = some (Vi (if okR G x then 1 else 0)) ∧ hh = (SHv (y : Int) (z : Int) rd, ovl a s b)) := by
  obtain ⟨hyz, hrd, hY, hWY, hBB, hWB, hWE, hn180, ⟨e7, e6, e5, e0, hEv⟩, hTp, hfk, hfp, hCh, h156, hOwn⟩ := id hT
  have hy : hyS y := by show y = 2 ∨ y = 58; omega
  have hy0 : y = 2 ∨ y = 58 := hy
  have hW8 := hWY.2.2.1.1
  have hR8 := hWY.1.1
  have hT8 := hWY.2.2.2.1.1
  have hL30 := hWY.2.2.2.2.1.1
  have hC12 := hWY.2.2.2.2.2.1.1
  have h := c_there (X := X) (d := d) (st := (y : Int)) (dr := (z : Int)) (rd := rd) (a := a) (s := s) (b := b) hy 0 (by omega) x
  rw [hY.1 0 (by omega), hWY.1.2] at h
  exact h
theorem q_thW {X : List Int} {d : Nat} {rd : Int} {a s b : C3} {y z : Nat} {G : GST} (hT : TopC G a rd y z) (x : Int) : Ev X d 70 0 [Vr (y : Int), Vi 2, Vi x] [] (SHv (y : Int) (z : Int) rd, ovl a s b) (fun rr hh => rr = some (Vi (if okW G x then 1 else 0)) ∧ hh = (SHv (y : Int) (z : Int) rd, ovl a s b)) := by
  obtain ⟨hyz, hrd, hY, hWY, hBB, hWB, hWE, hn180, ⟨e7, e6, e5, e0, hEv⟩, hTp, hfk, hfp, hCh, h156, hOwn⟩ := id hT
  have hy : hyS y := by show y = 2 ∨ y = 58; omega
  have hy0 : y = 2 ∨ y = 58 := hy
  have hW8 := hWY.2.2.1.1
  have hR8 := hWY.1.1
  have hT8 := hWY.2.2.2.1.1
  have hL30 := hWY.2.2.2.2.1.1
  have hC12 := hWY.2.2.2.2.2.1.1
  have h := c_there (X := X) (d := d) (st := (y : Int)) (dr := (z : Int)) (rd := rd) (a := a) (s := s) (b := b) hy 2 (by omega) x
  rw [hY.1 2 (by omega), hWY.2.2.1.2] at h
  exact h
theorem q_thT {X : List Int} {d : Nat} {rd : Int} {a s b : C3} {y z : Nat} {G : GST} (hT : TopC G a rd y z) (x : Int) : Ev X d 70 0 [Vr (y : Int), Vi 3, Vi x] [] (SHv (y : Int) (z : Int) rd, ovl a s b) (fun rr hh => rr = some (Vi (if okT G x then 1 else 0)) ∧ hh = (SHv (y : Int) (z : Int) rd, ovl a s b)) := by
  obtain ⟨hyz, hrd, hY, hWY, hBB, hWB, hWE, hn180, ⟨e7, e6, e5, e0, hEv⟩, hTp, hfk, hfp, hCh, h156, hOwn⟩ := id hT
  have hy : hyS y := by show y = 2 ∨ y = 58; omega
  have hy0 : y = 2 ∨ y = 58 := hy
  have hW8 := hWY.2.2.1.1
  have hR8 := hWY.1.1
  have hT8 := hWY.2.2.2.1.1
  have hL30 := hWY.2.2.2.2.1.1
  have hC12 := hWY.2.2.2.2.2.1.1
  have h := c_there (X := X) (d := d) (st := (y : Int)) (dr := (z : Int)) (rd := rd) (a := a) (s := s) (b := b) hy 3 (by omega) x
  rw [hY.1 3 (by omega), hWY.2.2.2.1.2] at h
  exact h
theorem q_thL {X : List Int} {d : Nat} {rd : Int} {a s b : C3} {y z : Nat} {G : GST} (hT : TopC G a rd y z) (x : Int) : Ev X d 70 0 [Vr (y : Int), Vi 4, Vi x] [] (SHv (y : Int) (z : Int) rd, ovl a s b) (fun rr hh => rr = some (Vi (if okRl G x then 1 else 0)) ∧ hh = (SHv (y : Int) (z : Int) rd, ovl a s b)) := by
  obtain ⟨hyz, hrd, hY, hWY, hBB, hWB, hWE, hn180, ⟨e7, e6, e5, e0, hEv⟩, hTp, hfk, hfp, hCh, h156, hOwn⟩ := id hT
  have hy : hyS y := by show y = 2 ∨ y = 58; omega
  have hy0 : y = 2 ∨ y = 58 := hy
  have hW8 := hWY.2.2.1.1
  have hR8 := hWY.1.1
  have hT8 := hWY.2.2.2.1.1
  have hL30 := hWY.2.2.2.2.1.1
  have hC12 := hWY.2.2.2.2.2.1.1
  have h := c_there (X := X) (d := d) (st := (y : Int)) (dr := (z : Int)) (rd := rd) (a := a) (s := s) (b := b) hy 4 (by omega) x
  rw [hY.1 4 (by omega), hWY.2.2.2.2.1.2] at h
  exact h
theorem q_thC {X : List Int} {d : Nat} {rd : Int} {a s b : C3} {y z : Nat} {G : GST} (hT : TopC G a rd y z) (x : Int) : Ev X d 70 0 [Vr (y : Int), Vi 5, Vi x] [] (SHv (y : Int) (z : Int) rd, ovl a s b) (fun rr hh => rr = some (Vi (if okC G x then 1 else 0)) ∧ hh = (SHv (y : Int) (z : Int) rd, ovl a s b)) := by
  obtain ⟨hyz, hrd, hY, hWY, hBB, hWB, hWE, hn180, ⟨e7, e6, e5, e0, hEv⟩, hTp, hfk, hfp, hCh, h156, hOwn⟩ := id hT
  have hy : hyS y := by show y = 2 ∨ y = 58; omega
  have hy0 : y = 2 ∨ y = 58 := hy
  have hW8 := hWY.2.2.1.1
  have hR8 := hWY.1.1
  have hT8 := hWY.2.2.2.1.1
  have hL30 := hWY.2.2.2.2.1.1
  have hC12 := hWY.2.2.2.2.2.1.1
  have h := c_there (X := X) (d := d) (st := (y : Int)) (dr := (z : Int)) (rd := rd) (a := a) (s := s) (b := b) hy 5 (by omega) x
  rw [hY.1 5 (by omega), hWY.2.2.2.2.2.1.2] at h
  exact h
theorem q_had {X : List Int} {d : Nat} {rd : Int} {a s b : C3} {y z : Nat} {G : GST} (hT : TopC G a rd y z) (m : Int) : Ev X d 106 0 [Vr 119, Vi m] [] (SHv (y : Int) (z : Int) rd, ovl a s b) (fun rr hh => rr = some (Vi (if okM G m then 1 else 0)) ∧ hh = (SHv (y : Int) (z : Int) rd, ovl a s b)) := by
  obtain ⟨hyz, hrd, hY, hWY, hBB, hWB, hWE, hn180, ⟨e7, e6, e5, e0, hEv⟩, hTp, hfk, hfp, hCh, h156, hOwn⟩ := id hT
  have hy : hyS y := by show y = 2 ∨ y = 58; omega
  have hy0 : y = 2 ∨ y = 58 := hy
  have hW8 := hWY.2.2.1.1
  have hR8 := hWY.1.1
  have hT8 := hWY.2.2.2.1.1
  have hL30 := hWY.2.2.2.2.1.1
  have hC12 := hWY.2.2.2.2.2.1.1
  have h := c_had (X := X) (d := d) (st := (y : Int)) (dr := (z : Int)) (rd := rd) (a := a) (s := s) (b := b) (u := 119) (Or.inl rfl) m
  rw [e7] at h
  exact h
theorem q_roomThen {X : List Int} {d : Nat} {rd : Int} {a s b : C3} {y z : Nat} {G : GST} (hT : TopC G a rd y z) (x m : Int) (hx : okW G x) (hm : okM G m) : Ev X d 107 0 [Vr 119, Vi x, Vi m] [] (SHv (y : Int) (z : Int) rd, ovl a s b) (fun rr hh => rr = some (Vi (gA G (m.toNat + 1) 0 x.toNat)) ∧ hh = (SHv (y : Int) (z : Int) rd, ovl a s b)) := by
  obtain ⟨hyz, hrd, hY, hWY, hBB, hWB, hWE, hn180, ⟨e7, e6, e5, e0, hEv⟩, hTp, hfk, hfp, hCh, h156, hOwn⟩ := id hT
  have hy : hyS y := by show y = 2 ∨ y = 58; omega
  have hy0 : y = 2 ∨ y = 58 := hy
  have hW8 := hWY.2.2.1.1
  have hR8 := hWY.1.1
  have hT8 := hWY.2.2.2.1.1
  have hL30 := hWY.2.2.2.2.1.1
  have hC12 := hWY.2.2.2.2.2.1.1
  obtain ⟨p, rfl⟩ : ∃ p : Nat, x = (p : Int) := ⟨x.toNat, by have := hx.1; omega⟩
  obtain ⟨j, rfl⟩ : ∃ j : Nat, m = (j : Int) := ⟨m.toNat, by have := hm.1; omega⟩
  have hp : p < nW (gS G) := by have := hx.2; omega
  have hj : j < gn G := by have := hm.2; omega
  rw [Int.toNat_natCast, Int.toNat_natCast]
  have hE := hEv (by omega)
  exact c_roomThen (u := 119) (Or.inl rfl) hE.2.2.2.2.1 hn180 hW8 p j hj hp
theorem q_livedThen {X : List Int} {d : Nat} {rd : Int} {a s b : C3} {y z : Nat} {G : GST} (hT : TopC G a rd y z) (x m : Int) (hx : okW G x) (hm : okM G m) : Ev X (d + 2) 109 0 [Vr 119, Vi x, Vi m] [] (SHv (y : Int) (z : Int) rd, ovl a s b) (fun rr hh => rr = some (Vi (if gA G (m.toNat + 1) 1 x.toNat ≠ 0 then 1 else 0)) ∧ hh = (SHv (y : Int) (z : Int) rd, ovl a s b)) := by
  obtain ⟨hyz, hrd, hY, hWY, hBB, hWB, hWE, hn180, ⟨e7, e6, e5, e0, hEv⟩, hTp, hfk, hfp, hCh, h156, hOwn⟩ := id hT
  have hy : hyS y := by show y = 2 ∨ y = 58; omega
  have hy0 : y = 2 ∨ y = 58 := hy
  have hW8 := hWY.2.2.1.1
  have hR8 := hWY.1.1
  have hT8 := hWY.2.2.2.1.1
  have hL30 := hWY.2.2.2.2.1.1
  have hC12 := hWY.2.2.2.2.2.1.1
  obtain ⟨p, rfl⟩ : ∃ p : Nat, x = (p : Int) := ⟨x.toNat, by have := hx.1; omega⟩
  obtain ⟨j, rfl⟩ : ∃ j : Nat, m = (j : Int) := ⟨m.toNat, by have := hm.1; omega⟩
  have hp : p < nW (gS G) := by have := hx.2; omega
  have hj : j < gn G := by have := hm.2; omega
  rw [Int.toNat_natCast, Int.toNat_natCast]
  have hE := hEv (by omega)
  exact c_livedThen (u := 119) (Or.inl rfl) hE.2.2.2.2.1 hn180 hW8 p j hj hp
theorem q_witnesses {X : List Int} {d : Nat} {rd : Int} {a s b : C3} {y z : Nat} {G : GST} (hT : TopC G a rd y z) (x m : Int) (hx : okW G x) (hm : okM G m) : Ev X (d + 2) 122 0 [Vr 119, Vi x, Vi m] [] (SHv (y : Int) (z : Int) rd, ovl a s b) (fun rr hh => rr = some (Vi ((witB (nW (gS G)) (gA G (m.toNat + 1)) x.toNat : Nat) : Int)) ∧ hh = (SHv (y : Int) (z : Int) rd, ovl a s b)) := by
  obtain ⟨hyz, hrd, hY, hWY, hBB, hWB, hWE, hn180, ⟨e7, e6, e5, e0, hEv⟩, hTp, hfk, hfp, hCh, h156, hOwn⟩ := id hT
  have hy : hyS y := by show y = 2 ∨ y = 58; omega
  have hy0 : y = 2 ∨ y = 58 := hy
  have hW8 := hWY.2.2.1.1
  have hR8 := hWY.1.1
  have hT8 := hWY.2.2.2.1.1
  have hL30 := hWY.2.2.2.2.1.1
  have hC12 := hWY.2.2.2.2.2.1.1
  obtain ⟨p, rfl⟩ : ∃ p : Nat, x = (p : Int) := ⟨x.toNat, by have := hx.1; omega⟩
  obtain ⟨j, rfl⟩ : ∃ j : Nat, m = (j : Int) := ⟨m.toNat, by have := hm.1; omega⟩
  have hp : p < nW (gS G) := by have := hx.2; omega
  have hj : j < gn G := by have := hm.2; omega
  rw [Int.toNat_natCast, Int.toNat_natCast]
  have hE := hEv (by omega)
  exact c_witnesses (u := 119) (Or.inl rfl) hE.2.2.2.2.1 hn180 hW8 p j hj hp
theorem h_was {X : List Int} {d : Nat} {rd : Int} {a s b : C3} {y z : Nat} {G : GST} (hT : TopC G a rd y z) (x m : Int) : Ev X (d + 1) 105 0 [Vr 0, Vi x, Vi m] [] (SHv (y : Int) (z : Int) rd, ovl a s b) (fun rr hh => rr = some (Vi (aWas G x m)) ∧ hh = (SHv (y : Int) (z : Int) rd, ovl a s b)) := by
  obtain ⟨hyz, hrd, hY, hWY, hBB, hWB, hWE, hn180, ⟨e7, e6, e5, e0, hEv⟩, hTp, hfk, hfp, hCh, h156, hOwn⟩ := id hT
  have hy : hyS y := by show y = 2 ∨ y = 58; omega
  have hy0 : y = 2 ∨ y = 58 := hy
  have hW8 := hWY.2.2.1.1
  have hR8 := hWY.1.1
  have hT8 := hWY.2.2.2.1.1
  have hL30 := hWY.2.2.2.2.1.1
  have hC12 := hWY.2.2.2.2.2.1.1
  refine Ev.call (k := 4) (pc1 := 6) (L1 := [Vr 0, Vi x, Vi m]) (S1 := [Vi x, Vi 2, Vr (y : Int)]) (h1 := ((SHv (y : Int) (z : Int) rd), (ovl a s b))) (m' := 70) (as := [Vr (y : Int), Vi 2, Vi x]) (S' := []) (L0 := [Vr (y : Int), Vi 2, Vi x]) (fun _ => rfl) rfl rfl rfl rfl (stpC_of rfl (pm_recv_of (by omega) (shY_0 hy))) rfl (q_thW hT x) (fun r h' hq => ?_)
  obtain ⟨rfl, rfl⟩ := hq
  by_cases c6 : okW G x
  · rw [if_pos c6]
    show Ev X _ _ 9 [Vr 0, Vi x, Vi m] [Vi 1] ((SHv (y : Int) (z : Int) rd), (ovl a s b)) _
    refine Ev.call (k := 4) (pc1 := 17) (L1 := [Vr 0, Vi x, Vi m]) (S1 := [Vi m, Vr 119]) (h1 := ((SHv (y : Int) (z : Int) rd), (ovl a s b))) (m' := 106) (as := [Vr 119, Vi m]) (S' := []) (L0 := [Vr 119, Vi m]) (fun _ => rfl) rfl rfl rfl rfl rfl rfl (q_had hT m) (fun r h' hq => ?_)
    obtain ⟨rfl, rfl⟩ := hq
    by_cases c17 : okM G m
    · rw [if_pos c17]
      show Ev X _ _ 20 [Vr 0, Vi x, Vi m] [Vi 1] ((SHv (y : Int) (z : Int) rd), (ovl a s b)) _
      refine Ev.call (k := 5) (pc1 := 31) (L1 := [Vr 0, Vi x, Vi m]) (S1 := [Vi m, Vi x, Vr 119]) (h1 := ((SHv (y : Int) (z : Int) rd), (ovl a s b))) (m' := 107) (as := [Vr 119, Vi x, Vi m]) (S' := []) (L0 := [Vr 119, Vi x, Vi m]) (fun _ => rfl) rfl rfl rfl rfl rfl rfl (q_roomThen hT x m c6 c17) (fun r h' hq => ?_)
      obtain ⟨rfl, rfl⟩ := hq
      show Ev X _ _ 34 [Vr 0, Vi x, Vi m] [Vi (gA G (m.toNat + 1) 0 x.toNat)] ((SHv (y : Int) (z : Int) rd), (ovl a s b)) _
      refine Ev.fin (k := 1) (r := (some (Vi (gA G (m.toNat + 1) 0 x.toNat)))) (h' := ((SHv (y : Int) (z : Int) rd), (ovl a s b))) (fun _ => rfl) ?_
      refine ⟨?_, rfl⟩
      unfold aWas
      rw [if_pos ⟨c6, c17⟩]
    · rw [if_neg c17]
      show Ev X _ _ 20 [Vr 0, Vi x, Vi m] [Vi 0] ((SHv (y : Int) (z : Int) rd), (ovl a s b)) _
      refine Ev.fin (k := 3) (r := (some (Vi (-1)))) (h' := ((SHv (y : Int) (z : Int) rd), (ovl a s b))) (fun _ => rfl) ?_
      refine ⟨?_, rfl⟩
      unfold aWas
      first | rw [if_neg (fun h => c6 h.1)] | rw [if_neg (fun h => c17 h.2)]
  · rw [if_neg c6]
    show Ev X _ _ 9 [Vr 0, Vi x, Vi m] [Vi 0] ((SHv (y : Int) (z : Int) rd), (ovl a s b)) _
    refine Ev.fin (k := 3) (r := (some (Vi (-1)))) (h' := ((SHv (y : Int) (z : Int) rd), (ovl a s b))) (fun _ => rfl) ?_
    refine ⟨?_, rfl⟩
    unfold aWas
    first | rw [if_neg (fun h => c6 h.1)] | rw [if_neg (fun h => c17 h.2)]
theorem h_alive {X : List Int} {d : Nat} {rd : Int} {a s b : C3} {y z : Nat} {G : GST} (hT : TopC G a rd y z) (x m : Int) : Ev X (d + 3) 108 0 [Vr 0, Vi x, Vi m] [] (SHv (y : Int) (z : Int) rd, ovl a s b) (fun rr hh => rr = some (Vi (aAlive G x m)) ∧ hh = (SHv (y : Int) (z : Int) rd, ovl a s b)) := by
  obtain ⟨hyz, hrd, hY, hWY, hBB, hWB, hWE, hn180, ⟨e7, e6, e5, e0, hEv⟩, hTp, hfk, hfp, hCh, h156, hOwn⟩ := id hT
  have hy : hyS y := by show y = 2 ∨ y = 58; omega
  have hy0 : y = 2 ∨ y = 58 := hy
  have hW8 := hWY.2.2.1.1
  have hR8 := hWY.1.1
  have hT8 := hWY.2.2.2.1.1
  have hL30 := hWY.2.2.2.2.1.1
  have hC12 := hWY.2.2.2.2.2.1.1
  refine Ev.call (k := 4) (pc1 := 6) (L1 := [Vr 0, Vi x, Vi m]) (S1 := [Vi x, Vi 2, Vr (y : Int)]) (h1 := ((SHv (y : Int) (z : Int) rd), (ovl a s b))) (m' := 70) (as := [Vr (y : Int), Vi 2, Vi x]) (S' := []) (L0 := [Vr (y : Int), Vi 2, Vi x]) (fun _ => rfl) rfl rfl rfl rfl (stpC_of rfl (pm_recv_of (by omega) (shY_0 hy))) rfl (q_thW hT x) (fun r h' hq => ?_)
  obtain ⟨rfl, rfl⟩ := hq
  by_cases c6 : okW G x
  · rw [if_pos c6]
    show Ev X _ _ 9 [Vr 0, Vi x, Vi m] [Vi 1] ((SHv (y : Int) (z : Int) rd), (ovl a s b)) _
    refine Ev.call (k := 4) (pc1 := 17) (L1 := [Vr 0, Vi x, Vi m]) (S1 := [Vi m, Vr 119]) (h1 := ((SHv (y : Int) (z : Int) rd), (ovl a s b))) (m' := 106) (as := [Vr 119, Vi m]) (S' := []) (L0 := [Vr 119, Vi m]) (fun _ => rfl) rfl rfl rfl rfl rfl rfl (q_had hT m) (fun r h' hq => ?_)
    obtain ⟨rfl, rfl⟩ := hq
    by_cases c17 : okM G m
    · rw [if_pos c17]
      show Ev X _ _ 20 [Vr 0, Vi x, Vi m] [Vi 1] ((SHv (y : Int) (z : Int) rd), (ovl a s b)) _
      refine Ev.call (k := 5) (pc1 := 31) (L1 := [Vr 0, Vi x, Vi m]) (S1 := [Vi m, Vi x, Vr 119]) (h1 := ((SHv (y : Int) (z : Int) rd), (ovl a s b))) (m' := 109) (as := [Vr 119, Vi x, Vi m]) (S' := []) (L0 := [Vr 119, Vi x, Vi m]) (fun _ => rfl) rfl rfl rfl rfl rfl rfl (q_livedThen hT x m c6 c17) (fun r h' hq => ?_)
      obtain ⟨rfl, rfl⟩ := hq
      by_cases c31 : gA G (m.toNat + 1) 1 x.toNat ≠ 0
      · rw [if_pos c31]
        show Ev X _ _ 34 [Vr 0, Vi x, Vi m] [Vi 1] ((SHv (y : Int) (z : Int) rd), (ovl a s b)) _
        refine Ev.fin (k := 4) (r := (some (Vi 1))) (h' := ((SHv (y : Int) (z : Int) rd), (ovl a s b))) (fun _ => rfl) ?_
        refine ⟨?_, rfl⟩
        unfold aAlive
        rw [if_pos ⟨c6, c17⟩]
        first | rw [if_pos c31] | rw [if_neg c31]
      · rw [if_neg c31]
        show Ev X _ _ 34 [Vr 0, Vi x, Vi m] [Vi 0] ((SHv (y : Int) (z : Int) rd), (ovl a s b)) _
        refine Ev.fin (k := 3) (r := (some (Vi 0))) (h' := ((SHv (y : Int) (z : Int) rd), (ovl a s b))) (fun _ => rfl) ?_
        refine ⟨?_, rfl⟩
        unfold aAlive
        rw [if_pos ⟨c6, c17⟩]
        first | rw [if_pos c31] | rw [if_neg c31]
    · rw [if_neg c17]
      show Ev X _ _ 20 [Vr 0, Vi x, Vi m] [Vi 0] ((SHv (y : Int) (z : Int) rd), (ovl a s b)) _
      refine Ev.fin (k := 3) (r := (some (Vi (-1)))) (h' := ((SHv (y : Int) (z : Int) rd), (ovl a s b))) (fun _ => rfl) ?_
      refine ⟨?_, rfl⟩
      unfold aAlive
      first | rw [if_neg (fun h => c6 h.1)] | rw [if_neg (fun h => c17 h.2)]
  · rw [if_neg c6]
    show Ev X _ _ 9 [Vr 0, Vi x, Vi m] [Vi 0] ((SHv (y : Int) (z : Int) rd), (ovl a s b)) _
    refine Ev.fin (k := 3) (r := (some (Vi (-1)))) (h' := ((SHv (y : Int) (z : Int) rd), (ovl a s b))) (fun _ => rfl) ?_
    refine ⟨?_, rfl⟩
    unfold aAlive
    first | rw [if_neg (fun h => c6 h.1)] | rw [if_neg (fun h => c17 h.2)]
theorem c_doneThen {X : List Int} {d : Nat} {st dr rd : Int} {a s b : C3} (p m : Nat) (hp : p < 8) (hm : m < 180) (v : Int) (hv : a 134 (8 * m + p) = v) : Ev X d 114 0 [Vr 133, Vi (p : Int), Vi (m : Int), Vx] [] (SHv st dr rd, ovl a s b) (fun rr hh => rr = some (Vi v) ∧ hh = (SHv st dr rd, ovl a s b)) := by
  refine Ev.steps (k := 3) (pc' := 4) (L' := [Vr 133, Vi (p : Int), Vi (m : Int), Vx]) (S' := [Vi (w32 ((m : Int) * 8))]) (h' := ((SHv st dr rd), (ovl a s b))) (fun _ => rfl) ?_
  rw [show (w32 ((m : Int) * 8)) = (8 * (m : Int)) from (by unfold w32; omega)]
  refine Ev.steps (k := 2) (pc' := 6) (L' := [Vr 133, Vi (p : Int), Vi (m : Int), Vx]) (S' := [Vi (w32 ((8 * (m : Int)) + (p : Int)))]) (h' := ((SHv st dr rd), (ovl a s b))) (fun _ => rfl) ?_
  rw [show (w32 ((8 * (m : Int)) + (p : Int))) = ((8 * m + p : Nat) : Int) from (by unfold w32; omega)]
  refine Ev.ite (P := ((8 * m + p : Nat) : Int) < 0) (k := 3) (a := 29) (b := 11) (L' := [Vr 133, Vi (p : Int), Vi (m : Int), Vi ((8 * m + p : Nat) : Int)]) (S' := []) (h' := ((SHv st dr rd), (ovl a s b))) (fun _ => rfl) (fun b8 => ?_) (fun b8 => ?_)
  · exfalso; omega
  · refine Ev.ite (P := 1440 ≤ ((8 * m + p : Nat) : Int)) (k := 5) (a := 29) (b := 20) (L' := [Vr 133, Vi (p : Int), Vi (m : Int), Vi ((8 * m + p : Nat) : Int)]) (S' := []) (h' := ((SHv st dr rd), (ovl a s b))) (fun _ => rfl) (fun b17 => ?_) (fun b17 => ?_)
    · exfalso; omega
    · refine Ev.steps (k := 3) (pc' := 25) (L' := [Vr 133, Vi (p : Int), Vi (m : Int), Vi ((8 * m + p : Nat) : Int)]) (S' := [Vi ((8 * m + p : Nat) : Int), Vr 134]) (h' := ((SHv st dr rd), (ovl a s b))) (fun _ => rfl) ?_
      refine Ev.iald (v := v) rfl (by decide) rfl (by omega) (by omega) (hv) ?_
      refine Ev.fin (k := 2) (r := (some (Vi v))) (h' := ((SHv st dr rd), (ovl a s b))) (fun _ => rfl) ?_
      exact ⟨rfl, rfl⟩
theorem c_moodThen {X : List Int} {d : Nat} {st dr rd : Int} {a s b : C3} (p m : Nat) (hp : p < 8) (hm : m < 180) (v : Int) (hv : a 135 (8 * m + p) = v) : Ev X d 116 0 [Vr 133, Vi (p : Int), Vi (m : Int), Vx] [] (SHv st dr rd, ovl a s b) (fun rr hh => rr = some (Vi v) ∧ hh = (SHv st dr rd, ovl a s b)) := by
  refine Ev.steps (k := 3) (pc' := 4) (L' := [Vr 133, Vi (p : Int), Vi (m : Int), Vx]) (S' := [Vi (w32 ((m : Int) * 8))]) (h' := ((SHv st dr rd), (ovl a s b))) (fun _ => rfl) ?_
  rw [show (w32 ((m : Int) * 8)) = (8 * (m : Int)) from (by unfold w32; omega)]
  refine Ev.steps (k := 2) (pc' := 6) (L' := [Vr 133, Vi (p : Int), Vi (m : Int), Vx]) (S' := [Vi (w32 ((8 * (m : Int)) + (p : Int)))]) (h' := ((SHv st dr rd), (ovl a s b))) (fun _ => rfl) ?_
  rw [show (w32 ((8 * (m : Int)) + (p : Int))) = ((8 * m + p : Nat) : Int) from (by unfold w32; omega)]
  refine Ev.ite (P := ((8 * m + p : Nat) : Int) < 0) (k := 3) (a := 29) (b := 11) (L' := [Vr 133, Vi (p : Int), Vi (m : Int), Vi ((8 * m + p : Nat) : Int)]) (S' := []) (h' := ((SHv st dr rd), (ovl a s b))) (fun _ => rfl) (fun b8 => ?_) (fun b8 => ?_)
  · exfalso; omega
  · refine Ev.ite (P := 1440 ≤ ((8 * m + p : Nat) : Int)) (k := 5) (a := 29) (b := 20) (L' := [Vr 133, Vi (p : Int), Vi (m : Int), Vi ((8 * m + p : Nat) : Int)]) (S' := []) (h' := ((SHv st dr rd), (ovl a s b))) (fun _ => rfl) (fun b17 => ?_) (fun b17 => ?_)
    · exfalso; omega
    · refine Ev.steps (k := 3) (pc' := 25) (L' := [Vr 133, Vi (p : Int), Vi (m : Int), Vi ((8 * m + p : Nat) : Int)]) (S' := [Vi ((8 * m + p : Nat) : Int), Vr 135]) (h' := ((SHv st dr rd), (ovl a s b))) (fun _ => rfl) ?_
      refine Ev.iald (v := v) rfl (by decide) rfl (by omega) (by omega) (hv) ?_
      refine Ev.fin (k := 2) (r := (some (Vi v))) (h' := ((SHv st dr rd), (ovl a s b))) (fun _ => rfl) ?_
      exact ⟨rfl, rfl⟩
theorem c_placeThen {X : List Int} {d : Nat} {st dr rd : Int} {a s b : C3} (p m : Nat) (hp : p < 8) (hm : m < 180) (x : Nat → Nat) (hx : ∀ i, i < 8 → x i < 16) (hv : a 137 m = b32 (pkD 4 x 8)) : Ev X d 112 0 [Vr 133, Vi (p : Int), Vi (m : Int)] [] (SHv st dr rd, ovl a s b) (fun rr hh => rr = some (Vi (x p : Int)) ∧ hh = (SHv st dr rd, ovl a s b)) := by
  refine Ev.ite (P := (m : Int) < 0) (k := 2) (a := 29) (b := 4) (L' := [Vr 133, Vi (p : Int), Vi (m : Int)]) (S' := []) (h' := ((SHv st dr rd), (ovl a s b))) (fun _ => rfl) (fun b1 => ?_) (fun b1 => ?_)
  · exfalso; omega
  · refine Ev.ite (P := 180 ≤ (m : Int)) (k := 5) (a := 29) (b := 13) (L' := [Vr 133, Vi (p : Int), Vi (m : Int)]) (S' := []) (h' := ((SHv st dr rd), (ovl a s b))) (fun _ => rfl) (fun b10 => ?_) (fun b10 => ?_)
    · exfalso; omega
    · refine Ev.steps (k := 3) (pc' := 18) (L' := [Vr 133, Vi (p : Int), Vi (m : Int)]) (S' := [Vi (m : Int), Vr 137]) (h' := ((SHv st dr rd), (ovl a s b))) (fun _ => rfl) ?_
      refine Ev.iald (v := (b32 (pkD 4 x 8))) rfl (by decide) rfl (by omega) (by omega) (hv) ?_
      refine Ev.steps (k := 3) (pc' := 22) (L' := [Vr 133, Vi (p : Int), Vi (m : Int)]) (S' := [Vi (w32 ((p : Int) * 4)), Vi (b32 (pkD 4 x 8))]) (h' := ((SHv st dr rd), (ovl a s b))) (fun _ => rfl) ?_
      rw [show (w32 ((p : Int) * 4)) = (4 * (p : Int)) from (by unfold w32; omega)]
      refine Ev.fin (k := 5) (r := (some (Vi (i_and (i_ushr (b32 (pkD 4 x 8)) (4 * (p : Int))) 15)))) (h' := ((SHv st dr rd), (ovl a s b))) (fun _ => rfl) ?_
      refine ⟨?_, rfl⟩
      rw [nib_at hp hx]
theorem q_doneThen {X : List Int} {d : Nat} {rd : Int} {a s b : C3} {y z : Nat} {G : GST} (hT : TopC G a rd y z) (x m : Int) (hx : okW G x) (hm : okM G m) : Ev X d 114 0 [Vr 133, Vi x, Vi m, Vx] [] (SHv (y : Int) (z : Int) rd, ovl a s b) (fun rr hh => rr = some (Vi (hdnS (gS G) (gE G) m.toNat x.toNat)) ∧ hh = (SHv (y : Int) (z : Int) rd, ovl a s b)) := by
  obtain ⟨hyz, hrd, hY, hWY, hBB, hWB, hWE, hn180, ⟨e7, e6, e5, e0, hEv⟩, hTp, hfk, hfp, hCh, h156, hOwn⟩ := id hT
  have hy : hyS y := by show y = 2 ∨ y = 58; omega
  have hy0 : y = 2 ∨ y = 58 := hy
  have hW8 := hWY.2.2.1.1
  have hR8 := hWY.1.1
  have hT8 := hWY.2.2.2.1.1
  have hL30 := hWY.2.2.2.2.1.1
  have hC12 := hWY.2.2.2.2.2.1.1
  obtain ⟨p, rfl⟩ : ∃ p : Nat, x = (p : Int) := ⟨x.toNat, by have := hx.1; omega⟩
  obtain ⟨j, rfl⟩ : ∃ j : Nat, m = (j : Int) := ⟨m.toNat, by have := hm.1; omega⟩
  have hp : p < nW (gS G) := by have := hx.2; omega
  have hj : j < gn G := by have := hm.2; omega
  rw [Int.toNat_natCast, Int.toNat_natCast]
  have hE := hEv (by omega)
  refine c_doneThen p j (by omega) (by omega) _ ?_
  have h := (hE.2.2.2.1.1 rfl).2.2.1 (8 * j + p) (by omega)
  rw [if_pos (by omega), show (8 * j + p) / 8 = j by omega, show (8 * j + p) % 8 = p by omega] at h
  exact h
theorem q_moodThen {X : List Int} {d : Nat} {rd : Int} {a s b : C3} {y z : Nat} {G : GST} (hT : TopC G a rd y z) (x m : Int) (hx : okW G x) (hm : okM G m) : Ev X d 116 0 [Vr 133, Vi x, Vi m, Vx] [] (SHv (y : Int) (z : Int) rd, ovl a s b) (fun rr hh => rr = some (Vi (gA G (m.toNat + 1) 3 x.toNat)) ∧ hh = (SHv (y : Int) (z : Int) rd, ovl a s b)) := by
  obtain ⟨hyz, hrd, hY, hWY, hBB, hWB, hWE, hn180, ⟨e7, e6, e5, e0, hEv⟩, hTp, hfk, hfp, hCh, h156, hOwn⟩ := id hT
  have hy : hyS y := by show y = 2 ∨ y = 58; omega
  have hy0 : y = 2 ∨ y = 58 := hy
  have hW8 := hWY.2.2.1.1
  have hR8 := hWY.1.1
  have hT8 := hWY.2.2.2.1.1
  have hL30 := hWY.2.2.2.2.1.1
  have hC12 := hWY.2.2.2.2.2.1.1
  obtain ⟨p, rfl⟩ : ∃ p : Nat, x = (p : Int) := ⟨x.toNat, by have := hx.1; omega⟩
  obtain ⟨j, rfl⟩ : ∃ j : Nat, m = (j : Int) := ⟨m.toNat, by have := hm.1; omega⟩
  have hp : p < nW (gS G) := by have := hx.2; omega
  have hj : j < gn G := by have := hm.2; omega
  rw [Int.toNat_natCast, Int.toNat_natCast]
  have hE := hEv (by omega)
  exact c_moodThen p j (by omega) (by omega) _ (((hE.2.2.2.1.1 rfl).2.2.2 j hj).1 p hp)
theorem q_placeThen {X : List Int} {d : Nat} {rd : Int} {a s b : C3} {y z : Nat} {G : GST} (hT : TopC G a rd y z) (x m : Int) (hx : okT G x) (hm : okM G m) : Ev X d 112 0 [Vr 133, Vi x, Vi m] [] (SHv (y : Int) (z : Int) rd, ovl a s b) (fun rr hh => rr = some (Vi (plc (gA G (m.toNat + 1) 2 x.toNat))) ∧ hh = (SHv (y : Int) (z : Int) rd, ovl a s b)) := by
  obtain ⟨hyz, hrd, hY, hWY, hBB, hWB, hWE, hn180, ⟨e7, e6, e5, e0, hEv⟩, hTp, hfk, hfp, hCh, h156, hOwn⟩ := id hT
  have hy : hyS y := by show y = 2 ∨ y = 58; omega
  have hy0 : y = 2 ∨ y = 58 := hy
  have hW8 := hWY.2.2.1.1
  have hR8 := hWY.1.1
  have hT8 := hWY.2.2.2.1.1
  have hL30 := hWY.2.2.2.2.1.1
  have hC12 := hWY.2.2.2.2.2.1.1
  obtain ⟨p, rfl⟩ : ∃ p : Nat, x = (p : Int) := ⟨x.toNat, by have := hx.1; omega⟩
  obtain ⟨j, rfl⟩ : ∃ j : Nat, m = (j : Int) := ⟨m.toNat, by have := hm.1; omega⟩
  have hp : p < nT (gS G) := by have := hx.2; omega
  have hj : j < gn G := by have := hm.2; omega
  rw [Int.toNat_natCast, Int.toNat_natCast]
  have hE := hEv (by omega)
  obtain ⟨f, f1, f2, f3⟩ := ((hE.2.2.2.1.1 rfl).2.2.2 j hj).2
  have h := c_placeThen (X := X) (d := d) (st := (y : Int)) (dr := (z : Int)) (rd := rd) (s := s) (b := b) p j (by omega) (by omega) f f1 f3
  rw [f2 p hp] at h
  exact h
theorem h_did {X : List Int} {d : Nat} {rd : Int} {a s b : C3} {y z : Nat} {G : GST} (hT : TopC G a rd y z) (x m : Int) : Ev X (d + 1) 113 0 [Vr 0, Vi x, Vi m] [] (SHv (y : Int) (z : Int) rd, ovl a s b) (fun rr hh => rr = some (Vi (aDid G x m)) ∧ hh = (SHv (y : Int) (z : Int) rd, ovl a s b)) := by
  obtain ⟨hyz, hrd, hY, hWY, hBB, hWB, hWE, hn180, ⟨e7, e6, e5, e0, hEv⟩, hTp, hfk, hfp, hCh, h156, hOwn⟩ := id hT
  have hy : hyS y := by show y = 2 ∨ y = 58; omega
  have hy0 : y = 2 ∨ y = 58 := hy
  have hW8 := hWY.2.2.1.1
  have hR8 := hWY.1.1
  have hT8 := hWY.2.2.2.1.1
  have hL30 := hWY.2.2.2.2.1.1
  have hC12 := hWY.2.2.2.2.2.1.1
  refine Ev.call (k := 4) (pc1 := 6) (L1 := [Vr 0, Vi x, Vi m]) (S1 := [Vi x, Vi 2, Vr (y : Int)]) (h1 := ((SHv (y : Int) (z : Int) rd), (ovl a s b))) (m' := 70) (as := [Vr (y : Int), Vi 2, Vi x]) (S' := []) (L0 := [Vr (y : Int), Vi 2, Vi x]) (fun _ => rfl) rfl rfl rfl rfl (stpC_of rfl (pm_recv_of (by omega) (shY_0 hy))) rfl (q_thW hT x) (fun r h' hq => ?_)
  obtain ⟨rfl, rfl⟩ := hq
  by_cases c6 : okW G x
  · rw [if_pos c6]
    show Ev X _ _ 9 [Vr 0, Vi x, Vi m] [Vi 1] ((SHv (y : Int) (z : Int) rd), (ovl a s b)) _
    refine Ev.call (k := 4) (pc1 := 17) (L1 := [Vr 0, Vi x, Vi m]) (S1 := [Vi m, Vr 119]) (h1 := ((SHv (y : Int) (z : Int) rd), (ovl a s b))) (m' := 106) (as := [Vr 119, Vi m]) (S' := []) (L0 := [Vr 119, Vi m]) (fun _ => rfl) rfl rfl rfl rfl rfl rfl (q_had hT m) (fun r h' hq => ?_)
    obtain ⟨rfl, rfl⟩ := hq
    by_cases c17 : okM G m
    · rw [if_pos c17]
      show Ev X _ _ 20 [Vr 0, Vi x, Vi m] [Vi 1] ((SHv (y : Int) (z : Int) rd), (ovl a s b)) _
      refine Ev.call (k := 6) (pc1 := 34) (L1 := [Vr 0, Vi x, Vi m]) (S1 := [Vi m, Vi x, Vr 133]) (h1 := ((SHv (y : Int) (z : Int) rd), (ovl a s b))) (m' := 114) (as := [Vr 133, Vi x, Vi m]) (S' := []) (L0 := [Vr 133, Vi x, Vi m, Vx]) (fun _ => rfl) rfl rfl rfl rfl rfl rfl (q_doneThen hT x m c6 c17) (fun r h' hq => ?_)
      obtain ⟨rfl, rfl⟩ := hq
      show Ev X _ _ 37 [Vr 0, Vi x, Vi m] [Vi (hdnS (gS G) (gE G) m.toNat x.toNat)] ((SHv (y : Int) (z : Int) rd), (ovl a s b)) _
      refine Ev.fin (k := 1) (r := (some (Vi (hdnS (gS G) (gE G) m.toNat x.toNat)))) (h' := ((SHv (y : Int) (z : Int) rd), (ovl a s b))) (fun _ => rfl) ?_
      refine ⟨?_, rfl⟩
      unfold aDid
      rw [if_pos ⟨c6, c17⟩]
    · rw [if_neg c17]
      show Ev X _ _ 20 [Vr 0, Vi x, Vi m] [Vi 0] ((SHv (y : Int) (z : Int) rd), (ovl a s b)) _
      refine Ev.fin (k := 3) (r := (some (Vi (-1)))) (h' := ((SHv (y : Int) (z : Int) rd), (ovl a s b))) (fun _ => rfl) ?_
      refine ⟨?_, rfl⟩
      unfold aDid
      first | rw [if_neg (fun h => c6 h.1)] | rw [if_neg (fun h => c17 h.2)]
  · rw [if_neg c6]
    show Ev X _ _ 9 [Vr 0, Vi x, Vi m] [Vi 0] ((SHv (y : Int) (z : Int) rd), (ovl a s b)) _
    refine Ev.fin (k := 3) (r := (some (Vi (-1)))) (h' := ((SHv (y : Int) (z : Int) rd), (ovl a s b))) (fun _ => rfl) ?_
    refine ⟨?_, rfl⟩
    unfold aDid
    first | rw [if_neg (fun h => c6 h.1)] | rw [if_neg (fun h => c17 h.2)]
theorem h_mood {X : List Int} {d : Nat} {rd : Int} {a s b : C3} {y z : Nat} {G : GST} (hT : TopC G a rd y z) (x m : Int) : Ev X (d + 1) 115 0 [Vr 0, Vi x, Vi m] [] (SHv (y : Int) (z : Int) rd, ovl a s b) (fun rr hh => rr = some (Vi (aMood G x m)) ∧ hh = (SHv (y : Int) (z : Int) rd, ovl a s b)) := by
  obtain ⟨hyz, hrd, hY, hWY, hBB, hWB, hWE, hn180, ⟨e7, e6, e5, e0, hEv⟩, hTp, hfk, hfp, hCh, h156, hOwn⟩ := id hT
  have hy : hyS y := by show y = 2 ∨ y = 58; omega
  have hy0 : y = 2 ∨ y = 58 := hy
  have hW8 := hWY.2.2.1.1
  have hR8 := hWY.1.1
  have hT8 := hWY.2.2.2.1.1
  have hL30 := hWY.2.2.2.2.1.1
  have hC12 := hWY.2.2.2.2.2.1.1
  refine Ev.call (k := 4) (pc1 := 6) (L1 := [Vr 0, Vi x, Vi m]) (S1 := [Vi x, Vi 2, Vr (y : Int)]) (h1 := ((SHv (y : Int) (z : Int) rd), (ovl a s b))) (m' := 70) (as := [Vr (y : Int), Vi 2, Vi x]) (S' := []) (L0 := [Vr (y : Int), Vi 2, Vi x]) (fun _ => rfl) rfl rfl rfl rfl (stpC_of rfl (pm_recv_of (by omega) (shY_0 hy))) rfl (q_thW hT x) (fun r h' hq => ?_)
  obtain ⟨rfl, rfl⟩ := hq
  by_cases c6 : okW G x
  · rw [if_pos c6]
    show Ev X _ _ 9 [Vr 0, Vi x, Vi m] [Vi 1] ((SHv (y : Int) (z : Int) rd), (ovl a s b)) _
    refine Ev.call (k := 4) (pc1 := 17) (L1 := [Vr 0, Vi x, Vi m]) (S1 := [Vi m, Vr 119]) (h1 := ((SHv (y : Int) (z : Int) rd), (ovl a s b))) (m' := 106) (as := [Vr 119, Vi m]) (S' := []) (L0 := [Vr 119, Vi m]) (fun _ => rfl) rfl rfl rfl rfl rfl rfl (q_had hT m) (fun r h' hq => ?_)
    obtain ⟨rfl, rfl⟩ := hq
    by_cases c17 : okM G m
    · rw [if_pos c17]
      show Ev X _ _ 20 [Vr 0, Vi x, Vi m] [Vi 1] ((SHv (y : Int) (z : Int) rd), (ovl a s b)) _
      refine Ev.call (k := 6) (pc1 := 35) (L1 := [Vr 0, Vi x, Vi m]) (S1 := [Vi m, Vi x, Vr 133]) (h1 := ((SHv (y : Int) (z : Int) rd), (ovl a s b))) (m' := 116) (as := [Vr 133, Vi x, Vi m]) (S' := []) (L0 := [Vr 133, Vi x, Vi m, Vx]) (fun _ => rfl) rfl rfl rfl rfl rfl rfl (q_moodThen hT x m c6 c17) (fun r h' hq => ?_)
      obtain ⟨rfl, rfl⟩ := hq
      show Ev X _ _ 38 [Vr 0, Vi x, Vi m] [Vi (gA G (m.toNat + 1) 3 x.toNat)] ((SHv (y : Int) (z : Int) rd), (ovl a s b)) _
      refine Ev.fin (k := 1) (r := (some (Vi (gA G (m.toNat + 1) 3 x.toNat)))) (h' := ((SHv (y : Int) (z : Int) rd), (ovl a s b))) (fun _ => rfl) ?_
      refine ⟨?_, rfl⟩
      unfold aMood
      rw [if_pos ⟨c6, c17⟩]
    · rw [if_neg c17]
      show Ev X _ _ 20 [Vr 0, Vi x, Vi m] [Vi 0] ((SHv (y : Int) (z : Int) rd), (ovl a s b)) _
      refine Ev.fin (k := 3) (r := (some (Vi (-2000000000)))) (h' := ((SHv (y : Int) (z : Int) rd), (ovl a s b))) (fun _ => rfl) ?_
      refine ⟨?_, rfl⟩
      unfold aMood
      first | rw [if_neg (fun h => c6 h.1)] | rw [if_neg (fun h => c17 h.2)]
  · rw [if_neg c6]
    show Ev X _ _ 9 [Vr 0, Vi x, Vi m] [Vi 0] ((SHv (y : Int) (z : Int) rd), (ovl a s b)) _
    refine Ev.fin (k := 3) (r := (some (Vi (-2000000000)))) (h' := ((SHv (y : Int) (z : Int) rd), (ovl a s b))) (fun _ => rfl) ?_
    refine ⟨?_, rfl⟩
    unfold aMood
    first | rw [if_neg (fun h => c6 h.1)] | rw [if_neg (fun h => c17 h.2)]
theorem h_where {X : List Int} {d : Nat} {rd : Int} {a s b : C3} {y z : Nat} {G : GST} (hT : TopC G a rd y z) (x m : Int) : Ev X (d + 1) 111 0 [Vr 0, Vi x, Vi m, Vx] [] (SHv (y : Int) (z : Int) rd, ovl a s b) (fun rr hh => rr = some (Vi (aWhere G x m)) ∧ hh = (SHv (y : Int) (z : Int) rd, ovl a s b)) := by
  obtain ⟨hyz, hrd, hY, hWY, hBB, hWB, hWE, hn180, ⟨e7, e6, e5, e0, hEv⟩, hTp, hfk, hfp, hCh, h156, hOwn⟩ := id hT
  have hy : hyS y := by show y = 2 ∨ y = 58; omega
  have hy0 : y = 2 ∨ y = 58 := hy
  have hW8 := hWY.2.2.1.1
  have hR8 := hWY.1.1
  have hT8 := hWY.2.2.2.1.1
  have hL30 := hWY.2.2.2.2.1.1
  have hC12 := hWY.2.2.2.2.2.1.1
  refine Ev.call (k := 4) (pc1 := 6) (L1 := [Vr 0, Vi x, Vi m, Vx]) (S1 := [Vi x, Vi 3, Vr (y : Int)]) (h1 := ((SHv (y : Int) (z : Int) rd), (ovl a s b))) (m' := 70) (as := [Vr (y : Int), Vi 3, Vi x]) (S' := []) (L0 := [Vr (y : Int), Vi 3, Vi x]) (fun _ => rfl) rfl rfl rfl rfl (stpC_of rfl (pm_recv_of (by omega) (shY_0 hy))) rfl (q_thT hT x) (fun r h' hq => ?_)
  obtain ⟨rfl, rfl⟩ := hq
  by_cases c6 : okT G x
  · rw [if_pos c6]
    show Ev X _ _ 9 [Vr 0, Vi x, Vi m, Vx] [Vi 1] ((SHv (y : Int) (z : Int) rd), (ovl a s b)) _
    refine Ev.call (k := 4) (pc1 := 17) (L1 := [Vr 0, Vi x, Vi m, Vx]) (S1 := [Vi m, Vr 119]) (h1 := ((SHv (y : Int) (z : Int) rd), (ovl a s b))) (m' := 106) (as := [Vr 119, Vi m]) (S' := []) (L0 := [Vr 119, Vi m]) (fun _ => rfl) rfl rfl rfl rfl rfl rfl (q_had hT m) (fun r h' hq => ?_)
    obtain ⟨rfl, rfl⟩ := hq
    by_cases c17 : okM G m
    · rw [if_pos c17]
      show Ev X _ _ 20 [Vr 0, Vi x, Vi m, Vx] [Vi 1] ((SHv (y : Int) (z : Int) rd), (ovl a s b)) _
      refine Ev.call (k := 6) (pc1 := 34) (L1 := [Vr 0, Vi x, Vi m, Vx]) (S1 := [Vi m, Vi x, Vr 133]) (h1 := ((SHv (y : Int) (z : Int) rd), (ovl a s b))) (m' := 112) (as := [Vr 133, Vi x, Vi m]) (S' := []) (L0 := [Vr 133, Vi x, Vi m]) (fun _ => rfl) rfl rfl rfl rfl rfl rfl (q_placeThen hT x m c6 c17) (fun r h' hq => ?_)
      obtain ⟨rfl, rfl⟩ := hq
      have hwf := (aftS_wf hWY hWE (m.toNat + 1) (by have := c17.1; have := c17.2; omega)).1.2.2.1 x.toNat (by have := c6.1; have := c6.2; omega)
      obtain ⟨v, hv⟩ : ∃ v, v = gA G (m.toNat + 1) 2 x.toNat := ⟨_, rfl⟩
      rw [show aftS (gS G) (gE G) (m.toNat + 1) 2 x.toNat = v from hv.symm] at hwf
      rw [← hv]
      obtain ⟨pv, hpv⟩ : ∃ pv, pv = plc v := ⟨_, rfl⟩
      rw [← hpv]
      have hp16 : 0 ≤ pv ∧ pv < 16 ∧ (pv < 8 ↔ v < 8) ∧ (¬ pv < 8 → 100 + pv - 8 = v) ∧ (pv < 8 → pv = v) := by
        rw [hpv]
        unfold plc
        split <;> omega
      show Ev X _ _ 37 [Vr 0, Vi x, Vi m, Vx] [Vi pv] ((SHv (y : Int) (z : Int) rd), (ovl a s b)) _
      refine Ev.ite (P := 8 ≤ pv) (k := 4) (a := 48) (b := 44) (L' := [Vr 0, Vi x, Vi m, Vi pv]) (S' := []) (h' := ((SHv (y : Int) (z : Int) rd), (ovl a s b))) (fun _ => rfl) (fun b41 => ?_) (fun b41 => ?_)
      · refine Ev.steps (k := 3) (pc' := 52) (L' := [Vr 0, Vi x, Vi m, Vi pv]) (S' := [Vi (w32 (100 + pv))]) (h' := ((SHv (y : Int) (z : Int) rd), (ovl a s b))) (fun _ => rfl) ?_
        rw [show (w32 (100 + pv)) = (100 + pv) from w32_id (by unfold R32; omega)]
        refine Ev.steps (k := 2) (pc' := 55) (L' := [Vr 0, Vi x, Vi m, Vi pv]) (S' := [Vi (w32 ((100 + pv) - 8))]) (h' := ((SHv (y : Int) (z : Int) rd), (ovl a s b))) (fun _ => rfl) ?_
        rw [show (w32 ((100 + pv) - 8)) = ((100 + pv) - 8) from w32_id (by unfold R32; omega)]
        refine Ev.fin (k := 1) (r := (some (Vi ((100 + pv) - 8)))) (h' := ((SHv (y : Int) (z : Int) rd), (ovl a s b))) (fun _ => rfl) ?_
        refine ⟨?_, rfl⟩
        unfold aWhere
        rw [if_pos ⟨c6, c17⟩, ← hv]
        congr 2
        omega
      · refine Ev.fin (k := 3) (r := (some (Vi pv))) (h' := ((SHv (y : Int) (z : Int) rd), (ovl a s b))) (fun _ => rfl) ?_
        refine ⟨?_, rfl⟩
        unfold aWhere
        rw [if_pos ⟨c6, c17⟩, ← hv]
        congr 2
        omega
    · rw [if_neg c17]
      show Ev X _ _ 20 [Vr 0, Vi x, Vi m, Vx] [Vi 0] ((SHv (y : Int) (z : Int) rd), (ovl a s b)) _
      refine Ev.fin (k := 3) (r := (some (Vi (-1)))) (h' := ((SHv (y : Int) (z : Int) rd), (ovl a s b))) (fun _ => rfl) ?_
      refine ⟨?_, rfl⟩
      unfold aWhere
      first | rw [if_neg (fun h => c6 h.1)] | rw [if_neg (fun h => c17 h.2)]
  · rw [if_neg c6]
    show Ev X _ _ 9 [Vr 0, Vi x, Vi m, Vx] [Vi 0] ((SHv (y : Int) (z : Int) rd), (ovl a s b)) _
    refine Ev.fin (k := 3) (r := (some (Vi (-1)))) (h' := ((SHv (y : Int) (z : Int) rd), (ovl a s b))) (fun _ => rfl) ?_
    refine ⟨?_, rfl⟩
    unfold aWhere
    first | rw [if_neg (fun h => c6 h.1)] | rw [if_neg (fun h => c17 h.2)]
theorem c_deedPart {X : List Int} {d : Nat} {st dr rd : Int} {a s b : C3} {u : Nat} (hu : huS u) (k w : Nat) (hk : k < 8) (hw : w < 6) : Ev X d 118 0 [Vr (u : Int), Vi (k : Int), Vi (w : Int), Vx] [] (SHv st dr rd, ovl a s b) (fun rr hh => rr = some (Vi (a (u + 13) (6 * k + w))) ∧ hh = (SHv st dr rd, ovl a s b)) := by
  have hu0 : u = 119 ∨ u = 142 := hu
  refine Ev.steps (k := 3) (pc' := 4) (L' := [Vr (u : Int), Vi (k : Int), Vi (w : Int), Vx]) (S' := [Vi (w32 ((k : Int) * 6))]) (h' := ((SHv st dr rd), (ovl a s b))) (fun _ => rfl) ?_
  rw [show (w32 ((k : Int) * 6)) = (6 * (k : Int)) from (by unfold w32; omega)]
  refine Ev.steps (k := 2) (pc' := 6) (L' := [Vr (u : Int), Vi (k : Int), Vi (w : Int), Vx]) (S' := [Vi (w32 ((6 * (k : Int)) + (w : Int)))]) (h' := ((SHv st dr rd), (ovl a s b))) (fun _ => rfl) ?_
  rw [show (w32 ((6 * (k : Int)) + (w : Int))) = ((6 * k + w : Nat) : Int) from (by unfold w32; omega)]
  refine Ev.ite (P := ((6 * k + w : Nat) : Int) < 0) (k := 3) (a := 29) (b := 11) (L' := [Vr (u : Int), Vi (k : Int), Vi (w : Int), Vi ((6 * k + w : Nat) : Int)]) (S' := []) (h' := ((SHv st dr rd), (ovl a s b))) (fun _ => rfl) (fun b8 => ?_) (fun b8 => ?_)
  · exfalso; omega
  · refine Ev.steps (k := 2) (pc' := 13) (L' := [Vr (u : Int), Vi (k : Int), Vi (w : Int), Vi ((6 * k + w : Nat) : Int)]) (S' := [Vr (u : Int), Vi ((6 * k + w : Nat) : Int)]) (h' := ((SHv st dr rd), (ovl a s b))) (fun _ => rfl) ?_
    refine Ev.getr (r := ((u : Int) + 13)) rfl rfl (by omega) (shU_0 hu) rfl rfl rfl ?_
    refine Ev.alen (v := 48) rfl (by omega) (shU_13 hu) rfl rfl ?_
    refine Ev.ite (P := 48 ≤ ((6 * k + w : Nat) : Int)) (k := 1) (a := 29) (b := 20) (L' := [Vr (u : Int), Vi (k : Int), Vi (w : Int), Vi ((6 * k + w : Nat) : Int)]) (S' := []) (h' := ((SHv st dr rd), (ovl a s b))) (fun _ => rfl) (fun b17 => ?_) (fun b17 => ?_)
    · exfalso; omega
    · refine Ev.steps (k := 1) (pc' := 21) (L' := [Vr (u : Int), Vi (k : Int), Vi (w : Int), Vi ((6 * k + w : Nat) : Int)]) (S' := [Vr (u : Int)]) (h' := ((SHv st dr rd), (ovl a s b))) (fun _ => rfl) ?_
      refine Ev.getr (r := ((u : Int) + 13)) rfl rfl (by omega) (shU_0 hu) rfl rfl rfl ?_
      refine Ev.steps (k := 1) (pc' := 25) (L' := [Vr (u : Int), Vi (k : Int), Vi (w : Int), Vi ((6 * k + w : Nat) : Int)]) (S' := [Vi ((6 * k + w : Nat) : Int), Vr ((u : Int) + 13)]) (h' := ((SHv st dr rd), (ovl a s b))) (fun _ => rfl) ?_
      refine Ev.iald (v := (a (u + 13) ((6 * k + w)))) rfl (by omega) (shU_13 hu) (by omega) (by omega) (ovl_rc (by omega)) ?_
      refine Ev.fin (k := 2) (r := (some (Vi (a (u + 13) ((6 * k + w)))))) (h' := ((SHv st dr rd), (ovl a s b))) (fun _ => rfl) ?_
      exact ⟨rfl, rfl⟩
theorem h_deed {X : List Int} {d : Nat} {rd : Int} {a s b : C3} {y z : Nat} {G : GST} (hT : TopC G a rd y z) (k w : Int) : Ev X (d + 1) 117 0 [Vr 0, Vi k, Vi w] [] (SHv (y : Int) (z : Int) rd, ovl a s b) (fun rr hh => rr = some (Vi (aDeed G k w)) ∧ hh = (SHv (y : Int) (z : Int) rd, ovl a s b)) := by
  obtain ⟨hyz, hrd, hY, hWY, hBB, hWB, hWE, hn180, ⟨e7, e6, e5, e0, hEv⟩, hTp, hfk, hfp, hCh, h156, hOwn⟩ := id hT
  have hy : hyS y := by show y = 2 ∨ y = 58; omega
  have hy0 : y = 2 ∨ y = 58 := hy
  have hW8 := hWY.2.2.1.1
  have hR8 := hWY.1.1
  have hT8 := hWY.2.2.2.1.1
  have hL30 := hWY.2.2.2.2.1.1
  have hC12 := hWY.2.2.2.2.2.1.1
  have hk9 : gA G (gn G) 9 0 ≤ 8 := (aftS_wf hWY hWE (gn G) hn180).1.2.2.2.2.2.2.2.2
  have hz : gn G = 0 → gA G (gn G) 9 0 = 0 := fun h => by rw [h]; rfl
  obtain ⟨v9, hv9⟩ : ∃ v, v = gA G (gn G) 9 0 := ⟨_, rfl⟩
  rw [← hv9] at hk9 hz e6
  refine Ev.ite (P := k < 0) (k := 2) (a := 25) (b := 4) (L' := [Vr 0, Vi k, Vi w]) (S' := []) (h' := ((SHv (y : Int) (z : Int) rd), (ovl a s b))) (fun _ => rfl) (fun b1 => ?_) (fun b1 => ?_)
  · refine Ev.fin (k := 2) (r := (some (Vi (-1)))) (h' := ((SHv (y : Int) (z : Int) rd), (ovl a s b))) (fun _ => rfl) ?_
    refine ⟨?_, rfl⟩
    unfold aDeed
    rw [if_neg (by rw [← hv9]; omega)]
  · refine Ev.steps (k := 4) (pc' := 12) (L' := [Vr 0, Vi k, Vi w]) (S' := [Vi (a 119 6), Vi k]) (h' := ((SHv (y : Int) (z : Int) rd), (ovl a s b))) (fun _ => rfl) ?_
    rw [e6]
    refine Ev.ite (P := v9 ≤ k) (k := 1) (a := 25) (b := 15) (L' := [Vr 0, Vi k, Vi w]) (S' := []) (h' := ((SHv (y : Int) (z : Int) rd), (ovl a s b))) (fun _ => rfl) (fun b12 => ?_) (fun b12 => ?_)
    · refine Ev.fin (k := 2) (r := (some (Vi (-1)))) (h' := ((SHv (y : Int) (z : Int) rd), (ovl a s b))) (fun _ => rfl) ?_
      refine ⟨?_, rfl⟩
      unfold aDeed
      rw [if_neg (by rw [← hv9]; omega)]
    · refine Ev.ite (P := w < 0) (k := 2) (a := 25) (b := 19) (L' := [Vr 0, Vi k, Vi w]) (S' := []) (h' := ((SHv (y : Int) (z : Int) rd), (ovl a s b))) (fun _ => rfl) (fun b16 => ?_) (fun b16 => ?_)
      · refine Ev.fin (k := 2) (r := (some (Vi (-1)))) (h' := ((SHv (y : Int) (z : Int) rd), (ovl a s b))) (fun _ => rfl) ?_
        refine ⟨?_, rfl⟩
        unfold aDeed
        rw [if_neg (by rw [← hv9]; omega)]
      · refine Ev.ite (P := w < 6) (k := 3) (a := 27) (b := 25) (L' := [Vr 0, Vi k, Vi w]) (S' := []) (h' := ((SHv (y : Int) (z : Int) rd), (ovl a s b))) (fun _ => rfl) (fun b22 => ?_) (fun b22 => ?_)
        · obtain ⟨kk, hkk⟩ : ∃ kk : Nat, k = (kk : Int) := ⟨k.toNat, by omega⟩
          obtain ⟨ww, hww⟩ : ∃ ww : Nat, w = (ww : Int) := ⟨w.toNat, by omega⟩
          have hE := hEv (by by_cases h : gn G = 0; · have := hz h; omega
                             · omega)
          have hdd := hE.2.2.1.2 (6 * kk + ww) (by show 6 * kk + ww < 6 * (gA G (gn G) 9 0).toNat; rw [← hv9]; omega)
          refine Ev.call (k := 4) (pc1 := 33) (L1 := [Vr 0, Vi k, Vi w]) (S1 := [Vi w, Vi k, Vr 119]) (h1 := ((SHv (y : Int) (z : Int) rd), (ovl a s b))) (m' := 118) (as := [Vr 119, Vi k, Vi w]) (S' := []) (L0 := [Vr 119, Vi k, Vi w, Vx]) (fun _ => rfl) rfl rfl rfl rfl rfl rfl (by rw [hkk, hww]; exact c_deedPart (u := 119) (Or.inl rfl) kk ww (by omega) (by omega)) (fun r h' hq => ?_)
          obtain ⟨rfl, rfl⟩ := hq
          show Ev X _ _ 36 [Vr 0, Vi k, Vi w] [Vi (a 132 (6 * kk + ww))] ((SHv (y : Int) (z : Int) rd), (ovl a s b)) _
          refine Ev.fin (k := 1) (r := (some (Vi (a 132 (6 * kk + ww))))) (h' := ((SHv (y : Int) (z : Int) rd), (ovl a s b))) (fun _ => rfl) ?_
          refine ⟨?_, rfl⟩
          unfold aDeed
          rw [if_pos (by rw [← hv9]; omega), hkk, hww, Int.toNat_natCast, Int.toNat_natCast]
          exact congrArg (fun x => some (Vi x)) hdd
        · refine Ev.fin (k := 2) (r := (some (Vi (-1)))) (h' := ((SHv (y : Int) (z : Int) rd), (ovl a s b))) (fun _ => rfl) ?_
          refine ⟨?_, rfl⟩
          unfold aDeed
          rw [if_neg (by rw [← hv9]; omega)]
