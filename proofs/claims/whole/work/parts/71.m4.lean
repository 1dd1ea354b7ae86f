/-! THE REFERENCE: a sum or a test is worked off; the ways -/
theorem runR_cons {n : Nat} {c : SC} {q : Nat × Nat} {l : List (Nat × Nat)} {s s' : List Int} (h : stR n c q s = some s') : runR n c (q :: l) s = runR n c l s' := by
  show (match stR n c q s with
    | some s' => runR n c l s'
    | none => none) = _
  rw [h]
theorem Ty1 {v : Bool} {ts : List Bool} {stk : List Int} (h : tyL [] ts = some [v]) (hs : TyS ts stk) : ∃ x, stk = [x] := by
  have h : ts = [v] := Option.some.inj h
  subst h
  match stk, hs with
  | [x], _ => exact ⟨x, rfl⟩
  | x :: y :: t, hs => exact absurd hs.2 (by intro h; cases h)
theorem m_works_l {X : List Int} {d : Nat} {st dr rd : Int} {a b : C3} (f : Int) (t : Nat) {S : STY} {bk e : Nat} {c_b : SC} (hY_b : RepY S b bk) (hWY : WfY S) (hS_b : SimM S c_b b e) (hWC : WfC S c_b) (ht : t ≤ 1200) : ∀ (l : List (Nat × Nat)) (stk : List Int) (ts : List Bool) (v0 : Bool) (k n : Nat) (s : C3) (z : pm_V), codM (b 191) (b 192) k l → k + l.length = 1200 * bk + t → (∀ q, q ∈ l → OkQ S q) → tyL l ts = some [v0] → TyS ts stk → hpS (s 217) stk → n = stk.length → n + l.length ≤ 1200 → Ev X (d + 2) 210 14 [Vr 166, Vi f, Vi (t : Int), Vi (n : Int), Vi (k : Int), z] [] (SHv st dr rd, ovl a s b) (fun rr hh => ∃ (s' : C3) (x : Int), rr = some (Vl x) ∧ hh = (SHv st dr rd, ovl a s' b) ∧ runR (nW S) c_b l stk = some [x]) := by
  intro l
  induction l with
  | nil =>
    intro stk ts v0 k n s z hc hk hok hty hs hh hn hl
    obtain ⟨hb2_b, h12_b, h168_b, h169_b, h170_b, h171_b, h173_b, h172_b, h174_b, h176_b, h178_b, h175_b, h177_b, h179_b, h180_b, h184_b⟩ := id hY_b
    obtain ⟨s0_b, s1_b, s2_b, s3_b, s4_b, s5_b, s7_b, s9_b, s6_b, s8_b, he_b, he2_b⟩ := id hS_b
    obtain ⟨wR, wD, wW, wT, wL, wC, wdoor, wWI, wTI, wCl, wRu⟩ := id hWY
    obtain ⟨k0, k1, k2, k3, k4, k5, k7, k9⟩ := id hWC
    have hk : k = 1200 * bk + t := hk
    refine Ev.steps (k := 4) (pc' := 23) (L' := [Vr 166, Vi f, Vi (t : Int), Vi (n : Int), Vi (k : Int), z]) (S' := [Vi (b 166 12), Vi 1200, Vi (k : Int)]) (h' := ((SHv st dr rd), (ovl a s b))) (fun _ => rfl) ?_
    rw [h12_b]
    refine Ev.steps (k := 1) (pc' := 24) (L' := [Vr 166, Vi f, Vi (t : Int), Vi (n : Int), Vi (k : Int), z]) (S' := [Vi (w32 (1200 * (bk : Int))), Vi (k : Int)]) (h' := ((SHv st dr rd), (ovl a s b))) (fun _ => rfl) ?_
    rw [show (w32 (1200 * (bk : Int))) = (1200 * (bk : Int)) from w32_id (by unfold R32; omega)]
    refine Ev.steps (k := 2) (pc' := 26) (L' := [Vr 166, Vi f, Vi (t : Int), Vi (n : Int), Vi (k : Int), z]) (S' := [Vi (w32 ((1200 * (bk : Int)) + (t : Int))), Vi (k : Int)]) (h' := ((SHv st dr rd), (ovl a s b))) (fun _ => rfl) ?_
    rw [show (w32 ((1200 * (bk : Int)) + (t : Int))) = ((1200 * (bk : Int)) + (t : Int)) from w32_id (by unfold R32; omega)]
    refine Ev.ite (P := ((1200 * (bk : Int)) + (t : Int)) ≤ (k : Int)) (k := 1) (a := 134) (b := 29) (L' := [Vr 166, Vi f, Vi (t : Int), Vi (n : Int), Vi (k : Int), z]) (S' := []) (h' := ((SHv st dr rd), (ovl a s b))) (fun _ => rfl) (fun b26 => ?_) (fun b26 => ?_)
    · refine Ev.fin (k := 5) (r := (some (Vl (s 217 0)))) (h' := ((SHv st dr rd), (ovl a s b))) (fun _ => rfl) ?_
      obtain ⟨x, rfl⟩ := Ty1 hty hs
      exact ⟨s, _, rfl, rfl, by rw [show s 217 0 = x from hh.1]; rfl⟩
    · exfalso; omega
  | cons q l ih =>
    intro stk ts v0 k n s z hc hk hok hty hs hh hn hl
    obtain ⟨hb2_b, h12_b, h168_b, h169_b, h170_b, h171_b, h173_b, h172_b, h174_b, h176_b, h178_b, h175_b, h177_b, h179_b, h180_b, h184_b⟩ := id hY_b
    obtain ⟨s0_b, s1_b, s2_b, s3_b, s4_b, s5_b, s7_b, s9_b, s6_b, s8_b, he_b, he2_b⟩ := id hS_b
    obtain ⟨wR, wD, wW, wT, wL, wC, wdoor, wWI, wTI, wCl, wRu⟩ := id hWY
    obtain ⟨k0, k1, k2, k3, k4, k5, k7, k9⟩ := id hWC
    have hk : k + (l.length + 1) = 1200 * bk + t := hk
    have hl : n + (l.length + 1) ≤ 1200 := hl
    obtain ⟨hc1, hc2, hc3⟩ := hc
    obtain ⟨t1, ht1, ht2⟩ := tyL_cons hty
    have hq := hok q List.mem_cons_self
    obtain ⟨s1, e1, g1⟩ := stR_ty hWC.wfe hq ht1 hs
    have hok2 : ∀ q, q ∈ l → OkQ S q := fun q h => hok q (List.mem_cons_of_mem _ h)
    obtain ⟨op, v⟩ := q
    have hc1 : b 191 k = (op : Int) := hc1
    have hc2 : b 192 k = (v : Int) := hc2
    have ho27 : op ≤ 27 := hq.2.2.2.2.2.2.2.2
    have hv9 : op = 0 → v ≤ 9999 := hq.1
    refine Ev.steps (k := 4) (pc' := 23) (L' := [Vr 166, Vi f, Vi (t : Int), Vi (n : Int), Vi (k : Int), z]) (S' := [Vi (b 166 12), Vi 1200, Vi (k : Int)]) (h' := ((SHv st dr rd), (ovl a s b))) (fun _ => rfl) ?_
    rw [h12_b]
    refine Ev.steps (k := 1) (pc' := 24) (L' := [Vr 166, Vi f, Vi (t : Int), Vi (n : Int), Vi (k : Int), z]) (S' := [Vi (w32 (1200 * (bk : Int))), Vi (k : Int)]) (h' := ((SHv st dr rd), (ovl a s b))) (fun _ => rfl) ?_
    rw [show (w32 (1200 * (bk : Int))) = (1200 * (bk : Int)) from w32_id (by unfold R32; omega)]
    refine Ev.steps (k := 2) (pc' := 26) (L' := [Vr 166, Vi f, Vi (t : Int), Vi (n : Int), Vi (k : Int), z]) (S' := [Vi (w32 ((1200 * (bk : Int)) + (t : Int))), Vi (k : Int)]) (h' := ((SHv st dr rd), (ovl a s b))) (fun _ => rfl) ?_
    rw [show (w32 ((1200 * (bk : Int)) + (t : Int))) = ((1200 * (bk : Int)) + (t : Int)) from w32_id (by unfold R32; omega)]
    refine Ev.ite (P := ((1200 * (bk : Int)) + (t : Int)) ≤ (k : Int)) (k := 1) (a := 134) (b := 29) (L' := [Vr 166, Vi f, Vi (t : Int), Vi (n : Int), Vi (k : Int), z]) (S' := []) (h' := ((SHv st dr rd), (ovl a s b))) (fun _ => rfl) (fun b26 => ?_) (fun b26 => ?_)
    · exfalso; omega
    · refine Ev.steps (k := 3) (pc' := 35) (L' := [Vr 166, Vi f, Vi (t : Int), Vi (n : Int), Vi (k : Int), z]) (S' := [Vi (k : Int), Vr 191]) (h' := ((SHv st dr rd), (ovl a s b))) (fun _ => rfl) ?_
      refine Ev.iald (v := (op : Int)) rfl (by decide) rfl (by omega) (by omega) (hc1) ?_
      refine Ev.ite (P := 9 < (op : Int)) (k := 4) (a := 70) (b := 45) (L' := [Vr 166, Vi f, Vi (t : Int), Vi (n : Int), Vi (k : Int), Vi (op : Int)]) (S' := []) (h' := ((SHv st dr rd), (ovl a s b))) (fun _ => rfl) (fun b42 => ?_) (fun b42 => ?_)
      · refine Ev.ite (P := (op : Int) ≠ 27) (k := 3) (a := 98) (b := 77) (L' := [Vr 166, Vi f, Vi (t : Int), Vi (n : Int), Vi (k : Int), Vi (op : Int)]) (S' := []) (h' := ((SHv st dr rd), (ovl a s b))) (fun _ => rfl) (fun b74 => ?_) (fun b74 => ?_)
        · obtain ⟨x, y, st2, rfl, rfl⟩ := stR_bin e1 (by show ¬ op ≤ 9; omega) (by show op ≠ 27; omega)
          have hob : 15 ≤ op ∧ op ≤ 26 := tySt_bin ht1 (by show ¬ op ≤ 9; omega) (by show op ≠ 27; omega)
          obtain ⟨m, hm⟩ : ∃ m, st2.length = m := ⟨_, rfl⟩
          obtain rfl : n = m + 2 := by rw [hn]; show st2.length + 2 = _; rw [hm]
          have hx1 : s 217 m = x := by rw [← hm]; exact hh.2.1
          have hy1 : s 217 (m + 1) = y := by rw [← hm]; exact hh.1
          obtain ⟨hyb, hxb⟩ : (-1000000 ≤ y ∧ y ≤ 1000000) ∧ (-1000000 ≤ x ∧ x ≤ 1000000) := by
            obtain ⟨t0, t3, ts3, rfl⟩ : ∃ t0 t3 ts3, ts = t0 :: t3 :: ts3 := by
              match ts, hs with
              | t0 :: t3 :: ts3, _ => exact ⟨t0, t3, ts3, rfl⟩
              | [t0], hs => exact absurd hs.2 (by intro h; cases h)
            exact ⟨hs.1.bd, hs.2.1.bd⟩
          refine Ev.steps (k := 1) (pc' := 101) (L' := [Vr 166, Vi f, Vi (t : Int), Vi (w32 (((m + 2 : Nat) : Int) + (-1))), Vi (k : Int), Vi (op : Int)]) (S' := []) (h' := ((SHv st dr rd), (ovl a s b))) (fun _ => rfl) ?_
          rw [show (w32 (((m + 2 : Nat) : Int) + (-1))) = ((m + 1 : Nat) : Int) from by unfold w32; omega]
          refine Ev.steps (k := 5) (pc' := 108) (L' := [Vr 166, Vi f, Vi (t : Int), Vi ((m + 1 : Nat) : Int), Vi (k : Int), Vi (op : Int)]) (S' := [Vi (w32 (((m + 1 : Nat) : Int) - 1)), Vr 217]) (h' := ((SHv st dr rd), (ovl a s b))) (fun _ => rfl) ?_
          rw [show (w32 (((m + 1 : Nat) : Int) - 1)) = (m : Int) from by unfold w32; omega]
          refine Ev.steps (k := 6) (pc' := 117) (L' := [Vr 166, Vi f, Vi (t : Int), Vi ((m + 1 : Nat) : Int), Vi (k : Int), Vi (op : Int)]) (S' := [Vi (w32 (((m + 1 : Nat) : Int) - 1)), Vr 217, Vi (op : Int), Vi (m : Int), Vr 217]) (h' := ((SHv st dr rd), (ovl a s b))) (fun _ => rfl) ?_
          rw [show (w32 (((m + 1 : Nat) : Int) - 1)) = (m : Int) from by unfold w32; omega]
          refine Ev.lald (v := x) rfl (by decide) rfl (by omega) (by omega) (hx1) ?_
          refine Ev.steps (k := 3) (pc' := 123) (L' := [Vr 166, Vi f, Vi (t : Int), Vi ((m + 1 : Nat) : Int), Vi (k : Int), Vi (op : Int)]) (S' := [Vi ((m + 1 : Nat) : Int), Vr 217, Vl x, Vi (op : Int), Vi (m : Int), Vr 217]) (h' := ((SHv st dr rd), (ovl a s b))) (fun _ => rfl) ?_
          refine Ev.lald (v := y) rfl (by decide) rfl (by omega) (by omega) (hy1) ?_
          refine Ev.call (k := 0) (pc1 := 124) (L1 := [Vr 166, Vi f, Vi (t : Int), Vi ((m + 1 : Nat) : Int), Vi (k : Int), Vi (op : Int)]) (S1 := [Vl y, Vl x, Vi (op : Int), Vi (m : Int), Vr 217]) (h1 := ((SHv st dr rd), (ovl a s b))) (m' := 213) (as := [Vi (op : Int), Vl x, Vl y]) (S' := [Vi (m : Int), Vr 217]) (L0 := [Vi (op : Int), Vl x, Vx, Vl y, Vx]) (fun _ => rfl) rfl rfl rfl rfl rfl rfl (m_joined (op : Int) x y (by omega) hxb hyb) (fun r h' hq => ?_)
          obtain ⟨rfl, rfl⟩ := hq
          show Ev X _ _ 127 [Vr 166, Vi f, Vi (t : Int), Vi ((m + 1 : Nat) : Int), Vi (k : Int), Vi (op : Int)] [Vl (jnd op x y), Vi (m : Int), Vr 217] ((SHv st dr rd), (ovl a s b)) _
          refine Ev.last (c' := (ovl a (updC s 217 m (jnd op x y)) b)) rfl (by decide) rfl (by omega) (by omega) (ovl_ws (by decide)) ?_
          refine Ev.steps (k := 1) (pc' := 131) (L' := [Vr 166, Vi f, Vi (t : Int), Vi ((m + 1 : Nat) : Int), Vi (w32 ((k : Int) + 1)), Vi (op : Int)]) (S' := []) (h' := ((SHv st dr rd), (ovl a (updC s 217 m (jnd op x y)) b))) (fun _ => rfl) ?_
          rw [show (w32 ((k : Int) + 1)) = ((k : Int) + 1) from w32_id (by unfold R32; omega)]
          refine Ev.steps (k := 1) (pc' := 14) (L' := [Vr 166, Vi f, Vi (t : Int), Vi ((m + 1 : Nat) : Int), Vi ((k : Int) + 1), Vi (op : Int)]) (S' := []) (h' := ((SHv st dr rd), (ovl a (updC s 217 m (jnd op x y)) b))) (fun _ => rfl) ?_
          have hg := hpS_up (s := s) (n := m) (v := jnd op x y) st2 (by omega) hh.2.2
          exact Ev.mono (ih (jnd op x y :: st2) t1 v0 (k + 1) (m + 1) (updC s 217 m (jnd op x y)) _ hc3 (by omega) hok2 ht2 g1 ⟨by rw [hm, updC_if, if_pos rfl], hg⟩ (by show m + 1 = st2.length + 1; rw [hm]) (by omega)) (fun r h ⟨s2, x2, h1, h2, h3⟩ => ⟨s2, x2, h1, h2, by rw [runR_cons e1]; exact h3⟩)
        · obtain ⟨x, st2, rfl, rfl⟩ := stR_not e1 (by show op = 27; omega)
          obtain ⟨m, hm⟩ : ∃ m, st2.length = m := ⟨_, rfl⟩
          obtain rfl : n = m + 1 := by rw [hn]; show st2.length + 1 = _; rw [hm]
          have hx1 : s 217 m = x := by rw [← hm]; exact hh.1
          have hxb : -1000000 ≤ x ∧ x ≤ 1000000 := by
            obtain ⟨t0, ts3, rfl⟩ : ∃ t0 ts3, ts = t0 :: ts3 := by
              cases ts with
              | nil => cases hs
              | cons t0 ts3 => exact ⟨t0, ts3, rfl⟩
            exact hs.1.bd
          refine Ev.steps (k := 5) (pc' := 84) (L' := [Vr 166, Vi f, Vi (t : Int), Vi ((m + 1 : Nat) : Int), Vi (k : Int), Vi (op : Int)]) (S' := [Vi (w32 (((m + 1 : Nat) : Int) - 1)), Vr 217]) (h' := ((SHv st dr rd), (ovl a s b))) (fun _ => rfl) ?_
          rw [show (w32 (((m + 1 : Nat) : Int) - 1)) = (m : Int) from by unfold w32; omega]
          refine Ev.steps (k := 6) (pc' := 92) (L' := [Vr 166, Vi f, Vi (t : Int), Vi ((m + 1 : Nat) : Int), Vi (k : Int), Vi (op : Int)]) (S' := [Vi (w32 (((m + 1 : Nat) : Int) - 1)), Vr 217, Vl 1, Vi (m : Int), Vr 217]) (h' := ((SHv st dr rd), (ovl a s b))) (fun _ => rfl) ?_
          rw [show (w32 (((m + 1 : Nat) : Int) - 1)) = (m : Int) from by unfold w32; omega]
          refine Ev.lald (v := x) rfl (by decide) rfl (by omega) (by omega) (hx1) ?_
          refine Ev.steps (k := 1) (pc' := 94) (L' := [Vr 166, Vi f, Vi (t : Int), Vi ((m + 1 : Nat) : Int), Vi (k : Int), Vi (op : Int)]) (S' := [Vl (w64 (1 - x)), Vi (m : Int), Vr 217]) (h' := ((SHv st dr rd), (ovl a s b))) (fun _ => rfl) ?_
          rw [show (w64 (1 - x)) = (1 - x) from w64_id (by unfold R64; omega)]
          refine Ev.last (c' := (ovl a (updC s 217 m (1 - x)) b)) rfl (by decide) rfl (by omega) (by omega) (ovl_ws (by decide)) ?_
          refine Ev.steps (k := 2) (pc' := 131) (L' := [Vr 166, Vi f, Vi (t : Int), Vi ((m + 1 : Nat) : Int), Vi (w32 ((k : Int) + 1)), Vi (op : Int)]) (S' := []) (h' := ((SHv st dr rd), (ovl a (updC s 217 m (1 - x)) b))) (fun _ => rfl) ?_
          rw [show (w32 ((k : Int) + 1)) = ((k : Int) + 1) from w32_id (by unfold R32; omega)]
          refine Ev.steps (k := 1) (pc' := 14) (L' := [Vr 166, Vi f, Vi (t : Int), Vi ((m + 1 : Nat) : Int), Vi ((k : Int) + 1), Vi (op : Int)]) (S' := []) (h' := ((SHv st dr rd), (ovl a (updC s 217 m (1 - x)) b))) (fun _ => rfl) ?_
          have hg := hpS_up (s := s) (n := m) (v := 1 - x) st2 (by omega) hh.2
          exact Ev.mono (ih ((1 - x) :: st2) t1 v0 (k + 1) (m + 1) (updC s 217 m (1 - x)) _ hc3 (by omega) hok2 ht2 g1 ⟨by rw [hm, updC_if, if_pos rfl], hg⟩ (by show m + 1 = st2.length + 1; rw [hm]) (by omega)) (fun r h ⟨s2, x2, h1, h2, h3⟩ => ⟨s2, x2, h1, h2, by rw [runR_cons e1]; exact h3⟩)
      · refine Ev.steps (k := 8) (pc' := 59) (L' := [Vr 166, Vi f, Vi (t : Int), Vi (n : Int), Vi (k : Int), Vi (op : Int)]) (S' := [Vi (k : Int), Vr 192, Vi (op : Int), Vr 166, Vi (n : Int), Vr 217]) (h' := ((SHv st dr rd), (ovl a s b))) (fun _ => rfl) ?_
        refine Ev.iald (v := (v : Int)) rfl (by decide) rfl (by omega) (by omega) (hc2) ?_
        refine Ev.call (k := 0) (pc1 := 60) (L1 := [Vr 166, Vi f, Vi (t : Int), Vi (n : Int), Vi (k : Int), Vi (op : Int)]) (S1 := [Vi (v : Int), Vi (op : Int), Vr 166, Vi (n : Int), Vr 217]) (h1 := ((SHv st dr rd), (ovl a s b))) (m' := 211) (as := [Vr 166, Vi (op : Int), Vi (v : Int)]) (S' := [Vi (n : Int), Vr 217]) (L0 := [Vr 166, Vi (op : Int), Vi (v : Int), Vx, Vx]) (fun _ => rfl) rfl rfl rfl rfl rfl rfl (m_leaf op v hY_b hWY hS_b hWC hq (by omega)) (fun r h' hq => ?_)
        obtain ⟨rfl, rfl⟩ := hq
        show Ev X _ _ 63 [Vr 166, Vi f, Vi (t : Int), Vi (n : Int), Vi (k : Int), Vi (op : Int)] [Vl (leafS (nW S) c_b op v), Vi (n : Int), Vr 217] ((SHv st dr rd), (ovl a s b)) _
        refine Ev.last (c' := (ovl a (updC s 217 n (leafS (nW S) c_b op v)) b)) rfl (by decide) rfl (by omega) (by omega) (ovl_ws (by decide)) ?_
        refine Ev.steps (k := 1) (pc' := 67) (L' := [Vr 166, Vi f, Vi (t : Int), Vi (w32 ((n : Int) + 1)), Vi (k : Int), Vi (op : Int)]) (S' := []) (h' := ((SHv st dr rd), (ovl a (updC s 217 n (leafS (nW S) c_b op v)) b))) (fun _ => rfl) ?_
        rw [show (w32 ((n : Int) + 1)) = ((n : Int) + 1) from w32_id (by unfold R32; omega)]
        refine Ev.steps (k := 2) (pc' := 131) (L' := [Vr 166, Vi f, Vi (t : Int), Vi ((n : Int) + 1), Vi (w32 ((k : Int) + 1)), Vi (op : Int)]) (S' := []) (h' := ((SHv st dr rd), (ovl a (updC s 217 n (leafS (nW S) c_b op v)) b))) (fun _ => rfl) ?_
        rw [show (w32 ((k : Int) + 1)) = ((k : Int) + 1) from w32_id (by unfold R32; omega)]
        refine Ev.steps (k := 1) (pc' := 14) (L' := [Vr 166, Vi f, Vi (t : Int), Vi ((n : Int) + 1), Vi ((k : Int) + 1), Vi (op : Int)]) (S' := []) (h' := ((SHv st dr rd), (ovl a (updC s 217 n (leafS (nW S) c_b op v)) b))) (fun _ => rfl) ?_
        obtain rfl := stR_leaf e1 (by show op ≤ 9; omega)
        have hg := hpS_up (s := s) (n := n) (v := leafS (nW S) c_b op v) stk (by omega) hh
        exact Ev.mono (ih (leafS (nW S) c_b op v :: stk) t1 v0 (k + 1) (n + 1) (updC s 217 n (leafS (nW S) c_b op v)) _ hc3 (by omega) hok2 ht2 g1 ⟨by rw [← hn, updC_if, if_pos rfl], hg⟩ (by rw [hn]; rfl) (by omega)) (fun r h ⟨s2, x2, h1, h2, h3⟩ => ⟨s2, x2, h1, h2, by rw [runR_cons e1]; exact h3⟩)
theorem m_works {X : List Int} {d : Nat} {st dr rd : Int} {a s b : C3} (f t : Int) (l : List (Nat × Nat)) (v0 : Bool) {S : STY} {bk e : Nat} {c_b : SC} (hY_b : RepY S b bk) (hWY : WfY S) (hS_b : SimM S c_b b e) (hWC : WfC S c_b) (hseg : SegM b bk f t l) (hok : ∀ q, q ∈ l → OkQ S q) (hty : tyL l [] = some [v0]) : Ev X (d + 2) 210 0 [Vr 166, Vi f, Vi t, Vx, Vx, Vx] [] (SHv st dr rd, ovl a s b) (fun rr hh => ∃ s' : C3, rr = some (Vl (wth (nW S) c_b l)) ∧ hh = (SHv st dr rd, ovl a s' b)) := by
  obtain ⟨hb2_b, h12_b, h168_b, h169_b, h170_b, h171_b, h173_b, h172_b, h174_b, h176_b, h178_b, h175_b, h177_b, h179_b, h180_b, h184_b⟩ := id hY_b
  obtain ⟨s0_b, s1_b, s2_b, s3_b, s4_b, s5_b, s7_b, s9_b, s6_b, s8_b, he_b, he2_b⟩ := id hS_b
  obtain ⟨wR, wD, wW, wT, wL, wC, wdoor, wWI, wTI, wCl, wRu⟩ := id hWY
  obtain ⟨k0, k1, k2, k3, k4, k5, k7, k9⟩ := id hWC
  obtain ⟨k, rfl, rfl, hk, hcod⟩ := hseg
  obtain ⟨m, hm⟩ : ∃ m, k + l.length = m := ⟨_, rfl⟩
  rw [hm] at hk
  rw [hm]
  refine Ev.steps (k := 5) (pc' := 9) (L' := [Vr 166, Vi (k : Int), Vi (m : Int), Vi 0, Vx, Vx]) (S' := [Vi (b 166 12), Vi 1200]) (h' := ((SHv st dr rd), (ovl a s b))) (fun _ => rfl) ?_
  rw [h12_b]
  refine Ev.steps (k := 1) (pc' := 10) (L' := [Vr 166, Vi (k : Int), Vi (m : Int), Vi 0, Vx, Vx]) (S' := [Vi (w32 (1200 * (bk : Int)))]) (h' := ((SHv st dr rd), (ovl a s b))) (fun _ => rfl) ?_
  rw [show (w32 (1200 * (bk : Int))) = (1200 * (bk : Int)) from w32_id (by unfold R32; omega)]
  refine Ev.steps (k := 2) (pc' := 12) (L' := [Vr 166, Vi (k : Int), Vi (m : Int), Vi 0, Vx, Vx]) (S' := [Vi (w32 ((1200 * (bk : Int)) + (k : Int)))]) (h' := ((SHv st dr rd), (ovl a s b))) (fun _ => rfl) ?_
  rw [show (w32 ((1200 * (bk : Int)) + (k : Int))) = ((1200 * bk + k : Nat) : Int) from (w32_id (by unfold R32; omega) |>.trans (by omega))]
  refine Ev.steps (k := 1) (pc' := 14) (L' := [Vr 166, Vi (k : Int), Vi (m : Int), Vi 0, Vi ((1200 * bk + k : Nat) : Int), Vx]) (S' := []) (h' := ((SHv st dr rd), (ovl a s b))) (fun _ => rfl) ?_
  exact Ev.mono (m_works_l (k : Int) m hY_b hWY hS_b hWC hk l [] [] v0 (1200 * bk + k) 0 s _ hcod (by omega) hok hty trivial trivial rfl (by show 0 + l.length ≤ 1200; omega)) (fun r h ⟨s2, x2, h1, h2, h3⟩ => ⟨s2, by rw [h1]; unfold wth; rw [h3], h2⟩)
