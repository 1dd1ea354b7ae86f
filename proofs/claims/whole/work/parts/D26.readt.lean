/-! THE CLASS READS a text -/
section PUTR
variable {X : List Int} {d m pc : Nat} {L T : List pm_V} {sh : List pm_SH} {c : Nat → Nat → Int} {Q : Option pm_V → pm_H → Prop} {o : Int} {n a b : Nat} {rs : List Int} {vv : Int} {w : Nat}
theorem Ev.putr {idx : Nat} {r : Int} {sh' : List pm_SH} {E : pm_EN} (hc : pm_code m pc = some E) (ho : o < 0 → False) (hE : E.1 = .putfield idx) (hs : pm_nth sh o.toNat = some (E.2.2.1, n, rs)) (hf : (Nat.blt E.2.2.2.1 n = true) ∧ pm_ft E.2.2.1 E.2.2.2.1 = 2) (hr : r < 0 → False) (hset : pm_set sh o.toNat (E.2.2.1, n, pm_set rs E.2.2.2.1 r) = sh') (K : Ev X d m (pc + 3) L T (sh', c) Q) : Ev X d m pc L (Vr r :: Vr o :: T) (sh, c) Q := by
  obtain ⟨i0, x1, x2, x3, x4⟩ := E
  dsimp only at hE hs hf hset
  subst hE
  refine Ev.heap hc rfl (n := 3) (S' := T) (h' := (sh', c)) ?_ K
  have e : pm_put (sh, c) x2 x3 (Vr r :: Vr o :: T) = some (T, (sh', c)) := by
    show pm_ob _ _ _ = _
    rw [pm_ob_at ho hs, Nat.beq_refl, hf.1, hf.2, ← hset]
    show (if r < 0 then none else _) = _
    rw [if_neg (fun h => hr h)]
  show (match pm_put (sh, c) x2 x3 (Vr r :: Vr o :: T) with
    | some (S, h) => some (3, S, h)
    | none => none) = _
  rw [e]
end PUTR
theorem c_fillY {X : List Int} {d : Nat} {st dr rd : Int} {a s b : C3} (o n : Nat) (q : Int) (hq : q = (o : Int)) (ho : o < 166) (hso : pm_nth (SHv st dr rd) q.toNat = some (20, n, [])) (hn : n ≤ 100000) : Ev X d 25 0 [Vr q, Vi 0, Vx, Vx] [] (SHv st dr rd, ovl a s b) (fun rr hh => rr = none ∧ ∃ a' : C3, hh = (SHv st dr rd, ovl a' s b) ∧ FrO o o a a' ∧ ∀ j, j < n → a' o j = 0) := by
  subst hq
  exact c_fill o n ho hso 0 hn
theorem c_bclear {X : List Int} {d : Nat} {st dr rd : Int} {a s b : C3} {z : Nat} (hz : hyS z) : Ev X (d + 1) 26 0 [Vr ((z : Int) + 6)] [] (SHv st dr rd, ovl a s b) (fun rr hh => rr = none ∧ ∃ a' : C3, hh = (SHv st dr rd, ovl a' s b) ∧ FrO (z + 6) (z + 8) a a' ∧ (∀ j, j < 8 → a' (z + 7) j = 0) ∧ (∀ j, j < 8 → a' (z + 8) j = 0) ∧ a' (z + 6) 2 = 0) := by
  have hz0 : z = 2 ∨ z = 58 := hz
  refine Ev.steps (k := 1) (pc' := 1) (L' := [Vr ((z : Int) + 6)]) (S' := [Vr ((z : Int) + 6)]) (h' := ((SHv st dr rd), (ovl a s b))) (fun _ => rfl) ?_
  refine Ev.getr (r := ((z : Int) + 7)) rfl rfl (by omega) (shY_6 hz) rfl rfl rfl ?_
  refine Ev.call (k := 1) (pc1 := 5) (L1 := [Vr ((z : Int) + 6)]) (S1 := [Vi 0, Vr ((z : Int) + 7)]) (h1 := ((SHv st dr rd), (ovl a s b))) (m' := 25) (as := [Vr ((z : Int) + 7), Vi 0]) (S' := []) (L0 := [Vr ((z : Int) + 7), Vi 0, Vx, Vx]) (fun _ => rfl) rfl rfl rfl rfl rfl rfl (c_fillY (z + 7) 8 _ (by omega) (by omega) (shY_7 hz) (by omega)) (fun r h' hq => ?_)
  obtain ⟨rfl, a1, rfl, f1, v1⟩ := hq
  show Ev X _ _ 8 [Vr ((z : Int) + 6)] [] ((SHv st dr rd), (ovl a1 s b)) _
  refine Ev.steps (k := 1) (pc' := 9) (L' := [Vr ((z : Int) + 6)]) (S' := [Vr ((z : Int) + 6)]) (h' := ((SHv st dr rd), (ovl a1 s b))) (fun _ => rfl) ?_
  refine Ev.getr (r := ((z : Int) + 8)) rfl rfl (by omega) (shY_6 hz) rfl rfl rfl ?_
  refine Ev.call (k := 1) (pc1 := 13) (L1 := [Vr ((z : Int) + 6)]) (S1 := [Vi 0, Vr ((z : Int) + 8)]) (h1 := ((SHv st dr rd), (ovl a1 s b))) (m' := 25) (as := [Vr ((z : Int) + 8), Vi 0]) (S' := []) (L0 := [Vr ((z : Int) + 8), Vi 0, Vx, Vx]) (fun _ => rfl) rfl rfl rfl rfl rfl rfl (c_fillY (z + 8) 8 _ (by omega) (by omega) (shY_8 hz) (by omega)) (fun r h' hq => ?_)
  obtain ⟨rfl, a2, rfl, f2, v2⟩ := hq
  show Ev X _ _ 16 [Vr ((z : Int) + 6)] [] ((SHv st dr rd), (ovl a2 s b)) _
  refine Ev.steps (k := 2) (pc' := 18) (L' := [Vr ((z : Int) + 6)]) (S' := [Vi 0, Vr ((z : Int) + 6)]) (h' := ((SHv st dr rd), (ovl a2 s b))) (fun _ => rfl) ?_
  refine Ev.putf (c' := (ovl (updC a2 (z + 6) 2 0) s b)) rfl (by omega) (shY_6 hz) rfl rfl (ovl_wc (by omega)) ?_
  refine Ev.fin (k := 1) (r := none) (h' := ((SHv st dr rd), (ovl (updC a2 (z + 6) 2 0) s b))) (fun _ => rfl) ?_
  refine ⟨rfl, _, rfl, ((f1.wd (by omega) (by omega)).tr (f2.wd (by omega) (by omega))).up (by omega), fun j hj => ?_, fun j hj => ?_, updC_sm⟩
  · rw [updC_row (by omega), f2 _ (by omega)]
    exact v1 j hj
  · rw [updC_row (by omega)]
    exact v2 j hj
theorem c_sclear {X : List Int} {d : Nat} {st dr rd : Int} {a s b : C3} {z : Nat} (hz : hyS z) : Ev X (d + 2) 24 0 [Vr (z : Int)] [] (SHv st dr rd, ovl a s b) (fun rr hh => rr = none ∧ ∃ a' : C3, hh = (SHv st dr rd, ovl a' s b) ∧ FrO z (z + 8) a a' ∧ (∀ j, j < 6 → a' (z + 1) j = 0) ∧ (∀ j, j < 8 → a' (z + 3) j = 0) ∧ (∀ j, j < 8 → a' (z + 7) j = 0) ∧ (∀ j, j < 8 → a' (z + 8) j = 0) ∧ a' (z + 6) 2 = 0 ∧ a' z 9 = 0) := by
  have hz0 : z = 2 ∨ z = 58 := hz
  refine Ev.steps (k := 1) (pc' := 1) (L' := [Vr (z : Int)]) (S' := [Vr (z : Int)]) (h' := ((SHv st dr rd), (ovl a s b))) (fun _ => rfl) ?_
  refine Ev.getr (r := ((z : Int) + 1)) rfl rfl (by omega) (shY_0 hz) rfl rfl rfl ?_
  refine Ev.call (k := 1) (pc1 := 5) (L1 := [Vr (z : Int)]) (S1 := [Vi 0, Vr ((z : Int) + 1)]) (h1 := ((SHv st dr rd), (ovl a s b))) (m' := 25) (as := [Vr ((z : Int) + 1), Vi 0]) (S' := []) (L0 := [Vr ((z : Int) + 1), Vi 0, Vx, Vx]) (fun _ => rfl) rfl rfl rfl rfl rfl rfl (c_fillY (z + 1) 6 _ (by omega) (by omega) (shY_1 hz) (by omega)) (fun r h' hq => ?_)
  obtain ⟨rfl, a1, rfl, f1, v1⟩ := hq
  show Ev X _ _ 8 [Vr (z : Int)] [] ((SHv st dr rd), (ovl a1 s b)) _
  refine Ev.steps (k := 1) (pc' := 9) (L' := [Vr (z : Int)]) (S' := [Vr (z : Int)]) (h' := ((SHv st dr rd), (ovl a1 s b))) (fun _ => rfl) ?_
  refine Ev.getr (r := ((z : Int) + 3)) rfl rfl (by omega) (shY_0 hz) rfl rfl rfl ?_
  refine Ev.call (k := 1) (pc1 := 13) (L1 := [Vr (z : Int)]) (S1 := [Vi 0, Vr ((z : Int) + 3)]) (h1 := ((SHv st dr rd), (ovl a1 s b))) (m' := 25) (as := [Vr ((z : Int) + 3), Vi 0]) (S' := []) (L0 := [Vr ((z : Int) + 3), Vi 0, Vx, Vx]) (fun _ => rfl) rfl rfl rfl rfl rfl rfl (c_fillY (z + 3) 8 _ (by omega) (by omega) (shY_3 hz) (by omega)) (fun r h' hq => ?_)
  obtain ⟨rfl, a2, rfl, f2, v2⟩ := hq
  show Ev X _ _ 16 [Vr (z : Int)] [] ((SHv st dr rd), (ovl a2 s b)) _
  refine Ev.steps (k := 1) (pc' := 17) (L' := [Vr (z : Int)]) (S' := [Vr (z : Int)]) (h' := ((SHv st dr rd), (ovl a2 s b))) (fun _ => rfl) ?_
  refine Ev.getr (r := ((z : Int) + 6)) rfl rfl (by omega) (shY_0 hz) rfl rfl rfl ?_
  refine Ev.call (k := 0) (pc1 := 20) (L1 := [Vr (z : Int)]) (S1 := [Vr ((z : Int) + 6)]) (h1 := ((SHv st dr rd), (ovl a2 s b))) (m' := 26) (as := [Vr ((z : Int) + 6)]) (S' := []) (L0 := [Vr ((z : Int) + 6)]) (fun _ => rfl) rfl rfl rfl rfl (stpC_of rfl (pm_recv_of (by omega) (shY_6 hz))) rfl (c_bclear hz) (fun r h' hq => ?_)
  obtain ⟨rfl, a3, rfl, f3, v3, v4, v5⟩ := hq
  show Ev X _ _ 23 [Vr (z : Int)] [] ((SHv st dr rd), (ovl a3 s b)) _
  refine Ev.steps (k := 2) (pc' := 25) (L' := [Vr (z : Int)]) (S' := [Vi 0, Vr (z : Int)]) (h' := ((SHv st dr rd), (ovl a3 s b))) (fun _ => rfl) ?_
  refine Ev.putf (c' := (ovl (updC a3 z 9 0) s b)) rfl (by omega) (shY_0 hz) rfl rfl (ovl_wc (by omega)) ?_
  refine Ev.fin (k := 1) (r := none) (h' := ((SHv st dr rd), (ovl (updC a3 z 9 0) s b))) (fun _ => rfl) ?_
  refine ⟨rfl, _, rfl, (((f1.wd (by omega) (by omega)).tr (f2.wd (by omega) (by omega))).tr (f3.wd (by omega) (by omega))).up (by omega), fun j hj => ?_, fun j hj => ?_, fun j hj => ?_, fun j hj => ?_, ?_, updC_sm⟩
  · rw [updC_row (by omega), f3 _ (by omega), f2 _ (by omega)]
    exact v1 j hj
  · rw [updC_row (by omega), f3 _ (by omega)]
    exact v2 j hj
  · rw [updC_row (by omega)]
    exact v3 j hj
  · rw [updC_row (by omega)]
    exact v4 j hj
  · rw [updC_row (by omega)]
    exact v5
theorem sty_nR : nR styO = 0 := rfl
theorem pac_O {a : SC} {z : Nat} (h1 : ∀ j, j < 6 → a (z + 1) j = 0) (h3 : ∀ j, j < 8 → a (z + 3) j = 0) (h7 : ∀ j, j < 8 → a (z + 7) j = 0) (h8 : ∀ j, j < 8 → a (z + 8) j = 0) (h6 : a (z + 6) 2 = 0) : PaC styO a z 0 := by
  refine ⟨h1, fun kd hkd => ?_, fun r hr => ⟨0, by omega, h3 r hr, fun o ho => ?_⟩, fun i hi => ?_, fun i hi => ?_, h6, fun r hr => absurd hr (Nat.not_lt_zero r), fun k hk => absurd hk (Nat.not_lt_zero k)⟩
  · match kd, hkd with
    | 0, _ => exact ⟨Nat.zero_le _, h1 0 (by omega), fun k hk => absurd hk (Nat.not_lt_zero k)⟩
    | 1, _ => exact ⟨Nat.zero_le _, h1 2 (by omega), fun k hk => absurd hk (Nat.not_lt_zero k)⟩
    | 2, _ => exact ⟨Nat.zero_le _, h1 3 (by omega), fun k hk => absurd hk (Nat.not_lt_zero k)⟩
  · rw [Nat.zero_testBit]
    exact ⟨fun h => absurd h (by decide), fun h => absurd rfl h⟩
  · rw [h7 i hi]
    rfl
  · rw [h8 i hi]
    rfl
theorem wfy_O : WfY styO := by
  refine ⟨⟨Nat.zero_le _, rfl⟩, ⟨Int.le_refl _, by show (0 : Int) ≤ 16; decide⟩, ⟨Nat.zero_le _, rfl⟩, ⟨Nat.zero_le _, rfl⟩, ⟨Nat.zero_le _, rfl⟩, ⟨Nat.zero_le _, rfl⟩, fun _ => Or.inl rfl, fun _ _ _ _ => rfl, fun p hp => absurd hp (Nat.not_lt_zero p), fun p hp => absurd hp (Nat.not_lt_zero p), fun p hp => absurd hp (Nat.not_lt_zero p), fun p hp => absurd hp (Nat.not_lt_zero p)⟩
theorem wfd_O : WfD styO := fun _ _ _ _ h => absurd rfl h
theorem c_reads_end {X : List Int} {d : Nat} {st dr : Int} {a s b : C3} {W : TXT} {z : Nat} (hz : hyS z) (by0 i : Int) (x4 x5 : pm_V) {S : STY} {p c : Nat} {a9 : C3} (hx : txtT W = .ok S) (X9 : XoC W S.1 z p c 8 a9) (P9 : PaC S a9 z c) (hWY : WfY S) (hWD : WfD S) (hF : FtZ z a a9) : Ev X (d + 4) 22 284 [Vr 114, Vi by0, Vr (z : Int), Vi i, x4, x5] [] (SHv st dr (z : Int), ovl a9 s b) (fun rr hh => ∃ a' : C3, hh = (SHv st dr (z : Int), ovl a' s b) ∧ FtZ z a a' ∧ ResC (txtT W) (fun S' => rr = some (Vi 1) ∧ RpC S' a' z ∧ WfY S' ∧ WfD S' ∧ a' 114 9 = 0 ∧ a' 114 10 = -1) (fun e => rr = some (Vi 0) ∧ a' 114 9 = e.1 ∧ a' 114 10 = e.2)) := by
  have e9 : a9 114 9 = 0 := X9.1.2.1
  have hz0 : z = 2 ∨ z = 58 := hz
  refine Ev.steps (k := 2) (pc' := 288) (L' := [Vr 114, Vi by0, Vr (z : Int), Vi i, x4, x5]) (S' := [Vi (a9 114 9)]) (h' := ((SHv st dr (z : Int)), (ovl a9 s b))) (fun _ => rfl) ?_
  rw [e9]
  refine Ev.call (k := 3) (pc1 := 295) (L1 := [Vr 114, Vi by0, Vr (z : Int), Vi i, x4, x5]) (S1 := [Vr (z : Int)]) (h1 := ((SHv st dr (z : Int)), (ovl a9 s b))) (m' := 57) (as := [Vr (z : Int)]) (S' := []) (L0 := [Vr (z : Int), Vx, Vx]) (fun _ => rfl) rfl rfl rfl rfl (stpC_of rfl (pm_recv_of (by omega) (shY_0 hz))) rfl (c_settle hz P9 hWY hWD) (fun r h' hq => ?_)
  obtain ⟨rfl, a8, rfl, f8, r8⟩ := hq
  show Ev X _ _ 298 [Vr 114, Vi by0, Vr (z : Int), Vi i, x4, x5] [] ((SHv st dr (z : Int)), (ovl a8 s b)) _
  refine Ev.steps (k := 2) (pc' := 302) (L' := [Vr 114, Vi by0, Vr (z : Int), Vi i, x4, x5]) (S' := [Vi (a8 114 9)]) (h' := ((SHv st dr (z : Int)), (ovl a8 s b))) (fun _ => rfl) ?_
  rw [(show a8 114 9 = 0 by rw [f8 114 (by omega) (by omega) (by omega) (by omega)]; exact e9)]
  refine Ev.fin (k := 4) (r := (some (Vi 1))) (h' := ((SHv st dr (z : Int)), (ovl a8 s b))) (fun _ => rfl) ?_
  refine ⟨a8, rfl, hF.tr (fun o o1 o2 => f8 o (by omega) (by omega) (by omega) (by omega)), Or.inl ⟨S, hx, rfl, r8, hWY, hWD, ?_, ?_⟩⟩
  · rw [f8 114 (by omega) (by omega) (by omega) (by omega)]
    exact e9
  · rw [f8 114 (by omega) (by omega) (by omega) (by omega)]
    exact X9.1.2.2.1
theorem c_reads {X : List Int} {d : Nat} {st dr rd : Int} {a s b : C3} {W : TXT} {z : Nat} (hz : hyS z) (hT : TxO W) (h1 : ∀ i, i < W.2 → a 1 i = sbS (W.1 i)) (hO : OwnC a) : Ev X (d + 401) 22 0 [Vr 114, Vi ((W.2 : Nat) : Int), Vr (z : Int), Vx, Vx, Vx] [] (SHv st dr rd, ovl a s b) (fun rr hh => ∃ a' : C3, hh = (SHv st dr (z : Int), ovl a' s b) ∧ FtZ z a a' ∧ ResC (txtT W) (fun S' => rr = some (Vi 1) ∧ RpC S' a' z ∧ WfY S' ∧ WfD S' ∧ a' 114 9 = 0 ∧ a' 114 10 = -1) (fun e => rr = some (Vi 0) ∧ a' 114 9 = e.1 ∧ a' 114 10 = e.2)) := by
  have hz0 : z = 2 ∨ z = 58 := hz
  have h1200 := hT.1
  refine Ev.call (k := 5) (pc1 := 7) (L1 := [Vr 114, Vi ((W.2 : Nat) : Int), Vr (z : Int), Vx, Vx, Vx]) (S1 := [Vi 1200, Vi ((W.2 : Nat) : Int), Vr 114]) (h1 := ((SHv st dr rd), (ovl a s b))) (m' := 23) (as := [Vi ((W.2 : Nat) : Int), Vi 1200]) (S' := [Vr 114]) (L0 := [Vi ((W.2 : Nat) : Int), Vi 1200]) (fun _ => rfl) rfl rfl rfl rfl rfl rfl (c_min4 ((W.2 : Nat) : Int) 1200) (fun r h' hq => ?_)
  obtain ⟨rfl, rfl⟩ := hq
  rw [if_pos (by omega)]
  show Ev X _ _ 10 [Vr 114, Vi ((W.2 : Nat) : Int), Vr (z : Int), Vx, Vx, Vx] [Vi ((W.2 : Nat) : Int), Vr 114] ((SHv st dr rd), (ovl a s b)) _
  refine Ev.putf (c' := (ovl (updC a 114 2 ((W.2 : Nat) : Int)) s b)) rfl (by decide) rfl rfl rfl (ovl_wc (by decide)) ?_
  refine Ev.steps (k := 2) (pc' := 15) (L' := [Vr 114, Vi ((W.2 : Nat) : Int), Vr (z : Int), Vx, Vx, Vx]) (S' := [Vr (z : Int), Vr 114]) (h' := ((SHv st dr rd), (ovl (updC a 114 2 ((W.2 : Nat) : Int)) s b))) (fun _ => rfl) ?_
  refine Ev.putr (sh' := (SHv st dr (z : Int))) rfl (by decide) rfl rfl ⟨rfl, rfl⟩ (by omega) rfl ?_
  refine Ev.call (k := 2) (pc1 := 22) (L1 := [Vr 114, Vi ((W.2 : Nat) : Int), Vr (z : Int), Vx, Vx, Vx]) (S1 := [Vr (z : Int)]) (h1 := ((SHv st dr (z : Int)), (ovl (updC a 114 2 ((W.2 : Nat) : Int)) s b))) (m' := 24) (as := [Vr (z : Int)]) (S' := []) (L0 := [Vr (z : Int)]) (fun _ => rfl) rfl rfl rfl rfl (stpC_of rfl (pm_recv_of (by omega) (shY_0 hz))) rfl (c_sclear hz) (fun r h' hq => ?_)
  obtain ⟨rfl, a5, rfl, f5, v5, w5, x5, y5, z5, u5⟩ := hq
  show Ev X _ _ 25 [Vr 114, Vi ((W.2 : Nat) : Int), Vr (z : Int), Vx, Vx, Vx] [] ((SHv st dr (z : Int)), (ovl a5 s b)) _
  refine Ev.steps (k := 2) (pc' := 27) (L' := [Vr 114, Vi ((W.2 : Nat) : Int), Vr (z : Int), Vx, Vx, Vx]) (S' := [Vi 0, Vr 114]) (h' := ((SHv st dr (z : Int)), (ovl a5 s b))) (fun _ => rfl) ?_
  refine Ev.putf (c' := (ovl (updC a5 114 9 0) s b)) rfl (by decide) rfl rfl rfl (ovl_wc (by decide)) ?_
  refine Ev.steps (k := 2) (pc' := 32) (L' := [Vr 114, Vi ((W.2 : Nat) : Int), Vr (z : Int), Vx, Vx, Vx]) (S' := [Vi (-1), Vr 114]) (h' := ((SHv st dr (z : Int)), (ovl (updC a5 114 9 0) s b))) (fun _ => rfl) ?_
  refine Ev.putf (c' := (ovl (updC (updC a5 114 9 0) 114 10 (-1)) s b)) rfl (by decide) rfl rfl rfl (ovl_wc (by decide)) ?_
  refine Ev.steps (k := 2) (pc' := 37) (L' := [Vr 114, Vi ((W.2 : Nat) : Int), Vr (z : Int), Vx, Vx, Vx]) (S' := [Vi 0, Vr 114]) (h' := ((SHv st dr (z : Int)), (ovl (updC (updC a5 114 9 0) 114 10 (-1)) s b))) (fun _ => rfl) ?_
  refine Ev.putf (c' := (ovl (updC (updC (updC a5 114 9 0) 114 10 (-1)) 114 3 0) s b)) rfl (by decide) rfl rfl rfl (ovl_wc (by decide)) ?_
  refine Ev.steps (k := 2) (pc' := 42) (L' := [Vr 114, Vi ((W.2 : Nat) : Int), Vr (z : Int), Vx, Vx, Vx]) (S' := [Vi 0, Vr 114]) (h' := ((SHv st dr (z : Int)), (ovl (updC (updC (updC a5 114 9 0) 114 10 (-1)) 114 3 0) s b))) (fun _ => rfl) ?_
  refine Ev.putf (c' := (ovl (updC (updC (updC (updC a5 114 9 0) 114 10 (-1)) 114 3 0) 114 8 0) s b)) rfl (by decide) rfl rfl rfl (ovl_wc (by decide)) ?_
  have hBA : BaC W (updC (updC (updC (updC a5 114 9 0) 114 10 (-1)) 114 3 0) 114 8 0) := by
    refine ⟨hT, fun i hi => ?_, ?_, ?_⟩
    · rw [updC_row (by omega), updC_row (by omega), updC_row (by omega), updC_row (by omega), f5 1 (by omega), updC_row (by omega)]
      exact h1 i hi
    · intro w hw
      rw [updC_row (by omega), updC_row (by omega), updC_row (by omega), updC_row (by omega), f5 115 (by omega), updC_row (by omega)]
      exact hO w hw
    · rw [updC_nt (by omega), updC_nt (by omega), updC_nt (by omega), updC_nt (by omega), f5 114 (by omega), updC_sm]
  refine Ev.call (k := 1) (pc1 := 46) (L1 := [Vr 114, Vi ((W.2 : Nat) : Int), Vr (z : Int), Vx, Vx, Vx]) (S1 := [Vr 114]) (h1 := ((SHv st dr (z : Int)), (ovl (updC (updC (updC (updC a5 114 9 0) 114 10 (-1)) 114 3 0) 114 8 0) s b))) (m' := 27) (as := [Vr 114]) (S' := []) (L0 := [Vr 114, Vx, Vx, Vx, Vx]) (fun _ => rfl) rfl rfl rfl rfl rfl rfl (c_step (p := 0) (a := (updC (updC (updC (updC a5 114 9 0) 114 10 (-1)) 114 3 0) 114 8 0)) (W := W) (by omega) hBA rfl rfl rfl) (fun r h' hq => ?_)
  obtain ⟨rfl, a6, rfl, f6, h86, hq⟩ := hq
  have hF : FtZ z a a6 := fun o o1 o2 => (f6 o (by omega)).trans ((updC_row (by omega)).trans ((updC_row (by omega)).trans ((updC_row (by omega)).trans ((updC_row (by omega)).trans ((f5 o (by omega)).trans (updC_row (by omega)))))))
  have hrow : ∀ o, o ≠ 114 → a6 o = a5 o := fun o o1 => (f6 o (by omega)).trans ((updC_row (by omega)).trans ((updC_row (by omega)).trans ((updC_row (by omega)).trans (updC_row (by omega)))))
  rcases hq with hk6 | ⟨h3, hB6, hr6⟩
  · skip
    show Ev X _ _ 49 [Vr 114, Vi ((W.2 : Nat) : Int), Vr (z : Int), Vx, Vx, Vx] [] ((SHv st dr (z : Int)), (ovl a6 s b)) _
    refine Ev.steps (k := 2) (pc' := 51) (L' := [Vr 114, Vi ((W.2 : Nat) : Int), Vr (z : Int), Vi 0, Vx, Vx]) (S' := []) (h' := ((SHv st dr (z : Int)), (ovl a6 s b))) (fun _ => rfl) ?_
    have hx0 : txtT W = stsT W 1200 styO 0 := if_neg hk6.2.2.2.2.2.2.2.2.1
    have P0 : PaC styO a6 z 0 := pac_O (by rw [hrow _ (by omega)]; exact v5) (by rw [hrow _ (by omega)]; exact w5) (by rw [hrow _ (by omega)]; exact x5) (by rw [hrow _ (by omega)]; exact y5) (by rw [hrow _ (by omega)]; exact z5)
    have X0 : XoC W styO.1 z 0 0 8 a6 := ⟨hk6, P0.2.1, by rw [hrow _ (by omega)]; exact u5, h86, by omega, hz⟩
    refine c_reads_l (x := txtT W) (a00 := a) hz _ d 0 _ _ styO a6 0 0 X0 P0 wfy_O wfd_O (Nat.le_refl 0) (by omega) hF hx0.symm ?_ ?_
    · intro e a' q1 q2 q3 q4
      exact ⟨a', rfl, q2, Or.inr ⟨e, q1, rfl, q4.2.1, q4.2.2.1⟩⟩
    · intro a' S' p' c' i' y4 y9 q1 q2 q3 q4 q5 q6
      exact c_reads_end (d := d + 397) hz _ _ _ _ q1 q2 q3 q4 q5 q6
  · skip
    show Ev X _ _ 49 [Vr 114, Vi ((W.2 : Nat) : Int), Vr (z : Int), Vx, Vx, Vx] [] ((SHv st dr (z : Int)), (ovl a6 s b)) _
    refine Ev.steps (k := 2) (pc' := 51) (L' := [Vr 114, Vi ((W.2 : Nat) : Int), Vr (z : Int), Vi 0, Vx, Vx]) (S' := []) (h' := ((SHv st dr (z : Int)), (ovl a6 s b))) (fun _ => rfl) ?_
    refine (c_reads_br hr6 _ _ _ _).mono ?_
    rintro r h' ⟨q1, q2⟩
    refine ⟨a6, q2, hF, Or.inr ⟨_, if_pos h3, q1, hr6.2.1, hr6.2.2.1⟩⟩
