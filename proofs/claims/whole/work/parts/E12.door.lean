/-! THE REFERENCE READS: doors -/
def dooL (W : TXT) (S : STY) (p : Nat) : Except PF (STY × Nat) := bnX (gotT W p) (fun p1 => bnX (askT W S.1 0 (-1) p1) (fun r => bnX (lokT W S.1 0 ((r.1 : Nat) : Int) r.2) (fun y => if S.1 4 (8 * r.1 + y) ≠ 0 then .error (fltT W 2 r.2) else bnX (gotT W r.2) (fun p3 => .ok ((incN (updC (updC S.1 4 (8 * r.1 + y) 1) 4 (8 * y + r.1) 1) 1, S.2), p3)))))
theorem doo_lok {W : TXT} {S : STY} {p : Nat} : dooT W S p = dooL W S p := by
  unfold dooT dooL
  cases gotT W p with
  | error e => rfl
  | ok p1 =>
    rw [bnX_o, bnX_o]
    cases askT W S.1 0 (-1) p1 with
    | error e => rfl
    | ok r =>
      rw [bnX_o, bnX_o]
      unfold lokT
      by_cases h1 : tC W r.2 ≠ 300
      · rw [if_pos h1, if_pos h1, bnX_e]
      · rw [if_neg h1, if_neg h1]
        by_cases h2 : nmd S.1 0 (tV W r.2) = cntN S.1 0 ∨ nmd S.1 0 (tV W r.2) = r.1
        · rw [if_pos h2, if_pos (h2.imp id (fun h => by omega)), bnX_e]
        · have h3 : ¬ (nmd S.1 0 (tV W r.2) = cntN S.1 0 ∨ ((nmd S.1 0 (tV W r.2) : Nat) : Int) = ((r.1 : Nat) : Int)) := fun h => h2 (h.imp id (fun h => by omega))
          rw [if_neg h2, if_neg h3, bnX_o]
theorem lok_lt {W : TXT} {N : SC} {kd p i : Nat} {but : Int} (h : lokT W N kd but p = .ok i) : i < cntN N kd ∧ ((i : Nat) : Int) ≠ but := by
  unfold lokT at h
  split at h
  · cases h
  · split at h
    · cases h
    · next g =>
      cases h
      have := nmd_le (N := N) (kd := kd) (w := tV W p)
      exact ⟨by have : nmd N kd (tV W p) ≠ cntN N kd := fun q => g (Or.inl q)
                omega, fun q => g (Or.inr q)⟩
theorem m_door {X : List Int} {d : Nat} {st dr rd : Int} {a s b : C3} {W : TXT} {p : Nat} (hk : TkM W p b) {S : STY} (hW : WfY S) {j c n : Nat} (hR : RqM S b j c) (hn : S.1 0 1 = (n : Int)) (hcn : b 169 j = (n : Int)) (hmx : n ≤ 16) : Ev X (d + 3) 184 0 [Vr 166, Vx, Vx] [] (SHv st dr rd, ovl a s b) (fun rr hh => rr = none ∧ ∃ b' : C3, hh = (SHv st dr rd, ovl a s b') ∧ ResC (if (16 : Int) ≤ S.1 0 1 then Except.error (fltT W 5 p) else dooT W S p) (fun r => TkM W r.2 b' ∧ RqM r.1 b' j c ∧ FrJ j b b') (fun e => BjM W j b e b')) := by
  have hN := hR.nm hW
  have hj := hN.1
  have hn0 : cntN S.1 0 = nR S := rfl
  have hn1 : cntN S.1 1 = nW S := rfl
  have hn2 : cntN S.1 2 = nT S := rfl
  have w8 := hW.1.1
  refine Ev.steps (k := 5) (pc' := 9) (L' := [Vr 166, Vx, Vx]) (S' := [Vi (b 166 39), Vr 169, Vr 166]) (h' := ((SHv st dr rd), (ovl a s b))) (fun _ => rfl) ?_
  rw [hR.1.2.1]
  refine Ev.iald (v := (n : Int)) rfl (by decide) rfl (by omega) (by omega) (hcn) ?_
  refine Ev.ite (P := (n : Int) ≠ 16) (k := 2) (a := 19) (b := 15) (L' := [Vr 166, Vx, Vx]) (S' := [Vr 166]) (h' := ((SHv st dr rd), (ovl a s b))) (fun _ => rfl) (fun b12 => ?_) (fun b12 => ?_)
  · have hn8 : n < 16 := by omega
    have hP : ∀ o i, chD j n o i → fjM j o i := fun o i h => by unfold fjM; omega
    refine Ev.call (k := 1) (pc1 := 20) (L1 := [Vr 166, Vx, Vx]) (S1 := [Vi 0, Vr 166]) (h1 := ((SHv st dr rd), (ovl a s b))) (m' := 164) (as := [Vr 166, Vi 0]) (S' := []) (L0 := [Vr 166, Vi 0]) (fun _ => rfl) rfl rfl rfl rfl rfl rfl (m_counts0 (b := b) hk) (fun r h' hq => ?_)
    obtain ⟨bq1, rfl, hq⟩ := hq
    rcases hq with ⟨pq1, hxq1, rfl, hoq1⟩ | ⟨eq1, hxq1, rfl, hbq1⟩
    · show Ev X _ _ 23 [Vr 166, Vx, Vx] [Vi 1] ((SHv st dr rd), (ovl a s bq1)) _
      refine Ev.call (k := 4) (pc1 := 30) (L1 := [Vr 166, Vx, Vx]) (S1 := [Vi (-1), Vi 0, Vr 166]) (h1 := ((SHv st dr rd), (ovl a s bq1))) (m' := 165) (as := [Vr 166, Vi 0, Vi (-1)]) (S' := []) (L0 := [Vr 166, Vi 0, Vi (-1), Vx]) (fun _ => rfl) rfl rfl rfl rfl rfl rfl (m_asked_0 (b := bq1) hoq1.2 (hN.fr hoq1.1) (-1)) (fun r h' hq => ?_)
      obtain ⟨bq2, rfl, hq⟩ := hq
      rcases hq with ⟨rq2, hxq2, rfl, hoq2⟩ | ⟨eq2, hxq2, ⟨vq2, rfl, wq2⟩, hbq2⟩
      · have lq2 := (ask_ok hxq2).2.2.1
        have nq2 := (hN.2.2 0 (by decide)).1
        show Ev X _ _ 33 [Vr 166, Vx, Vx] [Vi ((rq2.1 : Nat) : Int)] ((SHv st dr rd), (ovl a s bq2)) _
        refine Ev.call (k := 4) (pc1 := 37) (L1 := [Vr 166, Vi ((rq2.1 : Nat) : Int), Vx]) (S1 := [Vi ((rq2.1 : Nat) : Int), Vi 0, Vr 166]) (h1 := ((SHv st dr rd), (ovl a s bq2))) (m' := 166) (as := [Vr 166, Vi 0, Vi ((rq2.1 : Nat) : Int)]) (S' := []) (L0 := [Vr 166, Vi 0, Vi ((rq2.1 : Nat) : Int), Vx]) (fun _ => rfl) rfl rfl rfl rfl rfl rfl (m_looked_0 (b := bq2) hoq2.2 ((hN.fr hoq1.1).fr hoq2.1) ((rq2.1 : Nat) : Int)) (fun r h' hq => ?_)
        obtain ⟨bq3, rfl, hq⟩ := hq
        rcases hq with ⟨iq3, hxq3, rfl, heq3⟩ | ⟨eq3, hxq3, rfl, hbq3⟩
        · rw [heq3]
          have hlq3 := lok_lt hxq3
          show Ev X _ _ 40 [Vr 166, Vi ((rq2.1 : Nat) : Int), Vx] [Vi ((iq3 : Nat) : Int)] ((SHv st dr rd), (ovl a s bq2)) _
          refine Ev.steps (k := 3) (pc' := 45) (L' := [Vr 166, Vi ((rq2.1 : Nat) : Int), Vi ((iq3 : Nat) : Int)]) (S' := [Vi (bq2 166 8)]) (h' := ((SHv st dr rd), (ovl a s bq2))) (fun _ => rfl) ?_
          rw [hoq2.2.2.1]
          refine Ev.steps (k := 6) (pc' := 58) (L' := [Vr 166, Vi ((rq2.1 : Nat) : Int), Vi ((iq3 : Nat) : Int)]) (S' := [Vi (bq2 166 39), Vi 64, Vr 175]) (h' := ((SHv st dr rd), (ovl a s bq2))) (fun _ => rfl) ?_
          rw [((hoq2.1 166 39 (by omega)).trans ((hoq1.1 166 39 (by omega)).trans hR.1.2.1))]
          refine Ev.steps (k := 1) (pc' := 59) (L' := [Vr 166, Vi ((rq2.1 : Nat) : Int), Vi ((iq3 : Nat) : Int)]) (S' := [Vi (w32 (64 * (j : Int))), Vr 175]) (h' := ((SHv st dr rd), (ovl a s bq2))) (fun _ => rfl) ?_
          rw [show (w32 (64 * (j : Int))) = (64 * (j : Int)) from w32_id (by unfold R32; omega)]
          refine Ev.steps (k := 3) (pc' := 63) (L' := [Vr 166, Vi ((rq2.1 : Nat) : Int), Vi ((iq3 : Nat) : Int)]) (S' := [Vi (w32 (8 * ((rq2.1 : Nat) : Int))), Vi (64 * (j : Int)), Vr 175]) (h' := ((SHv st dr rd), (ovl a s bq2))) (fun _ => rfl) ?_
          rw [show (w32 (8 * ((rq2.1 : Nat) : Int))) = (8 * ((rq2.1 : Nat) : Int)) from w32_id (by unfold R32; omega)]
          refine Ev.steps (k := 1) (pc' := 64) (L' := [Vr 166, Vi ((rq2.1 : Nat) : Int), Vi ((iq3 : Nat) : Int)]) (S' := [Vi (w32 ((64 * (j : Int)) + (8 * ((rq2.1 : Nat) : Int)))), Vr 175]) (h' := ((SHv st dr rd), (ovl a s bq2))) (fun _ => rfl) ?_
          rw [show (w32 ((64 * (j : Int)) + (8 * ((rq2.1 : Nat) : Int)))) = ((64 * (j : Int)) + (8 * ((rq2.1 : Nat) : Int))) from w32_id (by unfold R32; omega)]
          refine Ev.steps (k := 2) (pc' := 66) (L' := [Vr 166, Vi ((rq2.1 : Nat) : Int), Vi ((iq3 : Nat) : Int)]) (S' := [Vi (w32 (((64 * (j : Int)) + (8 * ((rq2.1 : Nat) : Int))) + ((iq3 : Nat) : Int))), Vr 175]) (h' := ((SHv st dr rd), (ovl a s bq2))) (fun _ => rfl) ?_
          rw [show (w32 (((64 * (j : Int)) + (8 * ((rq2.1 : Nat) : Int))) + ((iq3 : Nat) : Int))) = (((64 * (j : Int)) + (8 * ((rq2.1 : Nat) : Int))) + ((iq3 : Nat) : Int)) from w32_id (by unfold R32; omega)]
          refine Ev.zald (v := (bq2 175 (((64 * j + 8 * rq2.1) + iq3)))) rfl (by decide) rfl (by omega) (by omega) (rfl) ?_
          refine Ev.ite (P := (bq2 175 (((64 * j + 8 * rq2.1) + iq3))) = 0) (k := 1) (a := 79) (b := 70) (L' := [Vr 166, Vi ((rq2.1 : Nat) : Int), Vi ((iq3 : Nat) : Int)]) (S' := []) (h' := ((SHv st dr rd), (ovl a s bq2))) (fun _ => rfl) (fun b67 => ?_) (fun b67 => ?_)
          · have hdo : bq2 175 (64 * j + 8 * rq2.1 + iq3) = S.1 4 (8 * rq2.1 + iq3) := ((hoq2.1 175 (64 * j + 8 * rq2.1 + iq3) (by omega)).trans ((hoq1.1 175 (64 * j + 8 * rq2.1 + iq3) (by omega)).trans (hR.2.2.2.2.2.1 rq2.1 iq3 (by omega) (by omega))))
            refine Ev.steps (k := 2) (pc' := 83) (L' := [Vr 166, Vi ((rq2.1 : Nat) : Int), Vi ((iq3 : Nat) : Int)]) (S' := [Vi (bq2 166 8)]) (h' := ((SHv st dr rd), (ovl a s bq2))) (fun _ => rfl) ?_
            rw [hoq2.2.2.1]
            refine Ev.call (k := 2) (pc1 := 88) (L1 := [Vr 166, Vi ((rq2.1 : Nat) : Int), Vi ((iq3 : Nat) : Int)]) (S1 := [Vr 166]) (h1 := ((SHv st dr rd), (ovl a s bq2))) (m' := 157) (as := [Vr 166]) (S' := []) (L0 := [Vr 166, Vx, Vx, Vx, Vx, Vx]) (fun _ => rfl) rfl rfl rfl rfl rfl rfl (m_nextT (b := bq2) hoq2.2) (fun r h' hq => ?_)
            obtain ⟨rfl, bq4, rfl, hq⟩ := hq
            rcases hq with ⟨pq4, hxq4, hoq4⟩ | ⟨eq4, hxq4, hbq4⟩
            · show Ev X _ _ 91 [Vr 166, Vi ((rq2.1 : Nat) : Int), Vi ((iq3 : Nat) : Int)] [] ((SHv st dr rd), (ovl a s bq4)) _
              refine Ev.steps (k := 5) (pc' := 101) (L' := [Vr 166, Vi ((rq2.1 : Nat) : Int), Vi ((iq3 : Nat) : Int)]) (S' := [Vi (bq4 166 39), Vi 64, Vr 175]) (h' := ((SHv st dr rd), (ovl a s bq4))) (fun _ => rfl) ?_
              rw [((hoq4.1 166 39 (by omega)).trans ((hoq2.1 166 39 (by omega)).trans ((hoq1.1 166 39 (by omega)).trans hR.1.2.1)))]
              refine Ev.steps (k := 1) (pc' := 102) (L' := [Vr 166, Vi ((rq2.1 : Nat) : Int), Vi ((iq3 : Nat) : Int)]) (S' := [Vi (w32 (64 * (j : Int))), Vr 175]) (h' := ((SHv st dr rd), (ovl a s bq4))) (fun _ => rfl) ?_
              rw [show (w32 (64 * (j : Int))) = (64 * (j : Int)) from w32_id (by unfold R32; omega)]
              refine Ev.steps (k := 3) (pc' := 106) (L' := [Vr 166, Vi ((rq2.1 : Nat) : Int), Vi ((iq3 : Nat) : Int)]) (S' := [Vi (w32 (8 * ((rq2.1 : Nat) : Int))), Vi (64 * (j : Int)), Vr 175]) (h' := ((SHv st dr rd), (ovl a s bq4))) (fun _ => rfl) ?_
              rw [show (w32 (8 * ((rq2.1 : Nat) : Int))) = (8 * ((rq2.1 : Nat) : Int)) from w32_id (by unfold R32; omega)]
              refine Ev.steps (k := 1) (pc' := 107) (L' := [Vr 166, Vi ((rq2.1 : Nat) : Int), Vi ((iq3 : Nat) : Int)]) (S' := [Vi (w32 ((64 * (j : Int)) + (8 * ((rq2.1 : Nat) : Int)))), Vr 175]) (h' := ((SHv st dr rd), (ovl a s bq4))) (fun _ => rfl) ?_
              rw [show (w32 ((64 * (j : Int)) + (8 * ((rq2.1 : Nat) : Int)))) = ((64 * (j : Int)) + (8 * ((rq2.1 : Nat) : Int))) from w32_id (by unfold R32; omega)]
              refine Ev.steps (k := 2) (pc' := 109) (L' := [Vr 166, Vi ((rq2.1 : Nat) : Int), Vi ((iq3 : Nat) : Int)]) (S' := [Vi (w32 (((64 * (j : Int)) + (8 * ((rq2.1 : Nat) : Int))) + ((iq3 : Nat) : Int))), Vr 175]) (h' := ((SHv st dr rd), (ovl a s bq4))) (fun _ => rfl) ?_
              rw [show (w32 (((64 * (j : Int)) + (8 * ((rq2.1 : Nat) : Int))) + ((iq3 : Nat) : Int))) = (((64 * (j : Int)) + (8 * ((rq2.1 : Nat) : Int))) + ((iq3 : Nat) : Int)) from w32_id (by unfold R32; omega)]
              refine Ev.steps (k := 1) (pc' := 110) (L' := [Vr 166, Vi ((rq2.1 : Nat) : Int), Vi ((iq3 : Nat) : Int)]) (S' := [Vi 1, Vi (((64 * (j : Int)) + (8 * ((rq2.1 : Nat) : Int))) + ((iq3 : Nat) : Int)), Vr 175]) (h' := ((SHv st dr rd), (ovl a s bq4))) (fun _ => rfl) ?_
              refine Ev.zast (c' := (ovl a s (updC bq4 175 (((64 * j + 8 * rq2.1) + iq3)) 1))) rfl (by decide) rfl (by omega) (by omega) (by omega) (ovl_wm (by decide)) ?_
              refine Ev.steps (k := 5) (pc' := 121) (L' := [Vr 166, Vi ((rq2.1 : Nat) : Int), Vi ((iq3 : Nat) : Int)]) (S' := [Vi (bq4 166 39), Vi 64, Vr 175]) (h' := ((SHv st dr rd), (ovl a s (updC bq4 175 (((64 * j + 8 * rq2.1) + iq3)) 1)))) (fun _ => rfl) ?_
              rw [((hoq4.1 166 39 (by omega)).trans ((hoq2.1 166 39 (by omega)).trans ((hoq1.1 166 39 (by omega)).trans hR.1.2.1)))]
              refine Ev.steps (k := 1) (pc' := 122) (L' := [Vr 166, Vi ((rq2.1 : Nat) : Int), Vi ((iq3 : Nat) : Int)]) (S' := [Vi (w32 (64 * (j : Int))), Vr 175]) (h' := ((SHv st dr rd), (ovl a s (updC bq4 175 (((64 * j + 8 * rq2.1) + iq3)) 1)))) (fun _ => rfl) ?_
              rw [show (w32 (64 * (j : Int))) = (64 * (j : Int)) from w32_id (by unfold R32; omega)]
              refine Ev.steps (k := 3) (pc' := 126) (L' := [Vr 166, Vi ((rq2.1 : Nat) : Int), Vi ((iq3 : Nat) : Int)]) (S' := [Vi (w32 (8 * ((iq3 : Nat) : Int))), Vi (64 * (j : Int)), Vr 175]) (h' := ((SHv st dr rd), (ovl a s (updC bq4 175 (((64 * j + 8 * rq2.1) + iq3)) 1)))) (fun _ => rfl) ?_
              rw [show (w32 (8 * ((iq3 : Nat) : Int))) = (8 * ((iq3 : Nat) : Int)) from w32_id (by unfold R32; omega)]
              refine Ev.steps (k := 1) (pc' := 127) (L' := [Vr 166, Vi ((rq2.1 : Nat) : Int), Vi ((iq3 : Nat) : Int)]) (S' := [Vi (w32 ((64 * (j : Int)) + (8 * ((iq3 : Nat) : Int)))), Vr 175]) (h' := ((SHv st dr rd), (ovl a s (updC bq4 175 (((64 * j + 8 * rq2.1) + iq3)) 1)))) (fun _ => rfl) ?_
              rw [show (w32 ((64 * (j : Int)) + (8 * ((iq3 : Nat) : Int)))) = ((64 * (j : Int)) + (8 * ((iq3 : Nat) : Int))) from w32_id (by unfold R32; omega)]
              refine Ev.steps (k := 2) (pc' := 129) (L' := [Vr 166, Vi ((rq2.1 : Nat) : Int), Vi ((iq3 : Nat) : Int)]) (S' := [Vi (w32 (((64 * (j : Int)) + (8 * ((iq3 : Nat) : Int))) + ((rq2.1 : Nat) : Int))), Vr 175]) (h' := ((SHv st dr rd), (ovl a s (updC bq4 175 (((64 * j + 8 * rq2.1) + iq3)) 1)))) (fun _ => rfl) ?_
              rw [show (w32 (((64 * (j : Int)) + (8 * ((iq3 : Nat) : Int))) + ((rq2.1 : Nat) : Int))) = (((64 * (j : Int)) + (8 * ((iq3 : Nat) : Int))) + ((rq2.1 : Nat) : Int)) from w32_id (by unfold R32; omega)]
              refine Ev.steps (k := 1) (pc' := 130) (L' := [Vr 166, Vi ((rq2.1 : Nat) : Int), Vi ((iq3 : Nat) : Int)]) (S' := [Vi 1, Vi (((64 * (j : Int)) + (8 * ((iq3 : Nat) : Int))) + ((rq2.1 : Nat) : Int)), Vr 175]) (h' := ((SHv st dr rd), (ovl a s (updC bq4 175 (((64 * j + 8 * rq2.1) + iq3)) 1)))) (fun _ => rfl) ?_
              refine Ev.zast (c' := (ovl a s (updC (updC bq4 175 (((64 * j + 8 * rq2.1) + iq3)) 1) 175 (((64 * j + 8 * iq3) + rq2.1)) 1))) rfl (by decide) rfl (by omega) (by omega) (by omega) (ovl_wm (by decide)) ?_
              refine Ev.steps (k := 4) (pc' := 139) (L' := [Vr 166, Vi ((rq2.1 : Nat) : Int), Vi ((iq3 : Nat) : Int)]) (S' := [Vi (bq4 166 39), Vr 169]) (h' := ((SHv st dr rd), (ovl a s (updC (updC bq4 175 (((64 * j + 8 * rq2.1) + iq3)) 1) 175 (((64 * j + 8 * iq3) + rq2.1)) 1)))) (fun _ => rfl) ?_
              rw [((hoq4.1 166 39 (by omega)).trans ((hoq2.1 166 39 (by omega)).trans ((hoq1.1 166 39 (by omega)).trans hR.1.2.1)))]
              refine Ev.steps (k := 1) (pc' := 140) (L' := [Vr 166, Vi ((rq2.1 : Nat) : Int), Vi ((iq3 : Nat) : Int)]) (S' := [Vi (j : Int), Vr 169, Vi (j : Int), Vr 169]) (h' := ((SHv st dr rd), (ovl a s (updC (updC bq4 175 (((64 * j + 8 * rq2.1) + iq3)) 1) 175 (((64 * j + 8 * iq3) + rq2.1)) 1)))) (fun _ => rfl) ?_
              refine Ev.iald (v := (n : Int)) rfl (by decide) rfl (by omega) (by omega) (((hoq4.1 169 j (by omega)).trans ((hoq2.1 169 j (by omega)).trans ((hoq1.1 169 j (by omega)).trans hcn)))) ?_
              refine Ev.steps (k := 2) (pc' := 143) (L' := [Vr 166, Vi ((rq2.1 : Nat) : Int), Vi ((iq3 : Nat) : Int)]) (S' := [Vi (w32 ((n : Int) + 1)), Vi (j : Int), Vr 169]) (h' := ((SHv st dr rd), (ovl a s (updC (updC bq4 175 (((64 * j + 8 * rq2.1) + iq3)) 1) 175 (((64 * j + 8 * iq3) + rq2.1)) 1)))) (fun _ => rfl) ?_
              rw [show (w32 ((n : Int) + 1)) = ((n : Int) + 1) from w32_id (by unfold R32; omega)]
              refine Ev.iast (c' := (ovl a s (updC (updC (updC bq4 175 (((64 * j + 8 * rq2.1) + iq3)) 1) 175 (((64 * j + 8 * iq3) + rq2.1)) 1) 169 j ((n : Int) + 1)))) rfl (by decide) rfl (by omega) (by omega) (ovl_wm (by decide)) ?_
              refine Ev.fin (k := 1) (r := none) (h' := ((SHv st dr rd), (ovl a s (updC (updC (updC bq4 175 (((64 * j + 8 * rq2.1) + iq3)) 1) 175 (((64 * j + 8 * iq3) + rq2.1)) 1) 169 j ((n : Int) + 1))))) (fun _ => rfl) ?_
              have hb : FrP (chD j n) b (updC (updC (updC bq4 175 (((64 * j + 8 * rq2.1) + iq3)) 1) 175 (((64 * j + 8 * iq3) + rq2.1)) 1) 169 j ((n : Int) + 1)) := (((((((FrP.rf : FrP (chD j n) b b).fn hoq1.1).fn hoq2.1).fn hoq4.1).up (by omega)).up (by omega)).up (by omega))
              refine ⟨rfl, _, rfl, Or.inl ⟨(_, pq4), ?_, (((hoq4.2.up (by omega)).up (by omega)).up (by omega)), hR.door (x := rq2.1) (y := iq3) hn (by omega) (by omega) (by omega) updC_sm (fun i hi => ?_) hb ?_, hb.mo hP⟩⟩
              · rw [if_neg (by omega), doo_lok]
                unfold dooL
                rw [hxq1, bnX_o, hxq2, bnX_o, hxq3, bnX_o, if_neg (by omega), hxq4, bnX_o]
              · rw [updC_nt (by omega), updC_if, updC_if]
                by_cases h1 : i = 8 * iq3 + rq2.1
                · rw [if_pos (by omega), if_pos h1]
                · rw [if_neg (by omega), if_neg h1]
                  by_cases h2 : i = 8 * rq2.1 + iq3
                  · rw [if_pos (by omega), if_pos h2]
                  · rw [if_neg (by omega), if_neg h2]
                    exact ((hoq4.1 175 (64 * j + i) (by omega)).trans ((hoq2.1 175 (64 * j + i) (by omega)).trans ((hoq1.1 175 (64 * j + i) (by omega)).trans rfl)))
              · exact ((updC_nt (by omega)).trans ((updC_nt (by omega)).trans ((updC_nt (by omega)).trans ((hoq4.1 166 38 (by omega)).trans ((hoq2.1 166 38 (by omega)).trans ((hoq1.1 166 38 (by omega)).trans hR.1.2.2))))))
            · show Ev X _ _ 91 [Vr 166, Vi ((rq2.1 : Nat) : Int), Vi ((iq3 : Nat) : Int)] [] ((SHv st dr rd), (ovl a s bq4)) _
              refine Ev.steps (k := 5) (pc' := 101) (L' := [Vr 166, Vi ((rq2.1 : Nat) : Int), Vi ((iq3 : Nat) : Int)]) (S' := [Vi (bq4 166 39), Vi 64, Vr 175]) (h' := ((SHv st dr rd), (ovl a s bq4))) (fun _ => rfl) ?_
              rw [((hbq4.1 166 39 (by omega)).trans ((hoq2.1 166 39 (by omega)).trans ((hoq1.1 166 39 (by omega)).trans hR.1.2.1)))]
              refine Ev.steps (k := 1) (pc' := 102) (L' := [Vr 166, Vi ((rq2.1 : Nat) : Int), Vi ((iq3 : Nat) : Int)]) (S' := [Vi (w32 (64 * (j : Int))), Vr 175]) (h' := ((SHv st dr rd), (ovl a s bq4))) (fun _ => rfl) ?_
              rw [show (w32 (64 * (j : Int))) = (64 * (j : Int)) from w32_id (by unfold R32; omega)]
              refine Ev.steps (k := 3) (pc' := 106) (L' := [Vr 166, Vi ((rq2.1 : Nat) : Int), Vi ((iq3 : Nat) : Int)]) (S' := [Vi (w32 (8 * ((rq2.1 : Nat) : Int))), Vi (64 * (j : Int)), Vr 175]) (h' := ((SHv st dr rd), (ovl a s bq4))) (fun _ => rfl) ?_
              rw [show (w32 (8 * ((rq2.1 : Nat) : Int))) = (8 * ((rq2.1 : Nat) : Int)) from w32_id (by unfold R32; omega)]
              refine Ev.steps (k := 1) (pc' := 107) (L' := [Vr 166, Vi ((rq2.1 : Nat) : Int), Vi ((iq3 : Nat) : Int)]) (S' := [Vi (w32 ((64 * (j : Int)) + (8 * ((rq2.1 : Nat) : Int)))), Vr 175]) (h' := ((SHv st dr rd), (ovl a s bq4))) (fun _ => rfl) ?_
              rw [show (w32 ((64 * (j : Int)) + (8 * ((rq2.1 : Nat) : Int)))) = ((64 * (j : Int)) + (8 * ((rq2.1 : Nat) : Int))) from w32_id (by unfold R32; omega)]
              refine Ev.steps (k := 2) (pc' := 109) (L' := [Vr 166, Vi ((rq2.1 : Nat) : Int), Vi ((iq3 : Nat) : Int)]) (S' := [Vi (w32 (((64 * (j : Int)) + (8 * ((rq2.1 : Nat) : Int))) + ((iq3 : Nat) : Int))), Vr 175]) (h' := ((SHv st dr rd), (ovl a s bq4))) (fun _ => rfl) ?_
              rw [show (w32 (((64 * (j : Int)) + (8 * ((rq2.1 : Nat) : Int))) + ((iq3 : Nat) : Int))) = (((64 * (j : Int)) + (8 * ((rq2.1 : Nat) : Int))) + ((iq3 : Nat) : Int)) from w32_id (by unfold R32; omega)]
              refine Ev.steps (k := 1) (pc' := 110) (L' := [Vr 166, Vi ((rq2.1 : Nat) : Int), Vi ((iq3 : Nat) : Int)]) (S' := [Vi 1, Vi (((64 * (j : Int)) + (8 * ((rq2.1 : Nat) : Int))) + ((iq3 : Nat) : Int)), Vr 175]) (h' := ((SHv st dr rd), (ovl a s bq4))) (fun _ => rfl) ?_
              refine Ev.zast (c' := (ovl a s (updC bq4 175 (((64 * j + 8 * rq2.1) + iq3)) 1))) rfl (by decide) rfl (by omega) (by omega) (by omega) (ovl_wm (by decide)) ?_
              refine Ev.steps (k := 5) (pc' := 121) (L' := [Vr 166, Vi ((rq2.1 : Nat) : Int), Vi ((iq3 : Nat) : Int)]) (S' := [Vi (bq4 166 39), Vi 64, Vr 175]) (h' := ((SHv st dr rd), (ovl a s (updC bq4 175 (((64 * j + 8 * rq2.1) + iq3)) 1)))) (fun _ => rfl) ?_
              rw [((hbq4.1 166 39 (by omega)).trans ((hoq2.1 166 39 (by omega)).trans ((hoq1.1 166 39 (by omega)).trans hR.1.2.1)))]
              refine Ev.steps (k := 1) (pc' := 122) (L' := [Vr 166, Vi ((rq2.1 : Nat) : Int), Vi ((iq3 : Nat) : Int)]) (S' := [Vi (w32 (64 * (j : Int))), Vr 175]) (h' := ((SHv st dr rd), (ovl a s (updC bq4 175 (((64 * j + 8 * rq2.1) + iq3)) 1)))) (fun _ => rfl) ?_
              rw [show (w32 (64 * (j : Int))) = (64 * (j : Int)) from w32_id (by unfold R32; omega)]
              refine Ev.steps (k := 3) (pc' := 126) (L' := [Vr 166, Vi ((rq2.1 : Nat) : Int), Vi ((iq3 : Nat) : Int)]) (S' := [Vi (w32 (8 * ((iq3 : Nat) : Int))), Vi (64 * (j : Int)), Vr 175]) (h' := ((SHv st dr rd), (ovl a s (updC bq4 175 (((64 * j + 8 * rq2.1) + iq3)) 1)))) (fun _ => rfl) ?_
              rw [show (w32 (8 * ((iq3 : Nat) : Int))) = (8 * ((iq3 : Nat) : Int)) from w32_id (by unfold R32; omega)]
              refine Ev.steps (k := 1) (pc' := 127) (L' := [Vr 166, Vi ((rq2.1 : Nat) : Int), Vi ((iq3 : Nat) : Int)]) (S' := [Vi (w32 ((64 * (j : Int)) + (8 * ((iq3 : Nat) : Int)))), Vr 175]) (h' := ((SHv st dr rd), (ovl a s (updC bq4 175 (((64 * j + 8 * rq2.1) + iq3)) 1)))) (fun _ => rfl) ?_
              rw [show (w32 ((64 * (j : Int)) + (8 * ((iq3 : Nat) : Int)))) = ((64 * (j : Int)) + (8 * ((iq3 : Nat) : Int))) from w32_id (by unfold R32; omega)]
              refine Ev.steps (k := 2) (pc' := 129) (L' := [Vr 166, Vi ((rq2.1 : Nat) : Int), Vi ((iq3 : Nat) : Int)]) (S' := [Vi (w32 (((64 * (j : Int)) + (8 * ((iq3 : Nat) : Int))) + ((rq2.1 : Nat) : Int))), Vr 175]) (h' := ((SHv st dr rd), (ovl a s (updC bq4 175 (((64 * j + 8 * rq2.1) + iq3)) 1)))) (fun _ => rfl) ?_
              rw [show (w32 (((64 * (j : Int)) + (8 * ((iq3 : Nat) : Int))) + ((rq2.1 : Nat) : Int))) = (((64 * (j : Int)) + (8 * ((iq3 : Nat) : Int))) + ((rq2.1 : Nat) : Int)) from w32_id (by unfold R32; omega)]
              refine Ev.steps (k := 1) (pc' := 130) (L' := [Vr 166, Vi ((rq2.1 : Nat) : Int), Vi ((iq3 : Nat) : Int)]) (S' := [Vi 1, Vi (((64 * (j : Int)) + (8 * ((iq3 : Nat) : Int))) + ((rq2.1 : Nat) : Int)), Vr 175]) (h' := ((SHv st dr rd), (ovl a s (updC bq4 175 (((64 * j + 8 * rq2.1) + iq3)) 1)))) (fun _ => rfl) ?_
              refine Ev.zast (c' := (ovl a s (updC (updC bq4 175 (((64 * j + 8 * rq2.1) + iq3)) 1) 175 (((64 * j + 8 * iq3) + rq2.1)) 1))) rfl (by decide) rfl (by omega) (by omega) (by omega) (ovl_wm (by decide)) ?_
              refine Ev.steps (k := 4) (pc' := 139) (L' := [Vr 166, Vi ((rq2.1 : Nat) : Int), Vi ((iq3 : Nat) : Int)]) (S' := [Vi (bq4 166 39), Vr 169]) (h' := ((SHv st dr rd), (ovl a s (updC (updC bq4 175 (((64 * j + 8 * rq2.1) + iq3)) 1) 175 (((64 * j + 8 * iq3) + rq2.1)) 1)))) (fun _ => rfl) ?_
              rw [((hbq4.1 166 39 (by omega)).trans ((hoq2.1 166 39 (by omega)).trans ((hoq1.1 166 39 (by omega)).trans hR.1.2.1)))]
              refine Ev.steps (k := 1) (pc' := 140) (L' := [Vr 166, Vi ((rq2.1 : Nat) : Int), Vi ((iq3 : Nat) : Int)]) (S' := [Vi (j : Int), Vr 169, Vi (j : Int), Vr 169]) (h' := ((SHv st dr rd), (ovl a s (updC (updC bq4 175 (((64 * j + 8 * rq2.1) + iq3)) 1) 175 (((64 * j + 8 * iq3) + rq2.1)) 1)))) (fun _ => rfl) ?_
              refine Ev.iald (v := (n : Int)) rfl (by decide) rfl (by omega) (by omega) (((hbq4.1 169 j (by omega)).trans ((hoq2.1 169 j (by omega)).trans ((hoq1.1 169 j (by omega)).trans hcn)))) ?_
              refine Ev.steps (k := 2) (pc' := 143) (L' := [Vr 166, Vi ((rq2.1 : Nat) : Int), Vi ((iq3 : Nat) : Int)]) (S' := [Vi (w32 ((n : Int) + 1)), Vi (j : Int), Vr 169]) (h' := ((SHv st dr rd), (ovl a s (updC (updC bq4 175 (((64 * j + 8 * rq2.1) + iq3)) 1) 175 (((64 * j + 8 * iq3) + rq2.1)) 1)))) (fun _ => rfl) ?_
              rw [show (w32 ((n : Int) + 1)) = ((n : Int) + 1) from w32_id (by unfold R32; omega)]
              refine Ev.iast (c' := (ovl a s (updC (updC (updC bq4 175 (((64 * j + 8 * rq2.1) + iq3)) 1) 175 (((64 * j + 8 * iq3) + rq2.1)) 1) 169 j ((n : Int) + 1)))) rfl (by decide) rfl (by omega) (by omega) (ovl_wm (by decide)) ?_
              refine Ev.fin (k := 1) (r := none) (h' := ((SHv st dr rd), (ovl a s (updC (updC (updC bq4 175 (((64 * j + 8 * rq2.1) + iq3)) 1) 175 (((64 * j + 8 * iq3) + rq2.1)) 1) 169 j ((n : Int) + 1))))) (fun _ => rfl) ?_
              refine ⟨rfl, _, rfl, Or.inr ⟨eq4, ?_, ⟨((((((((FrP.rf : FrP (chD j n) b b).fn hoq1.1).fn hoq2.1).fn hbq4.1).up (by omega)).up (by omega)).up (by omega))).mo hP, (((hbq4.2.1.up (by omega)).up (by omega)).up (by omega)), (((hbq4.2.2.up (by omega)).up (by omega)).up (by omega))⟩⟩⟩
              rw [if_neg (by omega), doo_lok]
              unfold dooL
              rw [hxq1, bnX_o, hxq2, bnX_o, hxq3, bnX_o, if_neg (by omega), hxq4, bnX_e]
          · have hdo : bq2 175 (64 * j + 8 * rq2.1 + iq3) = S.1 4 (8 * rq2.1 + iq3) := ((hoq2.1 175 (64 * j + 8 * rq2.1 + iq3) (by omega)).trans ((hoq1.1 175 (64 * j + 8 * rq2.1 + iq3) (by omega)).trans (hR.2.2.2.2.2.1 rq2.1 iq3 (by omega) (by omega))))
            refine Ev.steps (k := 4) (pc' := 76) (L' := [Vr 166, Vi ((rq2.1 : Nat) : Int), Vi ((iq3 : Nat) : Int)]) (S' := [Vi (bq2 166 4), Vi 2, Vr 166]) (h' := ((SHv st dr rd), (ovl a s bq2))) (fun _ => rfl) ?_
            rw [hoq2.2.2.2.2.2.1]
            refine Ev.call (k := 0) (pc1 := 76) (L1 := [Vr 166, Vi ((rq2.1 : Nat) : Int), Vi ((iq3 : Nat) : Int)]) (S1 := [Vi ((tA W rq2.2 : Nat) : Int), Vi 2, Vr 166]) (h1 := ((SHv st dr rd), (ovl a s bq2))) (m' := 160) (as := [Vr 166, Vi 2, Vi ((tA W rq2.2 : Nat) : Int)]) (S' := []) (L0 := [Vr 166, Vi 2, Vi ((tA W rq2.2 : Nat) : Int)]) (fun _ => rfl) rfl rfl rfl rfl rfl rfl (m_bl (b := bq2) hoq2.2 2 (by decide)) (fun r h' hq => ?_)
            obtain ⟨rfl, bq5, rfl, hbq5⟩ := hq
            show Ev X _ _ 79 [Vr 166, Vi ((rq2.1 : Nat) : Int), Vi ((iq3 : Nat) : Int)] [] ((SHv st dr rd), (ovl a s bq5)) _
            refine Ev.steps (k := 2) (pc' := 83) (L' := [Vr 166, Vi ((rq2.1 : Nat) : Int), Vi ((iq3 : Nat) : Int)]) (S' := [Vi (bq5 166 8)]) (h' := ((SHv st dr rd), (ovl a s bq5))) (fun _ => rfl) ?_
            rw [hbq5.2.2.2.1]
            refine Ev.ite (P := (fltT W 2 rq2.2).1 ≤ 0) (k := 1) (a := 87) (b := 86) (L' := [Vr 166, Vi ((rq2.1 : Nat) : Int), Vi ((iq3 : Nat) : Int)]) (S' := []) (h' := ((SHv st dr rd), (ovl a s bq5))) (fun _ => rfl) (fun b83 => ?_) (fun b83 => ?_)
            · have := hbq5.2.2.1; omega
            · refine Ev.fin (k := 1) (r := none) (h' := ((SHv st dr rd), (ovl a s bq5))) (fun _ => rfl) ?_
              refine ⟨rfl, _, rfl, Or.inr ⟨(fltT W 2 rq2.2), ?_, ⟨(((((FrP.rf : FrP (chD j n) b b).fn hoq1.1).fn hoq2.1).fn hbq5.1)).mo hP, hbq5.2.1, hbq5.2.2⟩⟩⟩
              rw [if_neg (by omega), doo_lok]
              unfold dooL
              rw [hxq1, bnX_o, hxq2, bnX_o, hxq3, bnX_o, if_pos (by omega)]
        · show Ev X _ _ 40 [Vr 166, Vi ((rq2.1 : Nat) : Int), Vx] [Vi 0] ((SHv st dr rd), (ovl a s bq3)) _
          refine Ev.steps (k := 3) (pc' := 45) (L' := [Vr 166, Vi ((rq2.1 : Nat) : Int), Vi 0]) (S' := [Vi (bq3 166 8)]) (h' := ((SHv st dr rd), (ovl a s bq3))) (fun _ => rfl) ?_
          rw [hbq3.2.2.2.1]
          refine Ev.ite (P := eq3.1 ≠ 0) (k := 1) (a := 79) (b := 48) (L' := [Vr 166, Vi ((rq2.1 : Nat) : Int), Vi 0]) (S' := []) (h' := ((SHv st dr rd), (ovl a s bq3))) (fun _ => rfl) (fun b45 => ?_) (fun b45 => ?_)
          · refine Ev.steps (k := 2) (pc' := 83) (L' := [Vr 166, Vi ((rq2.1 : Nat) : Int), Vi 0]) (S' := [Vi (bq3 166 8)]) (h' := ((SHv st dr rd), (ovl a s bq3))) (fun _ => rfl) ?_
            rw [hbq3.2.2.2.1]
            refine Ev.ite (P := eq3.1 ≤ 0) (k := 1) (a := 87) (b := 86) (L' := [Vr 166, Vi ((rq2.1 : Nat) : Int), Vi 0]) (S' := []) (h' := ((SHv st dr rd), (ovl a s bq3))) (fun _ => rfl) (fun b83 => ?_) (fun b83 => ?_)
            · have := hbq3.2.2.1; omega
            · refine Ev.fin (k := 1) (r := none) (h' := ((SHv st dr rd), (ovl a s bq3))) (fun _ => rfl) ?_
              refine ⟨rfl, _, rfl, Or.inr ⟨eq3, ?_, ⟨(((((FrP.rf : FrP (chD j n) b b).fn hoq1.1).fn hoq2.1).fn hbq3.1)).mo hP, hbq3.2.1, hbq3.2.2⟩⟩⟩
              rw [if_neg (by omega), doo_lok]
              unfold dooL
              rw [hxq1, bnX_o, hxq2, bnX_o, hxq3, bnX_e]
          · have := hbq3.2.2.1; omega
      · show Ev X _ _ 33 [Vr 166, Vx, Vx] [Vi vq2] ((SHv st dr rd), (ovl a s bq2)) _
        refine Ev.call (k := 4) (pc1 := 37) (L1 := [Vr 166, Vi vq2, Vx]) (S1 := [Vi vq2, Vi 0, Vr 166]) (h1 := ((SHv st dr rd), (ovl a s bq2))) (m' := 166) (as := [Vr 166, Vi 0, Vi vq2]) (S' := []) (L0 := [Vr 166, Vi 0, Vi vq2, Vx]) (fun _ => rfl) rfl rfl rfl rfl rfl rfl (m_looked_br (b := bq2) hbq2.2.2 0 vq2) (fun r h' hq => ?_)
        obtain ⟨rfl, rfl⟩ := hq
        show Ev X _ _ 40 [Vr 166, Vi vq2, Vx] [Vi 0] ((SHv st dr rd), (ovl a s bq2)) _
        refine Ev.steps (k := 3) (pc' := 45) (L' := [Vr 166, Vi vq2, Vi 0]) (S' := [Vi (bq2 166 8)]) (h' := ((SHv st dr rd), (ovl a s bq2))) (fun _ => rfl) ?_
        rw [hbq2.2.2.2.1]
        refine Ev.ite (P := eq2.1 ≠ 0) (k := 1) (a := 79) (b := 48) (L' := [Vr 166, Vi vq2, Vi 0]) (S' := []) (h' := ((SHv st dr rd), (ovl a s bq2))) (fun _ => rfl) (fun b45 => ?_) (fun b45 => ?_)
        · refine Ev.steps (k := 2) (pc' := 83) (L' := [Vr 166, Vi vq2, Vi 0]) (S' := [Vi (bq2 166 8)]) (h' := ((SHv st dr rd), (ovl a s bq2))) (fun _ => rfl) ?_
          rw [hbq2.2.2.2.1]
          refine Ev.ite (P := eq2.1 ≤ 0) (k := 1) (a := 87) (b := 86) (L' := [Vr 166, Vi vq2, Vi 0]) (S' := []) (h' := ((SHv st dr rd), (ovl a s bq2))) (fun _ => rfl) (fun b83 => ?_) (fun b83 => ?_)
          · have := hbq2.2.2.1; omega
          · refine Ev.fin (k := 1) (r := none) (h' := ((SHv st dr rd), (ovl a s bq2))) (fun _ => rfl) ?_
            refine ⟨rfl, _, rfl, Or.inr ⟨eq2, ?_, ⟨((((FrP.rf : FrP (chD j n) b b).fn hoq1.1).fn hbq2.1)).mo hP, hbq2.2.1, hbq2.2.2⟩⟩⟩
            rw [if_neg (by omega), doo_lok]
            unfold dooL
            rw [hxq1, bnX_o, hxq2, bnX_e]
        · have := hbq2.2.2.1; omega
    · show Ev X _ _ 23 [Vr 166, Vx, Vx] [Vi 0] ((SHv st dr rd), (ovl a s bq1)) _
      refine Ev.fin (k := 2) (r := none) (h' := ((SHv st dr rd), (ovl a s bq1))) (fun _ => rfl) ?_
      refine ⟨rfl, _, rfl, Or.inr ⟨eq1, ?_, ⟨(((FrP.rf : FrP (chD j n) b b).fn hbq1.1)).mo hP, hbq1.2.1, hbq1.2.2⟩⟩⟩
      rw [if_neg (by omega), doo_lok]
      unfold dooL
      rw [hxq1, bnX_e]
  · refine Ev.call (k := 2) (pc1 := 20) (L1 := [Vr 166, Vx, Vx]) (S1 := [Vi 1, Vr 166]) (h1 := ((SHv st dr rd), (ovl a s b))) (m' := 164) (as := [Vr 166, Vi 1]) (S' := []) (L0 := [Vr 166, Vi 1]) (fun _ => rfl) rfl rfl rfl rfl rfl rfl (m_counts1 (b := b) hk) (fun r h' hq => ?_)
    obtain ⟨rfl, bq7, rfl, hbq7⟩ := hq
    show Ev X _ _ 23 [Vr 166, Vx, Vx] [Vi 0] ((SHv st dr rd), (ovl a s bq7)) _
    refine Ev.fin (k := 2) (r := none) (h' := ((SHv st dr rd), (ovl a s bq7))) (fun _ => rfl) ?_
    refine ⟨rfl, _, rfl, Or.inr ⟨(fltT W 5 p), if_pos (by omega), (FrP.rf : FrJ j b b).fn hbq7.1, hbq7.2⟩⟩
