/-! THE REFERENCE READS: rules -/
theorem bnX_as {α β γ : Type} {x : Except PF α} {f : α → Except PF β} {g : β → Except PF γ} : bnX (bnX x f) g = bnX x (fun a => bnX (f a) g) := by
  cases x <;> rfl
def rulL0 (W : TXT) (S : STY) (p : Nat) : Except PF (STY × Nat) := bnX (gotT W p) (fun p1 => bnX (askT W S.1 1 (-1) p1) (fun r => bnX (askT W S.1 0 (-1) r.2) (fun r1 => bnX (expT W 268 r1.2) (fun p4 => bnX (tstT W S.1 8 p4) (fun r2 => .ok (rulS S 0 r.1 r1.1 r1.1 [] r2.1, r2.2))))))
theorem rul_k0 {W : TXT} {S : STY} {p : Nat} (h : tC W p = 262) : rulT W S p = rulL0 W S p := by
  unfold rulT rulL0
  rw [h]
  cases gotT W p with
  | error e => rfl
  | ok p1 =>
    rw [bnX_o, bnX_o]
    cases askT W S.1 1 (-1) p1 with
    | error e => rfl
    | ok r =>
      rw [bnX_o, bnX_o]
      unfold argT
      rw [if_pos (by decide), bnX_as]
      rfl
def rulL1 (W : TXT) (S : STY) (p : Nat) : Except PF (STY × Nat) := bnX (gotT W p) (fun p1 => bnX (askT W S.1 1 (-1) p1) (fun r => bnX (askT W S.1 2 (-1) r.2) (fun r1 => bnX (expT W 268 r1.2) (fun p4 => bnX (tstT W S.1 8 p4) (fun r2 => .ok (rulS S 1 r.1 r1.1 r1.1 [] r2.1, r2.2))))))
theorem rul_k1 {W : TXT} {S : STY} {p : Nat} (h : tC W p = 263) : rulT W S p = rulL1 W S p := by
  unfold rulT rulL1
  rw [h]
  cases gotT W p with
  | error e => rfl
  | ok p1 =>
    rw [bnX_o, bnX_o]
    cases askT W S.1 1 (-1) p1 with
    | error e => rfl
    | ok r =>
      rw [bnX_o, bnX_o]
      unfold argT
      rw [if_neg (by decide), if_pos (by decide), bnX_as]
      rfl
def rulL2 (W : TXT) (S : STY) (p : Nat) : Except PF (STY × Nat) := bnX (gotT W p) (fun p1 => bnX (askT W S.1 1 (-1) p1) (fun r => bnX (askT W S.1 2 (-1) r.2) (fun r1 => bnX (expT W 268 r1.2) (fun p4 => bnX (tstT W S.1 8 p4) (fun r2 => .ok (rulS S 2 r.1 r1.1 r1.1 [] r2.1, r2.2))))))
theorem rul_k2 {W : TXT} {S : STY} {p : Nat} (h : tC W p = 264) : rulT W S p = rulL2 W S p := by
  unfold rulT rulL2
  rw [h]
  cases gotT W p with
  | error e => rfl
  | ok p1 =>
    rw [bnX_o, bnX_o]
    cases askT W S.1 1 (-1) p1 with
    | error e => rfl
    | ok r =>
      rw [bnX_o, bnX_o]
      unfold argT
      rw [if_neg (by decide), if_pos (by decide), bnX_as]
      rfl
def rulL3 (W : TXT) (S : STY) (p : Nat) : Except PF (STY × Nat) := bnX (gotT W p) (fun p1 => bnX (askT W S.1 1 (-1) p1) (fun r => bnX (expT W 268 r.2) (fun p4 => bnX (tstT W S.1 8 p4) (fun r2 => .ok (rulS S 3 r.1 (-1) (-1) [] r2.1, r2.2)))))
theorem rul_k3 {W : TXT} {S : STY} {p : Nat} (h : tC W p = 265) : rulT W S p = rulL3 W S p := by
  unfold rulT rulL3
  rw [h]
  cases gotT W p with
  | error e => rfl
  | ok p1 =>
    rw [bnX_o, bnX_o]
    cases askT W S.1 1 (-1) p1 with
    | error e => rfl
    | ok r =>
      rw [bnX_o, bnX_o]
      unfold argT
      rw [if_neg (by decide), if_neg (by decide), if_neg (by decide), if_neg (by decide), bnX_o]
def rulL4 (W : TXT) (S : STY) (p : Nat) : Except PF (STY × Nat) := bnX (gotT W p) (fun p1 => bnX (askT W S.1 1 (-1) p1) (fun r => bnX (sumT W S.1 8 r.2) (fun r1 => bnX (expT W 268 r1.2) (fun p4 => bnX (tstT W S.1 8 p4) (fun r2 => .ok (rulS S 4 r.1 (-1) (-1) r1.1 r2.1, r2.2))))))
theorem rul_k4 {W : TXT} {S : STY} {p : Nat} (h : tC W p = 266) : rulT W S p = rulL4 W S p := by
  unfold rulT rulL4
  rw [h]
  cases gotT W p with
  | error e => rfl
  | ok p1 =>
    rw [bnX_o, bnX_o]
    cases askT W S.1 1 (-1) p1 with
    | error e => rfl
    | ok r =>
      rw [bnX_o, bnX_o]
      unfold argT
      rw [if_neg (by decide), if_neg (by decide), if_pos (by decide), bnX_as]
      rfl
def rulL5 (W : TXT) (S : STY) (p : Nat) : Except PF (STY × Nat) := bnX (gotT W p) (fun p1 => bnX (askT W S.1 1 (-1) p1) (fun r => bnX (askT W S.1 1 ((r.1 : Nat) : Int) r.2) (fun r1 => bnX (askT W S.1 2 (-1) r1.2) (fun r3 => bnX (expT W 268 r3.2) (fun p4 => bnX (tstT W S.1 8 p4) (fun r2 => .ok (rulS S 5 r.1 r1.1 r3.1 [] r2.1, r2.2)))))))
theorem rul_k5 {W : TXT} {S : STY} {p : Nat} (h : tC W p = 267) : rulT W S p = rulL5 W S p := by
  unfold rulT rulL5
  rw [h]
  cases gotT W p with
  | error e => rfl
  | ok p1 =>
    rw [bnX_o, bnX_o]
    cases askT W S.1 1 (-1) p1 with
    | error e => rfl
    | ok r =>
      rw [bnX_o, bnX_o]
      unfold argT
      rw [if_neg (by decide), if_neg (by decide), if_neg (by decide), if_pos (by decide), bnX_as]
      cases askT W S.1 1 ((r.1 : Nat) : Int) r.2 with
      | error e => rfl
      | ok r1 =>
        rw [bnX_o, bnX_o, bnX_as]
        rfl
theorem m_rule0 {X : List Int} {d : Nat} {st dr rd : Int} {a s b : C3} {W : TXT} {p : Nat} (hk : TkM W p b) {S : STY} (hW : WfY S) {j c n : Nat} (hR : RqM S b j c) (hcp : c ≤ p) (hn : S.1 0 4 = (n : Int)) (hcn : b 173 j = (n : Int)) (hmx : n ≤ 30) (hct : tC W p = 262) : Ev X (d + 6) 163 0 [Vr 166, Vi 0, Vx] [] (SHv st dr rd, ovl a s b) (fun rr hh => rr = none ∧ ∃ b' : C3, hh = (SHv st dr rd, ovl a s b') ∧ ResC (if (30 : Int) ≤ S.1 0 4 then Except.error (fltT W 5 p) else rulT W S p) (fun r => TkM W r.2 b' ∧ (∃ c', RqM r.1 b' j c' ∧ c' ≤ r.2) ∧ FrJ j b b') (fun e => BjM W j b e b')) := by
  have hN := hR.nm hW
  have hj := hN.1
  have hT := hk.1.1
  have hT1 := hT.1
  have hNf : WfN S := ⟨hW.1.1, hW.2.2.1.1, hW.2.2.2.1.1⟩
  have hnn : nL S = n := by show (S.1 0 4).toNat = n; rw [hn]; exact Int.toNat_natCast n
  refine Ev.steps (k := 5) (pc' := 9) (L' := [Vr 166, Vi 0, Vx]) (S' := [Vi (b 166 39), Vr 173, Vr 166]) (h' := ((SHv st dr rd), (ovl a s b))) (fun _ => rfl) ?_
  rw [hR.1.2.1]
  refine Ev.iald (v := (n : Int)) rfl (by decide) rfl (by omega) (by omega) (hcn) ?_
  refine Ev.ite (P := (n : Int) ≠ 30) (k := 2) (a := 19) (b := 15) (L' := [Vr 166, Vi 0, Vx]) (S' := [Vr 166]) (h' := ((SHv st dr rd), (ovl a s b))) (fun _ => rfl) (fun b12 => ?_) (fun b12 => ?_)
  · have hn8 : n < 30 := by omega
    have hP : ∀ o i, chLc j n c o i → fjM j o i := fun o i h => by unfold fjM; omega
    refine Ev.call (k := 1) (pc1 := 20) (L1 := [Vr 166, Vi 0, Vx]) (S1 := [Vi 0, Vr 166]) (h1 := ((SHv st dr rd), (ovl a s b))) (m' := 164) (as := [Vr 166, Vi 0]) (S' := []) (L0 := [Vr 166, Vi 0]) (fun _ => rfl) rfl rfl rfl rfl rfl rfl (m_counts0 (b := b) hk) (fun r h' hq => ?_)
    obtain ⟨bq1, rfl, hq⟩ := hq
    rcases hq with ⟨pq1, hxq1, rfl, hoq1⟩ | ⟨eq1, hxq1, rfl, hbq1⟩
    · have mq1 : p ≤ pq1 := by have h1 := (got_ok hxq1).1; have h2 := tok_rg (W := W) (p := p) (hk).2.2.2.2.2.2.1 hT; omega
      show Ev X _ _ 23 [Vr 166, Vi 0, Vx] [Vi 1] ((SHv st dr rd), (ovl a s bq1)) _
      refine Ev.steps (k := 4) (pc' := 33) (L' := [Vr 166, Vi 0, Vx]) (S' := [Vi (bq1 166 39), Vi 30]) (h' := ((SHv st dr rd), (ovl a s bq1))) (fun _ => rfl) ?_
      rw [((hoq1.1 166 39 (by omega)).trans hR.1.2.1)]
      refine Ev.steps (k := 1) (pc' := 34) (L' := [Vr 166, Vi 0, Vx]) (S' := [Vi (w32 (30 * (j : Int)))]) (h' := ((SHv st dr rd), (ovl a s bq1))) (fun _ => rfl) ?_
      rw [show (w32 (30 * (j : Int))) = (30 * (j : Int)) from w32_id (by unfold R32; omega)]
      refine Ev.steps (k := 4) (pc' := 42) (L' := [Vr 166, Vi 0, Vx]) (S' := [Vi (bq1 166 39), Vr 173, Vi (30 * (j : Int))]) (h' := ((SHv st dr rd), (ovl a s bq1))) (fun _ => rfl) ?_
      rw [((hoq1.1 166 39 (by omega)).trans hR.1.2.1)]
      refine Ev.iald (v := (n : Int)) rfl (by decide) rfl (by omega) (by omega) (((hoq1.1 173 j (by omega)).trans hcn)) ?_
      refine Ev.steps (k := 1) (pc' := 44) (L' := [Vr 166, Vi 0, Vx]) (S' := [Vi (w32 ((30 * (j : Int)) + (n : Int)))]) (h' := ((SHv st dr rd), (ovl a s bq1))) (fun _ => rfl) ?_
      rw [show (w32 ((30 * (j : Int)) + (n : Int))) = ((30 * (j : Int)) + (n : Int)) from w32_id (by unfold R32; omega)]
      refine Ev.steps (k := 5) (pc' := 51) (L' := [Vr 166, Vi 0, Vi ((30 * (j : Int)) + (n : Int))]) (S' := [Vi 0, Vi ((30 * (j : Int)) + (n : Int)), Vr 184]) (h' := ((SHv st dr rd), (ovl a s bq1))) (fun _ => rfl) ?_
      refine Ev.iast (c' := (ovl a s (updC bq1 184 ((30 * j + n)) 0))) rfl (by decide) rfl (by omega) (by omega) (ovl_wm (by decide)) ?_
      refine Ev.call (k := 6) (pc1 := 60) (L1 := [Vr 166, Vi 0, Vi ((30 * (j : Int)) + (n : Int))]) (S1 := [Vi (-1), Vi 1, Vr 166, Vi ((30 * (j : Int)) + (n : Int)), Vr 185]) (h1 := ((SHv st dr rd), (ovl a s (updC bq1 184 ((30 * j + n)) 0)))) (m' := 165) (as := [Vr 166, Vi 1, Vi (-1)]) (S' := [Vi ((30 * (j : Int)) + (n : Int)), Vr 185]) (L0 := [Vr 166, Vi 1, Vi (-1), Vx]) (fun _ => rfl) rfl rfl rfl rfl rfl rfl (m_asked_1 (b := (updC bq1 184 ((30 * j + n)) 0)) (hoq1.2.up (by omega)) ((hN.fr hoq1.1).up (by omega) (by omega) (by omega) (by omega) (by omega)) (-1)) (fun r h' hq => ?_)
      obtain ⟨bq2, rfl, hq⟩ := hq
      rcases hq with ⟨rq2, hxq2, rfl, hoq2⟩ | ⟨eq2, hxq2, ⟨vq2, rfl, wq2⟩, hbq2⟩
      · have lq2 := (ask_ok hxq2).2.2.1
        have nq2 := (hN.2.2 1 (by decide)).1
        have mq2 : pq1 ≤ rq2.2 := by have h1 := (ask_ok hxq2).2.2.2.2.1; have h2 := tok_rg (W := W) (p := pq1) (hoq1.2).2.2.2.2.2.2.1 hT; omega
        show Ev X _ _ 63 [Vr 166, Vi 0, Vi ((30 * (j : Int)) + (n : Int))] [Vi ((rq2.1 : Nat) : Int), Vi ((30 * (j : Int)) + (n : Int)), Vr 185] ((SHv st dr rd), (ovl a s bq2)) _
        refine Ev.iast (c' := (ovl a s (updC bq2 185 ((30 * j + n)) ((rq2.1 : Nat) : Int)))) rfl (by decide) rfl (by omega) (by omega) (ovl_wm (by decide)) ?_
        refine Ev.steps (k := 4) (pc' := 70) (L' := [Vr 166, Vi 0, Vi ((30 * (j : Int)) + (n : Int))]) (S' := [Vi (-1), Vi ((30 * (j : Int)) + (n : Int)), Vr 186]) (h' := ((SHv st dr rd), (ovl a s (updC bq2 185 ((30 * j + n)) ((rq2.1 : Nat) : Int))))) (fun _ => rfl) ?_
        refine Ev.iast (c' := (ovl a s (updC (updC bq2 185 ((30 * j + n)) ((rq2.1 : Nat) : Int)) 186 ((30 * j + n)) (-1)))) rfl (by decide) rfl (by omega) (by omega) (ovl_wm (by decide)) ?_
        refine Ev.call (k := 8) (pc1 := 83) (L1 := [Vr 166, Vi 0, Vi ((30 * (j : Int)) + (n : Int))]) (S1 := [Vi (-1), Vi 0, Vr 166, Vi ((30 * (j : Int)) + (n : Int)), Vr 186]) (h1 := ((SHv st dr rd), (ovl a s (updC (updC bq2 185 ((30 * j + n)) ((rq2.1 : Nat) : Int)) 186 ((30 * j + n)) (-1))))) (m' := 165) (as := [Vr 166, Vi 0, Vi (-1)]) (S' := [Vi ((30 * (j : Int)) + (n : Int)), Vr 186]) (L0 := [Vr 166, Vi 0, Vi (-1), Vx]) (fun _ => rfl) rfl rfl rfl rfl rfl rfl (m_asked_0 (b := (updC (updC bq2 185 ((30 * j + n)) ((rq2.1 : Nat) : Int)) 186 ((30 * j + n)) (-1))) ((hoq2.2.up (by omega)).up (by omega)) (((((hN.fr hoq1.1).up (by omega) (by omega) (by omega) (by omega) (by omega)).fr hoq2.1).up (by omega) (by omega) (by omega) (by omega) (by omega)).up (by omega) (by omega) (by omega) (by omega) (by omega)) (-1)) (fun r h' hq => ?_)
        obtain ⟨bq3, rfl, hq⟩ := hq
        rcases hq with ⟨rq3, hxq3, rfl, hoq3⟩ | ⟨eq3, hxq3, ⟨vq3, rfl, wq3⟩, hbq3⟩
        · have lq3 := (ask_ok hxq3).2.2.1
          have nq3 := (hN.2.2 0 (by decide)).1
          have mq3 : rq2.2 ≤ rq3.2 := by have h1 := (ask_ok hxq3).2.2.2.2.1; have h2 := tok_rg (W := W) (p := rq2.2) (hoq2.2).2.2.2.2.2.2.1 hT; omega
          show Ev X _ _ 86 [Vr 166, Vi 0, Vi ((30 * (j : Int)) + (n : Int))] [Vi ((rq3.1 : Nat) : Int), Vi ((30 * (j : Int)) + (n : Int)), Vr 186] ((SHv st dr rd), (ovl a s bq3)) _
          refine Ev.iast (c' := (ovl a s (updC bq3 186 ((30 * j + n)) ((rq3.1 : Nat) : Int)))) rfl (by decide) rfl (by omega) (by omega) (ovl_wm (by decide)) ?_
          refine Ev.steps (k := 18) (pc' := 155) (L' := [Vr 166, Vi 0, Vi ((30 * (j : Int)) + (n : Int))]) (S' := [Vi ((30 * (j : Int)) + (n : Int)), Vr 186, Vi ((30 * (j : Int)) + (n : Int)), Vr 187]) (h' := ((SHv st dr rd), (ovl a s (updC bq3 186 ((30 * j + n)) ((rq3.1 : Nat) : Int))))) (fun _ => rfl) ?_
          refine Ev.iald (v := ((rq3.1 : Nat) : Int)) rfl (by decide) rfl (by omega) (by omega) (show (updC bq3 186 ((30 * j + n)) ((rq3.1 : Nat) : Int)) 186 ((30 * j + n)) = ((rq3.1 : Nat) : Int) by rw [updC_sm]) ?_
          refine Ev.iast (c' := (ovl a s (updC (updC bq3 186 ((30 * j + n)) ((rq3.1 : Nat) : Int)) 187 ((30 * j + n)) ((rq3.1 : Nat) : Int)))) rfl (by decide) rfl (by omega) (by omega) (ovl_wm (by decide)) ?_
          refine Ev.steps (k := 5) (pc' := 166) (L' := [Vr 166, Vi 0, Vi ((30 * (j : Int)) + (n : Int))]) (S' := [Vi (bq3 166 38), Vi ((30 * (j : Int)) + (n : Int)), Vr 188]) (h' := ((SHv st dr rd), (ovl a s (updC (updC bq3 186 ((30 * j + n)) ((rq3.1 : Nat) : Int)) 187 ((30 * j + n)) ((rq3.1 : Nat) : Int))))) (fun _ => rfl) ?_
          rw [((hoq3.1 166 38 (by omega)).trans ((hoq2.1 166 38 (by omega)).trans ((hoq1.1 166 38 (by omega)).trans hR.1.2.2)))]
          refine Ev.iast (c' := (ovl a s (updC (updC (updC bq3 186 ((30 * j + n)) ((rq3.1 : Nat) : Int)) 187 ((30 * j + n)) ((rq3.1 : Nat) : Int)) 188 ((30 * j + n)) (c : Int)))) rfl (by decide) rfl (by omega) (by omega) (ovl_wm (by decide)) ?_
          refine Ev.call (k := 5) (pc1 := 181) (L1 := [Vr 166, Vi 0, Vi ((30 * (j : Int)) + (n : Int))]) (S1 := [Vl 2003330414, Vr 166]) (h1 := ((SHv st dr rd), (ovl a s (updC (updC (updC bq3 186 ((30 * j + n)) ((rq3.1 : Nat) : Int)) 187 ((30 * j + n)) ((rq3.1 : Nat) : Int)) 188 ((30 * j + n)) (c : Int))))) (m' := 181) (as := [Vr 166, Vl 2003330414]) (S' := []) (L0 := [Vr 166, Vl 2003330414, Vx]) (fun _ => rfl) rfl rfl rfl rfl rfl rfl (m_mustW (b := (updC (updC (updC bq3 186 ((30 * j + n)) ((rq3.1 : Nat) : Int)) 187 ((30 * j + n)) ((rq3.1 : Nat) : Int)) 188 ((30 * j + n)) (c : Int))) (((hoq3.2.up (by omega)).up (by omega)).up (by omega)) 12 (by decide) 2003330414 (by decide)) (fun r h' hq => ?_)
          obtain ⟨rfl, bq4, rfl, hq⟩ := hq
          rcases hq with ⟨pq4, hxq4, hoq4⟩ | ⟨eq4, hxq4, hbq4⟩
          · have mq4 : rq3.2 ≤ pq4 := by have h1 := (exp_ok hxq4).2.1; have h2 := tok_rg (W := W) (p := rq3.2) (hoq3.2).2.2.2.2.2.2.1 hT; omega
            show Ev X _ _ 184 [Vr 166, Vi 0, Vi ((30 * (j : Int)) + (n : Int))] [] ((SHv st dr rd), (ovl a s bq4)) _
            refine Ev.steps (k := 5) (pc' := 193) (L' := [Vr 166, Vi 0, Vi ((30 * (j : Int)) + (n : Int))]) (S' := [Vi (bq4 166 38), Vi ((30 * (j : Int)) + (n : Int)), Vr 189]) (h' := ((SHv st dr rd), (ovl a s bq4))) (fun _ => rfl) ?_
            rw [((hoq4.1 166 38 (by omega)).trans ((hoq3.1 166 38 (by omega)).trans ((hoq2.1 166 38 (by omega)).trans ((hoq1.1 166 38 (by omega)).trans hR.1.2.2))))]
            refine Ev.iast (c' := (ovl a s (updC bq4 189 ((30 * j + n)) (c : Int)))) rfl (by decide) rfl (by omega) (by omega) (ovl_wm (by decide)) ?_
            refine Ev.call (k := 2) (pc1 := 196) (L1 := [Vr 166, Vi 0, Vi ((30 * (j : Int)) + (n : Int))]) (S1 := [Vi 1, Vr 166]) (h1 := ((SHv st dr rd), (ovl a s (updC bq4 189 ((30 * j + n)) (c : Int))))) (m' := 169) (as := [Vr 166, Vi 1]) (S' := []) (L0 := [Vr 166, Vi 1, Vx]) (fun _ => rfl) rfl rfl rfl rfl rfl rfl (m_reads_tst (b := (updC bq4 189 ((30 * j + n)) (c : Int))) (c := c) (hoq4.2.up (by omega)) hNf (((((((((((hN.fr hoq1.1).up (by omega) (by omega) (by omega) (by omega) (by omega)).fr hoq2.1).up (by omega) (by omega) (by omega) (by omega) (by omega)).up (by omega) (by omega) (by omega) (by omega) (by omega)).fr hoq3.1).up (by omega) (by omega) (by omega) (by omega) (by omega)).up (by omega) (by omega) (by omega) (by omega) (by omega)).up (by omega) (by omega) (by omega) (by omega) (by omega)).fr hoq4.1).up (by omega) (by omega) (by omega) (by omega) (by omega)) ((hoq4.1 166 38 (by omega)).trans ((hoq3.1 166 38 (by omega)).trans ((hoq2.1 166 38 (by omega)).trans ((hoq1.1 166 38 (by omega)).trans hR.1.2.2)))) (by omega)) (fun r h' hq => ?_)
            obtain ⟨rfl, bq5, rfl, hq⟩ := hq
            rcases hq with ⟨rq5, hxq5, hrq5⟩ | ⟨eq5, hxq5, hbq5⟩
            · have hleq5 := hrq5.2.2.2.2
              show Ev X _ _ 199 [Vr 166, Vi 0, Vi ((30 * (j : Int)) + (n : Int))] [] ((SHv st dr rd), (ovl a s bq5)) _
              refine Ev.steps (k := 5) (pc' := 208) (L' := [Vr 166, Vi 0, Vi ((30 * (j : Int)) + (n : Int))]) (S' := [Vi (bq5 166 38), Vi ((30 * (j : Int)) + (n : Int)), Vr 190]) (h' := ((SHv st dr rd), (ovl a s bq5))) (fun _ => rfl) ?_
              rw [hrq5.2.2.2.1]
              refine Ev.iast (c' := (ovl a s (updC bq5 190 ((30 * j + n)) (((c + rq5.1.length) : Nat) : Int)))) rfl (by decide) rfl (by omega) (by omega) (ovl_wm (by decide)) ?_
              refine Ev.steps (k := 2) (pc' := 213) (L' := [Vr 166, Vi 0, Vi ((30 * (j : Int)) + (n : Int))]) (S' := [Vi (bq5 166 8)]) (h' := ((SHv st dr rd), (ovl a s (updC bq5 190 ((30 * j + n)) (((c + rq5.1.length) : Nat) : Int))))) (fun _ => rfl) ?_
              rw [hrq5.2.1.2.1]
              refine Ev.steps (k := 5) (pc' := 224) (L' := [Vr 166, Vi 0, Vi ((30 * (j : Int)) + (n : Int))]) (S' := [Vi (bq5 166 39), Vr 173]) (h' := ((SHv st dr rd), (ovl a s (updC bq5 190 ((30 * j + n)) (((c + rq5.1.length) : Nat) : Int))))) (fun _ => rfl) ?_
              rw [((hrq5.1 166 39 (by omega) (by omega) (by omega)).trans ((hoq4.1 166 39 (by omega)).trans ((hoq3.1 166 39 (by omega)).trans ((hoq2.1 166 39 (by omega)).trans ((hoq1.1 166 39 (by omega)).trans hR.1.2.1)))))]
              refine Ev.steps (k := 1) (pc' := 225) (L' := [Vr 166, Vi 0, Vi ((30 * (j : Int)) + (n : Int))]) (S' := [Vi (j : Int), Vr 173, Vi (j : Int), Vr 173]) (h' := ((SHv st dr rd), (ovl a s (updC bq5 190 ((30 * j + n)) (((c + rq5.1.length) : Nat) : Int))))) (fun _ => rfl) ?_
              refine Ev.iald (v := (n : Int)) rfl (by decide) rfl (by omega) (by omega) (((hrq5.1 173 j (by omega) (by omega) (by omega)).trans ((updC_nt (by omega)).trans ((hoq4.1 173 j (by omega)).trans ((updC_nt (by omega)).trans ((updC_nt (by omega)).trans ((updC_nt (by omega)).trans ((hoq3.1 173 j (by omega)).trans ((updC_nt (by omega)).trans ((updC_nt (by omega)).trans ((hoq2.1 173 j (by omega)).trans ((updC_nt (by omega)).trans ((hoq1.1 173 j (by omega)).trans hcn))))))))))))) ?_
              refine Ev.steps (k := 2) (pc' := 228) (L' := [Vr 166, Vi 0, Vi ((30 * (j : Int)) + (n : Int))]) (S' := [Vi (w32 ((n : Int) + 1)), Vi (j : Int), Vr 173]) (h' := ((SHv st dr rd), (ovl a s (updC bq5 190 ((30 * j + n)) (((c + rq5.1.length) : Nat) : Int))))) (fun _ => rfl) ?_
              rw [show (w32 ((n : Int) + 1)) = ((n : Int) + 1) from w32_id (by unfold R32; omega)]
              refine Ev.iast (c' := (ovl a s (updC (updC bq5 190 ((30 * j + n)) (((c + rq5.1.length) : Nat) : Int)) 173 j ((n : Int) + 1)))) rfl (by decide) rfl (by omega) (by omega) (ovl_wm (by decide)) ?_
              refine Ev.fin (k := 1) (r := none) (h' := ((SHv st dr rd), (ovl a s (updC (updC bq5 190 ((30 * j + n)) (((c + rq5.1.length) : Nat) : Int)) 173 j ((n : Int) + 1))))) (fun _ => rfl) ?_
              have hb : FrP (chLc j n c) b (updC (updC bq5 190 ((30 * j + n)) (((c + rq5.1.length) : Nat) : Int)) 173 j ((n : Int) + 1)) := (((((((((((((((FrP.rf : FrP (chLc j n c) b b).fn hoq1.1).up (by omega)).fn hoq2.1).up (by omega)).up (by omega)).fn hoq3.1).up (by omega)).up (by omega)).up (by omega)).fn hoq4.1).up (by omega)).fR hrq5.1 (fun o i h => by omega)).up (by omega)).up (by omega))
              refine ⟨rfl, _, rfl, Or.inl ⟨(_, rq5.2), ?_, ((hrq5.2.1.up (by omega)).up (by omega)), ⟨(c + rq5.1.length), hR.rule (kd := 0) (i := rq2.1) (x := ((rq3.1 : Nat) : Int)) (t := ((rq3.1 : Nat) : Int)) (l1 := []) (l2 := rq5.1) ⟨hnn, hn⟩ hb ((updC_nt (by omega)).trans ((updC_nt (by omega)).trans hrq5.2.2.2.1)) (by omega) updC_sm ((updC_nt (by omega)).trans ((updC_nt (by omega)).trans ((hrq5.1 184 ((30 * j + n)) (by omega) (by omega) (by omega)).trans ((updC_nt (by omega)).trans ((hoq4.1 184 ((30 * j + n)) (by omega)).trans ((updC_nt (by omega)).trans ((updC_nt (by omega)).trans ((updC_nt (by omega)).trans ((hoq3.1 184 ((30 * j + n)) (by omega)).trans ((updC_nt (by omega)).trans ((updC_nt (by omega)).trans ((hoq2.1 184 ((30 * j + n)) (by omega)).trans updC_sm)))))))))))) ((updC_nt (by omega)).trans ((updC_nt (by omega)).trans ((hrq5.1 185 ((30 * j + n)) (by omega) (by omega) (by omega)).trans ((updC_nt (by omega)).trans ((hoq4.1 185 ((30 * j + n)) (by omega)).trans ((updC_nt (by omega)).trans ((updC_nt (by omega)).trans ((updC_nt (by omega)).trans ((hoq3.1 185 ((30 * j + n)) (by omega)).trans ((updC_nt (by omega)).trans updC_sm)))))))))) ((updC_nt (by omega)).trans ((updC_nt (by omega)).trans ((hrq5.1 186 ((30 * j + n)) (by omega) (by omega) (by omega)).trans ((updC_nt (by omega)).trans ((hoq4.1 186 ((30 * j + n)) (by omega)).trans ((updC_nt (by omega)).trans ((updC_nt (by omega)).trans updC_sm))))))) ((updC_nt (by omega)).trans ((updC_nt (by omega)).trans ((hrq5.1 187 ((30 * j + n)) (by omega) (by omega) (by omega)).trans ((updC_nt (by omega)).trans ((hoq4.1 187 ((30 * j + n)) (by omega)).trans ((updC_nt (by omega)).trans updC_sm)))))) ⟨c, ((updC_nt (by omega)).trans ((updC_nt (by omega)).trans ((hrq5.1 189 ((30 * j + n)) (by omega) (by omega) (by omega)).trans updC_sm))), ((updC_nt (by omega)).trans updC_sm), by omega, (codM_u (codM_u hrq5.2.2.1 (by omega)) (by omega))⟩ (fun h => absurd h (by decide)), by dsimp only; omega⟩, hb.mo hP⟩⟩
              rw [if_neg (by omega), rul_k0 hct]
              unfold rulL0
              rw [hxq1, bnX_o, hxq2, bnX_o, hxq3, bnX_o, hxq4, bnX_o, hxq5, bnX_o]
              rfl
            · show Ev X _ _ 199 [Vr 166, Vi 0, Vi ((30 * (j : Int)) + (n : Int))] [] ((SHv st dr rd), (ovl a s bq5)) _
              refine Ev.steps (k := 5) (pc' := 208) (L' := [Vr 166, Vi 0, Vi ((30 * (j : Int)) + (n : Int))]) (S' := [Vi (bq5 166 38), Vi ((30 * (j : Int)) + (n : Int)), Vr 190]) (h' := ((SHv st dr rd), (ovl a s bq5))) (fun _ => rfl) ?_
              refine Ev.iast (c' := (ovl a s (updC bq5 190 ((30 * j + n)) (bq5 166 38)))) rfl (by decide) rfl (by omega) (by omega) (ovl_wm (by decide)) ?_
              refine Ev.steps (k := 2) (pc' := 213) (L' := [Vr 166, Vi 0, Vi ((30 * (j : Int)) + (n : Int))]) (S' := [Vi (bq5 166 8)]) (h' := ((SHv st dr rd), (ovl a s (updC bq5 190 ((30 * j + n)) (bq5 166 38))))) (fun _ => rfl) ?_
              rw [hbq5.2.2.2.1]
              refine Ev.ite (P := eq5.1 ≠ 0) (k := 1) (a := 229) (b := 216) (L' := [Vr 166, Vi 0, Vi ((30 * (j : Int)) + (n : Int))]) (S' := []) (h' := ((SHv st dr rd), (ovl a s (updC bq5 190 ((30 * j + n)) (bq5 166 38))))) (fun _ => rfl) (fun b213 => ?_) (fun b213 => ?_)
              · refine Ev.fin (k := 1) (r := none) (h' := ((SHv st dr rd), (ovl a s (updC bq5 190 ((30 * j + n)) (bq5 166 38))))) (fun _ => rfl) ?_
                refine ⟨rfl, _, rfl, Or.inr ⟨eq5, ?_, ⟨(((((((((((((((FrP.rf : FrP (chLc j n c) b b).fn hoq1.1).up (by omega)).fn hoq2.1).up (by omega)).up (by omega)).fn hoq3.1).up (by omega)).up (by omega)).up (by omega)).fn hoq4.1).up (by omega)).fR hbq5.1 (fun o i h => by omega)).up (by omega))).mo hP, (hbq5.2.1.up (by omega)), (hbq5.2.2.up (by omega))⟩⟩⟩
                rw [if_neg (by omega), rul_k0 hct]
                unfold rulL0
                rw [hxq1, bnX_o, hxq2, bnX_o, hxq3, bnX_o, hxq4, bnX_o, hxq5, bnX_e]
              · have := hbq5.2.2.1; omega
          · show Ev X _ _ 184 [Vr 166, Vi 0, Vi ((30 * (j : Int)) + (n : Int))] [] ((SHv st dr rd), (ovl a s bq4)) _
            refine Ev.steps (k := 5) (pc' := 193) (L' := [Vr 166, Vi 0, Vi ((30 * (j : Int)) + (n : Int))]) (S' := [Vi (bq4 166 38), Vi ((30 * (j : Int)) + (n : Int)), Vr 189]) (h' := ((SHv st dr rd), (ovl a s bq4))) (fun _ => rfl) ?_
            refine Ev.iast (c' := (ovl a s (updC bq4 189 ((30 * j + n)) (bq4 166 38)))) rfl (by decide) rfl (by omega) (by omega) (ovl_wm (by decide)) ?_
            refine Ev.call (k := 2) (pc1 := 196) (L1 := [Vr 166, Vi 0, Vi ((30 * (j : Int)) + (n : Int))]) (S1 := [Vi 1, Vr 166]) (h1 := ((SHv st dr rd), (ovl a s (updC bq4 189 ((30 * j + n)) (bq4 166 38))))) (m' := 169) (as := [Vr 166, Vi 1]) (S' := []) (L0 := [Vr 166, Vi 1, Vx]) (fun _ => rfl) rfl rfl rfl rfl rfl rfl (m_reads_br (b := (updC bq4 189 ((30 * j + n)) (bq4 166 38))) (hbq4.2.2.up (by omega)) 1) (fun r h' hq => ?_)
            obtain ⟨rfl, rfl⟩ := hq
            show Ev X _ _ 199 [Vr 166, Vi 0, Vi ((30 * (j : Int)) + (n : Int))] [] ((SHv st dr rd), (ovl a s (updC bq4 189 ((30 * j + n)) (bq4 166 38)))) _
            refine Ev.steps (k := 5) (pc' := 208) (L' := [Vr 166, Vi 0, Vi ((30 * (j : Int)) + (n : Int))]) (S' := [Vi (bq4 166 38), Vi ((30 * (j : Int)) + (n : Int)), Vr 190]) (h' := ((SHv st dr rd), (ovl a s (updC bq4 189 ((30 * j + n)) (bq4 166 38))))) (fun _ => rfl) ?_
            refine Ev.iast (c' := (ovl a s (updC (updC bq4 189 ((30 * j + n)) (bq4 166 38)) 190 ((30 * j + n)) (bq4 166 38)))) rfl (by decide) rfl (by omega) (by omega) (ovl_wm (by decide)) ?_
            refine Ev.steps (k := 2) (pc' := 213) (L' := [Vr 166, Vi 0, Vi ((30 * (j : Int)) + (n : Int))]) (S' := [Vi (bq4 166 8)]) (h' := ((SHv st dr rd), (ovl a s (updC (updC bq4 189 ((30 * j + n)) (bq4 166 38)) 190 ((30 * j + n)) (bq4 166 38))))) (fun _ => rfl) ?_
            rw [hbq4.2.2.2.1]
            refine Ev.ite (P := eq4.1 ≠ 0) (k := 1) (a := 229) (b := 216) (L' := [Vr 166, Vi 0, Vi ((30 * (j : Int)) + (n : Int))]) (S' := []) (h' := ((SHv st dr rd), (ovl a s (updC (updC bq4 189 ((30 * j + n)) (bq4 166 38)) 190 ((30 * j + n)) (bq4 166 38))))) (fun _ => rfl) (fun b213 => ?_) (fun b213 => ?_)
            · refine Ev.fin (k := 1) (r := none) (h' := ((SHv st dr rd), (ovl a s (updC (updC bq4 189 ((30 * j + n)) (bq4 166 38)) 190 ((30 * j + n)) (bq4 166 38))))) (fun _ => rfl) ?_
              refine ⟨rfl, _, rfl, Or.inr ⟨eq4, ?_, ⟨((((((((((((((FrP.rf : FrP (chLc j n c) b b).fn hoq1.1).up (by omega)).fn hoq2.1).up (by omega)).up (by omega)).fn hoq3.1).up (by omega)).up (by omega)).up (by omega)).fn hbq4.1).up (by omega)).up (by omega))).mo hP, ((hbq4.2.1.up (by omega)).up (by omega)), ((hbq4.2.2.up (by omega)).up (by omega))⟩⟩⟩
              rw [if_neg (by omega), rul_k0 hct]
              unfold rulL0
              rw [hxq1, bnX_o, hxq2, bnX_o, hxq3, bnX_o, hxq4, bnX_e]
            · have := hbq4.2.2.1; omega
        · show Ev X _ _ 86 [Vr 166, Vi 0, Vi ((30 * (j : Int)) + (n : Int))] [Vi vq3, Vi ((30 * (j : Int)) + (n : Int)), Vr 186] ((SHv st dr rd), (ovl a s bq3)) _
          refine Ev.iast (c' := (ovl a s (updC bq3 186 ((30 * j + n)) vq3))) rfl (by decide) rfl (by omega) (by omega) (ovl_wm (by decide)) ?_
          refine Ev.steps (k := 18) (pc' := 155) (L' := [Vr 166, Vi 0, Vi ((30 * (j : Int)) + (n : Int))]) (S' := [Vi ((30 * (j : Int)) + (n : Int)), Vr 186, Vi ((30 * (j : Int)) + (n : Int)), Vr 187]) (h' := ((SHv st dr rd), (ovl a s (updC bq3 186 ((30 * j + n)) vq3)))) (fun _ => rfl) ?_
          refine Ev.iald (v := vq3) rfl (by decide) rfl (by omega) (by omega) (show (updC bq3 186 ((30 * j + n)) vq3) 186 ((30 * j + n)) = vq3 by rw [updC_sm]) ?_
          refine Ev.iast (c' := (ovl a s (updC (updC bq3 186 ((30 * j + n)) vq3) 187 ((30 * j + n)) vq3))) rfl (by decide) rfl (by omega) (by omega) (ovl_wm (by decide)) ?_
          refine Ev.steps (k := 5) (pc' := 166) (L' := [Vr 166, Vi 0, Vi ((30 * (j : Int)) + (n : Int))]) (S' := [Vi (bq3 166 38), Vi ((30 * (j : Int)) + (n : Int)), Vr 188]) (h' := ((SHv st dr rd), (ovl a s (updC (updC bq3 186 ((30 * j + n)) vq3) 187 ((30 * j + n)) vq3)))) (fun _ => rfl) ?_
          refine Ev.iast (c' := (ovl a s (updC (updC (updC bq3 186 ((30 * j + n)) vq3) 187 ((30 * j + n)) vq3) 188 ((30 * j + n)) (bq3 166 38)))) rfl (by decide) rfl (by omega) (by omega) (ovl_wm (by decide)) ?_
          refine Ev.call (k := 5) (pc1 := 181) (L1 := [Vr 166, Vi 0, Vi ((30 * (j : Int)) + (n : Int))]) (S1 := [Vl 2003330414, Vr 166]) (h1 := ((SHv st dr rd), (ovl a s (updC (updC (updC bq3 186 ((30 * j + n)) vq3) 187 ((30 * j + n)) vq3) 188 ((30 * j + n)) (bq3 166 38))))) (m' := 181) (as := [Vr 166, Vl 2003330414]) (S' := []) (L0 := [Vr 166, Vl 2003330414, Vx]) (fun _ => rfl) rfl rfl rfl rfl rfl rfl (m_mustW_br (b := (updC (updC (updC bq3 186 ((30 * j + n)) vq3) 187 ((30 * j + n)) vq3) 188 ((30 * j + n)) (bq3 166 38))) (((hbq3.2.2.up (by omega)).up (by omega)).up (by omega)) 2003330414) (fun r h' hq => ?_)
          obtain ⟨rfl, rfl⟩ := hq
          show Ev X _ _ 184 [Vr 166, Vi 0, Vi ((30 * (j : Int)) + (n : Int))] [] ((SHv st dr rd), (ovl a s (updC (updC (updC bq3 186 ((30 * j + n)) vq3) 187 ((30 * j + n)) vq3) 188 ((30 * j + n)) (bq3 166 38)))) _
          refine Ev.steps (k := 5) (pc' := 193) (L' := [Vr 166, Vi 0, Vi ((30 * (j : Int)) + (n : Int))]) (S' := [Vi (bq3 166 38), Vi ((30 * (j : Int)) + (n : Int)), Vr 189]) (h' := ((SHv st dr rd), (ovl a s (updC (updC (updC bq3 186 ((30 * j + n)) vq3) 187 ((30 * j + n)) vq3) 188 ((30 * j + n)) (bq3 166 38))))) (fun _ => rfl) ?_
          refine Ev.iast (c' := (ovl a s (updC (updC (updC (updC bq3 186 ((30 * j + n)) vq3) 187 ((30 * j + n)) vq3) 188 ((30 * j + n)) (bq3 166 38)) 189 ((30 * j + n)) (bq3 166 38)))) rfl (by decide) rfl (by omega) (by omega) (ovl_wm (by decide)) ?_
          refine Ev.call (k := 2) (pc1 := 196) (L1 := [Vr 166, Vi 0, Vi ((30 * (j : Int)) + (n : Int))]) (S1 := [Vi 1, Vr 166]) (h1 := ((SHv st dr rd), (ovl a s (updC (updC (updC (updC bq3 186 ((30 * j + n)) vq3) 187 ((30 * j + n)) vq3) 188 ((30 * j + n)) (bq3 166 38)) 189 ((30 * j + n)) (bq3 166 38))))) (m' := 169) (as := [Vr 166, Vi 1]) (S' := []) (L0 := [Vr 166, Vi 1, Vx]) (fun _ => rfl) rfl rfl rfl rfl rfl rfl (m_reads_br (b := (updC (updC (updC (updC bq3 186 ((30 * j + n)) vq3) 187 ((30 * j + n)) vq3) 188 ((30 * j + n)) (bq3 166 38)) 189 ((30 * j + n)) (bq3 166 38))) ((((hbq3.2.2.up (by omega)).up (by omega)).up (by omega)).up (by omega)) 1) (fun r h' hq => ?_)
          obtain ⟨rfl, rfl⟩ := hq
          show Ev X _ _ 199 [Vr 166, Vi 0, Vi ((30 * (j : Int)) + (n : Int))] [] ((SHv st dr rd), (ovl a s (updC (updC (updC (updC bq3 186 ((30 * j + n)) vq3) 187 ((30 * j + n)) vq3) 188 ((30 * j + n)) (bq3 166 38)) 189 ((30 * j + n)) (bq3 166 38)))) _
          refine Ev.steps (k := 5) (pc' := 208) (L' := [Vr 166, Vi 0, Vi ((30 * (j : Int)) + (n : Int))]) (S' := [Vi (bq3 166 38), Vi ((30 * (j : Int)) + (n : Int)), Vr 190]) (h' := ((SHv st dr rd), (ovl a s (updC (updC (updC (updC bq3 186 ((30 * j + n)) vq3) 187 ((30 * j + n)) vq3) 188 ((30 * j + n)) (bq3 166 38)) 189 ((30 * j + n)) (bq3 166 38))))) (fun _ => rfl) ?_
          refine Ev.iast (c' := (ovl a s (updC (updC (updC (updC (updC bq3 186 ((30 * j + n)) vq3) 187 ((30 * j + n)) vq3) 188 ((30 * j + n)) (bq3 166 38)) 189 ((30 * j + n)) (bq3 166 38)) 190 ((30 * j + n)) (bq3 166 38)))) rfl (by decide) rfl (by omega) (by omega) (ovl_wm (by decide)) ?_
          refine Ev.steps (k := 2) (pc' := 213) (L' := [Vr 166, Vi 0, Vi ((30 * (j : Int)) + (n : Int))]) (S' := [Vi (bq3 166 8)]) (h' := ((SHv st dr rd), (ovl a s (updC (updC (updC (updC (updC bq3 186 ((30 * j + n)) vq3) 187 ((30 * j + n)) vq3) 188 ((30 * j + n)) (bq3 166 38)) 189 ((30 * j + n)) (bq3 166 38)) 190 ((30 * j + n)) (bq3 166 38))))) (fun _ => rfl) ?_
          rw [hbq3.2.2.2.1]
          refine Ev.ite (P := eq3.1 ≠ 0) (k := 1) (a := 229) (b := 216) (L' := [Vr 166, Vi 0, Vi ((30 * (j : Int)) + (n : Int))]) (S' := []) (h' := ((SHv st dr rd), (ovl a s (updC (updC (updC (updC (updC bq3 186 ((30 * j + n)) vq3) 187 ((30 * j + n)) vq3) 188 ((30 * j + n)) (bq3 166 38)) 189 ((30 * j + n)) (bq3 166 38)) 190 ((30 * j + n)) (bq3 166 38))))) (fun _ => rfl) (fun b213 => ?_) (fun b213 => ?_)
          · refine Ev.fin (k := 1) (r := none) (h' := ((SHv st dr rd), (ovl a s (updC (updC (updC (updC (updC bq3 186 ((30 * j + n)) vq3) 187 ((30 * j + n)) vq3) 188 ((30 * j + n)) (bq3 166 38)) 189 ((30 * j + n)) (bq3 166 38)) 190 ((30 * j + n)) (bq3 166 38))))) (fun _ => rfl) ?_
            refine ⟨rfl, _, rfl, Or.inr ⟨eq3, ?_, ⟨(((((((((((((FrP.rf : FrP (chLc j n c) b b).fn hoq1.1).up (by omega)).fn hoq2.1).up (by omega)).up (by omega)).fn hbq3.1).up (by omega)).up (by omega)).up (by omega)).up (by omega)).up (by omega))).mo hP, (((((hbq3.2.1.up (by omega)).up (by omega)).up (by omega)).up (by omega)).up (by omega)), (((((hbq3.2.2.up (by omega)).up (by omega)).up (by omega)).up (by omega)).up (by omega))⟩⟩⟩
            rw [if_neg (by omega), rul_k0 hct]
            unfold rulL0
            rw [hxq1, bnX_o, hxq2, bnX_o, hxq3, bnX_e]
          · have := hbq3.2.2.1; omega
      · show Ev X _ _ 63 [Vr 166, Vi 0, Vi ((30 * (j : Int)) + (n : Int))] [Vi vq2, Vi ((30 * (j : Int)) + (n : Int)), Vr 185] ((SHv st dr rd), (ovl a s bq2)) _
        refine Ev.iast (c' := (ovl a s (updC bq2 185 ((30 * j + n)) vq2))) rfl (by decide) rfl (by omega) (by omega) (ovl_wm (by decide)) ?_
        refine Ev.steps (k := 4) (pc' := 70) (L' := [Vr 166, Vi 0, Vi ((30 * (j : Int)) + (n : Int))]) (S' := [Vi (-1), Vi ((30 * (j : Int)) + (n : Int)), Vr 186]) (h' := ((SHv st dr rd), (ovl a s (updC bq2 185 ((30 * j + n)) vq2)))) (fun _ => rfl) ?_
        refine Ev.iast (c' := (ovl a s (updC (updC bq2 185 ((30 * j + n)) vq2) 186 ((30 * j + n)) (-1)))) rfl (by decide) rfl (by omega) (by omega) (ovl_wm (by decide)) ?_
        refine Ev.call (k := 8) (pc1 := 83) (L1 := [Vr 166, Vi 0, Vi ((30 * (j : Int)) + (n : Int))]) (S1 := [Vi (-1), Vi 0, Vr 166, Vi ((30 * (j : Int)) + (n : Int)), Vr 186]) (h1 := ((SHv st dr rd), (ovl a s (updC (updC bq2 185 ((30 * j + n)) vq2) 186 ((30 * j + n)) (-1))))) (m' := 165) (as := [Vr 166, Vi 0, Vi (-1)]) (S' := [Vi ((30 * (j : Int)) + (n : Int)), Vr 186]) (L0 := [Vr 166, Vi 0, Vi (-1), Vx]) (fun _ => rfl) rfl rfl rfl rfl rfl rfl (m_asked_br (b := (updC (updC bq2 185 ((30 * j + n)) vq2) 186 ((30 * j + n)) (-1))) ((hbq2.2.2.up (by omega)).up (by omega)) 0 (-1)) (fun r h' hq => ?_)
        obtain ⟨rfl, rfl⟩ := hq
        show Ev X _ _ 86 [Vr 166, Vi 0, Vi ((30 * (j : Int)) + (n : Int))] [Vi 0, Vi ((30 * (j : Int)) + (n : Int)), Vr 186] ((SHv st dr rd), (ovl a s (updC (updC bq2 185 ((30 * j + n)) vq2) 186 ((30 * j + n)) (-1)))) _
        refine Ev.iast (c' := (ovl a s (updC (updC (updC bq2 185 ((30 * j + n)) vq2) 186 ((30 * j + n)) (-1)) 186 ((30 * j + n)) 0))) rfl (by decide) rfl (by omega) (by omega) (ovl_wm (by decide)) ?_
        refine Ev.steps (k := 18) (pc' := 155) (L' := [Vr 166, Vi 0, Vi ((30 * (j : Int)) + (n : Int))]) (S' := [Vi ((30 * (j : Int)) + (n : Int)), Vr 186, Vi ((30 * (j : Int)) + (n : Int)), Vr 187]) (h' := ((SHv st dr rd), (ovl a s (updC (updC (updC bq2 185 ((30 * j + n)) vq2) 186 ((30 * j + n)) (-1)) 186 ((30 * j + n)) 0)))) (fun _ => rfl) ?_
        refine Ev.iald (v := 0) rfl (by decide) rfl (by omega) (by omega) (show (updC (updC (updC bq2 185 ((30 * j + n)) vq2) 186 ((30 * j + n)) (-1)) 186 ((30 * j + n)) 0) 186 ((30 * j + n)) = 0 by rw [updC_sm]) ?_
        refine Ev.iast (c' := (ovl a s (updC (updC (updC (updC bq2 185 ((30 * j + n)) vq2) 186 ((30 * j + n)) (-1)) 186 ((30 * j + n)) 0) 187 ((30 * j + n)) 0))) rfl (by decide) rfl (by omega) (by omega) (ovl_wm (by decide)) ?_
        refine Ev.steps (k := 5) (pc' := 166) (L' := [Vr 166, Vi 0, Vi ((30 * (j : Int)) + (n : Int))]) (S' := [Vi (bq2 166 38), Vi ((30 * (j : Int)) + (n : Int)), Vr 188]) (h' := ((SHv st dr rd), (ovl a s (updC (updC (updC (updC bq2 185 ((30 * j + n)) vq2) 186 ((30 * j + n)) (-1)) 186 ((30 * j + n)) 0) 187 ((30 * j + n)) 0)))) (fun _ => rfl) ?_
        refine Ev.iast (c' := (ovl a s (updC (updC (updC (updC (updC bq2 185 ((30 * j + n)) vq2) 186 ((30 * j + n)) (-1)) 186 ((30 * j + n)) 0) 187 ((30 * j + n)) 0) 188 ((30 * j + n)) (bq2 166 38)))) rfl (by decide) rfl (by omega) (by omega) (ovl_wm (by decide)) ?_
        refine Ev.call (k := 5) (pc1 := 181) (L1 := [Vr 166, Vi 0, Vi ((30 * (j : Int)) + (n : Int))]) (S1 := [Vl 2003330414, Vr 166]) (h1 := ((SHv st dr rd), (ovl a s (updC (updC (updC (updC (updC bq2 185 ((30 * j + n)) vq2) 186 ((30 * j + n)) (-1)) 186 ((30 * j + n)) 0) 187 ((30 * j + n)) 0) 188 ((30 * j + n)) (bq2 166 38))))) (m' := 181) (as := [Vr 166, Vl 2003330414]) (S' := []) (L0 := [Vr 166, Vl 2003330414, Vx]) (fun _ => rfl) rfl rfl rfl rfl rfl rfl (m_mustW_br (b := (updC (updC (updC (updC (updC bq2 185 ((30 * j + n)) vq2) 186 ((30 * j + n)) (-1)) 186 ((30 * j + n)) 0) 187 ((30 * j + n)) 0) 188 ((30 * j + n)) (bq2 166 38))) (((((hbq2.2.2.up (by omega)).up (by omega)).up (by omega)).up (by omega)).up (by omega)) 2003330414) (fun r h' hq => ?_)
        obtain ⟨rfl, rfl⟩ := hq
        show Ev X _ _ 184 [Vr 166, Vi 0, Vi ((30 * (j : Int)) + (n : Int))] [] ((SHv st dr rd), (ovl a s (updC (updC (updC (updC (updC bq2 185 ((30 * j + n)) vq2) 186 ((30 * j + n)) (-1)) 186 ((30 * j + n)) 0) 187 ((30 * j + n)) 0) 188 ((30 * j + n)) (bq2 166 38)))) _
        refine Ev.steps (k := 5) (pc' := 193) (L' := [Vr 166, Vi 0, Vi ((30 * (j : Int)) + (n : Int))]) (S' := [Vi (bq2 166 38), Vi ((30 * (j : Int)) + (n : Int)), Vr 189]) (h' := ((SHv st dr rd), (ovl a s (updC (updC (updC (updC (updC bq2 185 ((30 * j + n)) vq2) 186 ((30 * j + n)) (-1)) 186 ((30 * j + n)) 0) 187 ((30 * j + n)) 0) 188 ((30 * j + n)) (bq2 166 38))))) (fun _ => rfl) ?_
        refine Ev.iast (c' := (ovl a s (updC (updC (updC (updC (updC (updC bq2 185 ((30 * j + n)) vq2) 186 ((30 * j + n)) (-1)) 186 ((30 * j + n)) 0) 187 ((30 * j + n)) 0) 188 ((30 * j + n)) (bq2 166 38)) 189 ((30 * j + n)) (bq2 166 38)))) rfl (by decide) rfl (by omega) (by omega) (ovl_wm (by decide)) ?_
        refine Ev.call (k := 2) (pc1 := 196) (L1 := [Vr 166, Vi 0, Vi ((30 * (j : Int)) + (n : Int))]) (S1 := [Vi 1, Vr 166]) (h1 := ((SHv st dr rd), (ovl a s (updC (updC (updC (updC (updC (updC bq2 185 ((30 * j + n)) vq2) 186 ((30 * j + n)) (-1)) 186 ((30 * j + n)) 0) 187 ((30 * j + n)) 0) 188 ((30 * j + n)) (bq2 166 38)) 189 ((30 * j + n)) (bq2 166 38))))) (m' := 169) (as := [Vr 166, Vi 1]) (S' := []) (L0 := [Vr 166, Vi 1, Vx]) (fun _ => rfl) rfl rfl rfl rfl rfl rfl (m_reads_br (b := (updC (updC (updC (updC (updC (updC bq2 185 ((30 * j + n)) vq2) 186 ((30 * j + n)) (-1)) 186 ((30 * j + n)) 0) 187 ((30 * j + n)) 0) 188 ((30 * j + n)) (bq2 166 38)) 189 ((30 * j + n)) (bq2 166 38))) ((((((hbq2.2.2.up (by omega)).up (by omega)).up (by omega)).up (by omega)).up (by omega)).up (by omega)) 1) (fun r h' hq => ?_)
        obtain ⟨rfl, rfl⟩ := hq
        show Ev X _ _ 199 [Vr 166, Vi 0, Vi ((30 * (j : Int)) + (n : Int))] [] ((SHv st dr rd), (ovl a s (updC (updC (updC (updC (updC (updC bq2 185 ((30 * j + n)) vq2) 186 ((30 * j + n)) (-1)) 186 ((30 * j + n)) 0) 187 ((30 * j + n)) 0) 188 ((30 * j + n)) (bq2 166 38)) 189 ((30 * j + n)) (bq2 166 38)))) _
        refine Ev.steps (k := 5) (pc' := 208) (L' := [Vr 166, Vi 0, Vi ((30 * (j : Int)) + (n : Int))]) (S' := [Vi (bq2 166 38), Vi ((30 * (j : Int)) + (n : Int)), Vr 190]) (h' := ((SHv st dr rd), (ovl a s (updC (updC (updC (updC (updC (updC bq2 185 ((30 * j + n)) vq2) 186 ((30 * j + n)) (-1)) 186 ((30 * j + n)) 0) 187 ((30 * j + n)) 0) 188 ((30 * j + n)) (bq2 166 38)) 189 ((30 * j + n)) (bq2 166 38))))) (fun _ => rfl) ?_
        refine Ev.iast (c' := (ovl a s (updC (updC (updC (updC (updC (updC (updC bq2 185 ((30 * j + n)) vq2) 186 ((30 * j + n)) (-1)) 186 ((30 * j + n)) 0) 187 ((30 * j + n)) 0) 188 ((30 * j + n)) (bq2 166 38)) 189 ((30 * j + n)) (bq2 166 38)) 190 ((30 * j + n)) (bq2 166 38)))) rfl (by decide) rfl (by omega) (by omega) (ovl_wm (by decide)) ?_
        refine Ev.steps (k := 2) (pc' := 213) (L' := [Vr 166, Vi 0, Vi ((30 * (j : Int)) + (n : Int))]) (S' := [Vi (bq2 166 8)]) (h' := ((SHv st dr rd), (ovl a s (updC (updC (updC (updC (updC (updC (updC bq2 185 ((30 * j + n)) vq2) 186 ((30 * j + n)) (-1)) 186 ((30 * j + n)) 0) 187 ((30 * j + n)) 0) 188 ((30 * j + n)) (bq2 166 38)) 189 ((30 * j + n)) (bq2 166 38)) 190 ((30 * j + n)) (bq2 166 38))))) (fun _ => rfl) ?_
        rw [hbq2.2.2.2.1]
        refine Ev.ite (P := eq2.1 ≠ 0) (k := 1) (a := 229) (b := 216) (L' := [Vr 166, Vi 0, Vi ((30 * (j : Int)) + (n : Int))]) (S' := []) (h' := ((SHv st dr rd), (ovl a s (updC (updC (updC (updC (updC (updC (updC bq2 185 ((30 * j + n)) vq2) 186 ((30 * j + n)) (-1)) 186 ((30 * j + n)) 0) 187 ((30 * j + n)) 0) 188 ((30 * j + n)) (bq2 166 38)) 189 ((30 * j + n)) (bq2 166 38)) 190 ((30 * j + n)) (bq2 166 38))))) (fun _ => rfl) (fun b213 => ?_) (fun b213 => ?_)
        · refine Ev.fin (k := 1) (r := none) (h' := ((SHv st dr rd), (ovl a s (updC (updC (updC (updC (updC (updC (updC bq2 185 ((30 * j + n)) vq2) 186 ((30 * j + n)) (-1)) 186 ((30 * j + n)) 0) 187 ((30 * j + n)) 0) 188 ((30 * j + n)) (bq2 166 38)) 189 ((30 * j + n)) (bq2 166 38)) 190 ((30 * j + n)) (bq2 166 38))))) (fun _ => rfl) ?_
          refine ⟨rfl, _, rfl, Or.inr ⟨eq2, ?_, ⟨((((((((((((FrP.rf : FrP (chLc j n c) b b).fn hoq1.1).up (by omega)).fn hbq2.1).up (by omega)).up (by omega)).up (by omega)).up (by omega)).up (by omega)).up (by omega)).up (by omega))).mo hP, (((((((hbq2.2.1.up (by omega)).up (by omega)).up (by omega)).up (by omega)).up (by omega)).up (by omega)).up (by omega)), (((((((hbq2.2.2.up (by omega)).up (by omega)).up (by omega)).up (by omega)).up (by omega)).up (by omega)).up (by omega))⟩⟩⟩
          rw [if_neg (by omega), rul_k0 hct]
          unfold rulL0
          rw [hxq1, bnX_o, hxq2, bnX_e]
        · have := hbq2.2.2.1; omega
    · show Ev X _ _ 23 [Vr 166, Vi 0, Vx] [Vi 0] ((SHv st dr rd), (ovl a s bq1)) _
      refine Ev.fin (k := 2) (r := none) (h' := ((SHv st dr rd), (ovl a s bq1))) (fun _ => rfl) ?_
      refine ⟨rfl, _, rfl, Or.inr ⟨eq1, ?_, ⟨(((FrP.rf : FrP (chLc j n c) b b).fn hbq1.1)).mo hP, hbq1.2.1, hbq1.2.2⟩⟩⟩
      rw [if_neg (by omega), rul_k0 hct]
      unfold rulL0
      rw [hxq1, bnX_e]
  · refine Ev.call (k := 2) (pc1 := 20) (L1 := [Vr 166, Vi 0, Vx]) (S1 := [Vi 1, Vr 166]) (h1 := ((SHv st dr rd), (ovl a s b))) (m' := 164) (as := [Vr 166, Vi 1]) (S' := []) (L0 := [Vr 166, Vi 1]) (fun _ => rfl) rfl rfl rfl rfl rfl rfl (m_counts1 (b := b) hk) (fun r h' hq => ?_)
    obtain ⟨rfl, bq12, rfl, hbq12⟩ := hq
    show Ev X _ _ 23 [Vr 166, Vi 0, Vx] [Vi 0] ((SHv st dr rd), (ovl a s bq12)) _
    refine Ev.fin (k := 2) (r := none) (h' := ((SHv st dr rd), (ovl a s bq12))) (fun _ => rfl) ?_
    refine ⟨rfl, _, rfl, Or.inr ⟨(fltT W 5 p), if_pos (by omega), (FrP.rf : FrJ j b b).fn hbq12.1, hbq12.2⟩⟩
theorem m_rule1 {X : List Int} {d : Nat} {st dr rd : Int} {a s b : C3} {W : TXT} {p : Nat} (hk : TkM W p b) {S : STY} (hW : WfY S) {j c n : Nat} (hR : RqM S b j c) (hcp : c ≤ p) (hn : S.1 0 4 = (n : Int)) (hcn : b 173 j = (n : Int)) (hmx : n ≤ 30) (hct : tC W p = 263) : Ev X (d + 6) 163 0 [Vr 166, Vi 1, Vx] [] (SHv st dr rd, ovl a s b) (fun rr hh => rr = none ∧ ∃ b' : C3, hh = (SHv st dr rd, ovl a s b') ∧ ResC (if (30 : Int) ≤ S.1 0 4 then Except.error (fltT W 5 p) else rulT W S p) (fun r => TkM W r.2 b' ∧ (∃ c', RqM r.1 b' j c' ∧ c' ≤ r.2) ∧ FrJ j b b') (fun e => BjM W j b e b')) := by
  have hN := hR.nm hW
  have hj := hN.1
  have hT := hk.1.1
  have hT1 := hT.1
  have hNf : WfN S := ⟨hW.1.1, hW.2.2.1.1, hW.2.2.2.1.1⟩
  have hnn : nL S = n := by show (S.1 0 4).toNat = n; rw [hn]; exact Int.toNat_natCast n
  refine Ev.steps (k := 5) (pc' := 9) (L' := [Vr 166, Vi 1, Vx]) (S' := [Vi (b 166 39), Vr 173, Vr 166]) (h' := ((SHv st dr rd), (ovl a s b))) (fun _ => rfl) ?_
  rw [hR.1.2.1]
  refine Ev.iald (v := (n : Int)) rfl (by decide) rfl (by omega) (by omega) (hcn) ?_
  refine Ev.ite (P := (n : Int) ≠ 30) (k := 2) (a := 19) (b := 15) (L' := [Vr 166, Vi 1, Vx]) (S' := [Vr 166]) (h' := ((SHv st dr rd), (ovl a s b))) (fun _ => rfl) (fun b12 => ?_) (fun b12 => ?_)
  · have hn8 : n < 30 := by omega
    have hP : ∀ o i, chLc j n c o i → fjM j o i := fun o i h => by unfold fjM; omega
    refine Ev.call (k := 1) (pc1 := 20) (L1 := [Vr 166, Vi 1, Vx]) (S1 := [Vi 0, Vr 166]) (h1 := ((SHv st dr rd), (ovl a s b))) (m' := 164) (as := [Vr 166, Vi 0]) (S' := []) (L0 := [Vr 166, Vi 0]) (fun _ => rfl) rfl rfl rfl rfl rfl rfl (m_counts0 (b := b) hk) (fun r h' hq => ?_)
    obtain ⟨bq13, rfl, hq⟩ := hq
    rcases hq with ⟨pq13, hxq13, rfl, hoq13⟩ | ⟨eq13, hxq13, rfl, hbq13⟩
    · have mq13 : p ≤ pq13 := by have h1 := (got_ok hxq13).1; have h2 := tok_rg (W := W) (p := p) (hk).2.2.2.2.2.2.1 hT; omega
      show Ev X _ _ 23 [Vr 166, Vi 1, Vx] [Vi 1] ((SHv st dr rd), (ovl a s bq13)) _
      refine Ev.steps (k := 4) (pc' := 33) (L' := [Vr 166, Vi 1, Vx]) (S' := [Vi (bq13 166 39), Vi 30]) (h' := ((SHv st dr rd), (ovl a s bq13))) (fun _ => rfl) ?_
      rw [((hoq13.1 166 39 (by omega)).trans hR.1.2.1)]
      refine Ev.steps (k := 1) (pc' := 34) (L' := [Vr 166, Vi 1, Vx]) (S' := [Vi (w32 (30 * (j : Int)))]) (h' := ((SHv st dr rd), (ovl a s bq13))) (fun _ => rfl) ?_
      rw [show (w32 (30 * (j : Int))) = (30 * (j : Int)) from w32_id (by unfold R32; omega)]
      refine Ev.steps (k := 4) (pc' := 42) (L' := [Vr 166, Vi 1, Vx]) (S' := [Vi (bq13 166 39), Vr 173, Vi (30 * (j : Int))]) (h' := ((SHv st dr rd), (ovl a s bq13))) (fun _ => rfl) ?_
      rw [((hoq13.1 166 39 (by omega)).trans hR.1.2.1)]
      refine Ev.iald (v := (n : Int)) rfl (by decide) rfl (by omega) (by omega) (((hoq13.1 173 j (by omega)).trans hcn)) ?_
      refine Ev.steps (k := 1) (pc' := 44) (L' := [Vr 166, Vi 1, Vx]) (S' := [Vi (w32 ((30 * (j : Int)) + (n : Int)))]) (h' := ((SHv st dr rd), (ovl a s bq13))) (fun _ => rfl) ?_
      rw [show (w32 ((30 * (j : Int)) + (n : Int))) = ((30 * (j : Int)) + (n : Int)) from w32_id (by unfold R32; omega)]
      refine Ev.steps (k := 5) (pc' := 51) (L' := [Vr 166, Vi 1, Vi ((30 * (j : Int)) + (n : Int))]) (S' := [Vi 1, Vi ((30 * (j : Int)) + (n : Int)), Vr 184]) (h' := ((SHv st dr rd), (ovl a s bq13))) (fun _ => rfl) ?_
      refine Ev.iast (c' := (ovl a s (updC bq13 184 ((30 * j + n)) 1))) rfl (by decide) rfl (by omega) (by omega) (ovl_wm (by decide)) ?_
      refine Ev.call (k := 6) (pc1 := 60) (L1 := [Vr 166, Vi 1, Vi ((30 * (j : Int)) + (n : Int))]) (S1 := [Vi (-1), Vi 1, Vr 166, Vi ((30 * (j : Int)) + (n : Int)), Vr 185]) (h1 := ((SHv st dr rd), (ovl a s (updC bq13 184 ((30 * j + n)) 1)))) (m' := 165) (as := [Vr 166, Vi 1, Vi (-1)]) (S' := [Vi ((30 * (j : Int)) + (n : Int)), Vr 185]) (L0 := [Vr 166, Vi 1, Vi (-1), Vx]) (fun _ => rfl) rfl rfl rfl rfl rfl rfl (m_asked_1 (b := (updC bq13 184 ((30 * j + n)) 1)) (hoq13.2.up (by omega)) ((hN.fr hoq13.1).up (by omega) (by omega) (by omega) (by omega) (by omega)) (-1)) (fun r h' hq => ?_)
      obtain ⟨bq14, rfl, hq⟩ := hq
      rcases hq with ⟨rq14, hxq14, rfl, hoq14⟩ | ⟨eq14, hxq14, ⟨vq14, rfl, wq14⟩, hbq14⟩
      · have lq14 := (ask_ok hxq14).2.2.1
        have nq14 := (hN.2.2 1 (by decide)).1
        have mq14 : pq13 ≤ rq14.2 := by have h1 := (ask_ok hxq14).2.2.2.2.1; have h2 := tok_rg (W := W) (p := pq13) (hoq13.2).2.2.2.2.2.2.1 hT; omega
        show Ev X _ _ 63 [Vr 166, Vi 1, Vi ((30 * (j : Int)) + (n : Int))] [Vi ((rq14.1 : Nat) : Int), Vi ((30 * (j : Int)) + (n : Int)), Vr 185] ((SHv st dr rd), (ovl a s bq14)) _
        refine Ev.iast (c' := (ovl a s (updC bq14 185 ((30 * j + n)) ((rq14.1 : Nat) : Int)))) rfl (by decide) rfl (by omega) (by omega) (ovl_wm (by decide)) ?_
        refine Ev.steps (k := 4) (pc' := 70) (L' := [Vr 166, Vi 1, Vi ((30 * (j : Int)) + (n : Int))]) (S' := [Vi (-1), Vi ((30 * (j : Int)) + (n : Int)), Vr 186]) (h' := ((SHv st dr rd), (ovl a s (updC bq14 185 ((30 * j + n)) ((rq14.1 : Nat) : Int))))) (fun _ => rfl) ?_
        refine Ev.iast (c' := (ovl a s (updC (updC bq14 185 ((30 * j + n)) ((rq14.1 : Nat) : Int)) 186 ((30 * j + n)) (-1)))) rfl (by decide) rfl (by omega) (by omega) (ovl_wm (by decide)) ?_
        refine Ev.call (k := 11) (pc1 := 105) (L1 := [Vr 166, Vi 1, Vi ((30 * (j : Int)) + (n : Int))]) (S1 := [Vi (-1), Vi 2, Vr 166, Vi ((30 * (j : Int)) + (n : Int)), Vr 186]) (h1 := ((SHv st dr rd), (ovl a s (updC (updC bq14 185 ((30 * j + n)) ((rq14.1 : Nat) : Int)) 186 ((30 * j + n)) (-1))))) (m' := 165) (as := [Vr 166, Vi 2, Vi (-1)]) (S' := [Vi ((30 * (j : Int)) + (n : Int)), Vr 186]) (L0 := [Vr 166, Vi 2, Vi (-1), Vx]) (fun _ => rfl) rfl rfl rfl rfl rfl rfl (m_asked_2 (b := (updC (updC bq14 185 ((30 * j + n)) ((rq14.1 : Nat) : Int)) 186 ((30 * j + n)) (-1))) ((hoq14.2.up (by omega)).up (by omega)) (((((hN.fr hoq13.1).up (by omega) (by omega) (by omega) (by omega) (by omega)).fr hoq14.1).up (by omega) (by omega) (by omega) (by omega) (by omega)).up (by omega) (by omega) (by omega) (by omega) (by omega)) (-1)) (fun r h' hq => ?_)
        obtain ⟨bq15, rfl, hq⟩ := hq
        rcases hq with ⟨rq15, hxq15, rfl, hoq15⟩ | ⟨eq15, hxq15, ⟨vq15, rfl, wq15⟩, hbq15⟩
        · have lq15 := (ask_ok hxq15).2.2.1
          have nq15 := (hN.2.2 2 (by decide)).1
          have mq15 : rq14.2 ≤ rq15.2 := by have h1 := (ask_ok hxq15).2.2.2.2.1; have h2 := tok_rg (W := W) (p := rq14.2) (hoq14.2).2.2.2.2.2.2.1 hT; omega
          show Ev X _ _ 108 [Vr 166, Vi 1, Vi ((30 * (j : Int)) + (n : Int))] [Vi ((rq15.1 : Nat) : Int), Vi ((30 * (j : Int)) + (n : Int)), Vr 186] ((SHv st dr rd), (ovl a s bq15)) _
          refine Ev.iast (c' := (ovl a s (updC bq15 186 ((30 * j + n)) ((rq15.1 : Nat) : Int)))) rfl (by decide) rfl (by omega) (by omega) (ovl_wm (by decide)) ?_
          refine Ev.steps (k := 12) (pc' := 155) (L' := [Vr 166, Vi 1, Vi ((30 * (j : Int)) + (n : Int))]) (S' := [Vi ((30 * (j : Int)) + (n : Int)), Vr 186, Vi ((30 * (j : Int)) + (n : Int)), Vr 187]) (h' := ((SHv st dr rd), (ovl a s (updC bq15 186 ((30 * j + n)) ((rq15.1 : Nat) : Int))))) (fun _ => rfl) ?_
          refine Ev.iald (v := ((rq15.1 : Nat) : Int)) rfl (by decide) rfl (by omega) (by omega) (show (updC bq15 186 ((30 * j + n)) ((rq15.1 : Nat) : Int)) 186 ((30 * j + n)) = ((rq15.1 : Nat) : Int) by rw [updC_sm]) ?_
          refine Ev.iast (c' := (ovl a s (updC (updC bq15 186 ((30 * j + n)) ((rq15.1 : Nat) : Int)) 187 ((30 * j + n)) ((rq15.1 : Nat) : Int)))) rfl (by decide) rfl (by omega) (by omega) (ovl_wm (by decide)) ?_
          refine Ev.steps (k := 5) (pc' := 166) (L' := [Vr 166, Vi 1, Vi ((30 * (j : Int)) + (n : Int))]) (S' := [Vi (bq15 166 38), Vi ((30 * (j : Int)) + (n : Int)), Vr 188]) (h' := ((SHv st dr rd), (ovl a s (updC (updC bq15 186 ((30 * j + n)) ((rq15.1 : Nat) : Int)) 187 ((30 * j + n)) ((rq15.1 : Nat) : Int))))) (fun _ => rfl) ?_
          rw [((hoq15.1 166 38 (by omega)).trans ((hoq14.1 166 38 (by omega)).trans ((hoq13.1 166 38 (by omega)).trans hR.1.2.2)))]
          refine Ev.iast (c' := (ovl a s (updC (updC (updC bq15 186 ((30 * j + n)) ((rq15.1 : Nat) : Int)) 187 ((30 * j + n)) ((rq15.1 : Nat) : Int)) 188 ((30 * j + n)) (c : Int)))) rfl (by decide) rfl (by omega) (by omega) (ovl_wm (by decide)) ?_
          refine Ev.call (k := 5) (pc1 := 181) (L1 := [Vr 166, Vi 1, Vi ((30 * (j : Int)) + (n : Int))]) (S1 := [Vl 2003330414, Vr 166]) (h1 := ((SHv st dr rd), (ovl a s (updC (updC (updC bq15 186 ((30 * j + n)) ((rq15.1 : Nat) : Int)) 187 ((30 * j + n)) ((rq15.1 : Nat) : Int)) 188 ((30 * j + n)) (c : Int))))) (m' := 181) (as := [Vr 166, Vl 2003330414]) (S' := []) (L0 := [Vr 166, Vl 2003330414, Vx]) (fun _ => rfl) rfl rfl rfl rfl rfl rfl (m_mustW (b := (updC (updC (updC bq15 186 ((30 * j + n)) ((rq15.1 : Nat) : Int)) 187 ((30 * j + n)) ((rq15.1 : Nat) : Int)) 188 ((30 * j + n)) (c : Int))) (((hoq15.2.up (by omega)).up (by omega)).up (by omega)) 12 (by decide) 2003330414 (by decide)) (fun r h' hq => ?_)
          obtain ⟨rfl, bq16, rfl, hq⟩ := hq
          rcases hq with ⟨pq16, hxq16, hoq16⟩ | ⟨eq16, hxq16, hbq16⟩
          · have mq16 : rq15.2 ≤ pq16 := by have h1 := (exp_ok hxq16).2.1; have h2 := tok_rg (W := W) (p := rq15.2) (hoq15.2).2.2.2.2.2.2.1 hT; omega
            show Ev X _ _ 184 [Vr 166, Vi 1, Vi ((30 * (j : Int)) + (n : Int))] [] ((SHv st dr rd), (ovl a s bq16)) _
            refine Ev.steps (k := 5) (pc' := 193) (L' := [Vr 166, Vi 1, Vi ((30 * (j : Int)) + (n : Int))]) (S' := [Vi (bq16 166 38), Vi ((30 * (j : Int)) + (n : Int)), Vr 189]) (h' := ((SHv st dr rd), (ovl a s bq16))) (fun _ => rfl) ?_
            rw [((hoq16.1 166 38 (by omega)).trans ((hoq15.1 166 38 (by omega)).trans ((hoq14.1 166 38 (by omega)).trans ((hoq13.1 166 38 (by omega)).trans hR.1.2.2))))]
            refine Ev.iast (c' := (ovl a s (updC bq16 189 ((30 * j + n)) (c : Int)))) rfl (by decide) rfl (by omega) (by omega) (ovl_wm (by decide)) ?_
            refine Ev.call (k := 2) (pc1 := 196) (L1 := [Vr 166, Vi 1, Vi ((30 * (j : Int)) + (n : Int))]) (S1 := [Vi 1, Vr 166]) (h1 := ((SHv st dr rd), (ovl a s (updC bq16 189 ((30 * j + n)) (c : Int))))) (m' := 169) (as := [Vr 166, Vi 1]) (S' := []) (L0 := [Vr 166, Vi 1, Vx]) (fun _ => rfl) rfl rfl rfl rfl rfl rfl (m_reads_tst (b := (updC bq16 189 ((30 * j + n)) (c : Int))) (c := c) (hoq16.2.up (by omega)) hNf (((((((((((hN.fr hoq13.1).up (by omega) (by omega) (by omega) (by omega) (by omega)).fr hoq14.1).up (by omega) (by omega) (by omega) (by omega) (by omega)).up (by omega) (by omega) (by omega) (by omega) (by omega)).fr hoq15.1).up (by omega) (by omega) (by omega) (by omega) (by omega)).up (by omega) (by omega) (by omega) (by omega) (by omega)).up (by omega) (by omega) (by omega) (by omega) (by omega)).fr hoq16.1).up (by omega) (by omega) (by omega) (by omega) (by omega)) ((hoq16.1 166 38 (by omega)).trans ((hoq15.1 166 38 (by omega)).trans ((hoq14.1 166 38 (by omega)).trans ((hoq13.1 166 38 (by omega)).trans hR.1.2.2)))) (by omega)) (fun r h' hq => ?_)
            obtain ⟨rfl, bq17, rfl, hq⟩ := hq
            rcases hq with ⟨rq17, hxq17, hrq17⟩ | ⟨eq17, hxq17, hbq17⟩
            · have hleq17 := hrq17.2.2.2.2
              show Ev X _ _ 199 [Vr 166, Vi 1, Vi ((30 * (j : Int)) + (n : Int))] [] ((SHv st dr rd), (ovl a s bq17)) _
              refine Ev.steps (k := 5) (pc' := 208) (L' := [Vr 166, Vi 1, Vi ((30 * (j : Int)) + (n : Int))]) (S' := [Vi (bq17 166 38), Vi ((30 * (j : Int)) + (n : Int)), Vr 190]) (h' := ((SHv st dr rd), (ovl a s bq17))) (fun _ => rfl) ?_
              rw [hrq17.2.2.2.1]
              refine Ev.iast (c' := (ovl a s (updC bq17 190 ((30 * j + n)) (((c + rq17.1.length) : Nat) : Int)))) rfl (by decide) rfl (by omega) (by omega) (ovl_wm (by decide)) ?_
              refine Ev.steps (k := 2) (pc' := 213) (L' := [Vr 166, Vi 1, Vi ((30 * (j : Int)) + (n : Int))]) (S' := [Vi (bq17 166 8)]) (h' := ((SHv st dr rd), (ovl a s (updC bq17 190 ((30 * j + n)) (((c + rq17.1.length) : Nat) : Int))))) (fun _ => rfl) ?_
              rw [hrq17.2.1.2.1]
              refine Ev.steps (k := 5) (pc' := 224) (L' := [Vr 166, Vi 1, Vi ((30 * (j : Int)) + (n : Int))]) (S' := [Vi (bq17 166 39), Vr 173]) (h' := ((SHv st dr rd), (ovl a s (updC bq17 190 ((30 * j + n)) (((c + rq17.1.length) : Nat) : Int))))) (fun _ => rfl) ?_
              rw [((hrq17.1 166 39 (by omega) (by omega) (by omega)).trans ((hoq16.1 166 39 (by omega)).trans ((hoq15.1 166 39 (by omega)).trans ((hoq14.1 166 39 (by omega)).trans ((hoq13.1 166 39 (by omega)).trans hR.1.2.1)))))]
              refine Ev.steps (k := 1) (pc' := 225) (L' := [Vr 166, Vi 1, Vi ((30 * (j : Int)) + (n : Int))]) (S' := [Vi (j : Int), Vr 173, Vi (j : Int), Vr 173]) (h' := ((SHv st dr rd), (ovl a s (updC bq17 190 ((30 * j + n)) (((c + rq17.1.length) : Nat) : Int))))) (fun _ => rfl) ?_
              refine Ev.iald (v := (n : Int)) rfl (by decide) rfl (by omega) (by omega) (((hrq17.1 173 j (by omega) (by omega) (by omega)).trans ((updC_nt (by omega)).trans ((hoq16.1 173 j (by omega)).trans ((updC_nt (by omega)).trans ((updC_nt (by omega)).trans ((updC_nt (by omega)).trans ((hoq15.1 173 j (by omega)).trans ((updC_nt (by omega)).trans ((updC_nt (by omega)).trans ((hoq14.1 173 j (by omega)).trans ((updC_nt (by omega)).trans ((hoq13.1 173 j (by omega)).trans hcn))))))))))))) ?_
              refine Ev.steps (k := 2) (pc' := 228) (L' := [Vr 166, Vi 1, Vi ((30 * (j : Int)) + (n : Int))]) (S' := [Vi (w32 ((n : Int) + 1)), Vi (j : Int), Vr 173]) (h' := ((SHv st dr rd), (ovl a s (updC bq17 190 ((30 * j + n)) (((c + rq17.1.length) : Nat) : Int))))) (fun _ => rfl) ?_
              rw [show (w32 ((n : Int) + 1)) = ((n : Int) + 1) from w32_id (by unfold R32; omega)]
              refine Ev.iast (c' := (ovl a s (updC (updC bq17 190 ((30 * j + n)) (((c + rq17.1.length) : Nat) : Int)) 173 j ((n : Int) + 1)))) rfl (by decide) rfl (by omega) (by omega) (ovl_wm (by decide)) ?_
              refine Ev.fin (k := 1) (r := none) (h' := ((SHv st dr rd), (ovl a s (updC (updC bq17 190 ((30 * j + n)) (((c + rq17.1.length) : Nat) : Int)) 173 j ((n : Int) + 1))))) (fun _ => rfl) ?_
              have hb : FrP (chLc j n c) b (updC (updC bq17 190 ((30 * j + n)) (((c + rq17.1.length) : Nat) : Int)) 173 j ((n : Int) + 1)) := (((((((((((((((FrP.rf : FrP (chLc j n c) b b).fn hoq13.1).up (by omega)).fn hoq14.1).up (by omega)).up (by omega)).fn hoq15.1).up (by omega)).up (by omega)).up (by omega)).fn hoq16.1).up (by omega)).fR hrq17.1 (fun o i h => by omega)).up (by omega)).up (by omega))
              refine ⟨rfl, _, rfl, Or.inl ⟨(_, rq17.2), ?_, ((hrq17.2.1.up (by omega)).up (by omega)), ⟨(c + rq17.1.length), hR.rule (kd := 1) (i := rq14.1) (x := ((rq15.1 : Nat) : Int)) (t := ((rq15.1 : Nat) : Int)) (l1 := []) (l2 := rq17.1) ⟨hnn, hn⟩ hb ((updC_nt (by omega)).trans ((updC_nt (by omega)).trans hrq17.2.2.2.1)) (by omega) updC_sm ((updC_nt (by omega)).trans ((updC_nt (by omega)).trans ((hrq17.1 184 ((30 * j + n)) (by omega) (by omega) (by omega)).trans ((updC_nt (by omega)).trans ((hoq16.1 184 ((30 * j + n)) (by omega)).trans ((updC_nt (by omega)).trans ((updC_nt (by omega)).trans ((updC_nt (by omega)).trans ((hoq15.1 184 ((30 * j + n)) (by omega)).trans ((updC_nt (by omega)).trans ((updC_nt (by omega)).trans ((hoq14.1 184 ((30 * j + n)) (by omega)).trans updC_sm)))))))))))) ((updC_nt (by omega)).trans ((updC_nt (by omega)).trans ((hrq17.1 185 ((30 * j + n)) (by omega) (by omega) (by omega)).trans ((updC_nt (by omega)).trans ((hoq16.1 185 ((30 * j + n)) (by omega)).trans ((updC_nt (by omega)).trans ((updC_nt (by omega)).trans ((updC_nt (by omega)).trans ((hoq15.1 185 ((30 * j + n)) (by omega)).trans ((updC_nt (by omega)).trans updC_sm)))))))))) ((updC_nt (by omega)).trans ((updC_nt (by omega)).trans ((hrq17.1 186 ((30 * j + n)) (by omega) (by omega) (by omega)).trans ((updC_nt (by omega)).trans ((hoq16.1 186 ((30 * j + n)) (by omega)).trans ((updC_nt (by omega)).trans ((updC_nt (by omega)).trans updC_sm))))))) ((updC_nt (by omega)).trans ((updC_nt (by omega)).trans ((hrq17.1 187 ((30 * j + n)) (by omega) (by omega) (by omega)).trans ((updC_nt (by omega)).trans ((hoq16.1 187 ((30 * j + n)) (by omega)).trans ((updC_nt (by omega)).trans updC_sm)))))) ⟨c, ((updC_nt (by omega)).trans ((updC_nt (by omega)).trans ((hrq17.1 189 ((30 * j + n)) (by omega) (by omega) (by omega)).trans updC_sm))), ((updC_nt (by omega)).trans updC_sm), by omega, (codM_u (codM_u hrq17.2.2.1 (by omega)) (by omega))⟩ (fun h => absurd h (by decide)), by dsimp only; omega⟩, hb.mo hP⟩⟩
              rw [if_neg (by omega), rul_k1 hct]
              unfold rulL1
              rw [hxq13, bnX_o, hxq14, bnX_o, hxq15, bnX_o, hxq16, bnX_o, hxq17, bnX_o]
              rfl
            · show Ev X _ _ 199 [Vr 166, Vi 1, Vi ((30 * (j : Int)) + (n : Int))] [] ((SHv st dr rd), (ovl a s bq17)) _
              refine Ev.steps (k := 5) (pc' := 208) (L' := [Vr 166, Vi 1, Vi ((30 * (j : Int)) + (n : Int))]) (S' := [Vi (bq17 166 38), Vi ((30 * (j : Int)) + (n : Int)), Vr 190]) (h' := ((SHv st dr rd), (ovl a s bq17))) (fun _ => rfl) ?_
              refine Ev.iast (c' := (ovl a s (updC bq17 190 ((30 * j + n)) (bq17 166 38)))) rfl (by decide) rfl (by omega) (by omega) (ovl_wm (by decide)) ?_
              refine Ev.steps (k := 2) (pc' := 213) (L' := [Vr 166, Vi 1, Vi ((30 * (j : Int)) + (n : Int))]) (S' := [Vi (bq17 166 8)]) (h' := ((SHv st dr rd), (ovl a s (updC bq17 190 ((30 * j + n)) (bq17 166 38))))) (fun _ => rfl) ?_
              rw [hbq17.2.2.2.1]
              refine Ev.ite (P := eq17.1 ≠ 0) (k := 1) (a := 229) (b := 216) (L' := [Vr 166, Vi 1, Vi ((30 * (j : Int)) + (n : Int))]) (S' := []) (h' := ((SHv st dr rd), (ovl a s (updC bq17 190 ((30 * j + n)) (bq17 166 38))))) (fun _ => rfl) (fun b213 => ?_) (fun b213 => ?_)
              · refine Ev.fin (k := 1) (r := none) (h' := ((SHv st dr rd), (ovl a s (updC bq17 190 ((30 * j + n)) (bq17 166 38))))) (fun _ => rfl) ?_
                refine ⟨rfl, _, rfl, Or.inr ⟨eq17, ?_, ⟨(((((((((((((((FrP.rf : FrP (chLc j n c) b b).fn hoq13.1).up (by omega)).fn hoq14.1).up (by omega)).up (by omega)).fn hoq15.1).up (by omega)).up (by omega)).up (by omega)).fn hoq16.1).up (by omega)).fR hbq17.1 (fun o i h => by omega)).up (by omega))).mo hP, (hbq17.2.1.up (by omega)), (hbq17.2.2.up (by omega))⟩⟩⟩
                rw [if_neg (by omega), rul_k1 hct]
                unfold rulL1
                rw [hxq13, bnX_o, hxq14, bnX_o, hxq15, bnX_o, hxq16, bnX_o, hxq17, bnX_e]
              · have := hbq17.2.2.1; omega
          · show Ev X _ _ 184 [Vr 166, Vi 1, Vi ((30 * (j : Int)) + (n : Int))] [] ((SHv st dr rd), (ovl a s bq16)) _
            refine Ev.steps (k := 5) (pc' := 193) (L' := [Vr 166, Vi 1, Vi ((30 * (j : Int)) + (n : Int))]) (S' := [Vi (bq16 166 38), Vi ((30 * (j : Int)) + (n : Int)), Vr 189]) (h' := ((SHv st dr rd), (ovl a s bq16))) (fun _ => rfl) ?_
            refine Ev.iast (c' := (ovl a s (updC bq16 189 ((30 * j + n)) (bq16 166 38)))) rfl (by decide) rfl (by omega) (by omega) (ovl_wm (by decide)) ?_
            refine Ev.call (k := 2) (pc1 := 196) (L1 := [Vr 166, Vi 1, Vi ((30 * (j : Int)) + (n : Int))]) (S1 := [Vi 1, Vr 166]) (h1 := ((SHv st dr rd), (ovl a s (updC bq16 189 ((30 * j + n)) (bq16 166 38))))) (m' := 169) (as := [Vr 166, Vi 1]) (S' := []) (L0 := [Vr 166, Vi 1, Vx]) (fun _ => rfl) rfl rfl rfl rfl rfl rfl (m_reads_br (b := (updC bq16 189 ((30 * j + n)) (bq16 166 38))) (hbq16.2.2.up (by omega)) 1) (fun r h' hq => ?_)
            obtain ⟨rfl, rfl⟩ := hq
            show Ev X _ _ 199 [Vr 166, Vi 1, Vi ((30 * (j : Int)) + (n : Int))] [] ((SHv st dr rd), (ovl a s (updC bq16 189 ((30 * j + n)) (bq16 166 38)))) _
            refine Ev.steps (k := 5) (pc' := 208) (L' := [Vr 166, Vi 1, Vi ((30 * (j : Int)) + (n : Int))]) (S' := [Vi (bq16 166 38), Vi ((30 * (j : Int)) + (n : Int)), Vr 190]) (h' := ((SHv st dr rd), (ovl a s (updC bq16 189 ((30 * j + n)) (bq16 166 38))))) (fun _ => rfl) ?_
            refine Ev.iast (c' := (ovl a s (updC (updC bq16 189 ((30 * j + n)) (bq16 166 38)) 190 ((30 * j + n)) (bq16 166 38)))) rfl (by decide) rfl (by omega) (by omega) (ovl_wm (by decide)) ?_
            refine Ev.steps (k := 2) (pc' := 213) (L' := [Vr 166, Vi 1, Vi ((30 * (j : Int)) + (n : Int))]) (S' := [Vi (bq16 166 8)]) (h' := ((SHv st dr rd), (ovl a s (updC (updC bq16 189 ((30 * j + n)) (bq16 166 38)) 190 ((30 * j + n)) (bq16 166 38))))) (fun _ => rfl) ?_
            rw [hbq16.2.2.2.1]
            refine Ev.ite (P := eq16.1 ≠ 0) (k := 1) (a := 229) (b := 216) (L' := [Vr 166, Vi 1, Vi ((30 * (j : Int)) + (n : Int))]) (S' := []) (h' := ((SHv st dr rd), (ovl a s (updC (updC bq16 189 ((30 * j + n)) (bq16 166 38)) 190 ((30 * j + n)) (bq16 166 38))))) (fun _ => rfl) (fun b213 => ?_) (fun b213 => ?_)
            · refine Ev.fin (k := 1) (r := none) (h' := ((SHv st dr rd), (ovl a s (updC (updC bq16 189 ((30 * j + n)) (bq16 166 38)) 190 ((30 * j + n)) (bq16 166 38))))) (fun _ => rfl) ?_
              refine ⟨rfl, _, rfl, Or.inr ⟨eq16, ?_, ⟨((((((((((((((FrP.rf : FrP (chLc j n c) b b).fn hoq13.1).up (by omega)).fn hoq14.1).up (by omega)).up (by omega)).fn hoq15.1).up (by omega)).up (by omega)).up (by omega)).fn hbq16.1).up (by omega)).up (by omega))).mo hP, ((hbq16.2.1.up (by omega)).up (by omega)), ((hbq16.2.2.up (by omega)).up (by omega))⟩⟩⟩
              rw [if_neg (by omega), rul_k1 hct]
              unfold rulL1
              rw [hxq13, bnX_o, hxq14, bnX_o, hxq15, bnX_o, hxq16, bnX_e]
            · have := hbq16.2.2.1; omega
        · show Ev X _ _ 108 [Vr 166, Vi 1, Vi ((30 * (j : Int)) + (n : Int))] [Vi vq15, Vi ((30 * (j : Int)) + (n : Int)), Vr 186] ((SHv st dr rd), (ovl a s bq15)) _
          refine Ev.iast (c' := (ovl a s (updC bq15 186 ((30 * j + n)) vq15))) rfl (by decide) rfl (by omega) (by omega) (ovl_wm (by decide)) ?_
          refine Ev.steps (k := 12) (pc' := 155) (L' := [Vr 166, Vi 1, Vi ((30 * (j : Int)) + (n : Int))]) (S' := [Vi ((30 * (j : Int)) + (n : Int)), Vr 186, Vi ((30 * (j : Int)) + (n : Int)), Vr 187]) (h' := ((SHv st dr rd), (ovl a s (updC bq15 186 ((30 * j + n)) vq15)))) (fun _ => rfl) ?_
          refine Ev.iald (v := vq15) rfl (by decide) rfl (by omega) (by omega) (show (updC bq15 186 ((30 * j + n)) vq15) 186 ((30 * j + n)) = vq15 by rw [updC_sm]) ?_
          refine Ev.iast (c' := (ovl a s (updC (updC bq15 186 ((30 * j + n)) vq15) 187 ((30 * j + n)) vq15))) rfl (by decide) rfl (by omega) (by omega) (ovl_wm (by decide)) ?_
          refine Ev.steps (k := 5) (pc' := 166) (L' := [Vr 166, Vi 1, Vi ((30 * (j : Int)) + (n : Int))]) (S' := [Vi (bq15 166 38), Vi ((30 * (j : Int)) + (n : Int)), Vr 188]) (h' := ((SHv st dr rd), (ovl a s (updC (updC bq15 186 ((30 * j + n)) vq15) 187 ((30 * j + n)) vq15)))) (fun _ => rfl) ?_
          refine Ev.iast (c' := (ovl a s (updC (updC (updC bq15 186 ((30 * j + n)) vq15) 187 ((30 * j + n)) vq15) 188 ((30 * j + n)) (bq15 166 38)))) rfl (by decide) rfl (by omega) (by omega) (ovl_wm (by decide)) ?_
          refine Ev.call (k := 5) (pc1 := 181) (L1 := [Vr 166, Vi 1, Vi ((30 * (j : Int)) + (n : Int))]) (S1 := [Vl 2003330414, Vr 166]) (h1 := ((SHv st dr rd), (ovl a s (updC (updC (updC bq15 186 ((30 * j + n)) vq15) 187 ((30 * j + n)) vq15) 188 ((30 * j + n)) (bq15 166 38))))) (m' := 181) (as := [Vr 166, Vl 2003330414]) (S' := []) (L0 := [Vr 166, Vl 2003330414, Vx]) (fun _ => rfl) rfl rfl rfl rfl rfl rfl (m_mustW_br (b := (updC (updC (updC bq15 186 ((30 * j + n)) vq15) 187 ((30 * j + n)) vq15) 188 ((30 * j + n)) (bq15 166 38))) (((hbq15.2.2.up (by omega)).up (by omega)).up (by omega)) 2003330414) (fun r h' hq => ?_)
          obtain ⟨rfl, rfl⟩ := hq
          show Ev X _ _ 184 [Vr 166, Vi 1, Vi ((30 * (j : Int)) + (n : Int))] [] ((SHv st dr rd), (ovl a s (updC (updC (updC bq15 186 ((30 * j + n)) vq15) 187 ((30 * j + n)) vq15) 188 ((30 * j + n)) (bq15 166 38)))) _
          refine Ev.steps (k := 5) (pc' := 193) (L' := [Vr 166, Vi 1, Vi ((30 * (j : Int)) + (n : Int))]) (S' := [Vi (bq15 166 38), Vi ((30 * (j : Int)) + (n : Int)), Vr 189]) (h' := ((SHv st dr rd), (ovl a s (updC (updC (updC bq15 186 ((30 * j + n)) vq15) 187 ((30 * j + n)) vq15) 188 ((30 * j + n)) (bq15 166 38))))) (fun _ => rfl) ?_
          refine Ev.iast (c' := (ovl a s (updC (updC (updC (updC bq15 186 ((30 * j + n)) vq15) 187 ((30 * j + n)) vq15) 188 ((30 * j + n)) (bq15 166 38)) 189 ((30 * j + n)) (bq15 166 38)))) rfl (by decide) rfl (by omega) (by omega) (ovl_wm (by decide)) ?_
          refine Ev.call (k := 2) (pc1 := 196) (L1 := [Vr 166, Vi 1, Vi ((30 * (j : Int)) + (n : Int))]) (S1 := [Vi 1, Vr 166]) (h1 := ((SHv st dr rd), (ovl a s (updC (updC (updC (updC bq15 186 ((30 * j + n)) vq15) 187 ((30 * j + n)) vq15) 188 ((30 * j + n)) (bq15 166 38)) 189 ((30 * j + n)) (bq15 166 38))))) (m' := 169) (as := [Vr 166, Vi 1]) (S' := []) (L0 := [Vr 166, Vi 1, Vx]) (fun _ => rfl) rfl rfl rfl rfl rfl rfl (m_reads_br (b := (updC (updC (updC (updC bq15 186 ((30 * j + n)) vq15) 187 ((30 * j + n)) vq15) 188 ((30 * j + n)) (bq15 166 38)) 189 ((30 * j + n)) (bq15 166 38))) ((((hbq15.2.2.up (by omega)).up (by omega)).up (by omega)).up (by omega)) 1) (fun r h' hq => ?_)
          obtain ⟨rfl, rfl⟩ := hq
          show Ev X _ _ 199 [Vr 166, Vi 1, Vi ((30 * (j : Int)) + (n : Int))] [] ((SHv st dr rd), (ovl a s (updC (updC (updC (updC bq15 186 ((30 * j + n)) vq15) 187 ((30 * j + n)) vq15) 188 ((30 * j + n)) (bq15 166 38)) 189 ((30 * j + n)) (bq15 166 38)))) _
          refine Ev.steps (k := 5) (pc' := 208) (L' := [Vr 166, Vi 1, Vi ((30 * (j : Int)) + (n : Int))]) (S' := [Vi (bq15 166 38), Vi ((30 * (j : Int)) + (n : Int)), Vr 190]) (h' := ((SHv st dr rd), (ovl a s (updC (updC (updC (updC bq15 186 ((30 * j + n)) vq15) 187 ((30 * j + n)) vq15) 188 ((30 * j + n)) (bq15 166 38)) 189 ((30 * j + n)) (bq15 166 38))))) (fun _ => rfl) ?_
          refine Ev.iast (c' := (ovl a s (updC (updC (updC (updC (updC bq15 186 ((30 * j + n)) vq15) 187 ((30 * j + n)) vq15) 188 ((30 * j + n)) (bq15 166 38)) 189 ((30 * j + n)) (bq15 166 38)) 190 ((30 * j + n)) (bq15 166 38)))) rfl (by decide) rfl (by omega) (by omega) (ovl_wm (by decide)) ?_
          refine Ev.steps (k := 2) (pc' := 213) (L' := [Vr 166, Vi 1, Vi ((30 * (j : Int)) + (n : Int))]) (S' := [Vi (bq15 166 8)]) (h' := ((SHv st dr rd), (ovl a s (updC (updC (updC (updC (updC bq15 186 ((30 * j + n)) vq15) 187 ((30 * j + n)) vq15) 188 ((30 * j + n)) (bq15 166 38)) 189 ((30 * j + n)) (bq15 166 38)) 190 ((30 * j + n)) (bq15 166 38))))) (fun _ => rfl) ?_
          rw [hbq15.2.2.2.1]
          refine Ev.ite (P := eq15.1 ≠ 0) (k := 1) (a := 229) (b := 216) (L' := [Vr 166, Vi 1, Vi ((30 * (j : Int)) + (n : Int))]) (S' := []) (h' := ((SHv st dr rd), (ovl a s (updC (updC (updC (updC (updC bq15 186 ((30 * j + n)) vq15) 187 ((30 * j + n)) vq15) 188 ((30 * j + n)) (bq15 166 38)) 189 ((30 * j + n)) (bq15 166 38)) 190 ((30 * j + n)) (bq15 166 38))))) (fun _ => rfl) (fun b213 => ?_) (fun b213 => ?_)
          · refine Ev.fin (k := 1) (r := none) (h' := ((SHv st dr rd), (ovl a s (updC (updC (updC (updC (updC bq15 186 ((30 * j + n)) vq15) 187 ((30 * j + n)) vq15) 188 ((30 * j + n)) (bq15 166 38)) 189 ((30 * j + n)) (bq15 166 38)) 190 ((30 * j + n)) (bq15 166 38))))) (fun _ => rfl) ?_
            refine ⟨rfl, _, rfl, Or.inr ⟨eq15, ?_, ⟨(((((((((((((FrP.rf : FrP (chLc j n c) b b).fn hoq13.1).up (by omega)).fn hoq14.1).up (by omega)).up (by omega)).fn hbq15.1).up (by omega)).up (by omega)).up (by omega)).up (by omega)).up (by omega))).mo hP, (((((hbq15.2.1.up (by omega)).up (by omega)).up (by omega)).up (by omega)).up (by omega)), (((((hbq15.2.2.up (by omega)).up (by omega)).up (by omega)).up (by omega)).up (by omega))⟩⟩⟩
            rw [if_neg (by omega), rul_k1 hct]
            unfold rulL1
            rw [hxq13, bnX_o, hxq14, bnX_o, hxq15, bnX_e]
          · have := hbq15.2.2.1; omega
      · show Ev X _ _ 63 [Vr 166, Vi 1, Vi ((30 * (j : Int)) + (n : Int))] [Vi vq14, Vi ((30 * (j : Int)) + (n : Int)), Vr 185] ((SHv st dr rd), (ovl a s bq14)) _
        refine Ev.iast (c' := (ovl a s (updC bq14 185 ((30 * j + n)) vq14))) rfl (by decide) rfl (by omega) (by omega) (ovl_wm (by decide)) ?_
        refine Ev.steps (k := 4) (pc' := 70) (L' := [Vr 166, Vi 1, Vi ((30 * (j : Int)) + (n : Int))]) (S' := [Vi (-1), Vi ((30 * (j : Int)) + (n : Int)), Vr 186]) (h' := ((SHv st dr rd), (ovl a s (updC bq14 185 ((30 * j + n)) vq14)))) (fun _ => rfl) ?_
        refine Ev.iast (c' := (ovl a s (updC (updC bq14 185 ((30 * j + n)) vq14) 186 ((30 * j + n)) (-1)))) rfl (by decide) rfl (by omega) (by omega) (ovl_wm (by decide)) ?_
        refine Ev.call (k := 11) (pc1 := 105) (L1 := [Vr 166, Vi 1, Vi ((30 * (j : Int)) + (n : Int))]) (S1 := [Vi (-1), Vi 2, Vr 166, Vi ((30 * (j : Int)) + (n : Int)), Vr 186]) (h1 := ((SHv st dr rd), (ovl a s (updC (updC bq14 185 ((30 * j + n)) vq14) 186 ((30 * j + n)) (-1))))) (m' := 165) (as := [Vr 166, Vi 2, Vi (-1)]) (S' := [Vi ((30 * (j : Int)) + (n : Int)), Vr 186]) (L0 := [Vr 166, Vi 2, Vi (-1), Vx]) (fun _ => rfl) rfl rfl rfl rfl rfl rfl (m_asked_br (b := (updC (updC bq14 185 ((30 * j + n)) vq14) 186 ((30 * j + n)) (-1))) ((hbq14.2.2.up (by omega)).up (by omega)) 2 (-1)) (fun r h' hq => ?_)
        obtain ⟨rfl, rfl⟩ := hq
        show Ev X _ _ 108 [Vr 166, Vi 1, Vi ((30 * (j : Int)) + (n : Int))] [Vi 0, Vi ((30 * (j : Int)) + (n : Int)), Vr 186] ((SHv st dr rd), (ovl a s (updC (updC bq14 185 ((30 * j + n)) vq14) 186 ((30 * j + n)) (-1)))) _
        refine Ev.iast (c' := (ovl a s (updC (updC (updC bq14 185 ((30 * j + n)) vq14) 186 ((30 * j + n)) (-1)) 186 ((30 * j + n)) 0))) rfl (by decide) rfl (by omega) (by omega) (ovl_wm (by decide)) ?_
        refine Ev.steps (k := 12) (pc' := 155) (L' := [Vr 166, Vi 1, Vi ((30 * (j : Int)) + (n : Int))]) (S' := [Vi ((30 * (j : Int)) + (n : Int)), Vr 186, Vi ((30 * (j : Int)) + (n : Int)), Vr 187]) (h' := ((SHv st dr rd), (ovl a s (updC (updC (updC bq14 185 ((30 * j + n)) vq14) 186 ((30 * j + n)) (-1)) 186 ((30 * j + n)) 0)))) (fun _ => rfl) ?_
        refine Ev.iald (v := 0) rfl (by decide) rfl (by omega) (by omega) (show (updC (updC (updC bq14 185 ((30 * j + n)) vq14) 186 ((30 * j + n)) (-1)) 186 ((30 * j + n)) 0) 186 ((30 * j + n)) = 0 by rw [updC_sm]) ?_
        refine Ev.iast (c' := (ovl a s (updC (updC (updC (updC bq14 185 ((30 * j + n)) vq14) 186 ((30 * j + n)) (-1)) 186 ((30 * j + n)) 0) 187 ((30 * j + n)) 0))) rfl (by decide) rfl (by omega) (by omega) (ovl_wm (by decide)) ?_
        refine Ev.steps (k := 5) (pc' := 166) (L' := [Vr 166, Vi 1, Vi ((30 * (j : Int)) + (n : Int))]) (S' := [Vi (bq14 166 38), Vi ((30 * (j : Int)) + (n : Int)), Vr 188]) (h' := ((SHv st dr rd), (ovl a s (updC (updC (updC (updC bq14 185 ((30 * j + n)) vq14) 186 ((30 * j + n)) (-1)) 186 ((30 * j + n)) 0) 187 ((30 * j + n)) 0)))) (fun _ => rfl) ?_
        refine Ev.iast (c' := (ovl a s (updC (updC (updC (updC (updC bq14 185 ((30 * j + n)) vq14) 186 ((30 * j + n)) (-1)) 186 ((30 * j + n)) 0) 187 ((30 * j + n)) 0) 188 ((30 * j + n)) (bq14 166 38)))) rfl (by decide) rfl (by omega) (by omega) (ovl_wm (by decide)) ?_
        refine Ev.call (k := 5) (pc1 := 181) (L1 := [Vr 166, Vi 1, Vi ((30 * (j : Int)) + (n : Int))]) (S1 := [Vl 2003330414, Vr 166]) (h1 := ((SHv st dr rd), (ovl a s (updC (updC (updC (updC (updC bq14 185 ((30 * j + n)) vq14) 186 ((30 * j + n)) (-1)) 186 ((30 * j + n)) 0) 187 ((30 * j + n)) 0) 188 ((30 * j + n)) (bq14 166 38))))) (m' := 181) (as := [Vr 166, Vl 2003330414]) (S' := []) (L0 := [Vr 166, Vl 2003330414, Vx]) (fun _ => rfl) rfl rfl rfl rfl rfl rfl (m_mustW_br (b := (updC (updC (updC (updC (updC bq14 185 ((30 * j + n)) vq14) 186 ((30 * j + n)) (-1)) 186 ((30 * j + n)) 0) 187 ((30 * j + n)) 0) 188 ((30 * j + n)) (bq14 166 38))) (((((hbq14.2.2.up (by omega)).up (by omega)).up (by omega)).up (by omega)).up (by omega)) 2003330414) (fun r h' hq => ?_)
        obtain ⟨rfl, rfl⟩ := hq
        show Ev X _ _ 184 [Vr 166, Vi 1, Vi ((30 * (j : Int)) + (n : Int))] [] ((SHv st dr rd), (ovl a s (updC (updC (updC (updC (updC bq14 185 ((30 * j + n)) vq14) 186 ((30 * j + n)) (-1)) 186 ((30 * j + n)) 0) 187 ((30 * j + n)) 0) 188 ((30 * j + n)) (bq14 166 38)))) _
        refine Ev.steps (k := 5) (pc' := 193) (L' := [Vr 166, Vi 1, Vi ((30 * (j : Int)) + (n : Int))]) (S' := [Vi (bq14 166 38), Vi ((30 * (j : Int)) + (n : Int)), Vr 189]) (h' := ((SHv st dr rd), (ovl a s (updC (updC (updC (updC (updC bq14 185 ((30 * j + n)) vq14) 186 ((30 * j + n)) (-1)) 186 ((30 * j + n)) 0) 187 ((30 * j + n)) 0) 188 ((30 * j + n)) (bq14 166 38))))) (fun _ => rfl) ?_
        refine Ev.iast (c' := (ovl a s (updC (updC (updC (updC (updC (updC bq14 185 ((30 * j + n)) vq14) 186 ((30 * j + n)) (-1)) 186 ((30 * j + n)) 0) 187 ((30 * j + n)) 0) 188 ((30 * j + n)) (bq14 166 38)) 189 ((30 * j + n)) (bq14 166 38)))) rfl (by decide) rfl (by omega) (by omega) (ovl_wm (by decide)) ?_
        refine Ev.call (k := 2) (pc1 := 196) (L1 := [Vr 166, Vi 1, Vi ((30 * (j : Int)) + (n : Int))]) (S1 := [Vi 1, Vr 166]) (h1 := ((SHv st dr rd), (ovl a s (updC (updC (updC (updC (updC (updC bq14 185 ((30 * j + n)) vq14) 186 ((30 * j + n)) (-1)) 186 ((30 * j + n)) 0) 187 ((30 * j + n)) 0) 188 ((30 * j + n)) (bq14 166 38)) 189 ((30 * j + n)) (bq14 166 38))))) (m' := 169) (as := [Vr 166, Vi 1]) (S' := []) (L0 := [Vr 166, Vi 1, Vx]) (fun _ => rfl) rfl rfl rfl rfl rfl rfl (m_reads_br (b := (updC (updC (updC (updC (updC (updC bq14 185 ((30 * j + n)) vq14) 186 ((30 * j + n)) (-1)) 186 ((30 * j + n)) 0) 187 ((30 * j + n)) 0) 188 ((30 * j + n)) (bq14 166 38)) 189 ((30 * j + n)) (bq14 166 38))) ((((((hbq14.2.2.up (by omega)).up (by omega)).up (by omega)).up (by omega)).up (by omega)).up (by omega)) 1) (fun r h' hq => ?_)
        obtain ⟨rfl, rfl⟩ := hq
        show Ev X _ _ 199 [Vr 166, Vi 1, Vi ((30 * (j : Int)) + (n : Int))] [] ((SHv st dr rd), (ovl a s (updC (updC (updC (updC (updC (updC bq14 185 ((30 * j + n)) vq14) 186 ((30 * j + n)) (-1)) 186 ((30 * j + n)) 0) 187 ((30 * j + n)) 0) 188 ((30 * j + n)) (bq14 166 38)) 189 ((30 * j + n)) (bq14 166 38)))) _
        refine Ev.steps (k := 5) (pc' := 208) (L' := [Vr 166, Vi 1, Vi ((30 * (j : Int)) + (n : Int))]) (S' := [Vi (bq14 166 38), Vi ((30 * (j : Int)) + (n : Int)), Vr 190]) (h' := ((SHv st dr rd), (ovl a s (updC (updC (updC (updC (updC (updC bq14 185 ((30 * j + n)) vq14) 186 ((30 * j + n)) (-1)) 186 ((30 * j + n)) 0) 187 ((30 * j + n)) 0) 188 ((30 * j + n)) (bq14 166 38)) 189 ((30 * j + n)) (bq14 166 38))))) (fun _ => rfl) ?_
        refine Ev.iast (c' := (ovl a s (updC (updC (updC (updC (updC (updC (updC bq14 185 ((30 * j + n)) vq14) 186 ((30 * j + n)) (-1)) 186 ((30 * j + n)) 0) 187 ((30 * j + n)) 0) 188 ((30 * j + n)) (bq14 166 38)) 189 ((30 * j + n)) (bq14 166 38)) 190 ((30 * j + n)) (bq14 166 38)))) rfl (by decide) rfl (by omega) (by omega) (ovl_wm (by decide)) ?_
        refine Ev.steps (k := 2) (pc' := 213) (L' := [Vr 166, Vi 1, Vi ((30 * (j : Int)) + (n : Int))]) (S' := [Vi (bq14 166 8)]) (h' := ((SHv st dr rd), (ovl a s (updC (updC (updC (updC (updC (updC (updC bq14 185 ((30 * j + n)) vq14) 186 ((30 * j + n)) (-1)) 186 ((30 * j + n)) 0) 187 ((30 * j + n)) 0) 188 ((30 * j + n)) (bq14 166 38)) 189 ((30 * j + n)) (bq14 166 38)) 190 ((30 * j + n)) (bq14 166 38))))) (fun _ => rfl) ?_
        rw [hbq14.2.2.2.1]
        refine Ev.ite (P := eq14.1 ≠ 0) (k := 1) (a := 229) (b := 216) (L' := [Vr 166, Vi 1, Vi ((30 * (j : Int)) + (n : Int))]) (S' := []) (h' := ((SHv st dr rd), (ovl a s (updC (updC (updC (updC (updC (updC (updC bq14 185 ((30 * j + n)) vq14) 186 ((30 * j + n)) (-1)) 186 ((30 * j + n)) 0) 187 ((30 * j + n)) 0) 188 ((30 * j + n)) (bq14 166 38)) 189 ((30 * j + n)) (bq14 166 38)) 190 ((30 * j + n)) (bq14 166 38))))) (fun _ => rfl) (fun b213 => ?_) (fun b213 => ?_)
        · refine Ev.fin (k := 1) (r := none) (h' := ((SHv st dr rd), (ovl a s (updC (updC (updC (updC (updC (updC (updC bq14 185 ((30 * j + n)) vq14) 186 ((30 * j + n)) (-1)) 186 ((30 * j + n)) 0) 187 ((30 * j + n)) 0) 188 ((30 * j + n)) (bq14 166 38)) 189 ((30 * j + n)) (bq14 166 38)) 190 ((30 * j + n)) (bq14 166 38))))) (fun _ => rfl) ?_
          refine ⟨rfl, _, rfl, Or.inr ⟨eq14, ?_, ⟨((((((((((((FrP.rf : FrP (chLc j n c) b b).fn hoq13.1).up (by omega)).fn hbq14.1).up (by omega)).up (by omega)).up (by omega)).up (by omega)).up (by omega)).up (by omega)).up (by omega))).mo hP, (((((((hbq14.2.1.up (by omega)).up (by omega)).up (by omega)).up (by omega)).up (by omega)).up (by omega)).up (by omega)), (((((((hbq14.2.2.up (by omega)).up (by omega)).up (by omega)).up (by omega)).up (by omega)).up (by omega)).up (by omega))⟩⟩⟩
          rw [if_neg (by omega), rul_k1 hct]
          unfold rulL1
          rw [hxq13, bnX_o, hxq14, bnX_e]
        · have := hbq14.2.2.1; omega
    · show Ev X _ _ 23 [Vr 166, Vi 1, Vx] [Vi 0] ((SHv st dr rd), (ovl a s bq13)) _
      refine Ev.fin (k := 2) (r := none) (h' := ((SHv st dr rd), (ovl a s bq13))) (fun _ => rfl) ?_
      refine ⟨rfl, _, rfl, Or.inr ⟨eq13, ?_, ⟨(((FrP.rf : FrP (chLc j n c) b b).fn hbq13.1)).mo hP, hbq13.2.1, hbq13.2.2⟩⟩⟩
      rw [if_neg (by omega), rul_k1 hct]
      unfold rulL1
      rw [hxq13, bnX_e]
  · refine Ev.call (k := 2) (pc1 := 20) (L1 := [Vr 166, Vi 1, Vx]) (S1 := [Vi 1, Vr 166]) (h1 := ((SHv st dr rd), (ovl a s b))) (m' := 164) (as := [Vr 166, Vi 1]) (S' := []) (L0 := [Vr 166, Vi 1]) (fun _ => rfl) rfl rfl rfl rfl rfl rfl (m_counts1 (b := b) hk) (fun r h' hq => ?_)
    obtain ⟨rfl, bq24, rfl, hbq24⟩ := hq
    show Ev X _ _ 23 [Vr 166, Vi 1, Vx] [Vi 0] ((SHv st dr rd), (ovl a s bq24)) _
    refine Ev.fin (k := 2) (r := none) (h' := ((SHv st dr rd), (ovl a s bq24))) (fun _ => rfl) ?_
    refine ⟨rfl, _, rfl, Or.inr ⟨(fltT W 5 p), if_pos (by omega), (FrP.rf : FrJ j b b).fn hbq24.1, hbq24.2⟩⟩
theorem m_rule2 {X : List Int} {d : Nat} {st dr rd : Int} {a s b : C3} {W : TXT} {p : Nat} (hk : TkM W p b) {S : STY} (hW : WfY S) {j c n : Nat} (hR : RqM S b j c) (hcp : c ≤ p) (hn : S.1 0 4 = (n : Int)) (hcn : b 173 j = (n : Int)) (hmx : n ≤ 30) (hct : tC W p = 264) : Ev X (d + 6) 163 0 [Vr 166, Vi 2, Vx] [] (SHv st dr rd, ovl a s b) (fun rr hh => rr = none ∧ ∃ b' : C3, hh = (SHv st dr rd, ovl a s b') ∧ ResC (if (30 : Int) ≤ S.1 0 4 then Except.error (fltT W 5 p) else rulT W S p) (fun r => TkM W r.2 b' ∧ (∃ c', RqM r.1 b' j c' ∧ c' ≤ r.2) ∧ FrJ j b b') (fun e => BjM W j b e b')) := by
  have hN := hR.nm hW
  have hj := hN.1
  have hT := hk.1.1
  have hT1 := hT.1
  have hNf : WfN S := ⟨hW.1.1, hW.2.2.1.1, hW.2.2.2.1.1⟩
  have hnn : nL S = n := by show (S.1 0 4).toNat = n; rw [hn]; exact Int.toNat_natCast n
  refine Ev.steps (k := 5) (pc' := 9) (L' := [Vr 166, Vi 2, Vx]) (S' := [Vi (b 166 39), Vr 173, Vr 166]) (h' := ((SHv st dr rd), (ovl a s b))) (fun _ => rfl) ?_
  rw [hR.1.2.1]
  refine Ev.iald (v := (n : Int)) rfl (by decide) rfl (by omega) (by omega) (hcn) ?_
  refine Ev.ite (P := (n : Int) ≠ 30) (k := 2) (a := 19) (b := 15) (L' := [Vr 166, Vi 2, Vx]) (S' := [Vr 166]) (h' := ((SHv st dr rd), (ovl a s b))) (fun _ => rfl) (fun b12 => ?_) (fun b12 => ?_)
  · have hn8 : n < 30 := by omega
    have hP : ∀ o i, chLc j n c o i → fjM j o i := fun o i h => by unfold fjM; omega
    refine Ev.call (k := 1) (pc1 := 20) (L1 := [Vr 166, Vi 2, Vx]) (S1 := [Vi 0, Vr 166]) (h1 := ((SHv st dr rd), (ovl a s b))) (m' := 164) (as := [Vr 166, Vi 0]) (S' := []) (L0 := [Vr 166, Vi 0]) (fun _ => rfl) rfl rfl rfl rfl rfl rfl (m_counts0 (b := b) hk) (fun r h' hq => ?_)
    obtain ⟨bq25, rfl, hq⟩ := hq
    rcases hq with ⟨pq25, hxq25, rfl, hoq25⟩ | ⟨eq25, hxq25, rfl, hbq25⟩
    · have mq25 : p ≤ pq25 := by have h1 := (got_ok hxq25).1; have h2 := tok_rg (W := W) (p := p) (hk).2.2.2.2.2.2.1 hT; omega
      show Ev X _ _ 23 [Vr 166, Vi 2, Vx] [Vi 1] ((SHv st dr rd), (ovl a s bq25)) _
      refine Ev.steps (k := 4) (pc' := 33) (L' := [Vr 166, Vi 2, Vx]) (S' := [Vi (bq25 166 39), Vi 30]) (h' := ((SHv st dr rd), (ovl a s bq25))) (fun _ => rfl) ?_
      rw [((hoq25.1 166 39 (by omega)).trans hR.1.2.1)]
      refine Ev.steps (k := 1) (pc' := 34) (L' := [Vr 166, Vi 2, Vx]) (S' := [Vi (w32 (30 * (j : Int)))]) (h' := ((SHv st dr rd), (ovl a s bq25))) (fun _ => rfl) ?_
      rw [show (w32 (30 * (j : Int))) = (30 * (j : Int)) from w32_id (by unfold R32; omega)]
      refine Ev.steps (k := 4) (pc' := 42) (L' := [Vr 166, Vi 2, Vx]) (S' := [Vi (bq25 166 39), Vr 173, Vi (30 * (j : Int))]) (h' := ((SHv st dr rd), (ovl a s bq25))) (fun _ => rfl) ?_
      rw [((hoq25.1 166 39 (by omega)).trans hR.1.2.1)]
      refine Ev.iald (v := (n : Int)) rfl (by decide) rfl (by omega) (by omega) (((hoq25.1 173 j (by omega)).trans hcn)) ?_
      refine Ev.steps (k := 1) (pc' := 44) (L' := [Vr 166, Vi 2, Vx]) (S' := [Vi (w32 ((30 * (j : Int)) + (n : Int)))]) (h' := ((SHv st dr rd), (ovl a s bq25))) (fun _ => rfl) ?_
      rw [show (w32 ((30 * (j : Int)) + (n : Int))) = ((30 * (j : Int)) + (n : Int)) from w32_id (by unfold R32; omega)]
      refine Ev.steps (k := 5) (pc' := 51) (L' := [Vr 166, Vi 2, Vi ((30 * (j : Int)) + (n : Int))]) (S' := [Vi 2, Vi ((30 * (j : Int)) + (n : Int)), Vr 184]) (h' := ((SHv st dr rd), (ovl a s bq25))) (fun _ => rfl) ?_
      refine Ev.iast (c' := (ovl a s (updC bq25 184 ((30 * j + n)) 2))) rfl (by decide) rfl (by omega) (by omega) (ovl_wm (by decide)) ?_
      refine Ev.call (k := 6) (pc1 := 60) (L1 := [Vr 166, Vi 2, Vi ((30 * (j : Int)) + (n : Int))]) (S1 := [Vi (-1), Vi 1, Vr 166, Vi ((30 * (j : Int)) + (n : Int)), Vr 185]) (h1 := ((SHv st dr rd), (ovl a s (updC bq25 184 ((30 * j + n)) 2)))) (m' := 165) (as := [Vr 166, Vi 1, Vi (-1)]) (S' := [Vi ((30 * (j : Int)) + (n : Int)), Vr 185]) (L0 := [Vr 166, Vi 1, Vi (-1), Vx]) (fun _ => rfl) rfl rfl rfl rfl rfl rfl (m_asked_1 (b := (updC bq25 184 ((30 * j + n)) 2)) (hoq25.2.up (by omega)) ((hN.fr hoq25.1).up (by omega) (by omega) (by omega) (by omega) (by omega)) (-1)) (fun r h' hq => ?_)
      obtain ⟨bq26, rfl, hq⟩ := hq
      rcases hq with ⟨rq26, hxq26, rfl, hoq26⟩ | ⟨eq26, hxq26, ⟨vq26, rfl, wq26⟩, hbq26⟩
      · have lq26 := (ask_ok hxq26).2.2.1
        have nq26 := (hN.2.2 1 (by decide)).1
        have mq26 : pq25 ≤ rq26.2 := by have h1 := (ask_ok hxq26).2.2.2.2.1; have h2 := tok_rg (W := W) (p := pq25) (hoq25.2).2.2.2.2.2.2.1 hT; omega
        show Ev X _ _ 63 [Vr 166, Vi 2, Vi ((30 * (j : Int)) + (n : Int))] [Vi ((rq26.1 : Nat) : Int), Vi ((30 * (j : Int)) + (n : Int)), Vr 185] ((SHv st dr rd), (ovl a s bq26)) _
        refine Ev.iast (c' := (ovl a s (updC bq26 185 ((30 * j + n)) ((rq26.1 : Nat) : Int)))) rfl (by decide) rfl (by omega) (by omega) (ovl_wm (by decide)) ?_
        refine Ev.steps (k := 4) (pc' := 70) (L' := [Vr 166, Vi 2, Vi ((30 * (j : Int)) + (n : Int))]) (S' := [Vi (-1), Vi ((30 * (j : Int)) + (n : Int)), Vr 186]) (h' := ((SHv st dr rd), (ovl a s (updC bq26 185 ((30 * j + n)) ((rq26.1 : Nat) : Int))))) (fun _ => rfl) ?_
        refine Ev.iast (c' := (ovl a s (updC (updC bq26 185 ((30 * j + n)) ((rq26.1 : Nat) : Int)) 186 ((30 * j + n)) (-1)))) rfl (by decide) rfl (by omega) (by omega) (ovl_wm (by decide)) ?_
        refine Ev.call (k := 14) (pc1 := 105) (L1 := [Vr 166, Vi 2, Vi ((30 * (j : Int)) + (n : Int))]) (S1 := [Vi (-1), Vi 2, Vr 166, Vi ((30 * (j : Int)) + (n : Int)), Vr 186]) (h1 := ((SHv st dr rd), (ovl a s (updC (updC bq26 185 ((30 * j + n)) ((rq26.1 : Nat) : Int)) 186 ((30 * j + n)) (-1))))) (m' := 165) (as := [Vr 166, Vi 2, Vi (-1)]) (S' := [Vi ((30 * (j : Int)) + (n : Int)), Vr 186]) (L0 := [Vr 166, Vi 2, Vi (-1), Vx]) (fun _ => rfl) rfl rfl rfl rfl rfl rfl (m_asked_2 (b := (updC (updC bq26 185 ((30 * j + n)) ((rq26.1 : Nat) : Int)) 186 ((30 * j + n)) (-1))) ((hoq26.2.up (by omega)).up (by omega)) (((((hN.fr hoq25.1).up (by omega) (by omega) (by omega) (by omega) (by omega)).fr hoq26.1).up (by omega) (by omega) (by omega) (by omega) (by omega)).up (by omega) (by omega) (by omega) (by omega) (by omega)) (-1)) (fun r h' hq => ?_)
        obtain ⟨bq27, rfl, hq⟩ := hq
        rcases hq with ⟨rq27, hxq27, rfl, hoq27⟩ | ⟨eq27, hxq27, ⟨vq27, rfl, wq27⟩, hbq27⟩
        · have lq27 := (ask_ok hxq27).2.2.1
          have nq27 := (hN.2.2 2 (by decide)).1
          have mq27 : rq26.2 ≤ rq27.2 := by have h1 := (ask_ok hxq27).2.2.2.2.1; have h2 := tok_rg (W := W) (p := rq26.2) (hoq26.2).2.2.2.2.2.2.1 hT; omega
          show Ev X _ _ 108 [Vr 166, Vi 2, Vi ((30 * (j : Int)) + (n : Int))] [Vi ((rq27.1 : Nat) : Int), Vi ((30 * (j : Int)) + (n : Int)), Vr 186] ((SHv st dr rd), (ovl a s bq27)) _
          refine Ev.iast (c' := (ovl a s (updC bq27 186 ((30 * j + n)) ((rq27.1 : Nat) : Int)))) rfl (by decide) rfl (by omega) (by omega) (ovl_wm (by decide)) ?_
          refine Ev.steps (k := 12) (pc' := 155) (L' := [Vr 166, Vi 2, Vi ((30 * (j : Int)) + (n : Int))]) (S' := [Vi ((30 * (j : Int)) + (n : Int)), Vr 186, Vi ((30 * (j : Int)) + (n : Int)), Vr 187]) (h' := ((SHv st dr rd), (ovl a s (updC bq27 186 ((30 * j + n)) ((rq27.1 : Nat) : Int))))) (fun _ => rfl) ?_
          refine Ev.iald (v := ((rq27.1 : Nat) : Int)) rfl (by decide) rfl (by omega) (by omega) (show (updC bq27 186 ((30 * j + n)) ((rq27.1 : Nat) : Int)) 186 ((30 * j + n)) = ((rq27.1 : Nat) : Int) by rw [updC_sm]) ?_
          refine Ev.iast (c' := (ovl a s (updC (updC bq27 186 ((30 * j + n)) ((rq27.1 : Nat) : Int)) 187 ((30 * j + n)) ((rq27.1 : Nat) : Int)))) rfl (by decide) rfl (by omega) (by omega) (ovl_wm (by decide)) ?_
          refine Ev.steps (k := 5) (pc' := 166) (L' := [Vr 166, Vi 2, Vi ((30 * (j : Int)) + (n : Int))]) (S' := [Vi (bq27 166 38), Vi ((30 * (j : Int)) + (n : Int)), Vr 188]) (h' := ((SHv st dr rd), (ovl a s (updC (updC bq27 186 ((30 * j + n)) ((rq27.1 : Nat) : Int)) 187 ((30 * j + n)) ((rq27.1 : Nat) : Int))))) (fun _ => rfl) ?_
          rw [((hoq27.1 166 38 (by omega)).trans ((hoq26.1 166 38 (by omega)).trans ((hoq25.1 166 38 (by omega)).trans hR.1.2.2)))]
          refine Ev.iast (c' := (ovl a s (updC (updC (updC bq27 186 ((30 * j + n)) ((rq27.1 : Nat) : Int)) 187 ((30 * j + n)) ((rq27.1 : Nat) : Int)) 188 ((30 * j + n)) (c : Int)))) rfl (by decide) rfl (by omega) (by omega) (ovl_wm (by decide)) ?_
          refine Ev.call (k := 5) (pc1 := 181) (L1 := [Vr 166, Vi 2, Vi ((30 * (j : Int)) + (n : Int))]) (S1 := [Vl 2003330414, Vr 166]) (h1 := ((SHv st dr rd), (ovl a s (updC (updC (updC bq27 186 ((30 * j + n)) ((rq27.1 : Nat) : Int)) 187 ((30 * j + n)) ((rq27.1 : Nat) : Int)) 188 ((30 * j + n)) (c : Int))))) (m' := 181) (as := [Vr 166, Vl 2003330414]) (S' := []) (L0 := [Vr 166, Vl 2003330414, Vx]) (fun _ => rfl) rfl rfl rfl rfl rfl rfl (m_mustW (b := (updC (updC (updC bq27 186 ((30 * j + n)) ((rq27.1 : Nat) : Int)) 187 ((30 * j + n)) ((rq27.1 : Nat) : Int)) 188 ((30 * j + n)) (c : Int))) (((hoq27.2.up (by omega)).up (by omega)).up (by omega)) 12 (by decide) 2003330414 (by decide)) (fun r h' hq => ?_)
          obtain ⟨rfl, bq28, rfl, hq⟩ := hq
          rcases hq with ⟨pq28, hxq28, hoq28⟩ | ⟨eq28, hxq28, hbq28⟩
          · have mq28 : rq27.2 ≤ pq28 := by have h1 := (exp_ok hxq28).2.1; have h2 := tok_rg (W := W) (p := rq27.2) (hoq27.2).2.2.2.2.2.2.1 hT; omega
            show Ev X _ _ 184 [Vr 166, Vi 2, Vi ((30 * (j : Int)) + (n : Int))] [] ((SHv st dr rd), (ovl a s bq28)) _
            refine Ev.steps (k := 5) (pc' := 193) (L' := [Vr 166, Vi 2, Vi ((30 * (j : Int)) + (n : Int))]) (S' := [Vi (bq28 166 38), Vi ((30 * (j : Int)) + (n : Int)), Vr 189]) (h' := ((SHv st dr rd), (ovl a s bq28))) (fun _ => rfl) ?_
            rw [((hoq28.1 166 38 (by omega)).trans ((hoq27.1 166 38 (by omega)).trans ((hoq26.1 166 38 (by omega)).trans ((hoq25.1 166 38 (by omega)).trans hR.1.2.2))))]
            refine Ev.iast (c' := (ovl a s (updC bq28 189 ((30 * j + n)) (c : Int)))) rfl (by decide) rfl (by omega) (by omega) (ovl_wm (by decide)) ?_
            refine Ev.call (k := 2) (pc1 := 196) (L1 := [Vr 166, Vi 2, Vi ((30 * (j : Int)) + (n : Int))]) (S1 := [Vi 1, Vr 166]) (h1 := ((SHv st dr rd), (ovl a s (updC bq28 189 ((30 * j + n)) (c : Int))))) (m' := 169) (as := [Vr 166, Vi 1]) (S' := []) (L0 := [Vr 166, Vi 1, Vx]) (fun _ => rfl) rfl rfl rfl rfl rfl rfl (m_reads_tst (b := (updC bq28 189 ((30 * j + n)) (c : Int))) (c := c) (hoq28.2.up (by omega)) hNf (((((((((((hN.fr hoq25.1).up (by omega) (by omega) (by omega) (by omega) (by omega)).fr hoq26.1).up (by omega) (by omega) (by omega) (by omega) (by omega)).up (by omega) (by omega) (by omega) (by omega) (by omega)).fr hoq27.1).up (by omega) (by omega) (by omega) (by omega) (by omega)).up (by omega) (by omega) (by omega) (by omega) (by omega)).up (by omega) (by omega) (by omega) (by omega) (by omega)).fr hoq28.1).up (by omega) (by omega) (by omega) (by omega) (by omega)) ((hoq28.1 166 38 (by omega)).trans ((hoq27.1 166 38 (by omega)).trans ((hoq26.1 166 38 (by omega)).trans ((hoq25.1 166 38 (by omega)).trans hR.1.2.2)))) (by omega)) (fun r h' hq => ?_)
            obtain ⟨rfl, bq29, rfl, hq⟩ := hq
            rcases hq with ⟨rq29, hxq29, hrq29⟩ | ⟨eq29, hxq29, hbq29⟩
            · have hleq29 := hrq29.2.2.2.2
              show Ev X _ _ 199 [Vr 166, Vi 2, Vi ((30 * (j : Int)) + (n : Int))] [] ((SHv st dr rd), (ovl a s bq29)) _
              refine Ev.steps (k := 5) (pc' := 208) (L' := [Vr 166, Vi 2, Vi ((30 * (j : Int)) + (n : Int))]) (S' := [Vi (bq29 166 38), Vi ((30 * (j : Int)) + (n : Int)), Vr 190]) (h' := ((SHv st dr rd), (ovl a s bq29))) (fun _ => rfl) ?_
              rw [hrq29.2.2.2.1]
              refine Ev.iast (c' := (ovl a s (updC bq29 190 ((30 * j + n)) (((c + rq29.1.length) : Nat) : Int)))) rfl (by decide) rfl (by omega) (by omega) (ovl_wm (by decide)) ?_
              refine Ev.steps (k := 2) (pc' := 213) (L' := [Vr 166, Vi 2, Vi ((30 * (j : Int)) + (n : Int))]) (S' := [Vi (bq29 166 8)]) (h' := ((SHv st dr rd), (ovl a s (updC bq29 190 ((30 * j + n)) (((c + rq29.1.length) : Nat) : Int))))) (fun _ => rfl) ?_
              rw [hrq29.2.1.2.1]
              refine Ev.steps (k := 5) (pc' := 224) (L' := [Vr 166, Vi 2, Vi ((30 * (j : Int)) + (n : Int))]) (S' := [Vi (bq29 166 39), Vr 173]) (h' := ((SHv st dr rd), (ovl a s (updC bq29 190 ((30 * j + n)) (((c + rq29.1.length) : Nat) : Int))))) (fun _ => rfl) ?_
              rw [((hrq29.1 166 39 (by omega) (by omega) (by omega)).trans ((hoq28.1 166 39 (by omega)).trans ((hoq27.1 166 39 (by omega)).trans ((hoq26.1 166 39 (by omega)).trans ((hoq25.1 166 39 (by omega)).trans hR.1.2.1)))))]
              refine Ev.steps (k := 1) (pc' := 225) (L' := [Vr 166, Vi 2, Vi ((30 * (j : Int)) + (n : Int))]) (S' := [Vi (j : Int), Vr 173, Vi (j : Int), Vr 173]) (h' := ((SHv st dr rd), (ovl a s (updC bq29 190 ((30 * j + n)) (((c + rq29.1.length) : Nat) : Int))))) (fun _ => rfl) ?_
              refine Ev.iald (v := (n : Int)) rfl (by decide) rfl (by omega) (by omega) (((hrq29.1 173 j (by omega) (by omega) (by omega)).trans ((updC_nt (by omega)).trans ((hoq28.1 173 j (by omega)).trans ((updC_nt (by omega)).trans ((updC_nt (by omega)).trans ((updC_nt (by omega)).trans ((hoq27.1 173 j (by omega)).trans ((updC_nt (by omega)).trans ((updC_nt (by omega)).trans ((hoq26.1 173 j (by omega)).trans ((updC_nt (by omega)).trans ((hoq25.1 173 j (by omega)).trans hcn))))))))))))) ?_
              refine Ev.steps (k := 2) (pc' := 228) (L' := [Vr 166, Vi 2, Vi ((30 * (j : Int)) + (n : Int))]) (S' := [Vi (w32 ((n : Int) + 1)), Vi (j : Int), Vr 173]) (h' := ((SHv st dr rd), (ovl a s (updC bq29 190 ((30 * j + n)) (((c + rq29.1.length) : Nat) : Int))))) (fun _ => rfl) ?_
              rw [show (w32 ((n : Int) + 1)) = ((n : Int) + 1) from w32_id (by unfold R32; omega)]
              refine Ev.iast (c' := (ovl a s (updC (updC bq29 190 ((30 * j + n)) (((c + rq29.1.length) : Nat) : Int)) 173 j ((n : Int) + 1)))) rfl (by decide) rfl (by omega) (by omega) (ovl_wm (by decide)) ?_
              refine Ev.fin (k := 1) (r := none) (h' := ((SHv st dr rd), (ovl a s (updC (updC bq29 190 ((30 * j + n)) (((c + rq29.1.length) : Nat) : Int)) 173 j ((n : Int) + 1))))) (fun _ => rfl) ?_
              have hb : FrP (chLc j n c) b (updC (updC bq29 190 ((30 * j + n)) (((c + rq29.1.length) : Nat) : Int)) 173 j ((n : Int) + 1)) := (((((((((((((((FrP.rf : FrP (chLc j n c) b b).fn hoq25.1).up (by omega)).fn hoq26.1).up (by omega)).up (by omega)).fn hoq27.1).up (by omega)).up (by omega)).up (by omega)).fn hoq28.1).up (by omega)).fR hrq29.1 (fun o i h => by omega)).up (by omega)).up (by omega))
              refine ⟨rfl, _, rfl, Or.inl ⟨(_, rq29.2), ?_, ((hrq29.2.1.up (by omega)).up (by omega)), ⟨(c + rq29.1.length), hR.rule (kd := 2) (i := rq26.1) (x := ((rq27.1 : Nat) : Int)) (t := ((rq27.1 : Nat) : Int)) (l1 := []) (l2 := rq29.1) ⟨hnn, hn⟩ hb ((updC_nt (by omega)).trans ((updC_nt (by omega)).trans hrq29.2.2.2.1)) (by omega) updC_sm ((updC_nt (by omega)).trans ((updC_nt (by omega)).trans ((hrq29.1 184 ((30 * j + n)) (by omega) (by omega) (by omega)).trans ((updC_nt (by omega)).trans ((hoq28.1 184 ((30 * j + n)) (by omega)).trans ((updC_nt (by omega)).trans ((updC_nt (by omega)).trans ((updC_nt (by omega)).trans ((hoq27.1 184 ((30 * j + n)) (by omega)).trans ((updC_nt (by omega)).trans ((updC_nt (by omega)).trans ((hoq26.1 184 ((30 * j + n)) (by omega)).trans updC_sm)))))))))))) ((updC_nt (by omega)).trans ((updC_nt (by omega)).trans ((hrq29.1 185 ((30 * j + n)) (by omega) (by omega) (by omega)).trans ((updC_nt (by omega)).trans ((hoq28.1 185 ((30 * j + n)) (by omega)).trans ((updC_nt (by omega)).trans ((updC_nt (by omega)).trans ((updC_nt (by omega)).trans ((hoq27.1 185 ((30 * j + n)) (by omega)).trans ((updC_nt (by omega)).trans updC_sm)))))))))) ((updC_nt (by omega)).trans ((updC_nt (by omega)).trans ((hrq29.1 186 ((30 * j + n)) (by omega) (by omega) (by omega)).trans ((updC_nt (by omega)).trans ((hoq28.1 186 ((30 * j + n)) (by omega)).trans ((updC_nt (by omega)).trans ((updC_nt (by omega)).trans updC_sm))))))) ((updC_nt (by omega)).trans ((updC_nt (by omega)).trans ((hrq29.1 187 ((30 * j + n)) (by omega) (by omega) (by omega)).trans ((updC_nt (by omega)).trans ((hoq28.1 187 ((30 * j + n)) (by omega)).trans ((updC_nt (by omega)).trans updC_sm)))))) ⟨c, ((updC_nt (by omega)).trans ((updC_nt (by omega)).trans ((hrq29.1 189 ((30 * j + n)) (by omega) (by omega) (by omega)).trans updC_sm))), ((updC_nt (by omega)).trans updC_sm), by omega, (codM_u (codM_u hrq29.2.2.1 (by omega)) (by omega))⟩ (fun h => absurd h (by decide)), by dsimp only; omega⟩, hb.mo hP⟩⟩
              rw [if_neg (by omega), rul_k2 hct]
              unfold rulL2
              rw [hxq25, bnX_o, hxq26, bnX_o, hxq27, bnX_o, hxq28, bnX_o, hxq29, bnX_o]
              rfl
            · show Ev X _ _ 199 [Vr 166, Vi 2, Vi ((30 * (j : Int)) + (n : Int))] [] ((SHv st dr rd), (ovl a s bq29)) _
              refine Ev.steps (k := 5) (pc' := 208) (L' := [Vr 166, Vi 2, Vi ((30 * (j : Int)) + (n : Int))]) (S' := [Vi (bq29 166 38), Vi ((30 * (j : Int)) + (n : Int)), Vr 190]) (h' := ((SHv st dr rd), (ovl a s bq29))) (fun _ => rfl) ?_
              refine Ev.iast (c' := (ovl a s (updC bq29 190 ((30 * j + n)) (bq29 166 38)))) rfl (by decide) rfl (by omega) (by omega) (ovl_wm (by decide)) ?_
              refine Ev.steps (k := 2) (pc' := 213) (L' := [Vr 166, Vi 2, Vi ((30 * (j : Int)) + (n : Int))]) (S' := [Vi (bq29 166 8)]) (h' := ((SHv st dr rd), (ovl a s (updC bq29 190 ((30 * j + n)) (bq29 166 38))))) (fun _ => rfl) ?_
              rw [hbq29.2.2.2.1]
              refine Ev.ite (P := eq29.1 ≠ 0) (k := 1) (a := 229) (b := 216) (L' := [Vr 166, Vi 2, Vi ((30 * (j : Int)) + (n : Int))]) (S' := []) (h' := ((SHv st dr rd), (ovl a s (updC bq29 190 ((30 * j + n)) (bq29 166 38))))) (fun _ => rfl) (fun b213 => ?_) (fun b213 => ?_)
              · refine Ev.fin (k := 1) (r := none) (h' := ((SHv st dr rd), (ovl a s (updC bq29 190 ((30 * j + n)) (bq29 166 38))))) (fun _ => rfl) ?_
                refine ⟨rfl, _, rfl, Or.inr ⟨eq29, ?_, ⟨(((((((((((((((FrP.rf : FrP (chLc j n c) b b).fn hoq25.1).up (by omega)).fn hoq26.1).up (by omega)).up (by omega)).fn hoq27.1).up (by omega)).up (by omega)).up (by omega)).fn hoq28.1).up (by omega)).fR hbq29.1 (fun o i h => by omega)).up (by omega))).mo hP, (hbq29.2.1.up (by omega)), (hbq29.2.2.up (by omega))⟩⟩⟩
                rw [if_neg (by omega), rul_k2 hct]
                unfold rulL2
                rw [hxq25, bnX_o, hxq26, bnX_o, hxq27, bnX_o, hxq28, bnX_o, hxq29, bnX_e]
              · have := hbq29.2.2.1; omega
          · show Ev X _ _ 184 [Vr 166, Vi 2, Vi ((30 * (j : Int)) + (n : Int))] [] ((SHv st dr rd), (ovl a s bq28)) _
            refine Ev.steps (k := 5) (pc' := 193) (L' := [Vr 166, Vi 2, Vi ((30 * (j : Int)) + (n : Int))]) (S' := [Vi (bq28 166 38), Vi ((30 * (j : Int)) + (n : Int)), Vr 189]) (h' := ((SHv st dr rd), (ovl a s bq28))) (fun _ => rfl) ?_
            refine Ev.iast (c' := (ovl a s (updC bq28 189 ((30 * j + n)) (bq28 166 38)))) rfl (by decide) rfl (by omega) (by omega) (ovl_wm (by decide)) ?_
            refine Ev.call (k := 2) (pc1 := 196) (L1 := [Vr 166, Vi 2, Vi ((30 * (j : Int)) + (n : Int))]) (S1 := [Vi 1, Vr 166]) (h1 := ((SHv st dr rd), (ovl a s (updC bq28 189 ((30 * j + n)) (bq28 166 38))))) (m' := 169) (as := [Vr 166, Vi 1]) (S' := []) (L0 := [Vr 166, Vi 1, Vx]) (fun _ => rfl) rfl rfl rfl rfl rfl rfl (m_reads_br (b := (updC bq28 189 ((30 * j + n)) (bq28 166 38))) (hbq28.2.2.up (by omega)) 1) (fun r h' hq => ?_)
            obtain ⟨rfl, rfl⟩ := hq
            show Ev X _ _ 199 [Vr 166, Vi 2, Vi ((30 * (j : Int)) + (n : Int))] [] ((SHv st dr rd), (ovl a s (updC bq28 189 ((30 * j + n)) (bq28 166 38)))) _
            refine Ev.steps (k := 5) (pc' := 208) (L' := [Vr 166, Vi 2, Vi ((30 * (j : Int)) + (n : Int))]) (S' := [Vi (bq28 166 38), Vi ((30 * (j : Int)) + (n : Int)), Vr 190]) (h' := ((SHv st dr rd), (ovl a s (updC bq28 189 ((30 * j + n)) (bq28 166 38))))) (fun _ => rfl) ?_
            refine Ev.iast (c' := (ovl a s (updC (updC bq28 189 ((30 * j + n)) (bq28 166 38)) 190 ((30 * j + n)) (bq28 166 38)))) rfl (by decide) rfl (by omega) (by omega) (ovl_wm (by decide)) ?_
            refine Ev.steps (k := 2) (pc' := 213) (L' := [Vr 166, Vi 2, Vi ((30 * (j : Int)) + (n : Int))]) (S' := [Vi (bq28 166 8)]) (h' := ((SHv st dr rd), (ovl a s (updC (updC bq28 189 ((30 * j + n)) (bq28 166 38)) 190 ((30 * j + n)) (bq28 166 38))))) (fun _ => rfl) ?_
            rw [hbq28.2.2.2.1]
            refine Ev.ite (P := eq28.1 ≠ 0) (k := 1) (a := 229) (b := 216) (L' := [Vr 166, Vi 2, Vi ((30 * (j : Int)) + (n : Int))]) (S' := []) (h' := ((SHv st dr rd), (ovl a s (updC (updC bq28 189 ((30 * j + n)) (bq28 166 38)) 190 ((30 * j + n)) (bq28 166 38))))) (fun _ => rfl) (fun b213 => ?_) (fun b213 => ?_)
            · refine Ev.fin (k := 1) (r := none) (h' := ((SHv st dr rd), (ovl a s (updC (updC bq28 189 ((30 * j + n)) (bq28 166 38)) 190 ((30 * j + n)) (bq28 166 38))))) (fun _ => rfl) ?_
              refine ⟨rfl, _, rfl, Or.inr ⟨eq28, ?_, ⟨((((((((((((((FrP.rf : FrP (chLc j n c) b b).fn hoq25.1).up (by omega)).fn hoq26.1).up (by omega)).up (by omega)).fn hoq27.1).up (by omega)).up (by omega)).up (by omega)).fn hbq28.1).up (by omega)).up (by omega))).mo hP, ((hbq28.2.1.up (by omega)).up (by omega)), ((hbq28.2.2.up (by omega)).up (by omega))⟩⟩⟩
              rw [if_neg (by omega), rul_k2 hct]
              unfold rulL2
              rw [hxq25, bnX_o, hxq26, bnX_o, hxq27, bnX_o, hxq28, bnX_e]
            · have := hbq28.2.2.1; omega
        · show Ev X _ _ 108 [Vr 166, Vi 2, Vi ((30 * (j : Int)) + (n : Int))] [Vi vq27, Vi ((30 * (j : Int)) + (n : Int)), Vr 186] ((SHv st dr rd), (ovl a s bq27)) _
          refine Ev.iast (c' := (ovl a s (updC bq27 186 ((30 * j + n)) vq27))) rfl (by decide) rfl (by omega) (by omega) (ovl_wm (by decide)) ?_
          refine Ev.steps (k := 12) (pc' := 155) (L' := [Vr 166, Vi 2, Vi ((30 * (j : Int)) + (n : Int))]) (S' := [Vi ((30 * (j : Int)) + (n : Int)), Vr 186, Vi ((30 * (j : Int)) + (n : Int)), Vr 187]) (h' := ((SHv st dr rd), (ovl a s (updC bq27 186 ((30 * j + n)) vq27)))) (fun _ => rfl) ?_
          refine Ev.iald (v := vq27) rfl (by decide) rfl (by omega) (by omega) (show (updC bq27 186 ((30 * j + n)) vq27) 186 ((30 * j + n)) = vq27 by rw [updC_sm]) ?_
          refine Ev.iast (c' := (ovl a s (updC (updC bq27 186 ((30 * j + n)) vq27) 187 ((30 * j + n)) vq27))) rfl (by decide) rfl (by omega) (by omega) (ovl_wm (by decide)) ?_
          refine Ev.steps (k := 5) (pc' := 166) (L' := [Vr 166, Vi 2, Vi ((30 * (j : Int)) + (n : Int))]) (S' := [Vi (bq27 166 38), Vi ((30 * (j : Int)) + (n : Int)), Vr 188]) (h' := ((SHv st dr rd), (ovl a s (updC (updC bq27 186 ((30 * j + n)) vq27) 187 ((30 * j + n)) vq27)))) (fun _ => rfl) ?_
          refine Ev.iast (c' := (ovl a s (updC (updC (updC bq27 186 ((30 * j + n)) vq27) 187 ((30 * j + n)) vq27) 188 ((30 * j + n)) (bq27 166 38)))) rfl (by decide) rfl (by omega) (by omega) (ovl_wm (by decide)) ?_
          refine Ev.call (k := 5) (pc1 := 181) (L1 := [Vr 166, Vi 2, Vi ((30 * (j : Int)) + (n : Int))]) (S1 := [Vl 2003330414, Vr 166]) (h1 := ((SHv st dr rd), (ovl a s (updC (updC (updC bq27 186 ((30 * j + n)) vq27) 187 ((30 * j + n)) vq27) 188 ((30 * j + n)) (bq27 166 38))))) (m' := 181) (as := [Vr 166, Vl 2003330414]) (S' := []) (L0 := [Vr 166, Vl 2003330414, Vx]) (fun _ => rfl) rfl rfl rfl rfl rfl rfl (m_mustW_br (b := (updC (updC (updC bq27 186 ((30 * j + n)) vq27) 187 ((30 * j + n)) vq27) 188 ((30 * j + n)) (bq27 166 38))) (((hbq27.2.2.up (by omega)).up (by omega)).up (by omega)) 2003330414) (fun r h' hq => ?_)
          obtain ⟨rfl, rfl⟩ := hq
          show Ev X _ _ 184 [Vr 166, Vi 2, Vi ((30 * (j : Int)) + (n : Int))] [] ((SHv st dr rd), (ovl a s (updC (updC (updC bq27 186 ((30 * j + n)) vq27) 187 ((30 * j + n)) vq27) 188 ((30 * j + n)) (bq27 166 38)))) _
          refine Ev.steps (k := 5) (pc' := 193) (L' := [Vr 166, Vi 2, Vi ((30 * (j : Int)) + (n : Int))]) (S' := [Vi (bq27 166 38), Vi ((30 * (j : Int)) + (n : Int)), Vr 189]) (h' := ((SHv st dr rd), (ovl a s (updC (updC (updC bq27 186 ((30 * j + n)) vq27) 187 ((30 * j + n)) vq27) 188 ((30 * j + n)) (bq27 166 38))))) (fun _ => rfl) ?_
          refine Ev.iast (c' := (ovl a s (updC (updC (updC (updC bq27 186 ((30 * j + n)) vq27) 187 ((30 * j + n)) vq27) 188 ((30 * j + n)) (bq27 166 38)) 189 ((30 * j + n)) (bq27 166 38)))) rfl (by decide) rfl (by omega) (by omega) (ovl_wm (by decide)) ?_
          refine Ev.call (k := 2) (pc1 := 196) (L1 := [Vr 166, Vi 2, Vi ((30 * (j : Int)) + (n : Int))]) (S1 := [Vi 1, Vr 166]) (h1 := ((SHv st dr rd), (ovl a s (updC (updC (updC (updC bq27 186 ((30 * j + n)) vq27) 187 ((30 * j + n)) vq27) 188 ((30 * j + n)) (bq27 166 38)) 189 ((30 * j + n)) (bq27 166 38))))) (m' := 169) (as := [Vr 166, Vi 1]) (S' := []) (L0 := [Vr 166, Vi 1, Vx]) (fun _ => rfl) rfl rfl rfl rfl rfl rfl (m_reads_br (b := (updC (updC (updC (updC bq27 186 ((30 * j + n)) vq27) 187 ((30 * j + n)) vq27) 188 ((30 * j + n)) (bq27 166 38)) 189 ((30 * j + n)) (bq27 166 38))) ((((hbq27.2.2.up (by omega)).up (by omega)).up (by omega)).up (by omega)) 1) (fun r h' hq => ?_)
          obtain ⟨rfl, rfl⟩ := hq
          show Ev X _ _ 199 [Vr 166, Vi 2, Vi ((30 * (j : Int)) + (n : Int))] [] ((SHv st dr rd), (ovl a s (updC (updC (updC (updC bq27 186 ((30 * j + n)) vq27) 187 ((30 * j + n)) vq27) 188 ((30 * j + n)) (bq27 166 38)) 189 ((30 * j + n)) (bq27 166 38)))) _
          refine Ev.steps (k := 5) (pc' := 208) (L' := [Vr 166, Vi 2, Vi ((30 * (j : Int)) + (n : Int))]) (S' := [Vi (bq27 166 38), Vi ((30 * (j : Int)) + (n : Int)), Vr 190]) (h' := ((SHv st dr rd), (ovl a s (updC (updC (updC (updC bq27 186 ((30 * j + n)) vq27) 187 ((30 * j + n)) vq27) 188 ((30 * j + n)) (bq27 166 38)) 189 ((30 * j + n)) (bq27 166 38))))) (fun _ => rfl) ?_
          refine Ev.iast (c' := (ovl a s (updC (updC (updC (updC (updC bq27 186 ((30 * j + n)) vq27) 187 ((30 * j + n)) vq27) 188 ((30 * j + n)) (bq27 166 38)) 189 ((30 * j + n)) (bq27 166 38)) 190 ((30 * j + n)) (bq27 166 38)))) rfl (by decide) rfl (by omega) (by omega) (ovl_wm (by decide)) ?_
          refine Ev.steps (k := 2) (pc' := 213) (L' := [Vr 166, Vi 2, Vi ((30 * (j : Int)) + (n : Int))]) (S' := [Vi (bq27 166 8)]) (h' := ((SHv st dr rd), (ovl a s (updC (updC (updC (updC (updC bq27 186 ((30 * j + n)) vq27) 187 ((30 * j + n)) vq27) 188 ((30 * j + n)) (bq27 166 38)) 189 ((30 * j + n)) (bq27 166 38)) 190 ((30 * j + n)) (bq27 166 38))))) (fun _ => rfl) ?_
          rw [hbq27.2.2.2.1]
          refine Ev.ite (P := eq27.1 ≠ 0) (k := 1) (a := 229) (b := 216) (L' := [Vr 166, Vi 2, Vi ((30 * (j : Int)) + (n : Int))]) (S' := []) (h' := ((SHv st dr rd), (ovl a s (updC (updC (updC (updC (updC bq27 186 ((30 * j + n)) vq27) 187 ((30 * j + n)) vq27) 188 ((30 * j + n)) (bq27 166 38)) 189 ((30 * j + n)) (bq27 166 38)) 190 ((30 * j + n)) (bq27 166 38))))) (fun _ => rfl) (fun b213 => ?_) (fun b213 => ?_)
          · refine Ev.fin (k := 1) (r := none) (h' := ((SHv st dr rd), (ovl a s (updC (updC (updC (updC (updC bq27 186 ((30 * j + n)) vq27) 187 ((30 * j + n)) vq27) 188 ((30 * j + n)) (bq27 166 38)) 189 ((30 * j + n)) (bq27 166 38)) 190 ((30 * j + n)) (bq27 166 38))))) (fun _ => rfl) ?_
            refine ⟨rfl, _, rfl, Or.inr ⟨eq27, ?_, ⟨(((((((((((((FrP.rf : FrP (chLc j n c) b b).fn hoq25.1).up (by omega)).fn hoq26.1).up (by omega)).up (by omega)).fn hbq27.1).up (by omega)).up (by omega)).up (by omega)).up (by omega)).up (by omega))).mo hP, (((((hbq27.2.1.up (by omega)).up (by omega)).up (by omega)).up (by omega)).up (by omega)), (((((hbq27.2.2.up (by omega)).up (by omega)).up (by omega)).up (by omega)).up (by omega))⟩⟩⟩
            rw [if_neg (by omega), rul_k2 hct]
            unfold rulL2
            rw [hxq25, bnX_o, hxq26, bnX_o, hxq27, bnX_e]
          · have := hbq27.2.2.1; omega
      · show Ev X _ _ 63 [Vr 166, Vi 2, Vi ((30 * (j : Int)) + (n : Int))] [Vi vq26, Vi ((30 * (j : Int)) + (n : Int)), Vr 185] ((SHv st dr rd), (ovl a s bq26)) _
        refine Ev.iast (c' := (ovl a s (updC bq26 185 ((30 * j + n)) vq26))) rfl (by decide) rfl (by omega) (by omega) (ovl_wm (by decide)) ?_
        refine Ev.steps (k := 4) (pc' := 70) (L' := [Vr 166, Vi 2, Vi ((30 * (j : Int)) + (n : Int))]) (S' := [Vi (-1), Vi ((30 * (j : Int)) + (n : Int)), Vr 186]) (h' := ((SHv st dr rd), (ovl a s (updC bq26 185 ((30 * j + n)) vq26)))) (fun _ => rfl) ?_
        refine Ev.iast (c' := (ovl a s (updC (updC bq26 185 ((30 * j + n)) vq26) 186 ((30 * j + n)) (-1)))) rfl (by decide) rfl (by omega) (by omega) (ovl_wm (by decide)) ?_
        refine Ev.call (k := 14) (pc1 := 105) (L1 := [Vr 166, Vi 2, Vi ((30 * (j : Int)) + (n : Int))]) (S1 := [Vi (-1), Vi 2, Vr 166, Vi ((30 * (j : Int)) + (n : Int)), Vr 186]) (h1 := ((SHv st dr rd), (ovl a s (updC (updC bq26 185 ((30 * j + n)) vq26) 186 ((30 * j + n)) (-1))))) (m' := 165) (as := [Vr 166, Vi 2, Vi (-1)]) (S' := [Vi ((30 * (j : Int)) + (n : Int)), Vr 186]) (L0 := [Vr 166, Vi 2, Vi (-1), Vx]) (fun _ => rfl) rfl rfl rfl rfl rfl rfl (m_asked_br (b := (updC (updC bq26 185 ((30 * j + n)) vq26) 186 ((30 * j + n)) (-1))) ((hbq26.2.2.up (by omega)).up (by omega)) 2 (-1)) (fun r h' hq => ?_)
        obtain ⟨rfl, rfl⟩ := hq
        show Ev X _ _ 108 [Vr 166, Vi 2, Vi ((30 * (j : Int)) + (n : Int))] [Vi 0, Vi ((30 * (j : Int)) + (n : Int)), Vr 186] ((SHv st dr rd), (ovl a s (updC (updC bq26 185 ((30 * j + n)) vq26) 186 ((30 * j + n)) (-1)))) _
        refine Ev.iast (c' := (ovl a s (updC (updC (updC bq26 185 ((30 * j + n)) vq26) 186 ((30 * j + n)) (-1)) 186 ((30 * j + n)) 0))) rfl (by decide) rfl (by omega) (by omega) (ovl_wm (by decide)) ?_
        refine Ev.steps (k := 12) (pc' := 155) (L' := [Vr 166, Vi 2, Vi ((30 * (j : Int)) + (n : Int))]) (S' := [Vi ((30 * (j : Int)) + (n : Int)), Vr 186, Vi ((30 * (j : Int)) + (n : Int)), Vr 187]) (h' := ((SHv st dr rd), (ovl a s (updC (updC (updC bq26 185 ((30 * j + n)) vq26) 186 ((30 * j + n)) (-1)) 186 ((30 * j + n)) 0)))) (fun _ => rfl) ?_
        refine Ev.iald (v := 0) rfl (by decide) rfl (by omega) (by omega) (show (updC (updC (updC bq26 185 ((30 * j + n)) vq26) 186 ((30 * j + n)) (-1)) 186 ((30 * j + n)) 0) 186 ((30 * j + n)) = 0 by rw [updC_sm]) ?_
        refine Ev.iast (c' := (ovl a s (updC (updC (updC (updC bq26 185 ((30 * j + n)) vq26) 186 ((30 * j + n)) (-1)) 186 ((30 * j + n)) 0) 187 ((30 * j + n)) 0))) rfl (by decide) rfl (by omega) (by omega) (ovl_wm (by decide)) ?_
        refine Ev.steps (k := 5) (pc' := 166) (L' := [Vr 166, Vi 2, Vi ((30 * (j : Int)) + (n : Int))]) (S' := [Vi (bq26 166 38), Vi ((30 * (j : Int)) + (n : Int)), Vr 188]) (h' := ((SHv st dr rd), (ovl a s (updC (updC (updC (updC bq26 185 ((30 * j + n)) vq26) 186 ((30 * j + n)) (-1)) 186 ((30 * j + n)) 0) 187 ((30 * j + n)) 0)))) (fun _ => rfl) ?_
        refine Ev.iast (c' := (ovl a s (updC (updC (updC (updC (updC bq26 185 ((30 * j + n)) vq26) 186 ((30 * j + n)) (-1)) 186 ((30 * j + n)) 0) 187 ((30 * j + n)) 0) 188 ((30 * j + n)) (bq26 166 38)))) rfl (by decide) rfl (by omega) (by omega) (ovl_wm (by decide)) ?_
        refine Ev.call (k := 5) (pc1 := 181) (L1 := [Vr 166, Vi 2, Vi ((30 * (j : Int)) + (n : Int))]) (S1 := [Vl 2003330414, Vr 166]) (h1 := ((SHv st dr rd), (ovl a s (updC (updC (updC (updC (updC bq26 185 ((30 * j + n)) vq26) 186 ((30 * j + n)) (-1)) 186 ((30 * j + n)) 0) 187 ((30 * j + n)) 0) 188 ((30 * j + n)) (bq26 166 38))))) (m' := 181) (as := [Vr 166, Vl 2003330414]) (S' := []) (L0 := [Vr 166, Vl 2003330414, Vx]) (fun _ => rfl) rfl rfl rfl rfl rfl rfl (m_mustW_br (b := (updC (updC (updC (updC (updC bq26 185 ((30 * j + n)) vq26) 186 ((30 * j + n)) (-1)) 186 ((30 * j + n)) 0) 187 ((30 * j + n)) 0) 188 ((30 * j + n)) (bq26 166 38))) (((((hbq26.2.2.up (by omega)).up (by omega)).up (by omega)).up (by omega)).up (by omega)) 2003330414) (fun r h' hq => ?_)
        obtain ⟨rfl, rfl⟩ := hq
        show Ev X _ _ 184 [Vr 166, Vi 2, Vi ((30 * (j : Int)) + (n : Int))] [] ((SHv st dr rd), (ovl a s (updC (updC (updC (updC (updC bq26 185 ((30 * j + n)) vq26) 186 ((30 * j + n)) (-1)) 186 ((30 * j + n)) 0) 187 ((30 * j + n)) 0) 188 ((30 * j + n)) (bq26 166 38)))) _
        refine Ev.steps (k := 5) (pc' := 193) (L' := [Vr 166, Vi 2, Vi ((30 * (j : Int)) + (n : Int))]) (S' := [Vi (bq26 166 38), Vi ((30 * (j : Int)) + (n : Int)), Vr 189]) (h' := ((SHv st dr rd), (ovl a s (updC (updC (updC (updC (updC bq26 185 ((30 * j + n)) vq26) 186 ((30 * j + n)) (-1)) 186 ((30 * j + n)) 0) 187 ((30 * j + n)) 0) 188 ((30 * j + n)) (bq26 166 38))))) (fun _ => rfl) ?_
        refine Ev.iast (c' := (ovl a s (updC (updC (updC (updC (updC (updC bq26 185 ((30 * j + n)) vq26) 186 ((30 * j + n)) (-1)) 186 ((30 * j + n)) 0) 187 ((30 * j + n)) 0) 188 ((30 * j + n)) (bq26 166 38)) 189 ((30 * j + n)) (bq26 166 38)))) rfl (by decide) rfl (by omega) (by omega) (ovl_wm (by decide)) ?_
        refine Ev.call (k := 2) (pc1 := 196) (L1 := [Vr 166, Vi 2, Vi ((30 * (j : Int)) + (n : Int))]) (S1 := [Vi 1, Vr 166]) (h1 := ((SHv st dr rd), (ovl a s (updC (updC (updC (updC (updC (updC bq26 185 ((30 * j + n)) vq26) 186 ((30 * j + n)) (-1)) 186 ((30 * j + n)) 0) 187 ((30 * j + n)) 0) 188 ((30 * j + n)) (bq26 166 38)) 189 ((30 * j + n)) (bq26 166 38))))) (m' := 169) (as := [Vr 166, Vi 1]) (S' := []) (L0 := [Vr 166, Vi 1, Vx]) (fun _ => rfl) rfl rfl rfl rfl rfl rfl (m_reads_br (b := (updC (updC (updC (updC (updC (updC bq26 185 ((30 * j + n)) vq26) 186 ((30 * j + n)) (-1)) 186 ((30 * j + n)) 0) 187 ((30 * j + n)) 0) 188 ((30 * j + n)) (bq26 166 38)) 189 ((30 * j + n)) (bq26 166 38))) ((((((hbq26.2.2.up (by omega)).up (by omega)).up (by omega)).up (by omega)).up (by omega)).up (by omega)) 1) (fun r h' hq => ?_)
        obtain ⟨rfl, rfl⟩ := hq
        show Ev X _ _ 199 [Vr 166, Vi 2, Vi ((30 * (j : Int)) + (n : Int))] [] ((SHv st dr rd), (ovl a s (updC (updC (updC (updC (updC (updC bq26 185 ((30 * j + n)) vq26) 186 ((30 * j + n)) (-1)) 186 ((30 * j + n)) 0) 187 ((30 * j + n)) 0) 188 ((30 * j + n)) (bq26 166 38)) 189 ((30 * j + n)) (bq26 166 38)))) _
        refine Ev.steps (k := 5) (pc' := 208) (L' := [Vr 166, Vi 2, Vi ((30 * (j : Int)) + (n : Int))]) (S' := [Vi (bq26 166 38), Vi ((30 * (j : Int)) + (n : Int)), Vr 190]) (h' := ((SHv st dr rd), (ovl a s (updC (updC (updC (updC (updC (updC bq26 185 ((30 * j + n)) vq26) 186 ((30 * j + n)) (-1)) 186 ((30 * j + n)) 0) 187 ((30 * j + n)) 0) 188 ((30 * j + n)) (bq26 166 38)) 189 ((30 * j + n)) (bq26 166 38))))) (fun _ => rfl) ?_
        refine Ev.iast (c' := (ovl a s (updC (updC (updC (updC (updC (updC (updC bq26 185 ((30 * j + n)) vq26) 186 ((30 * j + n)) (-1)) 186 ((30 * j + n)) 0) 187 ((30 * j + n)) 0) 188 ((30 * j + n)) (bq26 166 38)) 189 ((30 * j + n)) (bq26 166 38)) 190 ((30 * j + n)) (bq26 166 38)))) rfl (by decide) rfl (by omega) (by omega) (ovl_wm (by decide)) ?_
        refine Ev.steps (k := 2) (pc' := 213) (L' := [Vr 166, Vi 2, Vi ((30 * (j : Int)) + (n : Int))]) (S' := [Vi (bq26 166 8)]) (h' := ((SHv st dr rd), (ovl a s (updC (updC (updC (updC (updC (updC (updC bq26 185 ((30 * j + n)) vq26) 186 ((30 * j + n)) (-1)) 186 ((30 * j + n)) 0) 187 ((30 * j + n)) 0) 188 ((30 * j + n)) (bq26 166 38)) 189 ((30 * j + n)) (bq26 166 38)) 190 ((30 * j + n)) (bq26 166 38))))) (fun _ => rfl) ?_
        rw [hbq26.2.2.2.1]
        refine Ev.ite (P := eq26.1 ≠ 0) (k := 1) (a := 229) (b := 216) (L' := [Vr 166, Vi 2, Vi ((30 * (j : Int)) + (n : Int))]) (S' := []) (h' := ((SHv st dr rd), (ovl a s (updC (updC (updC (updC (updC (updC (updC bq26 185 ((30 * j + n)) vq26) 186 ((30 * j + n)) (-1)) 186 ((30 * j + n)) 0) 187 ((30 * j + n)) 0) 188 ((30 * j + n)) (bq26 166 38)) 189 ((30 * j + n)) (bq26 166 38)) 190 ((30 * j + n)) (bq26 166 38))))) (fun _ => rfl) (fun b213 => ?_) (fun b213 => ?_)
        · refine Ev.fin (k := 1) (r := none) (h' := ((SHv st dr rd), (ovl a s (updC (updC (updC (updC (updC (updC (updC bq26 185 ((30 * j + n)) vq26) 186 ((30 * j + n)) (-1)) 186 ((30 * j + n)) 0) 187 ((30 * j + n)) 0) 188 ((30 * j + n)) (bq26 166 38)) 189 ((30 * j + n)) (bq26 166 38)) 190 ((30 * j + n)) (bq26 166 38))))) (fun _ => rfl) ?_
          refine ⟨rfl, _, rfl, Or.inr ⟨eq26, ?_, ⟨((((((((((((FrP.rf : FrP (chLc j n c) b b).fn hoq25.1).up (by omega)).fn hbq26.1).up (by omega)).up (by omega)).up (by omega)).up (by omega)).up (by omega)).up (by omega)).up (by omega))).mo hP, (((((((hbq26.2.1.up (by omega)).up (by omega)).up (by omega)).up (by omega)).up (by omega)).up (by omega)).up (by omega)), (((((((hbq26.2.2.up (by omega)).up (by omega)).up (by omega)).up (by omega)).up (by omega)).up (by omega)).up (by omega))⟩⟩⟩
          rw [if_neg (by omega), rul_k2 hct]
          unfold rulL2
          rw [hxq25, bnX_o, hxq26, bnX_e]
        · have := hbq26.2.2.1; omega
    · show Ev X _ _ 23 [Vr 166, Vi 2, Vx] [Vi 0] ((SHv st dr rd), (ovl a s bq25)) _
      refine Ev.fin (k := 2) (r := none) (h' := ((SHv st dr rd), (ovl a s bq25))) (fun _ => rfl) ?_
      refine ⟨rfl, _, rfl, Or.inr ⟨eq25, ?_, ⟨(((FrP.rf : FrP (chLc j n c) b b).fn hbq25.1)).mo hP, hbq25.2.1, hbq25.2.2⟩⟩⟩
      rw [if_neg (by omega), rul_k2 hct]
      unfold rulL2
      rw [hxq25, bnX_e]
  · refine Ev.call (k := 2) (pc1 := 20) (L1 := [Vr 166, Vi 2, Vx]) (S1 := [Vi 1, Vr 166]) (h1 := ((SHv st dr rd), (ovl a s b))) (m' := 164) (as := [Vr 166, Vi 1]) (S' := []) (L0 := [Vr 166, Vi 1]) (fun _ => rfl) rfl rfl rfl rfl rfl rfl (m_counts1 (b := b) hk) (fun r h' hq => ?_)
    obtain ⟨rfl, bq36, rfl, hbq36⟩ := hq
    show Ev X _ _ 23 [Vr 166, Vi 2, Vx] [Vi 0] ((SHv st dr rd), (ovl a s bq36)) _
    refine Ev.fin (k := 2) (r := none) (h' := ((SHv st dr rd), (ovl a s bq36))) (fun _ => rfl) ?_
    refine ⟨rfl, _, rfl, Or.inr ⟨(fltT W 5 p), if_pos (by omega), (FrP.rf : FrJ j b b).fn hbq36.1, hbq36.2⟩⟩
theorem m_rule3 {X : List Int} {d : Nat} {st dr rd : Int} {a s b : C3} {W : TXT} {p : Nat} (hk : TkM W p b) {S : STY} (hW : WfY S) {j c n : Nat} (hR : RqM S b j c) (hcp : c ≤ p) (hn : S.1 0 4 = (n : Int)) (hcn : b 173 j = (n : Int)) (hmx : n ≤ 30) (hct : tC W p = 265) : Ev X (d + 6) 163 0 [Vr 166, Vi 3, Vx] [] (SHv st dr rd, ovl a s b) (fun rr hh => rr = none ∧ ∃ b' : C3, hh = (SHv st dr rd, ovl a s b') ∧ ResC (if (30 : Int) ≤ S.1 0 4 then Except.error (fltT W 5 p) else rulT W S p) (fun r => TkM W r.2 b' ∧ (∃ c', RqM r.1 b' j c' ∧ c' ≤ r.2) ∧ FrJ j b b') (fun e => BjM W j b e b')) := by
  have hN := hR.nm hW
  have hj := hN.1
  have hT := hk.1.1
  have hT1 := hT.1
  have hNf : WfN S := ⟨hW.1.1, hW.2.2.1.1, hW.2.2.2.1.1⟩
  have hnn : nL S = n := by show (S.1 0 4).toNat = n; rw [hn]; exact Int.toNat_natCast n
  refine Ev.steps (k := 5) (pc' := 9) (L' := [Vr 166, Vi 3, Vx]) (S' := [Vi (b 166 39), Vr 173, Vr 166]) (h' := ((SHv st dr rd), (ovl a s b))) (fun _ => rfl) ?_
  rw [hR.1.2.1]
  refine Ev.iald (v := (n : Int)) rfl (by decide) rfl (by omega) (by omega) (hcn) ?_
  refine Ev.ite (P := (n : Int) ≠ 30) (k := 2) (a := 19) (b := 15) (L' := [Vr 166, Vi 3, Vx]) (S' := [Vr 166]) (h' := ((SHv st dr rd), (ovl a s b))) (fun _ => rfl) (fun b12 => ?_) (fun b12 => ?_)
  · have hn8 : n < 30 := by omega
    have hP : ∀ o i, chLc j n c o i → fjM j o i := fun o i h => by unfold fjM; omega
    refine Ev.call (k := 1) (pc1 := 20) (L1 := [Vr 166, Vi 3, Vx]) (S1 := [Vi 0, Vr 166]) (h1 := ((SHv st dr rd), (ovl a s b))) (m' := 164) (as := [Vr 166, Vi 0]) (S' := []) (L0 := [Vr 166, Vi 0]) (fun _ => rfl) rfl rfl rfl rfl rfl rfl (m_counts0 (b := b) hk) (fun r h' hq => ?_)
    obtain ⟨bq37, rfl, hq⟩ := hq
    rcases hq with ⟨pq37, hxq37, rfl, hoq37⟩ | ⟨eq37, hxq37, rfl, hbq37⟩
    · have mq37 : p ≤ pq37 := by have h1 := (got_ok hxq37).1; have h2 := tok_rg (W := W) (p := p) (hk).2.2.2.2.2.2.1 hT; omega
      show Ev X _ _ 23 [Vr 166, Vi 3, Vx] [Vi 1] ((SHv st dr rd), (ovl a s bq37)) _
      refine Ev.steps (k := 4) (pc' := 33) (L' := [Vr 166, Vi 3, Vx]) (S' := [Vi (bq37 166 39), Vi 30]) (h' := ((SHv st dr rd), (ovl a s bq37))) (fun _ => rfl) ?_
      rw [((hoq37.1 166 39 (by omega)).trans hR.1.2.1)]
      refine Ev.steps (k := 1) (pc' := 34) (L' := [Vr 166, Vi 3, Vx]) (S' := [Vi (w32 (30 * (j : Int)))]) (h' := ((SHv st dr rd), (ovl a s bq37))) (fun _ => rfl) ?_
      rw [show (w32 (30 * (j : Int))) = (30 * (j : Int)) from w32_id (by unfold R32; omega)]
      refine Ev.steps (k := 4) (pc' := 42) (L' := [Vr 166, Vi 3, Vx]) (S' := [Vi (bq37 166 39), Vr 173, Vi (30 * (j : Int))]) (h' := ((SHv st dr rd), (ovl a s bq37))) (fun _ => rfl) ?_
      rw [((hoq37.1 166 39 (by omega)).trans hR.1.2.1)]
      refine Ev.iald (v := (n : Int)) rfl (by decide) rfl (by omega) (by omega) (((hoq37.1 173 j (by omega)).trans hcn)) ?_
      refine Ev.steps (k := 1) (pc' := 44) (L' := [Vr 166, Vi 3, Vx]) (S' := [Vi (w32 ((30 * (j : Int)) + (n : Int)))]) (h' := ((SHv st dr rd), (ovl a s bq37))) (fun _ => rfl) ?_
      rw [show (w32 ((30 * (j : Int)) + (n : Int))) = ((30 * (j : Int)) + (n : Int)) from w32_id (by unfold R32; omega)]
      refine Ev.steps (k := 5) (pc' := 51) (L' := [Vr 166, Vi 3, Vi ((30 * (j : Int)) + (n : Int))]) (S' := [Vi 3, Vi ((30 * (j : Int)) + (n : Int)), Vr 184]) (h' := ((SHv st dr rd), (ovl a s bq37))) (fun _ => rfl) ?_
      refine Ev.iast (c' := (ovl a s (updC bq37 184 ((30 * j + n)) 3))) rfl (by decide) rfl (by omega) (by omega) (ovl_wm (by decide)) ?_
      refine Ev.call (k := 6) (pc1 := 60) (L1 := [Vr 166, Vi 3, Vi ((30 * (j : Int)) + (n : Int))]) (S1 := [Vi (-1), Vi 1, Vr 166, Vi ((30 * (j : Int)) + (n : Int)), Vr 185]) (h1 := ((SHv st dr rd), (ovl a s (updC bq37 184 ((30 * j + n)) 3)))) (m' := 165) (as := [Vr 166, Vi 1, Vi (-1)]) (S' := [Vi ((30 * (j : Int)) + (n : Int)), Vr 185]) (L0 := [Vr 166, Vi 1, Vi (-1), Vx]) (fun _ => rfl) rfl rfl rfl rfl rfl rfl (m_asked_1 (b := (updC bq37 184 ((30 * j + n)) 3)) (hoq37.2.up (by omega)) ((hN.fr hoq37.1).up (by omega) (by omega) (by omega) (by omega) (by omega)) (-1)) (fun r h' hq => ?_)
      obtain ⟨bq38, rfl, hq⟩ := hq
      rcases hq with ⟨rq38, hxq38, rfl, hoq38⟩ | ⟨eq38, hxq38, ⟨vq38, rfl, wq38⟩, hbq38⟩
      · have lq38 := (ask_ok hxq38).2.2.1
        have nq38 := (hN.2.2 1 (by decide)).1
        have mq38 : pq37 ≤ rq38.2 := by have h1 := (ask_ok hxq38).2.2.2.2.1; have h2 := tok_rg (W := W) (p := pq37) (hoq37.2).2.2.2.2.2.2.1 hT; omega
        show Ev X _ _ 63 [Vr 166, Vi 3, Vi ((30 * (j : Int)) + (n : Int))] [Vi ((rq38.1 : Nat) : Int), Vi ((30 * (j : Int)) + (n : Int)), Vr 185] ((SHv st dr rd), (ovl a s bq38)) _
        refine Ev.iast (c' := (ovl a s (updC bq38 185 ((30 * j + n)) ((rq38.1 : Nat) : Int)))) rfl (by decide) rfl (by omega) (by omega) (ovl_wm (by decide)) ?_
        refine Ev.steps (k := 4) (pc' := 70) (L' := [Vr 166, Vi 3, Vi ((30 * (j : Int)) + (n : Int))]) (S' := [Vi (-1), Vi ((30 * (j : Int)) + (n : Int)), Vr 186]) (h' := ((SHv st dr rd), (ovl a s (updC bq38 185 ((30 * j + n)) ((rq38.1 : Nat) : Int))))) (fun _ => rfl) ?_
        refine Ev.iast (c' := (ovl a s (updC (updC bq38 185 ((30 * j + n)) ((rq38.1 : Nat) : Int)) 186 ((30 * j + n)) (-1)))) rfl (by decide) rfl (by omega) (by omega) (ovl_wm (by decide)) ?_
        refine Ev.steps (k := 20) (pc' := 155) (L' := [Vr 166, Vi 3, Vi ((30 * (j : Int)) + (n : Int))]) (S' := [Vi ((30 * (j : Int)) + (n : Int)), Vr 186, Vi ((30 * (j : Int)) + (n : Int)), Vr 187]) (h' := ((SHv st dr rd), (ovl a s (updC (updC bq38 185 ((30 * j + n)) ((rq38.1 : Nat) : Int)) 186 ((30 * j + n)) (-1))))) (fun _ => rfl) ?_
        refine Ev.iald (v := (-1)) rfl (by decide) rfl (by omega) (by omega) (show (updC (updC bq38 185 ((30 * j + n)) ((rq38.1 : Nat) : Int)) 186 ((30 * j + n)) (-1)) 186 ((30 * j + n)) = (-1) by rw [updC_sm]) ?_
        refine Ev.iast (c' := (ovl a s (updC (updC (updC bq38 185 ((30 * j + n)) ((rq38.1 : Nat) : Int)) 186 ((30 * j + n)) (-1)) 187 ((30 * j + n)) (-1)))) rfl (by decide) rfl (by omega) (by omega) (ovl_wm (by decide)) ?_
        refine Ev.steps (k := 5) (pc' := 166) (L' := [Vr 166, Vi 3, Vi ((30 * (j : Int)) + (n : Int))]) (S' := [Vi (bq38 166 38), Vi ((30 * (j : Int)) + (n : Int)), Vr 188]) (h' := ((SHv st dr rd), (ovl a s (updC (updC (updC bq38 185 ((30 * j + n)) ((rq38.1 : Nat) : Int)) 186 ((30 * j + n)) (-1)) 187 ((30 * j + n)) (-1))))) (fun _ => rfl) ?_
        rw [((hoq38.1 166 38 (by omega)).trans ((hoq37.1 166 38 (by omega)).trans hR.1.2.2))]
        refine Ev.iast (c' := (ovl a s (updC (updC (updC (updC bq38 185 ((30 * j + n)) ((rq38.1 : Nat) : Int)) 186 ((30 * j + n)) (-1)) 187 ((30 * j + n)) (-1)) 188 ((30 * j + n)) (c : Int)))) rfl (by decide) rfl (by omega) (by omega) (ovl_wm (by decide)) ?_
        refine Ev.call (k := 5) (pc1 := 181) (L1 := [Vr 166, Vi 3, Vi ((30 * (j : Int)) + (n : Int))]) (S1 := [Vl 2003330414, Vr 166]) (h1 := ((SHv st dr rd), (ovl a s (updC (updC (updC (updC bq38 185 ((30 * j + n)) ((rq38.1 : Nat) : Int)) 186 ((30 * j + n)) (-1)) 187 ((30 * j + n)) (-1)) 188 ((30 * j + n)) (c : Int))))) (m' := 181) (as := [Vr 166, Vl 2003330414]) (S' := []) (L0 := [Vr 166, Vl 2003330414, Vx]) (fun _ => rfl) rfl rfl rfl rfl rfl rfl (m_mustW (b := (updC (updC (updC (updC bq38 185 ((30 * j + n)) ((rq38.1 : Nat) : Int)) 186 ((30 * j + n)) (-1)) 187 ((30 * j + n)) (-1)) 188 ((30 * j + n)) (c : Int))) ((((hoq38.2.up (by omega)).up (by omega)).up (by omega)).up (by omega)) 12 (by decide) 2003330414 (by decide)) (fun r h' hq => ?_)
        obtain ⟨rfl, bq39, rfl, hq⟩ := hq
        rcases hq with ⟨pq39, hxq39, hoq39⟩ | ⟨eq39, hxq39, hbq39⟩
        · have mq39 : rq38.2 ≤ pq39 := by have h1 := (exp_ok hxq39).2.1; have h2 := tok_rg (W := W) (p := rq38.2) (hoq38.2).2.2.2.2.2.2.1 hT; omega
          show Ev X _ _ 184 [Vr 166, Vi 3, Vi ((30 * (j : Int)) + (n : Int))] [] ((SHv st dr rd), (ovl a s bq39)) _
          refine Ev.steps (k := 5) (pc' := 193) (L' := [Vr 166, Vi 3, Vi ((30 * (j : Int)) + (n : Int))]) (S' := [Vi (bq39 166 38), Vi ((30 * (j : Int)) + (n : Int)), Vr 189]) (h' := ((SHv st dr rd), (ovl a s bq39))) (fun _ => rfl) ?_
          rw [((hoq39.1 166 38 (by omega)).trans ((hoq38.1 166 38 (by omega)).trans ((hoq37.1 166 38 (by omega)).trans hR.1.2.2)))]
          refine Ev.iast (c' := (ovl a s (updC bq39 189 ((30 * j + n)) (c : Int)))) rfl (by decide) rfl (by omega) (by omega) (ovl_wm (by decide)) ?_
          refine Ev.call (k := 2) (pc1 := 196) (L1 := [Vr 166, Vi 3, Vi ((30 * (j : Int)) + (n : Int))]) (S1 := [Vi 1, Vr 166]) (h1 := ((SHv st dr rd), (ovl a s (updC bq39 189 ((30 * j + n)) (c : Int))))) (m' := 169) (as := [Vr 166, Vi 1]) (S' := []) (L0 := [Vr 166, Vi 1, Vx]) (fun _ => rfl) rfl rfl rfl rfl rfl rfl (m_reads_tst (b := (updC bq39 189 ((30 * j + n)) (c : Int))) (c := c) (hoq39.2.up (by omega)) hNf (((((((((hN.fr hoq37.1).up (by omega) (by omega) (by omega) (by omega) (by omega)).fr hoq38.1).up (by omega) (by omega) (by omega) (by omega) (by omega)).up (by omega) (by omega) (by omega) (by omega) (by omega)).up (by omega) (by omega) (by omega) (by omega) (by omega)).up (by omega) (by omega) (by omega) (by omega) (by omega)).fr hoq39.1).up (by omega) (by omega) (by omega) (by omega) (by omega)) ((hoq39.1 166 38 (by omega)).trans ((hoq38.1 166 38 (by omega)).trans ((hoq37.1 166 38 (by omega)).trans hR.1.2.2))) (by omega)) (fun r h' hq => ?_)
          obtain ⟨rfl, bq40, rfl, hq⟩ := hq
          rcases hq with ⟨rq40, hxq40, hrq40⟩ | ⟨eq40, hxq40, hbq40⟩
          · have hleq40 := hrq40.2.2.2.2
            show Ev X _ _ 199 [Vr 166, Vi 3, Vi ((30 * (j : Int)) + (n : Int))] [] ((SHv st dr rd), (ovl a s bq40)) _
            refine Ev.steps (k := 5) (pc' := 208) (L' := [Vr 166, Vi 3, Vi ((30 * (j : Int)) + (n : Int))]) (S' := [Vi (bq40 166 38), Vi ((30 * (j : Int)) + (n : Int)), Vr 190]) (h' := ((SHv st dr rd), (ovl a s bq40))) (fun _ => rfl) ?_
            rw [hrq40.2.2.2.1]
            refine Ev.iast (c' := (ovl a s (updC bq40 190 ((30 * j + n)) (((c + rq40.1.length) : Nat) : Int)))) rfl (by decide) rfl (by omega) (by omega) (ovl_wm (by decide)) ?_
            refine Ev.steps (k := 2) (pc' := 213) (L' := [Vr 166, Vi 3, Vi ((30 * (j : Int)) + (n : Int))]) (S' := [Vi (bq40 166 8)]) (h' := ((SHv st dr rd), (ovl a s (updC bq40 190 ((30 * j + n)) (((c + rq40.1.length) : Nat) : Int))))) (fun _ => rfl) ?_
            rw [hrq40.2.1.2.1]
            refine Ev.steps (k := 5) (pc' := 224) (L' := [Vr 166, Vi 3, Vi ((30 * (j : Int)) + (n : Int))]) (S' := [Vi (bq40 166 39), Vr 173]) (h' := ((SHv st dr rd), (ovl a s (updC bq40 190 ((30 * j + n)) (((c + rq40.1.length) : Nat) : Int))))) (fun _ => rfl) ?_
            rw [((hrq40.1 166 39 (by omega) (by omega) (by omega)).trans ((hoq39.1 166 39 (by omega)).trans ((hoq38.1 166 39 (by omega)).trans ((hoq37.1 166 39 (by omega)).trans hR.1.2.1))))]
            refine Ev.steps (k := 1) (pc' := 225) (L' := [Vr 166, Vi 3, Vi ((30 * (j : Int)) + (n : Int))]) (S' := [Vi (j : Int), Vr 173, Vi (j : Int), Vr 173]) (h' := ((SHv st dr rd), (ovl a s (updC bq40 190 ((30 * j + n)) (((c + rq40.1.length) : Nat) : Int))))) (fun _ => rfl) ?_
            refine Ev.iald (v := (n : Int)) rfl (by decide) rfl (by omega) (by omega) (((hrq40.1 173 j (by omega) (by omega) (by omega)).trans ((updC_nt (by omega)).trans ((hoq39.1 173 j (by omega)).trans ((updC_nt (by omega)).trans ((updC_nt (by omega)).trans ((updC_nt (by omega)).trans ((updC_nt (by omega)).trans ((hoq38.1 173 j (by omega)).trans ((updC_nt (by omega)).trans ((hoq37.1 173 j (by omega)).trans hcn))))))))))) ?_
            refine Ev.steps (k := 2) (pc' := 228) (L' := [Vr 166, Vi 3, Vi ((30 * (j : Int)) + (n : Int))]) (S' := [Vi (w32 ((n : Int) + 1)), Vi (j : Int), Vr 173]) (h' := ((SHv st dr rd), (ovl a s (updC bq40 190 ((30 * j + n)) (((c + rq40.1.length) : Nat) : Int))))) (fun _ => rfl) ?_
            rw [show (w32 ((n : Int) + 1)) = ((n : Int) + 1) from w32_id (by unfold R32; omega)]
            refine Ev.iast (c' := (ovl a s (updC (updC bq40 190 ((30 * j + n)) (((c + rq40.1.length) : Nat) : Int)) 173 j ((n : Int) + 1)))) rfl (by decide) rfl (by omega) (by omega) (ovl_wm (by decide)) ?_
            refine Ev.fin (k := 1) (r := none) (h' := ((SHv st dr rd), (ovl a s (updC (updC bq40 190 ((30 * j + n)) (((c + rq40.1.length) : Nat) : Int)) 173 j ((n : Int) + 1))))) (fun _ => rfl) ?_
            have hb : FrP (chLc j n c) b (updC (updC bq40 190 ((30 * j + n)) (((c + rq40.1.length) : Nat) : Int)) 173 j ((n : Int) + 1)) := (((((((((((((FrP.rf : FrP (chLc j n c) b b).fn hoq37.1).up (by omega)).fn hoq38.1).up (by omega)).up (by omega)).up (by omega)).up (by omega)).fn hoq39.1).up (by omega)).fR hrq40.1 (fun o i h => by omega)).up (by omega)).up (by omega))
            refine ⟨rfl, _, rfl, Or.inl ⟨(_, rq40.2), ?_, ((hrq40.2.1.up (by omega)).up (by omega)), ⟨(c + rq40.1.length), hR.rule (kd := 3) (i := rq38.1) (x := (-1)) (t := (-1)) (l1 := []) (l2 := rq40.1) ⟨hnn, hn⟩ hb ((updC_nt (by omega)).trans ((updC_nt (by omega)).trans hrq40.2.2.2.1)) (by omega) updC_sm ((updC_nt (by omega)).trans ((updC_nt (by omega)).trans ((hrq40.1 184 ((30 * j + n)) (by omega) (by omega) (by omega)).trans ((updC_nt (by omega)).trans ((hoq39.1 184 ((30 * j + n)) (by omega)).trans ((updC_nt (by omega)).trans ((updC_nt (by omega)).trans ((updC_nt (by omega)).trans ((updC_nt (by omega)).trans ((hoq38.1 184 ((30 * j + n)) (by omega)).trans updC_sm)))))))))) ((updC_nt (by omega)).trans ((updC_nt (by omega)).trans ((hrq40.1 185 ((30 * j + n)) (by omega) (by omega) (by omega)).trans ((updC_nt (by omega)).trans ((hoq39.1 185 ((30 * j + n)) (by omega)).trans ((updC_nt (by omega)).trans ((updC_nt (by omega)).trans ((updC_nt (by omega)).trans updC_sm)))))))) ((updC_nt (by omega)).trans ((updC_nt (by omega)).trans ((hrq40.1 186 ((30 * j + n)) (by omega) (by omega) (by omega)).trans ((updC_nt (by omega)).trans ((hoq39.1 186 ((30 * j + n)) (by omega)).trans ((updC_nt (by omega)).trans ((updC_nt (by omega)).trans updC_sm))))))) ((updC_nt (by omega)).trans ((updC_nt (by omega)).trans ((hrq40.1 187 ((30 * j + n)) (by omega) (by omega) (by omega)).trans ((updC_nt (by omega)).trans ((hoq39.1 187 ((30 * j + n)) (by omega)).trans ((updC_nt (by omega)).trans updC_sm)))))) ⟨c, ((updC_nt (by omega)).trans ((updC_nt (by omega)).trans ((hrq40.1 189 ((30 * j + n)) (by omega) (by omega) (by omega)).trans updC_sm))), ((updC_nt (by omega)).trans updC_sm), by omega, (codM_u (codM_u hrq40.2.2.1 (by omega)) (by omega))⟩ (fun h => absurd h (by decide)), by dsimp only; omega⟩, hb.mo hP⟩⟩
            rw [if_neg (by omega), rul_k3 hct]
            unfold rulL3
            rw [hxq37, bnX_o, hxq38, bnX_o, hxq39, bnX_o, hxq40, bnX_o]
            rfl
          · show Ev X _ _ 199 [Vr 166, Vi 3, Vi ((30 * (j : Int)) + (n : Int))] [] ((SHv st dr rd), (ovl a s bq40)) _
            refine Ev.steps (k := 5) (pc' := 208) (L' := [Vr 166, Vi 3, Vi ((30 * (j : Int)) + (n : Int))]) (S' := [Vi (bq40 166 38), Vi ((30 * (j : Int)) + (n : Int)), Vr 190]) (h' := ((SHv st dr rd), (ovl a s bq40))) (fun _ => rfl) ?_
            refine Ev.iast (c' := (ovl a s (updC bq40 190 ((30 * j + n)) (bq40 166 38)))) rfl (by decide) rfl (by omega) (by omega) (ovl_wm (by decide)) ?_
            refine Ev.steps (k := 2) (pc' := 213) (L' := [Vr 166, Vi 3, Vi ((30 * (j : Int)) + (n : Int))]) (S' := [Vi (bq40 166 8)]) (h' := ((SHv st dr rd), (ovl a s (updC bq40 190 ((30 * j + n)) (bq40 166 38))))) (fun _ => rfl) ?_
            rw [hbq40.2.2.2.1]
            refine Ev.ite (P := eq40.1 ≠ 0) (k := 1) (a := 229) (b := 216) (L' := [Vr 166, Vi 3, Vi ((30 * (j : Int)) + (n : Int))]) (S' := []) (h' := ((SHv st dr rd), (ovl a s (updC bq40 190 ((30 * j + n)) (bq40 166 38))))) (fun _ => rfl) (fun b213 => ?_) (fun b213 => ?_)
            · refine Ev.fin (k := 1) (r := none) (h' := ((SHv st dr rd), (ovl a s (updC bq40 190 ((30 * j + n)) (bq40 166 38))))) (fun _ => rfl) ?_
              refine ⟨rfl, _, rfl, Or.inr ⟨eq40, ?_, ⟨(((((((((((((FrP.rf : FrP (chLc j n c) b b).fn hoq37.1).up (by omega)).fn hoq38.1).up (by omega)).up (by omega)).up (by omega)).up (by omega)).fn hoq39.1).up (by omega)).fR hbq40.1 (fun o i h => by omega)).up (by omega))).mo hP, (hbq40.2.1.up (by omega)), (hbq40.2.2.up (by omega))⟩⟩⟩
              rw [if_neg (by omega), rul_k3 hct]
              unfold rulL3
              rw [hxq37, bnX_o, hxq38, bnX_o, hxq39, bnX_o, hxq40, bnX_e]
            · have := hbq40.2.2.1; omega
        · show Ev X _ _ 184 [Vr 166, Vi 3, Vi ((30 * (j : Int)) + (n : Int))] [] ((SHv st dr rd), (ovl a s bq39)) _
          refine Ev.steps (k := 5) (pc' := 193) (L' := [Vr 166, Vi 3, Vi ((30 * (j : Int)) + (n : Int))]) (S' := [Vi (bq39 166 38), Vi ((30 * (j : Int)) + (n : Int)), Vr 189]) (h' := ((SHv st dr rd), (ovl a s bq39))) (fun _ => rfl) ?_
          refine Ev.iast (c' := (ovl a s (updC bq39 189 ((30 * j + n)) (bq39 166 38)))) rfl (by decide) rfl (by omega) (by omega) (ovl_wm (by decide)) ?_
          refine Ev.call (k := 2) (pc1 := 196) (L1 := [Vr 166, Vi 3, Vi ((30 * (j : Int)) + (n : Int))]) (S1 := [Vi 1, Vr 166]) (h1 := ((SHv st dr rd), (ovl a s (updC bq39 189 ((30 * j + n)) (bq39 166 38))))) (m' := 169) (as := [Vr 166, Vi 1]) (S' := []) (L0 := [Vr 166, Vi 1, Vx]) (fun _ => rfl) rfl rfl rfl rfl rfl rfl (m_reads_br (b := (updC bq39 189 ((30 * j + n)) (bq39 166 38))) (hbq39.2.2.up (by omega)) 1) (fun r h' hq => ?_)
          obtain ⟨rfl, rfl⟩ := hq
          show Ev X _ _ 199 [Vr 166, Vi 3, Vi ((30 * (j : Int)) + (n : Int))] [] ((SHv st dr rd), (ovl a s (updC bq39 189 ((30 * j + n)) (bq39 166 38)))) _
          refine Ev.steps (k := 5) (pc' := 208) (L' := [Vr 166, Vi 3, Vi ((30 * (j : Int)) + (n : Int))]) (S' := [Vi (bq39 166 38), Vi ((30 * (j : Int)) + (n : Int)), Vr 190]) (h' := ((SHv st dr rd), (ovl a s (updC bq39 189 ((30 * j + n)) (bq39 166 38))))) (fun _ => rfl) ?_
          refine Ev.iast (c' := (ovl a s (updC (updC bq39 189 ((30 * j + n)) (bq39 166 38)) 190 ((30 * j + n)) (bq39 166 38)))) rfl (by decide) rfl (by omega) (by omega) (ovl_wm (by decide)) ?_
          refine Ev.steps (k := 2) (pc' := 213) (L' := [Vr 166, Vi 3, Vi ((30 * (j : Int)) + (n : Int))]) (S' := [Vi (bq39 166 8)]) (h' := ((SHv st dr rd), (ovl a s (updC (updC bq39 189 ((30 * j + n)) (bq39 166 38)) 190 ((30 * j + n)) (bq39 166 38))))) (fun _ => rfl) ?_
          rw [hbq39.2.2.2.1]
          refine Ev.ite (P := eq39.1 ≠ 0) (k := 1) (a := 229) (b := 216) (L' := [Vr 166, Vi 3, Vi ((30 * (j : Int)) + (n : Int))]) (S' := []) (h' := ((SHv st dr rd), (ovl a s (updC (updC bq39 189 ((30 * j + n)) (bq39 166 38)) 190 ((30 * j + n)) (bq39 166 38))))) (fun _ => rfl) (fun b213 => ?_) (fun b213 => ?_)
          · refine Ev.fin (k := 1) (r := none) (h' := ((SHv st dr rd), (ovl a s (updC (updC bq39 189 ((30 * j + n)) (bq39 166 38)) 190 ((30 * j + n)) (bq39 166 38))))) (fun _ => rfl) ?_
            refine ⟨rfl, _, rfl, Or.inr ⟨eq39, ?_, ⟨((((((((((((FrP.rf : FrP (chLc j n c) b b).fn hoq37.1).up (by omega)).fn hoq38.1).up (by omega)).up (by omega)).up (by omega)).up (by omega)).fn hbq39.1).up (by omega)).up (by omega))).mo hP, ((hbq39.2.1.up (by omega)).up (by omega)), ((hbq39.2.2.up (by omega)).up (by omega))⟩⟩⟩
            rw [if_neg (by omega), rul_k3 hct]
            unfold rulL3
            rw [hxq37, bnX_o, hxq38, bnX_o, hxq39, bnX_e]
          · have := hbq39.2.2.1; omega
      · show Ev X _ _ 63 [Vr 166, Vi 3, Vi ((30 * (j : Int)) + (n : Int))] [Vi vq38, Vi ((30 * (j : Int)) + (n : Int)), Vr 185] ((SHv st dr rd), (ovl a s bq38)) _
        refine Ev.iast (c' := (ovl a s (updC bq38 185 ((30 * j + n)) vq38))) rfl (by decide) rfl (by omega) (by omega) (ovl_wm (by decide)) ?_
        refine Ev.steps (k := 4) (pc' := 70) (L' := [Vr 166, Vi 3, Vi ((30 * (j : Int)) + (n : Int))]) (S' := [Vi (-1), Vi ((30 * (j : Int)) + (n : Int)), Vr 186]) (h' := ((SHv st dr rd), (ovl a s (updC bq38 185 ((30 * j + n)) vq38)))) (fun _ => rfl) ?_
        refine Ev.iast (c' := (ovl a s (updC (updC bq38 185 ((30 * j + n)) vq38) 186 ((30 * j + n)) (-1)))) rfl (by decide) rfl (by omega) (by omega) (ovl_wm (by decide)) ?_
        refine Ev.steps (k := 20) (pc' := 155) (L' := [Vr 166, Vi 3, Vi ((30 * (j : Int)) + (n : Int))]) (S' := [Vi ((30 * (j : Int)) + (n : Int)), Vr 186, Vi ((30 * (j : Int)) + (n : Int)), Vr 187]) (h' := ((SHv st dr rd), (ovl a s (updC (updC bq38 185 ((30 * j + n)) vq38) 186 ((30 * j + n)) (-1))))) (fun _ => rfl) ?_
        refine Ev.iald (v := (-1)) rfl (by decide) rfl (by omega) (by omega) (show (updC (updC bq38 185 ((30 * j + n)) vq38) 186 ((30 * j + n)) (-1)) 186 ((30 * j + n)) = (-1) by rw [updC_sm]) ?_
        refine Ev.iast (c' := (ovl a s (updC (updC (updC bq38 185 ((30 * j + n)) vq38) 186 ((30 * j + n)) (-1)) 187 ((30 * j + n)) (-1)))) rfl (by decide) rfl (by omega) (by omega) (ovl_wm (by decide)) ?_
        refine Ev.steps (k := 5) (pc' := 166) (L' := [Vr 166, Vi 3, Vi ((30 * (j : Int)) + (n : Int))]) (S' := [Vi (bq38 166 38), Vi ((30 * (j : Int)) + (n : Int)), Vr 188]) (h' := ((SHv st dr rd), (ovl a s (updC (updC (updC bq38 185 ((30 * j + n)) vq38) 186 ((30 * j + n)) (-1)) 187 ((30 * j + n)) (-1))))) (fun _ => rfl) ?_
        refine Ev.iast (c' := (ovl a s (updC (updC (updC (updC bq38 185 ((30 * j + n)) vq38) 186 ((30 * j + n)) (-1)) 187 ((30 * j + n)) (-1)) 188 ((30 * j + n)) (bq38 166 38)))) rfl (by decide) rfl (by omega) (by omega) (ovl_wm (by decide)) ?_
        refine Ev.call (k := 5) (pc1 := 181) (L1 := [Vr 166, Vi 3, Vi ((30 * (j : Int)) + (n : Int))]) (S1 := [Vl 2003330414, Vr 166]) (h1 := ((SHv st dr rd), (ovl a s (updC (updC (updC (updC bq38 185 ((30 * j + n)) vq38) 186 ((30 * j + n)) (-1)) 187 ((30 * j + n)) (-1)) 188 ((30 * j + n)) (bq38 166 38))))) (m' := 181) (as := [Vr 166, Vl 2003330414]) (S' := []) (L0 := [Vr 166, Vl 2003330414, Vx]) (fun _ => rfl) rfl rfl rfl rfl rfl rfl (m_mustW_br (b := (updC (updC (updC (updC bq38 185 ((30 * j + n)) vq38) 186 ((30 * j + n)) (-1)) 187 ((30 * j + n)) (-1)) 188 ((30 * j + n)) (bq38 166 38))) ((((hbq38.2.2.up (by omega)).up (by omega)).up (by omega)).up (by omega)) 2003330414) (fun r h' hq => ?_)
        obtain ⟨rfl, rfl⟩ := hq
        show Ev X _ _ 184 [Vr 166, Vi 3, Vi ((30 * (j : Int)) + (n : Int))] [] ((SHv st dr rd), (ovl a s (updC (updC (updC (updC bq38 185 ((30 * j + n)) vq38) 186 ((30 * j + n)) (-1)) 187 ((30 * j + n)) (-1)) 188 ((30 * j + n)) (bq38 166 38)))) _
        refine Ev.steps (k := 5) (pc' := 193) (L' := [Vr 166, Vi 3, Vi ((30 * (j : Int)) + (n : Int))]) (S' := [Vi (bq38 166 38), Vi ((30 * (j : Int)) + (n : Int)), Vr 189]) (h' := ((SHv st dr rd), (ovl a s (updC (updC (updC (updC bq38 185 ((30 * j + n)) vq38) 186 ((30 * j + n)) (-1)) 187 ((30 * j + n)) (-1)) 188 ((30 * j + n)) (bq38 166 38))))) (fun _ => rfl) ?_
        refine Ev.iast (c' := (ovl a s (updC (updC (updC (updC (updC bq38 185 ((30 * j + n)) vq38) 186 ((30 * j + n)) (-1)) 187 ((30 * j + n)) (-1)) 188 ((30 * j + n)) (bq38 166 38)) 189 ((30 * j + n)) (bq38 166 38)))) rfl (by decide) rfl (by omega) (by omega) (ovl_wm (by decide)) ?_
        refine Ev.call (k := 2) (pc1 := 196) (L1 := [Vr 166, Vi 3, Vi ((30 * (j : Int)) + (n : Int))]) (S1 := [Vi 1, Vr 166]) (h1 := ((SHv st dr rd), (ovl a s (updC (updC (updC (updC (updC bq38 185 ((30 * j + n)) vq38) 186 ((30 * j + n)) (-1)) 187 ((30 * j + n)) (-1)) 188 ((30 * j + n)) (bq38 166 38)) 189 ((30 * j + n)) (bq38 166 38))))) (m' := 169) (as := [Vr 166, Vi 1]) (S' := []) (L0 := [Vr 166, Vi 1, Vx]) (fun _ => rfl) rfl rfl rfl rfl rfl rfl (m_reads_br (b := (updC (updC (updC (updC (updC bq38 185 ((30 * j + n)) vq38) 186 ((30 * j + n)) (-1)) 187 ((30 * j + n)) (-1)) 188 ((30 * j + n)) (bq38 166 38)) 189 ((30 * j + n)) (bq38 166 38))) (((((hbq38.2.2.up (by omega)).up (by omega)).up (by omega)).up (by omega)).up (by omega)) 1) (fun r h' hq => ?_)
        obtain ⟨rfl, rfl⟩ := hq
        show Ev X _ _ 199 [Vr 166, Vi 3, Vi ((30 * (j : Int)) + (n : Int))] [] ((SHv st dr rd), (ovl a s (updC (updC (updC (updC (updC bq38 185 ((30 * j + n)) vq38) 186 ((30 * j + n)) (-1)) 187 ((30 * j + n)) (-1)) 188 ((30 * j + n)) (bq38 166 38)) 189 ((30 * j + n)) (bq38 166 38)))) _
        refine Ev.steps (k := 5) (pc' := 208) (L' := [Vr 166, Vi 3, Vi ((30 * (j : Int)) + (n : Int))]) (S' := [Vi (bq38 166 38), Vi ((30 * (j : Int)) + (n : Int)), Vr 190]) (h' := ((SHv st dr rd), (ovl a s (updC (updC (updC (updC (updC bq38 185 ((30 * j + n)) vq38) 186 ((30 * j + n)) (-1)) 187 ((30 * j + n)) (-1)) 188 ((30 * j + n)) (bq38 166 38)) 189 ((30 * j + n)) (bq38 166 38))))) (fun _ => rfl) ?_
        refine Ev.iast (c' := (ovl a s (updC (updC (updC (updC (updC (updC bq38 185 ((30 * j + n)) vq38) 186 ((30 * j + n)) (-1)) 187 ((30 * j + n)) (-1)) 188 ((30 * j + n)) (bq38 166 38)) 189 ((30 * j + n)) (bq38 166 38)) 190 ((30 * j + n)) (bq38 166 38)))) rfl (by decide) rfl (by omega) (by omega) (ovl_wm (by decide)) ?_
        refine Ev.steps (k := 2) (pc' := 213) (L' := [Vr 166, Vi 3, Vi ((30 * (j : Int)) + (n : Int))]) (S' := [Vi (bq38 166 8)]) (h' := ((SHv st dr rd), (ovl a s (updC (updC (updC (updC (updC (updC bq38 185 ((30 * j + n)) vq38) 186 ((30 * j + n)) (-1)) 187 ((30 * j + n)) (-1)) 188 ((30 * j + n)) (bq38 166 38)) 189 ((30 * j + n)) (bq38 166 38)) 190 ((30 * j + n)) (bq38 166 38))))) (fun _ => rfl) ?_
        rw [hbq38.2.2.2.1]
        refine Ev.ite (P := eq38.1 ≠ 0) (k := 1) (a := 229) (b := 216) (L' := [Vr 166, Vi 3, Vi ((30 * (j : Int)) + (n : Int))]) (S' := []) (h' := ((SHv st dr rd), (ovl a s (updC (updC (updC (updC (updC (updC bq38 185 ((30 * j + n)) vq38) 186 ((30 * j + n)) (-1)) 187 ((30 * j + n)) (-1)) 188 ((30 * j + n)) (bq38 166 38)) 189 ((30 * j + n)) (bq38 166 38)) 190 ((30 * j + n)) (bq38 166 38))))) (fun _ => rfl) (fun b213 => ?_) (fun b213 => ?_)
        · refine Ev.fin (k := 1) (r := none) (h' := ((SHv st dr rd), (ovl a s (updC (updC (updC (updC (updC (updC bq38 185 ((30 * j + n)) vq38) 186 ((30 * j + n)) (-1)) 187 ((30 * j + n)) (-1)) 188 ((30 * j + n)) (bq38 166 38)) 189 ((30 * j + n)) (bq38 166 38)) 190 ((30 * j + n)) (bq38 166 38))))) (fun _ => rfl) ?_
          refine ⟨rfl, _, rfl, Or.inr ⟨eq38, ?_, ⟨(((((((((((FrP.rf : FrP (chLc j n c) b b).fn hoq37.1).up (by omega)).fn hbq38.1).up (by omega)).up (by omega)).up (by omega)).up (by omega)).up (by omega)).up (by omega))).mo hP, ((((((hbq38.2.1.up (by omega)).up (by omega)).up (by omega)).up (by omega)).up (by omega)).up (by omega)), ((((((hbq38.2.2.up (by omega)).up (by omega)).up (by omega)).up (by omega)).up (by omega)).up (by omega))⟩⟩⟩
          rw [if_neg (by omega), rul_k3 hct]
          unfold rulL3
          rw [hxq37, bnX_o, hxq38, bnX_e]
        · have := hbq38.2.2.1; omega
    · show Ev X _ _ 23 [Vr 166, Vi 3, Vx] [Vi 0] ((SHv st dr rd), (ovl a s bq37)) _
      refine Ev.fin (k := 2) (r := none) (h' := ((SHv st dr rd), (ovl a s bq37))) (fun _ => rfl) ?_
      refine ⟨rfl, _, rfl, Or.inr ⟨eq37, ?_, ⟨(((FrP.rf : FrP (chLc j n c) b b).fn hbq37.1)).mo hP, hbq37.2.1, hbq37.2.2⟩⟩⟩
      rw [if_neg (by omega), rul_k3 hct]
      unfold rulL3
      rw [hxq37, bnX_e]
  · refine Ev.call (k := 2) (pc1 := 20) (L1 := [Vr 166, Vi 3, Vx]) (S1 := [Vi 1, Vr 166]) (h1 := ((SHv st dr rd), (ovl a s b))) (m' := 164) (as := [Vr 166, Vi 1]) (S' := []) (L0 := [Vr 166, Vi 1]) (fun _ => rfl) rfl rfl rfl rfl rfl rfl (m_counts1 (b := b) hk) (fun r h' hq => ?_)
    obtain ⟨rfl, bq44, rfl, hbq44⟩ := hq
    show Ev X _ _ 23 [Vr 166, Vi 3, Vx] [Vi 0] ((SHv st dr rd), (ovl a s bq44)) _
    refine Ev.fin (k := 2) (r := none) (h' := ((SHv st dr rd), (ovl a s bq44))) (fun _ => rfl) ?_
    refine ⟨rfl, _, rfl, Or.inr ⟨(fltT W 5 p), if_pos (by omega), (FrP.rf : FrJ j b b).fn hbq44.1, hbq44.2⟩⟩
theorem m_rule4 {X : List Int} {d : Nat} {st dr rd : Int} {a s b : C3} {W : TXT} {p : Nat} (hk : TkM W p b) {S : STY} (hW : WfY S) {j c n : Nat} (hR : RqM S b j c) (hcp : c ≤ p) (hn : S.1 0 4 = (n : Int)) (hcn : b 173 j = (n : Int)) (hmx : n ≤ 30) (hct : tC W p = 266) : Ev X (d + 6) 163 0 [Vr 166, Vi 4, Vx] [] (SHv st dr rd, ovl a s b) (fun rr hh => rr = none ∧ ∃ b' : C3, hh = (SHv st dr rd, ovl a s b') ∧ ResC (if (30 : Int) ≤ S.1 0 4 then Except.error (fltT W 5 p) else rulT W S p) (fun r => TkM W r.2 b' ∧ (∃ c', RqM r.1 b' j c' ∧ c' ≤ r.2) ∧ FrJ j b b') (fun e => BjM W j b e b')) := by
  have hN := hR.nm hW
  have hj := hN.1
  have hT := hk.1.1
  have hT1 := hT.1
  have hNf : WfN S := ⟨hW.1.1, hW.2.2.1.1, hW.2.2.2.1.1⟩
  have hnn : nL S = n := by show (S.1 0 4).toNat = n; rw [hn]; exact Int.toNat_natCast n
  refine Ev.steps (k := 5) (pc' := 9) (L' := [Vr 166, Vi 4, Vx]) (S' := [Vi (b 166 39), Vr 173, Vr 166]) (h' := ((SHv st dr rd), (ovl a s b))) (fun _ => rfl) ?_
  rw [hR.1.2.1]
  refine Ev.iald (v := (n : Int)) rfl (by decide) rfl (by omega) (by omega) (hcn) ?_
  refine Ev.ite (P := (n : Int) ≠ 30) (k := 2) (a := 19) (b := 15) (L' := [Vr 166, Vi 4, Vx]) (S' := [Vr 166]) (h' := ((SHv st dr rd), (ovl a s b))) (fun _ => rfl) (fun b12 => ?_) (fun b12 => ?_)
  · have hn8 : n < 30 := by omega
    have hP : ∀ o i, chLc j n c o i → fjM j o i := fun o i h => by unfold fjM; omega
    refine Ev.call (k := 1) (pc1 := 20) (L1 := [Vr 166, Vi 4, Vx]) (S1 := [Vi 0, Vr 166]) (h1 := ((SHv st dr rd), (ovl a s b))) (m' := 164) (as := [Vr 166, Vi 0]) (S' := []) (L0 := [Vr 166, Vi 0]) (fun _ => rfl) rfl rfl rfl rfl rfl rfl (m_counts0 (b := b) hk) (fun r h' hq => ?_)
    obtain ⟨bq45, rfl, hq⟩ := hq
    rcases hq with ⟨pq45, hxq45, rfl, hoq45⟩ | ⟨eq45, hxq45, rfl, hbq45⟩
    · have mq45 : p ≤ pq45 := by have h1 := (got_ok hxq45).1; have h2 := tok_rg (W := W) (p := p) (hk).2.2.2.2.2.2.1 hT; omega
      show Ev X _ _ 23 [Vr 166, Vi 4, Vx] [Vi 1] ((SHv st dr rd), (ovl a s bq45)) _
      refine Ev.steps (k := 4) (pc' := 33) (L' := [Vr 166, Vi 4, Vx]) (S' := [Vi (bq45 166 39), Vi 30]) (h' := ((SHv st dr rd), (ovl a s bq45))) (fun _ => rfl) ?_
      rw [((hoq45.1 166 39 (by omega)).trans hR.1.2.1)]
      refine Ev.steps (k := 1) (pc' := 34) (L' := [Vr 166, Vi 4, Vx]) (S' := [Vi (w32 (30 * (j : Int)))]) (h' := ((SHv st dr rd), (ovl a s bq45))) (fun _ => rfl) ?_
      rw [show (w32 (30 * (j : Int))) = (30 * (j : Int)) from w32_id (by unfold R32; omega)]
      refine Ev.steps (k := 4) (pc' := 42) (L' := [Vr 166, Vi 4, Vx]) (S' := [Vi (bq45 166 39), Vr 173, Vi (30 * (j : Int))]) (h' := ((SHv st dr rd), (ovl a s bq45))) (fun _ => rfl) ?_
      rw [((hoq45.1 166 39 (by omega)).trans hR.1.2.1)]
      refine Ev.iald (v := (n : Int)) rfl (by decide) rfl (by omega) (by omega) (((hoq45.1 173 j (by omega)).trans hcn)) ?_
      refine Ev.steps (k := 1) (pc' := 44) (L' := [Vr 166, Vi 4, Vx]) (S' := [Vi (w32 ((30 * (j : Int)) + (n : Int)))]) (h' := ((SHv st dr rd), (ovl a s bq45))) (fun _ => rfl) ?_
      rw [show (w32 ((30 * (j : Int)) + (n : Int))) = ((30 * (j : Int)) + (n : Int)) from w32_id (by unfold R32; omega)]
      refine Ev.steps (k := 5) (pc' := 51) (L' := [Vr 166, Vi 4, Vi ((30 * (j : Int)) + (n : Int))]) (S' := [Vi 4, Vi ((30 * (j : Int)) + (n : Int)), Vr 184]) (h' := ((SHv st dr rd), (ovl a s bq45))) (fun _ => rfl) ?_
      refine Ev.iast (c' := (ovl a s (updC bq45 184 ((30 * j + n)) 4))) rfl (by decide) rfl (by omega) (by omega) (ovl_wm (by decide)) ?_
      refine Ev.call (k := 6) (pc1 := 60) (L1 := [Vr 166, Vi 4, Vi ((30 * (j : Int)) + (n : Int))]) (S1 := [Vi (-1), Vi 1, Vr 166, Vi ((30 * (j : Int)) + (n : Int)), Vr 185]) (h1 := ((SHv st dr rd), (ovl a s (updC bq45 184 ((30 * j + n)) 4)))) (m' := 165) (as := [Vr 166, Vi 1, Vi (-1)]) (S' := [Vi ((30 * (j : Int)) + (n : Int)), Vr 185]) (L0 := [Vr 166, Vi 1, Vi (-1), Vx]) (fun _ => rfl) rfl rfl rfl rfl rfl rfl (m_asked_1 (b := (updC bq45 184 ((30 * j + n)) 4)) (hoq45.2.up (by omega)) ((hN.fr hoq45.1).up (by omega) (by omega) (by omega) (by omega) (by omega)) (-1)) (fun r h' hq => ?_)
      obtain ⟨bq46, rfl, hq⟩ := hq
      rcases hq with ⟨rq46, hxq46, rfl, hoq46⟩ | ⟨eq46, hxq46, ⟨vq46, rfl, wq46⟩, hbq46⟩
      · have lq46 := (ask_ok hxq46).2.2.1
        have nq46 := (hN.2.2 1 (by decide)).1
        have mq46 : pq45 ≤ rq46.2 := by have h1 := (ask_ok hxq46).2.2.2.2.1; have h2 := tok_rg (W := W) (p := pq45) (hoq45.2).2.2.2.2.2.2.1 hT; omega
        show Ev X _ _ 63 [Vr 166, Vi 4, Vi ((30 * (j : Int)) + (n : Int))] [Vi ((rq46.1 : Nat) : Int), Vi ((30 * (j : Int)) + (n : Int)), Vr 185] ((SHv st dr rd), (ovl a s bq46)) _
        refine Ev.iast (c' := (ovl a s (updC bq46 185 ((30 * j + n)) ((rq46.1 : Nat) : Int)))) rfl (by decide) rfl (by omega) (by omega) (ovl_wm (by decide)) ?_
        refine Ev.steps (k := 4) (pc' := 70) (L' := [Vr 166, Vi 4, Vi ((30 * (j : Int)) + (n : Int))]) (S' := [Vi (-1), Vi ((30 * (j : Int)) + (n : Int)), Vr 186]) (h' := ((SHv st dr rd), (ovl a s (updC bq46 185 ((30 * j + n)) ((rq46.1 : Nat) : Int))))) (fun _ => rfl) ?_
        refine Ev.iast (c' := (ovl a s (updC (updC bq46 185 ((30 * j + n)) ((rq46.1 : Nat) : Int)) 186 ((30 * j + n)) (-1)))) rfl (by decide) rfl (by omega) (by omega) (ovl_wm (by decide)) ?_
        refine Ev.steps (k := 20) (pc' := 155) (L' := [Vr 166, Vi 4, Vi ((30 * (j : Int)) + (n : Int))]) (S' := [Vi ((30 * (j : Int)) + (n : Int)), Vr 186, Vi ((30 * (j : Int)) + (n : Int)), Vr 187]) (h' := ((SHv st dr rd), (ovl a s (updC (updC bq46 185 ((30 * j + n)) ((rq46.1 : Nat) : Int)) 186 ((30 * j + n)) (-1))))) (fun _ => rfl) ?_
        refine Ev.iald (v := (-1)) rfl (by decide) rfl (by omega) (by omega) (show (updC (updC bq46 185 ((30 * j + n)) ((rq46.1 : Nat) : Int)) 186 ((30 * j + n)) (-1)) 186 ((30 * j + n)) = (-1) by rw [updC_sm]) ?_
        refine Ev.iast (c' := (ovl a s (updC (updC (updC bq46 185 ((30 * j + n)) ((rq46.1 : Nat) : Int)) 186 ((30 * j + n)) (-1)) 187 ((30 * j + n)) (-1)))) rfl (by decide) rfl (by omega) (by omega) (ovl_wm (by decide)) ?_
        refine Ev.steps (k := 5) (pc' := 166) (L' := [Vr 166, Vi 4, Vi ((30 * (j : Int)) + (n : Int))]) (S' := [Vi (bq46 166 38), Vi ((30 * (j : Int)) + (n : Int)), Vr 188]) (h' := ((SHv st dr rd), (ovl a s (updC (updC (updC bq46 185 ((30 * j + n)) ((rq46.1 : Nat) : Int)) 186 ((30 * j + n)) (-1)) 187 ((30 * j + n)) (-1))))) (fun _ => rfl) ?_
        rw [((hoq46.1 166 38 (by omega)).trans ((hoq45.1 166 38 (by omega)).trans hR.1.2.2))]
        refine Ev.iast (c' := (ovl a s (updC (updC (updC (updC bq46 185 ((30 * j + n)) ((rq46.1 : Nat) : Int)) 186 ((30 * j + n)) (-1)) 187 ((30 * j + n)) (-1)) 188 ((30 * j + n)) (c : Int)))) rfl (by decide) rfl (by omega) (by omega) (ovl_wm (by decide)) ?_
        refine Ev.call (k := 5) (pc1 := 174) (L1 := [Vr 166, Vi 4, Vi ((30 * (j : Int)) + (n : Int))]) (S1 := [Vi 0, Vr 166]) (h1 := ((SHv st dr rd), (ovl a s (updC (updC (updC (updC bq46 185 ((30 * j + n)) ((rq46.1 : Nat) : Int)) 186 ((30 * j + n)) (-1)) 187 ((30 * j + n)) (-1)) 188 ((30 * j + n)) (c : Int))))) (m' := 169) (as := [Vr 166, Vi 0]) (S' := []) (L0 := [Vr 166, Vi 0, Vx]) (fun _ => rfl) rfl rfl rfl rfl rfl rfl (m_reads_sum (b := (updC (updC (updC (updC bq46 185 ((30 * j + n)) ((rq46.1 : Nat) : Int)) 186 ((30 * j + n)) (-1)) 187 ((30 * j + n)) (-1)) 188 ((30 * j + n)) (c : Int))) (c := c) ((((hoq46.2.up (by omega)).up (by omega)).up (by omega)).up (by omega)) (((((((hN.fr hoq45.1).up (by omega) (by omega) (by omega) (by omega) (by omega)).fr hoq46.1).up (by omega) (by omega) (by omega) (by omega) (by omega)).up (by omega) (by omega) (by omega) (by omega) (by omega)).up (by omega) (by omega) (by omega) (by omega) (by omega)).up (by omega) (by omega) (by omega) (by omega) (by omega)) ((hoq46.1 166 38 (by omega)).trans ((hoq45.1 166 38 (by omega)).trans hR.1.2.2)) (by omega)) (fun r h' hq => ?_)
        obtain ⟨rfl, bq47, rfl, hq⟩ := hq
        rcases hq with ⟨rq47, hxq47, hrq47⟩ | ⟨eq47, hxq47, hbq47⟩
        · have hleq47 := hrq47.2.2.2.2
          show Ev X _ _ 177 [Vr 166, Vi 4, Vi ((30 * (j : Int)) + (n : Int))] [] ((SHv st dr rd), (ovl a s bq47)) _
          refine Ev.call (k := 2) (pc1 := 181) (L1 := [Vr 166, Vi 4, Vi ((30 * (j : Int)) + (n : Int))]) (S1 := [Vl 2003330414, Vr 166]) (h1 := ((SHv st dr rd), (ovl a s bq47))) (m' := 181) (as := [Vr 166, Vl 2003330414]) (S' := []) (L0 := [Vr 166, Vl 2003330414, Vx]) (fun _ => rfl) rfl rfl rfl rfl rfl rfl (m_mustW (b := bq47) hrq47.2.1 12 (by decide) 2003330414 (by decide)) (fun r h' hq => ?_)
          obtain ⟨rfl, bq48, rfl, hq⟩ := hq
          rcases hq with ⟨pq48, hxq48, hoq48⟩ | ⟨eq48, hxq48, hbq48⟩
          · have mq48 : rq47.2 ≤ pq48 := by have h1 := (exp_ok hxq48).2.1; have h2 := tok_rg (W := W) (p := rq47.2) (hrq47.2.1).2.2.2.2.2.2.1 hT; omega
            show Ev X _ _ 184 [Vr 166, Vi 4, Vi ((30 * (j : Int)) + (n : Int))] [] ((SHv st dr rd), (ovl a s bq48)) _
            refine Ev.steps (k := 5) (pc' := 193) (L' := [Vr 166, Vi 4, Vi ((30 * (j : Int)) + (n : Int))]) (S' := [Vi (bq48 166 38), Vi ((30 * (j : Int)) + (n : Int)), Vr 189]) (h' := ((SHv st dr rd), (ovl a s bq48))) (fun _ => rfl) ?_
            rw [((hoq48.1 166 38 (by omega)).trans hrq47.2.2.2.1)]
            refine Ev.iast (c' := (ovl a s (updC bq48 189 ((30 * j + n)) (((c + rq47.1.length) : Nat) : Int)))) rfl (by decide) rfl (by omega) (by omega) (ovl_wm (by decide)) ?_
            refine Ev.call (k := 2) (pc1 := 196) (L1 := [Vr 166, Vi 4, Vi ((30 * (j : Int)) + (n : Int))]) (S1 := [Vi 1, Vr 166]) (h1 := ((SHv st dr rd), (ovl a s (updC bq48 189 ((30 * j + n)) (((c + rq47.1.length) : Nat) : Int))))) (m' := 169) (as := [Vr 166, Vi 1]) (S' := []) (L0 := [Vr 166, Vi 1, Vx]) (fun _ => rfl) rfl rfl rfl rfl rfl rfl (m_reads_tst (b := (updC bq48 189 ((30 * j + n)) (((c + rq47.1.length) : Nat) : Int))) (c := (c + rq47.1.length)) (hoq48.2.up (by omega)) hNf ((((((((((hN.fr hoq45.1).up (by omega) (by omega) (by omega) (by omega) (by omega)).fr hoq46.1).up (by omega) (by omega) (by omega) (by omega) (by omega)).up (by omega) (by omega) (by omega) (by omega) (by omega)).up (by omega) (by omega) (by omega) (by omega) (by omega)).up (by omega) (by omega) (by omega) (by omega) (by omega)).fR hrq47.1).fr hoq48.1).up (by omega) (by omega) (by omega) (by omega) (by omega)) ((hoq48.1 166 38 (by omega)).trans hrq47.2.2.2.1) (by omega)) (fun r h' hq => ?_)
            obtain ⟨rfl, bq49, rfl, hq⟩ := hq
            rcases hq with ⟨rq49, hxq49, hrq49⟩ | ⟨eq49, hxq49, hbq49⟩
            · have hleq49 := hrq49.2.2.2.2
              show Ev X _ _ 199 [Vr 166, Vi 4, Vi ((30 * (j : Int)) + (n : Int))] [] ((SHv st dr rd), (ovl a s bq49)) _
              refine Ev.steps (k := 5) (pc' := 208) (L' := [Vr 166, Vi 4, Vi ((30 * (j : Int)) + (n : Int))]) (S' := [Vi (bq49 166 38), Vi ((30 * (j : Int)) + (n : Int)), Vr 190]) (h' := ((SHv st dr rd), (ovl a s bq49))) (fun _ => rfl) ?_
              rw [hrq49.2.2.2.1]
              refine Ev.iast (c' := (ovl a s (updC bq49 190 ((30 * j + n)) ((((c + rq47.1.length) + rq49.1.length) : Nat) : Int)))) rfl (by decide) rfl (by omega) (by omega) (ovl_wm (by decide)) ?_
              refine Ev.steps (k := 2) (pc' := 213) (L' := [Vr 166, Vi 4, Vi ((30 * (j : Int)) + (n : Int))]) (S' := [Vi (bq49 166 8)]) (h' := ((SHv st dr rd), (ovl a s (updC bq49 190 ((30 * j + n)) ((((c + rq47.1.length) + rq49.1.length) : Nat) : Int))))) (fun _ => rfl) ?_
              rw [hrq49.2.1.2.1]
              refine Ev.steps (k := 5) (pc' := 224) (L' := [Vr 166, Vi 4, Vi ((30 * (j : Int)) + (n : Int))]) (S' := [Vi (bq49 166 39), Vr 173]) (h' := ((SHv st dr rd), (ovl a s (updC bq49 190 ((30 * j + n)) ((((c + rq47.1.length) + rq49.1.length) : Nat) : Int))))) (fun _ => rfl) ?_
              rw [((hrq49.1 166 39 (by omega) (by omega) (by omega)).trans ((hoq48.1 166 39 (by omega)).trans ((hrq47.1 166 39 (by omega) (by omega) (by omega)).trans ((hoq46.1 166 39 (by omega)).trans ((hoq45.1 166 39 (by omega)).trans hR.1.2.1)))))]
              refine Ev.steps (k := 1) (pc' := 225) (L' := [Vr 166, Vi 4, Vi ((30 * (j : Int)) + (n : Int))]) (S' := [Vi (j : Int), Vr 173, Vi (j : Int), Vr 173]) (h' := ((SHv st dr rd), (ovl a s (updC bq49 190 ((30 * j + n)) ((((c + rq47.1.length) + rq49.1.length) : Nat) : Int))))) (fun _ => rfl) ?_
              refine Ev.iald (v := (n : Int)) rfl (by decide) rfl (by omega) (by omega) (((hrq49.1 173 j (by omega) (by omega) (by omega)).trans ((updC_nt (by omega)).trans ((hoq48.1 173 j (by omega)).trans ((hrq47.1 173 j (by omega) (by omega) (by omega)).trans ((updC_nt (by omega)).trans ((updC_nt (by omega)).trans ((updC_nt (by omega)).trans ((updC_nt (by omega)).trans ((hoq46.1 173 j (by omega)).trans ((updC_nt (by omega)).trans ((hoq45.1 173 j (by omega)).trans hcn)))))))))))) ?_
              refine Ev.steps (k := 2) (pc' := 228) (L' := [Vr 166, Vi 4, Vi ((30 * (j : Int)) + (n : Int))]) (S' := [Vi (w32 ((n : Int) + 1)), Vi (j : Int), Vr 173]) (h' := ((SHv st dr rd), (ovl a s (updC bq49 190 ((30 * j + n)) ((((c + rq47.1.length) + rq49.1.length) : Nat) : Int))))) (fun _ => rfl) ?_
              rw [show (w32 ((n : Int) + 1)) = ((n : Int) + 1) from w32_id (by unfold R32; omega)]
              refine Ev.iast (c' := (ovl a s (updC (updC bq49 190 ((30 * j + n)) ((((c + rq47.1.length) + rq49.1.length) : Nat) : Int)) 173 j ((n : Int) + 1)))) rfl (by decide) rfl (by omega) (by omega) (ovl_wm (by decide)) ?_
              refine Ev.fin (k := 1) (r := none) (h' := ((SHv st dr rd), (ovl a s (updC (updC bq49 190 ((30 * j + n)) ((((c + rq47.1.length) + rq49.1.length) : Nat) : Int)) 173 j ((n : Int) + 1))))) (fun _ => rfl) ?_
              have hb : FrP (chLc j n c) b (updC (updC bq49 190 ((30 * j + n)) ((((c + rq47.1.length) + rq49.1.length) : Nat) : Int)) 173 j ((n : Int) + 1)) := ((((((((((((((FrP.rf : FrP (chLc j n c) b b).fn hoq45.1).up (by omega)).fn hoq46.1).up (by omega)).up (by omega)).up (by omega)).up (by omega)).fR hrq47.1 (fun o i h => by omega)).fn hoq48.1).up (by omega)).fR hrq49.1 (fun o i h => by omega)).up (by omega)).up (by omega))
              refine ⟨rfl, _, rfl, Or.inl ⟨(_, rq49.2), ?_, ((hrq49.2.1.up (by omega)).up (by omega)), ⟨((c + rq47.1.length) + rq49.1.length), hR.rule (kd := 4) (i := rq46.1) (x := (-1)) (t := (-1)) (l1 := rq47.1) (l2 := rq49.1) ⟨hnn, hn⟩ hb ((updC_nt (by omega)).trans ((updC_nt (by omega)).trans hrq49.2.2.2.1)) (by omega) updC_sm ((updC_nt (by omega)).trans ((updC_nt (by omega)).trans ((hrq49.1 184 ((30 * j + n)) (by omega) (by omega) (by omega)).trans ((updC_nt (by omega)).trans ((hoq48.1 184 ((30 * j + n)) (by omega)).trans ((hrq47.1 184 ((30 * j + n)) (by omega) (by omega) (by omega)).trans ((updC_nt (by omega)).trans ((updC_nt (by omega)).trans ((updC_nt (by omega)).trans ((updC_nt (by omega)).trans ((hoq46.1 184 ((30 * j + n)) (by omega)).trans updC_sm))))))))))) ((updC_nt (by omega)).trans ((updC_nt (by omega)).trans ((hrq49.1 185 ((30 * j + n)) (by omega) (by omega) (by omega)).trans ((updC_nt (by omega)).trans ((hoq48.1 185 ((30 * j + n)) (by omega)).trans ((hrq47.1 185 ((30 * j + n)) (by omega) (by omega) (by omega)).trans ((updC_nt (by omega)).trans ((updC_nt (by omega)).trans ((updC_nt (by omega)).trans updC_sm))))))))) ((updC_nt (by omega)).trans ((updC_nt (by omega)).trans ((hrq49.1 186 ((30 * j + n)) (by omega) (by omega) (by omega)).trans ((updC_nt (by omega)).trans ((hoq48.1 186 ((30 * j + n)) (by omega)).trans ((hrq47.1 186 ((30 * j + n)) (by omega) (by omega) (by omega)).trans ((updC_nt (by omega)).trans ((updC_nt (by omega)).trans updC_sm)))))))) ((updC_nt (by omega)).trans ((updC_nt (by omega)).trans ((hrq49.1 187 ((30 * j + n)) (by omega) (by omega) (by omega)).trans ((updC_nt (by omega)).trans ((hoq48.1 187 ((30 * j + n)) (by omega)).trans ((hrq47.1 187 ((30 * j + n)) (by omega) (by omega) (by omega)).trans ((updC_nt (by omega)).trans updC_sm))))))) ⟨(c + rq47.1.length), ((updC_nt (by omega)).trans ((updC_nt (by omega)).trans ((hrq49.1 189 ((30 * j + n)) (by omega) (by omega) (by omega)).trans updC_sm))), ((updC_nt (by omega)).trans updC_sm), by omega, (codM_u (codM_u hrq49.2.2.1 (by omega)) (by omega))⟩ (fun _ => ⟨c, ((updC_nt (by omega)).trans ((updC_nt (by omega)).trans ((hrq49.1 188 ((30 * j + n)) (by omega) (by omega) (by omega)).trans ((updC_nt (by omega)).trans ((hoq48.1 188 ((30 * j + n)) (by omega)).trans ((hrq47.1 188 ((30 * j + n)) (by omega) (by omega) (by omega)).trans updC_sm)))))), ((updC_nt (by omega)).trans ((updC_nt (by omega)).trans ((hrq49.1 189 ((30 * j + n)) (by omega) (by omega) (by omega)).trans updC_sm))), by omega, (codM_u (codM_u (codM_cg _ _ (fun i h1 h2 => ⟨hrq49.1 191 i (by omega) (by omega) (by omega), hrq49.1 192 i (by omega) (by omega) (by omega)⟩) (codM_u (codM_fn hoq48.1 hrq47.2.2.1) (by omega))) (by omega)) (by omega))⟩), by dsimp only; omega⟩, hb.mo hP⟩⟩
              rw [if_neg (by omega), rul_k4 hct]
              unfold rulL4
              rw [hxq45, bnX_o, hxq46, bnX_o, hxq47, bnX_o, hxq48, bnX_o, hxq49, bnX_o]
              rfl
            · show Ev X _ _ 199 [Vr 166, Vi 4, Vi ((30 * (j : Int)) + (n : Int))] [] ((SHv st dr rd), (ovl a s bq49)) _
              refine Ev.steps (k := 5) (pc' := 208) (L' := [Vr 166, Vi 4, Vi ((30 * (j : Int)) + (n : Int))]) (S' := [Vi (bq49 166 38), Vi ((30 * (j : Int)) + (n : Int)), Vr 190]) (h' := ((SHv st dr rd), (ovl a s bq49))) (fun _ => rfl) ?_
              refine Ev.iast (c' := (ovl a s (updC bq49 190 ((30 * j + n)) (bq49 166 38)))) rfl (by decide) rfl (by omega) (by omega) (ovl_wm (by decide)) ?_
              refine Ev.steps (k := 2) (pc' := 213) (L' := [Vr 166, Vi 4, Vi ((30 * (j : Int)) + (n : Int))]) (S' := [Vi (bq49 166 8)]) (h' := ((SHv st dr rd), (ovl a s (updC bq49 190 ((30 * j + n)) (bq49 166 38))))) (fun _ => rfl) ?_
              rw [hbq49.2.2.2.1]
              refine Ev.ite (P := eq49.1 ≠ 0) (k := 1) (a := 229) (b := 216) (L' := [Vr 166, Vi 4, Vi ((30 * (j : Int)) + (n : Int))]) (S' := []) (h' := ((SHv st dr rd), (ovl a s (updC bq49 190 ((30 * j + n)) (bq49 166 38))))) (fun _ => rfl) (fun b213 => ?_) (fun b213 => ?_)
              · refine Ev.fin (k := 1) (r := none) (h' := ((SHv st dr rd), (ovl a s (updC bq49 190 ((30 * j + n)) (bq49 166 38))))) (fun _ => rfl) ?_
                refine ⟨rfl, _, rfl, Or.inr ⟨eq49, ?_, ⟨((((((((((((((FrP.rf : FrP (chLc j n c) b b).fn hoq45.1).up (by omega)).fn hoq46.1).up (by omega)).up (by omega)).up (by omega)).up (by omega)).fR hrq47.1 (fun o i h => by omega)).fn hoq48.1).up (by omega)).fR hbq49.1 (fun o i h => by omega)).up (by omega))).mo hP, (hbq49.2.1.up (by omega)), (hbq49.2.2.up (by omega))⟩⟩⟩
                rw [if_neg (by omega), rul_k4 hct]
                unfold rulL4
                rw [hxq45, bnX_o, hxq46, bnX_o, hxq47, bnX_o, hxq48, bnX_o, hxq49, bnX_e]
              · have := hbq49.2.2.1; omega
          · show Ev X _ _ 184 [Vr 166, Vi 4, Vi ((30 * (j : Int)) + (n : Int))] [] ((SHv st dr rd), (ovl a s bq48)) _
            refine Ev.steps (k := 5) (pc' := 193) (L' := [Vr 166, Vi 4, Vi ((30 * (j : Int)) + (n : Int))]) (S' := [Vi (bq48 166 38), Vi ((30 * (j : Int)) + (n : Int)), Vr 189]) (h' := ((SHv st dr rd), (ovl a s bq48))) (fun _ => rfl) ?_
            refine Ev.iast (c' := (ovl a s (updC bq48 189 ((30 * j + n)) (bq48 166 38)))) rfl (by decide) rfl (by omega) (by omega) (ovl_wm (by decide)) ?_
            refine Ev.call (k := 2) (pc1 := 196) (L1 := [Vr 166, Vi 4, Vi ((30 * (j : Int)) + (n : Int))]) (S1 := [Vi 1, Vr 166]) (h1 := ((SHv st dr rd), (ovl a s (updC bq48 189 ((30 * j + n)) (bq48 166 38))))) (m' := 169) (as := [Vr 166, Vi 1]) (S' := []) (L0 := [Vr 166, Vi 1, Vx]) (fun _ => rfl) rfl rfl rfl rfl rfl rfl (m_reads_br (b := (updC bq48 189 ((30 * j + n)) (bq48 166 38))) (hbq48.2.2.up (by omega)) 1) (fun r h' hq => ?_)
            obtain ⟨rfl, rfl⟩ := hq
            show Ev X _ _ 199 [Vr 166, Vi 4, Vi ((30 * (j : Int)) + (n : Int))] [] ((SHv st dr rd), (ovl a s (updC bq48 189 ((30 * j + n)) (bq48 166 38)))) _
            refine Ev.steps (k := 5) (pc' := 208) (L' := [Vr 166, Vi 4, Vi ((30 * (j : Int)) + (n : Int))]) (S' := [Vi (bq48 166 38), Vi ((30 * (j : Int)) + (n : Int)), Vr 190]) (h' := ((SHv st dr rd), (ovl a s (updC bq48 189 ((30 * j + n)) (bq48 166 38))))) (fun _ => rfl) ?_
            refine Ev.iast (c' := (ovl a s (updC (updC bq48 189 ((30 * j + n)) (bq48 166 38)) 190 ((30 * j + n)) (bq48 166 38)))) rfl (by decide) rfl (by omega) (by omega) (ovl_wm (by decide)) ?_
            refine Ev.steps (k := 2) (pc' := 213) (L' := [Vr 166, Vi 4, Vi ((30 * (j : Int)) + (n : Int))]) (S' := [Vi (bq48 166 8)]) (h' := ((SHv st dr rd), (ovl a s (updC (updC bq48 189 ((30 * j + n)) (bq48 166 38)) 190 ((30 * j + n)) (bq48 166 38))))) (fun _ => rfl) ?_
            rw [hbq48.2.2.2.1]
            refine Ev.ite (P := eq48.1 ≠ 0) (k := 1) (a := 229) (b := 216) (L' := [Vr 166, Vi 4, Vi ((30 * (j : Int)) + (n : Int))]) (S' := []) (h' := ((SHv st dr rd), (ovl a s (updC (updC bq48 189 ((30 * j + n)) (bq48 166 38)) 190 ((30 * j + n)) (bq48 166 38))))) (fun _ => rfl) (fun b213 => ?_) (fun b213 => ?_)
            · refine Ev.fin (k := 1) (r := none) (h' := ((SHv st dr rd), (ovl a s (updC (updC bq48 189 ((30 * j + n)) (bq48 166 38)) 190 ((30 * j + n)) (bq48 166 38))))) (fun _ => rfl) ?_
              refine ⟨rfl, _, rfl, Or.inr ⟨eq48, ?_, ⟨(((((((((((((FrP.rf : FrP (chLc j n c) b b).fn hoq45.1).up (by omega)).fn hoq46.1).up (by omega)).up (by omega)).up (by omega)).up (by omega)).fR hrq47.1 (fun o i h => by omega)).fn hbq48.1).up (by omega)).up (by omega))).mo hP, ((hbq48.2.1.up (by omega)).up (by omega)), ((hbq48.2.2.up (by omega)).up (by omega))⟩⟩⟩
              rw [if_neg (by omega), rul_k4 hct]
              unfold rulL4
              rw [hxq45, bnX_o, hxq46, bnX_o, hxq47, bnX_o, hxq48, bnX_e]
            · have := hbq48.2.2.1; omega
        · show Ev X _ _ 177 [Vr 166, Vi 4, Vi ((30 * (j : Int)) + (n : Int))] [] ((SHv st dr rd), (ovl a s bq47)) _
          refine Ev.call (k := 2) (pc1 := 181) (L1 := [Vr 166, Vi 4, Vi ((30 * (j : Int)) + (n : Int))]) (S1 := [Vl 2003330414, Vr 166]) (h1 := ((SHv st dr rd), (ovl a s bq47))) (m' := 181) (as := [Vr 166, Vl 2003330414]) (S' := []) (L0 := [Vr 166, Vl 2003330414, Vx]) (fun _ => rfl) rfl rfl rfl rfl rfl rfl (m_mustW_br (b := bq47) hbq47.2.2 2003330414) (fun r h' hq => ?_)
          obtain ⟨rfl, rfl⟩ := hq
          show Ev X _ _ 184 [Vr 166, Vi 4, Vi ((30 * (j : Int)) + (n : Int))] [] ((SHv st dr rd), (ovl a s bq47)) _
          refine Ev.steps (k := 5) (pc' := 193) (L' := [Vr 166, Vi 4, Vi ((30 * (j : Int)) + (n : Int))]) (S' := [Vi (bq47 166 38), Vi ((30 * (j : Int)) + (n : Int)), Vr 189]) (h' := ((SHv st dr rd), (ovl a s bq47))) (fun _ => rfl) ?_
          refine Ev.iast (c' := (ovl a s (updC bq47 189 ((30 * j + n)) (bq47 166 38)))) rfl (by decide) rfl (by omega) (by omega) (ovl_wm (by decide)) ?_
          refine Ev.call (k := 2) (pc1 := 196) (L1 := [Vr 166, Vi 4, Vi ((30 * (j : Int)) + (n : Int))]) (S1 := [Vi 1, Vr 166]) (h1 := ((SHv st dr rd), (ovl a s (updC bq47 189 ((30 * j + n)) (bq47 166 38))))) (m' := 169) (as := [Vr 166, Vi 1]) (S' := []) (L0 := [Vr 166, Vi 1, Vx]) (fun _ => rfl) rfl rfl rfl rfl rfl rfl (m_reads_br (b := (updC bq47 189 ((30 * j + n)) (bq47 166 38))) (hbq47.2.2.up (by omega)) 1) (fun r h' hq => ?_)
          obtain ⟨rfl, rfl⟩ := hq
          show Ev X _ _ 199 [Vr 166, Vi 4, Vi ((30 * (j : Int)) + (n : Int))] [] ((SHv st dr rd), (ovl a s (updC bq47 189 ((30 * j + n)) (bq47 166 38)))) _
          refine Ev.steps (k := 5) (pc' := 208) (L' := [Vr 166, Vi 4, Vi ((30 * (j : Int)) + (n : Int))]) (S' := [Vi (bq47 166 38), Vi ((30 * (j : Int)) + (n : Int)), Vr 190]) (h' := ((SHv st dr rd), (ovl a s (updC bq47 189 ((30 * j + n)) (bq47 166 38))))) (fun _ => rfl) ?_
          refine Ev.iast (c' := (ovl a s (updC (updC bq47 189 ((30 * j + n)) (bq47 166 38)) 190 ((30 * j + n)) (bq47 166 38)))) rfl (by decide) rfl (by omega) (by omega) (ovl_wm (by decide)) ?_
          refine Ev.steps (k := 2) (pc' := 213) (L' := [Vr 166, Vi 4, Vi ((30 * (j : Int)) + (n : Int))]) (S' := [Vi (bq47 166 8)]) (h' := ((SHv st dr rd), (ovl a s (updC (updC bq47 189 ((30 * j + n)) (bq47 166 38)) 190 ((30 * j + n)) (bq47 166 38))))) (fun _ => rfl) ?_
          rw [hbq47.2.2.2.1]
          refine Ev.ite (P := eq47.1 ≠ 0) (k := 1) (a := 229) (b := 216) (L' := [Vr 166, Vi 4, Vi ((30 * (j : Int)) + (n : Int))]) (S' := []) (h' := ((SHv st dr rd), (ovl a s (updC (updC bq47 189 ((30 * j + n)) (bq47 166 38)) 190 ((30 * j + n)) (bq47 166 38))))) (fun _ => rfl) (fun b213 => ?_) (fun b213 => ?_)
          · refine Ev.fin (k := 1) (r := none) (h' := ((SHv st dr rd), (ovl a s (updC (updC bq47 189 ((30 * j + n)) (bq47 166 38)) 190 ((30 * j + n)) (bq47 166 38))))) (fun _ => rfl) ?_
            refine ⟨rfl, _, rfl, Or.inr ⟨eq47, ?_, ⟨((((((((((((FrP.rf : FrP (chLc j n c) b b).fn hoq45.1).up (by omega)).fn hoq46.1).up (by omega)).up (by omega)).up (by omega)).up (by omega)).fR hbq47.1 (fun o i h => by omega)).up (by omega)).up (by omega))).mo hP, ((hbq47.2.1.up (by omega)).up (by omega)), ((hbq47.2.2.up (by omega)).up (by omega))⟩⟩⟩
            rw [if_neg (by omega), rul_k4 hct]
            unfold rulL4
            rw [hxq45, bnX_o, hxq46, bnX_o, hxq47, bnX_e]
          · have := hbq47.2.2.1; omega
      · show Ev X _ _ 63 [Vr 166, Vi 4, Vi ((30 * (j : Int)) + (n : Int))] [Vi vq46, Vi ((30 * (j : Int)) + (n : Int)), Vr 185] ((SHv st dr rd), (ovl a s bq46)) _
        refine Ev.iast (c' := (ovl a s (updC bq46 185 ((30 * j + n)) vq46))) rfl (by decide) rfl (by omega) (by omega) (ovl_wm (by decide)) ?_
        refine Ev.steps (k := 4) (pc' := 70) (L' := [Vr 166, Vi 4, Vi ((30 * (j : Int)) + (n : Int))]) (S' := [Vi (-1), Vi ((30 * (j : Int)) + (n : Int)), Vr 186]) (h' := ((SHv st dr rd), (ovl a s (updC bq46 185 ((30 * j + n)) vq46)))) (fun _ => rfl) ?_
        refine Ev.iast (c' := (ovl a s (updC (updC bq46 185 ((30 * j + n)) vq46) 186 ((30 * j + n)) (-1)))) rfl (by decide) rfl (by omega) (by omega) (ovl_wm (by decide)) ?_
        refine Ev.steps (k := 20) (pc' := 155) (L' := [Vr 166, Vi 4, Vi ((30 * (j : Int)) + (n : Int))]) (S' := [Vi ((30 * (j : Int)) + (n : Int)), Vr 186, Vi ((30 * (j : Int)) + (n : Int)), Vr 187]) (h' := ((SHv st dr rd), (ovl a s (updC (updC bq46 185 ((30 * j + n)) vq46) 186 ((30 * j + n)) (-1))))) (fun _ => rfl) ?_
        refine Ev.iald (v := (-1)) rfl (by decide) rfl (by omega) (by omega) (show (updC (updC bq46 185 ((30 * j + n)) vq46) 186 ((30 * j + n)) (-1)) 186 ((30 * j + n)) = (-1) by rw [updC_sm]) ?_
        refine Ev.iast (c' := (ovl a s (updC (updC (updC bq46 185 ((30 * j + n)) vq46) 186 ((30 * j + n)) (-1)) 187 ((30 * j + n)) (-1)))) rfl (by decide) rfl (by omega) (by omega) (ovl_wm (by decide)) ?_
        refine Ev.steps (k := 5) (pc' := 166) (L' := [Vr 166, Vi 4, Vi ((30 * (j : Int)) + (n : Int))]) (S' := [Vi (bq46 166 38), Vi ((30 * (j : Int)) + (n : Int)), Vr 188]) (h' := ((SHv st dr rd), (ovl a s (updC (updC (updC bq46 185 ((30 * j + n)) vq46) 186 ((30 * j + n)) (-1)) 187 ((30 * j + n)) (-1))))) (fun _ => rfl) ?_
        refine Ev.iast (c' := (ovl a s (updC (updC (updC (updC bq46 185 ((30 * j + n)) vq46) 186 ((30 * j + n)) (-1)) 187 ((30 * j + n)) (-1)) 188 ((30 * j + n)) (bq46 166 38)))) rfl (by decide) rfl (by omega) (by omega) (ovl_wm (by decide)) ?_
        refine Ev.call (k := 5) (pc1 := 174) (L1 := [Vr 166, Vi 4, Vi ((30 * (j : Int)) + (n : Int))]) (S1 := [Vi 0, Vr 166]) (h1 := ((SHv st dr rd), (ovl a s (updC (updC (updC (updC bq46 185 ((30 * j + n)) vq46) 186 ((30 * j + n)) (-1)) 187 ((30 * j + n)) (-1)) 188 ((30 * j + n)) (bq46 166 38))))) (m' := 169) (as := [Vr 166, Vi 0]) (S' := []) (L0 := [Vr 166, Vi 0, Vx]) (fun _ => rfl) rfl rfl rfl rfl rfl rfl (m_reads_br (b := (updC (updC (updC (updC bq46 185 ((30 * j + n)) vq46) 186 ((30 * j + n)) (-1)) 187 ((30 * j + n)) (-1)) 188 ((30 * j + n)) (bq46 166 38))) ((((hbq46.2.2.up (by omega)).up (by omega)).up (by omega)).up (by omega)) 0) (fun r h' hq => ?_)
        obtain ⟨rfl, rfl⟩ := hq
        show Ev X _ _ 177 [Vr 166, Vi 4, Vi ((30 * (j : Int)) + (n : Int))] [] ((SHv st dr rd), (ovl a s (updC (updC (updC (updC bq46 185 ((30 * j + n)) vq46) 186 ((30 * j + n)) (-1)) 187 ((30 * j + n)) (-1)) 188 ((30 * j + n)) (bq46 166 38)))) _
        refine Ev.call (k := 2) (pc1 := 181) (L1 := [Vr 166, Vi 4, Vi ((30 * (j : Int)) + (n : Int))]) (S1 := [Vl 2003330414, Vr 166]) (h1 := ((SHv st dr rd), (ovl a s (updC (updC (updC (updC bq46 185 ((30 * j + n)) vq46) 186 ((30 * j + n)) (-1)) 187 ((30 * j + n)) (-1)) 188 ((30 * j + n)) (bq46 166 38))))) (m' := 181) (as := [Vr 166, Vl 2003330414]) (S' := []) (L0 := [Vr 166, Vl 2003330414, Vx]) (fun _ => rfl) rfl rfl rfl rfl rfl rfl (m_mustW_br (b := (updC (updC (updC (updC bq46 185 ((30 * j + n)) vq46) 186 ((30 * j + n)) (-1)) 187 ((30 * j + n)) (-1)) 188 ((30 * j + n)) (bq46 166 38))) ((((hbq46.2.2.up (by omega)).up (by omega)).up (by omega)).up (by omega)) 2003330414) (fun r h' hq => ?_)
        obtain ⟨rfl, rfl⟩ := hq
        show Ev X _ _ 184 [Vr 166, Vi 4, Vi ((30 * (j : Int)) + (n : Int))] [] ((SHv st dr rd), (ovl a s (updC (updC (updC (updC bq46 185 ((30 * j + n)) vq46) 186 ((30 * j + n)) (-1)) 187 ((30 * j + n)) (-1)) 188 ((30 * j + n)) (bq46 166 38)))) _
        refine Ev.steps (k := 5) (pc' := 193) (L' := [Vr 166, Vi 4, Vi ((30 * (j : Int)) + (n : Int))]) (S' := [Vi (bq46 166 38), Vi ((30 * (j : Int)) + (n : Int)), Vr 189]) (h' := ((SHv st dr rd), (ovl a s (updC (updC (updC (updC bq46 185 ((30 * j + n)) vq46) 186 ((30 * j + n)) (-1)) 187 ((30 * j + n)) (-1)) 188 ((30 * j + n)) (bq46 166 38))))) (fun _ => rfl) ?_
        refine Ev.iast (c' := (ovl a s (updC (updC (updC (updC (updC bq46 185 ((30 * j + n)) vq46) 186 ((30 * j + n)) (-1)) 187 ((30 * j + n)) (-1)) 188 ((30 * j + n)) (bq46 166 38)) 189 ((30 * j + n)) (bq46 166 38)))) rfl (by decide) rfl (by omega) (by omega) (ovl_wm (by decide)) ?_
        refine Ev.call (k := 2) (pc1 := 196) (L1 := [Vr 166, Vi 4, Vi ((30 * (j : Int)) + (n : Int))]) (S1 := [Vi 1, Vr 166]) (h1 := ((SHv st dr rd), (ovl a s (updC (updC (updC (updC (updC bq46 185 ((30 * j + n)) vq46) 186 ((30 * j + n)) (-1)) 187 ((30 * j + n)) (-1)) 188 ((30 * j + n)) (bq46 166 38)) 189 ((30 * j + n)) (bq46 166 38))))) (m' := 169) (as := [Vr 166, Vi 1]) (S' := []) (L0 := [Vr 166, Vi 1, Vx]) (fun _ => rfl) rfl rfl rfl rfl rfl rfl (m_reads_br (b := (updC (updC (updC (updC (updC bq46 185 ((30 * j + n)) vq46) 186 ((30 * j + n)) (-1)) 187 ((30 * j + n)) (-1)) 188 ((30 * j + n)) (bq46 166 38)) 189 ((30 * j + n)) (bq46 166 38))) (((((hbq46.2.2.up (by omega)).up (by omega)).up (by omega)).up (by omega)).up (by omega)) 1) (fun r h' hq => ?_)
        obtain ⟨rfl, rfl⟩ := hq
        show Ev X _ _ 199 [Vr 166, Vi 4, Vi ((30 * (j : Int)) + (n : Int))] [] ((SHv st dr rd), (ovl a s (updC (updC (updC (updC (updC bq46 185 ((30 * j + n)) vq46) 186 ((30 * j + n)) (-1)) 187 ((30 * j + n)) (-1)) 188 ((30 * j + n)) (bq46 166 38)) 189 ((30 * j + n)) (bq46 166 38)))) _
        refine Ev.steps (k := 5) (pc' := 208) (L' := [Vr 166, Vi 4, Vi ((30 * (j : Int)) + (n : Int))]) (S' := [Vi (bq46 166 38), Vi ((30 * (j : Int)) + (n : Int)), Vr 190]) (h' := ((SHv st dr rd), (ovl a s (updC (updC (updC (updC (updC bq46 185 ((30 * j + n)) vq46) 186 ((30 * j + n)) (-1)) 187 ((30 * j + n)) (-1)) 188 ((30 * j + n)) (bq46 166 38)) 189 ((30 * j + n)) (bq46 166 38))))) (fun _ => rfl) ?_
        refine Ev.iast (c' := (ovl a s (updC (updC (updC (updC (updC (updC bq46 185 ((30 * j + n)) vq46) 186 ((30 * j + n)) (-1)) 187 ((30 * j + n)) (-1)) 188 ((30 * j + n)) (bq46 166 38)) 189 ((30 * j + n)) (bq46 166 38)) 190 ((30 * j + n)) (bq46 166 38)))) rfl (by decide) rfl (by omega) (by omega) (ovl_wm (by decide)) ?_
        refine Ev.steps (k := 2) (pc' := 213) (L' := [Vr 166, Vi 4, Vi ((30 * (j : Int)) + (n : Int))]) (S' := [Vi (bq46 166 8)]) (h' := ((SHv st dr rd), (ovl a s (updC (updC (updC (updC (updC (updC bq46 185 ((30 * j + n)) vq46) 186 ((30 * j + n)) (-1)) 187 ((30 * j + n)) (-1)) 188 ((30 * j + n)) (bq46 166 38)) 189 ((30 * j + n)) (bq46 166 38)) 190 ((30 * j + n)) (bq46 166 38))))) (fun _ => rfl) ?_
        rw [hbq46.2.2.2.1]
        refine Ev.ite (P := eq46.1 ≠ 0) (k := 1) (a := 229) (b := 216) (L' := [Vr 166, Vi 4, Vi ((30 * (j : Int)) + (n : Int))]) (S' := []) (h' := ((SHv st dr rd), (ovl a s (updC (updC (updC (updC (updC (updC bq46 185 ((30 * j + n)) vq46) 186 ((30 * j + n)) (-1)) 187 ((30 * j + n)) (-1)) 188 ((30 * j + n)) (bq46 166 38)) 189 ((30 * j + n)) (bq46 166 38)) 190 ((30 * j + n)) (bq46 166 38))))) (fun _ => rfl) (fun b213 => ?_) (fun b213 => ?_)
        · refine Ev.fin (k := 1) (r := none) (h' := ((SHv st dr rd), (ovl a s (updC (updC (updC (updC (updC (updC bq46 185 ((30 * j + n)) vq46) 186 ((30 * j + n)) (-1)) 187 ((30 * j + n)) (-1)) 188 ((30 * j + n)) (bq46 166 38)) 189 ((30 * j + n)) (bq46 166 38)) 190 ((30 * j + n)) (bq46 166 38))))) (fun _ => rfl) ?_
          refine ⟨rfl, _, rfl, Or.inr ⟨eq46, ?_, ⟨(((((((((((FrP.rf : FrP (chLc j n c) b b).fn hoq45.1).up (by omega)).fn hbq46.1).up (by omega)).up (by omega)).up (by omega)).up (by omega)).up (by omega)).up (by omega))).mo hP, ((((((hbq46.2.1.up (by omega)).up (by omega)).up (by omega)).up (by omega)).up (by omega)).up (by omega)), ((((((hbq46.2.2.up (by omega)).up (by omega)).up (by omega)).up (by omega)).up (by omega)).up (by omega))⟩⟩⟩
          rw [if_neg (by omega), rul_k4 hct]
          unfold rulL4
          rw [hxq45, bnX_o, hxq46, bnX_e]
        · have := hbq46.2.2.1; omega
    · show Ev X _ _ 23 [Vr 166, Vi 4, Vx] [Vi 0] ((SHv st dr rd), (ovl a s bq45)) _
      refine Ev.fin (k := 2) (r := none) (h' := ((SHv st dr rd), (ovl a s bq45))) (fun _ => rfl) ?_
      refine ⟨rfl, _, rfl, Or.inr ⟨eq45, ?_, ⟨(((FrP.rf : FrP (chLc j n c) b b).fn hbq45.1)).mo hP, hbq45.2.1, hbq45.2.2⟩⟩⟩
      rw [if_neg (by omega), rul_k4 hct]
      unfold rulL4
      rw [hxq45, bnX_e]
  · refine Ev.call (k := 2) (pc1 := 20) (L1 := [Vr 166, Vi 4, Vx]) (S1 := [Vi 1, Vr 166]) (h1 := ((SHv st dr rd), (ovl a s b))) (m' := 164) (as := [Vr 166, Vi 1]) (S' := []) (L0 := [Vr 166, Vi 1]) (fun _ => rfl) rfl rfl rfl rfl rfl rfl (m_counts1 (b := b) hk) (fun r h' hq => ?_)
    obtain ⟨rfl, bq56, rfl, hbq56⟩ := hq
    show Ev X _ _ 23 [Vr 166, Vi 4, Vx] [Vi 0] ((SHv st dr rd), (ovl a s bq56)) _
    refine Ev.fin (k := 2) (r := none) (h' := ((SHv st dr rd), (ovl a s bq56))) (fun _ => rfl) ?_
    refine ⟨rfl, _, rfl, Or.inr ⟨(fltT W 5 p), if_pos (by omega), (FrP.rf : FrJ j b b).fn hbq56.1, hbq56.2⟩⟩
theorem m_rule5 {X : List Int} {d : Nat} {st dr rd : Int} {a s b : C3} {W : TXT} {p : Nat} (hk : TkM W p b) {S : STY} (hW : WfY S) {j c n : Nat} (hR : RqM S b j c) (hcp : c ≤ p) (hn : S.1 0 4 = (n : Int)) (hcn : b 173 j = (n : Int)) (hmx : n ≤ 30) (hct : tC W p = 267) : Ev X (d + 6) 163 0 [Vr 166, Vi 5, Vx] [] (SHv st dr rd, ovl a s b) (fun rr hh => rr = none ∧ ∃ b' : C3, hh = (SHv st dr rd, ovl a s b') ∧ ResC (if (30 : Int) ≤ S.1 0 4 then Except.error (fltT W 5 p) else rulT W S p) (fun r => TkM W r.2 b' ∧ (∃ c', RqM r.1 b' j c' ∧ c' ≤ r.2) ∧ FrJ j b b') (fun e => BjM W j b e b')) := by
  have hN := hR.nm hW
  have hj := hN.1
  have hT := hk.1.1
  have hT1 := hT.1
  have hNf : WfN S := ⟨hW.1.1, hW.2.2.1.1, hW.2.2.2.1.1⟩
  have hnn : nL S = n := by show (S.1 0 4).toNat = n; rw [hn]; exact Int.toNat_natCast n
  refine Ev.steps (k := 5) (pc' := 9) (L' := [Vr 166, Vi 5, Vx]) (S' := [Vi (b 166 39), Vr 173, Vr 166]) (h' := ((SHv st dr rd), (ovl a s b))) (fun _ => rfl) ?_
  rw [hR.1.2.1]
  refine Ev.iald (v := (n : Int)) rfl (by decide) rfl (by omega) (by omega) (hcn) ?_
  refine Ev.ite (P := (n : Int) ≠ 30) (k := 2) (a := 19) (b := 15) (L' := [Vr 166, Vi 5, Vx]) (S' := [Vr 166]) (h' := ((SHv st dr rd), (ovl a s b))) (fun _ => rfl) (fun b12 => ?_) (fun b12 => ?_)
  · have hn8 : n < 30 := by omega
    have hP : ∀ o i, chLc j n c o i → fjM j o i := fun o i h => by unfold fjM; omega
    refine Ev.call (k := 1) (pc1 := 20) (L1 := [Vr 166, Vi 5, Vx]) (S1 := [Vi 0, Vr 166]) (h1 := ((SHv st dr rd), (ovl a s b))) (m' := 164) (as := [Vr 166, Vi 0]) (S' := []) (L0 := [Vr 166, Vi 0]) (fun _ => rfl) rfl rfl rfl rfl rfl rfl (m_counts0 (b := b) hk) (fun r h' hq => ?_)
    obtain ⟨bq57, rfl, hq⟩ := hq
    rcases hq with ⟨pq57, hxq57, rfl, hoq57⟩ | ⟨eq57, hxq57, rfl, hbq57⟩
    · have mq57 : p ≤ pq57 := by have h1 := (got_ok hxq57).1; have h2 := tok_rg (W := W) (p := p) (hk).2.2.2.2.2.2.1 hT; omega
      show Ev X _ _ 23 [Vr 166, Vi 5, Vx] [Vi 1] ((SHv st dr rd), (ovl a s bq57)) _
      refine Ev.steps (k := 4) (pc' := 33) (L' := [Vr 166, Vi 5, Vx]) (S' := [Vi (bq57 166 39), Vi 30]) (h' := ((SHv st dr rd), (ovl a s bq57))) (fun _ => rfl) ?_
      rw [((hoq57.1 166 39 (by omega)).trans hR.1.2.1)]
      refine Ev.steps (k := 1) (pc' := 34) (L' := [Vr 166, Vi 5, Vx]) (S' := [Vi (w32 (30 * (j : Int)))]) (h' := ((SHv st dr rd), (ovl a s bq57))) (fun _ => rfl) ?_
      rw [show (w32 (30 * (j : Int))) = (30 * (j : Int)) from w32_id (by unfold R32; omega)]
      refine Ev.steps (k := 4) (pc' := 42) (L' := [Vr 166, Vi 5, Vx]) (S' := [Vi (bq57 166 39), Vr 173, Vi (30 * (j : Int))]) (h' := ((SHv st dr rd), (ovl a s bq57))) (fun _ => rfl) ?_
      rw [((hoq57.1 166 39 (by omega)).trans hR.1.2.1)]
      refine Ev.iald (v := (n : Int)) rfl (by decide) rfl (by omega) (by omega) (((hoq57.1 173 j (by omega)).trans hcn)) ?_
      refine Ev.steps (k := 1) (pc' := 44) (L' := [Vr 166, Vi 5, Vx]) (S' := [Vi (w32 ((30 * (j : Int)) + (n : Int)))]) (h' := ((SHv st dr rd), (ovl a s bq57))) (fun _ => rfl) ?_
      rw [show (w32 ((30 * (j : Int)) + (n : Int))) = ((30 * (j : Int)) + (n : Int)) from w32_id (by unfold R32; omega)]
      refine Ev.steps (k := 5) (pc' := 51) (L' := [Vr 166, Vi 5, Vi ((30 * (j : Int)) + (n : Int))]) (S' := [Vi 5, Vi ((30 * (j : Int)) + (n : Int)), Vr 184]) (h' := ((SHv st dr rd), (ovl a s bq57))) (fun _ => rfl) ?_
      refine Ev.iast (c' := (ovl a s (updC bq57 184 ((30 * j + n)) 5))) rfl (by decide) rfl (by omega) (by omega) (ovl_wm (by decide)) ?_
      refine Ev.call (k := 6) (pc1 := 60) (L1 := [Vr 166, Vi 5, Vi ((30 * (j : Int)) + (n : Int))]) (S1 := [Vi (-1), Vi 1, Vr 166, Vi ((30 * (j : Int)) + (n : Int)), Vr 185]) (h1 := ((SHv st dr rd), (ovl a s (updC bq57 184 ((30 * j + n)) 5)))) (m' := 165) (as := [Vr 166, Vi 1, Vi (-1)]) (S' := [Vi ((30 * (j : Int)) + (n : Int)), Vr 185]) (L0 := [Vr 166, Vi 1, Vi (-1), Vx]) (fun _ => rfl) rfl rfl rfl rfl rfl rfl (m_asked_1 (b := (updC bq57 184 ((30 * j + n)) 5)) (hoq57.2.up (by omega)) ((hN.fr hoq57.1).up (by omega) (by omega) (by omega) (by omega) (by omega)) (-1)) (fun r h' hq => ?_)
      obtain ⟨bq58, rfl, hq⟩ := hq
      rcases hq with ⟨rq58, hxq58, rfl, hoq58⟩ | ⟨eq58, hxq58, ⟨vq58, rfl, wq58⟩, hbq58⟩
      · have lq58 := (ask_ok hxq58).2.2.1
        have nq58 := (hN.2.2 1 (by decide)).1
        have mq58 : pq57 ≤ rq58.2 := by have h1 := (ask_ok hxq58).2.2.2.2.1; have h2 := tok_rg (W := W) (p := pq57) (hoq57.2).2.2.2.2.2.2.1 hT; omega
        show Ev X _ _ 63 [Vr 166, Vi 5, Vi ((30 * (j : Int)) + (n : Int))] [Vi ((rq58.1 : Nat) : Int), Vi ((30 * (j : Int)) + (n : Int)), Vr 185] ((SHv st dr rd), (ovl a s bq58)) _
        refine Ev.iast (c' := (ovl a s (updC bq58 185 ((30 * j + n)) ((rq58.1 : Nat) : Int)))) rfl (by decide) rfl (by omega) (by omega) (ovl_wm (by decide)) ?_
        refine Ev.steps (k := 4) (pc' := 70) (L' := [Vr 166, Vi 5, Vi ((30 * (j : Int)) + (n : Int))]) (S' := [Vi (-1), Vi ((30 * (j : Int)) + (n : Int)), Vr 186]) (h' := ((SHv st dr rd), (ovl a s (updC bq58 185 ((30 * j + n)) ((rq58.1 : Nat) : Int))))) (fun _ => rfl) ?_
        refine Ev.iast (c' := (ovl a s (updC (updC bq58 185 ((30 * j + n)) ((rq58.1 : Nat) : Int)) 186 ((30 * j + n)) (-1)))) rfl (by decide) rfl (by omega) (by omega) (ovl_wm (by decide)) ?_
        refine Ev.steps (k := 19) (pc' := 126) (L' := [Vr 166, Vi 5, Vi ((30 * (j : Int)) + (n : Int))]) (S' := [Vi ((30 * (j : Int)) + (n : Int)), Vr 185, Vi 1, Vr 166, Vi ((30 * (j : Int)) + (n : Int)), Vr 186]) (h' := ((SHv st dr rd), (ovl a s (updC (updC bq58 185 ((30 * j + n)) ((rq58.1 : Nat) : Int)) 186 ((30 * j + n)) (-1))))) (fun _ => rfl) ?_
        refine Ev.iald (v := ((rq58.1 : Nat) : Int)) rfl (by decide) rfl (by omega) (by omega) (show (updC (updC bq58 185 ((30 * j + n)) ((rq58.1 : Nat) : Int)) 186 ((30 * j + n)) (-1)) 185 ((30 * j + n)) = ((rq58.1 : Nat) : Int) by rw [updC_nt (by omega), updC_sm]) ?_
        refine Ev.call (k := 0) (pc1 := 127) (L1 := [Vr 166, Vi 5, Vi ((30 * (j : Int)) + (n : Int))]) (S1 := [Vi ((rq58.1 : Nat) : Int), Vi 1, Vr 166, Vi ((30 * (j : Int)) + (n : Int)), Vr 186]) (h1 := ((SHv st dr rd), (ovl a s (updC (updC bq58 185 ((30 * j + n)) ((rq58.1 : Nat) : Int)) 186 ((30 * j + n)) (-1))))) (m' := 165) (as := [Vr 166, Vi 1, Vi ((rq58.1 : Nat) : Int)]) (S' := [Vi ((30 * (j : Int)) + (n : Int)), Vr 186]) (L0 := [Vr 166, Vi 1, Vi ((rq58.1 : Nat) : Int), Vx]) (fun _ => rfl) rfl rfl rfl rfl rfl rfl (m_asked_1 (b := (updC (updC bq58 185 ((30 * j + n)) ((rq58.1 : Nat) : Int)) 186 ((30 * j + n)) (-1))) ((hoq58.2.up (by omega)).up (by omega)) (((((hN.fr hoq57.1).up (by omega) (by omega) (by omega) (by omega) (by omega)).fr hoq58.1).up (by omega) (by omega) (by omega) (by omega) (by omega)).up (by omega) (by omega) (by omega) (by omega) (by omega)) ((rq58.1 : Nat) : Int)) (fun r h' hq => ?_)
        obtain ⟨bq59, rfl, hq⟩ := hq
        rcases hq with ⟨rq59, hxq59, rfl, hoq59⟩ | ⟨eq59, hxq59, ⟨vq59, rfl, wq59⟩, hbq59⟩
        · have lq59 := (ask_ok hxq59).2.2.1
          have nq59 := (hN.2.2 1 (by decide)).1
          have mq59 : rq58.2 ≤ rq59.2 := by have h1 := (ask_ok hxq59).2.2.2.2.1; have h2 := tok_rg (W := W) (p := rq58.2) (hoq58.2).2.2.2.2.2.2.1 hT; omega
          show Ev X _ _ 130 [Vr 166, Vi 5, Vi ((30 * (j : Int)) + (n : Int))] [Vi ((rq59.1 : Nat) : Int), Vi ((30 * (j : Int)) + (n : Int)), Vr 186] ((SHv st dr rd), (ovl a s bq59)) _
          refine Ev.iast (c' := (ovl a s (updC bq59 186 ((30 * j + n)) ((rq59.1 : Nat) : Int)))) rfl (by decide) rfl (by omega) (by omega) (ovl_wm (by decide)) ?_
          refine Ev.call (k := 9) (pc1 := 144) (L1 := [Vr 166, Vi 5, Vi ((30 * (j : Int)) + (n : Int))]) (S1 := [Vi (-1), Vi 2, Vr 166, Vi ((30 * (j : Int)) + (n : Int)), Vr 187]) (h1 := ((SHv st dr rd), (ovl a s (updC bq59 186 ((30 * j + n)) ((rq59.1 : Nat) : Int))))) (m' := 165) (as := [Vr 166, Vi 2, Vi (-1)]) (S' := [Vi ((30 * (j : Int)) + (n : Int)), Vr 187]) (L0 := [Vr 166, Vi 2, Vi (-1), Vx]) (fun _ => rfl) rfl rfl rfl rfl rfl rfl (m_asked_2 (b := (updC bq59 186 ((30 * j + n)) ((rq59.1 : Nat) : Int))) (hoq59.2.up (by omega)) (((((((hN.fr hoq57.1).up (by omega) (by omega) (by omega) (by omega) (by omega)).fr hoq58.1).up (by omega) (by omega) (by omega) (by omega) (by omega)).up (by omega) (by omega) (by omega) (by omega) (by omega)).fr hoq59.1).up (by omega) (by omega) (by omega) (by omega) (by omega)) (-1)) (fun r h' hq => ?_)
          obtain ⟨bq60, rfl, hq⟩ := hq
          rcases hq with ⟨rq60, hxq60, rfl, hoq60⟩ | ⟨eq60, hxq60, ⟨vq60, rfl, wq60⟩, hbq60⟩
          · have lq60 := (ask_ok hxq60).2.2.1
            have nq60 := (hN.2.2 2 (by decide)).1
            have mq60 : rq59.2 ≤ rq60.2 := by have h1 := (ask_ok hxq60).2.2.2.2.1; have h2 := tok_rg (W := W) (p := rq59.2) (hoq59.2).2.2.2.2.2.2.1 hT; omega
            show Ev X _ _ 147 [Vr 166, Vi 5, Vi ((30 * (j : Int)) + (n : Int))] [Vi ((rq60.1 : Nat) : Int), Vi ((30 * (j : Int)) + (n : Int)), Vr 187] ((SHv st dr rd), (ovl a s bq60)) _
            refine Ev.steps (k := 1) (pc' := 156) (L' := [Vr 166, Vi 5, Vi ((30 * (j : Int)) + (n : Int))]) (S' := [Vi ((rq60.1 : Nat) : Int), Vi ((30 * (j : Int)) + (n : Int)), Vr 187]) (h' := ((SHv st dr rd), (ovl a s bq60))) (fun _ => rfl) ?_
            refine Ev.iast (c' := (ovl a s (updC bq60 187 ((30 * j + n)) ((rq60.1 : Nat) : Int)))) rfl (by decide) rfl (by omega) (by omega) (ovl_wm (by decide)) ?_
            refine Ev.steps (k := 5) (pc' := 166) (L' := [Vr 166, Vi 5, Vi ((30 * (j : Int)) + (n : Int))]) (S' := [Vi (bq60 166 38), Vi ((30 * (j : Int)) + (n : Int)), Vr 188]) (h' := ((SHv st dr rd), (ovl a s (updC bq60 187 ((30 * j + n)) ((rq60.1 : Nat) : Int))))) (fun _ => rfl) ?_
            rw [((hoq60.1 166 38 (by omega)).trans ((hoq59.1 166 38 (by omega)).trans ((hoq58.1 166 38 (by omega)).trans ((hoq57.1 166 38 (by omega)).trans hR.1.2.2))))]
            refine Ev.iast (c' := (ovl a s (updC (updC bq60 187 ((30 * j + n)) ((rq60.1 : Nat) : Int)) 188 ((30 * j + n)) (c : Int)))) rfl (by decide) rfl (by omega) (by omega) (ovl_wm (by decide)) ?_
            refine Ev.call (k := 5) (pc1 := 181) (L1 := [Vr 166, Vi 5, Vi ((30 * (j : Int)) + (n : Int))]) (S1 := [Vl 2003330414, Vr 166]) (h1 := ((SHv st dr rd), (ovl a s (updC (updC bq60 187 ((30 * j + n)) ((rq60.1 : Nat) : Int)) 188 ((30 * j + n)) (c : Int))))) (m' := 181) (as := [Vr 166, Vl 2003330414]) (S' := []) (L0 := [Vr 166, Vl 2003330414, Vx]) (fun _ => rfl) rfl rfl rfl rfl rfl rfl (m_mustW (b := (updC (updC bq60 187 ((30 * j + n)) ((rq60.1 : Nat) : Int)) 188 ((30 * j + n)) (c : Int))) ((hoq60.2.up (by omega)).up (by omega)) 12 (by decide) 2003330414 (by decide)) (fun r h' hq => ?_)
            obtain ⟨rfl, bq61, rfl, hq⟩ := hq
            rcases hq with ⟨pq61, hxq61, hoq61⟩ | ⟨eq61, hxq61, hbq61⟩
            · have mq61 : rq60.2 ≤ pq61 := by have h1 := (exp_ok hxq61).2.1; have h2 := tok_rg (W := W) (p := rq60.2) (hoq60.2).2.2.2.2.2.2.1 hT; omega
              show Ev X _ _ 184 [Vr 166, Vi 5, Vi ((30 * (j : Int)) + (n : Int))] [] ((SHv st dr rd), (ovl a s bq61)) _
              refine Ev.steps (k := 5) (pc' := 193) (L' := [Vr 166, Vi 5, Vi ((30 * (j : Int)) + (n : Int))]) (S' := [Vi (bq61 166 38), Vi ((30 * (j : Int)) + (n : Int)), Vr 189]) (h' := ((SHv st dr rd), (ovl a s bq61))) (fun _ => rfl) ?_
              rw [((hoq61.1 166 38 (by omega)).trans ((hoq60.1 166 38 (by omega)).trans ((hoq59.1 166 38 (by omega)).trans ((hoq58.1 166 38 (by omega)).trans ((hoq57.1 166 38 (by omega)).trans hR.1.2.2)))))]
              refine Ev.iast (c' := (ovl a s (updC bq61 189 ((30 * j + n)) (c : Int)))) rfl (by decide) rfl (by omega) (by omega) (ovl_wm (by decide)) ?_
              refine Ev.call (k := 2) (pc1 := 196) (L1 := [Vr 166, Vi 5, Vi ((30 * (j : Int)) + (n : Int))]) (S1 := [Vi 1, Vr 166]) (h1 := ((SHv st dr rd), (ovl a s (updC bq61 189 ((30 * j + n)) (c : Int))))) (m' := 169) (as := [Vr 166, Vi 1]) (S' := []) (L0 := [Vr 166, Vi 1, Vx]) (fun _ => rfl) rfl rfl rfl rfl rfl rfl (m_reads_tst (b := (updC bq61 189 ((30 * j + n)) (c : Int))) (c := c) (hoq61.2.up (by omega)) hNf ((((((((((((hN.fr hoq57.1).up (by omega) (by omega) (by omega) (by omega) (by omega)).fr hoq58.1).up (by omega) (by omega) (by omega) (by omega) (by omega)).up (by omega) (by omega) (by omega) (by omega) (by omega)).fr hoq59.1).up (by omega) (by omega) (by omega) (by omega) (by omega)).fr hoq60.1).up (by omega) (by omega) (by omega) (by omega) (by omega)).up (by omega) (by omega) (by omega) (by omega) (by omega)).fr hoq61.1).up (by omega) (by omega) (by omega) (by omega) (by omega)) ((hoq61.1 166 38 (by omega)).trans ((hoq60.1 166 38 (by omega)).trans ((hoq59.1 166 38 (by omega)).trans ((hoq58.1 166 38 (by omega)).trans ((hoq57.1 166 38 (by omega)).trans hR.1.2.2))))) (by omega)) (fun r h' hq => ?_)
              obtain ⟨rfl, bq62, rfl, hq⟩ := hq
              rcases hq with ⟨rq62, hxq62, hrq62⟩ | ⟨eq62, hxq62, hbq62⟩
              · have hleq62 := hrq62.2.2.2.2
                show Ev X _ _ 199 [Vr 166, Vi 5, Vi ((30 * (j : Int)) + (n : Int))] [] ((SHv st dr rd), (ovl a s bq62)) _
                refine Ev.steps (k := 5) (pc' := 208) (L' := [Vr 166, Vi 5, Vi ((30 * (j : Int)) + (n : Int))]) (S' := [Vi (bq62 166 38), Vi ((30 * (j : Int)) + (n : Int)), Vr 190]) (h' := ((SHv st dr rd), (ovl a s bq62))) (fun _ => rfl) ?_
                rw [hrq62.2.2.2.1]
                refine Ev.iast (c' := (ovl a s (updC bq62 190 ((30 * j + n)) (((c + rq62.1.length) : Nat) : Int)))) rfl (by decide) rfl (by omega) (by omega) (ovl_wm (by decide)) ?_
                refine Ev.steps (k := 2) (pc' := 213) (L' := [Vr 166, Vi 5, Vi ((30 * (j : Int)) + (n : Int))]) (S' := [Vi (bq62 166 8)]) (h' := ((SHv st dr rd), (ovl a s (updC bq62 190 ((30 * j + n)) (((c + rq62.1.length) : Nat) : Int))))) (fun _ => rfl) ?_
                rw [hrq62.2.1.2.1]
                refine Ev.steps (k := 5) (pc' := 224) (L' := [Vr 166, Vi 5, Vi ((30 * (j : Int)) + (n : Int))]) (S' := [Vi (bq62 166 39), Vr 173]) (h' := ((SHv st dr rd), (ovl a s (updC bq62 190 ((30 * j + n)) (((c + rq62.1.length) : Nat) : Int))))) (fun _ => rfl) ?_
                rw [((hrq62.1 166 39 (by omega) (by omega) (by omega)).trans ((hoq61.1 166 39 (by omega)).trans ((hoq60.1 166 39 (by omega)).trans ((hoq59.1 166 39 (by omega)).trans ((hoq58.1 166 39 (by omega)).trans ((hoq57.1 166 39 (by omega)).trans hR.1.2.1))))))]
                refine Ev.steps (k := 1) (pc' := 225) (L' := [Vr 166, Vi 5, Vi ((30 * (j : Int)) + (n : Int))]) (S' := [Vi (j : Int), Vr 173, Vi (j : Int), Vr 173]) (h' := ((SHv st dr rd), (ovl a s (updC bq62 190 ((30 * j + n)) (((c + rq62.1.length) : Nat) : Int))))) (fun _ => rfl) ?_
                refine Ev.iald (v := (n : Int)) rfl (by decide) rfl (by omega) (by omega) (((hrq62.1 173 j (by omega) (by omega) (by omega)).trans ((updC_nt (by omega)).trans ((hoq61.1 173 j (by omega)).trans ((updC_nt (by omega)).trans ((updC_nt (by omega)).trans ((hoq60.1 173 j (by omega)).trans ((updC_nt (by omega)).trans ((hoq59.1 173 j (by omega)).trans ((updC_nt (by omega)).trans ((updC_nt (by omega)).trans ((hoq58.1 173 j (by omega)).trans ((updC_nt (by omega)).trans ((hoq57.1 173 j (by omega)).trans hcn)))))))))))))) ?_
                refine Ev.steps (k := 2) (pc' := 228) (L' := [Vr 166, Vi 5, Vi ((30 * (j : Int)) + (n : Int))]) (S' := [Vi (w32 ((n : Int) + 1)), Vi (j : Int), Vr 173]) (h' := ((SHv st dr rd), (ovl a s (updC bq62 190 ((30 * j + n)) (((c + rq62.1.length) : Nat) : Int))))) (fun _ => rfl) ?_
                rw [show (w32 ((n : Int) + 1)) = ((n : Int) + 1) from w32_id (by unfold R32; omega)]
                refine Ev.iast (c' := (ovl a s (updC (updC bq62 190 ((30 * j + n)) (((c + rq62.1.length) : Nat) : Int)) 173 j ((n : Int) + 1)))) rfl (by decide) rfl (by omega) (by omega) (ovl_wm (by decide)) ?_
                refine Ev.fin (k := 1) (r := none) (h' := ((SHv st dr rd), (ovl a s (updC (updC bq62 190 ((30 * j + n)) (((c + rq62.1.length) : Nat) : Int)) 173 j ((n : Int) + 1))))) (fun _ => rfl) ?_
                have hb : FrP (chLc j n c) b (updC (updC bq62 190 ((30 * j + n)) (((c + rq62.1.length) : Nat) : Int)) 173 j ((n : Int) + 1)) := ((((((((((((((((FrP.rf : FrP (chLc j n c) b b).fn hoq57.1).up (by omega)).fn hoq58.1).up (by omega)).up (by omega)).fn hoq59.1).up (by omega)).fn hoq60.1).up (by omega)).up (by omega)).fn hoq61.1).up (by omega)).fR hrq62.1 (fun o i h => by omega)).up (by omega)).up (by omega))
                refine ⟨rfl, _, rfl, Or.inl ⟨(_, rq62.2), ?_, ((hrq62.2.1.up (by omega)).up (by omega)), ⟨(c + rq62.1.length), hR.rule (kd := 5) (i := rq58.1) (x := ((rq59.1 : Nat) : Int)) (t := ((rq60.1 : Nat) : Int)) (l1 := []) (l2 := rq62.1) ⟨hnn, hn⟩ hb ((updC_nt (by omega)).trans ((updC_nt (by omega)).trans hrq62.2.2.2.1)) (by omega) updC_sm ((updC_nt (by omega)).trans ((updC_nt (by omega)).trans ((hrq62.1 184 ((30 * j + n)) (by omega) (by omega) (by omega)).trans ((updC_nt (by omega)).trans ((hoq61.1 184 ((30 * j + n)) (by omega)).trans ((updC_nt (by omega)).trans ((updC_nt (by omega)).trans ((hoq60.1 184 ((30 * j + n)) (by omega)).trans ((updC_nt (by omega)).trans ((hoq59.1 184 ((30 * j + n)) (by omega)).trans ((updC_nt (by omega)).trans ((updC_nt (by omega)).trans ((hoq58.1 184 ((30 * j + n)) (by omega)).trans updC_sm))))))))))))) ((updC_nt (by omega)).trans ((updC_nt (by omega)).trans ((hrq62.1 185 ((30 * j + n)) (by omega) (by omega) (by omega)).trans ((updC_nt (by omega)).trans ((hoq61.1 185 ((30 * j + n)) (by omega)).trans ((updC_nt (by omega)).trans ((updC_nt (by omega)).trans ((hoq60.1 185 ((30 * j + n)) (by omega)).trans ((updC_nt (by omega)).trans ((hoq59.1 185 ((30 * j + n)) (by omega)).trans ((updC_nt (by omega)).trans updC_sm))))))))))) ((updC_nt (by omega)).trans ((updC_nt (by omega)).trans ((hrq62.1 186 ((30 * j + n)) (by omega) (by omega) (by omega)).trans ((updC_nt (by omega)).trans ((hoq61.1 186 ((30 * j + n)) (by omega)).trans ((updC_nt (by omega)).trans ((updC_nt (by omega)).trans ((hoq60.1 186 ((30 * j + n)) (by omega)).trans updC_sm)))))))) ((updC_nt (by omega)).trans ((updC_nt (by omega)).trans ((hrq62.1 187 ((30 * j + n)) (by omega) (by omega) (by omega)).trans ((updC_nt (by omega)).trans ((hoq61.1 187 ((30 * j + n)) (by omega)).trans ((updC_nt (by omega)).trans updC_sm)))))) ⟨c, ((updC_nt (by omega)).trans ((updC_nt (by omega)).trans ((hrq62.1 189 ((30 * j + n)) (by omega) (by omega) (by omega)).trans updC_sm))), ((updC_nt (by omega)).trans updC_sm), by omega, (codM_u (codM_u hrq62.2.2.1 (by omega)) (by omega))⟩ (fun h => absurd h (by decide)), by dsimp only; omega⟩, hb.mo hP⟩⟩
                rw [if_neg (by omega), rul_k5 hct]
                unfold rulL5
                rw [hxq57, bnX_o, hxq58, bnX_o, hxq59, bnX_o, hxq60, bnX_o, hxq61, bnX_o, hxq62, bnX_o]
                rfl
              · show Ev X _ _ 199 [Vr 166, Vi 5, Vi ((30 * (j : Int)) + (n : Int))] [] ((SHv st dr rd), (ovl a s bq62)) _
                refine Ev.steps (k := 5) (pc' := 208) (L' := [Vr 166, Vi 5, Vi ((30 * (j : Int)) + (n : Int))]) (S' := [Vi (bq62 166 38), Vi ((30 * (j : Int)) + (n : Int)), Vr 190]) (h' := ((SHv st dr rd), (ovl a s bq62))) (fun _ => rfl) ?_
                refine Ev.iast (c' := (ovl a s (updC bq62 190 ((30 * j + n)) (bq62 166 38)))) rfl (by decide) rfl (by omega) (by omega) (ovl_wm (by decide)) ?_
                refine Ev.steps (k := 2) (pc' := 213) (L' := [Vr 166, Vi 5, Vi ((30 * (j : Int)) + (n : Int))]) (S' := [Vi (bq62 166 8)]) (h' := ((SHv st dr rd), (ovl a s (updC bq62 190 ((30 * j + n)) (bq62 166 38))))) (fun _ => rfl) ?_
                rw [hbq62.2.2.2.1]
                refine Ev.ite (P := eq62.1 ≠ 0) (k := 1) (a := 229) (b := 216) (L' := [Vr 166, Vi 5, Vi ((30 * (j : Int)) + (n : Int))]) (S' := []) (h' := ((SHv st dr rd), (ovl a s (updC bq62 190 ((30 * j + n)) (bq62 166 38))))) (fun _ => rfl) (fun b213 => ?_) (fun b213 => ?_)
                · refine Ev.fin (k := 1) (r := none) (h' := ((SHv st dr rd), (ovl a s (updC bq62 190 ((30 * j + n)) (bq62 166 38))))) (fun _ => rfl) ?_
                  refine ⟨rfl, _, rfl, Or.inr ⟨eq62, ?_, ⟨((((((((((((((((FrP.rf : FrP (chLc j n c) b b).fn hoq57.1).up (by omega)).fn hoq58.1).up (by omega)).up (by omega)).fn hoq59.1).up (by omega)).fn hoq60.1).up (by omega)).up (by omega)).fn hoq61.1).up (by omega)).fR hbq62.1 (fun o i h => by omega)).up (by omega))).mo hP, (hbq62.2.1.up (by omega)), (hbq62.2.2.up (by omega))⟩⟩⟩
                  rw [if_neg (by omega), rul_k5 hct]
                  unfold rulL5
                  rw [hxq57, bnX_o, hxq58, bnX_o, hxq59, bnX_o, hxq60, bnX_o, hxq61, bnX_o, hxq62, bnX_e]
                · have := hbq62.2.2.1; omega
            · show Ev X _ _ 184 [Vr 166, Vi 5, Vi ((30 * (j : Int)) + (n : Int))] [] ((SHv st dr rd), (ovl a s bq61)) _
              refine Ev.steps (k := 5) (pc' := 193) (L' := [Vr 166, Vi 5, Vi ((30 * (j : Int)) + (n : Int))]) (S' := [Vi (bq61 166 38), Vi ((30 * (j : Int)) + (n : Int)), Vr 189]) (h' := ((SHv st dr rd), (ovl a s bq61))) (fun _ => rfl) ?_
              refine Ev.iast (c' := (ovl a s (updC bq61 189 ((30 * j + n)) (bq61 166 38)))) rfl (by decide) rfl (by omega) (by omega) (ovl_wm (by decide)) ?_
              refine Ev.call (k := 2) (pc1 := 196) (L1 := [Vr 166, Vi 5, Vi ((30 * (j : Int)) + (n : Int))]) (S1 := [Vi 1, Vr 166]) (h1 := ((SHv st dr rd), (ovl a s (updC bq61 189 ((30 * j + n)) (bq61 166 38))))) (m' := 169) (as := [Vr 166, Vi 1]) (S' := []) (L0 := [Vr 166, Vi 1, Vx]) (fun _ => rfl) rfl rfl rfl rfl rfl rfl (m_reads_br (b := (updC bq61 189 ((30 * j + n)) (bq61 166 38))) (hbq61.2.2.up (by omega)) 1) (fun r h' hq => ?_)
              obtain ⟨rfl, rfl⟩ := hq
              show Ev X _ _ 199 [Vr 166, Vi 5, Vi ((30 * (j : Int)) + (n : Int))] [] ((SHv st dr rd), (ovl a s (updC bq61 189 ((30 * j + n)) (bq61 166 38)))) _
              refine Ev.steps (k := 5) (pc' := 208) (L' := [Vr 166, Vi 5, Vi ((30 * (j : Int)) + (n : Int))]) (S' := [Vi (bq61 166 38), Vi ((30 * (j : Int)) + (n : Int)), Vr 190]) (h' := ((SHv st dr rd), (ovl a s (updC bq61 189 ((30 * j + n)) (bq61 166 38))))) (fun _ => rfl) ?_
              refine Ev.iast (c' := (ovl a s (updC (updC bq61 189 ((30 * j + n)) (bq61 166 38)) 190 ((30 * j + n)) (bq61 166 38)))) rfl (by decide) rfl (by omega) (by omega) (ovl_wm (by decide)) ?_
              refine Ev.steps (k := 2) (pc' := 213) (L' := [Vr 166, Vi 5, Vi ((30 * (j : Int)) + (n : Int))]) (S' := [Vi (bq61 166 8)]) (h' := ((SHv st dr rd), (ovl a s (updC (updC bq61 189 ((30 * j + n)) (bq61 166 38)) 190 ((30 * j + n)) (bq61 166 38))))) (fun _ => rfl) ?_
              rw [hbq61.2.2.2.1]
              refine Ev.ite (P := eq61.1 ≠ 0) (k := 1) (a := 229) (b := 216) (L' := [Vr 166, Vi 5, Vi ((30 * (j : Int)) + (n : Int))]) (S' := []) (h' := ((SHv st dr rd), (ovl a s (updC (updC bq61 189 ((30 * j + n)) (bq61 166 38)) 190 ((30 * j + n)) (bq61 166 38))))) (fun _ => rfl) (fun b213 => ?_) (fun b213 => ?_)
              · refine Ev.fin (k := 1) (r := none) (h' := ((SHv st dr rd), (ovl a s (updC (updC bq61 189 ((30 * j + n)) (bq61 166 38)) 190 ((30 * j + n)) (bq61 166 38))))) (fun _ => rfl) ?_
                refine ⟨rfl, _, rfl, Or.inr ⟨eq61, ?_, ⟨(((((((((((((((FrP.rf : FrP (chLc j n c) b b).fn hoq57.1).up (by omega)).fn hoq58.1).up (by omega)).up (by omega)).fn hoq59.1).up (by omega)).fn hoq60.1).up (by omega)).up (by omega)).fn hbq61.1).up (by omega)).up (by omega))).mo hP, ((hbq61.2.1.up (by omega)).up (by omega)), ((hbq61.2.2.up (by omega)).up (by omega))⟩⟩⟩
                rw [if_neg (by omega), rul_k5 hct]
                unfold rulL5
                rw [hxq57, bnX_o, hxq58, bnX_o, hxq59, bnX_o, hxq60, bnX_o, hxq61, bnX_e]
              · have := hbq61.2.2.1; omega
          · show Ev X _ _ 147 [Vr 166, Vi 5, Vi ((30 * (j : Int)) + (n : Int))] [Vi vq60, Vi ((30 * (j : Int)) + (n : Int)), Vr 187] ((SHv st dr rd), (ovl a s bq60)) _
            refine Ev.steps (k := 1) (pc' := 156) (L' := [Vr 166, Vi 5, Vi ((30 * (j : Int)) + (n : Int))]) (S' := [Vi vq60, Vi ((30 * (j : Int)) + (n : Int)), Vr 187]) (h' := ((SHv st dr rd), (ovl a s bq60))) (fun _ => rfl) ?_
            refine Ev.iast (c' := (ovl a s (updC bq60 187 ((30 * j + n)) vq60))) rfl (by decide) rfl (by omega) (by omega) (ovl_wm (by decide)) ?_
            refine Ev.steps (k := 5) (pc' := 166) (L' := [Vr 166, Vi 5, Vi ((30 * (j : Int)) + (n : Int))]) (S' := [Vi (bq60 166 38), Vi ((30 * (j : Int)) + (n : Int)), Vr 188]) (h' := ((SHv st dr rd), (ovl a s (updC bq60 187 ((30 * j + n)) vq60)))) (fun _ => rfl) ?_
            refine Ev.iast (c' := (ovl a s (updC (updC bq60 187 ((30 * j + n)) vq60) 188 ((30 * j + n)) (bq60 166 38)))) rfl (by decide) rfl (by omega) (by omega) (ovl_wm (by decide)) ?_
            refine Ev.call (k := 5) (pc1 := 181) (L1 := [Vr 166, Vi 5, Vi ((30 * (j : Int)) + (n : Int))]) (S1 := [Vl 2003330414, Vr 166]) (h1 := ((SHv st dr rd), (ovl a s (updC (updC bq60 187 ((30 * j + n)) vq60) 188 ((30 * j + n)) (bq60 166 38))))) (m' := 181) (as := [Vr 166, Vl 2003330414]) (S' := []) (L0 := [Vr 166, Vl 2003330414, Vx]) (fun _ => rfl) rfl rfl rfl rfl rfl rfl (m_mustW_br (b := (updC (updC bq60 187 ((30 * j + n)) vq60) 188 ((30 * j + n)) (bq60 166 38))) ((hbq60.2.2.up (by omega)).up (by omega)) 2003330414) (fun r h' hq => ?_)
            obtain ⟨rfl, rfl⟩ := hq
            show Ev X _ _ 184 [Vr 166, Vi 5, Vi ((30 * (j : Int)) + (n : Int))] [] ((SHv st dr rd), (ovl a s (updC (updC bq60 187 ((30 * j + n)) vq60) 188 ((30 * j + n)) (bq60 166 38)))) _
            refine Ev.steps (k := 5) (pc' := 193) (L' := [Vr 166, Vi 5, Vi ((30 * (j : Int)) + (n : Int))]) (S' := [Vi (bq60 166 38), Vi ((30 * (j : Int)) + (n : Int)), Vr 189]) (h' := ((SHv st dr rd), (ovl a s (updC (updC bq60 187 ((30 * j + n)) vq60) 188 ((30 * j + n)) (bq60 166 38))))) (fun _ => rfl) ?_
            refine Ev.iast (c' := (ovl a s (updC (updC (updC bq60 187 ((30 * j + n)) vq60) 188 ((30 * j + n)) (bq60 166 38)) 189 ((30 * j + n)) (bq60 166 38)))) rfl (by decide) rfl (by omega) (by omega) (ovl_wm (by decide)) ?_
            refine Ev.call (k := 2) (pc1 := 196) (L1 := [Vr 166, Vi 5, Vi ((30 * (j : Int)) + (n : Int))]) (S1 := [Vi 1, Vr 166]) (h1 := ((SHv st dr rd), (ovl a s (updC (updC (updC bq60 187 ((30 * j + n)) vq60) 188 ((30 * j + n)) (bq60 166 38)) 189 ((30 * j + n)) (bq60 166 38))))) (m' := 169) (as := [Vr 166, Vi 1]) (S' := []) (L0 := [Vr 166, Vi 1, Vx]) (fun _ => rfl) rfl rfl rfl rfl rfl rfl (m_reads_br (b := (updC (updC (updC bq60 187 ((30 * j + n)) vq60) 188 ((30 * j + n)) (bq60 166 38)) 189 ((30 * j + n)) (bq60 166 38))) (((hbq60.2.2.up (by omega)).up (by omega)).up (by omega)) 1) (fun r h' hq => ?_)
            obtain ⟨rfl, rfl⟩ := hq
            show Ev X _ _ 199 [Vr 166, Vi 5, Vi ((30 * (j : Int)) + (n : Int))] [] ((SHv st dr rd), (ovl a s (updC (updC (updC bq60 187 ((30 * j + n)) vq60) 188 ((30 * j + n)) (bq60 166 38)) 189 ((30 * j + n)) (bq60 166 38)))) _
            refine Ev.steps (k := 5) (pc' := 208) (L' := [Vr 166, Vi 5, Vi ((30 * (j : Int)) + (n : Int))]) (S' := [Vi (bq60 166 38), Vi ((30 * (j : Int)) + (n : Int)), Vr 190]) (h' := ((SHv st dr rd), (ovl a s (updC (updC (updC bq60 187 ((30 * j + n)) vq60) 188 ((30 * j + n)) (bq60 166 38)) 189 ((30 * j + n)) (bq60 166 38))))) (fun _ => rfl) ?_
            refine Ev.iast (c' := (ovl a s (updC (updC (updC (updC bq60 187 ((30 * j + n)) vq60) 188 ((30 * j + n)) (bq60 166 38)) 189 ((30 * j + n)) (bq60 166 38)) 190 ((30 * j + n)) (bq60 166 38)))) rfl (by decide) rfl (by omega) (by omega) (ovl_wm (by decide)) ?_
            refine Ev.steps (k := 2) (pc' := 213) (L' := [Vr 166, Vi 5, Vi ((30 * (j : Int)) + (n : Int))]) (S' := [Vi (bq60 166 8)]) (h' := ((SHv st dr rd), (ovl a s (updC (updC (updC (updC bq60 187 ((30 * j + n)) vq60) 188 ((30 * j + n)) (bq60 166 38)) 189 ((30 * j + n)) (bq60 166 38)) 190 ((30 * j + n)) (bq60 166 38))))) (fun _ => rfl) ?_
            rw [hbq60.2.2.2.1]
            refine Ev.ite (P := eq60.1 ≠ 0) (k := 1) (a := 229) (b := 216) (L' := [Vr 166, Vi 5, Vi ((30 * (j : Int)) + (n : Int))]) (S' := []) (h' := ((SHv st dr rd), (ovl a s (updC (updC (updC (updC bq60 187 ((30 * j + n)) vq60) 188 ((30 * j + n)) (bq60 166 38)) 189 ((30 * j + n)) (bq60 166 38)) 190 ((30 * j + n)) (bq60 166 38))))) (fun _ => rfl) (fun b213 => ?_) (fun b213 => ?_)
            · refine Ev.fin (k := 1) (r := none) (h' := ((SHv st dr rd), (ovl a s (updC (updC (updC (updC bq60 187 ((30 * j + n)) vq60) 188 ((30 * j + n)) (bq60 166 38)) 189 ((30 * j + n)) (bq60 166 38)) 190 ((30 * j + n)) (bq60 166 38))))) (fun _ => rfl) ?_
              refine ⟨rfl, _, rfl, Or.inr ⟨eq60, ?_, ⟨((((((((((((((FrP.rf : FrP (chLc j n c) b b).fn hoq57.1).up (by omega)).fn hoq58.1).up (by omega)).up (by omega)).fn hoq59.1).up (by omega)).fn hbq60.1).up (by omega)).up (by omega)).up (by omega)).up (by omega))).mo hP, ((((hbq60.2.1.up (by omega)).up (by omega)).up (by omega)).up (by omega)), ((((hbq60.2.2.up (by omega)).up (by omega)).up (by omega)).up (by omega))⟩⟩⟩
              rw [if_neg (by omega), rul_k5 hct]
              unfold rulL5
              rw [hxq57, bnX_o, hxq58, bnX_o, hxq59, bnX_o, hxq60, bnX_e]
            · have := hbq60.2.2.1; omega
        · show Ev X _ _ 130 [Vr 166, Vi 5, Vi ((30 * (j : Int)) + (n : Int))] [Vi vq59, Vi ((30 * (j : Int)) + (n : Int)), Vr 186] ((SHv st dr rd), (ovl a s bq59)) _
          refine Ev.iast (c' := (ovl a s (updC bq59 186 ((30 * j + n)) vq59))) rfl (by decide) rfl (by omega) (by omega) (ovl_wm (by decide)) ?_
          refine Ev.call (k := 9) (pc1 := 144) (L1 := [Vr 166, Vi 5, Vi ((30 * (j : Int)) + (n : Int))]) (S1 := [Vi (-1), Vi 2, Vr 166, Vi ((30 * (j : Int)) + (n : Int)), Vr 187]) (h1 := ((SHv st dr rd), (ovl a s (updC bq59 186 ((30 * j + n)) vq59)))) (m' := 165) (as := [Vr 166, Vi 2, Vi (-1)]) (S' := [Vi ((30 * (j : Int)) + (n : Int)), Vr 187]) (L0 := [Vr 166, Vi 2, Vi (-1), Vx]) (fun _ => rfl) rfl rfl rfl rfl rfl rfl (m_asked_br (b := (updC bq59 186 ((30 * j + n)) vq59)) (hbq59.2.2.up (by omega)) 2 (-1)) (fun r h' hq => ?_)
          obtain ⟨rfl, rfl⟩ := hq
          show Ev X _ _ 147 [Vr 166, Vi 5, Vi ((30 * (j : Int)) + (n : Int))] [Vi 0, Vi ((30 * (j : Int)) + (n : Int)), Vr 187] ((SHv st dr rd), (ovl a s (updC bq59 186 ((30 * j + n)) vq59))) _
          refine Ev.steps (k := 1) (pc' := 156) (L' := [Vr 166, Vi 5, Vi ((30 * (j : Int)) + (n : Int))]) (S' := [Vi 0, Vi ((30 * (j : Int)) + (n : Int)), Vr 187]) (h' := ((SHv st dr rd), (ovl a s (updC bq59 186 ((30 * j + n)) vq59)))) (fun _ => rfl) ?_
          refine Ev.iast (c' := (ovl a s (updC (updC bq59 186 ((30 * j + n)) vq59) 187 ((30 * j + n)) 0))) rfl (by decide) rfl (by omega) (by omega) (ovl_wm (by decide)) ?_
          refine Ev.steps (k := 5) (pc' := 166) (L' := [Vr 166, Vi 5, Vi ((30 * (j : Int)) + (n : Int))]) (S' := [Vi (bq59 166 38), Vi ((30 * (j : Int)) + (n : Int)), Vr 188]) (h' := ((SHv st dr rd), (ovl a s (updC (updC bq59 186 ((30 * j + n)) vq59) 187 ((30 * j + n)) 0)))) (fun _ => rfl) ?_
          refine Ev.iast (c' := (ovl a s (updC (updC (updC bq59 186 ((30 * j + n)) vq59) 187 ((30 * j + n)) 0) 188 ((30 * j + n)) (bq59 166 38)))) rfl (by decide) rfl (by omega) (by omega) (ovl_wm (by decide)) ?_
          refine Ev.call (k := 5) (pc1 := 181) (L1 := [Vr 166, Vi 5, Vi ((30 * (j : Int)) + (n : Int))]) (S1 := [Vl 2003330414, Vr 166]) (h1 := ((SHv st dr rd), (ovl a s (updC (updC (updC bq59 186 ((30 * j + n)) vq59) 187 ((30 * j + n)) 0) 188 ((30 * j + n)) (bq59 166 38))))) (m' := 181) (as := [Vr 166, Vl 2003330414]) (S' := []) (L0 := [Vr 166, Vl 2003330414, Vx]) (fun _ => rfl) rfl rfl rfl rfl rfl rfl (m_mustW_br (b := (updC (updC (updC bq59 186 ((30 * j + n)) vq59) 187 ((30 * j + n)) 0) 188 ((30 * j + n)) (bq59 166 38))) (((hbq59.2.2.up (by omega)).up (by omega)).up (by omega)) 2003330414) (fun r h' hq => ?_)
          obtain ⟨rfl, rfl⟩ := hq
          show Ev X _ _ 184 [Vr 166, Vi 5, Vi ((30 * (j : Int)) + (n : Int))] [] ((SHv st dr rd), (ovl a s (updC (updC (updC bq59 186 ((30 * j + n)) vq59) 187 ((30 * j + n)) 0) 188 ((30 * j + n)) (bq59 166 38)))) _
          refine Ev.steps (k := 5) (pc' := 193) (L' := [Vr 166, Vi 5, Vi ((30 * (j : Int)) + (n : Int))]) (S' := [Vi (bq59 166 38), Vi ((30 * (j : Int)) + (n : Int)), Vr 189]) (h' := ((SHv st dr rd), (ovl a s (updC (updC (updC bq59 186 ((30 * j + n)) vq59) 187 ((30 * j + n)) 0) 188 ((30 * j + n)) (bq59 166 38))))) (fun _ => rfl) ?_
          refine Ev.iast (c' := (ovl a s (updC (updC (updC (updC bq59 186 ((30 * j + n)) vq59) 187 ((30 * j + n)) 0) 188 ((30 * j + n)) (bq59 166 38)) 189 ((30 * j + n)) (bq59 166 38)))) rfl (by decide) rfl (by omega) (by omega) (ovl_wm (by decide)) ?_
          refine Ev.call (k := 2) (pc1 := 196) (L1 := [Vr 166, Vi 5, Vi ((30 * (j : Int)) + (n : Int))]) (S1 := [Vi 1, Vr 166]) (h1 := ((SHv st dr rd), (ovl a s (updC (updC (updC (updC bq59 186 ((30 * j + n)) vq59) 187 ((30 * j + n)) 0) 188 ((30 * j + n)) (bq59 166 38)) 189 ((30 * j + n)) (bq59 166 38))))) (m' := 169) (as := [Vr 166, Vi 1]) (S' := []) (L0 := [Vr 166, Vi 1, Vx]) (fun _ => rfl) rfl rfl rfl rfl rfl rfl (m_reads_br (b := (updC (updC (updC (updC bq59 186 ((30 * j + n)) vq59) 187 ((30 * j + n)) 0) 188 ((30 * j + n)) (bq59 166 38)) 189 ((30 * j + n)) (bq59 166 38))) ((((hbq59.2.2.up (by omega)).up (by omega)).up (by omega)).up (by omega)) 1) (fun r h' hq => ?_)
          obtain ⟨rfl, rfl⟩ := hq
          show Ev X _ _ 199 [Vr 166, Vi 5, Vi ((30 * (j : Int)) + (n : Int))] [] ((SHv st dr rd), (ovl a s (updC (updC (updC (updC bq59 186 ((30 * j + n)) vq59) 187 ((30 * j + n)) 0) 188 ((30 * j + n)) (bq59 166 38)) 189 ((30 * j + n)) (bq59 166 38)))) _
          refine Ev.steps (k := 5) (pc' := 208) (L' := [Vr 166, Vi 5, Vi ((30 * (j : Int)) + (n : Int))]) (S' := [Vi (bq59 166 38), Vi ((30 * (j : Int)) + (n : Int)), Vr 190]) (h' := ((SHv st dr rd), (ovl a s (updC (updC (updC (updC bq59 186 ((30 * j + n)) vq59) 187 ((30 * j + n)) 0) 188 ((30 * j + n)) (bq59 166 38)) 189 ((30 * j + n)) (bq59 166 38))))) (fun _ => rfl) ?_
          refine Ev.iast (c' := (ovl a s (updC (updC (updC (updC (updC bq59 186 ((30 * j + n)) vq59) 187 ((30 * j + n)) 0) 188 ((30 * j + n)) (bq59 166 38)) 189 ((30 * j + n)) (bq59 166 38)) 190 ((30 * j + n)) (bq59 166 38)))) rfl (by decide) rfl (by omega) (by omega) (ovl_wm (by decide)) ?_
          refine Ev.steps (k := 2) (pc' := 213) (L' := [Vr 166, Vi 5, Vi ((30 * (j : Int)) + (n : Int))]) (S' := [Vi (bq59 166 8)]) (h' := ((SHv st dr rd), (ovl a s (updC (updC (updC (updC (updC bq59 186 ((30 * j + n)) vq59) 187 ((30 * j + n)) 0) 188 ((30 * j + n)) (bq59 166 38)) 189 ((30 * j + n)) (bq59 166 38)) 190 ((30 * j + n)) (bq59 166 38))))) (fun _ => rfl) ?_
          rw [hbq59.2.2.2.1]
          refine Ev.ite (P := eq59.1 ≠ 0) (k := 1) (a := 229) (b := 216) (L' := [Vr 166, Vi 5, Vi ((30 * (j : Int)) + (n : Int))]) (S' := []) (h' := ((SHv st dr rd), (ovl a s (updC (updC (updC (updC (updC bq59 186 ((30 * j + n)) vq59) 187 ((30 * j + n)) 0) 188 ((30 * j + n)) (bq59 166 38)) 189 ((30 * j + n)) (bq59 166 38)) 190 ((30 * j + n)) (bq59 166 38))))) (fun _ => rfl) (fun b213 => ?_) (fun b213 => ?_)
          · refine Ev.fin (k := 1) (r := none) (h' := ((SHv st dr rd), (ovl a s (updC (updC (updC (updC (updC bq59 186 ((30 * j + n)) vq59) 187 ((30 * j + n)) 0) 188 ((30 * j + n)) (bq59 166 38)) 189 ((30 * j + n)) (bq59 166 38)) 190 ((30 * j + n)) (bq59 166 38))))) (fun _ => rfl) ?_
            refine ⟨rfl, _, rfl, Or.inr ⟨eq59, ?_, ⟨(((((((((((((FrP.rf : FrP (chLc j n c) b b).fn hoq57.1).up (by omega)).fn hoq58.1).up (by omega)).up (by omega)).fn hbq59.1).up (by omega)).up (by omega)).up (by omega)).up (by omega)).up (by omega))).mo hP, (((((hbq59.2.1.up (by omega)).up (by omega)).up (by omega)).up (by omega)).up (by omega)), (((((hbq59.2.2.up (by omega)).up (by omega)).up (by omega)).up (by omega)).up (by omega))⟩⟩⟩
            rw [if_neg (by omega), rul_k5 hct]
            unfold rulL5
            rw [hxq57, bnX_o, hxq58, bnX_o, hxq59, bnX_e]
          · have := hbq59.2.2.1; omega
      · show Ev X _ _ 63 [Vr 166, Vi 5, Vi ((30 * (j : Int)) + (n : Int))] [Vi vq58, Vi ((30 * (j : Int)) + (n : Int)), Vr 185] ((SHv st dr rd), (ovl a s bq58)) _
        refine Ev.iast (c' := (ovl a s (updC bq58 185 ((30 * j + n)) vq58))) rfl (by decide) rfl (by omega) (by omega) (ovl_wm (by decide)) ?_
        refine Ev.steps (k := 4) (pc' := 70) (L' := [Vr 166, Vi 5, Vi ((30 * (j : Int)) + (n : Int))]) (S' := [Vi (-1), Vi ((30 * (j : Int)) + (n : Int)), Vr 186]) (h' := ((SHv st dr rd), (ovl a s (updC bq58 185 ((30 * j + n)) vq58)))) (fun _ => rfl) ?_
        refine Ev.iast (c' := (ovl a s (updC (updC bq58 185 ((30 * j + n)) vq58) 186 ((30 * j + n)) (-1)))) rfl (by decide) rfl (by omega) (by omega) (ovl_wm (by decide)) ?_
        refine Ev.steps (k := 19) (pc' := 126) (L' := [Vr 166, Vi 5, Vi ((30 * (j : Int)) + (n : Int))]) (S' := [Vi ((30 * (j : Int)) + (n : Int)), Vr 185, Vi 1, Vr 166, Vi ((30 * (j : Int)) + (n : Int)), Vr 186]) (h' := ((SHv st dr rd), (ovl a s (updC (updC bq58 185 ((30 * j + n)) vq58) 186 ((30 * j + n)) (-1))))) (fun _ => rfl) ?_
        refine Ev.iald (v := vq58) rfl (by decide) rfl (by omega) (by omega) (show (updC (updC bq58 185 ((30 * j + n)) vq58) 186 ((30 * j + n)) (-1)) 185 ((30 * j + n)) = vq58 by rw [updC_nt (by omega), updC_sm]) ?_
        refine Ev.call (k := 0) (pc1 := 127) (L1 := [Vr 166, Vi 5, Vi ((30 * (j : Int)) + (n : Int))]) (S1 := [Vi vq58, Vi 1, Vr 166, Vi ((30 * (j : Int)) + (n : Int)), Vr 186]) (h1 := ((SHv st dr rd), (ovl a s (updC (updC bq58 185 ((30 * j + n)) vq58) 186 ((30 * j + n)) (-1))))) (m' := 165) (as := [Vr 166, Vi 1, Vi vq58]) (S' := [Vi ((30 * (j : Int)) + (n : Int)), Vr 186]) (L0 := [Vr 166, Vi 1, Vi vq58, Vx]) (fun _ => rfl) rfl rfl rfl rfl rfl rfl (m_asked_br (b := (updC (updC bq58 185 ((30 * j + n)) vq58) 186 ((30 * j + n)) (-1))) ((hbq58.2.2.up (by omega)).up (by omega)) 1 vq58) (fun r h' hq => ?_)
        obtain ⟨rfl, rfl⟩ := hq
        show Ev X _ _ 130 [Vr 166, Vi 5, Vi ((30 * (j : Int)) + (n : Int))] [Vi 0, Vi ((30 * (j : Int)) + (n : Int)), Vr 186] ((SHv st dr rd), (ovl a s (updC (updC bq58 185 ((30 * j + n)) vq58) 186 ((30 * j + n)) (-1)))) _
        refine Ev.iast (c' := (ovl a s (updC (updC (updC bq58 185 ((30 * j + n)) vq58) 186 ((30 * j + n)) (-1)) 186 ((30 * j + n)) 0))) rfl (by decide) rfl (by omega) (by omega) (ovl_wm (by decide)) ?_
        refine Ev.call (k := 9) (pc1 := 144) (L1 := [Vr 166, Vi 5, Vi ((30 * (j : Int)) + (n : Int))]) (S1 := [Vi (-1), Vi 2, Vr 166, Vi ((30 * (j : Int)) + (n : Int)), Vr 187]) (h1 := ((SHv st dr rd), (ovl a s (updC (updC (updC bq58 185 ((30 * j + n)) vq58) 186 ((30 * j + n)) (-1)) 186 ((30 * j + n)) 0)))) (m' := 165) (as := [Vr 166, Vi 2, Vi (-1)]) (S' := [Vi ((30 * (j : Int)) + (n : Int)), Vr 187]) (L0 := [Vr 166, Vi 2, Vi (-1), Vx]) (fun _ => rfl) rfl rfl rfl rfl rfl rfl (m_asked_br (b := (updC (updC (updC bq58 185 ((30 * j + n)) vq58) 186 ((30 * j + n)) (-1)) 186 ((30 * j + n)) 0)) (((hbq58.2.2.up (by omega)).up (by omega)).up (by omega)) 2 (-1)) (fun r h' hq => ?_)
        obtain ⟨rfl, rfl⟩ := hq
        show Ev X _ _ 147 [Vr 166, Vi 5, Vi ((30 * (j : Int)) + (n : Int))] [Vi 0, Vi ((30 * (j : Int)) + (n : Int)), Vr 187] ((SHv st dr rd), (ovl a s (updC (updC (updC bq58 185 ((30 * j + n)) vq58) 186 ((30 * j + n)) (-1)) 186 ((30 * j + n)) 0))) _
        refine Ev.steps (k := 1) (pc' := 156) (L' := [Vr 166, Vi 5, Vi ((30 * (j : Int)) + (n : Int))]) (S' := [Vi 0, Vi ((30 * (j : Int)) + (n : Int)), Vr 187]) (h' := ((SHv st dr rd), (ovl a s (updC (updC (updC bq58 185 ((30 * j + n)) vq58) 186 ((30 * j + n)) (-1)) 186 ((30 * j + n)) 0)))) (fun _ => rfl) ?_
        refine Ev.iast (c' := (ovl a s (updC (updC (updC (updC bq58 185 ((30 * j + n)) vq58) 186 ((30 * j + n)) (-1)) 186 ((30 * j + n)) 0) 187 ((30 * j + n)) 0))) rfl (by decide) rfl (by omega) (by omega) (ovl_wm (by decide)) ?_
        refine Ev.steps (k := 5) (pc' := 166) (L' := [Vr 166, Vi 5, Vi ((30 * (j : Int)) + (n : Int))]) (S' := [Vi (bq58 166 38), Vi ((30 * (j : Int)) + (n : Int)), Vr 188]) (h' := ((SHv st dr rd), (ovl a s (updC (updC (updC (updC bq58 185 ((30 * j + n)) vq58) 186 ((30 * j + n)) (-1)) 186 ((30 * j + n)) 0) 187 ((30 * j + n)) 0)))) (fun _ => rfl) ?_
        refine Ev.iast (c' := (ovl a s (updC (updC (updC (updC (updC bq58 185 ((30 * j + n)) vq58) 186 ((30 * j + n)) (-1)) 186 ((30 * j + n)) 0) 187 ((30 * j + n)) 0) 188 ((30 * j + n)) (bq58 166 38)))) rfl (by decide) rfl (by omega) (by omega) (ovl_wm (by decide)) ?_
        refine Ev.call (k := 5) (pc1 := 181) (L1 := [Vr 166, Vi 5, Vi ((30 * (j : Int)) + (n : Int))]) (S1 := [Vl 2003330414, Vr 166]) (h1 := ((SHv st dr rd), (ovl a s (updC (updC (updC (updC (updC bq58 185 ((30 * j + n)) vq58) 186 ((30 * j + n)) (-1)) 186 ((30 * j + n)) 0) 187 ((30 * j + n)) 0) 188 ((30 * j + n)) (bq58 166 38))))) (m' := 181) (as := [Vr 166, Vl 2003330414]) (S' := []) (L0 := [Vr 166, Vl 2003330414, Vx]) (fun _ => rfl) rfl rfl rfl rfl rfl rfl (m_mustW_br (b := (updC (updC (updC (updC (updC bq58 185 ((30 * j + n)) vq58) 186 ((30 * j + n)) (-1)) 186 ((30 * j + n)) 0) 187 ((30 * j + n)) 0) 188 ((30 * j + n)) (bq58 166 38))) (((((hbq58.2.2.up (by omega)).up (by omega)).up (by omega)).up (by omega)).up (by omega)) 2003330414) (fun r h' hq => ?_)
        obtain ⟨rfl, rfl⟩ := hq
        show Ev X _ _ 184 [Vr 166, Vi 5, Vi ((30 * (j : Int)) + (n : Int))] [] ((SHv st dr rd), (ovl a s (updC (updC (updC (updC (updC bq58 185 ((30 * j + n)) vq58) 186 ((30 * j + n)) (-1)) 186 ((30 * j + n)) 0) 187 ((30 * j + n)) 0) 188 ((30 * j + n)) (bq58 166 38)))) _
        refine Ev.steps (k := 5) (pc' := 193) (L' := [Vr 166, Vi 5, Vi ((30 * (j : Int)) + (n : Int))]) (S' := [Vi (bq58 166 38), Vi ((30 * (j : Int)) + (n : Int)), Vr 189]) (h' := ((SHv st dr rd), (ovl a s (updC (updC (updC (updC (updC bq58 185 ((30 * j + n)) vq58) 186 ((30 * j + n)) (-1)) 186 ((30 * j + n)) 0) 187 ((30 * j + n)) 0) 188 ((30 * j + n)) (bq58 166 38))))) (fun _ => rfl) ?_
        refine Ev.iast (c' := (ovl a s (updC (updC (updC (updC (updC (updC bq58 185 ((30 * j + n)) vq58) 186 ((30 * j + n)) (-1)) 186 ((30 * j + n)) 0) 187 ((30 * j + n)) 0) 188 ((30 * j + n)) (bq58 166 38)) 189 ((30 * j + n)) (bq58 166 38)))) rfl (by decide) rfl (by omega) (by omega) (ovl_wm (by decide)) ?_
        refine Ev.call (k := 2) (pc1 := 196) (L1 := [Vr 166, Vi 5, Vi ((30 * (j : Int)) + (n : Int))]) (S1 := [Vi 1, Vr 166]) (h1 := ((SHv st dr rd), (ovl a s (updC (updC (updC (updC (updC (updC bq58 185 ((30 * j + n)) vq58) 186 ((30 * j + n)) (-1)) 186 ((30 * j + n)) 0) 187 ((30 * j + n)) 0) 188 ((30 * j + n)) (bq58 166 38)) 189 ((30 * j + n)) (bq58 166 38))))) (m' := 169) (as := [Vr 166, Vi 1]) (S' := []) (L0 := [Vr 166, Vi 1, Vx]) (fun _ => rfl) rfl rfl rfl rfl rfl rfl (m_reads_br (b := (updC (updC (updC (updC (updC (updC bq58 185 ((30 * j + n)) vq58) 186 ((30 * j + n)) (-1)) 186 ((30 * j + n)) 0) 187 ((30 * j + n)) 0) 188 ((30 * j + n)) (bq58 166 38)) 189 ((30 * j + n)) (bq58 166 38))) ((((((hbq58.2.2.up (by omega)).up (by omega)).up (by omega)).up (by omega)).up (by omega)).up (by omega)) 1) (fun r h' hq => ?_)
        obtain ⟨rfl, rfl⟩ := hq
        show Ev X _ _ 199 [Vr 166, Vi 5, Vi ((30 * (j : Int)) + (n : Int))] [] ((SHv st dr rd), (ovl a s (updC (updC (updC (updC (updC (updC bq58 185 ((30 * j + n)) vq58) 186 ((30 * j + n)) (-1)) 186 ((30 * j + n)) 0) 187 ((30 * j + n)) 0) 188 ((30 * j + n)) (bq58 166 38)) 189 ((30 * j + n)) (bq58 166 38)))) _
        refine Ev.steps (k := 5) (pc' := 208) (L' := [Vr 166, Vi 5, Vi ((30 * (j : Int)) + (n : Int))]) (S' := [Vi (bq58 166 38), Vi ((30 * (j : Int)) + (n : Int)), Vr 190]) (h' := ((SHv st dr rd), (ovl a s (updC (updC (updC (updC (updC (updC bq58 185 ((30 * j + n)) vq58) 186 ((30 * j + n)) (-1)) 186 ((30 * j + n)) 0) 187 ((30 * j + n)) 0) 188 ((30 * j + n)) (bq58 166 38)) 189 ((30 * j + n)) (bq58 166 38))))) (fun _ => rfl) ?_
        refine Ev.iast (c' := (ovl a s (updC (updC (updC (updC (updC (updC (updC bq58 185 ((30 * j + n)) vq58) 186 ((30 * j + n)) (-1)) 186 ((30 * j + n)) 0) 187 ((30 * j + n)) 0) 188 ((30 * j + n)) (bq58 166 38)) 189 ((30 * j + n)) (bq58 166 38)) 190 ((30 * j + n)) (bq58 166 38)))) rfl (by decide) rfl (by omega) (by omega) (ovl_wm (by decide)) ?_
        refine Ev.steps (k := 2) (pc' := 213) (L' := [Vr 166, Vi 5, Vi ((30 * (j : Int)) + (n : Int))]) (S' := [Vi (bq58 166 8)]) (h' := ((SHv st dr rd), (ovl a s (updC (updC (updC (updC (updC (updC (updC bq58 185 ((30 * j + n)) vq58) 186 ((30 * j + n)) (-1)) 186 ((30 * j + n)) 0) 187 ((30 * j + n)) 0) 188 ((30 * j + n)) (bq58 166 38)) 189 ((30 * j + n)) (bq58 166 38)) 190 ((30 * j + n)) (bq58 166 38))))) (fun _ => rfl) ?_
        rw [hbq58.2.2.2.1]
        refine Ev.ite (P := eq58.1 ≠ 0) (k := 1) (a := 229) (b := 216) (L' := [Vr 166, Vi 5, Vi ((30 * (j : Int)) + (n : Int))]) (S' := []) (h' := ((SHv st dr rd), (ovl a s (updC (updC (updC (updC (updC (updC (updC bq58 185 ((30 * j + n)) vq58) 186 ((30 * j + n)) (-1)) 186 ((30 * j + n)) 0) 187 ((30 * j + n)) 0) 188 ((30 * j + n)) (bq58 166 38)) 189 ((30 * j + n)) (bq58 166 38)) 190 ((30 * j + n)) (bq58 166 38))))) (fun _ => rfl) (fun b213 => ?_) (fun b213 => ?_)
        · refine Ev.fin (k := 1) (r := none) (h' := ((SHv st dr rd), (ovl a s (updC (updC (updC (updC (updC (updC (updC bq58 185 ((30 * j + n)) vq58) 186 ((30 * j + n)) (-1)) 186 ((30 * j + n)) 0) 187 ((30 * j + n)) 0) 188 ((30 * j + n)) (bq58 166 38)) 189 ((30 * j + n)) (bq58 166 38)) 190 ((30 * j + n)) (bq58 166 38))))) (fun _ => rfl) ?_
          refine ⟨rfl, _, rfl, Or.inr ⟨eq58, ?_, ⟨((((((((((((FrP.rf : FrP (chLc j n c) b b).fn hoq57.1).up (by omega)).fn hbq58.1).up (by omega)).up (by omega)).up (by omega)).up (by omega)).up (by omega)).up (by omega)).up (by omega))).mo hP, (((((((hbq58.2.1.up (by omega)).up (by omega)).up (by omega)).up (by omega)).up (by omega)).up (by omega)).up (by omega)), (((((((hbq58.2.2.up (by omega)).up (by omega)).up (by omega)).up (by omega)).up (by omega)).up (by omega)).up (by omega))⟩⟩⟩
          rw [if_neg (by omega), rul_k5 hct]
          unfold rulL5
          rw [hxq57, bnX_o, hxq58, bnX_e]
        · have := hbq58.2.2.1; omega
    · show Ev X _ _ 23 [Vr 166, Vi 5, Vx] [Vi 0] ((SHv st dr rd), (ovl a s bq57)) _
      refine Ev.fin (k := 2) (r := none) (h' := ((SHv st dr rd), (ovl a s bq57))) (fun _ => rfl) ?_
      refine ⟨rfl, _, rfl, Or.inr ⟨eq57, ?_, ⟨(((FrP.rf : FrP (chLc j n c) b b).fn hbq57.1)).mo hP, hbq57.2.1, hbq57.2.2⟩⟩⟩
      rw [if_neg (by omega), rul_k5 hct]
      unfold rulL5
      rw [hxq57, bnX_e]
  · refine Ev.call (k := 2) (pc1 := 20) (L1 := [Vr 166, Vi 5, Vx]) (S1 := [Vi 1, Vr 166]) (h1 := ((SHv st dr rd), (ovl a s b))) (m' := 164) (as := [Vr 166, Vi 1]) (S' := []) (L0 := [Vr 166, Vi 1]) (fun _ => rfl) rfl rfl rfl rfl rfl rfl (m_counts1 (b := b) hk) (fun r h' hq => ?_)
    obtain ⟨rfl, bq73, rfl, hbq73⟩ := hq
    show Ev X _ _ 23 [Vr 166, Vi 5, Vx] [Vi 0] ((SHv st dr rd), (ovl a s bq73)) _
    refine Ev.fin (k := 2) (r := none) (h' := ((SHv st dr rd), (ovl a s bq73))) (fun _ => rfl) ?_
    refine ⟨rfl, _, rfl, Or.inr ⟨(fltT W 5 p), if_pos (by omega), (FrP.rf : FrJ j b b).fn hbq73.1, hbq73.2⟩⟩
