/-! THE REFERENCE READS: the next token -/
def BaM (W : TXT) (b : SC) : Prop := TxO W ∧ (∀ i, i < W.2 → b 167 i = W.1 i) ∧ b 166 2 = ((W.2 : Nat) : Int)
theorem BaM.fo {W : TXT} {b b' : SC} (h : BaM W b) (h1 : b' 167 = b 167) (h2 : b' 166 2 = b 166 2) : BaM W b' := by
  unfold BaM at h ⊢
  rw [h1, h2]
  exact h
/-- the reference is at the token behind p -/
def TkM (W : TXT) (p : Nat) (b : SC) : Prop := BaM W b ∧ b 166 8 = 0 ∧ b 166 9 = -1 ∧ b 166 5 = ((tE W p : Nat) : Int) ∧ b 166 4 = ((tA W p : Nat) : Int) ∧ tC W p ≠ 303 ∧ p ≤ W.2 ∧ (tC W p = 302 → b 166 3 = 0) ∧ (tC W p < 256 → b 166 3 = 3 ∧ b 166 6 = ((tC W p : Nat) : Int)) ∧ (256 ≤ tC W p → tC W p ≤ 300 → b 166 3 = 1 ∧ b 166 7 = ((tV W p : Nat) : Int)) ∧ (tC W p = 301 → b 166 3 = 2 ∧ b 166 6 = ((tV W p : Nat) : Int))
def BrM (e : PF) (b : SC) : Prop := 0 < e.1 ∧ b 166 8 = e.1 ∧ b 166 9 = e.2
def FrN (b b' : SC) : Prop := ∀ o i, ¬ (o = 166 ∧ 3 ≤ i ∧ i ≤ 9) → b' o i = b o i
theorem FrN.rf {b : SC} : FrN b b := fun _ _ _ => rfl
theorem FrN.tr {b b' b'' : SC} (h : FrN b b') (h' : FrN b' b'') : FrN b b'' := fun o i hn => (h' o i hn).trans (h o i hn)
theorem FrN.up {b b' : SC} {o i : Nat} {v : Int} (h : FrN b b') (hi : o = 166 ∧ 3 ≤ i ∧ i ≤ 9) : FrN b (updC b' o i v) := fun o' i' hn => by
  rw [updC_nt (fun hc => hn (by rw [hc.1, hc.2]; exact hi))]
  exact h o' i' hn
theorem FrN.row {b b' : SC} (h : FrN b b') {o : Nat} (h1 : o ≠ 166) : b' o = b o := by
  funext i
  exact h o i (by omega)
theorem TkM.mk {W : TXT} {p c v q e : Nat} {b : SC} (ht : tokT W p = (c, v, q, e)) (hB : BaM W b) (e8 : b 166 8 = 0) (e9 : b 166 9 = -1) (e5 : b 166 5 = (e : Int)) (e4 : b 166 4 = (q : Int)) (hc : c ≠ 303) (hp : p ≤ W.2) (h1 : c = 302 → b 166 3 = 0) (h2 : c < 256 → b 166 3 = 3 ∧ b 166 6 = (c : Int)) (h3 : 256 ≤ c → c ≤ 300 → b 166 3 = 1 ∧ b 166 7 = (v : Int)) (h4 : c = 301 → b 166 3 = 2 ∧ b 166 6 = (v : Int)) : TkM W p b := by
  obtain ⟨t1, t2, t3, t4⟩ := tk_of ht
  unfold TkM
  rw [t1, t2, t3, t4]
  exact ⟨hB, e8, e9, e5, e4, hc, hp, h1, h2, h3, h4⟩
def NxM (W : TXT) (p : Nat) (b b' : SC) : Prop := FrN b b' ∧ (TkM W p b' ∨ (tC W p = 303 ∧ BaM W b' ∧ BrM (1, ((tV W p : Nat) : Int)) b'))
theorem lw_8 {v c : Nat} (hv : v < 1099511627776) (hc : c < 256) : l_or (l_shl (v : Int) 8) (c : Int) = ((v * 256 + c : Nat) : Int) := by
  have h1 := b64_s (x := v) (by omega)
  have h2 := b64_s (x := c) (by omega)
  have h3 := b64_s (x := v * 256 + c) (by omega)
  rw [← h1, ← h2, show (8 : Int) = ((8 : Nat) : Int) from rfl, b64_shl (by omega), b64_or, ← h3]
  have := Nat.two_pow_add_eq_or_of_lt (i := 8) (show c < 2 ^ 8 by omega) v
  rw [show v * 2 ^ 8 = 2 ^ 8 * v by omega, ← this]
theorem m_nxF_let {X : List Int} {d : Nat} {st dr rd : Int} {a s b : C3} {W : TXT} {b0 : C3} {q : Nat} (P0 : Int) (k : Nat) (hqk : q + k ≤ W.2) (hB : BaM W b) (e8 : b 166 8 = 1) (e9 : b 166 9 = P0) (hF : FrN b0 b) : Ev X (d + 1) 157 200 [Vr 166, Vi ((q + k : Nat) : Int), Vi 1, Vi 0, Vi 6, Vi (k : Int)] [] (SHv st dr rd, ovl a s b) (fun rr hh => rr = none ∧ ∃ b' : C3, hh = (SHv st dr rd, ovl a s b') ∧ FrN b0 b' ∧ BaM W b' ∧ BrM (1, P0) b') := by
  induction hkk : (W.2 - (q + k)) using Nat.strongRecOn generalizing k b with
  | ind kk ih =>
    have h1200 := hB.1.1
    have e2 : b 166 2 = ((W.2 : Nat) : Int) := hB.2.2
    refine Ev.steps (k := 3) (pc' := 205) (L' := [Vr 166, Vi ((q + k : Nat) : Int), Vi 1, Vi 0, Vi 6, Vi (k : Int)]) (S' := [Vi (b 166 2), Vi ((q + k : Nat) : Int)]) (h' := ((SHv st dr rd), (ovl a s b))) (fun _ => rfl) ?_
    rw [e2]
    refine Ev.ite (P := ((W.2 : Nat) : Int) ≤ ((q + k : Nat) : Int)) (k := 1) (a := 323) (b := 208) (L' := [Vr 166, Vi ((q + k : Nat) : Int), Vi 1, Vi 0, Vi 6, Vi (k : Int)]) (S' := []) (h' := ((SHv st dr rd), (ovl a s b))) (fun _ => rfl) (fun b205 => ?_) (fun b205 => ?_)
    · refine Ev.steps (k := 2) (pc' := 325) (L' := [Vr 166, Vi ((q + k : Nat) : Int), Vi 1, Vi 0, Vi 6, Vi (k : Int)]) (S' := [Vi ((q + k : Nat) : Int), Vr 166]) (h' := ((SHv st dr rd), (ovl a s b))) (fun _ => rfl) ?_
      refine Ev.putf (c' := (ovl a s (updC b 166 5 ((q + k : Nat) : Int)))) rfl (by decide) rfl rfl rfl (ovl_wm (by decide)) ?_
      refine Ev.fin (k := 1) (r := none) (h' := ((SHv st dr rd), (ovl a s (updC b 166 5 ((q + k : Nat) : Int))))) (fun _ => rfl) ?_
      exact ⟨rfl, _, rfl, (hF.up (by omega)), hB.fo rfl rfl, (by show (0 : Int) < 1; decide), e8, e9⟩
    · refine Ev.steps (k := 5) (pc' := 217) (L' := [Vr 166, Vi ((q + k : Nat) : Int), Vi 1, Vi 0, Vi 6, Vi (k : Int)]) (S' := [Vi ((q + k : Nat) : Int), Vr 167]) (h' := ((SHv st dr rd), (ovl a s b))) (fun _ => rfl) ?_
      refine Ev.iald (v := (W.1 (q + k))) rfl (by decide) rfl (by omega) (by omega) (hB.2.1 (q + k) (by omega)) ?_
      refine Ev.call (k := 0) (pc1 := 218) (L1 := [Vr 166, Vi ((q + k : Nat) : Int), Vi 1, Vi 0, Vi 6, Vi (k : Int)]) (S1 := [Vi (W.1 (q + k))]) (h1 := ((SHv st dr rd), (ovl a s b))) (m' := 158) (as := [Vi (W.1 (q + k))]) (S' := []) (L0 := [Vi (W.1 (q + k))]) (fun _ => rfl) rfl rfl rfl rfl rfl rfl (m_isLetter (W.1 (q + k))) (fun r h' hq => ?_)
      obtain ⟨rfl, rfl⟩ := hq
      by_cases c218 : 97 ≤ (W.1 (q + k)) ∧ (W.1 (q + k)) ≤ 122
      · rw [if_pos c218]
        show Ev X _ _ 221 [Vr 166, Vi ((q + k : Nat) : Int), Vi 1, Vi 0, Vi 6, Vi (k : Int)] [Vi 1] ((SHv st dr rd), (ovl a s b)) _
        refine Ev.ite (P := (k : Int) ≠ 6) (k := 5) (a := 252) (b := 246) (L' := [Vr 166, Vi ((q + k : Nat) : Int), Vi 1, Vi 0, Vi 6, Vi (k : Int)]) (S' := []) (h' := ((SHv st dr rd), (ovl a s b))) (fun _ => rfl) (fun b243 => ?_) (fun b243 => ?_)
        · refine Ev.ite (P := 6 ≤ (k : Int)) (k := 3) (a := 282) (b := 259) (L' := [Vr 166, Vi ((q + k : Nat) : Int), Vi 1, Vi 0, Vi 6, Vi (k : Int)]) (S' := []) (h' := ((SHv st dr rd), (ovl a s b))) (fun _ => rfl) (fun b256 => ?_) (fun b256 => ?_)
          · refine Ev.ite (P := 6 ≤ (k : Int)) (k := 3) (a := 314) (b := 289) (L' := [Vr 166, Vi ((q + k : Nat) : Int), Vi 1, Vi 0, Vi 6, Vi (k : Int)]) (S' := []) (h' := ((SHv st dr rd), (ovl a s b))) (fun _ => rfl) (fun b286 => ?_) (fun b286 => ?_)
            · refine Ev.steps (k := 1) (pc' := 317) (L' := [Vr 166, Vi ((q + k : Nat) : Int), Vi 1, Vi 0, Vi 6, Vi (w32 ((k : Int) + 1))]) (S' := []) (h' := ((SHv st dr rd), (ovl a s b))) (fun _ => rfl) ?_
              rw [show (w32 ((k : Int) + 1)) = ((k : Int) + 1) from w32_id (by unfold R32; omega)]
              refine Ev.steps (k := 1) (pc' := 320) (L' := [Vr 166, Vi (w32 (((q + k : Nat) : Int) + 1)), Vi 1, Vi 0, Vi 6, Vi ((k : Int) + 1)]) (S' := []) (h' := ((SHv st dr rd), (ovl a s b))) (fun _ => rfl) ?_
              rw [show (w32 (((q + k : Nat) : Int) + 1)) = (((q + k : Nat) : Int) + 1) from w32_id (by unfold R32; omega)]
              refine Ev.steps (k := 1) (pc' := 200) (L' := [Vr 166, Vi (((q + k : Nat) : Int) + 1), Vi 1, Vi 0, Vi 6, Vi ((k : Int) + 1)]) (S' := []) (h' := ((SHv st dr rd), (ovl a s b))) (fun _ => rfl) ?_
              refine ih _ (by omega) (b := b) (k + 1) (by omega) (by first | exact hB | exact hB.fo rfl rfl) (by first | exact e8) (by first | exact e9) (by first | exact hF | exact hF) rfl
            · refine Ev.steps (k := 3) (pc' := 317) (L' := [Vr 166, Vi ((q + k : Nat) : Int), Vi 1, Vi 0, Vi 6, Vi (w32 ((k : Int) + 1))]) (S' := []) (h' := ((SHv st dr rd), (ovl a s b))) (fun _ => rfl) ?_
              rw [show (w32 ((k : Int) + 1)) = ((k : Int) + 1) from w32_id (by unfold R32; omega)]
              refine Ev.steps (k := 1) (pc' := 320) (L' := [Vr 166, Vi (w32 (((q + k : Nat) : Int) + 1)), Vi 1, Vi 0, Vi 6, Vi ((k : Int) + 1)]) (S' := []) (h' := ((SHv st dr rd), (ovl a s b))) (fun _ => rfl) ?_
              rw [show (w32 (((q + k : Nat) : Int) + 1)) = (((q + k : Nat) : Int) + 1) from w32_id (by unfold R32; omega)]
              refine Ev.steps (k := 1) (pc' := 200) (L' := [Vr 166, Vi (((q + k : Nat) : Int) + 1), Vi 1, Vi 0, Vi 6, Vi ((k : Int) + 1)]) (S' := []) (h' := ((SHv st dr rd), (ovl a s b))) (fun _ => rfl) ?_
              refine ih _ (by omega) (b := b) (k + 1) (by omega) (by first | exact hB | exact hB.fo rfl rfl) (by first | exact e8) (by first | exact e9) (by first | exact hF | exact hF) rfl
          · refine Ev.steps (k := 10) (pc' := 276) (L' := [Vr 166, Vi ((q + k : Nat) : Int), Vi 1, Vi 0, Vi 6, Vi (k : Int)]) (S' := [Vi ((q + k : Nat) : Int), Vr 167, Vl (l_shl (b 166 7) 8), Vr 166]) (h' := ((SHv st dr rd), (ovl a s b))) (fun _ => rfl) ?_
            refine Ev.iald (v := (W.1 (q + k))) rfl (by decide) rfl (by omega) (by omega) (hB.2.1 (q + k) (by omega)) ?_
            refine Ev.steps (k := 2) (pc' := 279) (L' := [Vr 166, Vi ((q + k : Nat) : Int), Vi 1, Vi 0, Vi 6, Vi (k : Int)]) (S' := [Vl (l_or (l_shl (b 166 7) 8) (W.1 (q + k))), Vr 166]) (h' := ((SHv st dr rd), (ovl a s b))) (fun _ => rfl) ?_
            refine Ev.putl (c' := (ovl a s (updC b 166 7 (l_or (l_shl (b 166 7) 8) (W.1 (q + k)))))) rfl (by decide) rfl rfl rfl (ovl_wm (by decide)) ?_
            refine Ev.ite (P := 6 ≤ (k : Int)) (k := 3) (a := 314) (b := 289) (L' := [Vr 166, Vi ((q + k : Nat) : Int), Vi 1, Vi 0, Vi 6, Vi (k : Int)]) (S' := []) (h' := ((SHv st dr rd), (ovl a s (updC b 166 7 (l_or (l_shl (b 166 7) 8) (W.1 (q + k))))))) (fun _ => rfl) (fun b286 => ?_) (fun b286 => ?_)
            · refine Ev.steps (k := 1) (pc' := 317) (L' := [Vr 166, Vi ((q + k : Nat) : Int), Vi 1, Vi 0, Vi 6, Vi (w32 ((k : Int) + 1))]) (S' := []) (h' := ((SHv st dr rd), (ovl a s (updC b 166 7 (l_or (l_shl (b 166 7) 8) (W.1 (q + k))))))) (fun _ => rfl) ?_
              rw [show (w32 ((k : Int) + 1)) = ((k : Int) + 1) from w32_id (by unfold R32; omega)]
              refine Ev.steps (k := 1) (pc' := 320) (L' := [Vr 166, Vi (w32 (((q + k : Nat) : Int) + 1)), Vi 1, Vi 0, Vi 6, Vi ((k : Int) + 1)]) (S' := []) (h' := ((SHv st dr rd), (ovl a s (updC b 166 7 (l_or (l_shl (b 166 7) 8) (W.1 (q + k))))))) (fun _ => rfl) ?_
              rw [show (w32 (((q + k : Nat) : Int) + 1)) = (((q + k : Nat) : Int) + 1) from w32_id (by unfold R32; omega)]
              refine Ev.steps (k := 1) (pc' := 200) (L' := [Vr 166, Vi (((q + k : Nat) : Int) + 1), Vi 1, Vi 0, Vi 6, Vi ((k : Int) + 1)]) (S' := []) (h' := ((SHv st dr rd), (ovl a s (updC b 166 7 (l_or (l_shl (b 166 7) 8) (W.1 (q + k))))))) (fun _ => rfl) ?_
              refine ih _ (by omega) (b := (updC b 166 7 (l_or (l_shl (b 166 7) 8) (W.1 (q + k))))) (k + 1) (by omega) (by first | exact hB | exact hB.fo rfl rfl) (by first | exact e8) (by first | exact e9) (by first | exact hF | exact (hF.up (by omega))) rfl
            · refine Ev.steps (k := 3) (pc' := 317) (L' := [Vr 166, Vi ((q + k : Nat) : Int), Vi 1, Vi 0, Vi 6, Vi (w32 ((k : Int) + 1))]) (S' := []) (h' := ((SHv st dr rd), (ovl a s (updC b 166 7 (l_or (l_shl (b 166 7) 8) (W.1 (q + k))))))) (fun _ => rfl) ?_
              rw [show (w32 ((k : Int) + 1)) = ((k : Int) + 1) from w32_id (by unfold R32; omega)]
              refine Ev.steps (k := 1) (pc' := 320) (L' := [Vr 166, Vi (w32 (((q + k : Nat) : Int) + 1)), Vi 1, Vi 0, Vi 6, Vi ((k : Int) + 1)]) (S' := []) (h' := ((SHv st dr rd), (ovl a s (updC b 166 7 (l_or (l_shl (b 166 7) 8) (W.1 (q + k))))))) (fun _ => rfl) ?_
              rw [show (w32 (((q + k : Nat) : Int) + 1)) = (((q + k : Nat) : Int) + 1) from w32_id (by unfold R32; omega)]
              refine Ev.steps (k := 1) (pc' := 200) (L' := [Vr 166, Vi (((q + k : Nat) : Int) + 1), Vi 1, Vi 0, Vi 6, Vi ((k : Int) + 1)]) (S' := []) (h' := ((SHv st dr rd), (ovl a s (updC b 166 7 (l_or (l_shl (b 166 7) 8) (W.1 (q + k))))))) (fun _ => rfl) ?_
              refine ih _ (by omega) (b := (updC b 166 7 (l_or (l_shl (b 166 7) 8) (W.1 (q + k))))) (k + 1) (by omega) (by first | exact hB | exact hB.fo rfl rfl) (by first | exact e8) (by first | exact e9) (by first | exact hF | exact (hF.up (by omega))) rfl
        · refine Ev.call (k := 3) (pc1 := 249) (L1 := [Vr 166, Vi ((q + k : Nat) : Int), Vi 1, Vi 0, Vi 6, Vi (k : Int)]) (S1 := [Vi ((q + k : Nat) : Int), Vi 1, Vr 166]) (h1 := ((SHv st dr rd), (ovl a s b))) (m' := 160) (as := [Vr 166, Vi 1, Vi ((q + k : Nat) : Int)]) (S' := []) (L0 := [Vr 166, Vi 1, Vi ((q + k : Nat) : Int)]) (fun _ => rfl) rfl rfl rfl rfl rfl rfl (m_blame (b := b) 1 ((q + k : Nat) : Int)) (fun r h' hq => ?_)
          obtain ⟨rfl, hq⟩ := hq
          rw [if_pos (by rw [e8]; decide)] at hq
          obtain rfl := hq
          show Ev X _ _ 252 [Vr 166, Vi ((q + k : Nat) : Int), Vi 1, Vi 0, Vi 6, Vi (k : Int)] [] ((SHv st dr rd), (ovl a s b)) _
          refine Ev.ite (P := 6 ≤ (k : Int)) (k := 3) (a := 282) (b := 259) (L' := [Vr 166, Vi ((q + k : Nat) : Int), Vi 1, Vi 0, Vi 6, Vi (k : Int)]) (S' := []) (h' := ((SHv st dr rd), (ovl a s b))) (fun _ => rfl) (fun b256 => ?_) (fun b256 => ?_)
          · refine Ev.ite (P := 6 ≤ (k : Int)) (k := 3) (a := 314) (b := 289) (L' := [Vr 166, Vi ((q + k : Nat) : Int), Vi 1, Vi 0, Vi 6, Vi (k : Int)]) (S' := []) (h' := ((SHv st dr rd), (ovl a s b))) (fun _ => rfl) (fun b286 => ?_) (fun b286 => ?_)
            · refine Ev.steps (k := 1) (pc' := 317) (L' := [Vr 166, Vi ((q + k : Nat) : Int), Vi 1, Vi 0, Vi 6, Vi (w32 ((k : Int) + 1))]) (S' := []) (h' := ((SHv st dr rd), (ovl a s b))) (fun _ => rfl) ?_
              rw [show (w32 ((k : Int) + 1)) = ((k : Int) + 1) from w32_id (by unfold R32; omega)]
              refine Ev.steps (k := 1) (pc' := 320) (L' := [Vr 166, Vi (w32 (((q + k : Nat) : Int) + 1)), Vi 1, Vi 0, Vi 6, Vi ((k : Int) + 1)]) (S' := []) (h' := ((SHv st dr rd), (ovl a s b))) (fun _ => rfl) ?_
              rw [show (w32 (((q + k : Nat) : Int) + 1)) = (((q + k : Nat) : Int) + 1) from w32_id (by unfold R32; omega)]
              refine Ev.steps (k := 1) (pc' := 200) (L' := [Vr 166, Vi (((q + k : Nat) : Int) + 1), Vi 1, Vi 0, Vi 6, Vi ((k : Int) + 1)]) (S' := []) (h' := ((SHv st dr rd), (ovl a s b))) (fun _ => rfl) ?_
              refine ih _ (by omega) (b := b) (k + 1) (by omega) (by first | exact hB | exact hB.fo rfl rfl) (by first | exact e8) (by first | exact e9) (by first | exact hF | exact hF) rfl
            · refine Ev.steps (k := 3) (pc' := 317) (L' := [Vr 166, Vi ((q + k : Nat) : Int), Vi 1, Vi 0, Vi 6, Vi (w32 ((k : Int) + 1))]) (S' := []) (h' := ((SHv st dr rd), (ovl a s b))) (fun _ => rfl) ?_
              rw [show (w32 ((k : Int) + 1)) = ((k : Int) + 1) from w32_id (by unfold R32; omega)]
              refine Ev.steps (k := 1) (pc' := 320) (L' := [Vr 166, Vi (w32 (((q + k : Nat) : Int) + 1)), Vi 1, Vi 0, Vi 6, Vi ((k : Int) + 1)]) (S' := []) (h' := ((SHv st dr rd), (ovl a s b))) (fun _ => rfl) ?_
              rw [show (w32 (((q + k : Nat) : Int) + 1)) = (((q + k : Nat) : Int) + 1) from w32_id (by unfold R32; omega)]
              refine Ev.steps (k := 1) (pc' := 200) (L' := [Vr 166, Vi (((q + k : Nat) : Int) + 1), Vi 1, Vi 0, Vi 6, Vi ((k : Int) + 1)]) (S' := []) (h' := ((SHv st dr rd), (ovl a s b))) (fun _ => rfl) ?_
              refine ih _ (by omega) (b := b) (k + 1) (by omega) (by first | exact hB | exact hB.fo rfl rfl) (by first | exact e8) (by first | exact e9) (by first | exact hF | exact hF) rfl
          · refine Ev.steps (k := 10) (pc' := 276) (L' := [Vr 166, Vi ((q + k : Nat) : Int), Vi 1, Vi 0, Vi 6, Vi (k : Int)]) (S' := [Vi ((q + k : Nat) : Int), Vr 167, Vl (l_shl (b 166 7) 8), Vr 166]) (h' := ((SHv st dr rd), (ovl a s b))) (fun _ => rfl) ?_
            refine Ev.iald (v := (W.1 (q + k))) rfl (by decide) rfl (by omega) (by omega) (hB.2.1 (q + k) (by omega)) ?_
            refine Ev.steps (k := 2) (pc' := 279) (L' := [Vr 166, Vi ((q + k : Nat) : Int), Vi 1, Vi 0, Vi 6, Vi (k : Int)]) (S' := [Vl (l_or (l_shl (b 166 7) 8) (W.1 (q + k))), Vr 166]) (h' := ((SHv st dr rd), (ovl a s b))) (fun _ => rfl) ?_
            refine Ev.putl (c' := (ovl a s (updC b 166 7 (l_or (l_shl (b 166 7) 8) (W.1 (q + k)))))) rfl (by decide) rfl rfl rfl (ovl_wm (by decide)) ?_
            refine Ev.ite (P := 6 ≤ (k : Int)) (k := 3) (a := 314) (b := 289) (L' := [Vr 166, Vi ((q + k : Nat) : Int), Vi 1, Vi 0, Vi 6, Vi (k : Int)]) (S' := []) (h' := ((SHv st dr rd), (ovl a s (updC b 166 7 (l_or (l_shl (b 166 7) 8) (W.1 (q + k))))))) (fun _ => rfl) (fun b286 => ?_) (fun b286 => ?_)
            · refine Ev.steps (k := 1) (pc' := 317) (L' := [Vr 166, Vi ((q + k : Nat) : Int), Vi 1, Vi 0, Vi 6, Vi (w32 ((k : Int) + 1))]) (S' := []) (h' := ((SHv st dr rd), (ovl a s (updC b 166 7 (l_or (l_shl (b 166 7) 8) (W.1 (q + k))))))) (fun _ => rfl) ?_
              rw [show (w32 ((k : Int) + 1)) = ((k : Int) + 1) from w32_id (by unfold R32; omega)]
              refine Ev.steps (k := 1) (pc' := 320) (L' := [Vr 166, Vi (w32 (((q + k : Nat) : Int) + 1)), Vi 1, Vi 0, Vi 6, Vi ((k : Int) + 1)]) (S' := []) (h' := ((SHv st dr rd), (ovl a s (updC b 166 7 (l_or (l_shl (b 166 7) 8) (W.1 (q + k))))))) (fun _ => rfl) ?_
              rw [show (w32 (((q + k : Nat) : Int) + 1)) = (((q + k : Nat) : Int) + 1) from w32_id (by unfold R32; omega)]
              refine Ev.steps (k := 1) (pc' := 200) (L' := [Vr 166, Vi (((q + k : Nat) : Int) + 1), Vi 1, Vi 0, Vi 6, Vi ((k : Int) + 1)]) (S' := []) (h' := ((SHv st dr rd), (ovl a s (updC b 166 7 (l_or (l_shl (b 166 7) 8) (W.1 (q + k))))))) (fun _ => rfl) ?_
              refine ih _ (by omega) (b := (updC b 166 7 (l_or (l_shl (b 166 7) 8) (W.1 (q + k))))) (k + 1) (by omega) (by first | exact hB | exact hB.fo rfl rfl) (by first | exact e8) (by first | exact e9) (by first | exact hF | exact (hF.up (by omega))) rfl
            · refine Ev.steps (k := 3) (pc' := 317) (L' := [Vr 166, Vi ((q + k : Nat) : Int), Vi 1, Vi 0, Vi 6, Vi (w32 ((k : Int) + 1))]) (S' := []) (h' := ((SHv st dr rd), (ovl a s (updC b 166 7 (l_or (l_shl (b 166 7) 8) (W.1 (q + k))))))) (fun _ => rfl) ?_
              rw [show (w32 ((k : Int) + 1)) = ((k : Int) + 1) from w32_id (by unfold R32; omega)]
              refine Ev.steps (k := 1) (pc' := 320) (L' := [Vr 166, Vi (w32 (((q + k : Nat) : Int) + 1)), Vi 1, Vi 0, Vi 6, Vi ((k : Int) + 1)]) (S' := []) (h' := ((SHv st dr rd), (ovl a s (updC b 166 7 (l_or (l_shl (b 166 7) 8) (W.1 (q + k))))))) (fun _ => rfl) ?_
              rw [show (w32 (((q + k : Nat) : Int) + 1)) = (((q + k : Nat) : Int) + 1) from w32_id (by unfold R32; omega)]
              refine Ev.steps (k := 1) (pc' := 200) (L' := [Vr 166, Vi (((q + k : Nat) : Int) + 1), Vi 1, Vi 0, Vi 6, Vi ((k : Int) + 1)]) (S' := []) (h' := ((SHv st dr rd), (ovl a s (updC b 166 7 (l_or (l_shl (b 166 7) 8) (W.1 (q + k))))))) (fun _ => rfl) ?_
              refine ih _ (by omega) (b := (updC b 166 7 (l_or (l_shl (b 166 7) 8) (W.1 (q + k))))) (k + 1) (by omega) (by first | exact hB | exact hB.fo rfl rfl) (by first | exact e8) (by first | exact e9) (by first | exact hF | exact (hF.up (by omega))) rfl
      · rw [if_neg c218]
        show Ev X _ _ 221 [Vr 166, Vi ((q + k : Nat) : Int), Vi 1, Vi 0, Vi 6, Vi (k : Int)] [Vi 0] ((SHv st dr rd), (ovl a s b)) _
        refine Ev.steps (k := 3) (pc' := 325) (L' := [Vr 166, Vi ((q + k : Nat) : Int), Vi 1, Vi 0, Vi 6, Vi (k : Int)]) (S' := [Vi ((q + k : Nat) : Int), Vr 166]) (h' := ((SHv st dr rd), (ovl a s b))) (fun _ => rfl) ?_
        refine Ev.putf (c' := (ovl a s (updC b 166 5 ((q + k : Nat) : Int)))) rfl (by decide) rfl rfl rfl (ovl_wm (by decide)) ?_
        refine Ev.fin (k := 1) (r := none) (h' := ((SHv st dr rd), (ovl a s (updC b 166 5 ((q + k : Nat) : Int))))) (fun _ => rfl) ?_
        exact ⟨rfl, _, rfl, (hF.up (by omega)), hB.fo rfl rfl, (by show (0 : Int) < 1; decide), e8, e9⟩
theorem m_nxN_let {X : List Int} {d : Nat} {st dr rd : Int} {a s b : C3} {W : TXT} {b0 : C3} {p q : Nat} (hp : p ≤ W.2) (hq : skpT W p = q) (hn : q < W.2) (h0 : clsT (W.1 q) = 1) (hb : ¬ (0 < q ∧ clsT (W.1 (q - 1)) ≠ 0)) (k : Nat) (hk : k ≤ 6) (hqk : q + k ≤ W.2) (hcl : ∀ i, i < k → clsT (W.1 (q + i)) = 1) (hB : BaM W b) (e8 : b 166 8 = 0) (e9 : b 166 9 = -1) (e3 : b 166 3 = 1) (e4 : b 166 4 = (q : Int)) (ev : b 166 7 = ((vlT W 256 0 q k : Nat) : Int)) (hF : FrN b0 b) : Ev X (d + 1) 157 200 [Vr 166, Vi ((q + k : Nat) : Int), Vi 1, Vi 0, Vi 6, Vi (k : Int)] [] (SHv st dr rd, ovl a s b) (fun rr hh => rr = none ∧ ∃ b' : C3, hh = (SHv st dr rd, ovl a s b') ∧ NxM W p b0 b') := by
  induction hkk : (6 - k) using Nat.strongRecOn generalizing k b with
  | ind kk ih =>
    have h1200 := hB.1.1
    have e2 : b 166 2 = ((W.2 : Nat) : Int) := hB.2.2
    obtain ⟨v, hv⟩ : ∃ v, v = vlT W 256 0 q k := ⟨_, rfl⟩
    have evv : b 166 7 = (v : Int) := by rw [hv]; exact ev
    have hvl : v < 256 ^ k := by
      rw [hv]
      exact vdN_lt _ _ (vl_vd k hcl)
    have hv5 : k < 6 → v < 1099511627776 := fun hk => by
      have : 256 ^ k ≤ 256 ^ 5 := Nat.pow_le_pow_right (by omega) (by omega)
      omega
    clear hvl
    refine Ev.steps (k := 3) (pc' := 205) (L' := [Vr 166, Vi ((q + k : Nat) : Int), Vi 1, Vi 0, Vi 6, Vi (k : Int)]) (S' := [Vi (b 166 2), Vi ((q + k : Nat) : Int)]) (h' := ((SHv st dr rd), (ovl a s b))) (fun _ => rfl) ?_
    rw [e2]
    refine Ev.ite (P := ((W.2 : Nat) : Int) ≤ ((q + k : Nat) : Int)) (k := 1) (a := 323) (b := 208) (L' := [Vr 166, Vi ((q + k : Nat) : Int), Vi 1, Vi 0, Vi 6, Vi (k : Int)]) (S' := []) (h' := ((SHv st dr rd), (ovl a s b))) (fun _ => rfl) (fun b205 => ?_) (fun b205 => ?_)
    · refine Ev.steps (k := 2) (pc' := 325) (L' := [Vr 166, Vi ((q + k : Nat) : Int), Vi 1, Vi 0, Vi 6, Vi (k : Int)]) (S' := [Vi ((q + k : Nat) : Int), Vr 166]) (h' := ((SHv st dr rd), (ovl a s b))) (fun _ => rfl) ?_
      refine Ev.putf (c' := (ovl a s (updC b 166 5 ((q + k : Nat) : Int)))) rfl (by decide) rfl rfl rfl (ovl_wm (by decide)) ?_
      refine Ev.fin (k := 1) (r := none) (h' := ((SHv st dr rd), (ovl a s (updC b 166 5 ((q + k : Nat) : Int))))) (fun _ => rfl) ?_
      have hr : runT W q = k := run_uq (fun i hi => (hcl i hi).trans h0.symm) (fun h => by
        rw [h0]
        intro g
        have g2 := cls_1.mp g
        omega) hqk
      have ht := tok_wrd hq hn h0 hb hr hk
      refine ⟨rfl, _, rfl, (hF.up (by omega)), Or.inl (TkM.mk ht (hB.fo rfl rfl) e8 e9 rfl e4 (fun h => by rcases tcW_cs (vlT W 256 0 q k) with g | g <;> omega) hp (fun h => by rcases tcW_cs (vlT W 256 0 q k) with g | g <;> omega) (fun h => by rcases tcW_cs (vlT W 256 0 q k) with g | g <;> omega) (fun _ _ => ⟨e3, ev⟩) (fun h => by rcases tcW_cs (vlT W 256 0 q k) with g | g <;> omega))⟩
    · refine Ev.steps (k := 5) (pc' := 217) (L' := [Vr 166, Vi ((q + k : Nat) : Int), Vi 1, Vi 0, Vi 6, Vi (k : Int)]) (S' := [Vi ((q + k : Nat) : Int), Vr 167]) (h' := ((SHv st dr rd), (ovl a s b))) (fun _ => rfl) ?_
      refine Ev.iald (v := (W.1 (q + k))) rfl (by decide) rfl (by omega) (by omega) (hB.2.1 (q + k) (by omega)) ?_
      refine Ev.call (k := 0) (pc1 := 218) (L1 := [Vr 166, Vi ((q + k : Nat) : Int), Vi 1, Vi 0, Vi 6, Vi (k : Int)]) (S1 := [Vi (W.1 (q + k))]) (h1 := ((SHv st dr rd), (ovl a s b))) (m' := 158) (as := [Vi (W.1 (q + k))]) (S' := []) (L0 := [Vi (W.1 (q + k))]) (fun _ => rfl) rfl rfl rfl rfl rfl rfl (m_isLetter (W.1 (q + k))) (fun r h' hq => ?_)
      obtain ⟨rfl, rfl⟩ := hq
      by_cases c218 : 97 ≤ (W.1 (q + k)) ∧ (W.1 (q + k)) ≤ 122
      · rw [if_pos c218]
        show Ev X _ _ 221 [Vr 166, Vi ((q + k : Nat) : Int), Vi 1, Vi 0, Vi 6, Vi (k : Int)] [Vi 1] ((SHv st dr rd), (ovl a s b)) _
        refine Ev.steps (k := 2) (pc' := 239) (L' := [Vr 166, Vi ((q + k : Nat) : Int), Vi 1, Vi 0, Vi 6, Vi (k : Int)]) (S' := []) (h' := ((SHv st dr rd), (ovl a s b))) (fun _ => rfl) ?_
        have hc1 : clsT (W.1 (q + k)) = 1 := cls_1.mpr (by assumption)
        obtain ⟨c, hc⟩ : ∃ c : Nat, (c : Int) = W.1 (q + k) := ⟨(W.1 (q + k)).toNat, by have := hB.1.2 (q + k) (by omega); omega⟩
        have hcb : c < 256 := by have := hB.1.2 (q + k) (by omega); omega
        have hcr : 97 ≤ c := by have := cls_1.mp hc1; omega
        have hcv : b 167 (q + k) = (c : Int) := by rw [hB.2.1 (q + k) (by omega), hc]
        refine Ev.ite (P := (k : Int) ≠ 6) (k := 3) (a := 252) (b := 246) (L' := [Vr 166, Vi ((q + k : Nat) : Int), Vi 1, Vi 0, Vi 6, Vi (k : Int)]) (S' := []) (h' := ((SHv st dr rd), (ovl a s b))) (fun _ => rfl) (fun b243 => ?_) (fun b243 => ?_)
        · refine Ev.ite (P := 6 ≤ (k : Int)) (k := 3) (a := 282) (b := 259) (L' := [Vr 166, Vi ((q + k : Nat) : Int), Vi 1, Vi 0, Vi 6, Vi (k : Int)]) (S' := []) (h' := ((SHv st dr rd), (ovl a s b))) (fun _ => rfl) (fun b256 => ?_) (fun b256 => ?_)
          · refine Ev.ite (P := 6 ≤ (k : Int)) (k := 3) (a := 314) (b := 289) (L' := [Vr 166, Vi ((q + k : Nat) : Int), Vi 1, Vi 0, Vi 6, Vi (k : Int)]) (S' := []) (h' := ((SHv st dr rd), (ovl a s b))) (fun _ => rfl) (fun b286 => ?_) (fun b286 => ?_)
            · refine Ev.steps (k := 1) (pc' := 317) (L' := [Vr 166, Vi ((q + k : Nat) : Int), Vi 1, Vi 0, Vi 6, Vi (w32 ((k : Int) + 1))]) (S' := []) (h' := ((SHv st dr rd), (ovl a s b))) (fun _ => rfl) ?_
              rw [show (w32 ((k : Int) + 1)) = ((k : Int) + 1) from w32_id (by unfold R32; omega)]
              refine Ev.steps (k := 1) (pc' := 320) (L' := [Vr 166, Vi (w32 (((q + k : Nat) : Int) + 1)), Vi 1, Vi 0, Vi 6, Vi ((k : Int) + 1)]) (S' := []) (h' := ((SHv st dr rd), (ovl a s b))) (fun _ => rfl) ?_
              rw [show (w32 (((q + k : Nat) : Int) + 1)) = (((q + k : Nat) : Int) + 1) from w32_id (by unfold R32; omega)]
              refine Ev.steps (k := 1) (pc' := 200) (L' := [Vr 166, Vi (((q + k : Nat) : Int) + 1), Vi 1, Vi 0, Vi 6, Vi ((k : Int) + 1)]) (S' := []) (h' := ((SHv st dr rd), (ovl a s b))) (fun _ => rfl) ?_
              exfalso
              omega
            · refine Ev.steps (k := 3) (pc' := 317) (L' := [Vr 166, Vi ((q + k : Nat) : Int), Vi 1, Vi 0, Vi 6, Vi (w32 ((k : Int) + 1))]) (S' := []) (h' := ((SHv st dr rd), (ovl a s b))) (fun _ => rfl) ?_
              rw [show (w32 ((k : Int) + 1)) = ((k : Int) + 1) from w32_id (by unfold R32; omega)]
              refine Ev.steps (k := 1) (pc' := 320) (L' := [Vr 166, Vi (w32 (((q + k : Nat) : Int) + 1)), Vi 1, Vi 0, Vi 6, Vi ((k : Int) + 1)]) (S' := []) (h' := ((SHv st dr rd), (ovl a s b))) (fun _ => rfl) ?_
              rw [show (w32 (((q + k : Nat) : Int) + 1)) = (((q + k : Nat) : Int) + 1) from w32_id (by unfold R32; omega)]
              refine Ev.steps (k := 1) (pc' := 200) (L' := [Vr 166, Vi (((q + k : Nat) : Int) + 1), Vi 1, Vi 0, Vi 6, Vi ((k : Int) + 1)]) (S' := []) (h' := ((SHv st dr rd), (ovl a s b))) (fun _ => rfl) ?_
              exfalso
              omega
          · refine Ev.steps (k := 5) (pc' := 268) (L' := [Vr 166, Vi ((q + k : Nat) : Int), Vi 1, Vi 0, Vi 6, Vi (k : Int)]) (S' := [Vl (b 166 7), Vr 166]) (h' := ((SHv st dr rd), (ovl a s b))) (fun _ => rfl) ?_
            rw [evv]
            refine Ev.steps (k := 5) (pc' := 276) (L' := [Vr 166, Vi ((q + k : Nat) : Int), Vi 1, Vi 0, Vi 6, Vi (k : Int)]) (S' := [Vi ((q + k : Nat) : Int), Vr 167, Vl (l_shl (v : Int) 8), Vr 166]) (h' := ((SHv st dr rd), (ovl a s b))) (fun _ => rfl) ?_
            refine Ev.iald (v := (W.1 (q + k))) rfl (by decide) rfl (by omega) (by omega) (hB.2.1 (q + k) (by omega)) ?_
            refine Ev.steps (k := 2) (pc' := 279) (L' := [Vr 166, Vi ((q + k : Nat) : Int), Vi 1, Vi 0, Vi 6, Vi (k : Int)]) (S' := [Vl (l_or (l_shl (v : Int) 8) (W.1 (q + k))), Vr 166]) (h' := ((SHv st dr rd), (ovl a s b))) (fun _ => rfl) ?_
            rw [show (l_or (l_shl (v : Int) 8) (W.1 (q + k))) = ((v * 256 + c : Nat) : Int) from (by first | (rw [← hc]; exact lw_8 (hv5 (by omega)) hcb) | (exfalso; omega))]
            refine Ev.putl (c' := (ovl a s (updC b 166 7 ((v * 256 + c : Nat) : Int)))) rfl (by decide) rfl rfl rfl (ovl_wm (by decide)) ?_
            refine Ev.ite (P := 6 ≤ (k : Int)) (k := 3) (a := 314) (b := 289) (L' := [Vr 166, Vi ((q + k : Nat) : Int), Vi 1, Vi 0, Vi 6, Vi (k : Int)]) (S' := []) (h' := ((SHv st dr rd), (ovl a s (updC b 166 7 ((v * 256 + c : Nat) : Int))))) (fun _ => rfl) (fun b286 => ?_) (fun b286 => ?_)
            · refine Ev.steps (k := 1) (pc' := 317) (L' := [Vr 166, Vi ((q + k : Nat) : Int), Vi 1, Vi 0, Vi 6, Vi (w32 ((k : Int) + 1))]) (S' := []) (h' := ((SHv st dr rd), (ovl a s (updC b 166 7 ((v * 256 + c : Nat) : Int))))) (fun _ => rfl) ?_
              rw [show (w32 ((k : Int) + 1)) = ((k : Int) + 1) from w32_id (by unfold R32; omega)]
              refine Ev.steps (k := 1) (pc' := 320) (L' := [Vr 166, Vi (w32 (((q + k : Nat) : Int) + 1)), Vi 1, Vi 0, Vi 6, Vi ((k : Int) + 1)]) (S' := []) (h' := ((SHv st dr rd), (ovl a s (updC b 166 7 ((v * 256 + c : Nat) : Int))))) (fun _ => rfl) ?_
              rw [show (w32 (((q + k : Nat) : Int) + 1)) = (((q + k : Nat) : Int) + 1) from w32_id (by unfold R32; omega)]
              refine Ev.steps (k := 1) (pc' := 200) (L' := [Vr 166, Vi (((q + k : Nat) : Int) + 1), Vi 1, Vi 0, Vi 6, Vi ((k : Int) + 1)]) (S' := []) (h' := ((SHv st dr rd), (ovl a s (updC b 166 7 ((v * 256 + c : Nat) : Int))))) (fun _ => rfl) ?_
              refine ih _ (by omega) (b := (updC b 166 7 ((v * 256 + c : Nat) : Int))) (k + 1) (by omega) (by omega) (fun i hi => ?_) (hB.fo rfl rfl) e8 e9 e3 e4 ?_ (hF.up (by omega)) rfl
              · by_cases h : i = k
                · rw [h]; exact hc1
                · exact hcl i (by omega)
              · rw [vl_s, ← hv, ← hc, Int.toNat_natCast]
                show ((v * 256 + c : Nat) : Int) = _
                omega
            · refine Ev.steps (k := 3) (pc' := 317) (L' := [Vr 166, Vi ((q + k : Nat) : Int), Vi 1, Vi 0, Vi 6, Vi (w32 ((k : Int) + 1))]) (S' := []) (h' := ((SHv st dr rd), (ovl a s (updC b 166 7 ((v * 256 + c : Nat) : Int))))) (fun _ => rfl) ?_
              rw [show (w32 ((k : Int) + 1)) = ((k : Int) + 1) from w32_id (by unfold R32; omega)]
              refine Ev.steps (k := 1) (pc' := 320) (L' := [Vr 166, Vi (w32 (((q + k : Nat) : Int) + 1)), Vi 1, Vi 0, Vi 6, Vi ((k : Int) + 1)]) (S' := []) (h' := ((SHv st dr rd), (ovl a s (updC b 166 7 ((v * 256 + c : Nat) : Int))))) (fun _ => rfl) ?_
              rw [show (w32 (((q + k : Nat) : Int) + 1)) = (((q + k : Nat) : Int) + 1) from w32_id (by unfold R32; omega)]
              refine Ev.steps (k := 1) (pc' := 200) (L' := [Vr 166, Vi (((q + k : Nat) : Int) + 1), Vi 1, Vi 0, Vi 6, Vi ((k : Int) + 1)]) (S' := []) (h' := ((SHv st dr rd), (ovl a s (updC b 166 7 ((v * 256 + c : Nat) : Int))))) (fun _ => rfl) ?_
              refine ih _ (by omega) (b := (updC b 166 7 ((v * 256 + c : Nat) : Int))) (k + 1) (by omega) (by omega) (fun i hi => ?_) (hB.fo rfl rfl) e8 e9 e3 e4 ?_ (hF.up (by omega)) rfl
              · by_cases h : i = k
                · rw [h]; exact hc1
                · exact hcl i (by omega)
              · rw [vl_s, ← hv, ← hc, Int.toNat_natCast]
                show ((v * 256 + c : Nat) : Int) = _
                omega
        · refine Ev.call (k := 3) (pc1 := 249) (L1 := [Vr 166, Vi ((q + k : Nat) : Int), Vi 1, Vi 0, Vi 6, Vi (k : Int)]) (S1 := [Vi ((q + k : Nat) : Int), Vi 1, Vr 166]) (h1 := ((SHv st dr rd), (ovl a s b))) (m' := 160) (as := [Vr 166, Vi 1, Vi ((q + k : Nat) : Int)]) (S' := []) (L0 := [Vr 166, Vi 1, Vi ((q + k : Nat) : Int)]) (fun _ => rfl) rfl rfl rfl rfl rfl rfl (m_blame (b := b) 1 ((q + k : Nat) : Int)) (fun r h' hq => ?_)
          obtain ⟨rfl, hq⟩ := hq
          rw [if_neg (by rw [e8]; decide)] at hq
          obtain rfl := hq
          show Ev X _ _ 252 [Vr 166, Vi ((q + k : Nat) : Int), Vi 1, Vi 0, Vi 6, Vi (k : Int)] [] ((SHv st dr rd), (ovl a s (updC (updC b 166 8 1) 166 9 ((q + k : Nat) : Int)))) _
          refine Ev.ite (P := 6 ≤ (k : Int)) (k := 3) (a := 282) (b := 259) (L' := [Vr 166, Vi ((q + k : Nat) : Int), Vi 1, Vi 0, Vi 6, Vi (k : Int)]) (S' := []) (h' := ((SHv st dr rd), (ovl a s (updC (updC b 166 8 1) 166 9 ((q + k : Nat) : Int))))) (fun _ => rfl) (fun b256 => ?_) (fun b256 => ?_)
          · refine Ev.ite (P := 6 ≤ (k : Int)) (k := 3) (a := 314) (b := 289) (L' := [Vr 166, Vi ((q + k : Nat) : Int), Vi 1, Vi 0, Vi 6, Vi (k : Int)]) (S' := []) (h' := ((SHv st dr rd), (ovl a s (updC (updC b 166 8 1) 166 9 ((q + k : Nat) : Int))))) (fun _ => rfl) (fun b286 => ?_) (fun b286 => ?_)
            · refine Ev.steps (k := 1) (pc' := 317) (L' := [Vr 166, Vi ((q + k : Nat) : Int), Vi 1, Vi 0, Vi 6, Vi (w32 ((k : Int) + 1))]) (S' := []) (h' := ((SHv st dr rd), (ovl a s (updC (updC b 166 8 1) 166 9 ((q + k : Nat) : Int))))) (fun _ => rfl) ?_
              rw [show (w32 ((k : Int) + 1)) = ((k : Int) + 1) from w32_id (by unfold R32; omega)]
              refine Ev.steps (k := 1) (pc' := 320) (L' := [Vr 166, Vi (w32 (((q + k : Nat) : Int) + 1)), Vi 1, Vi 0, Vi 6, Vi ((k : Int) + 1)]) (S' := []) (h' := ((SHv st dr rd), (ovl a s (updC (updC b 166 8 1) 166 9 ((q + k : Nat) : Int))))) (fun _ => rfl) ?_
              rw [show (w32 (((q + k : Nat) : Int) + 1)) = (((q + k : Nat) : Int) + 1) from w32_id (by unfold R32; omega)]
              refine Ev.steps (k := 1) (pc' := 200) (L' := [Vr 166, Vi (((q + k : Nat) : Int) + 1), Vi 1, Vi 0, Vi 6, Vi ((k : Int) + 1)]) (S' := []) (h' := ((SHv st dr rd), (ovl a s (updC (updC b 166 8 1) 166 9 ((q + k : Nat) : Int))))) (fun _ => rfl) ?_
              have hke : k = 6 := by omega
              have ht := tok_wlg hq hn h0 hb (run_gt (r := 6) (by omega) (fun i hi => by
                by_cases h : i = k
                · rw [h, h0]; exact hc1
                · rw [h0]; exact hcl i (by omega)))
              obtain ⟨t1, t2, t3, t4⟩ := tk_of ht
              refine (m_nxF_let (b := (updC (updC b 166 8 1) 166 9 ((q + k : Nat) : Int))) (b0 := b0) (q := q) _ (k + 1) (by omega) (hB.fo rfl rfl) rfl rfl ((hF.up (by omega)).up (by omega))).mono ?_
              rintro r h' ⟨g1, b', g2, g3, g4, g5⟩
              refine ⟨g1, b', g2, g3, Or.inr ⟨t1, g4, ?_⟩⟩
              rw [t2, ← hke]
              exact g5
            · refine Ev.steps (k := 3) (pc' := 317) (L' := [Vr 166, Vi ((q + k : Nat) : Int), Vi 1, Vi 0, Vi 6, Vi (w32 ((k : Int) + 1))]) (S' := []) (h' := ((SHv st dr rd), (ovl a s (updC (updC b 166 8 1) 166 9 ((q + k : Nat) : Int))))) (fun _ => rfl) ?_
              rw [show (w32 ((k : Int) + 1)) = ((k : Int) + 1) from w32_id (by unfold R32; omega)]
              refine Ev.steps (k := 1) (pc' := 320) (L' := [Vr 166, Vi (w32 (((q + k : Nat) : Int) + 1)), Vi 1, Vi 0, Vi 6, Vi ((k : Int) + 1)]) (S' := []) (h' := ((SHv st dr rd), (ovl a s (updC (updC b 166 8 1) 166 9 ((q + k : Nat) : Int))))) (fun _ => rfl) ?_
              rw [show (w32 (((q + k : Nat) : Int) + 1)) = (((q + k : Nat) : Int) + 1) from w32_id (by unfold R32; omega)]
              refine Ev.steps (k := 1) (pc' := 200) (L' := [Vr 166, Vi (((q + k : Nat) : Int) + 1), Vi 1, Vi 0, Vi 6, Vi ((k : Int) + 1)]) (S' := []) (h' := ((SHv st dr rd), (ovl a s (updC (updC b 166 8 1) 166 9 ((q + k : Nat) : Int))))) (fun _ => rfl) ?_
              have hke : k = 6 := by omega
              have ht := tok_wlg hq hn h0 hb (run_gt (r := 6) (by omega) (fun i hi => by
                by_cases h : i = k
                · rw [h, h0]; exact hc1
                · rw [h0]; exact hcl i (by omega)))
              obtain ⟨t1, t2, t3, t4⟩ := tk_of ht
              refine (m_nxF_let (b := (updC (updC b 166 8 1) 166 9 ((q + k : Nat) : Int))) (b0 := b0) (q := q) _ (k + 1) (by omega) (hB.fo rfl rfl) rfl rfl ((hF.up (by omega)).up (by omega))).mono ?_
              rintro r h' ⟨g1, b', g2, g3, g4, g5⟩
              refine ⟨g1, b', g2, g3, Or.inr ⟨t1, g4, ?_⟩⟩
              rw [t2, ← hke]
              exact g5
          · refine Ev.steps (k := 10) (pc' := 276) (L' := [Vr 166, Vi ((q + k : Nat) : Int), Vi 1, Vi 0, Vi 6, Vi (k : Int)]) (S' := [Vi ((q + k : Nat) : Int), Vr 167, Vl (l_shl ((updC (updC b 166 8 1) 166 9 ((q + k : Nat) : Int)) 166 7) 8), Vr 166]) (h' := ((SHv st dr rd), (ovl a s (updC (updC b 166 8 1) 166 9 ((q + k : Nat) : Int))))) (fun _ => rfl) ?_
            refine Ev.iald (v := ((updC (updC b 166 8 1) 166 9 ((q + k : Nat) : Int)) 167 ((q + k)))) rfl (by decide) rfl (by omega) (by omega) (rfl) ?_
            refine Ev.steps (k := 2) (pc' := 279) (L' := [Vr 166, Vi ((q + k : Nat) : Int), Vi 1, Vi 0, Vi 6, Vi (k : Int)]) (S' := [Vl (l_or (l_shl ((updC (updC b 166 8 1) 166 9 ((q + k : Nat) : Int)) 166 7) 8) ((updC (updC b 166 8 1) 166 9 ((q + k : Nat) : Int)) 167 ((q + k)))), Vr 166]) (h' := ((SHv st dr rd), (ovl a s (updC (updC b 166 8 1) 166 9 ((q + k : Nat) : Int))))) (fun _ => rfl) ?_
            rw [show (l_or (l_shl ((updC (updC b 166 8 1) 166 9 ((q + k : Nat) : Int)) 166 7) 8) ((updC (updC b 166 8 1) 166 9 ((q + k : Nat) : Int)) 167 ((q + k)))) = ((v * 256 + c : Nat) : Int) from (by first | (rw [← hc]; exact lw_8 (hv5 (by omega)) hcb) | (exfalso; omega))]
            refine Ev.putl (c' := (ovl a s (updC (updC (updC b 166 8 1) 166 9 ((q + k : Nat) : Int)) 166 7 ((v * 256 + c : Nat) : Int)))) rfl (by decide) rfl rfl rfl (ovl_wm (by decide)) ?_
            refine Ev.ite (P := 6 ≤ (k : Int)) (k := 3) (a := 314) (b := 289) (L' := [Vr 166, Vi ((q + k : Nat) : Int), Vi 1, Vi 0, Vi 6, Vi (k : Int)]) (S' := []) (h' := ((SHv st dr rd), (ovl a s (updC (updC (updC b 166 8 1) 166 9 ((q + k : Nat) : Int)) 166 7 ((v * 256 + c : Nat) : Int))))) (fun _ => rfl) (fun b286 => ?_) (fun b286 => ?_)
            · refine Ev.steps (k := 1) (pc' := 317) (L' := [Vr 166, Vi ((q + k : Nat) : Int), Vi 1, Vi 0, Vi 6, Vi (w32 ((k : Int) + 1))]) (S' := []) (h' := ((SHv st dr rd), (ovl a s (updC (updC (updC b 166 8 1) 166 9 ((q + k : Nat) : Int)) 166 7 ((v * 256 + c : Nat) : Int))))) (fun _ => rfl) ?_
              rw [show (w32 ((k : Int) + 1)) = ((k : Int) + 1) from w32_id (by unfold R32; omega)]
              refine Ev.steps (k := 1) (pc' := 320) (L' := [Vr 166, Vi (w32 (((q + k : Nat) : Int) + 1)), Vi 1, Vi 0, Vi 6, Vi ((k : Int) + 1)]) (S' := []) (h' := ((SHv st dr rd), (ovl a s (updC (updC (updC b 166 8 1) 166 9 ((q + k : Nat) : Int)) 166 7 ((v * 256 + c : Nat) : Int))))) (fun _ => rfl) ?_
              rw [show (w32 (((q + k : Nat) : Int) + 1)) = (((q + k : Nat) : Int) + 1) from w32_id (by unfold R32; omega)]
              refine Ev.steps (k := 1) (pc' := 200) (L' := [Vr 166, Vi (((q + k : Nat) : Int) + 1), Vi 1, Vi 0, Vi 6, Vi ((k : Int) + 1)]) (S' := []) (h' := ((SHv st dr rd), (ovl a s (updC (updC (updC b 166 8 1) 166 9 ((q + k : Nat) : Int)) 166 7 ((v * 256 + c : Nat) : Int))))) (fun _ => rfl) ?_
              exfalso
              omega
            · refine Ev.steps (k := 3) (pc' := 317) (L' := [Vr 166, Vi ((q + k : Nat) : Int), Vi 1, Vi 0, Vi 6, Vi (w32 ((k : Int) + 1))]) (S' := []) (h' := ((SHv st dr rd), (ovl a s (updC (updC (updC b 166 8 1) 166 9 ((q + k : Nat) : Int)) 166 7 ((v * 256 + c : Nat) : Int))))) (fun _ => rfl) ?_
              rw [show (w32 ((k : Int) + 1)) = ((k : Int) + 1) from w32_id (by unfold R32; omega)]
              refine Ev.steps (k := 1) (pc' := 320) (L' := [Vr 166, Vi (w32 (((q + k : Nat) : Int) + 1)), Vi 1, Vi 0, Vi 6, Vi ((k : Int) + 1)]) (S' := []) (h' := ((SHv st dr rd), (ovl a s (updC (updC (updC b 166 8 1) 166 9 ((q + k : Nat) : Int)) 166 7 ((v * 256 + c : Nat) : Int))))) (fun _ => rfl) ?_
              rw [show (w32 (((q + k : Nat) : Int) + 1)) = (((q + k : Nat) : Int) + 1) from w32_id (by unfold R32; omega)]
              refine Ev.steps (k := 1) (pc' := 200) (L' := [Vr 166, Vi (((q + k : Nat) : Int) + 1), Vi 1, Vi 0, Vi 6, Vi ((k : Int) + 1)]) (S' := []) (h' := ((SHv st dr rd), (ovl a s (updC (updC (updC b 166 8 1) 166 9 ((q + k : Nat) : Int)) 166 7 ((v * 256 + c : Nat) : Int))))) (fun _ => rfl) ?_
              exfalso
              omega
      · rw [if_neg c218]
        show Ev X _ _ 221 [Vr 166, Vi ((q + k : Nat) : Int), Vi 1, Vi 0, Vi 6, Vi (k : Int)] [Vi 0] ((SHv st dr rd), (ovl a s b)) _
        refine Ev.steps (k := 3) (pc' := 325) (L' := [Vr 166, Vi ((q + k : Nat) : Int), Vi 1, Vi 0, Vi 6, Vi (k : Int)]) (S' := [Vi ((q + k : Nat) : Int), Vr 166]) (h' := ((SHv st dr rd), (ovl a s b))) (fun _ => rfl) ?_
        refine Ev.putf (c' := (ovl a s (updC b 166 5 ((q + k : Nat) : Int)))) rfl (by decide) rfl rfl rfl (ovl_wm (by decide)) ?_
        refine Ev.fin (k := 1) (r := none) (h' := ((SHv st dr rd), (ovl a s (updC b 166 5 ((q + k : Nat) : Int))))) (fun _ => rfl) ?_
        have hr : runT W q = k := run_uq (fun i hi => (hcl i hi).trans h0.symm) (fun h => by
          rw [h0]
          intro g
          have g2 := cls_1.mp g
          omega) hqk
        have ht := tok_wrd hq hn h0 hb hr hk
        refine ⟨rfl, _, rfl, (hF.up (by omega)), Or.inl (TkM.mk ht (hB.fo rfl rfl) e8 e9 rfl e4 (fun h => by rcases tcW_cs (vlT W 256 0 q k) with g | g <;> omega) hp (fun h => by rcases tcW_cs (vlT W 256 0 q k) with g | g <;> omega) (fun h => by rcases tcW_cs (vlT W 256 0 q k) with g | g <;> omega) (fun _ _ => ⟨e3, ev⟩) (fun h => by rcases tcW_cs (vlT W 256 0 q k) with g | g <;> omega))⟩
theorem m_nxF_dig {X : List Int} {d : Nat} {st dr rd : Int} {a s b : C3} {W : TXT} {b0 : C3} {q : Nat} (P0 : Int) (k : Nat) (hqk : q + k ≤ W.2) (hB : BaM W b) (e8 : b 166 8 = 1) (e9 : b 166 9 = P0) (hF : FrN b0 b) : Ev X (d + 1) 157 200 [Vr 166, Vi ((q + k : Nat) : Int), Vi 0, Vi 1, Vi 4, Vi (k : Int)] [] (SHv st dr rd, ovl a s b) (fun rr hh => rr = none ∧ ∃ b' : C3, hh = (SHv st dr rd, ovl a s b') ∧ FrN b0 b' ∧ BaM W b' ∧ BrM (1, P0) b') := by
  induction hkk : (W.2 - (q + k)) using Nat.strongRecOn generalizing k b with
  | ind kk ih =>
    have h1200 := hB.1.1
    have e2 : b 166 2 = ((W.2 : Nat) : Int) := hB.2.2
    refine Ev.steps (k := 3) (pc' := 205) (L' := [Vr 166, Vi ((q + k : Nat) : Int), Vi 0, Vi 1, Vi 4, Vi (k : Int)]) (S' := [Vi (b 166 2), Vi ((q + k : Nat) : Int)]) (h' := ((SHv st dr rd), (ovl a s b))) (fun _ => rfl) ?_
    rw [e2]
    refine Ev.ite (P := ((W.2 : Nat) : Int) ≤ ((q + k : Nat) : Int)) (k := 1) (a := 323) (b := 208) (L' := [Vr 166, Vi ((q + k : Nat) : Int), Vi 0, Vi 1, Vi 4, Vi (k : Int)]) (S' := []) (h' := ((SHv st dr rd), (ovl a s b))) (fun _ => rfl) (fun b205 => ?_) (fun b205 => ?_)
    · refine Ev.steps (k := 2) (pc' := 325) (L' := [Vr 166, Vi ((q + k : Nat) : Int), Vi 0, Vi 1, Vi 4, Vi (k : Int)]) (S' := [Vi ((q + k : Nat) : Int), Vr 166]) (h' := ((SHv st dr rd), (ovl a s b))) (fun _ => rfl) ?_
      refine Ev.putf (c' := (ovl a s (updC b 166 5 ((q + k : Nat) : Int)))) rfl (by decide) rfl rfl rfl (ovl_wm (by decide)) ?_
      refine Ev.fin (k := 1) (r := none) (h' := ((SHv st dr rd), (ovl a s (updC b 166 5 ((q + k : Nat) : Int))))) (fun _ => rfl) ?_
      exact ⟨rfl, _, rfl, (hF.up (by omega)), hB.fo rfl rfl, (by show (0 : Int) < 1; decide), e8, e9⟩
    · refine Ev.steps (k := 5) (pc' := 232) (L' := [Vr 166, Vi ((q + k : Nat) : Int), Vi 0, Vi 1, Vi 4, Vi (k : Int)]) (S' := [Vi ((q + k : Nat) : Int), Vr 167]) (h' := ((SHv st dr rd), (ovl a s b))) (fun _ => rfl) ?_
      refine Ev.iald (v := (W.1 (q + k))) rfl (by decide) rfl (by omega) (by omega) (hB.2.1 (q + k) (by omega)) ?_
      refine Ev.call (k := 0) (pc1 := 233) (L1 := [Vr 166, Vi ((q + k : Nat) : Int), Vi 0, Vi 1, Vi 4, Vi (k : Int)]) (S1 := [Vi (W.1 (q + k))]) (h1 := ((SHv st dr rd), (ovl a s b))) (m' := 159) (as := [Vi (W.1 (q + k))]) (S' := []) (L0 := [Vi (W.1 (q + k))]) (fun _ => rfl) rfl rfl rfl rfl rfl rfl (m_isDigit (W.1 (q + k))) (fun r h' hq => ?_)
      obtain ⟨rfl, rfl⟩ := hq
      by_cases c233 : 48 ≤ (W.1 (q + k)) ∧ (W.1 (q + k)) ≤ 57
      · rw [if_pos c233]
        show Ev X _ _ 236 [Vr 166, Vi ((q + k : Nat) : Int), Vi 0, Vi 1, Vi 4, Vi (k : Int)] [Vi 1] ((SHv st dr rd), (ovl a s b)) _
        refine Ev.ite (P := (k : Int) ≠ 4) (k := 4) (a := 252) (b := 246) (L' := [Vr 166, Vi ((q + k : Nat) : Int), Vi 0, Vi 1, Vi 4, Vi (k : Int)]) (S' := []) (h' := ((SHv st dr rd), (ovl a s b))) (fun _ => rfl) (fun b243 => ?_) (fun b243 => ?_)
        · refine Ev.ite (P := 4 ≤ (k : Int)) (k := 3) (a := 282) (b := 259) (L' := [Vr 166, Vi ((q + k : Nat) : Int), Vi 0, Vi 1, Vi 4, Vi (k : Int)]) (S' := []) (h' := ((SHv st dr rd), (ovl a s b))) (fun _ => rfl) (fun b256 => ?_) (fun b256 => ?_)
          · refine Ev.ite (P := 4 ≤ (k : Int)) (k := 3) (a := 314) (b := 289) (L' := [Vr 166, Vi ((q + k : Nat) : Int), Vi 0, Vi 1, Vi 4, Vi (k : Int)]) (S' := []) (h' := ((SHv st dr rd), (ovl a s b))) (fun _ => rfl) (fun b286 => ?_) (fun b286 => ?_)
            · refine Ev.steps (k := 1) (pc' := 317) (L' := [Vr 166, Vi ((q + k : Nat) : Int), Vi 0, Vi 1, Vi 4, Vi (w32 ((k : Int) + 1))]) (S' := []) (h' := ((SHv st dr rd), (ovl a s b))) (fun _ => rfl) ?_
              rw [show (w32 ((k : Int) + 1)) = ((k : Int) + 1) from w32_id (by unfold R32; omega)]
              refine Ev.steps (k := 1) (pc' := 320) (L' := [Vr 166, Vi (w32 (((q + k : Nat) : Int) + 1)), Vi 0, Vi 1, Vi 4, Vi ((k : Int) + 1)]) (S' := []) (h' := ((SHv st dr rd), (ovl a s b))) (fun _ => rfl) ?_
              rw [show (w32 (((q + k : Nat) : Int) + 1)) = (((q + k : Nat) : Int) + 1) from w32_id (by unfold R32; omega)]
              refine Ev.steps (k := 1) (pc' := 200) (L' := [Vr 166, Vi (((q + k : Nat) : Int) + 1), Vi 0, Vi 1, Vi 4, Vi ((k : Int) + 1)]) (S' := []) (h' := ((SHv st dr rd), (ovl a s b))) (fun _ => rfl) ?_
              refine ih _ (by omega) (b := b) (k + 1) (by omega) (by first | exact hB | exact hB.fo rfl rfl) (by first | exact e8) (by first | exact e9) (by first | exact hF | exact hF) rfl
            · refine Ev.steps (k := 10) (pc' := 306) (L' := [Vr 166, Vi ((q + k : Nat) : Int), Vi 0, Vi 1, Vi 4, Vi (k : Int)]) (S' := [Vi ((q + k : Nat) : Int), Vr 167, Vi (w32 (10 * (b 166 6))), Vr 166]) (h' := ((SHv st dr rd), (ovl a s b))) (fun _ => rfl) ?_
              refine Ev.iald (v := (W.1 (q + k))) rfl (by decide) rfl (by omega) (by omega) (hB.2.1 (q + k) (by omega)) ?_
              refine Ev.steps (k := 3) (pc' := 311) (L' := [Vr 166, Vi ((q + k : Nat) : Int), Vi 0, Vi 1, Vi 4, Vi (k : Int)]) (S' := [Vi (w32 ((w32 ((w32 (10 * (b 166 6))) + (W.1 (q + k)))) - 48)), Vr 166]) (h' := ((SHv st dr rd), (ovl a s b))) (fun _ => rfl) ?_
              refine Ev.putf (c' := (ovl a s (updC b 166 6 (w32 ((w32 ((w32 (10 * (b 166 6))) + (W.1 (q + k)))) - 48))))) rfl (by decide) rfl rfl rfl (ovl_wm (by decide)) ?_
              refine Ev.steps (k := 1) (pc' := 317) (L' := [Vr 166, Vi ((q + k : Nat) : Int), Vi 0, Vi 1, Vi 4, Vi (w32 ((k : Int) + 1))]) (S' := []) (h' := ((SHv st dr rd), (ovl a s (updC b 166 6 (w32 ((w32 ((w32 (10 * (b 166 6))) + (W.1 (q + k)))) - 48)))))) (fun _ => rfl) ?_
              rw [show (w32 ((k : Int) + 1)) = ((k : Int) + 1) from w32_id (by unfold R32; omega)]
              refine Ev.steps (k := 1) (pc' := 320) (L' := [Vr 166, Vi (w32 (((q + k : Nat) : Int) + 1)), Vi 0, Vi 1, Vi 4, Vi ((k : Int) + 1)]) (S' := []) (h' := ((SHv st dr rd), (ovl a s (updC b 166 6 (w32 ((w32 ((w32 (10 * (b 166 6))) + (W.1 (q + k)))) - 48)))))) (fun _ => rfl) ?_
              rw [show (w32 (((q + k : Nat) : Int) + 1)) = (((q + k : Nat) : Int) + 1) from w32_id (by unfold R32; omega)]
              refine Ev.steps (k := 1) (pc' := 200) (L' := [Vr 166, Vi (((q + k : Nat) : Int) + 1), Vi 0, Vi 1, Vi 4, Vi ((k : Int) + 1)]) (S' := []) (h' := ((SHv st dr rd), (ovl a s (updC b 166 6 (w32 ((w32 ((w32 (10 * (b 166 6))) + (W.1 (q + k)))) - 48)))))) (fun _ => rfl) ?_
              refine ih _ (by omega) (b := (updC b 166 6 (w32 ((w32 ((w32 (10 * (b 166 6))) + (W.1 (q + k)))) - 48)))) (k + 1) (by omega) (by first | exact hB | exact hB.fo rfl rfl) (by first | exact e8) (by first | exact e9) (by first | exact hF | exact (hF.up (by omega))) rfl
          · refine Ev.ite (P := 4 ≤ (k : Int)) (k := 5) (a := 314) (b := 289) (L' := [Vr 166, Vi ((q + k : Nat) : Int), Vi 0, Vi 1, Vi 4, Vi (k : Int)]) (S' := []) (h' := ((SHv st dr rd), (ovl a s b))) (fun _ => rfl) (fun b286 => ?_) (fun b286 => ?_)
            · refine Ev.steps (k := 1) (pc' := 317) (L' := [Vr 166, Vi ((q + k : Nat) : Int), Vi 0, Vi 1, Vi 4, Vi (w32 ((k : Int) + 1))]) (S' := []) (h' := ((SHv st dr rd), (ovl a s b))) (fun _ => rfl) ?_
              rw [show (w32 ((k : Int) + 1)) = ((k : Int) + 1) from w32_id (by unfold R32; omega)]
              refine Ev.steps (k := 1) (pc' := 320) (L' := [Vr 166, Vi (w32 (((q + k : Nat) : Int) + 1)), Vi 0, Vi 1, Vi 4, Vi ((k : Int) + 1)]) (S' := []) (h' := ((SHv st dr rd), (ovl a s b))) (fun _ => rfl) ?_
              rw [show (w32 (((q + k : Nat) : Int) + 1)) = (((q + k : Nat) : Int) + 1) from w32_id (by unfold R32; omega)]
              refine Ev.steps (k := 1) (pc' := 200) (L' := [Vr 166, Vi (((q + k : Nat) : Int) + 1), Vi 0, Vi 1, Vi 4, Vi ((k : Int) + 1)]) (S' := []) (h' := ((SHv st dr rd), (ovl a s b))) (fun _ => rfl) ?_
              refine ih _ (by omega) (b := b) (k + 1) (by omega) (by first | exact hB | exact hB.fo rfl rfl) (by first | exact e8) (by first | exact e9) (by first | exact hF | exact hF) rfl
            · refine Ev.steps (k := 10) (pc' := 306) (L' := [Vr 166, Vi ((q + k : Nat) : Int), Vi 0, Vi 1, Vi 4, Vi (k : Int)]) (S' := [Vi ((q + k : Nat) : Int), Vr 167, Vi (w32 (10 * (b 166 6))), Vr 166]) (h' := ((SHv st dr rd), (ovl a s b))) (fun _ => rfl) ?_
              refine Ev.iald (v := (W.1 (q + k))) rfl (by decide) rfl (by omega) (by omega) (hB.2.1 (q + k) (by omega)) ?_
              refine Ev.steps (k := 3) (pc' := 311) (L' := [Vr 166, Vi ((q + k : Nat) : Int), Vi 0, Vi 1, Vi 4, Vi (k : Int)]) (S' := [Vi (w32 ((w32 ((w32 (10 * (b 166 6))) + (W.1 (q + k)))) - 48)), Vr 166]) (h' := ((SHv st dr rd), (ovl a s b))) (fun _ => rfl) ?_
              refine Ev.putf (c' := (ovl a s (updC b 166 6 (w32 ((w32 ((w32 (10 * (b 166 6))) + (W.1 (q + k)))) - 48))))) rfl (by decide) rfl rfl rfl (ovl_wm (by decide)) ?_
              refine Ev.steps (k := 1) (pc' := 317) (L' := [Vr 166, Vi ((q + k : Nat) : Int), Vi 0, Vi 1, Vi 4, Vi (w32 ((k : Int) + 1))]) (S' := []) (h' := ((SHv st dr rd), (ovl a s (updC b 166 6 (w32 ((w32 ((w32 (10 * (b 166 6))) + (W.1 (q + k)))) - 48)))))) (fun _ => rfl) ?_
              rw [show (w32 ((k : Int) + 1)) = ((k : Int) + 1) from w32_id (by unfold R32; omega)]
              refine Ev.steps (k := 1) (pc' := 320) (L' := [Vr 166, Vi (w32 (((q + k : Nat) : Int) + 1)), Vi 0, Vi 1, Vi 4, Vi ((k : Int) + 1)]) (S' := []) (h' := ((SHv st dr rd), (ovl a s (updC b 166 6 (w32 ((w32 ((w32 (10 * (b 166 6))) + (W.1 (q + k)))) - 48)))))) (fun _ => rfl) ?_
              rw [show (w32 (((q + k : Nat) : Int) + 1)) = (((q + k : Nat) : Int) + 1) from w32_id (by unfold R32; omega)]
              refine Ev.steps (k := 1) (pc' := 200) (L' := [Vr 166, Vi (((q + k : Nat) : Int) + 1), Vi 0, Vi 1, Vi 4, Vi ((k : Int) + 1)]) (S' := []) (h' := ((SHv st dr rd), (ovl a s (updC b 166 6 (w32 ((w32 ((w32 (10 * (b 166 6))) + (W.1 (q + k)))) - 48)))))) (fun _ => rfl) ?_
              refine ih _ (by omega) (b := (updC b 166 6 (w32 ((w32 ((w32 (10 * (b 166 6))) + (W.1 (q + k)))) - 48)))) (k + 1) (by omega) (by first | exact hB | exact hB.fo rfl rfl) (by first | exact e8) (by first | exact e9) (by first | exact hF | exact (hF.up (by omega))) rfl
        · refine Ev.call (k := 3) (pc1 := 249) (L1 := [Vr 166, Vi ((q + k : Nat) : Int), Vi 0, Vi 1, Vi 4, Vi (k : Int)]) (S1 := [Vi ((q + k : Nat) : Int), Vi 1, Vr 166]) (h1 := ((SHv st dr rd), (ovl a s b))) (m' := 160) (as := [Vr 166, Vi 1, Vi ((q + k : Nat) : Int)]) (S' := []) (L0 := [Vr 166, Vi 1, Vi ((q + k : Nat) : Int)]) (fun _ => rfl) rfl rfl rfl rfl rfl rfl (m_blame (b := b) 1 ((q + k : Nat) : Int)) (fun r h' hq => ?_)
          obtain ⟨rfl, hq⟩ := hq
          rw [if_pos (by rw [e8]; decide)] at hq
          obtain rfl := hq
          show Ev X _ _ 252 [Vr 166, Vi ((q + k : Nat) : Int), Vi 0, Vi 1, Vi 4, Vi (k : Int)] [] ((SHv st dr rd), (ovl a s b)) _
          refine Ev.ite (P := 4 ≤ (k : Int)) (k := 3) (a := 282) (b := 259) (L' := [Vr 166, Vi ((q + k : Nat) : Int), Vi 0, Vi 1, Vi 4, Vi (k : Int)]) (S' := []) (h' := ((SHv st dr rd), (ovl a s b))) (fun _ => rfl) (fun b256 => ?_) (fun b256 => ?_)
          · refine Ev.ite (P := 4 ≤ (k : Int)) (k := 3) (a := 314) (b := 289) (L' := [Vr 166, Vi ((q + k : Nat) : Int), Vi 0, Vi 1, Vi 4, Vi (k : Int)]) (S' := []) (h' := ((SHv st dr rd), (ovl a s b))) (fun _ => rfl) (fun b286 => ?_) (fun b286 => ?_)
            · refine Ev.steps (k := 1) (pc' := 317) (L' := [Vr 166, Vi ((q + k : Nat) : Int), Vi 0, Vi 1, Vi 4, Vi (w32 ((k : Int) + 1))]) (S' := []) (h' := ((SHv st dr rd), (ovl a s b))) (fun _ => rfl) ?_
              rw [show (w32 ((k : Int) + 1)) = ((k : Int) + 1) from w32_id (by unfold R32; omega)]
              refine Ev.steps (k := 1) (pc' := 320) (L' := [Vr 166, Vi (w32 (((q + k : Nat) : Int) + 1)), Vi 0, Vi 1, Vi 4, Vi ((k : Int) + 1)]) (S' := []) (h' := ((SHv st dr rd), (ovl a s b))) (fun _ => rfl) ?_
              rw [show (w32 (((q + k : Nat) : Int) + 1)) = (((q + k : Nat) : Int) + 1) from w32_id (by unfold R32; omega)]
              refine Ev.steps (k := 1) (pc' := 200) (L' := [Vr 166, Vi (((q + k : Nat) : Int) + 1), Vi 0, Vi 1, Vi 4, Vi ((k : Int) + 1)]) (S' := []) (h' := ((SHv st dr rd), (ovl a s b))) (fun _ => rfl) ?_
              refine ih _ (by omega) (b := b) (k + 1) (by omega) (by first | exact hB | exact hB.fo rfl rfl) (by first | exact e8) (by first | exact e9) (by first | exact hF | exact hF) rfl
            · refine Ev.steps (k := 10) (pc' := 306) (L' := [Vr 166, Vi ((q + k : Nat) : Int), Vi 0, Vi 1, Vi 4, Vi (k : Int)]) (S' := [Vi ((q + k : Nat) : Int), Vr 167, Vi (w32 (10 * (b 166 6))), Vr 166]) (h' := ((SHv st dr rd), (ovl a s b))) (fun _ => rfl) ?_
              refine Ev.iald (v := (W.1 (q + k))) rfl (by decide) rfl (by omega) (by omega) (hB.2.1 (q + k) (by omega)) ?_
              refine Ev.steps (k := 3) (pc' := 311) (L' := [Vr 166, Vi ((q + k : Nat) : Int), Vi 0, Vi 1, Vi 4, Vi (k : Int)]) (S' := [Vi (w32 ((w32 ((w32 (10 * (b 166 6))) + (W.1 (q + k)))) - 48)), Vr 166]) (h' := ((SHv st dr rd), (ovl a s b))) (fun _ => rfl) ?_
              refine Ev.putf (c' := (ovl a s (updC b 166 6 (w32 ((w32 ((w32 (10 * (b 166 6))) + (W.1 (q + k)))) - 48))))) rfl (by decide) rfl rfl rfl (ovl_wm (by decide)) ?_
              refine Ev.steps (k := 1) (pc' := 317) (L' := [Vr 166, Vi ((q + k : Nat) : Int), Vi 0, Vi 1, Vi 4, Vi (w32 ((k : Int) + 1))]) (S' := []) (h' := ((SHv st dr rd), (ovl a s (updC b 166 6 (w32 ((w32 ((w32 (10 * (b 166 6))) + (W.1 (q + k)))) - 48)))))) (fun _ => rfl) ?_
              rw [show (w32 ((k : Int) + 1)) = ((k : Int) + 1) from w32_id (by unfold R32; omega)]
              refine Ev.steps (k := 1) (pc' := 320) (L' := [Vr 166, Vi (w32 (((q + k : Nat) : Int) + 1)), Vi 0, Vi 1, Vi 4, Vi ((k : Int) + 1)]) (S' := []) (h' := ((SHv st dr rd), (ovl a s (updC b 166 6 (w32 ((w32 ((w32 (10 * (b 166 6))) + (W.1 (q + k)))) - 48)))))) (fun _ => rfl) ?_
              rw [show (w32 (((q + k : Nat) : Int) + 1)) = (((q + k : Nat) : Int) + 1) from w32_id (by unfold R32; omega)]
              refine Ev.steps (k := 1) (pc' := 200) (L' := [Vr 166, Vi (((q + k : Nat) : Int) + 1), Vi 0, Vi 1, Vi 4, Vi ((k : Int) + 1)]) (S' := []) (h' := ((SHv st dr rd), (ovl a s (updC b 166 6 (w32 ((w32 ((w32 (10 * (b 166 6))) + (W.1 (q + k)))) - 48)))))) (fun _ => rfl) ?_
              refine ih _ (by omega) (b := (updC b 166 6 (w32 ((w32 ((w32 (10 * (b 166 6))) + (W.1 (q + k)))) - 48)))) (k + 1) (by omega) (by first | exact hB | exact hB.fo rfl rfl) (by first | exact e8) (by first | exact e9) (by first | exact hF | exact (hF.up (by omega))) rfl
          · refine Ev.ite (P := 4 ≤ (k : Int)) (k := 5) (a := 314) (b := 289) (L' := [Vr 166, Vi ((q + k : Nat) : Int), Vi 0, Vi 1, Vi 4, Vi (k : Int)]) (S' := []) (h' := ((SHv st dr rd), (ovl a s b))) (fun _ => rfl) (fun b286 => ?_) (fun b286 => ?_)
            · refine Ev.steps (k := 1) (pc' := 317) (L' := [Vr 166, Vi ((q + k : Nat) : Int), Vi 0, Vi 1, Vi 4, Vi (w32 ((k : Int) + 1))]) (S' := []) (h' := ((SHv st dr rd), (ovl a s b))) (fun _ => rfl) ?_
              rw [show (w32 ((k : Int) + 1)) = ((k : Int) + 1) from w32_id (by unfold R32; omega)]
              refine Ev.steps (k := 1) (pc' := 320) (L' := [Vr 166, Vi (w32 (((q + k : Nat) : Int) + 1)), Vi 0, Vi 1, Vi 4, Vi ((k : Int) + 1)]) (S' := []) (h' := ((SHv st dr rd), (ovl a s b))) (fun _ => rfl) ?_
              rw [show (w32 (((q + k : Nat) : Int) + 1)) = (((q + k : Nat) : Int) + 1) from w32_id (by unfold R32; omega)]
              refine Ev.steps (k := 1) (pc' := 200) (L' := [Vr 166, Vi (((q + k : Nat) : Int) + 1), Vi 0, Vi 1, Vi 4, Vi ((k : Int) + 1)]) (S' := []) (h' := ((SHv st dr rd), (ovl a s b))) (fun _ => rfl) ?_
              refine ih _ (by omega) (b := b) (k + 1) (by omega) (by first | exact hB | exact hB.fo rfl rfl) (by first | exact e8) (by first | exact e9) (by first | exact hF | exact hF) rfl
            · refine Ev.steps (k := 10) (pc' := 306) (L' := [Vr 166, Vi ((q + k : Nat) : Int), Vi 0, Vi 1, Vi 4, Vi (k : Int)]) (S' := [Vi ((q + k : Nat) : Int), Vr 167, Vi (w32 (10 * (b 166 6))), Vr 166]) (h' := ((SHv st dr rd), (ovl a s b))) (fun _ => rfl) ?_
              refine Ev.iald (v := (W.1 (q + k))) rfl (by decide) rfl (by omega) (by omega) (hB.2.1 (q + k) (by omega)) ?_
              refine Ev.steps (k := 3) (pc' := 311) (L' := [Vr 166, Vi ((q + k : Nat) : Int), Vi 0, Vi 1, Vi 4, Vi (k : Int)]) (S' := [Vi (w32 ((w32 ((w32 (10 * (b 166 6))) + (W.1 (q + k)))) - 48)), Vr 166]) (h' := ((SHv st dr rd), (ovl a s b))) (fun _ => rfl) ?_
              refine Ev.putf (c' := (ovl a s (updC b 166 6 (w32 ((w32 ((w32 (10 * (b 166 6))) + (W.1 (q + k)))) - 48))))) rfl (by decide) rfl rfl rfl (ovl_wm (by decide)) ?_
              refine Ev.steps (k := 1) (pc' := 317) (L' := [Vr 166, Vi ((q + k : Nat) : Int), Vi 0, Vi 1, Vi 4, Vi (w32 ((k : Int) + 1))]) (S' := []) (h' := ((SHv st dr rd), (ovl a s (updC b 166 6 (w32 ((w32 ((w32 (10 * (b 166 6))) + (W.1 (q + k)))) - 48)))))) (fun _ => rfl) ?_
              rw [show (w32 ((k : Int) + 1)) = ((k : Int) + 1) from w32_id (by unfold R32; omega)]
              refine Ev.steps (k := 1) (pc' := 320) (L' := [Vr 166, Vi (w32 (((q + k : Nat) : Int) + 1)), Vi 0, Vi 1, Vi 4, Vi ((k : Int) + 1)]) (S' := []) (h' := ((SHv st dr rd), (ovl a s (updC b 166 6 (w32 ((w32 ((w32 (10 * (b 166 6))) + (W.1 (q + k)))) - 48)))))) (fun _ => rfl) ?_
              rw [show (w32 (((q + k : Nat) : Int) + 1)) = (((q + k : Nat) : Int) + 1) from w32_id (by unfold R32; omega)]
              refine Ev.steps (k := 1) (pc' := 200) (L' := [Vr 166, Vi (((q + k : Nat) : Int) + 1), Vi 0, Vi 1, Vi 4, Vi ((k : Int) + 1)]) (S' := []) (h' := ((SHv st dr rd), (ovl a s (updC b 166 6 (w32 ((w32 ((w32 (10 * (b 166 6))) + (W.1 (q + k)))) - 48)))))) (fun _ => rfl) ?_
              refine ih _ (by omega) (b := (updC b 166 6 (w32 ((w32 ((w32 (10 * (b 166 6))) + (W.1 (q + k)))) - 48)))) (k + 1) (by omega) (by first | exact hB | exact hB.fo rfl rfl) (by first | exact e8) (by first | exact e9) (by first | exact hF | exact (hF.up (by omega))) rfl
      · rw [if_neg c233]
        show Ev X _ _ 236 [Vr 166, Vi ((q + k : Nat) : Int), Vi 0, Vi 1, Vi 4, Vi (k : Int)] [Vi 0] ((SHv st dr rd), (ovl a s b)) _
        refine Ev.steps (k := 3) (pc' := 325) (L' := [Vr 166, Vi ((q + k : Nat) : Int), Vi 0, Vi 1, Vi 4, Vi (k : Int)]) (S' := [Vi ((q + k : Nat) : Int), Vr 166]) (h' := ((SHv st dr rd), (ovl a s b))) (fun _ => rfl) ?_
        refine Ev.putf (c' := (ovl a s (updC b 166 5 ((q + k : Nat) : Int)))) rfl (by decide) rfl rfl rfl (ovl_wm (by decide)) ?_
        refine Ev.fin (k := 1) (r := none) (h' := ((SHv st dr rd), (ovl a s (updC b 166 5 ((q + k : Nat) : Int))))) (fun _ => rfl) ?_
        exact ⟨rfl, _, rfl, (hF.up (by omega)), hB.fo rfl rfl, (by show (0 : Int) < 1; decide), e8, e9⟩
theorem m_nxN_dig {X : List Int} {d : Nat} {st dr rd : Int} {a s b : C3} {W : TXT} {b0 : C3} {p q : Nat} (hp : p ≤ W.2) (hq : skpT W p = q) (hn : q < W.2) (h0 : clsT (W.1 q) = 2) (hb : ¬ (0 < q ∧ clsT (W.1 (q - 1)) ≠ 0)) (k : Nat) (hk : k ≤ 4) (hqk : q + k ≤ W.2) (hcl : ∀ i, i < k → clsT (W.1 (q + i)) = 2) (hB : BaM W b) (e8 : b 166 8 = 0) (e9 : b 166 9 = -1) (e3 : b 166 3 = 2) (e4 : b 166 4 = (q : Int)) (ev : b 166 6 = ((vlT W 10 48 q k : Nat) : Int)) (hF : FrN b0 b) : Ev X (d + 1) 157 200 [Vr 166, Vi ((q + k : Nat) : Int), Vi 0, Vi 1, Vi 4, Vi (k : Int)] [] (SHv st dr rd, ovl a s b) (fun rr hh => rr = none ∧ ∃ b' : C3, hh = (SHv st dr rd, ovl a s b') ∧ NxM W p b0 b') := by
  induction hkk : (4 - k) using Nat.strongRecOn generalizing k b with
  | ind kk ih =>
    have h1200 := hB.1.1
    have e2 : b 166 2 = ((W.2 : Nat) : Int) := hB.2.2
    obtain ⟨v, hv⟩ : ∃ v, v = vlT W 10 48 q k := ⟨_, rfl⟩
    have evv : b 166 6 = (v : Int) := by rw [hv]; exact ev
    have hvl : v < 10 ^ k := by
      rw [hv]
      exact vl_10 k hcl
    have hv5 : k < 4 → v < 1000 := fun hk => by
      have : 10 ^ k ≤ 10 ^ 3 := Nat.pow_le_pow_right (by omega) (by omega)
      omega
    clear hvl
    refine Ev.steps (k := 3) (pc' := 205) (L' := [Vr 166, Vi ((q + k : Nat) : Int), Vi 0, Vi 1, Vi 4, Vi (k : Int)]) (S' := [Vi (b 166 2), Vi ((q + k : Nat) : Int)]) (h' := ((SHv st dr rd), (ovl a s b))) (fun _ => rfl) ?_
    rw [e2]
    refine Ev.ite (P := ((W.2 : Nat) : Int) ≤ ((q + k : Nat) : Int)) (k := 1) (a := 323) (b := 208) (L' := [Vr 166, Vi ((q + k : Nat) : Int), Vi 0, Vi 1, Vi 4, Vi (k : Int)]) (S' := []) (h' := ((SHv st dr rd), (ovl a s b))) (fun _ => rfl) (fun b205 => ?_) (fun b205 => ?_)
    · refine Ev.steps (k := 2) (pc' := 325) (L' := [Vr 166, Vi ((q + k : Nat) : Int), Vi 0, Vi 1, Vi 4, Vi (k : Int)]) (S' := [Vi ((q + k : Nat) : Int), Vr 166]) (h' := ((SHv st dr rd), (ovl a s b))) (fun _ => rfl) ?_
      refine Ev.putf (c' := (ovl a s (updC b 166 5 ((q + k : Nat) : Int)))) rfl (by decide) rfl rfl rfl (ovl_wm (by decide)) ?_
      refine Ev.fin (k := 1) (r := none) (h' := ((SHv st dr rd), (ovl a s (updC b 166 5 ((q + k : Nat) : Int))))) (fun _ => rfl) ?_
      have hr : runT W q = k := run_uq (fun i hi => (hcl i hi).trans h0.symm) (fun h => by
        rw [h0]
        intro g
        have g2 := cls_2.mp g
        omega) hqk
      have ht := tok_num hq hn h0 hb hr hk
      refine ⟨rfl, _, rfl, (hF.up (by omega)), Or.inl (TkM.mk ht (hB.fo rfl rfl) e8 e9 rfl e4 (by decide) hp (fun h => absurd h (by decide)) (fun h => absurd h (by decide)) (fun _ h => absurd h (by decide)) (fun _ => ⟨e3, ev⟩))⟩
    · refine Ev.steps (k := 5) (pc' := 232) (L' := [Vr 166, Vi ((q + k : Nat) : Int), Vi 0, Vi 1, Vi 4, Vi (k : Int)]) (S' := [Vi ((q + k : Nat) : Int), Vr 167]) (h' := ((SHv st dr rd), (ovl a s b))) (fun _ => rfl) ?_
      refine Ev.iald (v := (W.1 (q + k))) rfl (by decide) rfl (by omega) (by omega) (hB.2.1 (q + k) (by omega)) ?_
      refine Ev.call (k := 0) (pc1 := 233) (L1 := [Vr 166, Vi ((q + k : Nat) : Int), Vi 0, Vi 1, Vi 4, Vi (k : Int)]) (S1 := [Vi (W.1 (q + k))]) (h1 := ((SHv st dr rd), (ovl a s b))) (m' := 159) (as := [Vi (W.1 (q + k))]) (S' := []) (L0 := [Vi (W.1 (q + k))]) (fun _ => rfl) rfl rfl rfl rfl rfl rfl (m_isDigit (W.1 (q + k))) (fun r h' hq => ?_)
      obtain ⟨rfl, rfl⟩ := hq
      by_cases c233 : 48 ≤ (W.1 (q + k)) ∧ (W.1 (q + k)) ≤ 57
      · rw [if_pos c233]
        show Ev X _ _ 236 [Vr 166, Vi ((q + k : Nat) : Int), Vi 0, Vi 1, Vi 4, Vi (k : Int)] [Vi 1] ((SHv st dr rd), (ovl a s b)) _
        refine Ev.steps (k := 1) (pc' := 239) (L' := [Vr 166, Vi ((q + k : Nat) : Int), Vi 0, Vi 1, Vi 4, Vi (k : Int)]) (S' := []) (h' := ((SHv st dr rd), (ovl a s b))) (fun _ => rfl) ?_
        have hc1 : clsT (W.1 (q + k)) = 2 := cls_2.mpr (by assumption)
        obtain ⟨c, hc⟩ : ∃ c : Nat, (c : Int) = W.1 (q + k) := ⟨(W.1 (q + k)).toNat, by have := hB.1.2 (q + k) (by omega); omega⟩
        have hcb : c < 256 := by have := hB.1.2 (q + k) (by omega); omega
        have hcr : 48 ≤ c ∧ c ≤ 57 := by have := cls_2.mp hc1; omega
        have hcv : b 167 (q + k) = (c : Int) := by rw [hB.2.1 (q + k) (by omega), hc]
        refine Ev.ite (P := (k : Int) ≠ 4) (k := 3) (a := 252) (b := 246) (L' := [Vr 166, Vi ((q + k : Nat) : Int), Vi 0, Vi 1, Vi 4, Vi (k : Int)]) (S' := []) (h' := ((SHv st dr rd), (ovl a s b))) (fun _ => rfl) (fun b243 => ?_) (fun b243 => ?_)
        · refine Ev.ite (P := 4 ≤ (k : Int)) (k := 3) (a := 282) (b := 259) (L' := [Vr 166, Vi ((q + k : Nat) : Int), Vi 0, Vi 1, Vi 4, Vi (k : Int)]) (S' := []) (h' := ((SHv st dr rd), (ovl a s b))) (fun _ => rfl) (fun b256 => ?_) (fun b256 => ?_)
          · refine Ev.ite (P := 4 ≤ (k : Int)) (k := 3) (a := 314) (b := 289) (L' := [Vr 166, Vi ((q + k : Nat) : Int), Vi 0, Vi 1, Vi 4, Vi (k : Int)]) (S' := []) (h' := ((SHv st dr rd), (ovl a s b))) (fun _ => rfl) (fun b286 => ?_) (fun b286 => ?_)
            · refine Ev.steps (k := 1) (pc' := 317) (L' := [Vr 166, Vi ((q + k : Nat) : Int), Vi 0, Vi 1, Vi 4, Vi (w32 ((k : Int) + 1))]) (S' := []) (h' := ((SHv st dr rd), (ovl a s b))) (fun _ => rfl) ?_
              rw [show (w32 ((k : Int) + 1)) = ((k : Int) + 1) from w32_id (by unfold R32; omega)]
              refine Ev.steps (k := 1) (pc' := 320) (L' := [Vr 166, Vi (w32 (((q + k : Nat) : Int) + 1)), Vi 0, Vi 1, Vi 4, Vi ((k : Int) + 1)]) (S' := []) (h' := ((SHv st dr rd), (ovl a s b))) (fun _ => rfl) ?_
              rw [show (w32 (((q + k : Nat) : Int) + 1)) = (((q + k : Nat) : Int) + 1) from w32_id (by unfold R32; omega)]
              refine Ev.steps (k := 1) (pc' := 200) (L' := [Vr 166, Vi (((q + k : Nat) : Int) + 1), Vi 0, Vi 1, Vi 4, Vi ((k : Int) + 1)]) (S' := []) (h' := ((SHv st dr rd), (ovl a s b))) (fun _ => rfl) ?_
              exfalso
              omega
            · refine Ev.steps (k := 6) (pc' := 300) (L' := [Vr 166, Vi ((q + k : Nat) : Int), Vi 0, Vi 1, Vi 4, Vi (k : Int)]) (S' := [Vi (b 166 6), Vi 10, Vr 166]) (h' := ((SHv st dr rd), (ovl a s b))) (fun _ => rfl) ?_
              rw [evv]
              refine Ev.steps (k := 1) (pc' := 301) (L' := [Vr 166, Vi ((q + k : Nat) : Int), Vi 0, Vi 1, Vi 4, Vi (k : Int)]) (S' := [Vi (w32 (10 * (v : Int))), Vr 166]) (h' := ((SHv st dr rd), (ovl a s b))) (fun _ => rfl) ?_
              rw [show (w32 (10 * (v : Int))) = (10 * (v : Int)) from w32_id (by unfold R32; omega)]
              refine Ev.steps (k := 3) (pc' := 306) (L' := [Vr 166, Vi ((q + k : Nat) : Int), Vi 0, Vi 1, Vi 4, Vi (k : Int)]) (S' := [Vi ((q + k : Nat) : Int), Vr 167, Vi (10 * (v : Int)), Vr 166]) (h' := ((SHv st dr rd), (ovl a s b))) (fun _ => rfl) ?_
              refine Ev.iald (v := (W.1 (q + k))) rfl (by decide) rfl (by omega) (by omega) (hB.2.1 (q + k) (by omega)) ?_
              refine Ev.steps (k := 1) (pc' := 308) (L' := [Vr 166, Vi ((q + k : Nat) : Int), Vi 0, Vi 1, Vi 4, Vi (k : Int)]) (S' := [Vi (w32 ((10 * (v : Int)) + (W.1 (q + k)))), Vr 166]) (h' := ((SHv st dr rd), (ovl a s b))) (fun _ => rfl) ?_
              rw [show (w32 ((10 * (v : Int)) + (W.1 (q + k)))) = ((10 * (v : Int)) + (W.1 (q + k))) from w32_id (by unfold R32; omega)]
              refine Ev.steps (k := 2) (pc' := 311) (L' := [Vr 166, Vi ((q + k : Nat) : Int), Vi 0, Vi 1, Vi 4, Vi (k : Int)]) (S' := [Vi (w32 (((10 * (v : Int)) + (W.1 (q + k))) - 48)), Vr 166]) (h' := ((SHv st dr rd), (ovl a s b))) (fun _ => rfl) ?_
              rw [show (w32 (((10 * (v : Int)) + (W.1 (q + k))) - 48)) = (((10 * (v : Int)) + (W.1 (q + k))) - 48) from w32_id (by unfold R32; omega)]
              refine Ev.putf (c' := (ovl a s (updC b 166 6 (((10 * (v : Int)) + (W.1 (q + k))) - 48)))) rfl (by decide) rfl rfl rfl (ovl_wm (by decide)) ?_
              refine Ev.steps (k := 1) (pc' := 317) (L' := [Vr 166, Vi ((q + k : Nat) : Int), Vi 0, Vi 1, Vi 4, Vi (w32 ((k : Int) + 1))]) (S' := []) (h' := ((SHv st dr rd), (ovl a s (updC b 166 6 (((10 * (v : Int)) + (W.1 (q + k))) - 48))))) (fun _ => rfl) ?_
              rw [show (w32 ((k : Int) + 1)) = ((k : Int) + 1) from w32_id (by unfold R32; omega)]
              refine Ev.steps (k := 1) (pc' := 320) (L' := [Vr 166, Vi (w32 (((q + k : Nat) : Int) + 1)), Vi 0, Vi 1, Vi 4, Vi ((k : Int) + 1)]) (S' := []) (h' := ((SHv st dr rd), (ovl a s (updC b 166 6 (((10 * (v : Int)) + (W.1 (q + k))) - 48))))) (fun _ => rfl) ?_
              rw [show (w32 (((q + k : Nat) : Int) + 1)) = (((q + k : Nat) : Int) + 1) from w32_id (by unfold R32; omega)]
              refine Ev.steps (k := 1) (pc' := 200) (L' := [Vr 166, Vi (((q + k : Nat) : Int) + 1), Vi 0, Vi 1, Vi 4, Vi ((k : Int) + 1)]) (S' := []) (h' := ((SHv st dr rd), (ovl a s (updC b 166 6 (((10 * (v : Int)) + (W.1 (q + k))) - 48))))) (fun _ => rfl) ?_
              refine ih _ (by omega) (b := (updC b 166 6 (((10 * (v : Int)) + (W.1 (q + k))) - 48))) (k + 1) (by omega) (by omega) (fun i hi => ?_) (hB.fo rfl rfl) e8 e9 e3 e4 ?_ (hF.up (by omega)) rfl
              · by_cases h : i = k
                · rw [h]; exact hc1
                · exact hcl i (by omega)
              · rw [vl_s, ← hv, ← hc, Int.toNat_natCast]
                show 10 * (v : Int) + (c : Int) - 48 = _
                omega
          · refine Ev.ite (P := 4 ≤ (k : Int)) (k := 5) (a := 314) (b := 289) (L' := [Vr 166, Vi ((q + k : Nat) : Int), Vi 0, Vi 1, Vi 4, Vi (k : Int)]) (S' := []) (h' := ((SHv st dr rd), (ovl a s b))) (fun _ => rfl) (fun b286 => ?_) (fun b286 => ?_)
            · refine Ev.steps (k := 1) (pc' := 317) (L' := [Vr 166, Vi ((q + k : Nat) : Int), Vi 0, Vi 1, Vi 4, Vi (w32 ((k : Int) + 1))]) (S' := []) (h' := ((SHv st dr rd), (ovl a s b))) (fun _ => rfl) ?_
              rw [show (w32 ((k : Int) + 1)) = ((k : Int) + 1) from w32_id (by unfold R32; omega)]
              refine Ev.steps (k := 1) (pc' := 320) (L' := [Vr 166, Vi (w32 (((q + k : Nat) : Int) + 1)), Vi 0, Vi 1, Vi 4, Vi ((k : Int) + 1)]) (S' := []) (h' := ((SHv st dr rd), (ovl a s b))) (fun _ => rfl) ?_
              rw [show (w32 (((q + k : Nat) : Int) + 1)) = (((q + k : Nat) : Int) + 1) from w32_id (by unfold R32; omega)]
              refine Ev.steps (k := 1) (pc' := 200) (L' := [Vr 166, Vi (((q + k : Nat) : Int) + 1), Vi 0, Vi 1, Vi 4, Vi ((k : Int) + 1)]) (S' := []) (h' := ((SHv st dr rd), (ovl a s b))) (fun _ => rfl) ?_
              exfalso
              omega
            · refine Ev.steps (k := 6) (pc' := 300) (L' := [Vr 166, Vi ((q + k : Nat) : Int), Vi 0, Vi 1, Vi 4, Vi (k : Int)]) (S' := [Vi (b 166 6), Vi 10, Vr 166]) (h' := ((SHv st dr rd), (ovl a s b))) (fun _ => rfl) ?_
              rw [evv]
              refine Ev.steps (k := 1) (pc' := 301) (L' := [Vr 166, Vi ((q + k : Nat) : Int), Vi 0, Vi 1, Vi 4, Vi (k : Int)]) (S' := [Vi (w32 (10 * (v : Int))), Vr 166]) (h' := ((SHv st dr rd), (ovl a s b))) (fun _ => rfl) ?_
              rw [show (w32 (10 * (v : Int))) = (10 * (v : Int)) from w32_id (by unfold R32; omega)]
              refine Ev.steps (k := 3) (pc' := 306) (L' := [Vr 166, Vi ((q + k : Nat) : Int), Vi 0, Vi 1, Vi 4, Vi (k : Int)]) (S' := [Vi ((q + k : Nat) : Int), Vr 167, Vi (10 * (v : Int)), Vr 166]) (h' := ((SHv st dr rd), (ovl a s b))) (fun _ => rfl) ?_
              refine Ev.iald (v := (W.1 (q + k))) rfl (by decide) rfl (by omega) (by omega) (hB.2.1 (q + k) (by omega)) ?_
              refine Ev.steps (k := 1) (pc' := 308) (L' := [Vr 166, Vi ((q + k : Nat) : Int), Vi 0, Vi 1, Vi 4, Vi (k : Int)]) (S' := [Vi (w32 ((10 * (v : Int)) + (W.1 (q + k)))), Vr 166]) (h' := ((SHv st dr rd), (ovl a s b))) (fun _ => rfl) ?_
              rw [show (w32 ((10 * (v : Int)) + (W.1 (q + k)))) = ((10 * (v : Int)) + (W.1 (q + k))) from w32_id (by unfold R32; omega)]
              refine Ev.steps (k := 2) (pc' := 311) (L' := [Vr 166, Vi ((q + k : Nat) : Int), Vi 0, Vi 1, Vi 4, Vi (k : Int)]) (S' := [Vi (w32 (((10 * (v : Int)) + (W.1 (q + k))) - 48)), Vr 166]) (h' := ((SHv st dr rd), (ovl a s b))) (fun _ => rfl) ?_
              rw [show (w32 (((10 * (v : Int)) + (W.1 (q + k))) - 48)) = (((10 * (v : Int)) + (W.1 (q + k))) - 48) from w32_id (by unfold R32; omega)]
              refine Ev.putf (c' := (ovl a s (updC b 166 6 (((10 * (v : Int)) + (W.1 (q + k))) - 48)))) rfl (by decide) rfl rfl rfl (ovl_wm (by decide)) ?_
              refine Ev.steps (k := 1) (pc' := 317) (L' := [Vr 166, Vi ((q + k : Nat) : Int), Vi 0, Vi 1, Vi 4, Vi (w32 ((k : Int) + 1))]) (S' := []) (h' := ((SHv st dr rd), (ovl a s (updC b 166 6 (((10 * (v : Int)) + (W.1 (q + k))) - 48))))) (fun _ => rfl) ?_
              rw [show (w32 ((k : Int) + 1)) = ((k : Int) + 1) from w32_id (by unfold R32; omega)]
              refine Ev.steps (k := 1) (pc' := 320) (L' := [Vr 166, Vi (w32 (((q + k : Nat) : Int) + 1)), Vi 0, Vi 1, Vi 4, Vi ((k : Int) + 1)]) (S' := []) (h' := ((SHv st dr rd), (ovl a s (updC b 166 6 (((10 * (v : Int)) + (W.1 (q + k))) - 48))))) (fun _ => rfl) ?_
              rw [show (w32 (((q + k : Nat) : Int) + 1)) = (((q + k : Nat) : Int) + 1) from w32_id (by unfold R32; omega)]
              refine Ev.steps (k := 1) (pc' := 200) (L' := [Vr 166, Vi (((q + k : Nat) : Int) + 1), Vi 0, Vi 1, Vi 4, Vi ((k : Int) + 1)]) (S' := []) (h' := ((SHv st dr rd), (ovl a s (updC b 166 6 (((10 * (v : Int)) + (W.1 (q + k))) - 48))))) (fun _ => rfl) ?_
              refine ih _ (by omega) (b := (updC b 166 6 (((10 * (v : Int)) + (W.1 (q + k))) - 48))) (k + 1) (by omega) (by omega) (fun i hi => ?_) (hB.fo rfl rfl) e8 e9 e3 e4 ?_ (hF.up (by omega)) rfl
              · by_cases h : i = k
                · rw [h]; exact hc1
                · exact hcl i (by omega)
              · rw [vl_s, ← hv, ← hc, Int.toNat_natCast]
                show 10 * (v : Int) + (c : Int) - 48 = _
                omega
        · refine Ev.call (k := 3) (pc1 := 249) (L1 := [Vr 166, Vi ((q + k : Nat) : Int), Vi 0, Vi 1, Vi 4, Vi (k : Int)]) (S1 := [Vi ((q + k : Nat) : Int), Vi 1, Vr 166]) (h1 := ((SHv st dr rd), (ovl a s b))) (m' := 160) (as := [Vr 166, Vi 1, Vi ((q + k : Nat) : Int)]) (S' := []) (L0 := [Vr 166, Vi 1, Vi ((q + k : Nat) : Int)]) (fun _ => rfl) rfl rfl rfl rfl rfl rfl (m_blame (b := b) 1 ((q + k : Nat) : Int)) (fun r h' hq => ?_)
          obtain ⟨rfl, hq⟩ := hq
          rw [if_neg (by rw [e8]; decide)] at hq
          obtain rfl := hq
          show Ev X _ _ 252 [Vr 166, Vi ((q + k : Nat) : Int), Vi 0, Vi 1, Vi 4, Vi (k : Int)] [] ((SHv st dr rd), (ovl a s (updC (updC b 166 8 1) 166 9 ((q + k : Nat) : Int)))) _
          refine Ev.ite (P := 4 ≤ (k : Int)) (k := 3) (a := 282) (b := 259) (L' := [Vr 166, Vi ((q + k : Nat) : Int), Vi 0, Vi 1, Vi 4, Vi (k : Int)]) (S' := []) (h' := ((SHv st dr rd), (ovl a s (updC (updC b 166 8 1) 166 9 ((q + k : Nat) : Int))))) (fun _ => rfl) (fun b256 => ?_) (fun b256 => ?_)
          · refine Ev.ite (P := 4 ≤ (k : Int)) (k := 3) (a := 314) (b := 289) (L' := [Vr 166, Vi ((q + k : Nat) : Int), Vi 0, Vi 1, Vi 4, Vi (k : Int)]) (S' := []) (h' := ((SHv st dr rd), (ovl a s (updC (updC b 166 8 1) 166 9 ((q + k : Nat) : Int))))) (fun _ => rfl) (fun b286 => ?_) (fun b286 => ?_)
            · refine Ev.steps (k := 1) (pc' := 317) (L' := [Vr 166, Vi ((q + k : Nat) : Int), Vi 0, Vi 1, Vi 4, Vi (w32 ((k : Int) + 1))]) (S' := []) (h' := ((SHv st dr rd), (ovl a s (updC (updC b 166 8 1) 166 9 ((q + k : Nat) : Int))))) (fun _ => rfl) ?_
              rw [show (w32 ((k : Int) + 1)) = ((k : Int) + 1) from w32_id (by unfold R32; omega)]
              refine Ev.steps (k := 1) (pc' := 320) (L' := [Vr 166, Vi (w32 (((q + k : Nat) : Int) + 1)), Vi 0, Vi 1, Vi 4, Vi ((k : Int) + 1)]) (S' := []) (h' := ((SHv st dr rd), (ovl a s (updC (updC b 166 8 1) 166 9 ((q + k : Nat) : Int))))) (fun _ => rfl) ?_
              rw [show (w32 (((q + k : Nat) : Int) + 1)) = (((q + k : Nat) : Int) + 1) from w32_id (by unfold R32; omega)]
              refine Ev.steps (k := 1) (pc' := 200) (L' := [Vr 166, Vi (((q + k : Nat) : Int) + 1), Vi 0, Vi 1, Vi 4, Vi ((k : Int) + 1)]) (S' := []) (h' := ((SHv st dr rd), (ovl a s (updC (updC b 166 8 1) 166 9 ((q + k : Nat) : Int))))) (fun _ => rfl) ?_
              have hke : k = 4 := by omega
              have ht := tok_nlg hq hn h0 hb (run_gt (r := 4) (by omega) (fun i hi => by
                by_cases h : i = k
                · rw [h, h0]; exact hc1
                · rw [h0]; exact hcl i (by omega)))
              obtain ⟨t1, t2, t3, t4⟩ := tk_of ht
              refine (m_nxF_dig (b := (updC (updC b 166 8 1) 166 9 ((q + k : Nat) : Int))) (b0 := b0) (q := q) _ (k + 1) (by omega) (hB.fo rfl rfl) rfl rfl ((hF.up (by omega)).up (by omega))).mono ?_
              rintro r h' ⟨g1, b', g2, g3, g4, g5⟩
              refine ⟨g1, b', g2, g3, Or.inr ⟨t1, g4, ?_⟩⟩
              rw [t2, ← hke]
              exact g5
            · refine Ev.steps (k := 7) (pc' := 301) (L' := [Vr 166, Vi ((q + k : Nat) : Int), Vi 0, Vi 1, Vi 4, Vi (k : Int)]) (S' := [Vi (w32 (10 * ((updC (updC b 166 8 1) 166 9 ((q + k : Nat) : Int)) 166 6))), Vr 166]) (h' := ((SHv st dr rd), (ovl a s (updC (updC b 166 8 1) 166 9 ((q + k : Nat) : Int))))) (fun _ => rfl) ?_
              rw [show (w32 (10 * ((updC (updC b 166 8 1) 166 9 ((q + k : Nat) : Int)) 166 6))) = (10 * ((updC (updC b 166 8 1) 166 9 ((q + k : Nat) : Int)) 166 6)) from w32_id (by unfold R32; omega)]
              refine Ev.steps (k := 3) (pc' := 306) (L' := [Vr 166, Vi ((q + k : Nat) : Int), Vi 0, Vi 1, Vi 4, Vi (k : Int)]) (S' := [Vi ((q + k : Nat) : Int), Vr 167, Vi (10 * ((updC (updC b 166 8 1) 166 9 ((q + k : Nat) : Int)) 166 6)), Vr 166]) (h' := ((SHv st dr rd), (ovl a s (updC (updC b 166 8 1) 166 9 ((q + k : Nat) : Int))))) (fun _ => rfl) ?_
              refine Ev.iald (v := ((updC (updC b 166 8 1) 166 9 ((q + k : Nat) : Int)) 167 ((q + k)))) rfl (by decide) rfl (by omega) (by omega) (rfl) ?_
              refine Ev.steps (k := 1) (pc' := 308) (L' := [Vr 166, Vi ((q + k : Nat) : Int), Vi 0, Vi 1, Vi 4, Vi (k : Int)]) (S' := [Vi (w32 ((10 * ((updC (updC b 166 8 1) 166 9 ((q + k : Nat) : Int)) 166 6)) + ((updC (updC b 166 8 1) 166 9 ((q + k : Nat) : Int)) 167 ((q + k))))), Vr 166]) (h' := ((SHv st dr rd), (ovl a s (updC (updC b 166 8 1) 166 9 ((q + k : Nat) : Int))))) (fun _ => rfl) ?_
              rw [show (w32 ((10 * ((updC (updC b 166 8 1) 166 9 ((q + k : Nat) : Int)) 166 6)) + ((updC (updC b 166 8 1) 166 9 ((q + k : Nat) : Int)) 167 ((q + k))))) = ((10 * ((updC (updC b 166 8 1) 166 9 ((q + k : Nat) : Int)) 166 6)) + ((updC (updC b 166 8 1) 166 9 ((q + k : Nat) : Int)) 167 ((q + k)))) from w32_id (by unfold R32; omega)]
              refine Ev.steps (k := 2) (pc' := 311) (L' := [Vr 166, Vi ((q + k : Nat) : Int), Vi 0, Vi 1, Vi 4, Vi (k : Int)]) (S' := [Vi (w32 (((10 * ((updC (updC b 166 8 1) 166 9 ((q + k : Nat) : Int)) 166 6)) + ((updC (updC b 166 8 1) 166 9 ((q + k : Nat) : Int)) 167 ((q + k)))) - 48)), Vr 166]) (h' := ((SHv st dr rd), (ovl a s (updC (updC b 166 8 1) 166 9 ((q + k : Nat) : Int))))) (fun _ => rfl) ?_
              rw [show (w32 (((10 * ((updC (updC b 166 8 1) 166 9 ((q + k : Nat) : Int)) 166 6)) + ((updC (updC b 166 8 1) 166 9 ((q + k : Nat) : Int)) 167 ((q + k)))) - 48)) = (((10 * ((updC (updC b 166 8 1) 166 9 ((q + k : Nat) : Int)) 166 6)) + ((updC (updC b 166 8 1) 166 9 ((q + k : Nat) : Int)) 167 ((q + k)))) - 48) from w32_id (by unfold R32; omega)]
              refine Ev.putf (c' := (ovl a s (updC (updC (updC b 166 8 1) 166 9 ((q + k : Nat) : Int)) 166 6 (((10 * ((updC (updC b 166 8 1) 166 9 ((q + k : Nat) : Int)) 166 6)) + ((updC (updC b 166 8 1) 166 9 ((q + k : Nat) : Int)) 167 ((q + k)))) - 48)))) rfl (by decide) rfl rfl rfl (ovl_wm (by decide)) ?_
              refine Ev.steps (k := 1) (pc' := 317) (L' := [Vr 166, Vi ((q + k : Nat) : Int), Vi 0, Vi 1, Vi 4, Vi (w32 ((k : Int) + 1))]) (S' := []) (h' := ((SHv st dr rd), (ovl a s (updC (updC (updC b 166 8 1) 166 9 ((q + k : Nat) : Int)) 166 6 (((10 * ((updC (updC b 166 8 1) 166 9 ((q + k : Nat) : Int)) 166 6)) + ((updC (updC b 166 8 1) 166 9 ((q + k : Nat) : Int)) 167 ((q + k)))) - 48))))) (fun _ => rfl) ?_
              rw [show (w32 ((k : Int) + 1)) = ((k : Int) + 1) from w32_id (by unfold R32; omega)]
              refine Ev.steps (k := 1) (pc' := 320) (L' := [Vr 166, Vi (w32 (((q + k : Nat) : Int) + 1)), Vi 0, Vi 1, Vi 4, Vi ((k : Int) + 1)]) (S' := []) (h' := ((SHv st dr rd), (ovl a s (updC (updC (updC b 166 8 1) 166 9 ((q + k : Nat) : Int)) 166 6 (((10 * ((updC (updC b 166 8 1) 166 9 ((q + k : Nat) : Int)) 166 6)) + ((updC (updC b 166 8 1) 166 9 ((q + k : Nat) : Int)) 167 ((q + k)))) - 48))))) (fun _ => rfl) ?_
              rw [show (w32 (((q + k : Nat) : Int) + 1)) = (((q + k : Nat) : Int) + 1) from w32_id (by unfold R32; omega)]
              refine Ev.steps (k := 1) (pc' := 200) (L' := [Vr 166, Vi (((q + k : Nat) : Int) + 1), Vi 0, Vi 1, Vi 4, Vi ((k : Int) + 1)]) (S' := []) (h' := ((SHv st dr rd), (ovl a s (updC (updC (updC b 166 8 1) 166 9 ((q + k : Nat) : Int)) 166 6 (((10 * ((updC (updC b 166 8 1) 166 9 ((q + k : Nat) : Int)) 166 6)) + ((updC (updC b 166 8 1) 166 9 ((q + k : Nat) : Int)) 167 ((q + k)))) - 48))))) (fun _ => rfl) ?_
              exfalso
              omega
          · refine Ev.ite (P := 4 ≤ (k : Int)) (k := 5) (a := 314) (b := 289) (L' := [Vr 166, Vi ((q + k : Nat) : Int), Vi 0, Vi 1, Vi 4, Vi (k : Int)]) (S' := []) (h' := ((SHv st dr rd), (ovl a s (updC (updC b 166 8 1) 166 9 ((q + k : Nat) : Int))))) (fun _ => rfl) (fun b286 => ?_) (fun b286 => ?_)
            · refine Ev.steps (k := 1) (pc' := 317) (L' := [Vr 166, Vi ((q + k : Nat) : Int), Vi 0, Vi 1, Vi 4, Vi (w32 ((k : Int) + 1))]) (S' := []) (h' := ((SHv st dr rd), (ovl a s (updC (updC b 166 8 1) 166 9 ((q + k : Nat) : Int))))) (fun _ => rfl) ?_
              rw [show (w32 ((k : Int) + 1)) = ((k : Int) + 1) from w32_id (by unfold R32; omega)]
              refine Ev.steps (k := 1) (pc' := 320) (L' := [Vr 166, Vi (w32 (((q + k : Nat) : Int) + 1)), Vi 0, Vi 1, Vi 4, Vi ((k : Int) + 1)]) (S' := []) (h' := ((SHv st dr rd), (ovl a s (updC (updC b 166 8 1) 166 9 ((q + k : Nat) : Int))))) (fun _ => rfl) ?_
              rw [show (w32 (((q + k : Nat) : Int) + 1)) = (((q + k : Nat) : Int) + 1) from w32_id (by unfold R32; omega)]
              refine Ev.steps (k := 1) (pc' := 200) (L' := [Vr 166, Vi (((q + k : Nat) : Int) + 1), Vi 0, Vi 1, Vi 4, Vi ((k : Int) + 1)]) (S' := []) (h' := ((SHv st dr rd), (ovl a s (updC (updC b 166 8 1) 166 9 ((q + k : Nat) : Int))))) (fun _ => rfl) ?_
              have hke : k = 4 := by omega
              have ht := tok_nlg hq hn h0 hb (run_gt (r := 4) (by omega) (fun i hi => by
                by_cases h : i = k
                · rw [h, h0]; exact hc1
                · rw [h0]; exact hcl i (by omega)))
              obtain ⟨t1, t2, t3, t4⟩ := tk_of ht
              refine (m_nxF_dig (b := (updC (updC b 166 8 1) 166 9 ((q + k : Nat) : Int))) (b0 := b0) (q := q) _ (k + 1) (by omega) (hB.fo rfl rfl) rfl rfl ((hF.up (by omega)).up (by omega))).mono ?_
              rintro r h' ⟨g1, b', g2, g3, g4, g5⟩
              refine ⟨g1, b', g2, g3, Or.inr ⟨t1, g4, ?_⟩⟩
              rw [t2, ← hke]
              exact g5
            · refine Ev.steps (k := 7) (pc' := 301) (L' := [Vr 166, Vi ((q + k : Nat) : Int), Vi 0, Vi 1, Vi 4, Vi (k : Int)]) (S' := [Vi (w32 (10 * ((updC (updC b 166 8 1) 166 9 ((q + k : Nat) : Int)) 166 6))), Vr 166]) (h' := ((SHv st dr rd), (ovl a s (updC (updC b 166 8 1) 166 9 ((q + k : Nat) : Int))))) (fun _ => rfl) ?_
              rw [show (w32 (10 * ((updC (updC b 166 8 1) 166 9 ((q + k : Nat) : Int)) 166 6))) = (10 * ((updC (updC b 166 8 1) 166 9 ((q + k : Nat) : Int)) 166 6)) from w32_id (by unfold R32; omega)]
              refine Ev.steps (k := 3) (pc' := 306) (L' := [Vr 166, Vi ((q + k : Nat) : Int), Vi 0, Vi 1, Vi 4, Vi (k : Int)]) (S' := [Vi ((q + k : Nat) : Int), Vr 167, Vi (10 * ((updC (updC b 166 8 1) 166 9 ((q + k : Nat) : Int)) 166 6)), Vr 166]) (h' := ((SHv st dr rd), (ovl a s (updC (updC b 166 8 1) 166 9 ((q + k : Nat) : Int))))) (fun _ => rfl) ?_
              refine Ev.iald (v := ((updC (updC b 166 8 1) 166 9 ((q + k : Nat) : Int)) 167 ((q + k)))) rfl (by decide) rfl (by omega) (by omega) (rfl) ?_
              refine Ev.steps (k := 1) (pc' := 308) (L' := [Vr 166, Vi ((q + k : Nat) : Int), Vi 0, Vi 1, Vi 4, Vi (k : Int)]) (S' := [Vi (w32 ((10 * ((updC (updC b 166 8 1) 166 9 ((q + k : Nat) : Int)) 166 6)) + ((updC (updC b 166 8 1) 166 9 ((q + k : Nat) : Int)) 167 ((q + k))))), Vr 166]) (h' := ((SHv st dr rd), (ovl a s (updC (updC b 166 8 1) 166 9 ((q + k : Nat) : Int))))) (fun _ => rfl) ?_
              rw [show (w32 ((10 * ((updC (updC b 166 8 1) 166 9 ((q + k : Nat) : Int)) 166 6)) + ((updC (updC b 166 8 1) 166 9 ((q + k : Nat) : Int)) 167 ((q + k))))) = ((10 * ((updC (updC b 166 8 1) 166 9 ((q + k : Nat) : Int)) 166 6)) + ((updC (updC b 166 8 1) 166 9 ((q + k : Nat) : Int)) 167 ((q + k)))) from w32_id (by unfold R32; omega)]
              refine Ev.steps (k := 2) (pc' := 311) (L' := [Vr 166, Vi ((q + k : Nat) : Int), Vi 0, Vi 1, Vi 4, Vi (k : Int)]) (S' := [Vi (w32 (((10 * ((updC (updC b 166 8 1) 166 9 ((q + k : Nat) : Int)) 166 6)) + ((updC (updC b 166 8 1) 166 9 ((q + k : Nat) : Int)) 167 ((q + k)))) - 48)), Vr 166]) (h' := ((SHv st dr rd), (ovl a s (updC (updC b 166 8 1) 166 9 ((q + k : Nat) : Int))))) (fun _ => rfl) ?_
              rw [show (w32 (((10 * ((updC (updC b 166 8 1) 166 9 ((q + k : Nat) : Int)) 166 6)) + ((updC (updC b 166 8 1) 166 9 ((q + k : Nat) : Int)) 167 ((q + k)))) - 48)) = (((10 * ((updC (updC b 166 8 1) 166 9 ((q + k : Nat) : Int)) 166 6)) + ((updC (updC b 166 8 1) 166 9 ((q + k : Nat) : Int)) 167 ((q + k)))) - 48) from w32_id (by unfold R32; omega)]
              refine Ev.putf (c' := (ovl a s (updC (updC (updC b 166 8 1) 166 9 ((q + k : Nat) : Int)) 166 6 (((10 * ((updC (updC b 166 8 1) 166 9 ((q + k : Nat) : Int)) 166 6)) + ((updC (updC b 166 8 1) 166 9 ((q + k : Nat) : Int)) 167 ((q + k)))) - 48)))) rfl (by decide) rfl rfl rfl (ovl_wm (by decide)) ?_
              refine Ev.steps (k := 1) (pc' := 317) (L' := [Vr 166, Vi ((q + k : Nat) : Int), Vi 0, Vi 1, Vi 4, Vi (w32 ((k : Int) + 1))]) (S' := []) (h' := ((SHv st dr rd), (ovl a s (updC (updC (updC b 166 8 1) 166 9 ((q + k : Nat) : Int)) 166 6 (((10 * ((updC (updC b 166 8 1) 166 9 ((q + k : Nat) : Int)) 166 6)) + ((updC (updC b 166 8 1) 166 9 ((q + k : Nat) : Int)) 167 ((q + k)))) - 48))))) (fun _ => rfl) ?_
              rw [show (w32 ((k : Int) + 1)) = ((k : Int) + 1) from w32_id (by unfold R32; omega)]
              refine Ev.steps (k := 1) (pc' := 320) (L' := [Vr 166, Vi (w32 (((q + k : Nat) : Int) + 1)), Vi 0, Vi 1, Vi 4, Vi ((k : Int) + 1)]) (S' := []) (h' := ((SHv st dr rd), (ovl a s (updC (updC (updC b 166 8 1) 166 9 ((q + k : Nat) : Int)) 166 6 (((10 * ((updC (updC b 166 8 1) 166 9 ((q + k : Nat) : Int)) 166 6)) + ((updC (updC b 166 8 1) 166 9 ((q + k : Nat) : Int)) 167 ((q + k)))) - 48))))) (fun _ => rfl) ?_
              rw [show (w32 (((q + k : Nat) : Int) + 1)) = (((q + k : Nat) : Int) + 1) from w32_id (by unfold R32; omega)]
              refine Ev.steps (k := 1) (pc' := 200) (L' := [Vr 166, Vi (((q + k : Nat) : Int) + 1), Vi 0, Vi 1, Vi 4, Vi ((k : Int) + 1)]) (S' := []) (h' := ((SHv st dr rd), (ovl a s (updC (updC (updC b 166 8 1) 166 9 ((q + k : Nat) : Int)) 166 6 (((10 * ((updC (updC b 166 8 1) 166 9 ((q + k : Nat) : Int)) 166 6)) + ((updC (updC b 166 8 1) 166 9 ((q + k : Nat) : Int)) 167 ((q + k)))) - 48))))) (fun _ => rfl) ?_
              exfalso
              omega
      · rw [if_neg c233]
        show Ev X _ _ 236 [Vr 166, Vi ((q + k : Nat) : Int), Vi 0, Vi 1, Vi 4, Vi (k : Int)] [Vi 0] ((SHv st dr rd), (ovl a s b)) _
        refine Ev.steps (k := 3) (pc' := 325) (L' := [Vr 166, Vi ((q + k : Nat) : Int), Vi 0, Vi 1, Vi 4, Vi (k : Int)]) (S' := [Vi ((q + k : Nat) : Int), Vr 166]) (h' := ((SHv st dr rd), (ovl a s b))) (fun _ => rfl) ?_
        refine Ev.putf (c' := (ovl a s (updC b 166 5 ((q + k : Nat) : Int)))) rfl (by decide) rfl rfl rfl (ovl_wm (by decide)) ?_
        refine Ev.fin (k := 1) (r := none) (h' := ((SHv st dr rd), (ovl a s (updC b 166 5 ((q + k : Nat) : Int))))) (fun _ => rfl) ?_
        have hr : runT W q = k := run_uq (fun i hi => (hcl i hi).trans h0.symm) (fun h => by
          rw [h0]
          intro g
          have g2 := cls_2.mp g
          omega) hqk
        have ht := tok_num hq hn h0 hb hr hk
        refine ⟨rfl, _, rfl, (hF.up (by omega)), Or.inl (TkM.mk ht (hB.fo rfl rfl) e8 e9 rfl e4 (by decide) hp (fun h => absurd h (by decide)) (fun h => absurd h (by decide)) (fun _ h => absurd h (by decide)) (fun _ => ⟨e3, ev⟩))⟩
