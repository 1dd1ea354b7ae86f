/-! THE CLASS SETTLES: ways, turns -/
theorem bst_s {S : STY} {fr to o : Nat} : bstS S fr to (o + 1) = if S.1 4 (8 * fr + o) ≠ 0 ∧ dstS S to o < 9 ∧ (bstS S fr to o = -1 ∨ dstS S to o < dstS S to (bstS S fr to o).toNat) then (o : Int) else bstS S fr to o := rfl
theorem bst_n {S : STY} (hD : WfD S) {fr to : Nat} (hf : fr < 8) : ∀ n, nR S ≤ n → n ≤ 8 → bstS S fr to n = bstS S fr to (nR S)
  | 0, h, _ => by rw [show nR S = 0 by omega]
  | n + 1, h, h8 => by
    by_cases e : nR S = n + 1
    · rw [e]
    · rw [bst_s, if_neg ?_]
      · exact bst_n hD hf n (by omega) (by omega)
      · intro g
        have := hD fr n hf (by omega) g.1
        omega
/-- how far the best one beside is -/
noncomputable def fewF (S : STY) (fr to n : Nat) : Nat := if bstS S fr to n = -1 then 8 else dstS S to (bstS S fr to n).toNat
theorem few_9 {S : STY} (hR : nR S ≤ 8) (hD : WfD S) {fr to : Nat} (hf : fr < 8) : ∀ n, n ≤ 8 → bstS S fr to n ≠ -1 → (0 ≤ bstS S fr to n ∧ bstS S fr to n < nR S) ∧ dstS S to (bstS S fr to n).toNat < nR S
  | 0, _, h => absurd rfl h
  | n + 1, hn, h => by
    rw [bst_s] at h ⊢
    by_cases g : S.1 4 (8 * fr + n) ≠ 0 ∧ dstS S to n < 9 ∧ (bstS S fr to n = -1 ∨ dstS S to n < dstS S to (bstS S fr to n).toNat)
    · rw [if_pos g]
      have h1 := (hD fr n hf (by omega) g.1).2.1
      rw [Int.toNat_natCast]
      exact ⟨by omega, dst_lt h1 g.2.1⟩
    · rw [if_neg g] at h ⊢
      exact few_9 hR hD hf n (by omega) h
theorem few_c {S : STY} (hR : nR S ≤ 8) (hD : WfD S) {fr to o : Nat} (hf : fr < 8) (ht : to < 8) (ho : o < 8) (hd : S.1 4 (8 * fr + o) ≠ 0) : fwT S 8 o to < fewF S fr to o ↔ (dstS S to o < 9 ∧ (bstS S fr to o = -1 ∨ dstS S to o < dstS S to (bstS S fr to o).toNat)) := by
  have h1 := (hD fr o hf ho hd).2.1
  obtain ⟨f1, f2⟩ := fw_dst hD hR h1 ht
  have h9 := few_9 hR hD (to := to) hf o (by omega)
  unfold fewF
  by_cases hb : bstS S fr to o = -1
  · rw [if_pos hb]
    by_cases h : dstS S to o < 9
    · have := dst_lt h1 h
      rw [f1 h]
      exact ⟨fun _ => ⟨h, Or.inl hb⟩, fun _ => by omega⟩
    · rw [f2 (by omega)]
      exact ⟨fun g => absurd g (by omega), fun g => absurd g.1 h⟩
  · rw [if_neg hb]
    have h10 := (h9 hb).2
    by_cases h : dstS S to o < 9
    · rw [f1 h]
      exact ⟨fun g => ⟨h, Or.inr g⟩, fun g => g.2.resolve_left hb⟩
    · rw [f2 (by omega)]
      exact ⟨fun g => absurd g (by omega), fun g => absurd g.1 h⟩
theorem few_s {S : STY} {fr to o : Nat} (h : S.1 4 (8 * fr + o) ≠ 0 ∧ dstS S to o < 9 ∧ (bstS S fr to o = -1 ∨ dstS S to o < dstS S to (bstS S fr to o).toNat)) : bstS S fr to (o + 1) = o ∧ fewF S fr to (o + 1) = dstS S to o := by
  have e : bstS S fr to (o + 1) = o := by rw [bst_s, if_pos h]
  refine ⟨e, ?_⟩
  unfold fewF
  rw [e, if_neg (by omega), Int.toNat_natCast]
theorem few_t {S : STY} {fr to o : Nat} (h : ¬ (S.1 4 (8 * fr + o) ≠ 0 ∧ dstS S to o < 9 ∧ (bstS S fr to o = -1 ∨ dstS S to o < dstS S to (bstS S fr to o).toNat))) : bstS S fr to (o + 1) = bstS S fr to o ∧ fewF S fr to (o + 1) = fewF S fr to o := by
  have e : bstS S fr to (o + 1) = bstS S fr to o := by rw [bst_s, if_neg h]
  refine ⟨e, ?_⟩
  unfold fewF
  rw [e]
theorem c_beside_l {X : List Int} {d : Nat} {st dr rd : Int} {a s b : C3} {z : Nat} (hz : hyS z) {S : STY} (hD : DoC S.1 a z) (hWD : WfD S) (hR : nR S ≤ 8) (hF : ∀ r t, r < 8 → t < 8 → a (z + 4) (8 * r + t) = ((fwT S 8 r t : Nat) : Int)) (room to : Nat) (hro : room < 8) (hto : to < 8) (o : Nat) (ho : o ≤ 8) : Ev X (d + 1) 59 9 [Vr (z : Int), Vi (room : Int), Vi (to : Int), Vi (bstS S room to o), Vi ((fewF S room to o : Nat) : Int), Vi (o : Int)] [] (SHv st dr rd, ovl a s b) (fun rr hh => rr = some (Vi (bstS S room to 8)) ∧ hh = (SHv st dr rd, ovl a s b)) := by
  induction hkk : (8 - o) using Nat.strongRecOn generalizing o with
  | ind kk ih =>
    have hz0 : z = 2 ∨ z = 58 := hz
    refine Ev.ite (P := 8 ≤ (o : Int)) (k := 3) (a := 66) (b := 16) (L' := [Vr (z : Int), Vi (room : Int), Vi (to : Int), Vi (bstS S room to o), Vi ((fewF S room to o : Nat) : Int), Vi (o : Int)]) (S' := []) (h' := ((SHv st dr rd), (ovl a s b))) (fun _ => rfl) (fun b13 => ?_) (fun b13 => ?_)
    · refine Ev.fin (k := 2) (r := (some (Vi (bstS S room to o)))) (h' := ((SHv st dr rd), (ovl a s b))) (fun _ => rfl) ?_
      obtain rfl : o = 8 := by omega
      exact ⟨rfl, rfl⟩
    · refine Ev.call (k := 3) (pc1 := 20) (L1 := [Vr (z : Int), Vi (room : Int), Vi (to : Int), Vi (bstS S room to o), Vi ((fewF S room to o : Nat) : Int), Vi (o : Int)]) (S1 := [Vi (o : Int), Vi (room : Int), Vr (z : Int)]) (h1 := ((SHv st dr rd), (ovl a s b))) (m' := 39) (as := [Vr (z : Int), Vi (room : Int), Vi (o : Int)]) (S' := []) (L0 := [Vr (z : Int), Vi (room : Int), Vi (o : Int)]) (fun _ => rfl) rfl rfl rfl rfl (stpC_of rfl (pm_recv_of (by omega) (shY_0 hz))) rfl (c_doorBetween hz (N := S.1) hD (room : Int) (o : Int)) (fun r h' hq => ?_)
      obtain ⟨rfl, rfl⟩ := hq
      by_cases c20 : DbC S.1 (room : Int) (o : Int)
      · rw [if_pos c20]
        show Ev X _ _ 23 [Vr (z : Int), Vi (room : Int), Vi (to : Int), Vi (bstS S room to o), Vi ((fewF S room to o : Nat) : Int), Vi (o : Int)] [Vi 1] ((SHv st dr rd), (ovl a s b)) _
        refine Ev.steps (k := 1) (pc' := 26) (L' := [Vr (z : Int), Vi (room : Int), Vi (to : Int), Vi (bstS S room to o), Vi ((fewF S room to o : Nat) : Int), Vi (o : Int)]) (S' := []) (h' := ((SHv st dr rd), (ovl a s b))) (fun _ => rfl) ?_
        have hd9 : S.1 4 (8 * room + o) ≠ 0 := by
          have := c20.2.2
          rwa [Int.toNat_natCast, Int.toNat_natCast] at this
        have h1 : a (z + 4) (o * 8 + to) = ((fwT S 8 o to : Nat) : Int) := by
          rw [show o * 8 + to = 8 * o + to by omega]
          exact hF o to (by omega) hto
        have g1 := fw_8 (S := S) 8 o to
        have hfc := few_c hR hWD (to := to) hro hto (show o < 8 by omega) hd9
        refine Ev.steps (k := 1) (pc' := 27) (L' := [Vr (z : Int), Vi (room : Int), Vi (to : Int), Vi (bstS S room to o), Vi ((fewF S room to o : Nat) : Int), Vi (o : Int)]) (S' := [Vr (z : Int)]) (h' := ((SHv st dr rd), (ovl a s b))) (fun _ => rfl) ?_
        refine Ev.getr (r := ((z : Int) + 4)) rfl rfl (by omega) (shY_0 hz) rfl rfl rfl ?_
        refine Ev.steps (k := 3) (pc' := 35) (L' := [Vr (z : Int), Vi (room : Int), Vi (to : Int), Vi (bstS S room to o), Vi ((fewF S room to o : Nat) : Int), Vi (o : Int)]) (S' := [Vi (w32 ((o : Int) * 8)), Vr ((z : Int) + 4)]) (h' := ((SHv st dr rd), (ovl a s b))) (fun _ => rfl) ?_
        rw [show (w32 ((o : Int) * 8)) = ((o : Int) * 8) from w32_id (by unfold R32; omega)]
        refine Ev.steps (k := 2) (pc' := 37) (L' := [Vr (z : Int), Vi (room : Int), Vi (to : Int), Vi (bstS S room to o), Vi ((fewF S room to o : Nat) : Int), Vi (o : Int)]) (S' := [Vi (w32 (((o : Int) * 8) + (to : Int))), Vr ((z : Int) + 4)]) (h' := ((SHv st dr rd), (ovl a s b))) (fun _ => rfl) ?_
        rw [show (w32 (((o : Int) * 8) + (to : Int))) = (((o : Int) * 8) + (to : Int)) from w32_id (by unfold R32; omega)]
        refine Ev.iald (v := ((fwT S 8 o to : Nat) : Int)) rfl (by omega) (shY_4 hz) (by omega) (by omega) ((ovl_rc (by omega)).trans (h1)) ?_
        refine Ev.ite (P := ((fewF S room to o : Nat) : Int) ≤ ((fwT S 8 o to : Nat) : Int)) (k := 2) (a := 60) (b := 43) (L' := [Vr (z : Int), Vi (room : Int), Vi (to : Int), Vi (bstS S room to o), Vi ((fewF S room to o : Nat) : Int), Vi (o : Int)]) (S' := []) (h' := ((SHv st dr rd), (ovl a s b))) (fun _ => rfl) (fun b40 => ?_) (fun b40 => ?_)
        · refine Ev.steps (k := 1) (pc' := 63) (L' := [Vr (z : Int), Vi (room : Int), Vi (to : Int), Vi (bstS S room to o), Vi ((fewF S room to o : Nat) : Int), Vi (w32 ((o : Int) + 1))]) (S' := []) (h' := ((SHv st dr rd), (ovl a s b))) (fun _ => rfl) ?_
          rw [show (w32 ((o : Int) + 1)) = ((o : Int) + 1) from w32_id (by unfold R32; omega)]
          refine Ev.steps (k := 1) (pc' := 9) (L' := [Vr (z : Int), Vi (room : Int), Vi (to : Int), Vi (bstS S room to o), Vi ((fewF S room to o : Nat) : Int), Vi ((o : Int) + 1)]) (S' := []) (h' := ((SHv st dr rd), (ovl a s b))) (fun _ => rfl) ?_
          first
            | (have hcc : ¬ (S.1 4 (8 * room + o) ≠ 0 ∧ dstS S to o < 9 ∧ (bstS S room to o = -1 ∨ dstS S to o < dstS S to (bstS S room to o).toNat)) := fun g => c20 ⟨by omega, by omega, by rw [Int.toNat_natCast, Int.toNat_natCast]; exact g.1⟩
               have he := few_t hcc
               have hh := ih _ (by omega) (o + 1) (by omega) rfl
               rw [he.1, he.2] at hh
               exact hh)
            | (have hcc : ¬ (S.1 4 (8 * room + o) ≠ 0 ∧ dstS S to o < 9 ∧ (bstS S room to o = -1 ∨ dstS S to o < dstS S to (bstS S room to o).toNat)) := fun g => by
                 have := hfc.mpr g.2
                 omega
               have he := few_t hcc
               have hh := ih _ (by omega) (o + 1) (by omega) rfl
               rw [he.1, he.2] at hh
               exact hh)
        · refine Ev.steps (k := 3) (pc' := 47) (L' := [Vr (z : Int), Vi (room : Int), Vi (to : Int), Vi (o : Int), Vi ((fewF S room to o : Nat) : Int), Vi (o : Int)]) (S' := [Vr (z : Int)]) (h' := ((SHv st dr rd), (ovl a s b))) (fun _ => rfl) ?_
          refine Ev.getr (r := ((z : Int) + 4)) rfl rfl (by omega) (shY_0 hz) rfl rfl rfl ?_
          refine Ev.steps (k := 3) (pc' := 55) (L' := [Vr (z : Int), Vi (room : Int), Vi (to : Int), Vi (o : Int), Vi ((fewF S room to o : Nat) : Int), Vi (o : Int)]) (S' := [Vi (w32 ((o : Int) * 8)), Vr ((z : Int) + 4)]) (h' := ((SHv st dr rd), (ovl a s b))) (fun _ => rfl) ?_
          rw [show (w32 ((o : Int) * 8)) = ((o : Int) * 8) from w32_id (by unfold R32; omega)]
          refine Ev.steps (k := 2) (pc' := 57) (L' := [Vr (z : Int), Vi (room : Int), Vi (to : Int), Vi (o : Int), Vi ((fewF S room to o : Nat) : Int), Vi (o : Int)]) (S' := [Vi (w32 (((o : Int) * 8) + (to : Int))), Vr ((z : Int) + 4)]) (h' := ((SHv st dr rd), (ovl a s b))) (fun _ => rfl) ?_
          rw [show (w32 (((o : Int) * 8) + (to : Int))) = (((o : Int) * 8) + (to : Int)) from w32_id (by unfold R32; omega)]
          refine Ev.iald (v := ((fwT S 8 o to : Nat) : Int)) rfl (by omega) (shY_4 hz) (by omega) (by omega) ((ovl_rc (by omega)).trans (h1)) ?_
          refine Ev.steps (k := 2) (pc' := 63) (L' := [Vr (z : Int), Vi (room : Int), Vi (to : Int), Vi (o : Int), Vi ((fwT S 8 o to : Nat) : Int), Vi (w32 ((o : Int) + 1))]) (S' := []) (h' := ((SHv st dr rd), (ovl a s b))) (fun _ => rfl) ?_
          rw [show (w32 ((o : Int) + 1)) = ((o : Int) + 1) from w32_id (by unfold R32; omega)]
          refine Ev.steps (k := 1) (pc' := 9) (L' := [Vr (z : Int), Vi (room : Int), Vi (to : Int), Vi (o : Int), Vi ((fwT S 8 o to : Nat) : Int), Vi ((o : Int) + 1)]) (S' := []) (h' := ((SHv st dr rd), (ovl a s b))) (fun _ => rfl) ?_
          have hcc : S.1 4 (8 * room + o) ≠ 0 ∧ dstS S to o < 9 ∧ (bstS S room to o = -1 ∨ dstS S to o < dstS S to (bstS S room to o).toNat) := ⟨hd9, hfc.mp (by omega)⟩
          have he := few_s hcc
          have hh := ih _ (by omega) (o + 1) (by omega) rfl
          have h2 := (fw_dst hWD hR (hWD room o hro (by omega) hd9).2.1 hto).1 hcc.2.1
          rw [he.1, he.2, ← h2] at hh
          exact hh
      · rw [if_neg c20]
        show Ev X _ _ 23 [Vr (z : Int), Vi (room : Int), Vi (to : Int), Vi (bstS S room to o), Vi ((fewF S room to o : Nat) : Int), Vi (o : Int)] [Vi 0] ((SHv st dr rd), (ovl a s b)) _
        refine Ev.steps (k := 2) (pc' := 63) (L' := [Vr (z : Int), Vi (room : Int), Vi (to : Int), Vi (bstS S room to o), Vi ((fewF S room to o : Nat) : Int), Vi (w32 ((o : Int) + 1))]) (S' := []) (h' := ((SHv st dr rd), (ovl a s b))) (fun _ => rfl) ?_
        rw [show (w32 ((o : Int) + 1)) = ((o : Int) + 1) from w32_id (by unfold R32; omega)]
        refine Ev.steps (k := 1) (pc' := 9) (L' := [Vr (z : Int), Vi (room : Int), Vi (to : Int), Vi (bstS S room to o), Vi ((fewF S room to o : Nat) : Int), Vi ((o : Int) + 1)]) (S' := []) (h' := ((SHv st dr rd), (ovl a s b))) (fun _ => rfl) ?_
        first
          | (have hcc : ¬ (S.1 4 (8 * room + o) ≠ 0 ∧ dstS S to o < 9 ∧ (bstS S room to o = -1 ∨ dstS S to o < dstS S to (bstS S room to o).toNat)) := fun g => c20 ⟨by omega, by omega, by rw [Int.toNat_natCast, Int.toNat_natCast]; exact g.1⟩
             have he := few_t hcc
             have hh := ih _ (by omega) (o + 1) (by omega) rfl
             rw [he.1, he.2] at hh
             exact hh)
          | (have hcc : ¬ (S.1 4 (8 * room + o) ≠ 0 ∧ dstS S to o < 9 ∧ (bstS S room to o = -1 ∨ dstS S to o < dstS S to (bstS S room to o).toNat)) := fun g => by
               have := hfc.mpr g.2
               omega
             have he := few_t hcc
             have hh := ih _ (by omega) (o + 1) (by omega) rfl
             rw [he.1, he.2] at hh
             exact hh)
theorem c_beside {X : List Int} {d : Nat} {st dr rd : Int} {a s b : C3} {z : Nat} (hz : hyS z) {S : STY} (hD : DoC S.1 a z) (hWD : WfD S) (hR : nR S ≤ 8) (hF : ∀ r t, r < 8 → t < 8 → a (z + 4) (8 * r + t) = ((fwT S 8 r t : Nat) : Int)) (room to : Nat) (hro : room < 8) (hto : to < 8) : Ev X (d + 1) 59 0 [Vr (z : Int), Vi (room : Int), Vi (to : Int), Vx, Vx, Vx] [] (SHv st dr rd, ovl a s b) (fun rr hh => rr = some (Vi (bstS S room to 8)) ∧ hh = (SHv st dr rd, ovl a s b)) := by
  refine Ev.steps (k := 6) (pc' := 9) (L' := [Vr (z : Int), Vi (room : Int), Vi (to : Int), Vi (-1), Vi 8, Vi 0]) (S' := []) (h' := ((SHv st dr rd), (ovl a s b))) (fun _ => rfl) ?_
  exact c_beside_l hz hD hWD hR hF room to hro hto 0 (by omega)
theorem cnt_s {S : STY} {p r : Nat} {f : Bool} : cntT S p f (r + 1) = cntT S p f r + if isT S p f r = true then 1 else 0 := rfl
theorem cnt_le {S : STY} {p : Nat} {f : Bool} {r : Nat} : ∀ n, r ≤ n → cntT S p f r ≤ cntT S p f n
  | 0, h => by rw [show r = 0 by omega]; exact Nat.le_refl _
  | n + 1, h => by
    by_cases e : r = n + 1
    · rw [e]; exact Nat.le_refl _
    · have := cnt_le (S := S) (p := p) (f := f) n (show r ≤ n by omega)
      rw [cnt_s]
      omega
theorem cnt_lt {S : STY} {p : Nat} {f : Bool} {r n : Nat} (h : r < n) (ht : isT S p f r = true) : cntT S p f r < cntT S p f n := by
  have h1 := cnt_le (S := S) (p := p) (f := f) n (show r + 1 ≤ n by omega)
  rw [cnt_s, if_pos ht] at h1
  omega
/-- how many rules the persons before p have -/
def cPT (S : STY) (p : Nat) : Nat → Nat
  | 0 => 0
  | r + 1 => cPT S p r + if S.1 12 r < (p : Int) then 1 else 0
theorem cP_le {S : STY} {p : Nat} : ∀ n, cPT S p n ≤ n
  | 0 => Nat.le_refl _
  | n + 1 => by
    have := cP_le (S := S) (p := p) n
    show cPT S p n + (if S.1 12 n < (p : Int) then 1 else 0) ≤ n + 1
    split <;> omega
theorem cP_0 {S : STY} : ∀ n, (∀ r, r < n → 0 ≤ S.1 12 r) → cPT S 0 n = 0
  | 0, _ => rfl
  | n + 1, h => by
    have h1 := h n (by omega)
    show cPT S 0 n + (if S.1 12 n < ((0 : Nat) : Int) then 1 else 0) = 0
    rw [cP_0 n (fun r hr => h r (by omega)), if_neg (by omega)]
theorem cP_s {S : STY} {p : Nat} : ∀ n, cPT S (p + 1) n = cPT S p n + cntT S p true n + cntT S p false n
  | 0 => rfl
  | n + 1 => by
    have h := cP_s (S := S) (p := p) n
    show cPT S (p + 1) n + (if S.1 12 n < ((p + 1 : Nat) : Int) then 1 else 0) = cPT S p n + (if S.1 12 n < (p : Int) then 1 else 0) + (cntT S p true n + if isT S p true n = true then 1 else 0) + (cntT S p false n + if isT S p false n = true then 1 else 0)
    rw [h]
    by_cases h1 : S.1 12 n = (p : Int)
    · by_cases h4 : S.1 11 n = 4
      · have e1 : isT S p true n = true := by unfold isT; rw [decide_eq_true h1, decide_eq_true h4]; rfl
        have e2 : isT S p false n = false := by unfold isT; rw [decide_eq_true h1, decide_eq_true h4]; rfl
        rw [e1, e2, if_pos (by omega), if_neg (by omega), if_pos rfl, if_neg (by decide)]
        omega
      · have e1 : isT S p true n = false := by unfold isT; rw [decide_eq_true h1, decide_eq_false h4]; rfl
        have e2 : isT S p false n = true := by unfold isT; rw [decide_eq_true h1, decide_eq_false h4]; rfl
        rw [e1, e2, if_pos (by omega), if_neg (by omega), if_pos rfl, if_neg (by decide)]
        omega
    · have e1 : ∀ f, isT S p f n = false := fun f => by unfold isT; rw [decide_eq_false h1]; rfl
      rw [e1, e1, if_neg (show ¬ (false = true) by decide)]
      by_cases h2 : S.1 12 n < (p : Int)
      · rw [if_pos (by omega), if_pos h2]
        omega
      · rw [if_neg (by omega), if_neg h2]
        omega
theorem c_fill_t_l {X : List Int} {d : Nat} {st dr rd : Int} {a s b : C3} {z : Nat} (hz : hyS z) {S : STY} {a0 : C3} (hL : nL S ≤ 30) (hc : a0 (z + 1) 4 = ((nL S : Nat) : Int)) (hr : ∀ r, r < nL S → a0 (z + 14 + r) 0 = S.1 11 r + 262 ∧ a0 (z + 14 + r) 1 = S.1 12 r) (hk : ∀ r, r < nL S → 0 ≤ S.1 11 r ∧ S.1 11 r ≤ 5) (p x : Nat) (hx : x + cntT S p true (nL S) ≤ 30) (q : Nat) (hq : q ≤ nL S) (hf : FrO (z + 12) (z + 12) a0 a) (hj : ∀ j, j < x → a (z + 12) j = a0 (z + 12) j) (hi : ∀ r, r < q → isT S p true r = true → a (z + 12) (x + cntT S p true r) = (r : Int)) : Ev X d 60 6 [Vr (z : Int), Vi (p : Int), Vi 1, Vi (x : Int), Vi ((x + cntT S p true q : Nat) : Int), Vi (q : Int)] [] (SHv st dr rd, ovl a s b) (fun rr hh => rr = some (Vi ((x + cntT S p true (nL S) : Nat) : Int)) ∧ ∃ a' : C3, hh = (SHv st dr rd, ovl a' s b) ∧ FrO (z + 12) (z + 12) a0 a' ∧ (∀ j, j < x → a' (z + 12) j = a0 (z + 12) j) ∧ ∀ r, r < nL S → isT S p true r = true → a' (z + 12) (x + cntT S p true r) = (r : Int)) := by
  induction hkk : (nL S - q) using Nat.strongRecOn generalizing q a with
  | ind kk ih =>
    have hz0 : z = 2 ∨ z = 58 := hz
    have hc1 : a (z + 1) 4 = ((nL S : Nat) : Int) := by rw [hf _ (by omega)]; exact hc
    have hcl := cnt_le (S := S) (p := p) (f := true) (nL S) hq
    refine Ev.steps (k := 2) (pc' := 9) (L' := [Vr (z : Int), Vi (p : Int), Vi 1, Vi (x : Int), Vi ((x + cntT S p true q : Nat) : Int), Vi (q : Int)]) (S' := [Vr (z : Int), Vi (q : Int)]) (h' := ((SHv st dr rd), (ovl a s b))) (fun _ => rfl) ?_
    refine Ev.getr (r := ((z : Int) + 1)) rfl rfl (by omega) (shY_0 hz) rfl rfl rfl ?_
    refine Ev.steps (k := 1) (pc' := 13) (L' := [Vr (z : Int), Vi (p : Int), Vi 1, Vi (x : Int), Vi ((x + cntT S p true q : Nat) : Int), Vi (q : Int)]) (S' := [Vi 4, Vr ((z : Int) + 1), Vi (q : Int)]) (h' := ((SHv st dr rd), (ovl a s b))) (fun _ => rfl) ?_
    refine Ev.iald (v := ((nL S : Nat) : Int)) rfl (by omega) (shY_1 hz) (by omega) (by omega) ((ovl_rc (by omega)).trans (hc1)) ?_
    refine Ev.ite (P := ((nL S : Nat) : Int) ≤ (q : Int)) (k := 1) (a := 84) (b := 17) (L' := [Vr (z : Int), Vi (p : Int), Vi 1, Vi (x : Int), Vi ((x + cntT S p true q : Nat) : Int), Vi (q : Int)]) (S' := []) (h' := ((SHv st dr rd), (ovl a s b))) (fun _ => rfl) (fun b14 => ?_) (fun b14 => ?_)
    · refine Ev.fin (k := 2) (r := (some (Vi ((x + cntT S p true q : Nat) : Int)))) (h' := ((SHv st dr rd), (ovl a s b))) (fun _ => rfl) ?_
      obtain rfl : q = nL S := by omega
      exact ⟨rfl, a, rfl, hf, hj, hi⟩
    · have hr1 : a (z + 14 + q) 0 = S.1 11 q + 262 := by rw [hf _ (by omega)]; exact (hr q (by omega)).1
      have hr2 : a (z + 14 + q) 1 = S.1 12 q := by rw [hf _ (by omega)]; exact (hr q (by omega)).2
      have hk1 := hk q (by omega)
      have hcs := cnt_s (S := S) (p := p) (r := q) (f := true)
      refine Ev.steps (k := 1) (pc' := 18) (L' := [Vr (z : Int), Vi (p : Int), Vi 1, Vi (x : Int), Vi ((x + cntT S p true q : Nat) : Int), Vi (q : Int)]) (S' := [Vr (z : Int)]) (h' := ((SHv st dr rd), (ovl a s b))) (fun _ => rfl) ?_
      refine Ev.getr (r := ((z : Int) + 9)) rfl rfl (by omega) (shY_0 hz) rfl rfl rfl ?_
      refine Ev.steps (k := 1) (pc' := 23) (L' := [Vr (z : Int), Vi (p : Int), Vi 1, Vi (x : Int), Vi ((x + cntT S p true q : Nat) : Int), Vi (q : Int)]) (S' := [Vi (q : Int), Vr ((z : Int) + 9)]) (h' := ((SHv st dr rd), (ovl a s b))) (fun _ => rfl) ?_
      refine Ev.aald (r := ((z + 14 + q : Nat) : Int)) rfl (by omega) (shY_9 hz) rfl (by omega) (by omega) (ruL_at q (by omega)) ?_
      refine Ev.getf (v := (S.1 12 q)) rfl rfl (by omega) (shRu hz (by omega)) rfl rfl ((ovl_rc (by omega)).trans (hr2)) ?_
      refine Ev.ite (P := (S.1 12 q) ≠ (p : Int)) (k := 2) (a := 78) (b := 31) (L' := [Vr (z : Int), Vi (p : Int), Vi 1, Vi (x : Int), Vi ((x + cntT S p true q : Nat) : Int), Vi (q : Int)]) (S' := []) (h' := ((SHv st dr rd), (ovl a s b))) (fun _ => rfl) (fun b28 => ?_) (fun b28 => ?_)
      · refine Ev.steps (k := 1) (pc' := 81) (L' := [Vr (z : Int), Vi (p : Int), Vi 1, Vi (x : Int), Vi ((x + cntT S p true q : Nat) : Int), Vi (w32 ((q : Int) + 1))]) (S' := []) (h' := ((SHv st dr rd), (ovl a s b))) (fun _ => rfl) ?_
        rw [show (w32 ((q : Int) + 1)) = ((q : Int) + 1) from w32_id (by unfold R32; omega)]
        refine Ev.steps (k := 1) (pc' := 6) (L' := [Vr (z : Int), Vi (p : Int), Vi 1, Vi (x : Int), Vi ((x + cntT S p true q : Nat) : Int), Vi ((q : Int) + 1)]) (S' := []) (h' := ((SHv st dr rd), (ovl a s b))) (fun _ => rfl) ?_
        have hT : isT S p true q = false := by
          unfold isT
          first
            | (rw [decide_eq_false (show ¬ S.1 12 q = (p : Int) by omega)]; rfl)
            | (rw [decide_eq_true (show S.1 11 q = 4 by omega), Bool.and_eq_false_iff]; exact Or.inr rfl)
            | (rw [decide_eq_false (show ¬ S.1 11 q = 4 by omega), Bool.and_eq_false_iff]; exact Or.inr rfl)
        rw [if_neg (by rw [hT]; decide)] at hcs
        have hcs2 : cntT S p true q = cntT S p true (q + 1) := hcs.symm
        rw [hcs2]
        refine ih _ (by omega) (q + 1) (by omega) hf hj (fun r hrq ht => ?_) rfl
        by_cases h : r = q
        · rw [h, hT] at ht
          exact absurd ht (by decide)
        · exact hi r (by omega) ht
      · refine Ev.steps (k := 1) (pc' := 32) (L' := [Vr (z : Int), Vi (p : Int), Vi 1, Vi (x : Int), Vi ((x + cntT S p true q : Nat) : Int), Vi (q : Int)]) (S' := [Vr (z : Int)]) (h' := ((SHv st dr rd), (ovl a s b))) (fun _ => rfl) ?_
        refine Ev.getr (r := ((z : Int) + 9)) rfl rfl (by omega) (shY_0 hz) rfl rfl rfl ?_
        refine Ev.steps (k := 1) (pc' := 37) (L' := [Vr (z : Int), Vi (p : Int), Vi 1, Vi (x : Int), Vi ((x + cntT S p true q : Nat) : Int), Vi (q : Int)]) (S' := [Vi (q : Int), Vr ((z : Int) + 9)]) (h' := ((SHv st dr rd), (ovl a s b))) (fun _ => rfl) ?_
        refine Ev.aald (r := ((z + 14 + q : Nat) : Int)) rfl (by omega) (shY_9 hz) rfl (by omega) (by omega) (ruL_at q (by omega)) ?_
        refine Ev.getf (v := ((S.1 11 q) + 262)) rfl rfl (by omega) (shRu hz (by omega)) rfl rfl ((ovl_rc (by omega)).trans (hr1)) ?_
        refine Ev.ite (P := ((S.1 11 q) + 262) ≠ 266) (k := 2) (a := 51) (b := 47) (L' := [Vr (z : Int), Vi (p : Int), Vi 1, Vi (x : Int), Vi ((x + cntT S p true q : Nat) : Int), Vi (q : Int)]) (S' := []) (h' := ((SHv st dr rd), (ovl a s b))) (fun _ => rfl) (fun b44 => ?_) (fun b44 => ?_)
        · refine Ev.steps (k := 4) (pc' := 81) (L' := [Vr (z : Int), Vi (p : Int), Vi 1, Vi (x : Int), Vi ((x + cntT S p true q : Nat) : Int), Vi (w32 ((q : Int) + 1))]) (S' := []) (h' := ((SHv st dr rd), (ovl a s b))) (fun _ => rfl) ?_
          rw [show (w32 ((q : Int) + 1)) = ((q : Int) + 1) from w32_id (by unfold R32; omega)]
          refine Ev.steps (k := 1) (pc' := 6) (L' := [Vr (z : Int), Vi (p : Int), Vi 1, Vi (x : Int), Vi ((x + cntT S p true q : Nat) : Int), Vi ((q : Int) + 1)]) (S' := []) (h' := ((SHv st dr rd), (ovl a s b))) (fun _ => rfl) ?_
          have hT : isT S p true q = false := by
            unfold isT
            first
              | (rw [decide_eq_false (show ¬ S.1 12 q = (p : Int) by omega)]; rfl)
              | (rw [decide_eq_true (show S.1 11 q = 4 by omega), Bool.and_eq_false_iff]; exact Or.inr rfl)
              | (rw [decide_eq_false (show ¬ S.1 11 q = 4 by omega), Bool.and_eq_false_iff]; exact Or.inr rfl)
          rw [if_neg (by rw [hT]; decide)] at hcs
          have hcs2 : cntT S p true q = cntT S p true (q + 1) := hcs.symm
          rw [hcs2]
          refine ih _ (by omega) (q + 1) (by omega) hf hj (fun r hrq ht => ?_) rfl
          by_cases h : r = q
          · rw [h, hT] at ht
            exact absurd ht (by decide)
          · exact hi r (by omega) ht
        · refine Ev.steps (k := 4) (pc' := 56) (L' := [Vr (z : Int), Vi (p : Int), Vi 1, Vi (x : Int), Vi ((x + cntT S p true q : Nat) : Int), Vi (q : Int)]) (S' := []) (h' := ((SHv st dr rd), (ovl a s b))) (fun _ => rfl) ?_
          have hT : isT S p true q = true := by
            unfold isT
            rw [decide_eq_true (show S.1 12 q = (p : Int) by omega)]
            first
              | (rw [decide_eq_true (show S.1 11 q = 4 by omega)]; rfl)
              | (rw [decide_eq_false (show ¬ S.1 11 q = 4 by omega)]; rfl)
          have hlt := cnt_lt (show q < nL S by omega) hT
          rw [if_pos hT] at hcs
          refine Ev.steps (k := 2) (pc' := 59) (L' := [Vr (z : Int), Vi (p : Int), Vi 1, Vi (x : Int), Vi ((x + cntT S p true q : Nat) : Int), Vi (q : Int)]) (S' := [Vr (z : Int), Vi ((x + cntT S p true q : Nat) : Int)]) (h' := ((SHv st dr rd), (ovl a s b))) (fun _ => rfl) ?_
          refine Ev.getr (r := ((z : Int) + 12)) rfl rfl (by omega) (shY_0 hz) rfl rfl rfl ?_
          refine Ev.alen (v := 30) rfl (by omega) (shY_12 hz) rfl rfl ?_
          refine Ev.ite (P := 30 ≤ ((x + cntT S p true q : Nat) : Int)) (k := 1) (a := 78) (b := 66) (L' := [Vr (z : Int), Vi (p : Int), Vi 1, Vi (x : Int), Vi ((x + cntT S p true q : Nat) : Int), Vi (q : Int)]) (S' := []) (h' := ((SHv st dr rd), (ovl a s b))) (fun _ => rfl) (fun b63 => ?_) (fun b63 => ?_)
          · exfalso; omega
          · refine Ev.steps (k := 1) (pc' := 67) (L' := [Vr (z : Int), Vi (p : Int), Vi 1, Vi (x : Int), Vi ((x + cntT S p true q : Nat) : Int), Vi (q : Int)]) (S' := [Vr (z : Int)]) (h' := ((SHv st dr rd), (ovl a s b))) (fun _ => rfl) ?_
            refine Ev.getr (r := ((z : Int) + 12)) rfl rfl (by omega) (shY_0 hz) rfl rfl rfl ?_
            refine Ev.steps (k := 2) (pc' := 74) (L' := [Vr (z : Int), Vi (p : Int), Vi 1, Vi (x : Int), Vi ((x + cntT S p true q : Nat) : Int), Vi (q : Int)]) (S' := [Vi (q : Int), Vi ((x + cntT S p true q : Nat) : Int), Vr ((z : Int) + 12)]) (h' := ((SHv st dr rd), (ovl a s b))) (fun _ => rfl) ?_
            refine Ev.iast (c' := (ovl (updC a (z + 12) ((x + cntT S p true q)) (q : Int)) s b)) rfl (by omega) (shY_12 hz) (by omega) (by omega) (ovl_wc (by omega)) ?_
            refine Ev.steps (k := 1) (pc' := 78) (L' := [Vr (z : Int), Vi (p : Int), Vi 1, Vi (x : Int), Vi (w32 (((x + cntT S p true q : Nat) : Int) + 1)), Vi (q : Int)]) (S' := []) (h' := ((SHv st dr rd), (ovl (updC a (z + 12) ((x + cntT S p true q)) (q : Int)) s b))) (fun _ => rfl) ?_
            rw [show (w32 (((x + cntT S p true q : Nat) : Int) + 1)) = ((x + cntT S p true (q + 1) : Nat) : Int) from (by rw [hcs]; unfold w32; omega)]
            refine Ev.steps (k := 1) (pc' := 81) (L' := [Vr (z : Int), Vi (p : Int), Vi 1, Vi (x : Int), Vi ((x + cntT S p true (q + 1) : Nat) : Int), Vi (w32 ((q : Int) + 1))]) (S' := []) (h' := ((SHv st dr rd), (ovl (updC a (z + 12) ((x + cntT S p true q)) (q : Int)) s b))) (fun _ => rfl) ?_
            rw [show (w32 ((q : Int) + 1)) = ((q : Int) + 1) from w32_id (by unfold R32; omega)]
            refine Ev.steps (k := 1) (pc' := 6) (L' := [Vr (z : Int), Vi (p : Int), Vi 1, Vi (x : Int), Vi ((x + cntT S p true (q + 1) : Nat) : Int), Vi ((q : Int) + 1)]) (S' := []) (h' := ((SHv st dr rd), (ovl (updC a (z + 12) ((x + cntT S p true q)) (q : Int)) s b))) (fun _ => rfl) ?_
            refine ih _ (by omega) (a := (updC a (z + 12) ((x + cntT S p true q)) (q : Int))) (q + 1) (by omega) (hf.up (by omega)) (fun j hjx => ?_) (fun r hrq ht => ?_) rfl
            · rw [updC_if, if_neg (by omega)]
              exact hj j hjx
            · rw [updC_if]
              by_cases h : r = q
              · rw [h, if_pos rfl]
              · have := cnt_lt (show r < q by omega) ht
                rw [if_neg (by omega)]
                exact hi r (by omega) ht
theorem c_fillTurns_t {X : List Int} {d : Nat} {st dr rd : Int} {a s b : C3} {z : Nat} (hz : hyS z) {S : STY} (hL : nL S ≤ 30) (hc : a (z + 1) 4 = ((nL S : Nat) : Int)) (hr : ∀ r, r < nL S → a (z + 14 + r) 0 = S.1 11 r + 262 ∧ a (z + 14 + r) 1 = S.1 12 r) (hk : ∀ r, r < nL S → 0 ≤ S.1 11 r ∧ S.1 11 r ≤ 5) (p x : Nat) (hx : x + cntT S p true (nL S) ≤ 30) : Ev X d 60 0 [Vr (z : Int), Vi (p : Int), Vi 1, Vi (x : Int), Vx, Vx] [] (SHv st dr rd, ovl a s b) (fun rr hh => rr = some (Vi ((x + cntT S p true (nL S) : Nat) : Int)) ∧ ∃ a' : C3, hh = (SHv st dr rd, ovl a' s b) ∧ FrO (z + 12) (z + 12) a a' ∧ (∀ j, j < x → a' (z + 12) j = a (z + 12) j) ∧ ∀ r, r < nL S → isT S p true r = true → a' (z + 12) (x + cntT S p true r) = (r : Int)) := by
  refine Ev.steps (k := 4) (pc' := 6) (L' := [Vr (z : Int), Vi (p : Int), Vi 1, Vi (x : Int), Vi (x : Int), Vi 0]) (S' := []) (h' := ((SHv st dr rd), (ovl a s b))) (fun _ => rfl) ?_
  exact c_fill_t_l hz hL hc hr hk p x hx 0 (by omega) FrO.rf (fun _ _ => rfl) (fun r h _ => absurd h (by omega))
theorem c_fill_f_l {X : List Int} {d : Nat} {st dr rd : Int} {a s b : C3} {z : Nat} (hz : hyS z) {S : STY} {a0 : C3} (hL : nL S ≤ 30) (hc : a0 (z + 1) 4 = ((nL S : Nat) : Int)) (hr : ∀ r, r < nL S → a0 (z + 14 + r) 0 = S.1 11 r + 262 ∧ a0 (z + 14 + r) 1 = S.1 12 r) (hk : ∀ r, r < nL S → 0 ≤ S.1 11 r ∧ S.1 11 r ≤ 5) (p x : Nat) (hx : x + cntT S p false (nL S) ≤ 30) (q : Nat) (hq : q ≤ nL S) (hf : FrO (z + 12) (z + 12) a0 a) (hj : ∀ j, j < x → a (z + 12) j = a0 (z + 12) j) (hi : ∀ r, r < q → isT S p false r = true → a (z + 12) (x + cntT S p false r) = (r : Int)) : Ev X d 60 6 [Vr (z : Int), Vi (p : Int), Vi 0, Vi (x : Int), Vi ((x + cntT S p false q : Nat) : Int), Vi (q : Int)] [] (SHv st dr rd, ovl a s b) (fun rr hh => rr = some (Vi ((x + cntT S p false (nL S) : Nat) : Int)) ∧ ∃ a' : C3, hh = (SHv st dr rd, ovl a' s b) ∧ FrO (z + 12) (z + 12) a0 a' ∧ (∀ j, j < x → a' (z + 12) j = a0 (z + 12) j) ∧ ∀ r, r < nL S → isT S p false r = true → a' (z + 12) (x + cntT S p false r) = (r : Int)) := by
  induction hkk : (nL S - q) using Nat.strongRecOn generalizing q a with
  | ind kk ih =>
    have hz0 : z = 2 ∨ z = 58 := hz
    have hc1 : a (z + 1) 4 = ((nL S : Nat) : Int) := by rw [hf _ (by omega)]; exact hc
    have hcl := cnt_le (S := S) (p := p) (f := false) (nL S) hq
    refine Ev.steps (k := 2) (pc' := 9) (L' := [Vr (z : Int), Vi (p : Int), Vi 0, Vi (x : Int), Vi ((x + cntT S p false q : Nat) : Int), Vi (q : Int)]) (S' := [Vr (z : Int), Vi (q : Int)]) (h' := ((SHv st dr rd), (ovl a s b))) (fun _ => rfl) ?_
    refine Ev.getr (r := ((z : Int) + 1)) rfl rfl (by omega) (shY_0 hz) rfl rfl rfl ?_
    refine Ev.steps (k := 1) (pc' := 13) (L' := [Vr (z : Int), Vi (p : Int), Vi 0, Vi (x : Int), Vi ((x + cntT S p false q : Nat) : Int), Vi (q : Int)]) (S' := [Vi 4, Vr ((z : Int) + 1), Vi (q : Int)]) (h' := ((SHv st dr rd), (ovl a s b))) (fun _ => rfl) ?_
    refine Ev.iald (v := ((nL S : Nat) : Int)) rfl (by omega) (shY_1 hz) (by omega) (by omega) ((ovl_rc (by omega)).trans (hc1)) ?_
    refine Ev.ite (P := ((nL S : Nat) : Int) ≤ (q : Int)) (k := 1) (a := 84) (b := 17) (L' := [Vr (z : Int), Vi (p : Int), Vi 0, Vi (x : Int), Vi ((x + cntT S p false q : Nat) : Int), Vi (q : Int)]) (S' := []) (h' := ((SHv st dr rd), (ovl a s b))) (fun _ => rfl) (fun b14 => ?_) (fun b14 => ?_)
    · refine Ev.fin (k := 2) (r := (some (Vi ((x + cntT S p false q : Nat) : Int)))) (h' := ((SHv st dr rd), (ovl a s b))) (fun _ => rfl) ?_
      obtain rfl : q = nL S := by omega
      exact ⟨rfl, a, rfl, hf, hj, hi⟩
    · have hr1 : a (z + 14 + q) 0 = S.1 11 q + 262 := by rw [hf _ (by omega)]; exact (hr q (by omega)).1
      have hr2 : a (z + 14 + q) 1 = S.1 12 q := by rw [hf _ (by omega)]; exact (hr q (by omega)).2
      have hk1 := hk q (by omega)
      have hcs := cnt_s (S := S) (p := p) (r := q) (f := false)
      refine Ev.steps (k := 1) (pc' := 18) (L' := [Vr (z : Int), Vi (p : Int), Vi 0, Vi (x : Int), Vi ((x + cntT S p false q : Nat) : Int), Vi (q : Int)]) (S' := [Vr (z : Int)]) (h' := ((SHv st dr rd), (ovl a s b))) (fun _ => rfl) ?_
      refine Ev.getr (r := ((z : Int) + 9)) rfl rfl (by omega) (shY_0 hz) rfl rfl rfl ?_
      refine Ev.steps (k := 1) (pc' := 23) (L' := [Vr (z : Int), Vi (p : Int), Vi 0, Vi (x : Int), Vi ((x + cntT S p false q : Nat) : Int), Vi (q : Int)]) (S' := [Vi (q : Int), Vr ((z : Int) + 9)]) (h' := ((SHv st dr rd), (ovl a s b))) (fun _ => rfl) ?_
      refine Ev.aald (r := ((z + 14 + q : Nat) : Int)) rfl (by omega) (shY_9 hz) rfl (by omega) (by omega) (ruL_at q (by omega)) ?_
      refine Ev.getf (v := (S.1 12 q)) rfl rfl (by omega) (shRu hz (by omega)) rfl rfl ((ovl_rc (by omega)).trans (hr2)) ?_
      refine Ev.ite (P := (S.1 12 q) ≠ (p : Int)) (k := 2) (a := 78) (b := 31) (L' := [Vr (z : Int), Vi (p : Int), Vi 0, Vi (x : Int), Vi ((x + cntT S p false q : Nat) : Int), Vi (q : Int)]) (S' := []) (h' := ((SHv st dr rd), (ovl a s b))) (fun _ => rfl) (fun b28 => ?_) (fun b28 => ?_)
      · refine Ev.steps (k := 1) (pc' := 81) (L' := [Vr (z : Int), Vi (p : Int), Vi 0, Vi (x : Int), Vi ((x + cntT S p false q : Nat) : Int), Vi (w32 ((q : Int) + 1))]) (S' := []) (h' := ((SHv st dr rd), (ovl a s b))) (fun _ => rfl) ?_
        rw [show (w32 ((q : Int) + 1)) = ((q : Int) + 1) from w32_id (by unfold R32; omega)]
        refine Ev.steps (k := 1) (pc' := 6) (L' := [Vr (z : Int), Vi (p : Int), Vi 0, Vi (x : Int), Vi ((x + cntT S p false q : Nat) : Int), Vi ((q : Int) + 1)]) (S' := []) (h' := ((SHv st dr rd), (ovl a s b))) (fun _ => rfl) ?_
        have hT : isT S p false q = false := by
          unfold isT
          first
            | (rw [decide_eq_false (show ¬ S.1 12 q = (p : Int) by omega)]; rfl)
            | (rw [decide_eq_true (show S.1 11 q = 4 by omega), Bool.and_eq_false_iff]; exact Or.inr rfl)
            | (rw [decide_eq_false (show ¬ S.1 11 q = 4 by omega), Bool.and_eq_false_iff]; exact Or.inr rfl)
        rw [if_neg (by rw [hT]; decide)] at hcs
        have hcs2 : cntT S p false q = cntT S p false (q + 1) := hcs.symm
        rw [hcs2]
        refine ih _ (by omega) (q + 1) (by omega) hf hj (fun r hrq ht => ?_) rfl
        by_cases h : r = q
        · rw [h, hT] at ht
          exact absurd ht (by decide)
        · exact hi r (by omega) ht
      · refine Ev.steps (k := 1) (pc' := 32) (L' := [Vr (z : Int), Vi (p : Int), Vi 0, Vi (x : Int), Vi ((x + cntT S p false q : Nat) : Int), Vi (q : Int)]) (S' := [Vr (z : Int)]) (h' := ((SHv st dr rd), (ovl a s b))) (fun _ => rfl) ?_
        refine Ev.getr (r := ((z : Int) + 9)) rfl rfl (by omega) (shY_0 hz) rfl rfl rfl ?_
        refine Ev.steps (k := 1) (pc' := 37) (L' := [Vr (z : Int), Vi (p : Int), Vi 0, Vi (x : Int), Vi ((x + cntT S p false q : Nat) : Int), Vi (q : Int)]) (S' := [Vi (q : Int), Vr ((z : Int) + 9)]) (h' := ((SHv st dr rd), (ovl a s b))) (fun _ => rfl) ?_
        refine Ev.aald (r := ((z + 14 + q : Nat) : Int)) rfl (by omega) (shY_9 hz) rfl (by omega) (by omega) (ruL_at q (by omega)) ?_
        refine Ev.getf (v := ((S.1 11 q) + 262)) rfl rfl (by omega) (shRu hz (by omega)) rfl rfl ((ovl_rc (by omega)).trans (hr1)) ?_
        refine Ev.ite (P := ((S.1 11 q) + 262) ≠ 266) (k := 2) (a := 51) (b := 47) (L' := [Vr (z : Int), Vi (p : Int), Vi 0, Vi (x : Int), Vi ((x + cntT S p false q : Nat) : Int), Vi (q : Int)]) (S' := []) (h' := ((SHv st dr rd), (ovl a s b))) (fun _ => rfl) (fun b44 => ?_) (fun b44 => ?_)
        · refine Ev.steps (k := 3) (pc' := 56) (L' := [Vr (z : Int), Vi (p : Int), Vi 0, Vi (x : Int), Vi ((x + cntT S p false q : Nat) : Int), Vi (q : Int)]) (S' := []) (h' := ((SHv st dr rd), (ovl a s b))) (fun _ => rfl) ?_
          have hT : isT S p false q = true := by
            unfold isT
            rw [decide_eq_true (show S.1 12 q = (p : Int) by omega)]
            first
              | (rw [decide_eq_true (show S.1 11 q = 4 by omega)]; rfl)
              | (rw [decide_eq_false (show ¬ S.1 11 q = 4 by omega)]; rfl)
          have hlt := cnt_lt (show q < nL S by omega) hT
          rw [if_pos hT] at hcs
          refine Ev.steps (k := 2) (pc' := 59) (L' := [Vr (z : Int), Vi (p : Int), Vi 0, Vi (x : Int), Vi ((x + cntT S p false q : Nat) : Int), Vi (q : Int)]) (S' := [Vr (z : Int), Vi ((x + cntT S p false q : Nat) : Int)]) (h' := ((SHv st dr rd), (ovl a s b))) (fun _ => rfl) ?_
          refine Ev.getr (r := ((z : Int) + 12)) rfl rfl (by omega) (shY_0 hz) rfl rfl rfl ?_
          refine Ev.alen (v := 30) rfl (by omega) (shY_12 hz) rfl rfl ?_
          refine Ev.ite (P := 30 ≤ ((x + cntT S p false q : Nat) : Int)) (k := 1) (a := 78) (b := 66) (L' := [Vr (z : Int), Vi (p : Int), Vi 0, Vi (x : Int), Vi ((x + cntT S p false q : Nat) : Int), Vi (q : Int)]) (S' := []) (h' := ((SHv st dr rd), (ovl a s b))) (fun _ => rfl) (fun b63 => ?_) (fun b63 => ?_)
          · exfalso; omega
          · refine Ev.steps (k := 1) (pc' := 67) (L' := [Vr (z : Int), Vi (p : Int), Vi 0, Vi (x : Int), Vi ((x + cntT S p false q : Nat) : Int), Vi (q : Int)]) (S' := [Vr (z : Int)]) (h' := ((SHv st dr rd), (ovl a s b))) (fun _ => rfl) ?_
            refine Ev.getr (r := ((z : Int) + 12)) rfl rfl (by omega) (shY_0 hz) rfl rfl rfl ?_
            refine Ev.steps (k := 2) (pc' := 74) (L' := [Vr (z : Int), Vi (p : Int), Vi 0, Vi (x : Int), Vi ((x + cntT S p false q : Nat) : Int), Vi (q : Int)]) (S' := [Vi (q : Int), Vi ((x + cntT S p false q : Nat) : Int), Vr ((z : Int) + 12)]) (h' := ((SHv st dr rd), (ovl a s b))) (fun _ => rfl) ?_
            refine Ev.iast (c' := (ovl (updC a (z + 12) ((x + cntT S p false q)) (q : Int)) s b)) rfl (by omega) (shY_12 hz) (by omega) (by omega) (ovl_wc (by omega)) ?_
            refine Ev.steps (k := 1) (pc' := 78) (L' := [Vr (z : Int), Vi (p : Int), Vi 0, Vi (x : Int), Vi (w32 (((x + cntT S p false q : Nat) : Int) + 1)), Vi (q : Int)]) (S' := []) (h' := ((SHv st dr rd), (ovl (updC a (z + 12) ((x + cntT S p false q)) (q : Int)) s b))) (fun _ => rfl) ?_
            rw [show (w32 (((x + cntT S p false q : Nat) : Int) + 1)) = ((x + cntT S p false (q + 1) : Nat) : Int) from (by rw [hcs]; unfold w32; omega)]
            refine Ev.steps (k := 1) (pc' := 81) (L' := [Vr (z : Int), Vi (p : Int), Vi 0, Vi (x : Int), Vi ((x + cntT S p false (q + 1) : Nat) : Int), Vi (w32 ((q : Int) + 1))]) (S' := []) (h' := ((SHv st dr rd), (ovl (updC a (z + 12) ((x + cntT S p false q)) (q : Int)) s b))) (fun _ => rfl) ?_
            rw [show (w32 ((q : Int) + 1)) = ((q : Int) + 1) from w32_id (by unfold R32; omega)]
            refine Ev.steps (k := 1) (pc' := 6) (L' := [Vr (z : Int), Vi (p : Int), Vi 0, Vi (x : Int), Vi ((x + cntT S p false (q + 1) : Nat) : Int), Vi ((q : Int) + 1)]) (S' := []) (h' := ((SHv st dr rd), (ovl (updC a (z + 12) ((x + cntT S p false q)) (q : Int)) s b))) (fun _ => rfl) ?_
            refine ih _ (by omega) (a := (updC a (z + 12) ((x + cntT S p false q)) (q : Int))) (q + 1) (by omega) (hf.up (by omega)) (fun j hjx => ?_) (fun r hrq ht => ?_) rfl
            · rw [updC_if, if_neg (by omega)]
              exact hj j hjx
            · rw [updC_if]
              by_cases h : r = q
              · rw [h, if_pos rfl]
              · have := cnt_lt (show r < q by omega) ht
                rw [if_neg (by omega)]
                exact hi r (by omega) ht
        · refine Ev.steps (k := 5) (pc' := 81) (L' := [Vr (z : Int), Vi (p : Int), Vi 0, Vi (x : Int), Vi ((x + cntT S p false q : Nat) : Int), Vi (w32 ((q : Int) + 1))]) (S' := []) (h' := ((SHv st dr rd), (ovl a s b))) (fun _ => rfl) ?_
          rw [show (w32 ((q : Int) + 1)) = ((q : Int) + 1) from w32_id (by unfold R32; omega)]
          refine Ev.steps (k := 1) (pc' := 6) (L' := [Vr (z : Int), Vi (p : Int), Vi 0, Vi (x : Int), Vi ((x + cntT S p false q : Nat) : Int), Vi ((q : Int) + 1)]) (S' := []) (h' := ((SHv st dr rd), (ovl a s b))) (fun _ => rfl) ?_
          have hT : isT S p false q = false := by
            unfold isT
            first
              | (rw [decide_eq_false (show ¬ S.1 12 q = (p : Int) by omega)]; rfl)
              | (rw [decide_eq_true (show S.1 11 q = 4 by omega), Bool.and_eq_false_iff]; exact Or.inr rfl)
              | (rw [decide_eq_false (show ¬ S.1 11 q = 4 by omega), Bool.and_eq_false_iff]; exact Or.inr rfl)
          rw [if_neg (by rw [hT]; decide)] at hcs
          have hcs2 : cntT S p false q = cntT S p false (q + 1) := hcs.symm
          rw [hcs2]
          refine ih _ (by omega) (q + 1) (by omega) hf hj (fun r hrq ht => ?_) rfl
          by_cases h : r = q
          · rw [h, hT] at ht
            exact absurd ht (by decide)
          · exact hi r (by omega) ht
theorem c_fillTurns_f {X : List Int} {d : Nat} {st dr rd : Int} {a s b : C3} {z : Nat} (hz : hyS z) {S : STY} (hL : nL S ≤ 30) (hc : a (z + 1) 4 = ((nL S : Nat) : Int)) (hr : ∀ r, r < nL S → a (z + 14 + r) 0 = S.1 11 r + 262 ∧ a (z + 14 + r) 1 = S.1 12 r) (hk : ∀ r, r < nL S → 0 ≤ S.1 11 r ∧ S.1 11 r ≤ 5) (p x : Nat) (hx : x + cntT S p false (nL S) ≤ 30) : Ev X d 60 0 [Vr (z : Int), Vi (p : Int), Vi 0, Vi (x : Int), Vx, Vx] [] (SHv st dr rd, ovl a s b) (fun rr hh => rr = some (Vi ((x + cntT S p false (nL S) : Nat) : Int)) ∧ ∃ a' : C3, hh = (SHv st dr rd, ovl a' s b) ∧ FrO (z + 12) (z + 12) a a' ∧ (∀ j, j < x → a' (z + 12) j = a (z + 12) j) ∧ ∀ r, r < nL S → isT S p false r = true → a' (z + 12) (x + cntT S p false r) = (r : Int)) := by
  refine Ev.steps (k := 4) (pc' := 6) (L' := [Vr (z : Int), Vi (p : Int), Vi 0, Vi (x : Int), Vi (x : Int), Vi 0]) (S' := []) (h' := ((SHv st dr rd), (ovl a s b))) (fun _ => rfl) ?_
  exact c_fill_f_l hz hL hc hr hk p x hx 0 (by omega) FrO.rf (fun _ _ => rfl) (fun r h _ => absurd h (by omega))
