/-! THE CLASS READS: names, numbers, signs -/
def ResC {α : Type} (x : Except PF α) (K : α → Prop) (B : PF → Prop) : Prop := (∃ r, x = .ok r ∧ K r) ∨ (∃ e, x = .error e ∧ B e)
theorem bnX_o {α β : Type} {a : α} {f : α → Except PF β} : bnX (.ok a) f = f a := rfl
theorem bnX_e {α β : Type} {e : PF} {f : α → Except PF β} : bnX (.error e) f = .error e := rfl
def ixN (kd : Nat) : Nat := if kd = 0 then 0 else kd + 1
/-- the names that are told so far lie at z -/
def NmC (N : SC) (a : SC) (z : Nat) : Prop := ∀ kd, kd < 3 → cntN N kd ≤ 8 ∧ a (z + 1) (ixN kd) = ((cntN N kd : Nat) : Int) ∧ ∀ k, k < cntN N kd → 0 ≤ N (1 + kd) k ∧ vdN 6 (N (1 + kd) k).toNat ∧ a (z + 2) (8 * ixN kd + k) = ((cvF (N (1 + kd) k).toNat 6 : Nat) : Int)
theorem NmC.fo {N a a' : SC} {z : Nat} (h : NmC N a z) (h1 : a' (z + 1) = a (z + 1)) (h2 : a' (z + 2) = a (z + 2)) : NmC N a' z := by
  unfold NmC at h ⊢
  rw [h1, h2]
  exact h
abbrev OkT (W : TXT) (a : SC) (p1 : Nat) (a' : SC) : Prop := FrO 114 114 a a' ∧ a' 114 8 = a 114 8 ∧ TkC W p1 a'
abbrev BdT (W : TXT) (a : SC) (e : PF) (a' : SC) : Prop := FrO 114 114 a a' ∧ BaC W a' ∧ BrC e a'
def nmI (N : SC) (kd w : Nat) : Int := if nmd N kd w < cntN N kd then ((nmd N kd w : Nat) : Int) else -1
theorem nm_iff {N a : SC} {z kd w k : Nat} (h : NmC N a z) (hkd : kd < 3) (hw : vdN 6 w) (hk : k < cntN N kd) : a (z + 2) (8 * ixN kd + k) = ((cvF w 6 : Nat) : Int) ↔ N (1 + kd) k = (w : Int) := by
  obtain ⟨h1, h2, h3⟩ := (h kd hkd).2.2 k hk
  rw [h3]
  constructor
  · intro g
    have := cvF_inj 6 _ _ h2 hw (Int.ofNat_inj.mp g)
    omega
  · intro g
    rw [g, Int.toNat_natCast]
theorem c_named_l {X : List Int} {d : Nat} {st dr rd : Int} {a s b : C3} {z : Nat} (hz : hyS z) {N : SC} {kd q w : Nat} (hkd : kd < 3) (hq : q = ixN kd) (hw : vdN 6 w) (hN : NmC N a z) (i : Nat) (hi : i ≤ cntN N kd) (hm : ∀ j, j < i → N (1 + kd) j ≠ (w : Int)) : Ev X d 35 2 [Vr (z : Int), Vi (q : Int), Vi ((cvF w 6 : Nat) : Int), Vi (i : Int)] [] (SHv st dr rd, ovl a s b) (fun rr hh => rr = some (Vi (nmI N kd w)) ∧ hh = (SHv st dr rd, ovl a s b)) := by
  induction hk : (cntN N kd - i) using Nat.strongRecOn generalizing i with
  | ind k ih =>
    have hz0 : z = 2 ∨ z = 58 := hz
    have hc := hN kd hkd
    have hc8 := hc.1
    have hcc : a (z + 1) q = ((cntN N kd : Nat) : Int) := by rw [hq]; exact hc.2.1
    have hq4 : q < 6 := by
      rw [hq]
      unfold ixN
      split <;> omega
    have hnm : ∀ k, k < cntN N kd → (a (z + 2) (q * 8 + k) = ((cvF w 6 : Nat) : Int) ↔ N (1 + kd) k = (w : Int)) := fun k hk => by
      rw [hq, Nat.mul_comm]
      exact nm_iff hN hkd hw hk
    clear hc hq hN
    refine Ev.steps (k := 2) (pc' := 4) (L' := [Vr (z : Int), Vi (q : Int), Vi ((cvF w 6 : Nat) : Int), Vi (i : Int)]) (S' := [Vr (z : Int), Vi (i : Int)]) (h' := ((SHv st dr rd), (ovl a s b))) (fun _ => rfl) ?_
    refine Ev.getr (r := ((z : Int) + 1)) rfl rfl (by omega) (shY_0 hz) rfl rfl rfl ?_
    refine Ev.steps (k := 1) (pc' := 8) (L' := [Vr (z : Int), Vi (q : Int), Vi ((cvF w 6 : Nat) : Int), Vi (i : Int)]) (S' := [Vi (q : Int), Vr ((z : Int) + 1), Vi (i : Int)]) (h' := ((SHv st dr rd), (ovl a s b))) (fun _ => rfl) ?_
    refine Ev.iald (v := ((cntN N kd : Nat) : Int)) rfl (by omega) (shY_1 hz) (by omega) (by omega) ((ovl_rc (by omega)).trans (hcc)) ?_
    refine Ev.ite (P := ((cntN N kd : Nat) : Int) ≤ (i : Int)) (k := 1) (a := 41) (b := 12) (L' := [Vr (z : Int), Vi (q : Int), Vi ((cvF w 6 : Nat) : Int), Vi (i : Int)]) (S' := []) (h' := ((SHv st dr rd), (ovl a s b))) (fun _ => rfl) (fun b9 => ?_) (fun b9 => ?_)
    · refine Ev.fin (k := 2) (r := (some (Vi (-1)))) (h' := ((SHv st dr rd), (ovl a s b))) (fun _ => rfl) ?_
      refine ⟨?_, rfl⟩
      have e : nmd N kd w = cntN N kd := lst_no (fun j hj => decide_eq_false (hm j (by omega)))
      unfold nmI
      rw [e, if_neg (by omega)]
    · refine Ev.ite (P := 8 ≤ (i : Int)) (k := 3) (a := 41) (b := 18) (L' := [Vr (z : Int), Vi (q : Int), Vi ((cvF w 6 : Nat) : Int), Vi (i : Int)]) (S' := []) (h' := ((SHv st dr rd), (ovl a s b))) (fun _ => rfl) (fun b15 => ?_) (fun b15 => ?_)
      · exfalso; omega
      · refine Ev.steps (k := 1) (pc' := 19) (L' := [Vr (z : Int), Vi (q : Int), Vi ((cvF w 6 : Nat) : Int), Vi (i : Int)]) (S' := [Vr (z : Int)]) (h' := ((SHv st dr rd), (ovl a s b))) (fun _ => rfl) ?_
        refine Ev.getr (r := ((z : Int) + 2)) rfl rfl (by omega) (shY_0 hz) rfl rfl rfl ?_
        refine Ev.steps (k := 3) (pc' := 26) (L' := [Vr (z : Int), Vi (q : Int), Vi ((cvF w 6 : Nat) : Int), Vi (i : Int)]) (S' := [Vi (w32 ((q : Int) * 8)), Vr ((z : Int) + 2)]) (h' := ((SHv st dr rd), (ovl a s b))) (fun _ => rfl) ?_
        rw [show (w32 ((q : Int) * 8)) = ((q : Int) * 8) from w32_id (by unfold R32; omega)]
        refine Ev.steps (k := 2) (pc' := 28) (L' := [Vr (z : Int), Vi (q : Int), Vi ((cvF w 6 : Nat) : Int), Vi (i : Int)]) (S' := [Vi (w32 (((q : Int) * 8) + (i : Int))), Vr ((z : Int) + 2)]) (h' := ((SHv st dr rd), (ovl a s b))) (fun _ => rfl) ?_
        rw [show (w32 (((q : Int) * 8) + (i : Int))) = (((q : Int) * 8) + (i : Int)) from w32_id (by unfold R32; omega)]
        refine Ev.iald (v := (a (z + 2) ((q * 8 + i)))) rfl (by omega) (shY_2 hz) (by omega) (by omega) (ovl_rc (by omega)) ?_
        refine Ev.ite (P := (a (z + 2) ((q * 8 + i))) ≠ ((cvF w 6 : Nat) : Int)) (k := 2) (a := 35) (b := 33) (L' := [Vr (z : Int), Vi (q : Int), Vi ((cvF w 6 : Nat) : Int), Vi (i : Int)]) (S' := []) (h' := ((SHv st dr rd), (ovl a s b))) (fun _ => rfl) (fun b30 => ?_) (fun b30 => ?_)
        · have b30 := b30
          refine Ev.steps (k := 1) (pc' := 38) (L' := [Vr (z : Int), Vi (q : Int), Vi ((cvF w 6 : Nat) : Int), Vi (w32 ((i : Int) + 1))]) (S' := []) (h' := ((SHv st dr rd), (ovl a s b))) (fun _ => rfl) ?_
          rw [show (w32 ((i : Int) + 1)) = ((i : Int) + 1) from w32_id (by unfold R32; omega)]
          refine Ev.steps (k := 1) (pc' := 2) (L' := [Vr (z : Int), Vi (q : Int), Vi ((cvF w 6 : Nat) : Int), Vi ((i : Int) + 1)]) (S' := []) (h' := ((SHv st dr rd), (ovl a s b))) (fun _ => rfl) ?_
          refine ih _ (by omega) (i + 1) (by omega) (fun j hj => ?_) rfl
          by_cases h : j = i
          · rw [h]
            exact fun g => b30 ((hnm i (by omega)).mpr g)
          · exact hm j (by omega)
        · have b30 := (hnm i (by omega)).mp (Classical.not_not.mp b30)
          refine Ev.fin (k := 2) (r := (some (Vi (i : Int)))) (h' := ((SHv st dr rd), (ovl a s b))) (fun _ => rfl) ?_
          refine ⟨?_, rfl⟩
          have e : nmd N kd w = i := lst_eq (decide_eq_true b30) (fun j hj => decide_eq_false (hm j hj)) (by omega)
          unfold nmI
          rw [e, if_pos (by omega)]
theorem c_named {X : List Int} {d : Nat} {st dr rd : Int} {a s b : C3} {z : Nat} (hz : hyS z) {N : SC} {kd q w : Nat} (hkd : kd < 3) (hq : q = ixN kd) (hw : vdN 6 w) (hN : NmC N a z) : Ev X d 35 0 [Vr (z : Int), Vi (q : Int), Vi ((cvF w 6 : Nat) : Int), Vx] [] (SHv st dr rd, ovl a s b) (fun rr hh => rr = some (Vi (nmI N kd w)) ∧ hh = (SHv st dr rd, ovl a s b)) := by
  refine Ev.steps (k := 2) (pc' := 2) (L' := [Vr (z : Int), Vi (q : Int), Vi ((cvF w 6 : Nat) : Int), Vi 0]) (S' := []) (h' := ((SHv st dr rd), (ovl a s b))) (fun _ => rfl) ?_
  exact c_named_l hz hkd hq hw hN 0 (by omega) (fun j hj => absurd hj (by omega))
theorem nmI_ne {N : SC} {kd w : Nat} : nmI N kd w ≠ -1 ↔ nmd N kd w < cntN N kd := by
  unfold nmI
  split
  · next h => exact ⟨fun _ => h, fun _ => by omega⟩
  · next h => exact ⟨fun g => absurd rfl g, fun g => absurd g h⟩
theorem c_hasName {X : List Int} {d : Nat} {st dr rd : Int} {a s b : C3} {z : Nat} (hz : hyS z) {N : SC} {w : Nat} (hw : vdN 6 w) (hN : NmC N a z) : Ev X (d + 1) 34 0 [Vr (z : Int), Vi ((cvF w 6 : Nat) : Int)] [] (SHv st dr rd, ovl a s b) (fun rr hh => rr = some (Vi (if hasN N w then 1 else 0)) ∧ hh = (SHv st dr rd, ovl a s b)) := by
  refine Ev.call (k := 3) (pc1 := 3) (L1 := [Vr (z : Int), Vi ((cvF w 6 : Nat) : Int)]) (S1 := [Vi ((cvF w 6 : Nat) : Int), Vi 0, Vr (z : Int)]) (h1 := ((SHv st dr rd), (ovl a s b))) (m' := 35) (as := [Vr (z : Int), Vi 0, Vi ((cvF w 6 : Nat) : Int)]) (S' := []) (L0 := [Vr (z : Int), Vi 0, Vi ((cvF w 6 : Nat) : Int), Vx]) (fun _ => rfl) rfl rfl rfl rfl (stpC_of rfl (pm_recv_of (by omega) (shY_0 hz))) rfl (c_named hz (q := 0) (kd := 0) (by decide) rfl hw hN) (fun r h' hq => ?_)
  obtain ⟨rfl, rfl⟩ := hq
  show Ev X _ _ 6 [Vr (z : Int), Vi ((cvF w 6 : Nat) : Int)] [Vi (nmI N 0 w)] ((SHv st dr rd), (ovl a s b)) _
  refine Ev.ite (P := (nmI N 0 w) ≠ (-1)) (k := 2) (a := 30) (b := 10) (L' := [Vr (z : Int), Vi ((cvF w 6 : Nat) : Int)]) (S' := []) (h' := ((SHv st dr rd), (ovl a s b))) (fun _ => rfl) (fun b7 => ?_) (fun b7 => ?_)
  · rw [nmI_ne] at b7
    refine Ev.fin (k := 3) (r := (some (Vi 1))) (h' := ((SHv st dr rd), (ovl a s b))) (fun _ => rfl) ?_
    refine ⟨?_, rfl⟩
    first
      | (rw [if_pos (Or.inl b7)]; done)
      | (rw [if_pos (Or.inr (Or.inl b17))]; done)
      | (rw [if_pos (Or.inr (Or.inr b27))]; done)
      | (rw [if_neg (fun h => h.elim b7 (fun h => h.elim b17 b27))]; done)
  · rw [nmI_ne] at b7
    refine Ev.call (k := 3) (pc1 := 13) (L1 := [Vr (z : Int), Vi ((cvF w 6 : Nat) : Int)]) (S1 := [Vi ((cvF w 6 : Nat) : Int), Vi 2, Vr (z : Int)]) (h1 := ((SHv st dr rd), (ovl a s b))) (m' := 35) (as := [Vr (z : Int), Vi 2, Vi ((cvF w 6 : Nat) : Int)]) (S' := []) (L0 := [Vr (z : Int), Vi 2, Vi ((cvF w 6 : Nat) : Int), Vx]) (fun _ => rfl) rfl rfl rfl rfl (stpC_of rfl (pm_recv_of (by omega) (shY_0 hz))) rfl (c_named hz (q := 2) (kd := 1) (by decide) rfl hw hN) (fun r h' hq => ?_)
    obtain ⟨rfl, rfl⟩ := hq
    show Ev X _ _ 16 [Vr (z : Int), Vi ((cvF w 6 : Nat) : Int)] [Vi (nmI N 1 w)] ((SHv st dr rd), (ovl a s b)) _
    refine Ev.ite (P := (nmI N 1 w) ≠ (-1)) (k := 2) (a := 30) (b := 20) (L' := [Vr (z : Int), Vi ((cvF w 6 : Nat) : Int)]) (S' := []) (h' := ((SHv st dr rd), (ovl a s b))) (fun _ => rfl) (fun b17 => ?_) (fun b17 => ?_)
    · rw [nmI_ne] at b17
      refine Ev.fin (k := 3) (r := (some (Vi 1))) (h' := ((SHv st dr rd), (ovl a s b))) (fun _ => rfl) ?_
      refine ⟨?_, rfl⟩
      first
        | (rw [if_pos (Or.inl b7)]; done)
        | (rw [if_pos (Or.inr (Or.inl b17))]; done)
        | (rw [if_pos (Or.inr (Or.inr b27))]; done)
        | (rw [if_neg (fun h => h.elim b7 (fun h => h.elim b17 b27))]; done)
    · rw [nmI_ne] at b17
      refine Ev.call (k := 3) (pc1 := 23) (L1 := [Vr (z : Int), Vi ((cvF w 6 : Nat) : Int)]) (S1 := [Vi ((cvF w 6 : Nat) : Int), Vi 3, Vr (z : Int)]) (h1 := ((SHv st dr rd), (ovl a s b))) (m' := 35) (as := [Vr (z : Int), Vi 3, Vi ((cvF w 6 : Nat) : Int)]) (S' := []) (L0 := [Vr (z : Int), Vi 3, Vi ((cvF w 6 : Nat) : Int), Vx]) (fun _ => rfl) rfl rfl rfl rfl (stpC_of rfl (pm_recv_of (by omega) (shY_0 hz))) rfl (c_named hz (q := 3) (kd := 2) (by decide) rfl hw hN) (fun r h' hq => ?_)
      obtain ⟨rfl, rfl⟩ := hq
      show Ev X _ _ 26 [Vr (z : Int), Vi ((cvF w 6 : Nat) : Int)] [Vi (nmI N 2 w)] ((SHv st dr rd), (ovl a s b)) _
      refine Ev.ite (P := (nmI N 2 w) = (-1)) (k := 2) (a := 34) (b := 30) (L' := [Vr (z : Int), Vi ((cvF w 6 : Nat) : Int)]) (S' := []) (h' := ((SHv st dr rd), (ovl a s b))) (fun _ => rfl) (fun b27 => ?_) (fun b27 => ?_)
      · rw [← Classical.not_not (a := nmI N 2 w = -1), ← ne_eq, nmI_ne] at b27
        refine Ev.fin (k := 2) (r := (some (Vi 0))) (h' := ((SHv st dr rd), (ovl a s b))) (fun _ => rfl) ?_
        refine ⟨?_, rfl⟩
        first
          | (rw [if_pos (Or.inl b7)]; done)
          | (rw [if_pos (Or.inr (Or.inl b17))]; done)
          | (rw [if_pos (Or.inr (Or.inr b27))]; done)
          | (rw [if_neg (fun h => h.elim b7 (fun h => h.elim b17 b27))]; done)
      · rw [← ne_eq, nmI_ne] at b27
        refine Ev.fin (k := 3) (r := (some (Vi 1))) (h' := ((SHv st dr rd), (ovl a s b))) (fun _ => rfl) ?_
        refine ⟨?_, rfl⟩
        first
          | (rw [if_pos (Or.inl b7)]; done)
          | (rw [if_pos (Or.inr (Or.inl b17))]; done)
          | (rw [if_pos (Or.inr (Or.inr b27))]; done)
          | (rw [if_neg (fun h => h.elim b7 (fun h => h.elim b17 b27))]; done)
theorem c_giveName {X : List Int} {d : Nat} {st dr rd : Int} {a s b : C3} {z : Nat} (hz : hyS z) {q n : Nat} (hq : q < 6) (hn : n < 8) (hc : a (z + 1) q = (n : Int)) (w : Int) : Ev X d 36 0 [Vr (z : Int), Vi (q : Int), Vi w] [] (SHv st dr rd, ovl a s b) (fun rr hh => rr = none ∧ hh = (SHv st dr rd, ovl (updC a (z + 2) (q * 8 + n) w) s b)) := by
  have hz0 : z = 2 ∨ z = 58 := hz
  refine Ev.steps (k := 1) (pc' := 1) (L' := [Vr (z : Int), Vi (q : Int), Vi w]) (S' := [Vr (z : Int)]) (h' := ((SHv st dr rd), (ovl a s b))) (fun _ => rfl) ?_
  refine Ev.getr (r := ((z : Int) + 1)) rfl rfl (by omega) (shY_0 hz) rfl rfl rfl ?_
  refine Ev.steps (k := 1) (pc' := 5) (L' := [Vr (z : Int), Vi (q : Int), Vi w]) (S' := [Vi (q : Int), Vr ((z : Int) + 1)]) (h' := ((SHv st dr rd), (ovl a s b))) (fun _ => rfl) ?_
  refine Ev.iald (v := (n : Int)) rfl (by omega) (shY_1 hz) (by omega) (by omega) ((ovl_rc (by omega)).trans (hc)) ?_
  refine Ev.ite (P := 8 ≤ (n : Int)) (k := 2) (a := 28) (b := 11) (L' := [Vr (z : Int), Vi (q : Int), Vi w]) (S' := []) (h' := ((SHv st dr rd), (ovl a s b))) (fun _ => rfl) (fun b8 => ?_) (fun b8 => ?_)
  · exfalso; omega
  · refine Ev.steps (k := 1) (pc' := 12) (L' := [Vr (z : Int), Vi (q : Int), Vi w]) (S' := [Vr (z : Int)]) (h' := ((SHv st dr rd), (ovl a s b))) (fun _ => rfl) ?_
    refine Ev.getr (r := ((z : Int) + 2)) rfl rfl (by omega) (shY_0 hz) rfl rfl rfl ?_
    refine Ev.steps (k := 3) (pc' := 19) (L' := [Vr (z : Int), Vi (q : Int), Vi w]) (S' := [Vi (w32 ((q : Int) * 8)), Vr ((z : Int) + 2)]) (h' := ((SHv st dr rd), (ovl a s b))) (fun _ => rfl) ?_
    rw [show (w32 ((q : Int) * 8)) = ((q : Int) * 8) from w32_id (by unfold R32; omega)]
    refine Ev.steps (k := 1) (pc' := 20) (L' := [Vr (z : Int), Vi (q : Int), Vi w]) (S' := [Vr (z : Int), Vi ((q : Int) * 8), Vr ((z : Int) + 2)]) (h' := ((SHv st dr rd), (ovl a s b))) (fun _ => rfl) ?_
    refine Ev.getr (r := ((z : Int) + 1)) rfl rfl (by omega) (shY_0 hz) rfl rfl rfl ?_
    refine Ev.steps (k := 1) (pc' := 24) (L' := [Vr (z : Int), Vi (q : Int), Vi w]) (S' := [Vi (q : Int), Vr ((z : Int) + 1), Vi ((q : Int) * 8), Vr ((z : Int) + 2)]) (h' := ((SHv st dr rd), (ovl a s b))) (fun _ => rfl) ?_
    refine Ev.iald (v := (n : Int)) rfl (by omega) (shY_1 hz) (by omega) (by omega) ((ovl_rc (by omega)).trans (hc)) ?_
    refine Ev.steps (k := 1) (pc' := 26) (L' := [Vr (z : Int), Vi (q : Int), Vi w]) (S' := [Vi (w32 (((q : Int) * 8) + (n : Int))), Vr ((z : Int) + 2)]) (h' := ((SHv st dr rd), (ovl a s b))) (fun _ => rfl) ?_
    rw [show (w32 (((q : Int) * 8) + (n : Int))) = (((q : Int) * 8) + (n : Int)) from w32_id (by unfold R32; omega)]
    refine Ev.steps (k := 1) (pc' := 27) (L' := [Vr (z : Int), Vi (q : Int), Vi w]) (S' := [Vi w, Vi (((q : Int) * 8) + (n : Int)), Vr ((z : Int) + 2)]) (h' := ((SHv st dr rd), (ovl a s b))) (fun _ => rfl) ?_
    refine Ev.iast (c' := (ovl (updC a (z + 2) ((q * 8 + n)) w) s b)) rfl (by omega) (shY_2 hz) (by omega) (by omega) (ovl_wc (by omega)) ?_
    refine Ev.fin (k := 1) (r := none) (h' := ((SHv st dr rd), (ovl (updC a (z + 2) ((q * 8 + n)) w) s b))) (fun _ => rfl) ?_
    exact ⟨rfl, rfl⟩
theorem em_or {t o : Nat} (ht : t < 512) (ho : o < 4194304) : i_or (t : Int) (i_shl (o : Int) 9) = ((t + 512 * o : Nat) : Int) := by
  rw [show (9 : Int) = ((9 : Nat) : Int) from rfl, i_shl_nat (by omega) (by omega), i_or_nat (by omega) (by omega)]
  have := Nat.two_pow_add_eq_or_of_lt (i := 9) ht o
  rw [Nat.or_comm, show o * 2 ^ 9 = 2 ^ 9 * o by omega, ← this]
  congr 1
  omega
abbrev CdB (a : SC) (z : Nat) : Prop := 0 ≤ a z 9 ∧ a z 9 ≤ 1200
/-- what may change while a sum or a test is read -/
def FrZ (z : Nat) (a a' : SC) : Prop := ∀ o, o ≠ 114 → o ≠ z → o ≠ z + 11 → a' o = a o
theorem FrZ.rf {z : Nat} {a : SC} : FrZ z a a := fun _ _ _ _ => rfl
theorem FrZ.tr {z : Nat} {a b c : SC} (h : FrZ z a b) (h' : FrZ z b c) : FrZ z a c := fun o h1 h2 h3 => (h' o h1 h2 h3).trans (h o h1 h2 h3)
theorem FrO.z {z : Nat} {a b : SC} (h : FrO 114 114 a b) : FrZ z a b := fun o h1 _ _ => h o (by omega)
theorem FrZ.up {z : Nat} {a b : SC} {o i : Nat} {v : Int} (h : FrZ z a b) (ho : o = 114 ∨ o = z ∨ o = z + 11) : FrZ z a (updC b o i v) := fun o' h1 h2 h3 => by
  rw [updC_row (by omega)]
  exact h o' h1 h2 h3
theorem c_emit {X : List Int} {d : Nat} {st dr rd : Int} {a s b : C3} {z : Nat} (hz : hyS z) {c : Nat} (hc : a z 9 = (c : Int)) (h12 : c < 1200) (t o : Nat) (ht : t < 512) (ho : o < 4194304) : Ev X d 49 0 [Vr (z : Int), Vi (t : Int), Vi (o : Int)] [] (SHv st dr rd, ovl a s b) (fun rr hh => rr = some (Vi (c : Int)) ∧ hh = (SHv st dr rd, ovl (updC (updC a (z + 11) c ((t + 512 * o : Nat) : Int)) z 9 ((c : Int) + 1)) s b)) := by
  have hz0 : z = 2 ∨ z = 58 := hz
  refine Ev.steps (k := 1) (pc' := 1) (L' := [Vr (z : Int), Vi (t : Int), Vi (o : Int)]) (S' := [Vr (z : Int)]) (h' := ((SHv st dr rd), (ovl a s b))) (fun _ => rfl) ?_
  refine Ev.getf (v := (c : Int)) rfl rfl (by omega) (shY_0 hz) rfl rfl ((ovl_rc (by omega)).trans (hc)) ?_
  refine Ev.steps (k := 1) (pc' := 5) (L' := [Vr (z : Int), Vi (t : Int), Vi (o : Int)]) (S' := [Vr (z : Int), Vi (c : Int)]) (h' := ((SHv st dr rd), (ovl a s b))) (fun _ => rfl) ?_
  refine Ev.getr (r := ((z : Int) + 11)) rfl rfl (by omega) (shY_0 hz) rfl rfl rfl ?_
  refine Ev.alen (v := 1200) rfl (by omega) (shY_11 hz) rfl rfl ?_
  refine Ev.ite (P := 1200 ≤ (c : Int)) (k := 1) (a := 37) (b := 12) (L' := [Vr (z : Int), Vi (t : Int), Vi (o : Int)]) (S' := []) (h' := ((SHv st dr rd), (ovl a s b))) (fun _ => rfl) (fun b9 => ?_) (fun b9 => ?_)
  · exfalso; omega
  · refine Ev.steps (k := 1) (pc' := 13) (L' := [Vr (z : Int), Vi (t : Int), Vi (o : Int)]) (S' := [Vr (z : Int)]) (h' := ((SHv st dr rd), (ovl a s b))) (fun _ => rfl) ?_
    refine Ev.getr (r := ((z : Int) + 11)) rfl rfl (by omega) (shY_0 hz) rfl rfl rfl ?_
    refine Ev.steps (k := 1) (pc' := 17) (L' := [Vr (z : Int), Vi (t : Int), Vi (o : Int)]) (S' := [Vr (z : Int), Vr ((z : Int) + 11)]) (h' := ((SHv st dr rd), (ovl a s b))) (fun _ => rfl) ?_
    refine Ev.getf (v := (c : Int)) rfl rfl (by omega) (shY_0 hz) rfl rfl ((ovl_rc (by omega)).trans (hc)) ?_
    refine Ev.steps (k := 5) (pc' := 26) (L' := [Vr (z : Int), Vi (t : Int), Vi (o : Int)]) (S' := [Vi (i_or (t : Int) (i_shl (o : Int) 9)), Vi (c : Int), Vr ((z : Int) + 11)]) (h' := ((SHv st dr rd), (ovl a s b))) (fun _ => rfl) ?_
    rw [show (i_or (t : Int) (i_shl (o : Int) 9)) = ((t + 512 * o : Nat) : Int) from (em_or ht ho)]
    refine Ev.iast (c' := (ovl (updC a (z + 11) c ((t + 512 * o : Nat) : Int)) s b)) rfl (by omega) (shY_11 hz) (by omega) (by omega) (ovl_wc (by omega)) ?_
    refine Ev.steps (k := 2) (pc' := 29) (L' := [Vr (z : Int), Vi (t : Int), Vi (o : Int)]) (S' := [Vr (z : Int), Vr (z : Int)]) (h' := ((SHv st dr rd), (ovl (updC a (z + 11) c ((t + 512 * o : Nat) : Int)) s b))) (fun _ => rfl) ?_
    refine Ev.getf (v := (c : Int)) rfl rfl (by omega) (shY_0 hz) rfl rfl (((ovl_rc (by omega)).trans (by show (updC a (z + 11) c ((t + 512 * o : Nat) : Int)) z 9 = _; rw [updC_nt (by omega)])).trans (hc)) ?_
    refine Ev.steps (k := 2) (pc' := 34) (L' := [Vr (z : Int), Vi (t : Int), Vi (o : Int)]) (S' := [Vi (w32 ((c : Int) + 1)), Vr (z : Int)]) (h' := ((SHv st dr rd), (ovl (updC a (z + 11) c ((t + 512 * o : Nat) : Int)) s b))) (fun _ => rfl) ?_
    rw [show (w32 ((c : Int) + 1)) = ((c : Int) + 1) from w32_id (by unfold R32; omega)]
    refine Ev.putf (c' := (ovl (updC (updC a (z + 11) c ((t + 512 * o : Nat) : Int)) z 9 ((c : Int) + 1)) s b)) rfl (by omega) (shY_0 hz) rfl rfl (ovl_wc (by omega)) ?_
    refine Ev.steps (k := 1) (pc' := 38) (L' := [Vr (z : Int), Vi (t : Int), Vi (o : Int)]) (S' := [Vr (z : Int)]) (h' := ((SHv st dr rd), (ovl (updC (updC a (z + 11) c ((t + 512 * o : Nat) : Int)) z 9 ((c : Int) + 1)) s b))) (fun _ => rfl) ?_
    refine Ev.getf (v := ((c : Int) + 1)) rfl rfl (by omega) (shY_0 hz) rfl rfl ((ovl_rc (by omega)).trans (by show (updC (updC a (z + 11) c ((t + 512 * o : Nat) : Int)) z 9 ((c : Int) + 1)) z 9 = _; rw [updC_sm])) ?_
    refine Ev.steps (k := 2) (pc' := 43) (L' := [Vr (z : Int), Vi (t : Int), Vi (o : Int)]) (S' := [Vi (w32 (((c : Int) + 1) - 1))]) (h' := ((SHv st dr rd), (ovl (updC (updC a (z + 11) c ((t + 512 * o : Nat) : Int)) z 9 ((c : Int) + 1)) s b))) (fun _ => rfl) ?_
    rw [show (w32 (((c : Int) + 1) - 1)) = (c : Int) from (by unfold w32; omega)]
    refine Ev.fin (k := 1) (r := (some (Vi (c : Int)))) (h' := ((SHv st dr rd), (ovl (updC (updC a (z + 11) c ((t + 512 * o : Nat) : Int)) z 9 ((c : Int) + 1)) s b))) (fun _ => rfl) ?_
    exact ⟨rfl, rfl⟩
theorem c_emit_br {X : List Int} {d : Nat} {st dr rd : Int} {a s b : C3} {z : Nat} (hz : hyS z) (hc : CdB a z) (t o : Int) : Ev X d 49 0 [Vr (z : Int), Vi t, Vi o] [] (SHv st dr rd, ovl a s b) (fun rr hh => ∃ (v : Int) (a' : C3), rr = some (Vi v) ∧ hh = (SHv st dr rd, ovl a' s b) ∧ FrZ z a a' ∧ a' 114 = a 114 ∧ CdB a' z) := by
  have hz0 : z = 2 ∨ z = 58 := hz
  obtain ⟨c, e9⟩ : ∃ c : Nat, a z 9 = (c : Int) := ⟨(a z 9).toNat, by have := hc.1; omega⟩
  have hc2 := hc.2
  rw [e9] at hc2
  refine Ev.steps (k := 1) (pc' := 1) (L' := [Vr (z : Int), Vi t, Vi o]) (S' := [Vr (z : Int)]) (h' := ((SHv st dr rd), (ovl a s b))) (fun _ => rfl) ?_
  refine Ev.getf (v := (c : Int)) rfl rfl (by omega) (shY_0 hz) rfl rfl ((ovl_rc (by omega)).trans (e9)) ?_
  refine Ev.steps (k := 1) (pc' := 5) (L' := [Vr (z : Int), Vi t, Vi o]) (S' := [Vr (z : Int), Vi (c : Int)]) (h' := ((SHv st dr rd), (ovl a s b))) (fun _ => rfl) ?_
  refine Ev.getr (r := ((z : Int) + 11)) rfl rfl (by omega) (shY_0 hz) rfl rfl rfl ?_
  refine Ev.alen (v := 1200) rfl (by omega) (shY_11 hz) rfl rfl ?_
  refine Ev.ite (P := 1200 ≤ (c : Int)) (k := 1) (a := 37) (b := 12) (L' := [Vr (z : Int), Vi t, Vi o]) (S' := []) (h' := ((SHv st dr rd), (ovl a s b))) (fun _ => rfl) (fun b9 => ?_) (fun b9 => ?_)
  · refine Ev.steps (k := 1) (pc' := 38) (L' := [Vr (z : Int), Vi t, Vi o]) (S' := [Vr (z : Int)]) (h' := ((SHv st dr rd), (ovl a s b))) (fun _ => rfl) ?_
    refine Ev.getf (v := (c : Int)) rfl rfl (by omega) (shY_0 hz) rfl rfl ((ovl_rc (by omega)).trans (e9)) ?_
    refine Ev.steps (k := 2) (pc' := 43) (L' := [Vr (z : Int), Vi t, Vi o]) (S' := [Vi (w32 ((c : Int) - 1))]) (h' := ((SHv st dr rd), (ovl a s b))) (fun _ => rfl) ?_
    rw [show (w32 ((c : Int) - 1)) = ((c : Int) - 1) from w32_id (by unfold R32; omega)]
    refine Ev.fin (k := 1) (r := (some (Vi ((c : Int) - 1)))) (h' := ((SHv st dr rd), (ovl a s b))) (fun _ => rfl) ?_
    first
      | exact ⟨_, a, rfl, rfl, FrZ.rf, rfl, hc⟩
      | exact ⟨_, _, rfl, rfl, (FrZ.rf.up (by omega)).up (by omega), (updC_row (by omega)).trans (updC_row (by omega)), by unfold CdB; rw [updC_sm]; omega⟩
  · refine Ev.steps (k := 1) (pc' := 13) (L' := [Vr (z : Int), Vi t, Vi o]) (S' := [Vr (z : Int)]) (h' := ((SHv st dr rd), (ovl a s b))) (fun _ => rfl) ?_
    refine Ev.getr (r := ((z : Int) + 11)) rfl rfl (by omega) (shY_0 hz) rfl rfl rfl ?_
    refine Ev.steps (k := 1) (pc' := 17) (L' := [Vr (z : Int), Vi t, Vi o]) (S' := [Vr (z : Int), Vr ((z : Int) + 11)]) (h' := ((SHv st dr rd), (ovl a s b))) (fun _ => rfl) ?_
    refine Ev.getf (v := (c : Int)) rfl rfl (by omega) (shY_0 hz) rfl rfl ((ovl_rc (by omega)).trans (e9)) ?_
    refine Ev.steps (k := 5) (pc' := 26) (L' := [Vr (z : Int), Vi t, Vi o]) (S' := [Vi (i_or t (i_shl o 9)), Vi (c : Int), Vr ((z : Int) + 11)]) (h' := ((SHv st dr rd), (ovl a s b))) (fun _ => rfl) ?_
    refine Ev.iast (c' := (ovl (updC a (z + 11) c (i_or t (i_shl o 9))) s b)) rfl (by omega) (shY_11 hz) (by omega) (by omega) (ovl_wc (by omega)) ?_
    refine Ev.steps (k := 2) (pc' := 29) (L' := [Vr (z : Int), Vi t, Vi o]) (S' := [Vr (z : Int), Vr (z : Int)]) (h' := ((SHv st dr rd), (ovl (updC a (z + 11) c (i_or t (i_shl o 9))) s b))) (fun _ => rfl) ?_
    refine Ev.getf (v := (c : Int)) rfl rfl (by omega) (shY_0 hz) rfl rfl (((ovl_rc (by omega)).trans (by show (updC a (z + 11) c (i_or t (i_shl o 9))) z 9 = _; rw [updC_nt (by omega)])).trans (e9)) ?_
    refine Ev.steps (k := 2) (pc' := 34) (L' := [Vr (z : Int), Vi t, Vi o]) (S' := [Vi (w32 ((c : Int) + 1)), Vr (z : Int)]) (h' := ((SHv st dr rd), (ovl (updC a (z + 11) c (i_or t (i_shl o 9))) s b))) (fun _ => rfl) ?_
    rw [show (w32 ((c : Int) + 1)) = ((c : Int) + 1) from w32_id (by unfold R32; omega)]
    refine Ev.putf (c' := (ovl (updC (updC a (z + 11) c (i_or t (i_shl o 9))) z 9 ((c : Int) + 1)) s b)) rfl (by omega) (shY_0 hz) rfl rfl (ovl_wc (by omega)) ?_
    refine Ev.steps (k := 1) (pc' := 38) (L' := [Vr (z : Int), Vi t, Vi o]) (S' := [Vr (z : Int)]) (h' := ((SHv st dr rd), (ovl (updC (updC a (z + 11) c (i_or t (i_shl o 9))) z 9 ((c : Int) + 1)) s b))) (fun _ => rfl) ?_
    refine Ev.getf (v := ((c : Int) + 1)) rfl rfl (by omega) (shY_0 hz) rfl rfl ((ovl_rc (by omega)).trans (by show (updC (updC a (z + 11) c (i_or t (i_shl o 9))) z 9 ((c : Int) + 1)) z 9 = _; rw [updC_sm])) ?_
    refine Ev.steps (k := 2) (pc' := 43) (L' := [Vr (z : Int), Vi t, Vi o]) (S' := [Vi (w32 (((c : Int) + 1) - 1))]) (h' := ((SHv st dr rd), (ovl (updC (updC a (z + 11) c (i_or t (i_shl o 9))) z 9 ((c : Int) + 1)) s b))) (fun _ => rfl) ?_
    rw [show (w32 (((c : Int) + 1) - 1)) = (((c : Int) + 1) - 1) from w32_id (by unfold R32; omega)]
    refine Ev.fin (k := 1) (r := (some (Vi (((c : Int) + 1) - 1)))) (h' := ((SHv st dr rd), (ovl (updC (updC a (z + 11) c (i_or t (i_shl o 9))) z 9 ((c : Int) + 1)) s b))) (fun _ => rfl) ?_
    first
      | exact ⟨_, a, rfl, rfl, FrZ.rf, rfl, hc⟩
      | exact ⟨_, _, rfl, rfl, (FrZ.rf.up (by omega)).up (by omega), (updC_row (by omega)).trans (updC_row (by omega)), by unfold CdB; rw [updC_sm]; omega⟩
theorem c_leadHere {X : List Int} {d : Nat} {st dr rd : Int} {a s b : C3} {z : Nat} (hz : hyS z) {c k t : Nat} (hc : a z 9 = (c : Int)) (h12 : c ≤ 1200) (hk : k < c) (ht : t < 512) (hv : a (z + 11) k = (t : Int)) : Ev X d 56 0 [Vr (z : Int), Vi (k : Int)] [] (SHv st dr rd, ovl a s b) (fun rr hh => rr = none ∧ hh = (SHv st dr rd, ovl (updC a (z + 11) k ((t + 512 * c : Nat) : Int)) s b)) := by
  have hz0 : z = 2 ∨ z = 58 := hz
  have h5 : i_and (t : Int) 511 = (t : Int) := by
    rw [show (511 : Int) = ((511 : Nat) : Int) from rfl, i_and_nat (by omega) (by omega)]
    have := Nat.and_two_pow_sub_one_eq_mod t 9
    rw [show 2 ^ 9 - 1 = 511 from rfl] at this
    rw [this, Nat.mod_eq_of_lt (by omega)]
  refine Ev.ite (P := (k : Int) < 0) (k := 2) (a := 36) (b := 4) (L' := [Vr (z : Int), Vi (k : Int)]) (S' := []) (h' := ((SHv st dr rd), (ovl a s b))) (fun _ => rfl) (fun b1 => ?_) (fun b1 => ?_)
  · exfalso; omega
  · refine Ev.steps (k := 2) (pc' := 6) (L' := [Vr (z : Int), Vi (k : Int)]) (S' := [Vr (z : Int), Vi (k : Int)]) (h' := ((SHv st dr rd), (ovl a s b))) (fun _ => rfl) ?_
    refine Ev.getf (v := (c : Int)) rfl rfl (by omega) (shY_0 hz) rfl rfl ((ovl_rc (by omega)).trans (hc)) ?_
    refine Ev.ite (P := (c : Int) ≤ (k : Int)) (k := 1) (a := 36) (b := 12) (L' := [Vr (z : Int), Vi (k : Int)]) (S' := []) (h' := ((SHv st dr rd), (ovl a s b))) (fun _ => rfl) (fun b9 => ?_) (fun b9 => ?_)
    · exfalso; omega
    · refine Ev.steps (k := 1) (pc' := 13) (L' := [Vr (z : Int), Vi (k : Int)]) (S' := [Vr (z : Int)]) (h' := ((SHv st dr rd), (ovl a s b))) (fun _ => rfl) ?_
      refine Ev.getr (r := ((z : Int) + 11)) rfl rfl (by omega) (shY_0 hz) rfl rfl rfl ?_
      refine Ev.steps (k := 2) (pc' := 18) (L' := [Vr (z : Int), Vi (k : Int)]) (S' := [Vr (z : Int), Vi (k : Int), Vr ((z : Int) + 11)]) (h' := ((SHv st dr rd), (ovl a s b))) (fun _ => rfl) ?_
      refine Ev.getr (r := ((z : Int) + 11)) rfl rfl (by omega) (shY_0 hz) rfl rfl rfl ?_
      refine Ev.steps (k := 1) (pc' := 22) (L' := [Vr (z : Int), Vi (k : Int)]) (S' := [Vi (k : Int), Vr ((z : Int) + 11), Vi (k : Int), Vr ((z : Int) + 11)]) (h' := ((SHv st dr rd), (ovl a s b))) (fun _ => rfl) ?_
      refine Ev.iald (v := (t : Int)) rfl (by omega) (shY_11 hz) (by omega) (by omega) ((ovl_rc (by omega)).trans (hv)) ?_
      refine Ev.steps (k := 2) (pc' := 27) (L' := [Vr (z : Int), Vi (k : Int)]) (S' := [Vi (i_and (t : Int) 511), Vi (k : Int), Vr ((z : Int) + 11)]) (h' := ((SHv st dr rd), (ovl a s b))) (fun _ => rfl) ?_
      rw [show (i_and (t : Int) 511) = (t : Int) from h5]
      refine Ev.steps (k := 1) (pc' := 28) (L' := [Vr (z : Int), Vi (k : Int)]) (S' := [Vr (z : Int), Vi (t : Int), Vi (k : Int), Vr ((z : Int) + 11)]) (h' := ((SHv st dr rd), (ovl a s b))) (fun _ => rfl) ?_
      refine Ev.getf (v := (c : Int)) rfl rfl (by omega) (shY_0 hz) rfl rfl ((ovl_rc (by omega)).trans (hc)) ?_
      refine Ev.steps (k := 3) (pc' := 35) (L' := [Vr (z : Int), Vi (k : Int)]) (S' := [Vi (i_or (t : Int) (i_shl (c : Int) 9)), Vi (k : Int), Vr ((z : Int) + 11)]) (h' := ((SHv st dr rd), (ovl a s b))) (fun _ => rfl) ?_
      rw [show (i_or (t : Int) (i_shl (c : Int) 9)) = ((t + 512 * c : Nat) : Int) from (em_or ht (by omega))]
      refine Ev.iast (c' := (ovl (updC a (z + 11) k ((t + 512 * c : Nat) : Int)) s b)) rfl (by omega) (shY_11 hz) (by omega) (by omega) (ovl_wc (by omega)) ?_
      refine Ev.fin (k := 1) (r := none) (h' := ((SHv st dr rd), (ovl (updC a (z + 11) k ((t + 512 * c : Nat) : Int)) s b))) (fun _ => rfl) ?_
      exact ⟨rfl, rfl⟩
theorem c_leadHere_br {X : List Int} {d : Nat} {st dr rd : Int} {a s b : C3} {z : Nat} (hz : hyS z) (hc : CdB a z) (k : Int) : Ev X d 56 0 [Vr (z : Int), Vi k] [] (SHv st dr rd, ovl a s b) (fun rr hh => rr = none ∧ ∃ a' : C3, hh = (SHv st dr rd, ovl a' s b) ∧ FrZ z a a' ∧ a' 114 = a 114 ∧ CdB a' z) := by
  have hz0 : z = 2 ∨ z = 58 := hz
  obtain ⟨c, e9⟩ : ∃ c : Nat, a z 9 = (c : Int) := ⟨(a z 9).toNat, by have := hc.1; omega⟩
  have hc2 := hc.2
  rw [e9] at hc2
  refine Ev.ite (P := k < 0) (k := 2) (a := 36) (b := 4) (L' := [Vr (z : Int), Vi k]) (S' := []) (h' := ((SHv st dr rd), (ovl a s b))) (fun _ => rfl) (fun b1 => ?_) (fun b1 => ?_)
  · refine Ev.fin (k := 1) (r := none) (h' := ((SHv st dr rd), (ovl a s b))) (fun _ => rfl) ?_
    first
      | exact ⟨rfl, a, rfl, FrZ.rf, rfl, hc⟩
      | exact ⟨rfl, _, rfl, FrZ.rf.up (by omega), updC_row (by omega), by unfold CdB; rw [updC_row (by omega)]; exact hc⟩
  · refine Ev.steps (k := 2) (pc' := 6) (L' := [Vr (z : Int), Vi k]) (S' := [Vr (z : Int), Vi k]) (h' := ((SHv st dr rd), (ovl a s b))) (fun _ => rfl) ?_
    refine Ev.getf (v := (c : Int)) rfl rfl (by omega) (shY_0 hz) rfl rfl ((ovl_rc (by omega)).trans (e9)) ?_
    refine Ev.ite (P := (c : Int) ≤ k) (k := 1) (a := 36) (b := 12) (L' := [Vr (z : Int), Vi k]) (S' := []) (h' := ((SHv st dr rd), (ovl a s b))) (fun _ => rfl) (fun b9 => ?_) (fun b9 => ?_)
    · refine Ev.fin (k := 1) (r := none) (h' := ((SHv st dr rd), (ovl a s b))) (fun _ => rfl) ?_
      first
        | exact ⟨rfl, a, rfl, FrZ.rf, rfl, hc⟩
        | exact ⟨rfl, _, rfl, FrZ.rf.up (by omega), updC_row (by omega), by unfold CdB; rw [updC_row (by omega)]; exact hc⟩
    · refine Ev.steps (k := 1) (pc' := 13) (L' := [Vr (z : Int), Vi k]) (S' := [Vr (z : Int)]) (h' := ((SHv st dr rd), (ovl a s b))) (fun _ => rfl) ?_
      refine Ev.getr (r := ((z : Int) + 11)) rfl rfl (by omega) (shY_0 hz) rfl rfl rfl ?_
      refine Ev.steps (k := 2) (pc' := 18) (L' := [Vr (z : Int), Vi k]) (S' := [Vr (z : Int), Vi k, Vr ((z : Int) + 11)]) (h' := ((SHv st dr rd), (ovl a s b))) (fun _ => rfl) ?_
      refine Ev.getr (r := ((z : Int) + 11)) rfl rfl (by omega) (shY_0 hz) rfl rfl rfl ?_
      refine Ev.steps (k := 1) (pc' := 22) (L' := [Vr (z : Int), Vi k]) (S' := [Vi k, Vr ((z : Int) + 11), Vi k, Vr ((z : Int) + 11)]) (h' := ((SHv st dr rd), (ovl a s b))) (fun _ => rfl) ?_
      refine Ev.iald (v := (a (z + 11) (k).toNat)) rfl (by omega) (shY_11 hz) (by omega) (by omega) (ovl_rc (by omega)) ?_
      refine Ev.steps (k := 3) (pc' := 28) (L' := [Vr (z : Int), Vi k]) (S' := [Vr (z : Int), Vi (i_and (a (z + 11) (k).toNat) 511), Vi k, Vr ((z : Int) + 11)]) (h' := ((SHv st dr rd), (ovl a s b))) (fun _ => rfl) ?_
      refine Ev.getf (v := (c : Int)) rfl rfl (by omega) (shY_0 hz) rfl rfl ((ovl_rc (by omega)).trans (e9)) ?_
      refine Ev.steps (k := 3) (pc' := 35) (L' := [Vr (z : Int), Vi k]) (S' := [Vi (i_or (i_and (a (z + 11) (k).toNat) 511) (i_shl (c : Int) 9)), Vi k, Vr ((z : Int) + 11)]) (h' := ((SHv st dr rd), (ovl a s b))) (fun _ => rfl) ?_
      refine Ev.iast (c' := (ovl (updC a (z + 11) (k).toNat (i_or (i_and (a (z + 11) (k).toNat) 511) (i_shl (c : Int) 9))) s b)) rfl (by omega) (shY_11 hz) (by omega) (by omega) (ovl_wc (by omega)) ?_
      refine Ev.fin (k := 1) (r := none) (h' := ((SHv st dr rd), (ovl (updC a (z + 11) (k).toNat (i_or (i_and (a (z + 11) (k).toNat) 511) (i_shl (c : Int) 9))) s b))) (fun _ => rfl) ?_
      first
        | exact ⟨rfl, a, rfl, FrZ.rf, rfl, hc⟩
        | exact ⟨rfl, _, rfl, FrZ.rf.up (by omega), updC_row (by omega), by unfold CdB; rw [updC_row (by omega)]; exact hc⟩
theorem BrC.n3 {e : PF} {a : SC} (h : BrC e a) : updC a 114 5 303 = a := by
  have := updC_self (c := a) (t := 114) (i := 5)
  rw [h.2.2.2] at this
  exact this
theorem c_fail_same {X : List Int} {d : Nat} {st dr rd : Int} {a s b : C3} {e : PF} (hB : BrC e a) (k p : Int) : Ev X d 29 0 [Vr 114, Vi k, Vi p] [] (SHv st dr rd, ovl a s b) (fun rr hh => rr = none ∧ hh = (SHv st dr rd, ovl a s b)) := by
  have h := c_fail_br (X := X) (d := d) (st := st) (dr := dr) (rd := rd) (s := s) (b := b) hB k p
  rw [hB.n3] at h
  exact h
theorem c_fail_t {X : List Int} {d : Nat} {st dr rd : Int} {a s b : C3} {W : TXT} {p : Nat} (hk : TkC W p a) (k q : Int) (h0 : k ≠ 0) : Ev X d 29 0 [Vr 114, Vi k, Vi q] [] (SHv st dr rd, ovl a s b) (fun rr hh => rr = none ∧ ∃ a' : C3, hh = (SHv st dr rd, ovl a' s b) ∧ BdT W a (k, q) a') :=
  (c_fail hk.2.1 k q).mono (fun r h' hq => ⟨hq.1, _, hq.2, ((FrO.rf.up (by omega)).up (by omega)).up (by omega), hk.1.fo rfl rfl rfl, h0, rfl, rfl, rfl⟩)
theorem c_next {X : List Int} {d : Nat} {st dr rd : Int} {a s b : C3} {W : TXT} {p : Nat} (hk : TkC W p a) : Ev X (d + 1) 27 0 [Vr 114, Vx, Vx, Vx, Vx] [] (SHv st dr rd, ovl a s b) (fun rr hh => rr = none ∧ ∃ a' : C3, hh = (SHv st dr rd, ovl a' s b) ∧ ResC (gotT W p) (fun p1 => OkT W a p1 a') (fun e => BdT W a e a')) := by
  have hrg := tok_rg hk.2.2.2.2.2.2.2.2.2 hk.1.1
  refine (c_step hrg.2 hk.1 hk.2.1 hk.2.2.1 hk.2.2.2.1).mono ?_
  rintro r h' ⟨h1, a', h2, h3, h4, h5⟩
  refine ⟨h1, a', h2, ?_⟩
  unfold gotT
  rcases h5 with h5 | ⟨h5, h6, h7⟩
  · rw [if_neg h5.2.2.2.2.2.2.2.2.1]
    exact Or.inl ⟨_, rfl, h3, h4, h5⟩
  · rw [if_pos h5]
    exact Or.inr ⟨_, rfl, h3, h6, h7⟩
theorem c_expect {X : List Int} {d : Nat} {st dr rd : Int} {a s b : C3} {W : TXT} {p : Nat} (hk : TkC W p a) (c : Nat) : Ev X (d + 2) 42 0 [Vr 114, Vi (c : Int)] [] (SHv st dr rd, ovl a s b) (fun rr hh => rr = none ∧ ∃ a' : C3, hh = (SHv st dr rd, ovl a' s b) ∧ ResC (expT W c p) (fun p1 => OkT W a p1 a') (fun e => BdT W a e a')) := by
  refine Ev.steps (k := 2) (pc' := 4) (L' := [Vr 114, Vi (c : Int)]) (S' := [Vi (a 114 5)]) (h' := ((SHv st dr rd), (ovl a s b))) (fun _ => rfl) ?_
  rw [hk.2.2.2.2.1]
  refine Ev.ite (P := ((tC W p : Nat) : Int) ≠ (c : Int)) (k := 2) (a := 15) (b := 8) (L' := [Vr 114, Vi (c : Int)]) (S' := []) (h' := ((SHv st dr rd), (ovl a s b))) (fun _ => rfl) (fun b5 => ?_) (fun b5 => ?_)
  · refine Ev.steps (k := 4) (pc' := 21) (L' := [Vr 114, Vi (c : Int)]) (S' := [Vi (a 114 6), Vi 1, Vr 114]) (h' := ((SHv st dr rd), (ovl a s b))) (fun _ => rfl) ?_
    rw [hk.2.2.2.2.2.1]
    refine Ev.call (k := 0) (pc1 := 21) (L1 := [Vr 114, Vi (c : Int)]) (S1 := [Vi ((tA W p : Nat) : Int), Vi 1, Vr 114]) (h1 := ((SHv st dr rd), (ovl a s b))) (m' := 29) (as := [Vr 114, Vi 1, Vi ((tA W p : Nat) : Int)]) (S' := []) (L0 := [Vr 114, Vi 1, Vi ((tA W p : Nat) : Int)]) (fun _ => rfl) rfl rfl rfl rfl rfl rfl (c_fail_t hk 1 ((tA W p : Nat) : Int) (by decide)) (fun r h' hq => ?_)
    obtain ⟨rfl, a9, rfl, hb⟩ := hq
    show Ev X _ _ 24 [Vr 114, Vi (c : Int)] [] ((SHv st dr rd), (ovl a9 s b)) _
    refine Ev.fin (k := 1) (r := none) (h' := ((SHv st dr rd), (ovl a9 s b))) (fun _ => rfl) ?_
    refine ⟨rfl, a9, rfl, ?_⟩
    unfold expT
    rw [if_pos (by omega)]
    exact Or.inr ⟨_, rfl, hb⟩
  · refine Ev.call (k := 1) (pc1 := 9) (L1 := [Vr 114, Vi (c : Int)]) (S1 := [Vr 114]) (h1 := ((SHv st dr rd), (ovl a s b))) (m' := 27) (as := [Vr 114]) (S' := []) (L0 := [Vr 114, Vx, Vx, Vx, Vx]) (fun _ => rfl) rfl rfl rfl rfl rfl rfl (c_next hk) (fun r h' hq => ?_)
    obtain ⟨rfl, a9, rfl, hq⟩ := hq
    rcases hq with ⟨p9, hx, ho⟩ | ⟨e9, hx, hb⟩
    · show Ev X _ _ 12 [Vr 114, Vi (c : Int)] [] ((SHv st dr rd), (ovl a9 s b)) _
      refine Ev.fin (k := 2) (r := none) (h' := ((SHv st dr rd), (ovl a9 s b))) (fun _ => rfl) ?_
      refine ⟨rfl, a9, rfl, ?_⟩
      unfold expT
      rw [if_neg (by omega), hx]
      first | exact Or.inl ⟨_, rfl, ho⟩ | exact Or.inr ⟨_, rfl, hb⟩
    · show Ev X _ _ 12 [Vr 114, Vi (c : Int)] [] ((SHv st dr rd), (ovl a9 s b)) _
      refine Ev.fin (k := 2) (r := none) (h' := ((SHv st dr rd), (ovl a9 s b))) (fun _ => rfl) ?_
      refine ⟨rfl, a9, rfl, ?_⟩
      unfold expT
      rw [if_neg (by omega), hx]
      first | exact Or.inl ⟨_, rfl, ho⟩ | exact Or.inr ⟨_, rfl, hb⟩
theorem c_expect_br {X : List Int} {d : Nat} {st dr rd : Int} {a s b : C3} {e : PF} (hB : BrC e a) (c : Int) (hc : c ≠ 303) : Ev X (d + 2) 42 0 [Vr 114, Vi c] [] (SHv st dr rd, ovl a s b) (fun rr hh => rr = none ∧ hh = (SHv st dr rd, ovl a s b)) := by
  refine Ev.steps (k := 2) (pc' := 4) (L' := [Vr 114, Vi c]) (S' := [Vi (a 114 5)]) (h' := ((SHv st dr rd), (ovl a s b))) (fun _ => rfl) ?_
  rw [hB.2.2.2]
  refine Ev.ite (P := 303 ≠ c) (k := 2) (a := 15) (b := 8) (L' := [Vr 114, Vi c]) (S' := []) (h' := ((SHv st dr rd), (ovl a s b))) (fun _ => rfl) (fun b5 => ?_) (fun b5 => ?_)
  · refine Ev.call (k := 4) (pc1 := 21) (L1 := [Vr 114, Vi c]) (S1 := [Vi (a 114 6), Vi 1, Vr 114]) (h1 := ((SHv st dr rd), (ovl a s b))) (m' := 29) (as := [Vr 114, Vi 1, Vi (a 114 6)]) (S' := []) (L0 := [Vr 114, Vi 1, Vi (a 114 6)]) (fun _ => rfl) rfl rfl rfl rfl rfl rfl (c_fail_same hB 1 (a 114 6)) (fun r h' hq => ?_)
    obtain ⟨rfl, rfl⟩ := hq
    show Ev X _ _ 24 [Vr 114, Vi c] [] ((SHv st dr rd), (ovl a s b)) _
    refine Ev.fin (k := 1) (r := none) (h' := ((SHv st dr rd), (ovl a s b))) (fun _ => rfl) ?_
    exact ⟨rfl, rfl⟩
  · exact absurd (Classical.not_not.mp b5).symm hc
theorem c_asked {X : List Int} {d : Nat} {st dr rd : Int} {a s b : C3} {z : Nat} (hz : hyS z) {W : TXT} {p : Nat} (hk : TkC W p a) {N : SC} {kd q : Nat} (hN : NmC N a z) (hkd : kd < 3) (hq : q = ixN kd) (but : Int) (hrd : rd = (z : Int)) : Ev X (d + 2) 38 0 [Vr 114, Vi (q : Int), Vi but, Vx] [] (SHv st dr rd, ovl a s b) (fun rr hh => ∃ a' : C3, hh = (SHv st dr rd, ovl a' s b) ∧ ResC (askT W N kd but p) (fun r => rr = some (Vi ((r.1 : Nat) : Int)) ∧ OkT W a r.2 a') (fun e => (∃ v : Int, rr = some (Vi v) ∧ -1 ≤ v ∧ v < 8) ∧ BdT W a e a')) := by
  have htp := tok_pr hk.2.2.2.2.2.2.2.2.2 hk.1.1
  have hvd := fun h => (htp.2.2.2.2.2.1 h).1
  have hn8 := (hN kd hkd).1
  clear htp
  subst hrd
  refine Ev.steps (k := 2) (pc' := 4) (L' := [Vr 114, Vi (q : Int), Vi but, Vx]) (S' := [Vi (a 114 5)]) (h' := ((SHv st dr (z : Int)), (ovl a s b))) (fun _ => rfl) ?_
  rw [hk.2.2.2.2.1]
  refine Ev.ite (P := ((tC W p : Nat) : Int) = 300) (k := 2) (a := 21) (b := 10) (L' := [Vr 114, Vi (q : Int), Vi but, Vx]) (S' := []) (h' := ((SHv st dr (z : Int)), (ovl a s b))) (fun _ => rfl) (fun b7 => ?_) (fun b7 => ?_)
  · refine Ev.steps (k := 5) (pc' := 30) (L' := [Vr 114, Vi (q : Int), Vi but, Vx]) (S' := [Vi (a 114 7), Vi (q : Int), Vr (z : Int)]) (h' := ((SHv st dr (z : Int)), (ovl a s b))) (fun _ => rfl) ?_
    rw [hk.2.2.2.2.2.2.1 (by omega)]
    refine Ev.call (k := 0) (pc1 := 30) (L1 := [Vr 114, Vi (q : Int), Vi but, Vx]) (S1 := [Vi ((cvF (tV W p) 6 : Nat) : Int), Vi (q : Int), Vr (z : Int)]) (h1 := ((SHv st dr (z : Int)), (ovl a s b))) (m' := 35) (as := [Vr (z : Int), Vi (q : Int), Vi ((cvF (tV W p) 6 : Nat) : Int)]) (S' := []) (L0 := [Vr (z : Int), Vi (q : Int), Vi ((cvF (tV W p) 6 : Nat) : Int), Vx]) (fun _ => rfl) rfl rfl rfl rfl (stpC_of rfl (pm_recv_of (by omega) (shY_0 hz))) rfl (c_named hz hkd hq (hvd (by omega)) hN) (fun r h' hq => ?_)
    obtain ⟨rfl, rfl⟩ := hq
    show Ev X _ _ 33 [Vr 114, Vi (q : Int), Vi but, Vx] [Vi (nmI N kd (tV W p))] ((SHv st dr (z : Int)), (ovl a s b)) _
    refine Ev.ite (P := (nmI N kd (tV W p)) = (-1)) (k := 4) (a := 44) (b := 39) (L' := [Vr 114, Vi (q : Int), Vi but, Vi (nmI N kd (tV W p))]) (S' := []) (h' := ((SHv st dr (z : Int)), (ovl a s b))) (fun _ => rfl) (fun b36 => ?_) (fun b36 => ?_)
    · have hw : nmd N kd (tV W p) = cntN N kd := by
        have h1 := nmd_le (N := N) (kd := kd) (w := tV W p)
        by_cases h : nmd N kd (tV W p) < cntN N kd
        · exact absurd b36 (nmI_ne.mpr h)
        · omega
      refine Ev.steps (k := 4) (pc' := 50) (L' := [Vr 114, Vi (q : Int), Vi but, Vi (nmI N kd (tV W p))]) (S' := [Vi (a 114 6), Vi 3, Vr 114]) (h' := ((SHv st dr (z : Int)), (ovl a s b))) (fun _ => rfl) ?_
      rw [hk.2.2.2.2.2.1]
      refine Ev.call (k := 0) (pc1 := 50) (L1 := [Vr 114, Vi (q : Int), Vi but, Vi (nmI N kd (tV W p))]) (S1 := [Vi ((tA W p : Nat) : Int), Vi 3, Vr 114]) (h1 := ((SHv st dr (z : Int)), (ovl a s b))) (m' := 29) (as := [Vr 114, Vi 3, Vi ((tA W p : Nat) : Int)]) (S' := []) (L0 := [Vr 114, Vi 3, Vi ((tA W p : Nat) : Int)]) (fun _ => rfl) rfl rfl rfl rfl rfl rfl (c_fail_t hk 3 ((tA W p : Nat) : Int) (by decide)) (fun r h' hq => ?_)
      obtain ⟨rfl, a9, rfl, hb⟩ := hq
      show Ev X _ _ 53 [Vr 114, Vi (q : Int), Vi but, Vi (nmI N kd (tV W p))] [] ((SHv st dr (z : Int)), (ovl a9 s b)) _
      refine Ev.fin (k := 2) (r := (some (Vi (-1)))) (h' := ((SHv st dr (z : Int)), (ovl a9 s b))) (fun _ => rfl) ?_
      refine ⟨a9, rfl, ?_⟩
      unfold askT
      rw [if_neg (by omega), if_pos (by first | exact Or.inl hw | exact Or.inr (by rw [← hI]; exact Classical.not_not.mp b41))]
      exact Or.inr ⟨_, rfl, ⟨-1, rfl, by decide, by decide⟩, hb⟩
    · have hw := nmI_ne.mp b36
      have hI : nmI N kd (tV W p) = ((nmd N kd (tV W p) : Nat) : Int) := if_pos hw
      refine Ev.ite (P := (nmI N kd (tV W p)) ≠ but) (k := 3) (a := 55) (b := 44) (L' := [Vr 114, Vi (q : Int), Vi but, Vi (nmI N kd (tV W p))]) (S' := []) (h' := ((SHv st dr (z : Int)), (ovl a s b))) (fun _ => rfl) (fun b41 => ?_) (fun b41 => ?_)
      · refine Ev.call (k := 1) (pc1 := 56) (L1 := [Vr 114, Vi (q : Int), Vi but, Vi (nmI N kd (tV W p))]) (S1 := [Vr 114]) (h1 := ((SHv st dr (z : Int)), (ovl a s b))) (m' := 27) (as := [Vr 114]) (S' := []) (L0 := [Vr 114, Vx, Vx, Vx, Vx]) (fun _ => rfl) rfl rfl rfl rfl rfl rfl (c_next hk) (fun r h' hq => ?_)
        obtain ⟨rfl, a9, rfl, hq⟩ := hq
        rcases hq with ⟨p9, hx, ho⟩ | ⟨e9, hx, hb⟩
        · show Ev X _ _ 59 [Vr 114, Vi (q : Int), Vi but, Vi (nmI N kd (tV W p))] [] ((SHv st dr (z : Int)), (ovl a9 s b)) _
          refine Ev.fin (k := 2) (r := (some (Vi (nmI N kd (tV W p))))) (h' := ((SHv st dr (z : Int)), (ovl a9 s b))) (fun _ => rfl) ?_
          refine ⟨a9, rfl, ?_⟩
          unfold askT
          rw [if_neg (by omega), if_neg (by rw [← hI]; omega), hx]
          first
            | exact Or.inl ⟨_, rfl, by rw [hI], ho⟩
            | exact Or.inr ⟨_, rfl, ⟨_, rfl, by rw [hI]; omega, by rw [hI]; omega⟩, hb⟩
        · show Ev X _ _ 59 [Vr 114, Vi (q : Int), Vi but, Vi (nmI N kd (tV W p))] [] ((SHv st dr (z : Int)), (ovl a9 s b)) _
          refine Ev.fin (k := 2) (r := (some (Vi (nmI N kd (tV W p))))) (h' := ((SHv st dr (z : Int)), (ovl a9 s b))) (fun _ => rfl) ?_
          refine ⟨a9, rfl, ?_⟩
          unfold askT
          rw [if_neg (by omega), if_neg (by rw [← hI]; omega), hx]
          first
            | exact Or.inl ⟨_, rfl, by rw [hI], ho⟩
            | exact Or.inr ⟨_, rfl, ⟨_, rfl, by rw [hI]; omega, by rw [hI]; omega⟩, hb⟩
      · refine Ev.steps (k := 4) (pc' := 50) (L' := [Vr 114, Vi (q : Int), Vi but, Vi (nmI N kd (tV W p))]) (S' := [Vi (a 114 6), Vi 3, Vr 114]) (h' := ((SHv st dr (z : Int)), (ovl a s b))) (fun _ => rfl) ?_
        rw [hk.2.2.2.2.2.1]
        refine Ev.call (k := 0) (pc1 := 50) (L1 := [Vr 114, Vi (q : Int), Vi but, Vi (nmI N kd (tV W p))]) (S1 := [Vi ((tA W p : Nat) : Int), Vi 3, Vr 114]) (h1 := ((SHv st dr (z : Int)), (ovl a s b))) (m' := 29) (as := [Vr 114, Vi 3, Vi ((tA W p : Nat) : Int)]) (S' := []) (L0 := [Vr 114, Vi 3, Vi ((tA W p : Nat) : Int)]) (fun _ => rfl) rfl rfl rfl rfl rfl rfl (c_fail_t hk 3 ((tA W p : Nat) : Int) (by decide)) (fun r h' hq => ?_)
        obtain ⟨rfl, a9, rfl, hb⟩ := hq
        show Ev X _ _ 53 [Vr 114, Vi (q : Int), Vi but, Vi (nmI N kd (tV W p))] [] ((SHv st dr (z : Int)), (ovl a9 s b)) _
        refine Ev.fin (k := 2) (r := (some (Vi (-1)))) (h' := ((SHv st dr (z : Int)), (ovl a9 s b))) (fun _ => rfl) ?_
        refine ⟨a9, rfl, ?_⟩
        unfold askT
        rw [if_neg (by omega), if_pos (by first | exact Or.inl hw | exact Or.inr (by rw [← hI]; exact Classical.not_not.mp b41))]
        exact Or.inr ⟨_, rfl, ⟨-1, rfl, by decide, by decide⟩, hb⟩
  · refine Ev.steps (k := 4) (pc' := 16) (L' := [Vr 114, Vi (q : Int), Vi but, Vx]) (S' := [Vi (a 114 6), Vi 1, Vr 114]) (h' := ((SHv st dr (z : Int)), (ovl a s b))) (fun _ => rfl) ?_
    rw [hk.2.2.2.2.2.1]
    refine Ev.call (k := 0) (pc1 := 16) (L1 := [Vr 114, Vi (q : Int), Vi but, Vx]) (S1 := [Vi ((tA W p : Nat) : Int), Vi 1, Vr 114]) (h1 := ((SHv st dr (z : Int)), (ovl a s b))) (m' := 29) (as := [Vr 114, Vi 1, Vi ((tA W p : Nat) : Int)]) (S' := []) (L0 := [Vr 114, Vi 1, Vi ((tA W p : Nat) : Int)]) (fun _ => rfl) rfl rfl rfl rfl rfl rfl (c_fail_t hk 1 ((tA W p : Nat) : Int) (by decide)) (fun r h' hq => ?_)
    obtain ⟨rfl, a9, rfl, hb⟩ := hq
    show Ev X _ _ 19 [Vr 114, Vi (q : Int), Vi but, Vx] [] ((SHv st dr (z : Int)), (ovl a9 s b)) _
    refine Ev.fin (k := 2) (r := (some (Vi (-1)))) (h' := ((SHv st dr (z : Int)), (ovl a9 s b))) (fun _ => rfl) ?_
    refine ⟨a9, rfl, ?_⟩
    unfold askT
    rw [if_pos (by omega)]
    exact Or.inr ⟨_, rfl, ⟨-1, rfl, by decide, by decide⟩, hb⟩
theorem c_asked_br {X : List Int} {d : Nat} {st dr rd : Int} {a s b : C3} {e : PF} (hB : BrC e a) (q but : Int) : Ev X (d + 2) 38 0 [Vr 114, Vi q, Vi but, Vx] [] (SHv st dr rd, ovl a s b) (fun rr hh => rr = some (Vi (-1)) ∧ hh = (SHv st dr rd, ovl a s b)) := by
  refine Ev.steps (k := 2) (pc' := 4) (L' := [Vr 114, Vi q, Vi but, Vx]) (S' := [Vi (a 114 5)]) (h' := ((SHv st dr rd), (ovl a s b))) (fun _ => rfl) ?_
  rw [hB.2.2.2]
  refine Ev.call (k := 6) (pc1 := 16) (L1 := [Vr 114, Vi q, Vi but, Vx]) (S1 := [Vi (a 114 6), Vi 1, Vr 114]) (h1 := ((SHv st dr rd), (ovl a s b))) (m' := 29) (as := [Vr 114, Vi 1, Vi (a 114 6)]) (S' := []) (L0 := [Vr 114, Vi 1, Vi (a 114 6)]) (fun _ => rfl) rfl rfl rfl rfl rfl rfl (c_fail_same hB 1 (a 114 6)) (fun r h' hq => ?_)
  obtain ⟨rfl, rfl⟩ := hq
  show Ev X _ _ 19 [Vr 114, Vi q, Vi but, Vx] [] ((SHv st dr rd), (ovl a s b)) _
  refine Ev.fin (k := 2) (r := (some (Vi (-1)))) (h' := ((SHv st dr rd), (ovl a s b))) (fun _ => rfl) ?_
  exact ⟨rfl, rfl⟩
theorem c_minuteFrom {X : List Int} {d : Nat} {st dr rd : Int} {a s b : C3} {W : TXT} {p : Nat} (hk : TkC W p a) (lo : Nat) : Ev X (d + 2) 44 0 [Vr 114, Vi (lo : Int), Vx] [] (SHv st dr rd, ovl a s b) (fun rr hh => ∃ a' : C3, hh = (SHv st dr rd, ovl a' s b) ∧ ResC (numT W lo p) (fun r => rr = some (Vi ((r.1 : Nat) : Int)) ∧ OkT W a r.2 a') (fun e => (∃ v : Int, rr = some (Vi v) ∧ -1 ≤ v ∧ v < 180) ∧ BdT W a e a')) := by
  refine Ev.steps (k := 2) (pc' := 4) (L' := [Vr 114, Vi (lo : Int), Vx]) (S' := [Vi (a 114 5)]) (h' := ((SHv st dr rd), (ovl a s b))) (fun _ => rfl) ?_
  rw [hk.2.2.2.2.1]
  refine Ev.ite (P := ((tC W p : Nat) : Int) = 301) (k := 2) (a := 21) (b := 10) (L' := [Vr 114, Vi (lo : Int), Vx]) (S' := []) (h' := ((SHv st dr rd), (ovl a s b))) (fun _ => rfl) (fun b7 => ?_) (fun b7 => ?_)
  · refine Ev.steps (k := 2) (pc' := 25) (L' := [Vr 114, Vi (lo : Int), Vx]) (S' := [Vi (a 114 7)]) (h' := ((SHv st dr rd), (ovl a s b))) (fun _ => rfl) ?_
    rw [hk.2.2.2.2.2.2.2.1 (by omega)]
    refine Ev.ite (P := ((tV W p : Nat) : Int) < (lo : Int)) (k := 4) (a := 38) (b := 31) (L' := [Vr 114, Vi (lo : Int), Vi ((tV W p : Nat) : Int)]) (S' := []) (h' := ((SHv st dr rd), (ovl a s b))) (fun _ => rfl) (fun b28 => ?_) (fun b28 => ?_)
    · refine Ev.steps (k := 4) (pc' := 44) (L' := [Vr 114, Vi (lo : Int), Vi ((tV W p : Nat) : Int)]) (S' := [Vi (a 114 6), Vi 4, Vr 114]) (h' := ((SHv st dr rd), (ovl a s b))) (fun _ => rfl) ?_
      rw [hk.2.2.2.2.2.1]
      refine Ev.call (k := 0) (pc1 := 44) (L1 := [Vr 114, Vi (lo : Int), Vi ((tV W p : Nat) : Int)]) (S1 := [Vi ((tA W p : Nat) : Int), Vi 4, Vr 114]) (h1 := ((SHv st dr rd), (ovl a s b))) (m' := 29) (as := [Vr 114, Vi 4, Vi ((tA W p : Nat) : Int)]) (S' := []) (L0 := [Vr 114, Vi 4, Vi ((tA W p : Nat) : Int)]) (fun _ => rfl) rfl rfl rfl rfl rfl rfl (c_fail_t hk 4 ((tA W p : Nat) : Int) (by decide)) (fun r h' hq => ?_)
      obtain ⟨rfl, a9, rfl, hb⟩ := hq
      show Ev X _ _ 47 [Vr 114, Vi (lo : Int), Vi ((tV W p : Nat) : Int)] [] ((SHv st dr rd), (ovl a9 s b)) _
      refine Ev.fin (k := 2) (r := (some (Vi 0))) (h' := ((SHv st dr rd), (ovl a9 s b))) (fun _ => rfl) ?_
      refine ⟨a9, rfl, ?_⟩
      unfold numT
      rw [if_neg (by omega), if_pos (by omega)]
      exact Or.inr ⟨_, rfl, ⟨0, rfl, by decide, by decide⟩, hb⟩
    · refine Ev.ite (P := ((tV W p : Nat) : Int) < 180) (k := 3) (a := 49) (b := 38) (L' := [Vr 114, Vi (lo : Int), Vi ((tV W p : Nat) : Int)]) (S' := []) (h' := ((SHv st dr rd), (ovl a s b))) (fun _ => rfl) (fun b35 => ?_) (fun b35 => ?_)
      · refine Ev.call (k := 1) (pc1 := 50) (L1 := [Vr 114, Vi (lo : Int), Vi ((tV W p : Nat) : Int)]) (S1 := [Vr 114]) (h1 := ((SHv st dr rd), (ovl a s b))) (m' := 27) (as := [Vr 114]) (S' := []) (L0 := [Vr 114, Vx, Vx, Vx, Vx]) (fun _ => rfl) rfl rfl rfl rfl rfl rfl (c_next hk) (fun r h' hq => ?_)
        obtain ⟨rfl, a9, rfl, hq⟩ := hq
        rcases hq with ⟨p9, hx, ho⟩ | ⟨e9, hx, hb⟩
        · show Ev X _ _ 53 [Vr 114, Vi (lo : Int), Vi ((tV W p : Nat) : Int)] [] ((SHv st dr rd), (ovl a9 s b)) _
          refine Ev.fin (k := 2) (r := (some (Vi ((tV W p : Nat) : Int)))) (h' := ((SHv st dr rd), (ovl a9 s b))) (fun _ => rfl) ?_
          refine ⟨a9, rfl, ?_⟩
          unfold numT
          rw [if_neg (by omega), if_neg (by omega), hx]
          first
            | exact Or.inl ⟨_, rfl, rfl, ho⟩
            | exact Or.inr ⟨_, rfl, ⟨_, rfl, by omega, by omega⟩, hb⟩
        · show Ev X _ _ 53 [Vr 114, Vi (lo : Int), Vi ((tV W p : Nat) : Int)] [] ((SHv st dr rd), (ovl a9 s b)) _
          refine Ev.fin (k := 2) (r := (some (Vi ((tV W p : Nat) : Int)))) (h' := ((SHv st dr rd), (ovl a9 s b))) (fun _ => rfl) ?_
          refine ⟨a9, rfl, ?_⟩
          unfold numT
          rw [if_neg (by omega), if_neg (by omega), hx]
          first
            | exact Or.inl ⟨_, rfl, rfl, ho⟩
            | exact Or.inr ⟨_, rfl, ⟨_, rfl, by omega, by omega⟩, hb⟩
      · refine Ev.steps (k := 4) (pc' := 44) (L' := [Vr 114, Vi (lo : Int), Vi ((tV W p : Nat) : Int)]) (S' := [Vi (a 114 6), Vi 4, Vr 114]) (h' := ((SHv st dr rd), (ovl a s b))) (fun _ => rfl) ?_
        rw [hk.2.2.2.2.2.1]
        refine Ev.call (k := 0) (pc1 := 44) (L1 := [Vr 114, Vi (lo : Int), Vi ((tV W p : Nat) : Int)]) (S1 := [Vi ((tA W p : Nat) : Int), Vi 4, Vr 114]) (h1 := ((SHv st dr rd), (ovl a s b))) (m' := 29) (as := [Vr 114, Vi 4, Vi ((tA W p : Nat) : Int)]) (S' := []) (L0 := [Vr 114, Vi 4, Vi ((tA W p : Nat) : Int)]) (fun _ => rfl) rfl rfl rfl rfl rfl rfl (c_fail_t hk 4 ((tA W p : Nat) : Int) (by decide)) (fun r h' hq => ?_)
        obtain ⟨rfl, a9, rfl, hb⟩ := hq
        show Ev X _ _ 47 [Vr 114, Vi (lo : Int), Vi ((tV W p : Nat) : Int)] [] ((SHv st dr rd), (ovl a9 s b)) _
        refine Ev.fin (k := 2) (r := (some (Vi 0))) (h' := ((SHv st dr rd), (ovl a9 s b))) (fun _ => rfl) ?_
        refine ⟨a9, rfl, ?_⟩
        unfold numT
        rw [if_neg (by omega), if_pos (by omega)]
        exact Or.inr ⟨_, rfl, ⟨0, rfl, by decide, by decide⟩, hb⟩
  · refine Ev.steps (k := 4) (pc' := 16) (L' := [Vr 114, Vi (lo : Int), Vx]) (S' := [Vi (a 114 6), Vi 1, Vr 114]) (h' := ((SHv st dr rd), (ovl a s b))) (fun _ => rfl) ?_
    rw [hk.2.2.2.2.2.1]
    refine Ev.call (k := 0) (pc1 := 16) (L1 := [Vr 114, Vi (lo : Int), Vx]) (S1 := [Vi ((tA W p : Nat) : Int), Vi 1, Vr 114]) (h1 := ((SHv st dr rd), (ovl a s b))) (m' := 29) (as := [Vr 114, Vi 1, Vi ((tA W p : Nat) : Int)]) (S' := []) (L0 := [Vr 114, Vi 1, Vi ((tA W p : Nat) : Int)]) (fun _ => rfl) rfl rfl rfl rfl rfl rfl (c_fail_t hk 1 ((tA W p : Nat) : Int) (by decide)) (fun r h' hq => ?_)
    obtain ⟨rfl, a9, rfl, hb⟩ := hq
    show Ev X _ _ 19 [Vr 114, Vi (lo : Int), Vx] [] ((SHv st dr rd), (ovl a9 s b)) _
    refine Ev.fin (k := 2) (r := (some (Vi 0))) (h' := ((SHv st dr rd), (ovl a9 s b))) (fun _ => rfl) ?_
    refine ⟨a9, rfl, ?_⟩
    unfold numT
    rw [if_pos (by omega)]
    exact Or.inr ⟨_, rfl, ⟨0, rfl, by decide, by decide⟩, hb⟩
theorem c_minuteFrom_br {X : List Int} {d : Nat} {st dr rd : Int} {a s b : C3} {e : PF} (hB : BrC e a) (lo : Int) : Ev X (d + 2) 44 0 [Vr 114, Vi lo, Vx] [] (SHv st dr rd, ovl a s b) (fun rr hh => rr = some (Vi 0) ∧ hh = (SHv st dr rd, ovl a s b)) := by
  refine Ev.steps (k := 2) (pc' := 4) (L' := [Vr 114, Vi lo, Vx]) (S' := [Vi (a 114 5)]) (h' := ((SHv st dr rd), (ovl a s b))) (fun _ => rfl) ?_
  rw [hB.2.2.2]
  refine Ev.call (k := 6) (pc1 := 16) (L1 := [Vr 114, Vi lo, Vx]) (S1 := [Vi (a 114 6), Vi 1, Vr 114]) (h1 := ((SHv st dr rd), (ovl a s b))) (m' := 29) (as := [Vr 114, Vi 1, Vi (a 114 6)]) (S' := []) (L0 := [Vr 114, Vi 1, Vi (a 114 6)]) (fun _ => rfl) rfl rfl rfl rfl rfl rfl (c_fail_same hB 1 (a 114 6)) (fun r h' hq => ?_)
  obtain ⟨rfl, rfl⟩ := hq
  show Ev X _ _ 19 [Vr 114, Vi lo, Vx] [] ((SHv st dr rd), (ovl a s b)) _
  refine Ev.fin (k := 2) (r := (some (Vi 0))) (h' := ((SHv st dr rd), (ovl a s b))) (fun _ => rfl) ?_
  exact ⟨rfl, rfl⟩
theorem c_given_br {X : List Int} {d : Nat} {st dr rd : Int} {a s b : C3} {e : PF} (hB : BrC e a) (q : Int) : Ev X (d + 2) 33 0 [Vr 114, Vi q] [] (SHv st dr rd, ovl a s b) (fun rr hh => rr = none ∧ hh = (SHv st dr rd, ovl a s b)) := by
  refine Ev.steps (k := 2) (pc' := 4) (L' := [Vr 114, Vi q]) (S' := [Vi (a 114 5)]) (h' := ((SHv st dr rd), (ovl a s b))) (fun _ => rfl) ?_
  rw [hB.2.2.2]
  refine Ev.call (k := 6) (pc1 := 16) (L1 := [Vr 114, Vi q]) (S1 := [Vi (a 114 6), Vi 1, Vr 114]) (h1 := ((SHv st dr rd), (ovl a s b))) (m' := 29) (as := [Vr 114, Vi 1, Vi (a 114 6)]) (S' := []) (L0 := [Vr 114, Vi 1, Vi (a 114 6)]) (fun _ => rfl) rfl rfl rfl rfl rfl rfl (c_fail_same hB 1 (a 114 6)) (fun r h' hq => ?_)
  obtain ⟨rfl, rfl⟩ := hq
  show Ev X _ _ 19 [Vr 114, Vi q] [] ((SHv st dr rd), (ovl a s b)) _
  refine Ev.fin (k := 2) (r := none) (h' := ((SHv st dr rd), (ovl a s b))) (fun _ => rfl) ?_
  exact ⟨rfl, rfl⟩
theorem c_opens_br {X : List Int} {d : Nat} {st dr rd : Int} {a s b : C3} {e : PF} (hB : BrC e a) (c : Int) (hc : c ≠ 303) : Ev X (d + 2) 51 0 [Vr 114, Vi c] [] (SHv st dr rd, ovl a s b) (fun rr hh => rr = some (Vi 0) ∧ hh = (SHv st dr rd, ovl a s b)) := by
  refine Ev.steps (k := 2) (pc' := 4) (L' := [Vr 114, Vi c]) (S' := [Vi (a 114 5)]) (h' := ((SHv st dr rd), (ovl a s b))) (fun _ => rfl) ?_
  rw [hB.2.2.2]
  refine Ev.ite (P := 303 = c) (k := 2) (a := 19) (b := 8) (L' := [Vr 114, Vi c]) (S' := []) (h' := ((SHv st dr rd), (ovl a s b))) (fun _ => rfl) (fun b5 => ?_) (fun b5 => ?_)
  · exact absurd b5.symm hc
  · refine Ev.call (k := 4) (pc1 := 14) (L1 := [Vr 114, Vi c]) (S1 := [Vi (a 114 6), Vi 1, Vr 114]) (h1 := ((SHv st dr rd), (ovl a s b))) (m' := 29) (as := [Vr 114, Vi 1, Vi (a 114 6)]) (S' := []) (L0 := [Vr 114, Vi 1, Vi (a 114 6)]) (fun _ => rfl) rfl rfl rfl rfl rfl rfl (c_fail_same hB 1 (a 114 6)) (fun r h' hq => ?_)
    obtain ⟨rfl, rfl⟩ := hq
    show Ev X _ _ 17 [Vr 114, Vi c] [] ((SHv st dr rd), (ovl a s b)) _
    refine Ev.fin (k := 2) (r := (some (Vi 0))) (h' := ((SHv st dr rd), (ovl a s b))) (fun _ => rfl) ?_
    exact ⟨rfl, rfl⟩
theorem c_opens {X : List Int} {d : Nat} {st dr rd : Int} {a s b : C3} {W : TXT} {p : Nat} (hk : TkC W p a) (c k : Nat) (hk8 : k ≤ 8) (h8 : a 114 8 = 8 - (k : Int)) : Ev X (d + 2) 51 0 [Vr 114, Vi (c : Int)] [] (SHv st dr rd, ovl a s b) (fun rr hh => ∃ a' : C3, hh = (SHv st dr rd, ovl a' s b) ∧ ResC (opnT W c k p) (fun p1 => rr = some (Vi 1) ∧ FrO 114 114 a a' ∧ a' 114 8 = 9 - (k : Int) ∧ TkC W p1 a') (fun e => (rr = some (Vi 0) ∨ rr = some (Vi 1)) ∧ BdT W a e a')) := by
  refine Ev.steps (k := 2) (pc' := 4) (L' := [Vr 114, Vi (c : Int)]) (S' := [Vi (a 114 5)]) (h' := ((SHv st dr rd), (ovl a s b))) (fun _ => rfl) ?_
  rw [hk.2.2.2.2.1]
  refine Ev.ite (P := ((tC W p : Nat) : Int) = (c : Int)) (k := 2) (a := 19) (b := 8) (L' := [Vr 114, Vi (c : Int)]) (S' := []) (h' := ((SHv st dr rd), (ovl a s b))) (fun _ => rfl) (fun b5 => ?_) (fun b5 => ?_)
  · refine Ev.steps (k := 2) (pc' := 23) (L' := [Vr 114, Vi (c : Int)]) (S' := [Vi (a 114 8)]) (h' := ((SHv st dr rd), (ovl a s b))) (fun _ => rfl) ?_
    rw [h8]
    refine Ev.ite (P := (8 - (k : Int)) < 8) (k := 2) (a := 39) (b := 28) (L' := [Vr 114, Vi (c : Int)]) (S' := []) (h' := ((SHv st dr rd), (ovl a s b))) (fun _ => rfl) (fun b25 => ?_) (fun b25 => ?_)
    · refine Ev.steps (k := 3) (pc' := 44) (L' := [Vr 114, Vi (c : Int)]) (S' := [Vi (a 114 8), Vr 114]) (h' := ((SHv st dr rd), (ovl a s b))) (fun _ => rfl) ?_
      rw [h8]
      refine Ev.steps (k := 2) (pc' := 46) (L' := [Vr 114, Vi (c : Int)]) (S' := [Vi (w32 ((8 - (k : Int)) + 1)), Vr 114]) (h' := ((SHv st dr rd), (ovl a s b))) (fun _ => rfl) ?_
      rw [show (w32 ((8 - (k : Int)) + 1)) = ((8 - (k : Int)) + 1) from w32_id (by unfold R32; omega)]
      refine Ev.putf (c' := (ovl (updC a 114 8 ((8 - (k : Int)) + 1)) s b)) rfl (by decide) rfl rfl rfl (ovl_wc (by decide)) ?_
      refine Ev.call (k := 1) (pc1 := 50) (L1 := [Vr 114, Vi (c : Int)]) (S1 := [Vr 114]) (h1 := ((SHv st dr rd), (ovl (updC a 114 8 ((8 - (k : Int)) + 1)) s b))) (m' := 27) (as := [Vr 114]) (S' := []) (L0 := [Vr 114, Vx, Vx, Vx, Vx]) (fun _ => rfl) rfl rfl rfl rfl rfl rfl (c_next (a := (updC a 114 8 ((8 - (k : Int)) + 1))) (W := W) (p := p) (show TkC W p (updC a 114 8 ((8 - (k : Int)) + 1)) from ⟨hk.1.fo rfl rfl rfl, hk.2⟩)) (fun r h' hq => ?_)
      obtain ⟨rfl, a9, rfl, hq⟩ := hq
      rcases hq with ⟨p9, hx, ho⟩ | ⟨e9, hx, hb⟩
      · show Ev X _ _ 53 [Vr 114, Vi (c : Int)] [] ((SHv st dr rd), (ovl a9 s b)) _
        refine Ev.fin (k := 2) (r := (some (Vi 1))) (h' := ((SHv st dr rd), (ovl a9 s b))) (fun _ => rfl) ?_
        refine ⟨a9, rfl, ?_⟩
        unfold opnT
        rw [if_neg (by omega), if_neg (by omega), hx]
        first
          | exact Or.inl ⟨_, rfl, rfl, (FrO.rf.up (by omega)).tr ho.1, ho.2.1.trans (by rw [updC_sm]; omega), ho.2.2⟩
          | exact Or.inr ⟨_, rfl, Or.inr rfl, (FrO.rf.up (by omega)).tr hb.1, hb.2⟩
      · show Ev X _ _ 53 [Vr 114, Vi (c : Int)] [] ((SHv st dr rd), (ovl a9 s b)) _
        refine Ev.fin (k := 2) (r := (some (Vi 1))) (h' := ((SHv st dr rd), (ovl a9 s b))) (fun _ => rfl) ?_
        refine ⟨a9, rfl, ?_⟩
        unfold opnT
        rw [if_neg (by omega), if_neg (by omega), hx]
        first
          | exact Or.inl ⟨_, rfl, rfl, (FrO.rf.up (by omega)).tr ho.1, ho.2.1.trans (by rw [updC_sm]; omega), ho.2.2⟩
          | exact Or.inr ⟨_, rfl, Or.inr rfl, (FrO.rf.up (by omega)).tr hb.1, hb.2⟩
    · refine Ev.steps (k := 4) (pc' := 34) (L' := [Vr 114, Vi (c : Int)]) (S' := [Vi (a 114 6), Vi 5, Vr 114]) (h' := ((SHv st dr rd), (ovl a s b))) (fun _ => rfl) ?_
      rw [hk.2.2.2.2.2.1]
      refine Ev.call (k := 0) (pc1 := 34) (L1 := [Vr 114, Vi (c : Int)]) (S1 := [Vi ((tA W p : Nat) : Int), Vi 5, Vr 114]) (h1 := ((SHv st dr rd), (ovl a s b))) (m' := 29) (as := [Vr 114, Vi 5, Vi ((tA W p : Nat) : Int)]) (S' := []) (L0 := [Vr 114, Vi 5, Vi ((tA W p : Nat) : Int)]) (fun _ => rfl) rfl rfl rfl rfl rfl rfl (c_fail_t hk 5 ((tA W p : Nat) : Int) (by decide)) (fun r h' hq => ?_)
      obtain ⟨rfl, a9, rfl, hb⟩ := hq
      show Ev X _ _ 37 [Vr 114, Vi (c : Int)] [] ((SHv st dr rd), (ovl a9 s b)) _
      refine Ev.fin (k := 2) (r := (some (Vi 0))) (h' := ((SHv st dr rd), (ovl a9 s b))) (fun _ => rfl) ?_
      refine ⟨a9, rfl, ?_⟩
      unfold opnT
      rw [if_neg (by omega), if_pos (by omega)]
      exact Or.inr ⟨_, rfl, Or.inl rfl, hb⟩
  · refine Ev.steps (k := 4) (pc' := 14) (L' := [Vr 114, Vi (c : Int)]) (S' := [Vi (a 114 6), Vi 1, Vr 114]) (h' := ((SHv st dr rd), (ovl a s b))) (fun _ => rfl) ?_
    rw [hk.2.2.2.2.2.1]
    refine Ev.call (k := 0) (pc1 := 14) (L1 := [Vr 114, Vi (c : Int)]) (S1 := [Vi ((tA W p : Nat) : Int), Vi 1, Vr 114]) (h1 := ((SHv st dr rd), (ovl a s b))) (m' := 29) (as := [Vr 114, Vi 1, Vi ((tA W p : Nat) : Int)]) (S' := []) (L0 := [Vr 114, Vi 1, Vi ((tA W p : Nat) : Int)]) (fun _ => rfl) rfl rfl rfl rfl rfl rfl (c_fail_t hk 1 ((tA W p : Nat) : Int) (by decide)) (fun r h' hq => ?_)
    obtain ⟨rfl, a9, rfl, hb⟩ := hq
    show Ev X _ _ 17 [Vr 114, Vi (c : Int)] [] ((SHv st dr rd), (ovl a9 s b)) _
    refine Ev.fin (k := 2) (r := (some (Vi 0))) (h' := ((SHv st dr rd), (ovl a9 s b))) (fun _ => rfl) ?_
    refine ⟨a9, rfl, ?_⟩
    unfold opnT
    rw [if_pos (by omega)]
    exact Or.inr ⟨_, rfl, Or.inl rfl, hb⟩
