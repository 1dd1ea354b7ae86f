/-! THE CLASS: the fairest -/
/-- each deed's victim is a person, and dead -/
def DkO (n : Nat) (c : SC) : Prop := 0 ≤ c 9 0 ∧ ∀ k, k < (c 9 0).toNat → ∃ o : Nat, c 8 (6 * k + 1) = (o : Int) ∧ o < n ∧ c 1 o = 0
theorem DkO.cg {n : Nat} {c c' : SC} (h : DkO n c) (h8 : c' 8 = c 8) (h9 : c' 9 = c 9) (h1 : ∀ o, c 1 o = 0 → c' 1 o = 0) : DkO n c' := by
  unfold DkO at *
  rw [h8, h9]
  exact ⟨h.1, fun k hk => by
    obtain ⟨o, o1, o2, o3⟩ := h.2 k hk
    exact ⟨o, o1, o2, h1 o o3⟩⟩
theorem doesS_dk {S : STY} {c c' : SC} {r p : Nat} (hWY : WfY S) (hr : r < nL S) (hk4 : S.1 11 r ≠ 4) (hp : S.1 12 r = (p : Int)) (hd : doesS S c r = some c') (h : DkO (nW S) c) : DkO (nW S) c' := by
  have hw := hWY.2.2.2.2.2.2.2.2.2.2.2 r hr
  have h01 := doesS_01 hWY hr hk4 hp hd
  have hmono : ∀ o, c 1 o = 0 → c' 1 o = 0 := fun o ho => by
    rcases h01 with ⟨t1, -⟩ | ⟨o', -, -, -, -, -, -, o7⟩
    · rw [t1]; exact ho
    · rw [o7]
      split
      · rfl
      · exact ho
  by_cases h5 : S.1 11 r = 5
  · have hw5 := hw.2.2.2.2.1 h5
    rw [doesS_at hp, if_neg (by omega), if_neg (by omega), if_neg (by omega), if_neg (by omega)] at hd
    split at hd
    · have hc := (Option.some.inj hd).symm
      have x9 : (dropS (nT S) (updC c 1 (S.1 13 r).toNat 0) (S.1 13 r).toNat) 9 = c 9 := dropS_r (by omega)
      have x8 : (dropS (nT S) (updC c 1 (S.1 13 r).toNat 0) (S.1 13 r).toNat) 8 = c 8 := dropS_r (by omega)
      have x1 : (dropS (nT S) (updC c 1 (S.1 13 r).toNat 0) (S.1 13 r).toNat) 1 = updC c 1 (S.1 13 r).toNat 0 1 := dropS_r (by omega)
      have h29 : c' 9 0 = c 9 0 + 1 := by rw [hc, leavS_n (by omega) (by omega), deedS_9, x9]
      have h28 : ∀ i, c' 8 i = deedS (dropS (nT S) (updC c 1 (S.1 13 r).toNat 0) (S.1 13 r).toNat) p (S.1 13 r).toNat (S.1 14 r).toNat r 8 i := fun i => by rw [hc, leavS_n (by omega) (by omega)]
      have h21 : c' 1 (S.1 13 r).toNat = 0 := by rw [hc, leavS_n (by omega) (by omega), deedS_n (by omega) (by omega), x1, updC_sm]
      obtain ⟨g1, g2⟩ := h
      refine ⟨by omega, fun k hk => ?_⟩
      rw [h29] at hk
      rw [h28, deedS_8, x9, x8]
      by_cases g : k < (c 9 0).toNat
      · rw [if_neg (by omega), if_neg (by omega), if_neg (by omega), if_neg (by omega), if_neg (by omega), if_neg (by omega)]
        obtain ⟨o, o1, o2, o3⟩ := g2 k g
        exact ⟨o, o1, o2, hmono o o3⟩
      · rw [if_neg (by omega), if_neg (by omega), if_neg (by omega), if_neg (by omega), if_pos (by omega)]
        exact ⟨(S.1 13 r).toNat, rfl, by omega, h21⟩
    · cases hd
  · obtain ⟨e8, e9⟩ := doesS_89 hp hk4 hd h5 hw.1
    exact h.cg e8 e9 hmono
theorem trnS_dk {S : STY} {B c : SC} {p : Nat} (hWY : WfY S) (h : DkO (nW S) c) : DkO (nW S) (trnS S B p c).2 := by
  have h' : DkO (nW S) (felsS S B p c (nL S)) := h.cg (felsS_t (by omega) _) (felsS_t (by omega) _) (fun o ho => by rw [felsS_t (by omega)]; exact ho)
  cases ha : actS S B p (felsS S B p c (nL S)) (nL S) with
  | none => rw [trnS_none ha]; exact h'
  | some x =>
    obtain ⟨r, c'⟩ := x
    rw [trnS_some ha]
    have key : ∀ n, n ≤ nL S → actS S B p (felsS S B p c (nL S)) n = some (r, c') → DkO (nW S) c' := by
      intro n
      induction n with
      | zero => intro _ h; cases h
      | succ n ih =>
        intro hn h
        cases h1 : actS S B p (felsS S B p c (nL S)) n with
        | some x =>
          have h2 := actS_more h1 (n + 1) (by omega)
          rw [h2] at h
          rw [h] at h1
          exact ih (by omega) h1
        | none =>
          rw [actS_s h1] at h
          split at h
          · next hc =>
            cases hd : doesS S (felsS S B p c (nL S)) n with
            | none => rw [hd] at h; cases h
            | some c2 =>
              rw [hd] at h
              cases h
              exact doesS_dk hWY (by omega) hc.2.2.1 hc.1 hd h'
          · cases h
    exact key (nL S) (Nat.le_refl _) ha
theorem psnS_dk {S : STY} {B c : SC} (hWY : WfY S) (h : DkO (nW S) c) : ∀ p, DkO (nW S) (psnS S B c p)
  | 0 => h
  | p + 1 => by
    by_cases hl : psnS S B c p 1 p ≠ 0
    · rw [psnS_l hl]
      exact trnS_dk hWY (psnS_dk hWY h p)
    · rw [psnS_d hl]
      exact psnS_dk hWY h p
theorem aftS_dk {S : STY} {B : SC} (hWY : WfY S) : ∀ m, DkO (nW S) (aftS S B m)
  | 0 => ⟨by show (0 : Int) ≤ 0; omega, fun k hk => absurd hk (by show ¬ k < (0 : Int).toNat; omega)⟩
  | m + 1 => by
    rw [aftS_s]
    have h1 : DkO (nW S) (updC (aftS S B m) 5 0 m) := (aftS_dk hWY m).cg rfl rfl (fun _ h => h)
    exact (psnS_dk hWY h1 (nW S)).cg (lrnS_r (by omega)) (lrnS_r (by omega)) (fun o ho => by rw [lrnS_r (by omega)]; exact ho)
theorem lsF_up {W : Nat} {H : Nat → SC} {N v k : Nat} (h : lsF W H N v k ≠ -1) : ∀ j, lsF W H N v (k + j) ≠ -1
  | 0 => h
  | j + 1 => by
    show lsF W H N v (k + j + 1) ≠ -1
    rw [lsF_s]
    split
    · omega
    · exact lsF_up h j
theorem ls_some {W : Nat} {H : Nat → SC} {N v : Nat} (h : FairF W H N v) : lstF W H N v ≠ -1 := by
  have hL := alv_2W (W := W) (c := H N)
  have h1 : lsF W H N v (alvB W (H N) + 1) ≠ -1 := by
    rw [lsF_s]
    by_cases g : lsF W H N v (alvB W (H N)) = -1
    · have h : bcS (cldF W H N (hrdF H N (2 ^ W - 1) W) v W) = 1 := h
      rw [fair_all] at h
      rw [if_pos ⟨alv_self, Or.inl g, h⟩]
      omega
    · split
      · omega
      · exact g
  have h2 := lsF_up h1 (2 ^ W - (alvB W (H N) + 1))
  rw [show alvB W (H N) + 1 + (2 ^ W - (alvB W (H N) + 1)) = 2 ^ W by omega] at h2
  exact h2
/-- how good an evening is: how many must be asked, or -1 -/
noncomputable def goodS (S : STY) (B : SC) (n : Nat) : Int := if aftS S B n 9 0 = 1 ∧ FairF (nW S) (hisS S B) (n - 1) (aftS S B n 8 1).toNat then ((bcS (lstF (nW S) (hisS S B) (n - 1) (aftS S B n 8 1).toNat).toNat : Nat) : Int) else -1
theorem c_least2 {X : List Int} {d : Nat} {st dr rd : Int} {a s b : C3} {y : Nat} (hy : hyS y) {S : STY} {B : SC} {n : Nat} (hWY : WfY S) (hWB : WfB S B) (hn : n ≤ 180) (hn0 : 0 < n) (hcW : a (y + 1) 2 = ((nW S : Nat) : Int)) (hR : EvF S B a 142 n ∨ ∃ j, j < n ∧ a 142 6 = aftS S B j 9 0 ∧ ((1 : Nat) : Int) < aftS S B j 9 0) : Ev X (d + 5) 151 0 [Vr 141, Vr (y : Int), Vr 138, Vx] [] (SHv st dr rd, ovl a s b) (fun rr hh => rr = some (Vi (goodS S B n)) ∧ ∃ a' : C3, hh = (SHv st dr rd, ovl a' s b) ∧ FrO 138 140 a a') := by
  have hy0 : y = 2 ∨ y = 58 := hy
  have hW8 := hWY.2.2.1.1
  have h1 : a 142 6 = 1 ↔ aftS S B n 9 0 = 1 := by
    rcases hR with h | ⟨j, j1, j2, j3⟩
    · rw [h.2.2.1.1]
    · have := ded_mo hWY hWB (show j ≤ n by omega) hn
      rw [j2]
      constructor <;> intro g <;> omega
  have h1a := h1.mp
  have h1b := h1.mpr
  clear h1
  refine Ev.ite (P := (a 142 6) = 1) (k := 5) (a := 13) (b := 11) (L' := [Vr 141, Vr (y : Int), Vr 138, Vx]) (S' := []) (h' := ((SHv st dr rd), (ovl a s b))) (fun _ => rfl) (fun b8 => ?_) (fun b8 => ?_)
  · have h91 := h1a b8
    have hE : EvF S B a 142 n := by
      rcases hR with h | ⟨j, j1, j2, j3⟩
      · exact h
      · exfalso; omega
    obtain ⟨v, hv, hvW, hvd⟩ := (aftS_dk (B := B) hWY n).2 0 (by omega)
    have hv : aftS S B n 8 1 = (v : Int) := hv
    have hdd := hE.2.2.1.2 1 (by rw [h91]; decide)
    have hn1 : n - 1 + 1 = n := by omega
    have hdv : hisS S B (n - 1) 1 v = 0 := by show aftS S B (n - 1 + 1) 1 v = 0; rw [hn1]; exact hvd
    have hD : DmH (hisS S B) v n := his_dm hWY
    have hK : KilH (nW S) (hisS S B) v n := his_kil hWY hvW hn0 hdv
    clear h1a h1b
    refine Ev.steps (k := 4) (pc' := 19) (L' := [Vr 141, Vr (y : Int), Vr 138, Vx]) (S' := [Vr (y : Int), Vr 142, Vr 138]) (h' := ((SHv st dr rd), (ovl a s b))) (fun _ => rfl) ?_
    refine Ev.getr (r := ((y : Int) + 1)) rfl rfl (by omega) (shY_0 hy) rfl rfl rfl ?_
    refine Ev.steps (k := 1) (pc' := 23) (L' := [Vr 141, Vr (y : Int), Vr 138, Vx]) (S' := [Vi 2, Vr ((y : Int) + 1), Vr 142, Vr 138]) (h' := ((SHv st dr rd), (ovl a s b))) (fun _ => rfl) ?_
    refine Ev.iald (v := ((nW S : Nat) : Int)) rfl (by omega) (shY_1 hy) (by omega) (by omega) ((ovl_rc (by omega)).trans (hcW)) ?_
    refine Ev.call (k := 4) (pc1 := 30) (L1 := [Vr 141, Vr (y : Int), Vr 138, Vx]) (S1 := [Vi 1, Vi 0, Vr 142, Vi ((nW S : Nat) : Int), Vr 142, Vr 138]) (h1 := ((SHv st dr rd), (ovl a s b))) (m' := 118) (as := [Vr 142, Vi 0, Vi 1]) (S' := [Vi ((nW S : Nat) : Int), Vr 142, Vr 138]) (L0 := [Vr 142, Vi 0, Vi 1, Vx]) (fun _ => rfl) rfl rfl rfl rfl rfl rfl (c_deedPart (u := 142) (Or.inr rfl) 0 1 (by omega) (by omega)) (fun r h' hq => ?_)
    obtain ⟨rfl, rfl⟩ := hq
    rw [show a (142 + 13) (6 * 0 + 1) = (v : Int) from hdd.trans hv]
    show Ev X _ _ 33 [Vr 141, Vr (y : Int), Vr 138, Vx] [Vi (v : Int), Vi ((nW S : Nat) : Int), Vr 142, Vr 138] ((SHv st dr rd), (ovl a s b)) _
    refine Ev.call (k := 0) (pc1 := 33) (L1 := [Vr 141, Vr (y : Int), Vr 138, Vx]) (S1 := [Vi (v : Int), Vi ((nW S : Nat) : Int), Vr 142, Vr 138]) (h1 := ((SHv st dr rd), (ovl a s b))) (m' := 131) (as := [Vr 138, Vr 142, Vi ((nW S : Nat) : Int), Vi (v : Int)]) (S' := []) (L0 := [Vr 138, Vr 142, Vi ((nW S : Nat) : Int), Vi (v : Int), Vx, Vx, Vx]) (fun _ => rfl) rfl rfl rfl rfl rfl rfl (c_look (u := 142) (Or.inr rfl) hE.2.2.2.2.1 hn hn0 hW8 v hvW hD hE.1) (fun r h' hq => ?_)
    obtain ⟨rfl, a1, rfl, g1, g2⟩ := hq
    show Ev X _ _ 36 [Vr 141, Vr (y : Int), Vr 138, Vx] [] ((SHv st dr rd), (ovl a1 s b)) _
    refine Ev.call (k := 1) (pc1 := 37) (L1 := [Vr 141, Vr (y : Int), Vr 138, Vx]) (S1 := [Vr 138]) (h1 := ((SHv st dr rd), (ovl a1 s b))) (m' := 138) (as := [Vr 138]) (S' := []) (L0 := [Vr 138, Vx, Vx, Vx]) (fun _ => rfl) rfl rfl rfl rfl rfl rfl (c_fewest hn hn0 hW8 hD hdv hK g2) (fun r h' hq => ?_)
    obtain ⟨rfl, a2, rfl, g3, g4⟩ := hq
    have hlr := lsF_r (W := nW S) (H := hisS S B) (N := n - 1) (v := v) (2 ^ nW S)
    have hp8 : 2 ^ nW S ≤ 2 ^ 8 := Nat.pow_le_pow_right (by omega) hW8
    obtain ⟨lv, hlv⟩ : ∃ lv, lv = lstF (nW S) (hisS S B) (n - 1) v := ⟨_, rfl⟩
    have hfair := fun (_ : Unit) => ls_some (W := nW S) (H := hisS S B) (N := n - 1) (v := v)
    rw [← hlv] at hfair
    have hnf := fun (h : ¬ FairF (nW S) (hisS S B) (n - 1) v) => ls_none (W := nW S) hW8 hD hdv hn0 hK (fun g => h (by show bcS _ = 1; rw [fair_all]; rw [alv_self] at g; exact g)) (2 ^ nW S) (Nat.le_refl _)
    rw [← hlv]
    rw [show lsF (nW S) (hisS S B) (n - 1) v (2 ^ nW S) = lv from hlv.symm] at hlr hnf
    have hF : Unit → (FairF (nW S) (hisS S B) (n - 1) v ↔ lv ≠ -1) := fun _ => ⟨hfair (), fun h => Classical.byContradiction (fun g => h (hnf g))⟩
    clear hfair hnf
    show Ev X _ _ 40 [Vr 141, Vr (y : Int), Vr 138, Vx] [Vi lv] ((SHv st dr rd), (ovl a2 s b)) _
    refine Ev.ite (P := lv ≠ (-1)) (k := 4) (a := 50) (b := 46) (L' := [Vr 141, Vr (y : Int), Vr 138, Vi lv]) (S' := []) (h' := ((SHv st dr rd), (ovl a2 s b))) (fun _ => rfl) (fun b43 => ?_) (fun b43 => ?_)
    · refine Ev.call (k := 1) (pc1 := 51) (L1 := [Vr 141, Vr (y : Int), Vr 138, Vi lv]) (S1 := [Vi lv]) (h1 := ((SHv st dr rd), (ovl a2 s b))) (m' := 140) (as := [Vi lv]) (S' := []) (L0 := [Vi lv]) (fun _ => rfl) rfl rfl rfl rfl rfl rfl ((by rw [show lv = ((lv.toNat : Nat) : Int) by omega]; exact c_bitCount lv.toNat (by omega))) (fun r h' hq => ?_)
      obtain ⟨rfl, rfl⟩ := hq
      show Ev X _ _ 54 [Vr 141, Vr (y : Int), Vr 138, Vi lv] [Vi ((bcS lv.toNat : Nat) : Int)] ((SHv st dr rd), (ovl a2 s b)) _
      refine Ev.fin (k := 1) (r := (some (Vi ((bcS lv.toNat : Nat) : Int)))) (h' := ((SHv st dr rd), (ovl a2 s b))) (fun _ => rfl) ?_
      refine ⟨?_, a2, rfl, g1.tr (fun o ho => g3 o (by omega))⟩
      unfold goodS
      rw [hv, Int.toNat_natCast, ← hlv]
      first
        | (rw [if_neg (by exact fun h => (hF ()).mp h.2 (by omega))]; done)
        | (rw [if_pos (by exact ⟨h91, (hF ()).mpr (by omega)⟩)]; done)
    · refine Ev.fin (k := 3) (r := (some (Vi (-1)))) (h' := ((SHv st dr rd), (ovl a2 s b))) (fun _ => rfl) ?_
      refine ⟨?_, a2, rfl, g1.tr (fun o ho => g3 o (by omega))⟩
      unfold goodS
      rw [hv, Int.toNat_natCast, ← hlv]
      first
        | (rw [if_neg (by exact fun h => (hF ()).mp h.2 (by omega))]; done)
        | (rw [if_pos (by exact ⟨h91, (hF ()).mpr (by omega)⟩)]; done)
  · refine Ev.fin (k := 2) (r := (some (Vi (-1)))) (h' := ((SHv st dr rd), (ovl a s b))) (fun _ => rfl) ?_
    refine ⟨?_, a, rfl, FrO.rf⟩
    unfold goodS
    rw [if_neg (fun h => b8 (h1b h.1))]
