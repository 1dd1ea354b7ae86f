/-- what was there before the law began -/
theorem pm_tb0 {s : State} {b : Nat} {C n : String} {tb : List Int} {A : Nat → Prop} (hlen : tb.length < 2 ^ 31) (hl : (Cond.laysStatic C n "[I").before #[Value.ref b] s = true) (hini : (Cond.initialized C).before #[Value.ref b] s = true) (har : (Cond.arrayOf (.static C n "[I") .int).before #[Value.ref b] s = true) (hle : (Cond.eq (.length (.static C n "[I")) (.int (Int32.ofNat tb.length))).before #[Value.ref b] s = true)
    (hel : ∀ j, j < tb.length → (Cond.eq (.elem (.static C n "[I") (.int (Int32.ofNat j))) (.int (Int32.ofInt (tb.getD j 0)))).before #[Value.ref b] s = true) (hA : ∀ a : Nat, a < s.heap.size → ¬ A a) : ∃ t : Nat, va_Z C n "[I" (.ref t) A s s.heap ∧ va_T .int t tb.length (fun j => .int (Int32.ofInt (tb.getD j 0))) A s s.heap := by
  obtain ⟨t, h1, h2⟩ := va_Tof (args := #[Value.ref b]) (f := fun j => .int (Int32.ofInt (tb.getD j 0))) (A := A) hlen har (va_eqt hle) (fun j hj => va_eqt (hel j hj)) hA
  exact ⟨t, va_Zof hl hini h1 hA, h2⟩
def pm_elw (C n : String) (tb : List Int) : List Cond := (List.range tb.length).map fun j => .eq (.elem (.static C n "[I") (.int (Int32.ofNat j))) (.int (Int32.ofInt (tb.getD j 0)))
theorem pm_fl1 : (pm_elw "SnowHouse" "MOST_OF" pm_most).all (fun w => decide (w ∈ flatC (Jvm.Cond.and given_1 narrow_1))) = true := by decide +kernel
theorem pm_fl2 : (pm_elw "SnowHouse" "TRACE_SHIFT" pm_shift).all (fun w => decide (w ∈ flatC (Jvm.Cond.and given_1 narrow_1))) = true := by decide +kernel
theorem pm_fl3 : (pm_elw "SnowHouse" "TRACE_MASK" pm_mask).all (fun w => decide (w ∈ flatC (Jvm.Cond.and given_1 narrow_1))) = true := by decide +kernel
def pm_strT : Term := .string "SnowHouse$Reader" 27
def pm_elb : List Cond := (List.range 124).map fun j => .eq (.elem (.field pm_strT "java/lang/String" "value" "[B") (.int (Int32.ofNat j))) (.int (Int32.ofInt (pm_own.getD j 0)))
theorem pm_fl4 : pm_elb.all (fun w => decide (w ∈ flatC (Jvm.Cond.and given_1 narrow_1))) = true := by decide +kernel
theorem pm_elw_at {C n : String} {tb : List Int} {s : State} {b : Nat} (h : (pm_elw C n tb).all (fun w => decide (w ∈ flatC (Jvm.Cond.and given_1 narrow_1))) = true) (hgv : (Jvm.Cond.and given_1 narrow_1).before #[Value.ref b] s = true) (j : Nat) (hj : j < tb.length) : (Cond.eq (.elem (.static C n "[I") (.int (Int32.ofNat j))) (.int (Int32.ofInt (tb.getD j 0)))).before #[Value.ref b] s = true :=
  flat_of_before _ hgv _ (of_decide_eq_true (List.all_eq_true.mp h _ (List.mem_map.mpr ⟨j, List.mem_range.mpr hj, rfl⟩)))
theorem pm_RO0 {s : State} {b L : Nat} {xs : Nat → Int32} (hL : L ≤ 3072) (hts : ∀ w ∈ lw_tbl, w.before #[Value.ref b] s = true) (hX : va_X b L xs s s.heap) (hbl : b < s.heap.size) (hgv : (Jvm.Cond.and given_1 narrow_1).before #[Value.ref b] s = true) :
    ∃ (roA : Nat → Nat) (z8 : Value), roA 0 = b ∧ pm_RO s.heap.size roA z8 ((List.range L).map (fun j => (xs j).toInt)) s s.heap := by
  have hA : ∀ a : Nat, a < s.heap.size → ¬ (fun q : Nat => s.heap.size ≤ q) a := fun a h => Nat.not_le.mpr h
  have hs := flat_of_before _ hgv
  have hini : (Cond.initialized "SnowHouse").before #[Value.ref b] s = true := hts _ (by decide +kernel)
  obtain ⟨t1, a1, a2⟩ := pm_tb0 (tb := pm_most) (A := fun q : Nat => s.heap.size ≤ q) (C := "SnowHouse") (n := "MOST_OF") (by decide) (hts _ (by decide +kernel)) hini (hs _ (by decide +kernel)) (hs _ (by decide +kernel)) (pm_elw_at pm_fl1 hgv) hA
  obtain ⟨t2, b1, b2⟩ := pm_tb0 (tb := pm_shift) (A := fun q : Nat => s.heap.size ≤ q) (C := "SnowHouse") (n := "TRACE_SHIFT") (by decide) (hts _ (by decide +kernel)) hini (hs _ (by decide +kernel)) (hs _ (by decide +kernel)) (pm_elw_at pm_fl2 hgv) hA
  obtain ⟨t3, c1, c2⟩ := pm_tb0 (tb := pm_mask) (A := fun q : Nat => s.heap.size ≤ q) (C := "SnowHouse") (n := "TRACE_MASK") (by decide) (hts _ (by decide +kernel)) hini (hs _ (by decide +kernel)) (hs _ (by decide +kernel)) (pm_elw_at pm_fl3 hgv) hA
  have d1 : va_Z "java/lang/String" "COMPACT_STRINGS" "Z" (.int 1) (fun q : Nat => s.heap.size ≤ q) s s.heap := va_Zof (args := #[Value.ref b]) (hts _ (by decide +kernel)) (hts _ (by decide +kernel)) (va_eqi (hs _ (by decide +kernel))) hA
  have e1 : va_Zq "jdk/internal/util/Preconditions" "SIOOBE_FORMATTER" "Ljava/util/function/BiFunction;" (fun q : Nat => s.heap.size ≤ q) s s.heap := va_Zqof (args := #[Value.ref b]) (hts _ (by decide +kernel)) (hts _ (by decide +kernel)) (hs _ (by decide +kernel)) hA
  obtain ⟨z8, e2, e3⟩ : ∃ z8 : Value, va_Z "jdk/internal/util/Preconditions" "SIOOBE_FORMATTER" "Ljava/util/function/BiFunction;" z8 (fun q : Nat => s.heap.size ≤ q) s s.heap ∧ z8.category = 1 := by
    rcases e1 with e1 | ⟨t, e1⟩
    · exact ⟨_, e1, rfl⟩
    · exact ⟨_, e1, rfl⟩
  obtain ⟨adK, adV, f1, f2⟩ := vk_Sof (args := #[Value.ref b]) (s := s) (N := 1) (tm := fun _ => pm_strT) (len := [124]) (byt := [pm_own.map Int32.ofInt]) (A := fun q : Nat => s.heap.size ≤ q)
    (fun i hi => by rw [show i = 0 by omega]; decide) (fun i hi => hs _ (by decide +kernel)) (fun i hi => hs _ (by decide +kernel)) (fun i hi => hs _ (by decide +kernel)) (fun i hi => by rw [show i = 0 by omega]; exact hs _ (by decide +kernel))
    (fun i hi j hj => by
      have hi0 : i = 0 := by omega
      subst hi0
      have hj : j < 124 := hj
      have e4 : (([pm_own.map Int32.ofInt].getD 0 []).getD j 0) = Int32.ofInt (pm_own.getD j 0) := by
        show (pm_own.map Int32.ofInt).getD j 0 = _
        rw [List.getD_eq_getElem?_getD, List.getD_eq_getElem?_getD, List.getElem?_map]
        cases pm_own[j]? <;> rfl
      rw [e4]
      exact flat_of_before _ hgv _ (of_decide_eq_true (List.all_eq_true.mp pm_fl4 _ (List.mem_map.mpr ⟨j, List.mem_range.mpr hj, rfl⟩)))) (fun i j hi hj hij => absurd (show i = j by omega) hij) hA
  obtain ⟨g1, g2, g3, g4⟩ := f1.1 0 (by omega)
  have g4 : va_T .byte (adV 0) 124 (fun j => .int ((pm_own.map Int32.ofInt).getD j 0)) (fun q : Nat => s.heap.size ≤ q) s s.heap := g4
  have e5 : (fun j : Nat => Value.int ((pm_own.map Int32.ofInt).getD j 0)) = fun j => .int (Int32.ofInt (pm_own.getD j 0)) := by
    funext j
    rw [List.getD_eq_getElem?_getD, List.getD_eq_getElem?_getD, List.getElem?_map]
    cases pm_own[j]? <;> rfl
  rw [e5] at g4
  have k1 : vk_R "SnowHouse$Reader" 27 "room door who in thing says go take lay wipe feel kill when or and not all at has near alone dead knows minute mood min max " (adK 0) s := by
    exact vk_R.of (A := #[Value.ref b]) (hts _ (by decide +kernel)) (f2 0 (by omega))
  refine ⟨fun k => match k with
    | 0 => b
    | 1 => t1
    | 2 => t2
    | 3 => t3
    | 4 => adK 0
    | _ => adV 0, z8, rfl, ⟨?_, hbl, ?_, ?_⟩, ⟨a1, a2⟩, ⟨b1, b2⟩, ⟨c1, c2⟩, d1, ⟨e2, e3⟩, k1, g1, g2, g3, g4⟩
  · obtain ⟨scr, z1, z2, z3, z4, z5⟩ := hX
    refine ⟨scr, z1, z2, z3, by rw [z4]; simp, fun j hj => ?_⟩
    have hj' : j < L := by simpa using hj
    rw [z5 j hj']
    congr 2
    show xs j = Int32.ofInt (((List.range L).map (fun j => (xs j).toInt)).getD j 0)
    rw [List.getD_eq_getElem?_getD, List.getElem?_map, List.getElem?_range hj']
    exact (Int32.ofInt_toInt _).symm
  · intro x hx
    obtain ⟨j, -, rfl⟩ := List.mem_map.mp hx
    exact R32_toInt _
  · simp
    omega
/-- THE CLAIM, out of what the pure machine does with the law on every script -/
theorem pm_start (pure_law : ∀ X : List Int, (∀ x ∈ X, R32 x) → X.length ≤ 3072 → ∃ (f d : Nat) (h' : pm_H), d ≤ 1300 ∧ exec X f d 259 0 [Vr (-2), Vx, Vx, Vx] [] ([], fun _ _ => 0) = some (some (Vi 1), h') ∧ h'.1.length ≤ 600000 ∧ pm_sz h' ≤ 7302250)
    {p : Program} {e : Env} {s : State} {m : MethodId} {below : List Frame} {meth : Method} {c : Code} (l : Launch) {b L : Nat} {xs : Nat → Int32} (hL : L ≤ 3072) (C0 : lw_At p s m meth c b L xs) : W p l e room_1 s m #[Value.ref b] below meth c s.heap [] 0 0 (lw_Z below #[Value.ref b] s) (entryFrame m ([Value.ref b] : List Value).toArray 4) := by
  obtain ⟨hx, hb, hr, hml, hown, hts, hX, hbl, hlocks, hgv⟩ := C0
  obtain ⟨roA, z8, hro, hRO⟩ := pm_RO0 hL hts hX hbl hgv
  obtain ⟨c0, iS0, hKn0⟩ := u_known (C := "SnowHouse$Breakfast") (T := pm_T0) (N := 3) (n := 3) hts (pm_class (ci := 0) rfl).2.choose_spec.2.2.2.2.2 (hts _ (by decide +kernel))
  obtain ⟨c1, iS1, hKn1⟩ := u_known (C := "SnowHouse$Changes") (T := pm_T1) (N := 6) (n := 6) hts (pm_class (ci := 1) rfl).2.choose_spec.2.2.2.2.2 (hts _ (by decide +kernel))
  obtain ⟨c2, iS2, hKn2⟩ := u_known (C := "SnowHouse$Claim") (T := pm_T2) (N := 4) (n := 4) hts (pm_class (ci := 2) rfl).2.choose_spec.2.2.2.2.2 (hts _ (by decide +kernel))
  obtain ⟨c3, iS3, hKn3⟩ := u_known (C := "SnowHouse$Diary") (T := pm_T3) (N := 6) (n := 6) hts (pm_class (ci := 3) rfl).2.choose_spec.2.2.2.2.2 (hts _ (by decide +kernel))
  obtain ⟨c4, iS4, hKn4⟩ := u_known (C := "SnowHouse$Evening") (T := pm_T4) (N := 8) (n := 8) hts (pm_class (ci := 4) rfl).2.choose_spec.2.2.2.2.2 (hts _ (by decide +kernel))
  obtain ⟨c5, iS5, hKn5⟩ := u_known (C := "SnowHouse$Finder") (T := pm_T5) (N := 9) (n := 9) hts (pm_class (ci := 5) rfl).2.choose_spec.2.2.2.2.2 (hts _ (by decide +kernel))
  obtain ⟨c6, iS6, hKn6⟩ := u_known (C := "SnowHouse$Reader") (T := pm_T6) (N := 11) (n := 11) hts (pm_class (ci := 6) rfl).2.choose_spec.2.2.2.2.2 (hts _ (by decide +kernel))
  obtain ⟨c7, iS7, hKn7⟩ := u_known (C := "SnowHouse$Rule") (T := pm_T7) (N := 7) (n := 7) hts (pm_class (ci := 7) rfl).2.choose_spec.2.2.2.2.2 (hts _ (by decide +kernel))
  obtain ⟨c8, iS8, hKn8⟩ := u_known (C := "SnowHouse$Scene") (T := pm_T8) (N := 9) (n := 9) hts (pm_class (ci := 8) rfl).2.choose_spec.2.2.2.2.2 (hts _ (by decide +kernel))
  obtain ⟨c9, iS9, hKn9⟩ := u_known (C := "SnowHouse$Story") (T := pm_T9) (N := 12) (n := 12) hts (pm_class (ci := 9) rfl).2.choose_spec.2.2.2.2.2 (hts _ (by decide +kernel))
  obtain ⟨c10, iS10, hKn10⟩ := u_known (C := "SnowHouse") (T := pm_T10) (N := 9) (n := 9) hts (pm_class (ci := 10) rfl).2.choose_spec.2.2.2.2.2 (hts _ (by decide +kernel))
  obtain ⟨c11, iS11, hKn11⟩ := u_known (C := "SnowHouseModel") (T := pm_T11) (N := 79) (n := 79) hts (pm_class (ci := 11) rfl).2.choose_spec.2.2.2.2.2 (hts _ (by decide +kernel))
  obtain ⟨G, hKc⟩ : ∃ G : va_G, ∀ (k : Nat) (q : vw_C), pm_cl[k]? = some q → u_Kn s q.1 q.2.1 q.2.2 (G.1 k) (G.2 k) := by
    refine ⟨(fun k => [c0, c1, c2, c3, c4, c5, c6, c7, c8, c9, c10, c11].getD k 0, fun k => [iS0, iS1, iS2, iS3, iS4, iS5, iS6, iS7, iS8, iS9, iS10, iS11].getD k iS0), ?_⟩
    intro k q hq
    match k, hq with
    | 0, hq => cases hq; exact hKn0
    | 1, hq => cases hq; exact hKn1
    | 2, hq => cases hq; exact hKn2
    | 3, hq => cases hq; exact hKn3
    | 4, hq => cases hq; exact hKn4
    | 5, hq => cases hq; exact hKn5
    | 6, hq => cases hq; exact hKn6
    | 7, hq => cases hq; exact hKn7
    | 8, hq => cases hq; exact hKn8
    | 9, hq => cases hq; exact hKn9
    | 10, hq => cases hq; exact hKn10
    | 11, hq => cases hq; exact hKn11
    | k + 12, hq => simp at hq
  obtain ⟨f, d, h', hd, hex, hc, hsz⟩ := pure_law ((List.range L).map (fun j => (xs j).toInt)) hRO.1.2.2.1 (by simpa using hL)
  have hz := hRO.2.2.2.2.2.1.2
  have hht : pm_hts #[Value.ref b] s := ⟨fun w hw _ => hts w hw, fun w hw hn => by
    have h2 := pm_nw2_of hw hn
    have h3 := hts w hw
    unfold pm_nw2 at h2
    split at h2
    · exact va_Nw.of rfl h3
    · exact va_Nw.of rfl h3
    · exact va_AO.of h3
    · cases h2⟩
  have F : pm_FR p s m #[Value.ref b] meth c 259 s.heap.size roA z8 ((List.range L).map (fun j => (xs j).toInt)) := by
    refine ⟨hx, hb, by rw [pm_mk_law]; exact hml, by rw [pm_mk_law]; exact hown, hht, fun q => ?_, Nat.le_refl _, hRO⟩
    rw [pm_mk_law] at q
    cases q
  have hW : pm_WD G s.heap.size roA z8 [] ([], fun _ _ => 0) s s.heap := by
    refine ⟨rfl, ⟨fun o sh h => by simp at h, fun _ _ _ => rfl⟩, fun k q h => by simp [pm_ws] at h, ⟨fun i j p q h => by simp [pm_ws] at h, fun k q h => by simp [pm_ws] at h⟩, [], ⟨hKc, fun k q h => by simp at h⟩, fun o a sh h => by simp at h⟩
  have hLR := pm_entry (ad := pm_adr roA []) hz (as := [Vr (-2)]) (n := 4) (by decide)
  have e0 : ([Vr (-2)] : List pm_V).map (pm_cv (pm_adr roA []) z8) = [Value.ref b] := by
    rw [← hro]
    rfl
  rw [e0] at hLR
  rw [lg_entry_eq]
  have e1 : pm_sz (([], fun _ _ => 0) : pm_H) = 0 := rfl
  have e2 : (([], fun _ _ => 0) : pm_H).1.length = 0 := rfl
  refine pm_sound _ f d 259 0 _ [] _ _ h' hex l p e room_1 s m #[Value.ref b] below meth c s.heap [] 0 0 _ G s.heap.size roA z8 [] _ F hW va_S.rf hLR (okL.cons (by show (-2 : Int) < _; decide) (okL.cons trivial (okL.cons trivial (okL.cons trivial okL.nil)))) okL.nil (by rw [pm_mk_law]; rfl) (by show d + 1 ≤ 2048; omega) (by show 40 + 64 * d ≤ 84000; omega) (by rw [e2]; show 0 + (h'.1.length - 0) ≤ 600000; omega) (by rw [e1]; show 0 + (pm_sz h' - 0) ≤ 7302250; omega) ?_
  intro ys H' locs' pc' ls' w1 w2 w3 w4
  obtain ⟨i, n, hd1, hd2, hd3⟩ := w4
  rw [pm_mk_law] at hd3
  have hi : i = .ireturn := by
    have hd3 : stpQ 3 i [.inl 1] = some (some (Vi 1)) := hd3
    unfold stpQ at hd3
    split at hd3 <;> first | rfl | cases hd3
  subst hi
  rw [Nat.eq_of_beq_eq_true hd2] at hd1
  refine va_forget w2.2.2 ?_
  refine W.widen (k := 600000) (n := 7302250) (by rw [e2]; omega) (by rw [e1]; omega) ?_
  exact lw_ret hx hb hr hlocks hd1
