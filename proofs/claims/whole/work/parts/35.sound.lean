theorem stpS_len {i : Instr} {pc pc' : Nat} {L L' S S' : List pm_V} (h : stpS i pc L S = some (pc', L', S')) : L'.length = L.length := by
  have hpsh : ∀ {pc1 : Nat} {b : Bool} {v : pm_V}, pm_psh pc1 L S b v = some (pc', L', S') → L'.length = L.length := fun h => by obtain ⟨-, h2⟩ := pm_bif h; cases h2; rfl
  have hldi : ∀ {k pc1 : Nat}, pm_ldi L k pc1 S = some (pc', L', S') → L'.length = L.length := fun h => by unfold pm_ldi at h; split at h <;> cases h; rfl
  have hldl : ∀ {k pc1 : Nat}, pm_ldl L k pc1 S = some (pc', L', S') → L'.length = L.length := fun h => by unfold pm_ldl at h; split at h <;> cases h; rfl
  have hldr : ∀ {k pc1 : Nat}, pm_ldr L k pc1 S = some (pc', L', S') → L'.length = L.length := fun h => by
    unfold pm_ldr at h
    split at h
    · obtain ⟨-, h2⟩ := pm_bif h; cases h2; rfl
    · cases h
  have hsti : ∀ {k pc1 : Nat}, pm_sti L k pc1 S = some (pc', L', S') → L'.length = L.length := fun h => by obtain ⟨x, T, rfl, h1⟩ := pI_spec h; obtain ⟨-, h2⟩ := pm_bif h1; cases h2; exact setL_len ..
  have hstr : ∀ {k pc1 : Nat}, pm_str L k pc1 S = some (pc', L', S') → L'.length = L.length := fun h => by obtain ⟨x, T, rfl, h1⟩ := pR_spec h; obtain ⟨-, h2⟩ := pm_bif h1; cases h2; exact setL_len ..
  have hstl : ∀ {k pc1 : Nat}, pm_stl L k pc1 S = some (pc', L', S') → L'.length = L.length := fun h => by obtain ⟨x, T, rfl, h1⟩ := pL_spec h; obtain ⟨-, h2⟩ := pm_bif h1; cases h2; rw [setX_len, setL_len]
  have hii : ∀ {f : Int → Int → Int} {pc1 : Nat}, pm_ii f pc1 L S = some (pc', L', S') → L'.length = L.length := fun h => by obtain ⟨y, T, rfl, h1⟩ := pI_spec h; obtain ⟨x, T, rfl, h2⟩ := pI_spec h1; cases h2; rfl
  have hll : ∀ {f : Int → Int → Int} {pc1 : Nat}, pm_ll f pc1 L S = some (pc', L', S') → L'.length = L.length := fun h => by obtain ⟨y, T, rfl, h1⟩ := pL_spec h; obtain ⟨x, T, rfl, h2⟩ := pL_spec h1; cases h2; rfl
  have hli : ∀ {f : Int → Int → Int} {pc1 : Nat}, pm_li f pc1 L S = some (pc', L', S') → L'.length = L.length := fun h => by obtain ⟨y, T, rfl, h1⟩ := pI_spec h; obtain ⟨x, T, rfl, h2⟩ := pL_spec h1; cases h2; rfl
  have hbr : ∀ {P : Prop} [Decidable P] {off : Int} {T : List pm_V}, pm_br P pc off L T = some (pc', L', S') → L'.length = L.length := fun h => by obtain ⟨-, h2⟩ := pm_bif h; cases h2; rfl
  have hgt : ∀ {off : Int} {T : List pm_V}, pm_gt pc off L T = some (pc', L', S') → L'.length = L.length := fun h => by obtain ⟨-, h2⟩ := pm_bif h; cases h2; rfl
  cases i with
  | iconst k => exact hpsh h
  | lconst k => exact hpsh h
  | bipush k => exact hpsh h
  | sipush k => exact hpsh h
  | iload_n k => exact hldi h
  | iload k => exact hldi h
  | lload_n k => exact hldl h
  | lload k => exact hldl h
  | aload_n k => exact hldr h
  | aload k => exact hldr h
  | istore_n k => exact hsti h
  | istore k => exact hsti h
  | lstore_n k => exact hstl h
  | lstore k => exact hstl h
  | astore_n k => exact hstr h
  | astore k => exact hstr h
  | iinc k a =>
    have h : pm_iin L k a (pc + 3) S = some (pc', L', S') := h
    unfold pm_iin at h
    split at h
    · obtain ⟨-, h2⟩ := pm_bif h; cases h2; exact setL_len ..
    · cases h
  | iadd => exact hii h
  | isub => exact hii h
  | imul => exact hii h
  | iand => exact hii h
  | ior => exact hii h
  | ixor => exact hii h
  | ishl => exact hii h
  | ishr => exact hii h
  | iushr => exact hii h
  | ladd => exact hll h
  | lsub => exact hll h
  | lmul => exact hll h
  | land => exact hll h
  | lor => exact hll h
  | lshl => exact hli h
  | lushr => exact hli h
  | idiv => obtain ⟨y, T, rfl, h1⟩ := pI_spec h; obtain ⟨x, T, rfl, h2⟩ := pI_spec h1; split at h2 <;> cases h2; rfl
  | irem => obtain ⟨y, T, rfl, h1⟩ := pI_spec h; obtain ⟨x, T, rfl, h2⟩ := pI_spec h1; split at h2 <;> cases h2; rfl
  | ldiv => obtain ⟨y, T, rfl, h1⟩ := pL_spec h; obtain ⟨x, T, rfl, h2⟩ := pL_spec h1; split at h2 <;> cases h2; rfl
  | lrem => obtain ⟨y, T, rfl, h1⟩ := pL_spec h; obtain ⟨x, T, rfl, h2⟩ := pL_spec h1; split at h2 <;> cases h2; rfl
  | lcmp => obtain ⟨y, T, rfl, h1⟩ := pL_spec h; obtain ⟨x, T, rfl, h2⟩ := pL_spec h1; cases h2; rfl
  | i2l => obtain ⟨x, T, rfl, h1⟩ := pI_spec h; cases h1; rfl
  | l2i => obtain ⟨x, T, rfl, h1⟩ := pL_spec h; cases h1; rfl
  | i2b => obtain ⟨x, T, rfl, h1⟩ := pI_spec h; cases h1; rfl
  | i2c => obtain ⟨x, T, rfl, h1⟩ := pI_spec h; cases h1; rfl
  | dup =>
    match S, h with
    | v :: T, h => obtain ⟨-, h2⟩ := pm_bif h; cases h2; rfl
    | [], h => exact absurd (show (none : pm_R) = some _ from h) (by simp)
  | pop =>
    match S, h with
    | v :: T, h => obtain ⟨-, h2⟩ := pm_bif h; cases h2; rfl
    | [], h => exact absurd (show (none : pm_R) = some _ from h) (by simp)
  | dup2 =>
    match S, h with
    | v :: u :: T, h => obtain ⟨-, h2⟩ := pm_bif h; cases h2; rfl
    | [v], h => exact absurd (show (none : pm_R) = some _ from h) (by simp)
    | [], h => exact absurd (show (none : pm_R) = some _ from h) (by simp)
  | ifCond c0 off => obtain ⟨x, T, rfl, h1⟩ := pI_spec h; cases c0 <;> exact hbr h1
  | if_icmp c0 off => obtain ⟨y, T, rfl, h1⟩ := pI_spec h; obtain ⟨x, T, rfl, h2⟩ := pI_spec h1; cases c0 <;> exact hbr h2
  | goto off => exact hgt h
  | tableswitch d lo hi offs =>
    obtain ⟨x, T, rfl, h1⟩ := pI_spec h
    split at h1
    · exact hgt h1
    · split at h1
      · exact hgt h1
      · cases h1
  | lookupswitch d ps =>
    obtain ⟨-, h1⟩ := pm_bif2 (show (bif pm_srt ps.toList then pI S (fun x T => pm_gt pc (pm_lku ps.toList d x) L T) else none) = some (pc', L', S') from h)
    obtain ⟨x, T, rfl, h2⟩ := pI_spec h1
    exact hgt h2
  | _ => exact absurd (show (none : pm_R) = some _ from h) (by simp)
/-- THE FRAME: what the pure machine does from here to the method's end, the machine does -/
def pm_frame (X : List Int) (f : Nat) : Prop := ∀ (d mi pc : Nat) (L S : List pm_V) (h : pm_H) (r : Option pm_V) (h' : pm_H), exec X f d mi pc L S h = some (r, h') →
  ∀ (l : Launch) (p : Program) (e : Env) (R : Room) (s : State) (m : MethodId) (args : Array Value) (below : List Frame) (meth : Method) (c : Code) (H : Heap) (locs : List Loc) (cells slots : Nat) (Q : State → Prop) (G : va_G) (base : Nat) (roA : Nat → Nat) (z8 : Value) (as : List (Nat × ClassId)) (ls : Array Slot),
    pm_FR p s m args meth c mi base roA z8 X → pm_WD G base roA z8 as h s H → va_S (fun q : Nat => base ≤ q) s.heap H locs → pm_LR (pm_cv (pm_adr roA as) z8) ls L → okL h.1.length L → okL h.1.length S → L.length = (pm_mk mi).2.2.1 → d + 1 ≤ R.frames → pm_rl d ≤ R.locals →
    cells + (h'.1.length - h.1.length) ≤ R.cells → slots + (pm_sz h' - pm_sz h) ≤ R.slots →
    (∀ (ys : List (Nat × ClassId)) (H' : Heap) (locs' : List Loc) (pc' : Nat) (ls' : Array Slot), pm_WD G base roA z8 (as ++ ys) h' s H' → va_S (fun q : Nat => base ≤ q) s.heap H' locs' → okL h'.1.length r.toList → pm_retok mi pc' r →
      W p l e R s m args below meth c H' locs' (cells + (h'.1.length - h.1.length)) (slots + (pm_sz h' - pm_sz h)) Q (F0 m pc' ls' (r.toList.map (pm_cv (pm_adr roA (as ++ ys)) z8)))) →
    W p l e R s m args below meth c H locs cells slots Q (F0 m pc ls (S.map (pm_cv (pm_adr roA as) z8)))
theorem okL.app {N : Nat} {A B : List pm_V} (ha : okL N A) (hb : okL N B) : okL N (A ++ B) := fun v hv => (List.mem_append.mp hv).elim (ha v) (hb v)
/-- a method out of its frame -/
theorem pm_met_of {X : List Int} {f : Nat} (hfr : pm_frame X f) {l : Launch} {G : va_G} {base : Nat} {roA : Nat → Nat} {z8 : Value} {as : List (Nat × ClassId)} {d mi : Nat} (hmi : mi < 259) {as0 : List pm_V} {h h' : pm_H} {r : Option pm_V}
    (hex : exec X f d mi 0 (pm_pad (pm_spread as0) (pm_mk mi).2.2.1) [] h = some (r, h')) (hsp : (pm_spread as0).length ≤ (pm_mk mi).2.2.1) (hok : okL h.1.length as0) : pm_met l G base roA z8 X as d mi as0 h r h' := by
  intro y hy
  obtain ⟨y', hy', c1, c2, c3, c4, c5, c6, c7, c8, c9, c10, c11, c12⟩ := pm_meth hmi
  cases hy.symm.trans hy'
  refine pm_ofW (cc := y.2.1) (maxL := y.2.2.1) (ret := y.2.2.2.1) c6 rfl ?_
  intro p e s m args below meth c s₁ B hml hP
  obtain ⟨rfl, p2, p3, p4, p5⟩ := hP
  have hts : ∀ w ∈ (Cond.code y.1 y.2.1 y.2.2.1 y.2.2.2.1 :: pm_big), w.before (as0.map (pm_cv (pm_adr roA as) z8)).toArray s = true := atoms_spec (ws := Cond.code y.1 y.2.1 y.2.2.1 y.2.2.2.1 :: pm_big) B.pre
  have hht : pm_hts (as0.map (pm_cv (pm_adr roA as) z8)).toArray s := ⟨fun w hw hg => hts w (List.mem_cons_of_mem _ (List.mem_filter.mpr ⟨hw, hg⟩)), p3⟩
  have hz := p4.2.2.2.2.2.1.2
  have hbytes : pm_bytes mi = y.2.1 := by
    unfold pm_bytes
    have hne : Nat.beq mi 259 = false := by
      cases hq : Nat.beq mi 259 with
      | false => rfl
      | true => have := Nat.eq_of_beq_eq_true hq; omega
    rw [hne, hy]
    rfl
  have F : pm_FR p s m (as0.map (pm_cv (pm_adr roA as) z8)).toArray meth c mi base roA z8 X := by
    refine ⟨B.exec, by rw [hbytes]; exact B.bytes, by rw [c2]; exact hml, by rw [← c4]; exact findClass_of_methodNamed B.named, hht, fun q => ?_, p2, p4⟩
    have h2 := Nat.eq_of_beq_eq_true q
    rw [← (c11 (by omega)).2.1]
    exact (name_of_methodNamed B.named B.method).1
  have hlen : (lg_sl (as0.map (pm_cv (pm_adr roA as) z8))).length ≤ y.2.2.1 := by rw [pm_spread_len hz, ← c2]; exact hsp
  rw [lg_entry_eq]
  have hLR := pm_entry (ad := pm_adr roA as) hz hsp
  rw [c2] at hLR hex hsp
  refine hfr d mi 0 _ [] h r h' hex l p e (headSpec (Cond.code y.1 y.2.1 y.2.2.1 y.2.2.2.1 :: pm_big) { frames := d + 1, cells := h'.1.length - h.1.length, slots := pm_sz h' - pm_sz h, locals := pm_rl d }).room s m _ below meth c s.heap [] 0 0 _ G base roA z8 as _ F p5 va_S.rf hLR (okL.pad _ _ (okL.spread _ hok)) okL.nil (by rw [c2, pm_pad_len _ _ hsp]) (Nat.le_refl _) (Nat.le_refl _) (by show 0 + _ ≤ _; rw [Nat.zero_add]; exact Nat.le_refl _) (by show 0 + _ ≤ _; rw [Nat.zero_add]; exact Nat.le_refl _) ?_
  intro ys H' locs' pc' ls' hW hS hr hret
  rw [Nat.zero_add, Nat.zero_add]
  refine pm_ret B.exec (by rw [hbytes]; exact B.bytes) B.returns c3 B.notSynchronized hr (fun t ht hWt => ⟨⟨ys, rfl, ?_, hr⟩, hS.F ht⟩) hS.2.2 hret
  rw [ht]
  exact hW.moved hWt.alike
set_option maxHeartbeats 2000000 in
theorem pm_sound (X : List Int) : ∀ f, pm_frame X f := by
  intro f
  induction f with
  | zero => intro d mi pc L S h r h' hex; cases hex
  | succ f ih =>
    intro d mi pc L S h r h' hex l p e R s m args below meth c H locs cells slots Q G base roA z8 as ls F hW hS0 hLR hL hS hLl hfr hlo hcs hss K
    have hF := F
    obtain ⟨hx, hb, hml, hown, ht, hini, hbs, hR⟩ := F
    have hz := hR.2.2.2.2.2.1.2
    have hls : ls.size = (pm_mk mi).2.2.1 := by rw [hLR.1, hLl]
    unfold exec at hex
    split at hex
    · cases hex
    next E hE =>
    have hdec := pm_code_dec hE
    have hok := pm_code_ok hE
    have hlenok : pm_lenok E.1 E.2.1 = true := by
      unfold pm_okE at hok
      rw [Bool.and_eq_true] at hok
      exact hok.1
    split at hex
    · next pc1 L1 S1 hst =>
      obtain ⟨g1, g2, g3⟩ := pm_sound1 (Q := Q) (H := H) (locs := locs) (cells := cells) (slots := slots) (p := p) (l := l) (e := e) (R := R) (s := s) (m := m) (args := args) (below := below) (meth := meth) (c := c) hx hb hz hdec hlenok hst hL hS hLR
      have hL1 : L1.length = (pm_mk mi).2.2.1 := by
        rw [← hLl]
        exact stpS_len hst
      exact g3 fun ls' hls' => ih d mi pc1 L1 S1 h r h' hex l p e R s m args below meth c H locs cells slots Q G base roA z8 as ls' hF hW hS0 hls' g1 g2 hL1 hfr hlo hcs hss K
    · split at hex
      · next n1 S1 h1 hst =>
        have hex1 := stpH_ext hst
        have hex2 := exec_ext f d mi (pc + n1) L S1 h1 h' r hex
        have a1 := hex1.1
        have a2 := hex1.2
        have a3 := hex2.1
        have a4 := hex2.2
        have hRl : 40 ≤ R.locals := by unfold pm_rl at hlo; omega
        obtain ⟨g1, g2, g3, g4⟩ := pm_soundH (Q := Q) (cells := cells) (slots := slots) (p := p) (l := l) (e := e) (R := R) (below := below) hx hb (hml.trans hls.symm) hown ht hbs hW hS0 hR hini (by omega) hRl hdec hok hS hst
        refine g4 (by omega) (by omega) fun ys H' locs' hW' hS' => ?_
        refine ih d mi (pc + n1) L S1 h1 r h' hex l p e R s m args below meth c H' locs' _ _ Q G base roA z8 (as ++ ys) ls hF hW' hS' (pm_LR_ext hW.1 hL hLR) (hL.mono a1) g1 hLl hfr hlo (by omega) (by omega) fun ys2 H2 locs2 pc2 ls2 w1 w2 w3 w4 => ?_
        have k1 := K (ys ++ ys2) H2 locs2 pc2 ls2 (by rw [← List.append_assoc]; exact w1) w2 w3 w4
        rw [show cells + (h1.1.length - h.1.length) + (h'.1.length - h1.1.length) = cells + (h'.1.length - h.1.length) by omega, show slots + (pm_sz h1 - pm_sz h) + (pm_sz h' - pm_sz h1) = slots + (pm_sz h' - pm_sz h) by omega, List.append_assoc]
        exact k1
      · split at hex
        · next r1 hq =>
          cases hex
          have hSr := stpQ_list hq
          subst hSr
          have k1 := K [] H locs pc ls (by rw [List.append_nil]; exact hW) hS0 hS ⟨E.1, E.2.1, hdec, hlenok, hq⟩
          rw [List.append_nil, Nat.sub_self, Nat.sub_self, Nat.add_zero, Nat.add_zero] at k1
          exact k1
        · split at hex
          · cases hex
          next m' as0 S1 hc =>
          split at hex
          · cases hex
          next d' =>
          split at hex
          · cases hex
          next r1 h1 hex1 =>
          obtain ⟨kd, k, hkind, hm', hkd, hSS, hlen, hsp, hcat, hrecv⟩ := pm_stpC_spec hc
          have hok0 : okL h.1.length as0 := fun v hv => hS v (by rw [hSS]; exact List.mem_append_left _ (List.mem_reverse.mpr hv))
          have hok1 : okL h.1.length S1 := fun v hv => hS v (by rw [hSS]; exact List.mem_append_right _ hv)
          have b1 := exec_ext f _ _ _ _ _ _ _ _ hex1
          have b2 := exec_ext f _ _ _ _ _ _ _ _ hex
          have a1 := b1.1
          have a2 := b1.2
          have a3 := b2.1
          have a4 := b2.2
          have hm259 : m' < 259 := by
            have h2 := hok
            unfold pm_okE at h2
            rw [Bool.and_eq_true] at h2
            have h3 := h2.2
            obtain ⟨i, n, a, b, v, w⟩ := E
            have hma : m' = a := hm'
            subst hma
            rcases hkind with ⟨idx, hi, rfl, rfl⟩ | ⟨idx, hi, rfl, rfl⟩ | ⟨idx, hi, rfl, rfl⟩
            · have hi : i = .invokestatic idx := hi
              subst hi
              exact (pm_calls_spec h3 hkd).1
            · have hi : i = .invokevirtual idx := hi
              subst hi
              exact (pm_calls_spec h3 hkd).1
            · have hi : i = .invokespecial idx := hi
              subst hi
              dsimp only at h3
              cases hq : Nat.beq m' 1000 with
              | true =>
                have e1 := Nat.eq_of_beq_eq_true hq
                rw [e1] at hkd
                exact absurd hkd (by decide +kernel)
              | false =>
                rw [hq] at h3
                exact (pm_calls_spec h3 hkd).1
          have hM := pm_met_of ih (l := l) (G := G) (base := base) (roA := roA) (z8 := z8) (as := as) hm259 hex1 hsp hok0
          have hrun := pm_call (p := p) (e := e) (R := R) (below := below) (cells := cells) (slots := slots) hF hW hS0 hE hc hls hM (by omega) hlo ⟨by omega, by omega⟩
          refine pm_callW hrun hS0 fun ys H1 locs1 hW1 hS1 hr1 => ?_
          have e1 : S1.map (pm_cv (pm_adr roA as) z8) = S1.map (pm_cv (pm_adr roA (as ++ ys)) z8) := (pm_map_ext hW.1 hok1).symm
          have e2 : (r1.map (pm_cv (pm_adr roA (as ++ ys)) z8)).toList ++ S1.map (pm_cv (pm_adr roA as) z8) = (r1.toList ++ S1).map (pm_cv (pm_adr roA (as ++ ys)) z8) := by
            rw [e1, List.map_append]
            cases r1 <;> rfl
          rw [e2]
          refine ih (d' + 1) mi (pc + 3) L (r1.toList ++ S1) h1 r h' hex l p e R s m args below meth c H1 locs1 _ _ Q G base roA z8 (as ++ ys) ls hF hW1 hS1 (pm_LR_ext hW.1 hL hLR) (hL.mono a1) (okL.app hr1 (hok1.mono a1)) hLl hfr hlo (by omega) (by omega) fun ys2 H2 locs2 pc2 ls2 w1 w2 w3 w4 => ?_
          have k1 := K (ys ++ ys2) H2 locs2 pc2 ls2 (by rw [← List.append_assoc]; exact w1) w2 w3 w4
          rw [show cells + (h1.1.length - h.1.length) + (h'.1.length - h1.1.length) = cells + (h'.1.length - h.1.length) by omega, show slots + (pm_sz h1 - pm_sz h) + (pm_sz h' - pm_sz h1) = slots + (pm_sz h' - pm_sz h) by omega, List.append_assoc]
          exact k1
