/-! returns, calls, and the frame -/
def pm_big : List Cond := lw_tbl.filter goodWord
theorem pm_big_good {ws : List Cond} (h : ∀ w ∈ ws, w ∈ lw_tbl ∧ goodWord w = true) : GoodIn pm_big ws := fun w hw => ⟨List.mem_filter.mpr (h w hw), good_of_word (h w hw).2⟩
def pm_rl : Nat → Nat := fun d => 40 + 64 * d
/-- where a method ends, and with what -/
def pm_retok (mi pc : Nat) (r : Option pm_V) : Prop := ∃ (i : Instr) (n : Nat), decode (pm_bytes mi) pc = .ok (i, n) ∧ pm_lenok i n = true ∧ stpQ (pm_mk mi).2.2.2.2 i r.toList = some r
theorem stpQ_list {rk : Nat} {i : Instr} {S : List pm_V} {r : Option pm_V} (h : stpQ rk i S = some r) : S = r.toList := by
  unfold stpQ at h
  split at h
  · cases h; rfl
  · split at h
    · cases h; rfl
    · cases h
  · split at h
    · cases h; rfl
    · cases h
  · split at h
    · cases h; rfl
    · cases h
  · cases h; rfl
  · cases h; rfl
  · cases h
theorem pn_and1 {x : Int} (h : x = 0 ∨ x = 1) : Int32.ofInt x &&& 1 = Int32.ofInt x := by rcases h with rfl | rfl <;> rfl
theorem pn_char {x : Int} (h0 : 0 ≤ x) (h1 : x ≤ 65535) : (Int32.ofInt x).toUInt32.toUInt16.toUInt32.toInt32 = Int32.ofInt x := by
  have e := pn_i2c (x := x) (by unfold R32; omega)
  rw [show x % 65536 = x by omega] at e
  refine Eq.trans ?_ e
  congr 1
section PMF
variable {p : Program} {l : Launch} {e : Env} {R : Room} {s : State} {m : MethodId} {args : Array Value} {below : List Frame} {meth : Method} {c : Code} {H : Heap} {locs : List Loc} {cells slots : Nat} {Q : State → Prop}
variable {cc : ByteArray} {pc : Nat} {ls : Array Slot} {G : va_G} {base : Nat} {roA : Nat → Nat} {z8 : Value} {as : List (Nat × ClassId)} {h : pm_H} {X : List Int}
theorem pm_ret {Qc : Array Value → State → Outcome → State → Prop} {free : Addr → Prop} {mi : Nat} {r : Option pm_V} {ret : Option FieldType} {N : Nat} (hx : p.tables.exec = Jvm.exec) (hb : c.code = pm_bytes mi) (hr : meth.sig.returnType = ret) (hrt : pm_rtok (pm_mk mi).2.2.2.2 ret = true) (hlocks : meth.locks = false) (hok : okL N r.toList) {ad : Int → Nat}
    (hq : ∀ t : State, t.heap = H → s.WarmedH t.vm → Qc args s (.returned (r.map (pm_cv ad z8))) t) (hf : ∀ q ∈ locs, free q.base) (hret : pm_retok mi pc r) :
    W p l e R s m args below meth c H locs cells slots (MQ below Qc args s cells slots free) (F0 m pc ls (r.toList.map (pm_cv ad z8))) := by
  obtain ⟨i, n, hd, hl, hs⟩ := hret
  generalize (pm_mk mi).2.2.2.2 = rk at hs hrt
  unfold stpQ at hs
  split at hs
  · next x hrl =>
    cases hs
    rw [Nat.eq_of_beq_eq_true hl] at hd
    have e1 : ret = some .int := by
      cases ret with
      | none => first | rfl | cases hrt
      | some t => cases t <;> first | rfl | cases hrt
    subst e1
    exact W.iret hx hb hr hq hf hd hlocks
  · next x hrl =>
    split at hs
    case isFalse => cases hs
    next hbit =>
    cases hs
    rw [Nat.eq_of_beq_eq_true hl] at hd
    have e1 : ret = some .boolean := by
      cases ret with
      | none => first | rfl | cases hrt
      | some t => cases t <;> first | rfl | cases hrt
    subst e1
    exact W.zret hx hb hr (by show Value.int (Int32.ofInt x &&& 1) = _; rw [pn_and1 hbit]) hq hf hd hlocks
  · next x hrl =>
    split at hs
    case isFalse => cases hs
    next hbit =>
    cases hs
    rw [Nat.eq_of_beq_eq_true hl] at hd
    have e1 : ret = some .byte := by
      cases ret with
      | none => first | rfl | cases hrt
      | some t => cases t <;> first | rfl | cases hrt
    subst e1
    refine W.zret hx hb hr (ty := .byte) (v := Int32.ofInt x) ?_ hq hf hd hlocks
    show Value.int (Int32.ofInt x).toInt8.toInt32 = _
    rw [pn_i2b hok.hd]
    congr 2
    unfold w8
    omega
  · next x hrl =>
    split at hs
    case isFalse => cases hs
    next hbit =>
    cases hs
    rw [Nat.eq_of_beq_eq_true hl] at hd
    have e1 : ret = some .char := by
      cases ret with
      | none => first | rfl | cases hrt
      | some t => cases t <;> first | rfl | cases hrt
    subst e1
    refine W.zret hx hb hr (ty := .char) (v := Int32.ofInt x) ?_ hq hf hd hlocks
    show Value.int (Int32.ofInt x).toUInt32.toUInt16.toUInt32.toInt32 = _
    rw [pn_char hbit.1 hbit.2]
  · next x hrl =>
    cases hs
    rw [Nat.eq_of_beq_eq_true hl] at hd
    have e1 : ret = some .long := by
      cases ret with
      | none => first | rfl | cases hrt
      | some t => cases t <;> first | rfl | cases hrt
    subst e1
    exact W.lret hx hb hr hq hf hd hlocks
  · next hrl =>
    cases hs
    rw [Nat.eq_of_beq_eq_true hl] at hd
    have e1 : ret = none := by
      cases ret with
      | none => first | rfl | cases hrt
      | some t => cases t <;> first | rfl | cases hrt
    subst e1
    exact W.vret hx hb hr hq hf hd hlocks
  · cases hs
/-- what a frame knows of itself -/
def pm_FR (p : Program) (s : State) (m : MethodId) (args : Array Value) (meth : Method) (c : Code) (mi : Nat) (base : Nat) (roA : Nat → Nat) (z8 : Value) (X : List Int) : Prop :=
  p.tables.exec = Jvm.exec ∧ c.code = pm_bytes mi ∧ c.maxLocals = (pm_mk mi).2.2.1 ∧ s.vm.findClass (pm_on (pm_mk mi).2.2.2.1) = some m.cls ∧ pm_hts args s ∧ (Nat.beq (pm_mk mi).1 2 = true → meth.name = "<init>") ∧ base ≤ s.heap.size ∧ pm_RO base roA z8 X s s.heap
/-- a method's contract: at this heap, with these arguments, it ends as the pure machine does -/
def pm_Pc (G : va_G) (base : Nat) (roA : Nat → Nat) (z8 : Value) (X : List Int) (as : List (Nat × ClassId)) (as0 : List pm_V) (h : pm_H) : Array Value → State → Prop :=
  va_Pc (as0.map (pm_cv (pm_adr roA as) z8)) (fun U => base ≤ U.heap.size ∧ (∀ w ∈ lw_tbl, pm_nw w = true → va_Nw w U) ∧ pm_RO base roA z8 X U U.heap ∧ pm_WD G base roA z8 as h U U.heap)
def pm_Qc (G : va_G) (base : Nat) (roA : Nat → Nat) (z8 : Value) (as : List (Nat × ClassId)) (r : Option pm_V) (h' : pm_H) : Array Value → State → Outcome → State → Prop := fun _ st o t =>
  (∃ ys, o = .returned (r.map (pm_cv (pm_adr roA (as ++ ys)) z8)) ∧ pm_WD G base roA z8 (as ++ ys) h' t t.heap ∧ okL h'.1.length r.toList) ∧ va_F (fun q : Nat => base ≤ q) st t
def pm_met (l : Launch) (G : va_G) (base : Nat) (roA : Nat → Nat) (z8 : Value) (X : List Int) (as : List (Nat × ClassId)) (d mi : Nat) (as0 : List pm_V) (h : pm_H) (r : Option pm_V) (h' : pm_H) : Prop :=
  ∀ y : pm_MY, pm_nth pm_mys mi = some y → Met l y.1 (.code y.1 y.2.1 y.2.2.1 y.2.2.2.1 :: pm_big) ({ frames := d + 1, cells := h'.1.length - h.1.length, slots := pm_sz h' - pm_sz h, locals := pm_rl d }) (pm_Pc G base roA z8 X as as0 h) (pm_Qc G base roA z8 as r h') (h'.1.length - h.1.length) (pm_sz h' - pm_sz h) (fun q : Nat => base ≤ q)
theorem pm_blind {as0 : List pm_V} : FrameBlind (pm_Pc G base roA z8 X as as0 h) := by
  intro a U g mk hp
  obtain ⟨e1, e2, e3, e4, e5⟩ := hp
  have hv : (U.calling g mk a).vm = U.vm := rfl
  have hh : (U.calling g mk a).heap = U.heap := rfl
  refine ⟨e1, by rw [hh]; exact e2, fun w hw hn => pm_nw_same (pm_nw2_of hw hn) hv.symm (e3 w hw hn), ?_, ?_⟩
  · rw [hh]
    exact e4.moved (hv ▸ Vm.Alike.refl _) (vk_R.same hv e4.text)
  · rw [hh]
    exact e5.moved (hv ▸ Vm.Alike.refl _)
/-- behind a call -/
theorem pm_callW {mc ms : Nat} {st0 rest : List Value} {a : Array Value} {r : Option pm_V} {h' : pm_H} (hr : va_Run p l e R s m args below meth c H locs cells slots mc ms (F0 m pc ls st0) rest (pm_Qc G base roA z8 as r h' a) (fun q : Nat => base ≤ q)) (hS : va_S (fun q : Nat => base ≤ q) s.heap H locs)
    (kk : ∀ (ys : List (Nat × ClassId)) (H1 : Heap) (locs1 : List Loc), pm_WD G base roA z8 (as ++ ys) h' s H1 → va_S (fun q : Nat => base ≤ q) s.heap H1 locs1 → okL h'.1.length r.toList → W p l e R s m args below meth c H1 locs1 (cells + mc) (slots + ms) Q (F0 m (pc + 3) ls ((r.map (pm_cv (pm_adr roA (as ++ ys)) z8)).toList ++ rest))) : W p l e R s m args below meth c H locs cells slots Q (F0 m pc ls st0) := by
  intro T hT X0
  obtain ⟨v, st₀, t, T', L, h0, X', hL, e1, e2, ⟨⟨ys, hv, hw, hrk⟩, hz, hk⟩, st⟩ := hr T hT X0
  cases hv
  rw [h0] at hz hk
  have hal : s.vm.Alike t.vm := by rw [← e2]; exact X'.warmed.alike
  obtain ⟨t2, a1, b1⟩ := kk ys T'.heap (locs ++ L) (by rw [e1]; exact hw.moved hal.symm)
    ⟨Nat.le_trans hS.1 (by rw [e1]; exact hz), fun q h1 h2 => by rw [e1, hk q (Nat.lt_of_lt_of_le h1 hS.1) h2]; exact hS.2.1 q h1 h2, fun q hq => by
      rcases List.mem_append.mp hq with h | h
      · exact hS.2.2 q h
      · exact hL q h⟩ hrk T' rfl X'
  exact ⟨t2, st t2 a1, b1⟩
theorem pm_stpC_spec {E : pm_EN} {S : List pm_V} {h : pm_H} {m' : Nat} {as0 S' : List pm_V} (hc : stpC E S h = some (m', as0, S')) : ∃ kd k, ((∃ idx, E.1 = .invokestatic idx ∧ kd = 0 ∧ k = 0) ∨ (∃ idx, E.1 = .invokevirtual idx ∧ kd = 1 ∧ k = 1) ∨ (∃ idx, E.1 = .invokespecial idx ∧ kd = 2 ∧ k = 1)) ∧
    m' = E.2.2.1 ∧ (pm_mk m').1 = kd ∧ S = as0.reverse ++ S' ∧ as0.length = (pm_mk m').2.1 + k ∧ (pm_spread as0).length ≤ (pm_mk m').2.2.1 ∧ (S'.map pm_cat).sum ≤ 8 ∧ (k = 1 → pm_recv h (pm_mk m').2.2.2.1 as0 = true) := by
  have go : ∀ b k : Nat, (match pm_mk E.2.2.1 with
    | (kd, n, ml, cl, _) => bif Nat.beq kd b && Nat.ble (n + k) S.length && Nat.ble (pm_spread ((S.take (n + k)).reverse)).length ml && Nat.ble ((S.drop (n + k)).map pm_cat).sum 8 && (Nat.beq k 0 || pm_recv h cl ((S.take (n + k)).reverse)) then some (E.2.2.1, (S.take (n + k)).reverse, S.drop (n + k)) else none) = some (m', as0, S') →
    m' = E.2.2.1 ∧ (pm_mk m').1 = b ∧ S = as0.reverse ++ S' ∧ as0.length = (pm_mk m').2.1 + k ∧ (pm_spread as0).length ≤ (pm_mk m').2.2.1 ∧ (S'.map pm_cat).sum ≤ 8 ∧ (k = 1 → pm_recv h (pm_mk m').2.2.2.1 as0 = true) := by
    intro b k hq
    generalize hmk : pm_mk E.2.2.1 = K at hq
    obtain ⟨kd, n, ml, cl, rk⟩ := K
    obtain ⟨h1, h2⟩ := pm_bif hq
    cases h2
    simp only [Bool.and_eq_true, Bool.or_eq_true] at h1
    obtain ⟨⟨⟨⟨a1, a2⟩, a3⟩, a4⟩, a5⟩ := h1
    rw [hmk]
    have a2 := Nat.le_of_ble_eq_true a2
    refine ⟨rfl, Nat.eq_of_beq_eq_true a1, by simp, by simp; omega, Nat.le_of_ble_eq_true a3, Nat.le_of_ble_eq_true a4, fun hk => ?_⟩
    subst hk
    exact a5.elim (fun q => by cases q) id
  obtain ⟨i, rest⟩ := E
  cases i with
  | invokestatic idx => exact ⟨0, 0, Or.inl ⟨idx, rfl, rfl, rfl⟩, go 0 0 hc⟩
  | invokevirtual idx => exact ⟨1, 1, Or.inr (Or.inl ⟨idx, rfl, rfl, rfl⟩), go 1 1 hc⟩
  | invokespecial idx => exact ⟨2, 1, Or.inr (Or.inr ⟨idx, rfl, rfl, rfl⟩), go 2 1 hc⟩
  | _ => cases hc
end PMF
