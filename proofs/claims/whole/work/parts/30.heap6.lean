section PMH6
variable {p : Program} {l : Launch} {e : Env} {R : Room} {s : State} {m : MethodId} {args : Array Value} {below : List Frame} {meth : Method} {c : Code} {H : Heap} {locs : List Loc} {cells slots : Nat} {Q : State → Prop}
variable {cc : ByteArray} {pc : Nat} {ls : Array Slot} {G : va_G} {base : Nat} {roA : Nat → Nat} {z8 : Value} {as : List (Nat × ClassId)} {h : pm_H} {X : List Int}
theorem pm_gsrow (hx : p.tables.exec = Jvm.exec) (hb : c.code = cc) {own : Nat} (hown : s.vm.findClass (pm_on own) = some m.cls) (hS0 : va_S (fun q : Nat => base ≤ q) s.heap H locs) {C n d : String} {v : Value} (hZ : va_Z C n d v (fun q : Nat => base ≤ q) s s.heap) {idx b : Nat} (hl : (pm_flink (pm_on own) idx b C n d).before args s = true) (hdg : decode cc pc = .ok (.getstatic idx, 3)) {rest : List Value}
    (K : W p l e R s m args below meth c H locs cells slots Q (F0 m (pc + 3) ls (v :: rest))) : W p l e R s m args below meth c H locs cells slots Q (F0 m pc ls rest) := by
  unfold pm_flink at hl
  cases hq : Nat.beq b 1 with
  | true =>
    rw [hq] at hl
    exact va_getsN hx hb hZ hS0 hown hl (fun _ h => h) hdg K
  | false =>
    rw [hq] at hl
    exact va_gets hx hb hZ hS0 hown hl (fun _ h => h) hdg K
theorem pm_s_gst (hx : p.tables.exec = Jvm.exec) (hb : c.code = cc) {own : Nat} (hown : s.vm.findClass (pm_on own) = some m.cls) (ht : pm_hts args s) (hW : pm_WD G base roA z8 as h s H) (hS0 : va_S (fun q : Nat => base ≤ q) s.heap H locs) (hR : pm_RO base roA z8 X s s.heap)
    {idx n a b w : Nat} {v : Int} {ini : Bool} (hdg : decode cc pc = .ok (.getstatic idx, n)) (hE : pm_okE own ini (.getstatic idx, n, a, b, v, w) = true) {S S' : List pm_V} {h' : pm_H} (hS : okL h.1.length S) (hr : pm_gst h a S = some (S', h')) :
    pm_goalH p l e R s m args below meth c H locs cells slots Q G base roA z8 as h pc 3 ls S S' h' := by
  unfold pm_okE at hE
  rw [Bool.and_eq_true] at hE
  have hn : n = 3 := Nat.eq_of_beq_eq_true hE.1
  subst hn
  have hE2 := hE.2
  dsimp only at hE2
  obtain ⟨-, ⟨q1, -⟩, ⟨q2, -⟩, ⟨q3, -⟩, q4, ⟨q5, q6⟩, -⟩ := hR
  have hneg : ∀ k : Int, k < 0 → okV h.1.length (Vr k) := fun k hk => by show k < _; omega
  unfold pm_gst at hr
  split at hr
  · cases hr
    exact pm_same hW hS0 (okL.cons (hneg _ (by omega)) hS) fun K => pm_gsrow hx hb hown hS0 q1 (pm_lnk_use hE2 ht rfl) hdg K
  · cases hr
    exact pm_same hW hS0 (okL.cons (hneg _ (by omega)) hS) fun K => pm_gsrow hx hb hown hS0 q2 (pm_lnk_use hE2 ht rfl) hdg K
  · cases hr
    exact pm_same hW hS0 (okL.cons (hneg _ (by omega)) hS) fun K => pm_gsrow hx hb hown hS0 q3 (pm_lnk_use hE2 ht rfl) hdg K
  · cases hr
    exact pm_same hW hS0 (okL.cons (by show R32 1; unfold R32; omega) hS) fun K => pm_gsrow hx hb hown hS0 q4 (pm_lnk_use hE2 ht rfl) hdg K
  · cases hr
    exact pm_same hW hS0 (okL.cons (hneg _ (by omega)) hS) fun K => pm_gsrow hx hb hown hS0 q5 (pm_lnk_use hE2 ht rfl) hdg K
  · cases hr
theorem pm_s_ldc (hx : p.tables.exec = Jvm.exec) (hb : c.code = cc) {own : Nat} (hown : s.vm.findClass (pm_on own) = some m.cls) (ht : pm_hts args s) (hW : pm_WD G base roA z8 as h s H) (hS0 : va_S (fun q : Nat => base ≤ q) s.heap H locs) (hR : pm_RO base roA z8 X s s.heap)
    {idx n a b w : Nat} {v : Int} {ini : Bool} (hdg : decode cc pc = .ok (.ldc idx, n)) (hE : pm_okE own ini (.ldc idx, n, a, b, v, w) = true) {S S' : List pm_V} {h' : pm_H} (hS : okL h.1.length S) (hr : pm_ldc h a v S = some (S', h')) :
    pm_goalH p l e R s m args below meth c H locs cells slots Q G base roA z8 as h pc 2 ls S S' h' := by
  unfold pm_okE at hE
  rw [Bool.and_eq_true] at hE
  have hn : n = 2 := Nat.eq_of_beq_eq_true hE.1
  subst hn
  have hE2 := hE.2
  dsimp only at hE2
  obtain ⟨-, -, -, -, -, -, r7, -⟩ := hR
  unfold pm_ldc at hr
  split at hr
  · cases hr
    have hE3 : (Nat.beq own 6 && Nat.beq idx 27) = true := hE2
    rw [Bool.and_eq_true] at hE3
    have e1 := Nat.eq_of_beq_eq_true hE3.1
    have e2 := Nat.eq_of_beq_eq_true hE3.2
    subst e1
    subst e2
    exact pm_same hW hS0 (okL.cons (by show (-6 : Int) < _; omega) hS) fun K => va_ldcS hx hb hown r7 hdg K
  · obtain ⟨hv, h2⟩ := pm_bif hr
    cases h2
    exact pm_same hW hS0 (okL.cons (pm_r32_spec hv) hS) fun K => lv_ldc hx hb hown (pm_lnk_use hE2 ht rfl) hdg K
  · cases hr
theorem pm_s_ldcw (hx : p.tables.exec = Jvm.exec) (hb : c.code = cc) {own : Nat} (hown : s.vm.findClass (pm_on own) = some m.cls) (ht : pm_hts args s) (hW : pm_WD G base roA z8 as h s H) (hS0 : va_S (fun q : Nat => base ≤ q) s.heap H locs)
    {idx n a b w : Nat} {v : Int} {ini : Bool} (hdg : decode cc pc = .ok (.ldc_w idx, n)) (hE : pm_okE own ini (.ldc_w idx, n, a, b, v, w) = true) {S S' : List pm_V} {h' : pm_H} (hS : okL h.1.length S) (hr : pm_ldc h a v S = some (S', h')) :
    pm_goalH p l e R s m args below meth c H locs cells slots Q G base roA z8 as h pc 3 ls S S' h' := by
  unfold pm_okE at hE
  rw [Bool.and_eq_true] at hE
  have hn : n = 3 := Nat.eq_of_beq_eq_true hE.1
  subst hn
  have hE2 := hE.2
  dsimp only at hE2
  unfold pm_ldc at hr
  split at hr
  · cases hE2
  · obtain ⟨hv, h2⟩ := pm_bif hr
    cases h2
    exact pm_same hW hS0 (okL.cons (pm_r32_spec hv) hS) fun K => lv_ldcw hx hb hown (pm_lnk_use hE2 ht rfl) hdg K
  · cases hr
theorem pm_objI {w o idx : Nat} (ht : pm_hts args s) (hl : pm_lnk w 8 o idx 0 0 0 = true) : (Cond.methodLink (pm_on o) idx Lib.objectInit).before args s = true := pm_lnk_use hl ht rfl
theorem pm_objw (ht : pm_hts args s) : (Cond.instanceMethod Lib.objectInit).before args s = true ∧ (Cond.code Lib.objectInit ⟨#[0xb1]⟩ 1 none).before args s = true := by
  have e1 : pm_place 137 (.instanceMethod Lib.objectInit) = true := by decide +kernel
  have e2 : lw_tbl[138]? = some (.code Lib.objectInit ⟨#[0xb1]⟩ 1 none) := by decide +kernel
  exact ⟨pm_use e1 ht, ht.1 _ (List.mem_of_getElem? e2) rfl⟩
theorem pm_bif2 {α : Type} {b : Bool} {x : Option α} {r : α} (h : (bif b then x else none) = some r) : b = true ∧ x = some r := by
  cases b
  · cases h
  · exact ⟨rfl, h⟩
theorem pm_cat_sum (hz : z8.category = 1) (S : List pm_V) : ((S.map (pm_cv (pm_adr roA as) z8)).map (fun v => v.category)).sum = (S.map pm_cat).sum := by
  rw [List.map_map]
  congr 1
  exact List.map_congr_left fun v _ => pm_cv_cat hz v
set_option maxHeartbeats 2000000 in
/-- every instruction that touches heap or tables -/
theorem pm_soundH (hx : p.tables.exec = Jvm.exec) (hb : c.code = cc) (hml : c.maxLocals = ls.size) {own : Nat} (hown : s.vm.findClass (pm_on own) = some m.cls) (ht : pm_hts args s) (hbs : base ≤ s.heap.size) (hW : pm_WD G base roA z8 as h s H) (hS0 : va_S (fun q : Nat => base ≤ q) s.heap H locs) (hR : pm_RO base roA z8 X s s.heap)
    {ini : Bool} (hini : ini = true → meth.name = "<init>") (hRf : 1 ≤ R.frames) (hRl : 40 ≤ R.locals) {E : pm_EN} (hdg : decode cc pc = .ok (E.1, E.2.1)) (hE : pm_okE own ini E = true) {S S' : List pm_V} {h' : pm_H} {n : Nat} (hS : okL h.1.length S) (hr : stpH X E S h = some (n, S', h')) :
    pm_goalH p l e R s m args below meth c H locs cells slots Q G base roA z8 as h pc n ls S S' h' := by
  obtain ⟨i, k, a, b, v, w⟩ := E
  have hlen : pm_lenok i k = true := by
    unfold pm_okE at hE
    rw [Bool.and_eq_true] at hE
    exact hE.1
  have hrr : ∀ {n0 : Nat} {x : pm_RH}, (match x with
    | some (S, h) => some (n0, S, h)
    | none => none) = some (n, S', h') → n = n0 ∧ x = some (S', h') := by
    intro n0 x hq
    cases x with
    | none => cases hq
    | some y => cases hq; exact ⟨rfl, rfl⟩
  cases i with
  | getfield idx => obtain ⟨rfl, h1⟩ := hrr hr; exact pm_s_get hx hb hown ht hW hS0 hR hdg hE hS h1
  | putfield idx => obtain ⟨rfl, h1⟩ := hrr hr; exact pm_s_put hx hb hown ht hW hS0 hini hdg hE hS h1
  | iaload => obtain ⟨rfl, h1⟩ := hrr hr; exact pm_s_ild hx hb hW hS0 hR (by rw [← Nat.eq_of_beq_eq_true hlen]; exact hdg) hS h1
  | baload => obtain ⟨rfl, h1⟩ := hrr hr; exact pm_s_bld hx hb hW hS0 hR (by rw [← Nat.eq_of_beq_eq_true hlen]; exact hdg) hS h1
  | laload => obtain ⟨rfl, h1⟩ := hrr hr; exact pm_s_lld hx hb hW hS0 (by rw [← Nat.eq_of_beq_eq_true hlen]; exact hdg) hS h1
  | aaload => obtain ⟨rfl, h1⟩ := hrr hr; exact pm_s_ald hx hb hW hS0 (by rw [← Nat.eq_of_beq_eq_true hlen]; exact hdg) hS h1
  | iastore => obtain ⟨rfl, h1⟩ := hrr hr; exact pm_s_ist hx hb hW hS0 (by rw [← Nat.eq_of_beq_eq_true hlen]; exact hdg) hS h1
  | bastore => obtain ⟨rfl, h1⟩ := hrr hr; exact pm_s_bst hx hb hW hS0 (by rw [← Nat.eq_of_beq_eq_true hlen]; exact hdg) hS h1
  | lastore => obtain ⟨rfl, h1⟩ := hrr hr; exact pm_s_lst hx hb hW hS0 (by rw [← Nat.eq_of_beq_eq_true hlen]; exact hdg) hS h1
  | aastore => obtain ⟨rfl, h1⟩ := hrr hr; exact pm_s_ast hx hb hW hS0 (by rw [← Nat.eq_of_beq_eq_true hlen]; exact hdg) hS h1
  | arraylength => obtain ⟨rfl, h1⟩ := hrr hr; exact pm_s_len hx hb hW hS0 hR (by rw [← Nat.eq_of_beq_eq_true hlen]; exact hdg) hS h1
  | new idx => obtain ⟨rfl, h1⟩ := hrr hr; exact pm_s_new hx hb hown ht hbs hW hS0 hdg hE hS h1
  | newarray t => obtain ⟨rfl, h1⟩ := hrr hr; exact pm_s_nwa (own := own) hx hb ht hbs hW hS0 hdg hE hS h1
  | anewarray idx => obtain ⟨rfl, h1⟩ := hrr hr; exact pm_s_nwr hx hb hown ht hbs hW hS0 hdg hE hS h1
  | getstatic idx => obtain ⟨rfl, h1⟩ := hrr hr; exact pm_s_gst hx hb hown ht hW hS0 hR hdg hE hS h1
  | ldc idx => obtain ⟨rfl, h1⟩ := hrr hr; exact pm_s_ldc hx hb hown ht hW hS0 hR hdg hE hS h1
  | ldc_w idx => obtain ⟨rfl, h1⟩ := hrr hr; exact pm_s_ldcw hx hb hown ht hW hS0 hdg hE hS h1
  | ldc2_w idx =>
    obtain ⟨rfl, h1⟩ := hrr hr
    obtain ⟨hv, h2⟩ := pm_bif h1
    cases h2
    unfold pm_okE at hE
    rw [Bool.and_eq_true] at hE
    rw [Nat.eq_of_beq_eq_true hlen] at hdg
    exact pm_same hW hS0 (okL.cons (pm_r64_spec hv) hS) fun K => lv_ldc2 hx hb hown (pm_lnk_use hE.2 ht rfl) hdg K
  | invokespecial idx =>
    obtain ⟨rfl, h1⟩ := hrr hr
    obtain ⟨ha, h2⟩ := pm_bif2 h1
    obtain ⟨o, T, rfl, h3⟩ := pR_spec h2
    obtain ⟨ho, h4⟩ := pm_bif h3
    cases h4
    rw [Bool.and_eq_true] at ho
    unfold pm_okE at hE
    rw [Bool.and_eq_true] at hE
    have hE2 := hE.2
    dsimp only at hE2
    have ha2 : Nat.beq a 1000 = true := ha
    rw [ha2] at hE2
    rw [Nat.eq_of_beq_eq_true hlen] at hdg
    refine pm_same hW hS0 hS.tl fun K => ?_
    rw [List.map_cons, pm_cv_r ho.1]
    have h8 := Nat.le_of_ble_eq_true ho.2
    rw [← pm_cat_sum (roA := roA) (as := as) hR.2.2.2.2.2.1.2] at h8
    have hml2 : (F0 m pc ls (Value.ref (pm_adr roA as o) :: S'.map (pm_cv (pm_adr roA as) z8))).locals.size = c.maxLocals := hml.symm
    refine W.objInit (g := F0 m pc ls (Value.ref (pm_adr roA as o) :: S'.map (pm_cv (pm_adr roA as) z8))) hx hb hown (pm_objI ht hE2) (pm_objw ht).1 (pm_objw ht).2 rfl hml2 rfl hdg hRf ?_ K
    show 2 * 0 + _ + 12 ≤ R.locals
    omega
  | _ => cases hr
end PMH6
