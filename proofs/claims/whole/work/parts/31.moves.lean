/-! what stays from one state to another; what only grows -/
theorem pm_RO.kept {base : Nat} {roA : Nat → Nat} {z8 : Value} {X : List Int} {s : State} {H H1 : Heap} (h : pm_RO base roA z8 X s H) (hq : ∀ a : Nat, a < H.size → ¬ base ≤ a → H1[a]? = H[a]?) : pm_RO base roA z8 X s H1 := by
  obtain ⟨⟨a1, a2, a3, a4⟩, ⟨b1, b2⟩, ⟨c1, c2⟩, ⟨d1, d2⟩, e1, ⟨f1, f2⟩, g1, i1, i2, i3, i4⟩ := h
  obtain ⟨scr, z1, -⟩ := id a1
  exact ⟨⟨a1.kept (hq _ (Array.getElem?_eq_some_iff.mp z1).1 (by omega)), a2, a3, a4⟩, ⟨b1.kept hq, b2.kept hq⟩, ⟨c1.kept hq, c2.kept hq⟩, ⟨d1.kept hq, d2.kept hq⟩, e1.kept hq, ⟨f1.kept hq, f2⟩, g1, i1.kept hq, i2.kept hq, i3.kept hq, i4.kept hq⟩
theorem pm_RO.moved {base : Nat} {roA : Nat → Nat} {z8 : Value} {X : List Int} {s U : State} {H : Heap} (hv : s.vm.Alike U.vm) (hk : vk_R "SnowHouse$Reader" 27 "room door who in thing says go take lay wipe feel kill when or and not all at has near alone dead knows minute mood min max " (roA 4) U) (h : pm_RO base roA z8 X s H) : pm_RO base roA z8 X U H := by
  obtain ⟨⟨a1, a2, a3, a4⟩, ⟨b1, b2⟩, ⟨c1, c2⟩, ⟨d1, d2⟩, e1, ⟨f1, f2⟩, g1, i1, i2, i3, i4⟩ := h
  exact ⟨⟨a1.moved hv, a2, a3, a4⟩, ⟨b1.moved hv, b2.moved hv⟩, ⟨c1.moved hv, c2.moved hv⟩, ⟨d1.moved hv, d2.moved hv⟩, e1.moved hv, ⟨f1.moved hv, f2⟩, hk, i1.moved hv, i2.moved hv, i3.moved hv, i4.moved hv⟩
theorem pm_RO.text {base : Nat} {roA : Nat → Nat} {z8 : Value} {X : List Int} {s : State} {H : Heap} (h : pm_RO base roA z8 X s H) : vk_R "SnowHouse$Reader" 27 "room door who in thing says go take lay wipe feel kill when or and not all at has near alone dead knows minute mood min max " (roA 4) s := h.2.2.2.2.2.2.1
theorem pm_WD.moved {G : va_G} {base : Nat} {roA : Nat → Nat} {z8 : Value} {as : List (Nat × ClassId)} {h : pm_H} {s U : State} {H : Heap} (hv : s.vm.Alike U.vm) (hW : pm_WD G base roA z8 as h s H) : pm_WD G base roA z8 as h U H := by
  obtain ⟨w1, w2, w3, w4, tys, w5, w6⟩ := hW
  exact ⟨w1, w2, w3, w4, tys, va_K.moved hv w5, w6⟩
def pm_nw2 (w : Cond) : Bool := match w with
  | .fieldLinkNest .. => true
  | .methodLinkNest .. => true
  | .arrayOver (.object _) => true
  | _ => false
theorem pm_nw2_of {w : Cond} (hm : w ∈ lw_tbl) (hw : pm_nw w = true) : pm_nw2 w = true := by
  have e : lw_tbl.all (fun w => !pm_nw w || pm_nw2 w) = true := by decide +kernel
  have h1 := List.all_eq_true.mp e w hm
  rw [hw] at h1
  simpa using h1
theorem pm_nw_warm {w : Cond} {s U : State} (hw : pm_nw2 w = true) (hW : s.WarmedH U.vm) (h : va_Nw w s) : va_Nw w U := by
  unfold pm_nw2 at hw
  split at hw
  · exact va_Nw.warmF hW h
  · exact va_Nw.warmM hW h
  · exact va_AO.moved hW.alike h
  · cases hw
theorem pm_nw_same {w : Cond} {u U : State} (hw : pm_nw2 w = true) (hv : u.vm = U.vm) (h : va_Nw w u) : va_Nw w U := by
  unfold pm_nw2 at hw
  split at hw
  · exact va_Nw.same rfl hv h
  · exact va_Nw.same rfl hv h
  · exact va_AO.moved (hv ▸ Vm.Alike.refl _) h
  · cases hw
/-! what only grows -/
def pm_ext (h h' : pm_H) : Prop := h.1.length ≤ h'.1.length ∧ pm_sz h ≤ pm_sz h'
theorem pm_ext.rf {h : pm_H} : pm_ext h h := ⟨Nat.le_refl _, Nat.le_refl _⟩
theorem pm_ext.tr {h h1 h2 : pm_H} (a : pm_ext h h1) (b : pm_ext h1 h2) : pm_ext h h2 := ⟨Nat.le_trans a.1 b.1, Nat.le_trans a.2 b.2⟩
theorem pm_ext_c {h : pm_H} {cf : Nat → Nat → Int} : pm_ext h (h.1, cf) := ⟨Nat.le_refl _, Nat.le_refl _⟩
theorem pm_ext_p {h : pm_H} {sh : pm_SH} {cf : Nat → Nat → Int} : pm_ext h (h.1 ++ [sh], cf) := ⟨by simp, by rw [pm_sz_push]; omega⟩
theorem pm_ext_s {h : pm_H} {o : Nat} {sh sh' : pm_SH} {cf : Nat → Nat → Int} (hs : h.1[o]? = some sh) (hn : sh'.2.1 = sh.2.1) : pm_ext h (pm_set h.1 o sh', cf) := by
  rw [pm_set_eq]
  exact ⟨by simp, by rw [pm_sz_set hs hn]; exact Nat.le_refl _⟩
theorem stpH_ext {X : List Int} {E : pm_EN} {S S' : List pm_V} {h h' : pm_H} {n : Nat} (hr : stpH X E S h = some (n, S', h')) : pm_ext h h' := by
  obtain ⟨i, k, a, b, v, w⟩ := E
  have hrr : ∀ {n0 : Nat} {x : pm_RH}, (match x with
    | some (S, h) => some (n0, S, h)
    | none => none) = some (n, S', h') → x = some (S', h') := by
    intro n0 x hq
    cases x with
    | none => cases hq
    | some y => cases hq; rfl
  cases i with
  | getfield idx =>
    obtain ⟨o, T, rfl, h1⟩ := pR_spec (hrr hr)
    cases h99 : Nat.beq a 99 with
    | true =>
      rw [h99] at h1
      dsimp only [cond_true] at h1
      split at h1
      · split at h1 <;> cases h1 <;> exact pm_ext.rf
      · cases h1
    | false =>
      rw [h99] at h1
      obtain ⟨kd, nn, rs, ho, hs, h2⟩ := pm_ob_spec h1
      obtain ⟨-, h3⟩ := pm_bif2 h2
      split at h3
      · cases h3; exact pm_ext.rf
      · cases h3; exact pm_ext.rf
      · cases h3; exact pm_ext.rf
      · split at h3
        · cases h3; exact pm_ext.rf
        · cases h3
      · cases h3
  | putfield idx =>
    have h0 := hrr hr
    unfold pm_put at h0
    split at h0
    case h_2 => cases h0
    obtain ⟨o, T, rfl, h1⟩ := pR_spec h0
    obtain ⟨kd, nn, rs, ho, hs, h2⟩ := pm_ob_spec h1
    obtain ⟨-, h3⟩ := pm_bif2 h2
    split at h3
    · cases h3; exact pm_ext_c
    · split at h3
      · cases h3; exact pm_ext_c
      · cases h3
    · cases h3; exact pm_ext_c
    · split at h3
      · cases h3
      · cases h3; exact pm_ext_s hs rfl
    · cases h3
  | iaload =>
    obtain ⟨x, T, rfl, h1⟩ := pI_spec (hrr hr)
    obtain ⟨o, T, rfl, h2⟩ := pR_spec h1
    split at h2
    · cases h2
    split at h2
    · split at h2
      · split at h2
        · cases h2; exact pm_ext.rf
        · cases h2
      · cases h2
    · obtain ⟨kd, nn, rs, ho, hs, h3⟩ := pm_ob_spec h2
      obtain ⟨-, h4⟩ := pm_bif2 h3
      cases h4; exact pm_ext.rf
  | baload =>
    obtain ⟨x, T, rfl, h1⟩ := pI_spec (hrr hr)
    obtain ⟨o, T, rfl, h2⟩ := pR_spec h1
    split at h2
    · cases h2
    split at h2
    · split at h2
      · split at h2
        · cases h2; exact pm_ext.rf
        · cases h2
      · cases h2
    · obtain ⟨kd, nn, rs, ho, hs, h3⟩ := pm_ob_spec h2
      obtain ⟨-, h4⟩ := pm_bif2 h3
      cases h4; exact pm_ext.rf
  | laload =>
    obtain ⟨x, T, rfl, h1⟩ := pI_spec (hrr hr)
    obtain ⟨o, T, rfl, h2⟩ := pR_spec h1
    split at h2
    · cases h2
    obtain ⟨kd, nn, rs, ho, hs, h3⟩ := pm_ob_spec h2
    obtain ⟨-, h4⟩ := pm_bif2 h3
    cases h4; exact pm_ext.rf
  | aaload =>
    obtain ⟨x, T, rfl, h1⟩ := pI_spec (hrr hr)
    obtain ⟨o, T, rfl, h2⟩ := pR_spec h1
    split at h2
    · cases h2
    obtain ⟨kd, nn, rs, ho, hs, h3⟩ := pm_ob_spec h2
    obtain ⟨-, h4⟩ := pm_bif2 h3
    split at h4
    · cases h4; exact pm_ext.rf
    · cases h4
  | iastore =>
    obtain ⟨y, T, rfl, h0⟩ := pI_spec (hrr hr)
    obtain ⟨x, T, rfl, h1⟩ := pI_spec h0
    obtain ⟨o, T, rfl, h2⟩ := pR_spec h1
    split at h2
    · cases h2
    obtain ⟨kd, nn, rs, ho, hs, h3⟩ := pm_ob_spec h2
    obtain ⟨-, h4⟩ := pm_bif2 h3
    cases h4; exact pm_ext_c
  | bastore =>
    obtain ⟨y, T, rfl, h0⟩ := pI_spec (hrr hr)
    obtain ⟨x, T, rfl, h1⟩ := pI_spec h0
    obtain ⟨o, T, rfl, h2⟩ := pR_spec h1
    split at h2
    · cases h2
    obtain ⟨kd, nn, rs, ho, hs, h3⟩ := pm_ob_spec h2
    obtain ⟨-, h4⟩ := pm_bif2 h3
    split at h4
    · split at h4
      · cases h4; exact pm_ext_c
      · cases h4
    · split at h4
      · cases h4; exact pm_ext_c
      · cases h4
    · cases h4
  | lastore =>
    obtain ⟨y, T, rfl, h0⟩ := pL_spec (hrr hr)
    obtain ⟨x, T, rfl, h1⟩ := pI_spec h0
    obtain ⟨o, T, rfl, h2⟩ := pR_spec h1
    split at h2
    · cases h2
    obtain ⟨kd, nn, rs, ho, hs, h3⟩ := pm_ob_spec h2
    obtain ⟨-, h4⟩ := pm_bif2 h3
    cases h4; exact pm_ext_c
  | aastore =>
    obtain ⟨y, T, rfl, h0⟩ := pR_spec (hrr hr)
    obtain ⟨x, T, rfl, h1⟩ := pI_spec h0
    obtain ⟨o, T, rfl, h2⟩ := pR_spec h1
    split at h2
    · cases h2
    obtain ⟨kd, nn, rs, ho, hs, h3⟩ := pm_ob_spec h2
    obtain ⟨kr, nr, rr, hor, hsr, h3⟩ := pm_ob_spec h3
    obtain ⟨-, h4⟩ := pm_bif2 h3
    cases h4; exact pm_ext_s hs rfl
  | arraylength =>
    obtain ⟨o, T, rfl, h2⟩ := pR_spec (hrr hr)
    split at h2
    · cases h2; exact pm_ext.rf
    split at h2
    · split at h2
      · cases h2; exact pm_ext.rf
      · cases h2
    · obtain ⟨kd, nn, rs, ho, hs, h3⟩ := pm_ob_spec h2
      obtain ⟨-, h4⟩ := pm_bif2 h3
      cases h4; exact pm_ext.rf
  | new idx =>
    obtain ⟨-, h1⟩ := pm_bif2 (hrr hr)
    cases h1; exact pm_ext_p
  | newarray t =>
    obtain ⟨x, T, rfl, h1⟩ := pI_spec (hrr hr)
    split at h1
    · cases h1
    · cases h1; exact pm_ext_p
  | anewarray idx =>
    obtain ⟨x, T, rfl, h1⟩ := pI_spec (hrr hr)
    split at h1
    · cases h1
    · cases h1; exact pm_ext_p
  | getstatic idx =>
    have h0 := hrr hr
    unfold pm_gst at h0
    split at h0 <;> first | (cases h0; exact pm_ext.rf) | cases h0
  | ldc idx =>
    have h0 := hrr hr
    unfold pm_ldc at h0
    split at h0
    · cases h0; exact pm_ext.rf
    · obtain ⟨-, h1⟩ := pm_bif2 h0
      cases h1; exact pm_ext.rf
    · cases h0
  | ldc_w idx =>
    have h0 := hrr hr
    unfold pm_ldc at h0
    split at h0
    · cases h0; exact pm_ext.rf
    · obtain ⟨-, h1⟩ := pm_bif2 h0
      cases h1; exact pm_ext.rf
    · cases h0
  | ldc2_w idx =>
    obtain ⟨-, h1⟩ := pm_bif2 (hrr hr)
    cases h1; exact pm_ext.rf
  | invokespecial idx =>
    obtain ⟨-, h1⟩ := pm_bif2 (hrr hr)
    obtain ⟨o, T, rfl, h2⟩ := pR_spec h1
    obtain ⟨-, h3⟩ := pm_bif2 h2
    cases h3; exact pm_ext.rf
  | _ => cases hr
theorem exec_ext {X : List Int} : ∀ (f d m pc : Nat) (L S : List pm_V) (h h' : pm_H) (r : Option pm_V), exec X f d m pc L S h = some (r, h') → pm_ext h h' := by
  intro f
  induction f with
  | zero => intro d m pc L S h h' r hr; cases hr
  | succ f ih =>
    intro d m pc L S h h' r hr
    unfold exec at hr
    split at hr
    · cases hr
    · next E hE =>
      split at hr
      · exact ih _ _ _ _ _ _ _ _ hr
      · split at hr
        · next hq => exact (stpH_ext hq).tr (ih _ _ _ _ _ _ _ _ hr)
        · split at hr
          · cases hr; exact pm_ext.rf
          · split at hr
            · cases hr
            · split at hr
              · cases hr
              · split at hr
                · cases hr
                · next hq => exact (ih _ _ _ _ _ _ _ _ hq).tr (ih _ _ _ _ _ _ _ _ hr)
