def pm_idx (i : Instr) : Nat := match i with
  | .invokestatic idx => idx
  | .invokevirtual idx => idx
  | .invokespecial idx => idx
  | _ => 0
section PMF2
variable {p : Program} {l : Launch} {e : Env} {R : Room} {s : State} {m : MethodId} {args : Array Value} {below : List Frame} {meth : Method} {c : Code} {H : Heap} {locs : List Loc} {cells slots : Nat} {Q : State → Prop}
variable {pc : Nat} {ls : Array Slot} {G : va_G} {base : Nat} {roA : Nat → Nat} {z8 : Value} {as : List (Nat × ClassId)} {h : pm_H} {X : List Int}
theorem pm_mys_len : pm_mys.length = 259 := by decide +kernel
theorem pm_calls_spec {w o idx a b kd : Nat} (h : pm_calls a o idx b w kd = true) (hk : (pm_mk a).1 = kd) : a < 259 ∧ ∃ y, pm_nth pm_mys a = some y ∧ pm_lnk w 9 o idx a b 0 = true := by
  unfold pm_calls at h
  rw [hk, Nat.beq_refl] at h
  have h : pm_lnk w 9 o idx a b 0 = true := h
  have h0 := h
  unfold pm_lnk at h
  split at h
  · next r hr =>
    have h1 := pm_lk_all w r hr
    simp only [Bool.and_eq_true, decide_eq_true_eq] at h
    obtain ⟨⟨⟨⟨⟨e1, e2⟩, e3⟩, e4⟩, e5⟩, e6⟩ := h
    unfold pm_lkc at h1
    rw [Nat.eq_of_beq_eq_true e1, Nat.eq_of_beq_eq_true e4] at h1
    cases hy : pm_nth pm_mys a with
    | none =>
      simp only [pm_lword, hy] at h1
      cases h1
    | some y => exact ⟨by have := pm_nth_lt hy; rw [pm_mys_len] at this; exact this, y, rfl, h0⟩
  · cases h
theorem pm_pre {as0 : List pm_V} {mi : Nat} (F : pm_FR p s m args meth c mi base roA z8 X) (hW : pm_WD G base roA z8 as h s H) (hS0 : va_S (fun q : Nat => base ≤ q) s.heap H locs) (U : State) (hU : U.heap = H) (hWm : s.WarmedH U.vm) : pm_Pc G base roA z8 X as as0 h (as0.map (pm_cv (pm_adr roA as) z8)).toArray U := by
  obtain ⟨-, -, -, -, ht, -, hb, hR⟩ := F
  subst hU
  refine ⟨rfl, Nat.le_trans hb hS0.1, fun w hw hn => pm_nw_warm (pm_nw2_of hw hn) hWm (ht.2 w hw hn), ?_, hW.moved hWm.alike⟩
  exact (hR.kept hS0.2.1).moved hWm.alike (vk_R.warm hWm hR.text)
set_option maxHeartbeats 2000000 in
theorem pm_call {mi : Nat} (F : pm_FR p s m args meth c mi base roA z8 X) (hW : pm_WD G base roA z8 as h s H) (hS0 : va_S (fun q : Nat => base ≤ q) s.heap H locs) {E : pm_EN} (hcode : pm_code mi pc = some E) {S S' as0 : List pm_V} {m' : Nat} (hc : stpC E S h = some (m', as0, S')) (hls : ls.size = (pm_mk mi).2.2.1)
    {d : Nat} {r1 : Option pm_V} {h1 : pm_H} (hM : pm_met l G base roA z8 X as d m' as0 h r1 h1) (hfr : d + 2 ≤ R.frames) (hlo : pm_rl (d + 1) ≤ R.locals) (hcs : cells + (h1.1.length - h.1.length) ≤ R.cells ∧ slots + (pm_sz h1 - pm_sz h) ≤ R.slots) :
    va_Run p l e R s m args below meth c H locs cells slots (h1.1.length - h.1.length) (pm_sz h1 - pm_sz h) (F0 m pc ls (S.map (pm_cv (pm_adr roA as) z8))) (S'.map (pm_cv (pm_adr roA as) z8)) (pm_Qc G base roA z8 as r1 h1 (as0.map (pm_cv (pm_adr roA as) z8)).toArray) (fun q : Nat => base ≤ q) := by
  obtain ⟨kd, k, hkind, hm', hkd, hSS, hlen, hsp, hcat, hrecv⟩ := pm_stpC_spec hc
  have hdec := pm_code_dec hcode
  have hok := pm_code_ok hcode
  obtain ⟨i, n, a, b, v, w⟩ := E
  have hma : m' = a := hm'
  subst hma
  have hF := F
  obtain ⟨hx, hb, hml, hown, ht, hini, hbs, hR⟩ := F
  have hz := hR.2.2.2.2.2.1.2
  have htb : ∀ w ∈ pm_big, w.before args s = true := fun w hw => ht.1 w (List.mem_filter.mp hw).1 (List.mem_filter.mp hw).2
  have h8 := hcat
  rw [← pm_cat_sum (roA := roA) (as := as) hz] at h8
  have hst : S.map (pm_cv (pm_adr roA as) z8) = (as0.map (pm_cv (pm_adr roA as) z8)).reverse ++ S'.map (pm_cv (pm_adr roA as) z8) := by
    rw [hSS, List.map_append, List.map_reverse]
  have hls2 : (F0 m pc ls (S.map (pm_cv (pm_adr roA as) z8))).locals.size = (pm_mk mi).2.2.1 := hls
  have common : m' < 259 → ∀ y : pm_MY, pm_nth pm_mys m' = some y → pm_lnk w 9 (pm_mk mi).2.2.2.1 (pm_idx i) m' b 0 = true → (∃ idx, (i = .invokestatic idx ∧ kd = 0 ∧ k = 0) ∨ (i = .invokevirtual idx ∧ kd = 1 ∧ k = 1) ∨ (i = .invokespecial idx ∧ kd = 2 ∧ k = 1)) →
      pm_lenok i n = true → va_Run p l e R s m args below meth c H locs cells slots (h1.1.length - h.1.length) (pm_sz h1 - pm_sz h) (F0 m pc ls (S.map (pm_cv (pm_adr roA as) z8))) (S'.map (pm_cv (pm_adr roA as) z8)) (pm_Qc G base roA z8 as r1 h1 (as0.map (pm_cv (pm_adr roA as) z8)).toArray) (fun q : Nat => base ≤ q) := by
    intro hlt y hy hlk hk3 hlen3
    obtain ⟨y', hy', c1, c2, c3, c4, c5, c6, c7, c8, c9, c10, c11, c12⟩ := pm_meth hlt
    cases hy.symm.trans hy'
    have hMet := hM y hy
    have hG : GoodIn pm_big (.code y.1 y.2.1 y.2.2.1 y.2.2.2.1 :: pm_big) := pm_big_good fun w hw => by
      rcases List.mem_cons.mp hw with rfl | hw
      · exact ⟨List.mem_of_getElem? c1, rfl⟩
      · exact List.mem_filter.mp hw
    have hroom : d + 1 + 1 ≤ R.frames ∧ 8 + (y.2.2.1 + 11) + pm_rl d ≤ R.locals := by
      have h45 := pm_maxL m'
      rw [c2] at h45
      unfold pm_rl at hlo ⊢
      omega
    have hd3 : y.1.cls ≠ "java/lang/invoke/MethodHandle" ∧ y.1.cls ≠ "java/lang/invoke/VarHandle" ∧ (parseMethodDescriptor y.1.desc).map (fun d => d.parameters.length) = some (pm_mk m').2.1 := ⟨c7.1, c7.2, c8⟩
    have hinit := pm_use c5 ht
    have hfix : CallFix p m c (pm_bytes mi) (pm_mk mi).2.2.1 s args pm_big (pm_on (pm_mk mi).2.2.2.1) := ⟨hx, hb, hml, hown, htb⟩
    have hlink := pm_lnk_use (c := pm_link (pm_on (pm_mk mi).2.2.2.1) (pm_idx i) b y.1) hlk ht (by simp only [pm_lword, hy])
    obtain ⟨idx, hk3⟩ := hk3
    rcases hk3 with ⟨rfl, rfl, rfl⟩ | ⟨rfl, rfl, rfl⟩ | ⟨rfl, rfl, rfl⟩
    · have hn3 : n = 3 := Nat.eq_of_beq_eq_true hlen3
      subst hn3
      have hstat := pm_use (c9 hkd) ht
      have hp : PreS s H (pm_Pc G base roA z8 X as as0 h) (as0.map (pm_cv (pm_adr roA as) z8)) := ⟨pm_blind, pm_pre hF hW hS0⟩
      have hlink : (pm_link (pm_on (pm_mk mi).2.2.2.1) idx b y.1).before args s = true := hlink
      unfold pm_link at hlink
      cases hq : Nat.beq b 1 with
      | true =>
        rw [hq] at hlink
        exact va_runSN hfix hMet ⟨va_cnB (pm_mk m').2.1 htb hG rfl rfl rfl (va_Nw.of rfl hlink) hinit hd3 hroom, hstat, trivial⟩ hp rfl (by simpa using hlen) hls2 hst (lv_room h8) hdec hcs
      | false =>
        rw [hq] at hlink
        exact va_runS hfix hMet ⟨callB_of (pm_mk m').2.1 htb hG rfl rfl rfl hinit hlink hd3 hroom, hstat⟩ hp rfl (by simpa using hlen) hls2 hst (lv_room h8) hdec hcs
    · have hn3 : n = 3 := Nat.eq_of_beq_eq_true hlen3
      subst hn3
      obtain ⟨q1, q2, q3⟩ := c10 hkd
      have hrc := hrecv rfl
      unfold pm_recv at hrc
      split at hrc
      case h_2 => cases hrc
      next o As0 =>
      have hrec : ∃ (bA : Nat) (cellB : Cell), pm_cv (pm_adr roA as) z8 (Vr o) = .ref bA ∧ H[bA]? = some cellB ∧ cellB.vm.isStatics = false ∧ s.vm.findClass y.1.cls = some cellB.cls := by
        split at hrc
        · next ho =>
          simp only [Bool.and_eq_true, decide_eq_true_eq] at hrc
          obtain ⟨ho6, hcl⟩ := hrc
          subst ho6
          obtain ⟨-, -, -, -, -, -, -, r8, -⟩ := hR
          obtain ⟨cellB, z1, z2, z3, -⟩ := r8.kept hS0.2.1
          refine ⟨roA 4, cellB, rfl, z1, z2, ?_⟩
          rw [c4, Nat.eq_of_beq_eq_true hcl]
          exact z3
        · next ho =>
          split at hrc
          case h_2 => cases hrc
          next kd2 n2 rs2 hs2 =>
          rw [pm_nth_eq] at hs2
          have hcl := Nat.eq_of_beq_eq_true hrc
          have hcl12 : (pm_mk m').2.2.2.1 < 12 := by
            rcases (hW.2.1.1 _ _ hs2).1 with z | z
            · have := z.1; dsimp only at this; omega
            · have := z.1; dsimp only at this; omega
          obtain ⟨a0, ha0⟩ := hW.as hs2
          have hat := pm_at_eq (roA := roA) (z8 := z8) ha0 hs2
          rw [pm_ent_obj (by show kd2 < 20; omega)] at hat
          have he := pm_ws_get (roA := roA) (z8 := z8) (as := as) (List.getElem?_eq_some_iff.mp hs2).1
          rw [hat] at he
          obtain ⟨tys, hK, -⟩ := hW.2.2.2.2
          obtain ⟨qc, hqc⟩ := pm_cl_get hcl12
          obtain ⟨cellB, z1, z2, z3⟩ := va_recv hK hW.2.2.1 (ci := kd2) (by rw [← pm_nth_eq, hcl]; exact hqc) he
          refine ⟨a0.1, cellB, by rw [pm_cv_r (pm_rok_of ho), pm_adr_at ho ha0], z1, z2, ?_⟩
          have hnm : y.1.cls = qc.1 := by
            rw [c4]
            generalize (pm_mk m').2.2.2.1 = cl at hqc hcl12
            match cl, hcl12 with
            | 0, _ => cases hqc; rfl
            | 1, _ => cases hqc; rfl
            | 2, _ => cases hqc; rfl
            | 3, _ => cases hqc; rfl
            | 4, _ => cases hqc; rfl
            | 5, _ => cases hqc; rfl
            | 6, _ => cases hqc; rfl
            | 7, _ => cases hqc; rfl
            | 8, _ => cases hqc; rfl
            | 9, _ => cases hqc; rfl
            | 10, _ => cases hqc; rfl
            | 11, _ => cases hqc; rfl
            | n + 12, hk => exact absurd hk (by omega)
          rw [hnm]
          exact z3
      obtain ⟨bA, cellB, hcv, z1, z2, z3⟩ := hrec
      have hst2 : S.map (pm_cv (pm_adr roA as) z8) = (As0.map (pm_cv (pm_adr roA as) z8)).reverse ++ .ref bA :: S'.map (pm_cv (pm_adr roA as) z8) := by
        rw [hst, List.map_cons, List.reverse_cons, hcv]
        simp
      have hargs : (Value.ref bA :: As0.map (pm_cv (pm_adr roA as) z8)) = (Vr o :: As0).map (pm_cv (pm_adr roA as) z8) := by rw [List.map_cons, hcv]
      have hp : PreV s H y.1.cls bA (pm_Pc G base roA z8 X as (Vr o :: As0) h) (As0.map (pm_cv (pm_adr roA as) z8)) := ⟨pm_blind, ⟨cellB, z1, z2, z3⟩, fun U hU hWm => by rw [hargs]; exact pm_pre hF hW hS0 U hU hWm⟩
      have hlen2 : (As0.map (pm_cv (pm_adr roA as) z8)).length = (pm_mk m').2.1 := by simpa using hlen
      have hlink : (pm_link (pm_on (pm_mk mi).2.2.2.1) idx b y.1).before args s = true := hlink
      show va_Run p l e R s m args below meth c H locs cells slots (h1.1.length - h.1.length) (pm_sz h1 - pm_sz h) (F0 m pc ls (S.map (pm_cv (pm_adr roA as) z8))) (S'.map (pm_cv (pm_adr roA as) z8)) (pm_Qc G base roA z8 as r1 h1 ((Vr o :: As0).map (pm_cv (pm_adr roA as) z8)).toArray) (fun q : Nat => base ≤ q)
      rw [← hargs]
      unfold pm_link at hlink
      cases hq : Nat.beq b 1 with
      | true =>
        rw [hq] at hlink
        exact va_runVN hfix hMet ⟨va_cnB (pm_mk m').2.1 htb hG rfl rfl rfl (va_Nw.of rfl hlink) hinit hd3 hroom, pm_use q1 ht, pm_use q2 ht⟩ hp rfl hlen2 hls2 hst2 (lv_room h8) hdec hcs
      | false =>
        rw [hq] at hlink
        exact va_runV hfix hMet ⟨callB_of (pm_mk m').2.1 htb hG rfl rfl rfl hinit hlink hd3 hroom, pm_use q1 ht, pm_use q2 ht⟩ hp rfl hlen2 hls2 hst2 (lv_room h8) hdec hcs
    · have hn3 : n = 3 := Nat.eq_of_beq_eq_true hlen3
      subst hn3
      obtain ⟨q1, q2, q3⟩ := c11 (by omega)
      have hrc := hrecv rfl
      unfold pm_recv at hrc
      split at hrc
      case h_2 => cases hrc
      next o As0 =>
      have hrec : ∃ (bA : Nat), pm_cv (pm_adr roA as) z8 (Vr o) = .ref bA := by
        split at hrc
        · next ho =>
          simp only [Bool.and_eq_true, decide_eq_true_eq] at hrc
          rw [hrc.1]
          exact ⟨roA 4, rfl⟩
        · next ho => exact ⟨_, pm_cv_r (pm_rok_of ho)⟩
      obtain ⟨bA, hcv⟩ := hrec
      have hst2 : S.map (pm_cv (pm_adr roA as) z8) = (As0.map (pm_cv (pm_adr roA as) z8)).reverse ++ .ref bA :: S'.map (pm_cv (pm_adr roA as) z8) := by
        rw [hst, List.map_cons, List.reverse_cons, hcv]
        simp
      have hargs : (Value.ref bA :: As0.map (pm_cv (pm_adr roA as) z8)) = (Vr o :: As0).map (pm_cv (pm_adr roA as) z8) := by rw [List.map_cons, hcv]
      have hp : PreS s H (pm_Pc G base roA z8 X as (Vr o :: As0) h) (.ref bA :: As0.map (pm_cv (pm_adr roA as) z8)) := ⟨pm_blind, fun U hU hWm => by rw [hargs]; exact pm_pre hF hW hS0 U hU hWm⟩
      have hlen2 : (As0.map (pm_cv (pm_adr roA as) z8)).length = (pm_mk m').2.1 := by simpa using hlen
      have hret : y.2.2.2.1 = none := by
        cases hr0 : y.2.2.2.1 with
        | none => rfl
        | some t => rw [hr0] at q3; cases q3
      rw [hret] at hMet hG
      have hlink : (pm_link (pm_on (pm_mk mi).2.2.2.1) idx b y.1).before args s = true := hlink
      show va_Run p l e R s m args below meth c H locs cells slots (h1.1.length - h.1.length) (pm_sz h1 - pm_sz h) (F0 m pc ls (S.map (pm_cv (pm_adr roA as) z8))) (S'.map (pm_cv (pm_adr roA as) z8)) (pm_Qc G base roA z8 as r1 h1 ((Vr o :: As0).map (pm_cv (pm_adr roA as) z8)).toArray) (fun q : Nat => base ≤ q)
      rw [← hargs]
      unfold pm_link at hlink
      cases hq : Nat.beq b 1 with
      | true =>
        rw [hq] at hlink
        exact va_runIN hfix hMet ⟨va_cnB (pm_mk m').2.1 htb hG rfl rfl rfl (va_Nw.of rfl hlink) hinit hd3 hroom, q2, pm_use q1 ht⟩ hp rfl hlen2 hls2 hst2 (lv_room h8) hdec hcs
      | false =>
        rw [hq] at hlink
        exact va_runI hfix hMet ⟨callB_of (pm_mk m').2.1 htb hG rfl rfl rfl hinit hlink hd3 hroom, q2, pm_use q1 ht⟩ hp rfl hlen2 hls2 hst2 (lv_room h8) hdec hcs
  unfold pm_okE at hok
  rw [Bool.and_eq_true] at hok
  rcases hkind with ⟨idx, hi, rfl, rfl⟩ | ⟨idx, hi, rfl, rfl⟩ | ⟨idx, hi, rfl, rfl⟩
  · have hi : i = .invokestatic idx := hi
    subst hi
    obtain ⟨g1, y, g2, g3⟩ := pm_calls_spec hok.2 hkd
    exact common g1 y g2 g3 ⟨idx, Or.inl ⟨rfl, rfl, rfl⟩⟩ hok.1
  · have hi : i = .invokevirtual idx := hi
    subst hi
    obtain ⟨g1, y, g2, g3⟩ := pm_calls_spec hok.2 hkd
    exact common g1 y g2 g3 ⟨idx, Or.inr (Or.inl ⟨rfl, rfl, rfl⟩)⟩ hok.1
  · have hi : i = .invokespecial idx := hi
    subst hi
    have h2 := hok.2
    dsimp only at h2
    cases hq : Nat.beq m' 1000 with
    | true =>
      have e1 := Nat.eq_of_beq_eq_true hq
      rw [e1] at hkd
      exact absurd hkd (by decide +kernel)
    | false =>
      rw [hq] at h2
      obtain ⟨g1, y, g2, g3⟩ := pm_calls_spec h2 hkd
      exact common g1 y g2 g3 ⟨idx, Or.inr (Or.inr ⟨rfl, rfl, rfl⟩)⟩ hok.1
end PMF2
