section PMS2
variable {p : Program} {l : Launch} {e : Env} {R : Room} {s : State} {m : MethodId} {args : Array Value} {below : List Frame} {meth : Method} {c : Code} {H : Heap} {locs : List Loc} {cells slots : Nat} {Q : State → Prop}
variable {cc : ByteArray} {pc : Nat} {ls : Array Slot} {ad : Int → Nat} {z8 : Value} {N : Nat}
theorem pm_cons2 {cv : pm_V → Value} {u v : pm_V} {T : List pm_V} : (u :: v :: T).map cv = cv u :: cv v :: T.map cv := rfl
set_option maxHeartbeats 4000000 in
theorem pm_sound1 (hx : p.tables.exec = Jvm.exec) (hb : c.code = cc) (hz : z8.category = 1) {i : Instr} {n : Nat} (hdg : decode cc pc = .ok (i, n)) (hn : pm_lenok i n = true) {L S L' S' : List pm_V} {pc' : Nat} (h : stpS i pc L S = some (pc', L', S')) (hL : okL N L) (hS : okL N S) (hls : pm_LR (pm_cv ad z8) ls L) :
    pm_goal p l e R s m args below meth c H locs cells slots Q N (pm_cv ad z8) pc ls S pc' L' S' := by
  cases i with
  | iconst k =>
    rw [Nat.eq_of_beq_eq_true hn] at hdg
    exact pm_push h hL hS hls (fun q => pm_r32_spec q) fun _ _ => lv_iconst hx hb hdg rfl
  | lconst k =>
    rw [Nat.eq_of_beq_eq_true hn] at hdg
    refine pm_push h hL hS hls (fun q => ?_) fun _ _ => lv_lconst hx hb hdg ?_
    · have := k.isLt
      show R64 ((k : Nat) : Int)
      unfold R64
      omega
    · show Int64.ofNat (k : Nat) = Int64.ofInt ((k : Nat) : Int)
      rw [Int64.ofInt_eq_ofNat]
  | bipush k =>
    rw [Nat.eq_of_beq_eq_true hn] at hdg
    refine pm_push h hL hS hls (fun q => ?_) fun q _ => lv_bipush hx hb hdg ?_
    · simp only [Bool.and_eq_true, decide_eq_true_eq] at q
      show R32 k
      unfold R32
      omega
    · simp only [Bool.and_eq_true, decide_eq_true_eq] at q
      exact pn_bip q.1 q.2
  | sipush k =>
    rw [Nat.eq_of_beq_eq_true hn] at hdg
    refine pm_push h hL hS hls (fun q => ?_) fun q _ => lv_sipush hx hb hdg ?_
    · simp only [Bool.and_eq_true, decide_eq_true_eq] at q
      show R32 k
      unfold R32
      omega
    · simp only [Bool.and_eq_true, decide_eq_true_eq] at q
      exact pn_sip q.1 q.2
  | iload_n k => rw [Nat.eq_of_beq_eq_true hn] at hdg; exact pm_loadI h hL hS hls fun _ _ q => lv_iload_n hx hb hdg rfl q
  | iload k => rw [Nat.eq_of_beq_eq_true hn] at hdg; exact pm_loadI h hL hS hls fun _ _ q => lv_iload hx hb hdg q
  | lload_n k => rw [Nat.eq_of_beq_eq_true hn] at hdg; exact pm_loadL h hL hS hls fun _ _ q => lv_lload_n hx hb hdg rfl q
  | lload k => rw [Nat.eq_of_beq_eq_true hn] at hdg; exact pm_loadL h hL hS hls fun _ _ q => lv_lload hx hb hdg q
  | aload_n k => rw [Nat.eq_of_beq_eq_true hn] at hdg; exact pm_loadR h hL hS hls fun _ _ q => lv_aload_n hx hb hdg rfl q
  | aload k => rw [Nat.eq_of_beq_eq_true hn] at hdg; exact pm_loadR h hL hS hls fun _ _ q => lv_aload hx hb hdg q
  | istore_n k => rw [Nat.eq_of_beq_eq_true hn] at hdg; exact pm_storeI hz h hL hS hls fun _ _ q => lv_istore_n hx hb hdg rfl hls.has q rfl
  | istore k => rw [Nat.eq_of_beq_eq_true hn] at hdg; exact pm_storeI hz h hL hS hls fun _ _ q => lv_istore hx hb hdg hls.has q rfl
  | lstore_n k => rw [Nat.eq_of_beq_eq_true hn] at hdg; exact pm_storeL hz h hL hS hls fun _ _ q => lv_lstore_n hx hb hdg rfl hls.has q rfl
  | lstore k => rw [Nat.eq_of_beq_eq_true hn] at hdg; exact pm_storeL hz h hL hS hls fun _ _ q => lv_lstore hx hb hdg hls.has q rfl
  | astore_n k => rw [Nat.eq_of_beq_eq_true hn] at hdg; exact pm_storeR hz h hL hS hls fun _ _ q => lv_astore_n hx hb hdg rfl hls.has q rfl
  | astore k => rw [Nat.eq_of_beq_eq_true hn] at hdg; exact pm_storeR hz h hL hS hls fun _ _ q => lv_astore hx hb hdg hls.has q rfl
  | iinc k a => rw [Nat.eq_of_beq_eq_true hn] at hdg; exact pm_incI hz h hL hS hls fun _ _ _ _ q1 q2 q3 => lv_iinc hx hb hdg hls.has q2 q3 q1 rfl
  | iadd => rw [Nat.eq_of_beq_eq_true hn] at hdg; exact pm_binI h hL hS hls (fun _ _ _ => lv_iadd hx hb hdg) (fun x y a b => pn_add a b) (fun _ _ => R32_w32 _)
  | isub => rw [Nat.eq_of_beq_eq_true hn] at hdg; exact pm_binI h hL hS hls (fun _ _ _ => lv_isub hx hb hdg) (fun x y a b => pn_sub a b) (fun _ _ => R32_w32 _)
  | imul => rw [Nat.eq_of_beq_eq_true hn] at hdg; exact pm_binI h hL hS hls (fun _ _ _ => lv_imul hx hb hdg) (fun x y a b => pn_mul a b) (fun _ _ => R32_w32 _)
  | iand => rw [Nat.eq_of_beq_eq_true hn] at hdg; exact pm_binI h hL hS hls (fun _ _ _ => lv_iand hx hb hdg) (fun x y a b => (Int32.ofInt_toInt _).symm) (fun _ _ => R32_toInt _)
  | ior => rw [Nat.eq_of_beq_eq_true hn] at hdg; exact pm_binI h hL hS hls (fun _ _ _ => lv_ior hx hb hdg) (fun x y a b => (Int32.ofInt_toInt _).symm) (fun _ _ => R32_toInt _)
  | ixor => rw [Nat.eq_of_beq_eq_true hn] at hdg; exact pm_binI h hL hS hls (fun _ _ _ => lv_ixor hx hb hdg) (fun x y a b => (Int32.ofInt_toInt _).symm) (fun _ _ => R32_toInt _)
  | ishl => rw [Nat.eq_of_beq_eq_true hn] at hdg; exact pm_binI h hL hS hls (fun _ _ _ => lv_ishl hx hb hdg) (fun x y a b => (Int32.ofInt_toInt _).symm) (fun _ _ => R32_toInt _)
  | ishr => rw [Nat.eq_of_beq_eq_true hn] at hdg; exact pm_binI h hL hS hls (fun _ _ _ => lv_ishr hx hb hdg) (fun x y a b => (Int32.ofInt_toInt _).symm) (fun _ _ => R32_toInt _)
  | iushr => rw [Nat.eq_of_beq_eq_true hn] at hdg; exact pm_binI h hL hS hls (fun _ _ _ => lv_iushr hx hb hdg rfl) (fun x y a b => (Int32.ofInt_toInt _).symm) (fun _ _ => R32_toInt _)
  | ladd => rw [Nat.eq_of_beq_eq_true hn] at hdg; exact pm_binL h hL hS hls (fun _ _ _ => lv_ladd hx hb hdg) (fun x y a b => pn_Add a b) (fun _ _ => R64_w64 _)
  | lsub => rw [Nat.eq_of_beq_eq_true hn] at hdg; exact pm_binL h hL hS hls (fun _ _ _ => lv_lsub hx hb hdg) (fun x y a b => pn_Sub a b) (fun _ _ => R64_w64 _)
  | lmul => rw [Nat.eq_of_beq_eq_true hn] at hdg; exact pm_binL h hL hS hls (fun _ _ _ => lv_lmul hx hb hdg) (fun x y a b => pn_Mul a b) (fun _ _ => R64_w64 _)
  | land => rw [Nat.eq_of_beq_eq_true hn] at hdg; exact pm_binL h hL hS hls (fun _ _ _ => lv_land hx hb hdg) (fun x y a b => (Int64.ofInt_toInt _).symm) (fun _ _ => R64_toInt _)
  | lor => rw [Nat.eq_of_beq_eq_true hn] at hdg; exact pm_binL h hL hS hls (fun _ _ _ => lv_lor hx hb hdg) (fun x y a b => (Int64.ofInt_toInt _).symm) (fun _ _ => R64_toInt _)
  | lshl => rw [Nat.eq_of_beq_eq_true hn] at hdg; exact pm_binLI h hL hS hls (fun _ _ _ => lv_lshl hx hb hdg rfl) (fun x y a b => (Int64.ofInt_toInt _).symm) (fun _ _ => R64_toInt _)
  | lushr => rw [Nat.eq_of_beq_eq_true hn] at hdg; exact pm_binLI h hL hS hls (fun _ _ _ => lv_lushr hx hb hdg rfl) (fun x y a b => (Int64.ofInt_toInt _).symm) (fun _ _ => R64_toInt _)
  | idiv =>
    rw [Nat.eq_of_beq_eq_true hn] at hdg
    obtain ⟨y, T, rfl, h1⟩ := pI_spec h
    obtain ⟨x, T, rfl, h2⟩ := pI_spec h1
    split at h2
    · cases h2
    · next hy =>
      cases h2
      refine ⟨hL, okL.cons (R32_w32 _) hS.tl.tl, fun K => lv_idiv hx hb hdg (fun q => hy ((pn_eq hS.hd R32_0).mp q)) ?_⟩
      rw [pn_div hS.tl.hd hS.hd]
      exact K ls hls
  | irem =>
    rw [Nat.eq_of_beq_eq_true hn] at hdg
    obtain ⟨y, T, rfl, h1⟩ := pI_spec h
    obtain ⟨x, T, rfl, h2⟩ := pI_spec h1
    split at h2
    · cases h2
    · next hy =>
      cases h2
      refine ⟨hL, okL.cons (R32_w32 _) hS.tl.tl, fun K => lv_irem hx hb hdg (fun q => hy ((pn_eq hS.hd R32_0).mp q)) ?_⟩
      rw [pn_rem hS.tl.hd hS.hd]
      exact K ls hls
  | ldiv =>
    rw [Nat.eq_of_beq_eq_true hn] at hdg
    obtain ⟨y, T, rfl, h1⟩ := pL_spec h
    obtain ⟨x, T, rfl, h2⟩ := pL_spec h1
    split at h2
    · cases h2
    · next hy =>
      cases h2
      refine ⟨hL, okL.cons (R64_w64 _) hS.tl.tl, fun K => lv_ldiv hx hb hdg (fun q => hy ((pn_Eq hS.hd R64_0).mp q)) ?_⟩
      rw [pn_Div hS.tl.hd hS.hd]
      exact K ls hls
  | lrem =>
    rw [Nat.eq_of_beq_eq_true hn] at hdg
    obtain ⟨y, T, rfl, h1⟩ := pL_spec h
    obtain ⟨x, T, rfl, h2⟩ := pL_spec h1
    split at h2
    · cases h2
    · next hy =>
      cases h2
      refine ⟨hL, okL.cons (R64_w64 _) hS.tl.tl, fun K => lv_lrem hx hb hdg (fun q => hy ((pn_Eq hS.hd R64_0).mp q)) ?_⟩
      rw [pn_Rem hS.tl.hd hS.hd]
      exact K ls hls
  | lcmp =>
    rw [Nat.eq_of_beq_eq_true hn] at hdg
    obtain ⟨y, T, rfl, h1⟩ := pL_spec h
    obtain ⟨x, T, rfl, h2⟩ := pL_spec h1
    cases h2
    refine ⟨hL, okL.cons (R32_lcmp _ _) hS.tl.tl, fun K => W.lcmp hx hb hdg ?_⟩
    rw [pn_lcmp hS.tl.hd hS.hd]
    exact K ls hls
  | i2l =>
    rw [Nat.eq_of_beq_eq_true hn] at hdg
    obtain ⟨x, T, rfl, h1⟩ := pI_spec h
    cases h1
    refine ⟨hL, okL.cons ?_ hS.tl, fun K => lv_i2l hx hb hdg (pn_i2l hS.hd) (K ls hls)⟩
    have := hS.hd
    unfold okV R32 at this
    show R64 x
    unfold R64
    omega
  | l2i =>
    rw [Nat.eq_of_beq_eq_true hn] at hdg
    obtain ⟨x, T, rfl, h1⟩ := pL_spec h
    cases h1
    exact ⟨hL, okL.cons (R32_w32 _) hS.tl, fun K => lv_l2i hx hb hdg (pn_l2i hS.hd) (K ls hls)⟩
  | i2b =>
    rw [Nat.eq_of_beq_eq_true hn] at hdg
    obtain ⟨x, T, rfl, h1⟩ := pI_spec h
    cases h1
    exact ⟨hL, okL.cons (R32_w8 _) hS.tl, fun K => lv_i2b hx hb hdg (pn_i2b hS.hd) (K ls hls)⟩
  | i2c =>
    rw [Nat.eq_of_beq_eq_true hn] at hdg
    obtain ⟨x, T, rfl, h1⟩ := pI_spec h
    cases h1
    refine ⟨hL, okL.cons ?_ hS.tl, fun K => lv_i2c hx hb hdg (pn_i2c hS.hd) (K ls hls)⟩
    show R32 (x % 65536)
    unfold R32
    omega
  | dup =>
    rw [Nat.eq_of_beq_eq_true hn] at hdg
    match S, h, hS with
    | v :: T, h, hS =>
      obtain ⟨hk, h2⟩ := pm_bif h
      cases h2
      exact ⟨hL, okL.cons hS.hd hS, fun K => lv_dup hx hb hdg ((pm_cv_cat hz v).trans (Nat.eq_of_beq_eq_true hk)) (K ls hls)⟩
    | [], h, hS => exact absurd (show (none : pm_R) = some _ from h) (by simp)
  | pop =>
    rw [Nat.eq_of_beq_eq_true hn] at hdg
    match S, h, hS with
    | v :: T, h, hS =>
      obtain ⟨hk, h2⟩ := pm_bif h
      cases h2
      exact ⟨hL, hS.tl, fun K => lv_pop hx hb hdg ((pm_cv_cat hz v).trans (Nat.eq_of_beq_eq_true hk)) (K ls hls)⟩
    | [], h, hS => exact absurd (show (none : pm_R) = some _ from h) (by simp)
  | dup2 =>
    rw [Nat.eq_of_beq_eq_true hn] at hdg
    match S, h, hS with
    | v :: u :: T, h, hS =>
      obtain ⟨hk, h2⟩ := pm_bif h
      rw [Bool.and_eq_true] at hk
      cases h2
      exact ⟨hL, okL.cons hS.hd (okL.cons hS.tl.hd hS), fun K => lv_dup2_11 hx hb hdg ((pm_cv_cat hz v).trans (Nat.eq_of_beq_eq_true hk.1)) ((pm_cv_cat hz u).trans (Nat.eq_of_beq_eq_true hk.2)) (K ls hls)⟩
    | [v], h, hS => exact absurd (show (none : pm_R) = some _ from h) (by simp)
    | [], h, hS => exact absurd (show (none : pm_R) = some _ from h) (by simp)
  | ifCond c0 off =>
    rw [Nat.eq_of_beq_eq_true hn] at hdg
    obtain ⟨x, T, rfl, h1⟩ := pI_spec h
    have hX := hS.hd
    cases c0 with
    | eq => exact pm_branch h1 hL hS.tl hls fun tgt rest ht kt kf => lv_if_eq hx hb hdg ht (fun q => kt ((pn_eq hX R32_0).mp q)) (fun q => kf fun z => q ((pn_eq hX R32_0).mpr z))
    | ne => exact pm_branch h1 hL hS.tl hls fun tgt rest ht kt kf => lv_if_ne hx hb hdg ht (fun q => kt fun z => q ((pn_eq hX R32_0).mpr z)) (fun q => kf fun z => z ((pn_eq hX R32_0).mp (by simpa using q)))
    | lt => exact pm_branch h1 hL hS.tl hls fun tgt rest ht kt kf => lv_if_lt hx hb hdg ht (fun q => kt ((pn_lt hX R32_0).mp q)) (fun q => kf fun z => q ((pn_lt hX R32_0).mpr z))
    | ge => exact pm_branch h1 hL hS.tl hls fun tgt rest ht kt kf => lv_if_ge hx hb hdg ht (fun q => kt ((pn_le R32_0 hX).mp q)) (fun q => kf fun z => q ((pn_le R32_0 hX).mpr z))
    | gt => exact pm_branch h1 hL hS.tl hls fun tgt rest ht kt kf => lv_if_gt hx hb hdg ht (fun q => kt ((pn_lt R32_0 hX).mp q)) (fun q => kf fun z => q ((pn_lt R32_0 hX).mpr z))
    | le => exact pm_branch h1 hL hS.tl hls fun tgt rest ht kt kf => lv_if_le hx hb hdg ht (fun q => kt ((pn_le hX R32_0).mp q)) (fun q => kf fun z => q ((pn_le hX R32_0).mpr z))
  | if_icmp c0 off =>
    rw [Nat.eq_of_beq_eq_true hn] at hdg
    obtain ⟨y, T, rfl, h1⟩ := pI_spec h
    obtain ⟨x, T, rfl, h2⟩ := pI_spec h1
    have hY := hS.hd
    have hX := hS.tl.hd
    cases c0 with
    | eq => exact pm_branch h2 hL hS.tl.tl hls fun tgt rest ht kt kf => lv_icmp_eq hx hb hdg ht (fun q => kt ((pn_eq hX hY).mp q)) (fun q => kf fun z => q ((pn_eq hX hY).mpr z))
    | ne => exact pm_branch h2 hL hS.tl.tl hls fun tgt rest ht kt kf => lv_icmp_ne hx hb hdg ht (fun q => kt fun z => q ((pn_eq hX hY).mpr z)) (fun q => kf fun z => z ((pn_eq hX hY).mp (by simpa using q)))
    | lt => exact pm_branch h2 hL hS.tl.tl hls fun tgt rest ht kt kf => lv_icmp_lt hx hb hdg ht (fun q => kt ((pn_lt hX hY).mp q)) (fun q => kf fun z => q ((pn_lt hX hY).mpr z))
    | ge => exact pm_branch h2 hL hS.tl.tl hls fun tgt rest ht kt kf => lv_icmp_ge hx hb hdg ht (fun q => kt ((pn_le hY hX).mp q)) (fun q => kf fun z => q ((pn_le hY hX).mpr z))
    | gt => exact pm_branch h2 hL hS.tl.tl hls fun tgt rest ht kt kf => lv_icmp_gt hx hb hdg ht (fun q => kt ((pn_lt hY hX).mp q)) (fun q => kf fun z => q ((pn_lt hY hX).mpr z))
    | le => exact pm_branch h2 hL hS.tl.tl hls fun tgt rest ht kt kf => lv_icmp_le hx hb hdg ht (fun q => kt ((pn_le hX hY).mp q)) (fun q => kf fun z => q ((pn_le hX hY).mpr z))
  | goto off =>
    rw [Nat.eq_of_beq_eq_true hn] at hdg
    exact pm_go (S := S) h hL hS hls fun tgt ht => lv_goto hx hb hdg ht
  | tableswitch d lo hi offs =>
    obtain ⟨x, T, rfl, h1⟩ := pI_spec h
    have hX : R32 x := hS.hd
    by_cases hr : x < lo ∨ hi < x
    · rw [if_pos hr] at h1
      exact pm_go h1 hL hS.tl hls fun tgt ht K => lv_tableOut hx hb hdg (by rw [pn_t hX]; exact hr) ht K
    · rw [if_neg hr] at h1
      split at h1
      · next off ho =>
        exact pm_go h1 hL hS.tl hls fun tgt ht K => lv_tableIn hx hb hdg (by rw [pn_t hX]; omega) (by rw [pn_t hX]; omega) (by rw [pn_t hX, ← Array.getElem?_toList, ← pm_nth_eq]; exact ho) ht K
      · cases h1
  | lookupswitch d ps =>
    obtain ⟨hk, h1⟩ : pm_srt ps.toList = true ∧ pI S (fun x T => pm_gt pc (pm_lku ps.toList d x) L T) = some (pc', L', S') := by
      have h' : (bif pm_srt ps.toList then pI S (fun x T => pm_gt pc (pm_lku ps.toList d x) L T) else none) = some (pc', L', S') := h
      cases hq : pm_srt ps.toList with
      | true => rw [hq] at h'; exact ⟨rfl, h'⟩
      | false => rw [hq] at h'; cases h'
    obtain ⟨x, T, rfl, h2⟩ := pI_spec h1
    have hX : R32 x := hS.hd
    exact pm_go h2 hL hS.tl hls fun tgt ht K => lv_lookup hx hb hdg (pm_srt_spec _ hk) (by rw [pn_t hX, pm_lku_eq]) ht K
  | _ => exact absurd (show (none : pm_R) = some _ from h) (by simp)
end PMS2
