section PMS
variable {p : Program} {l : Launch} {e : Env} {R : Room} {s : State} {m : MethodId} {args : Array Value} {below : List Frame} {meth : Method} {c : Code} {H : Heap} {locs : List Loc} {cells slots : Nat} {Q : State → Prop}
variable {cc : ByteArray} {pc : Nat} {ls : Array Slot} {ad : Int → Nat} {z8 : Value} {N : Nat}
/-- what is to be shown of a simple step: the new locals and stack are good, and the machine goes there -/
def pm_goal (p : Program) (l : Launch) (e : Env) (R : Room) (s : State) (m : MethodId) (args : Array Value) (below : List Frame) (meth : Method) (c : Code) (H : Heap) (locs : List Loc) (cells slots : Nat) (Q : State → Prop) (N : Nat) (cv : pm_V → Value) (pc : Nat) (ls : Array Slot) (S : List pm_V) (pc' : Nat) (L' S' : List pm_V) : Prop :=
  okL N L' ∧ okL N S' ∧ ((∀ ls', pm_LR cv ls' L' → W p l e R s m args below meth c H locs cells slots Q (F0 m pc' ls' (S'.map cv))) → W p l e R s m args below meth c H locs cells slots Q (F0 m pc ls (S.map cv)))
theorem pm_binI {f : Int → Int → Int} {L S L' S' : List pm_V} {pc1 pc' : Nat} (h : pm_ii f pc1 L S = some (pc', L', S')) (hL : okL N L) (hS : okL N S) (hls : pm_LR (pm_cv ad z8) ls L) {g : Int32 → Int32 → Int32}
    (row : ∀ (x y : Int32) (rest : List Value), W p l e R s m args below meth c H locs cells slots Q (F0 m pc1 ls (.int (g x y) :: rest)) → W p l e R s m args below meth c H locs cells slots Q (F0 m pc ls (.int y :: .int x :: rest)))
    (hfg : ∀ x y, R32 x → R32 y → g (Int32.ofInt x) (Int32.ofInt y) = Int32.ofInt (f x y)) (hR : ∀ x y, R32 (f x y)) : pm_goal p l e R s m args below meth c H locs cells slots Q N (pm_cv ad z8) pc ls S pc' L' S' := by
  obtain ⟨y, T, rfl, h1⟩ := pI_spec h
  obtain ⟨x, T, rfl, h2⟩ := pI_spec h1
  cases h2
  refine ⟨hL, okL.cons (hR x y) hS.tl.tl, fun K => row _ _ _ ?_⟩
  rw [hfg x y hS.tl.hd hS.hd]
  exact K ls hls
theorem pm_binL {f : Int → Int → Int} {L S L' S' : List pm_V} {pc1 pc' : Nat} (h : pm_ll f pc1 L S = some (pc', L', S')) (hL : okL N L) (hS : okL N S) (hls : pm_LR (pm_cv ad z8) ls L) {g : Int64 → Int64 → Int64}
    (row : ∀ (x y : Int64) (rest : List Value), W p l e R s m args below meth c H locs cells slots Q (F0 m pc1 ls (.long (g x y) :: rest)) → W p l e R s m args below meth c H locs cells slots Q (F0 m pc ls (.long y :: .long x :: rest)))
    (hfg : ∀ x y, R64 x → R64 y → g (Int64.ofInt x) (Int64.ofInt y) = Int64.ofInt (f x y)) (hR : ∀ x y, R64 (f x y)) : pm_goal p l e R s m args below meth c H locs cells slots Q N (pm_cv ad z8) pc ls S pc' L' S' := by
  obtain ⟨y, T, rfl, h1⟩ := pL_spec h
  obtain ⟨x, T, rfl, h2⟩ := pL_spec h1
  cases h2
  refine ⟨hL, okL.cons (hR x y) hS.tl.tl, fun K => row _ _ _ ?_⟩
  rw [hfg x y hS.tl.hd hS.hd]
  exact K ls hls
theorem pm_binLI {f : Int → Int → Int} {L S L' S' : List pm_V} {pc1 pc' : Nat} (h : pm_li f pc1 L S = some (pc', L', S')) (hL : okL N L) (hS : okL N S) (hls : pm_LR (pm_cv ad z8) ls L) {g : Int64 → Int32 → Int64}
    (row : ∀ (x : Int64) (y : Int32) (rest : List Value), W p l e R s m args below meth c H locs cells slots Q (F0 m pc1 ls (.long (g x y) :: rest)) → W p l e R s m args below meth c H locs cells slots Q (F0 m pc ls (.int y :: .long x :: rest)))
    (hfg : ∀ x y, R64 x → R32 y → g (Int64.ofInt x) (Int32.ofInt y) = Int64.ofInt (f x y)) (hR : ∀ x y, R64 (f x y)) : pm_goal p l e R s m args below meth c H locs cells slots Q N (pm_cv ad z8) pc ls S pc' L' S' := by
  obtain ⟨y, T, rfl, h1⟩ := pI_spec h
  obtain ⟨x, T, rfl, h2⟩ := pL_spec h1
  cases h2
  refine ⟨hL, okL.cons (hR x y) hS.tl.tl, fun K => row _ _ _ ?_⟩
  rw [hfg x y hS.tl.hd hS.hd]
  exact K ls hls
theorem pm_push {L S L' S' : List pm_V} {pc1 pc' : Nat} {b : Bool} {v : pm_V} (h : pm_psh pc1 L S b v = some (pc', L', S')) (hL : okL N L) (hS : okL N S) (hls : pm_LR (pm_cv ad z8) ls L) (hv : b = true → okV N v)
    (row : b = true → ∀ rest : List Value, W p l e R s m args below meth c H locs cells slots Q (F0 m pc1 ls (pm_cv ad z8 v :: rest)) → W p l e R s m args below meth c H locs cells slots Q (F0 m pc ls rest)) : pm_goal p l e R s m args below meth c H locs cells slots Q N (pm_cv ad z8) pc ls S pc' L' S' := by
  obtain ⟨hb, h⟩ := pm_bif h
  cases h
  exact ⟨hL, okL.cons (hv hb) hS, fun K => row hb _ (K ls hls)⟩
theorem pm_loadI {L S L' S' : List pm_V} {k pc1 pc' : Nat} (h : pm_ldi L k pc1 S = some (pc', L', S')) (hL : okL N L) (hS : okL N S) (hls : pm_LR (pm_cv ad z8) ls L)
    (row : ∀ (x : Int32) (rest : List Value), ls[k]? = some (.val (.int x)) → W p l e R s m args below meth c H locs cells slots Q (F0 m pc1 ls (.int x :: rest)) → W p l e R s m args below meth c H locs cells slots Q (F0 m pc ls rest)) : pm_goal p l e R s m args below meth c H locs cells slots Q N (pm_cv ad z8) pc ls S pc' L' S' := by
  unfold pm_ldi at h
  split at h
  · next x hk =>
    cases h
    exact ⟨hL, okL.cons (hL.at hk) hS, fun K => row _ _ (hls.get hk (by simp)) (K ls hls)⟩
  · cases h
theorem pm_loadL {L S L' S' : List pm_V} {k pc1 pc' : Nat} (h : pm_ldl L k pc1 S = some (pc', L', S')) (hL : okL N L) (hS : okL N S) (hls : pm_LR (pm_cv ad z8) ls L)
    (row : ∀ (x : Int64) (rest : List Value), ls[k]? = some (.val (.long x)) → W p l e R s m args below meth c H locs cells slots Q (F0 m pc1 ls (.long x :: rest)) → W p l e R s m args below meth c H locs cells slots Q (F0 m pc ls rest)) : pm_goal p l e R s m args below meth c H locs cells slots Q N (pm_cv ad z8) pc ls S pc' L' S' := by
  unfold pm_ldl at h
  split at h
  · next x hk =>
    cases h
    exact ⟨hL, okL.cons (hL.at hk) hS, fun K => row _ _ (hls.get hk (by simp)) (K ls hls)⟩
  · cases h
theorem pm_loadR {L S L' S' : List pm_V} {k pc1 pc' : Nat} (h : pm_ldr L k pc1 S = some (pc', L', S')) (hL : okL N L) (hS : okL N S) (hls : pm_LR (pm_cv ad z8) ls L)
    (row : ∀ (x : Nat) (rest : List Value), ls[k]? = some (.val (.ref x)) → W p l e R s m args below meth c H locs cells slots Q (F0 m pc1 ls (.ref x :: rest)) → W p l e R s m args below meth c H locs cells slots Q (F0 m pc ls rest)) : pm_goal p l e R s m args below meth c H locs cells slots Q N (pm_cv ad z8) pc ls S pc' L' S' := by
  unfold pm_ldr at h
  split at h
  · next x hk =>
    obtain ⟨hr, h⟩ := pm_bif h
    cases h
    have e1 := hls.get hk (by simp)
    rw [pm_cv_r hr] at e1
    refine ⟨hL, okL.cons (hL.at hk) hS, fun K => row _ _ e1 ?_⟩
    have e2 := K ls hls
    rw [List.map_cons, pm_cv_r hr] at e2
    exact e2
  · cases h
theorem pm_storeI (hz : z8.category = 1) {L S L' S' : List pm_V} {k pc1 pc' : Nat} (h : pm_sti L k pc1 S = some (pc', L', S')) (hL : okL N L) (hS : okL N S) (hls : pm_LR (pm_cv ad z8) ls L)
    (row : ∀ (x : Int32) (rest : List Value), k < L.length → (∀ ls' : Array Slot, lv_has ls' L.length ((k, Value.int x) :: (pm_lv (pm_cv ad z8) 0 L).filter (fun q => !(q.1 == k) && !(q.1 + 1 == k && q.2.category == 2))) → W p l e R s m args below meth c H locs cells slots Q (F0 m pc1 ls' rest)) → W p l e R s m args below meth c H locs cells slots Q (F0 m pc ls (.int x :: rest))) : pm_goal p l e R s m args below meth c H locs cells slots Q N (pm_cv ad z8) pc ls S pc' L' S' := by
  obtain ⟨x, T, rfl, h1⟩ := pI_spec h
  obtain ⟨hk, h2⟩ := pm_bif h1
  cases h2
  exact ⟨hL.setL hS.hd, hS.tl, fun K => row _ _ (Nat.blt_eq.mp hk) fun ls' h' => K ls' (pm_LR.store (v := Vi x) (pm_cv_cat hz) rfl h')⟩
theorem pm_storeR (hz : z8.category = 1) {L S L' S' : List pm_V} {k pc1 pc' : Nat} (h : pm_str L k pc1 S = some (pc', L', S')) (hL : okL N L) (hS : okL N S) (hls : pm_LR (pm_cv ad z8) ls L)
    (row : ∀ (x : Nat) (rest : List Value), k < L.length → (∀ ls' : Array Slot, lv_has ls' L.length ((k, Value.ref x) :: (pm_lv (pm_cv ad z8) 0 L).filter (fun q => !(q.1 == k) && !(q.1 + 1 == k && q.2.category == 2))) → W p l e R s m args below meth c H locs cells slots Q (F0 m pc1 ls' rest)) → W p l e R s m args below meth c H locs cells slots Q (F0 m pc ls (.ref x :: rest))) : pm_goal p l e R s m args below meth c H locs cells slots Q N (pm_cv ad z8) pc ls S pc' L' S' := by
  obtain ⟨x, T, rfl, h1⟩ := pR_spec h
  obtain ⟨hk, h2⟩ := pm_bif h1
  rw [Bool.and_eq_true] at hk
  cases h2
  refine ⟨hL.setL hS.hd, hS.tl, fun K => ?_⟩
  rw [List.map_cons, pm_cv_r hk.1]
  exact row _ _ (Nat.blt_eq.mp hk.2) fun ls' h' => K ls' (pm_LR.store (v := Vr x) (pm_cv_cat hz) rfl (by rw [pm_cv_r hk.1]; exact h'))
theorem pm_storeL (hz : z8.category = 1) {L S L' S' : List pm_V} {k pc1 pc' : Nat} (h : pm_stl L k pc1 S = some (pc', L', S')) (hL : okL N L) (hS : okL N S) (hls : pm_LR (pm_cv ad z8) ls L)
    (row : ∀ (x : Int64) (rest : List Value), k + 1 < L.length → (∀ ls' : Array Slot, lv_has ls' L.length ((k, Value.long x) :: (pm_lv (pm_cv ad z8) 0 L).filter (fun q => !(q.1 == k) && (!(q.1 == k + 1) && !(q.1 + 1 == k && q.2.category == 2)))) → W p l e R s m args below meth c H locs cells slots Q (F0 m pc1 ls' rest)) → W p l e R s m args below meth c H locs cells slots Q (F0 m pc ls (.long x :: rest))) : pm_goal p l e R s m args below meth c H locs cells slots Q N (pm_cv ad z8) pc ls S pc' L' S' := by
  obtain ⟨x, T, rfl, h1⟩ := pL_spec h
  obtain ⟨hk, h2⟩ := pm_bif h1
  cases h2
  exact ⟨(hL.setL hS.hd).setX, hS.tl, fun K => row _ _ (Nat.blt_eq.mp hk) fun ls' h' => K ls' (pm_LR.store2 (v := Vl x) (pm_cv_cat hz) rfl h')⟩
theorem pm_incI (hz : z8.category = 1) {L S L' S' : List pm_V} {k pc1 pc' : Nat} {n : Int} (h : pm_iin L k n pc1 S = some (pc', L', S')) (hL : okL N L) (hS : okL N S) (hls : pm_LR (pm_cv ad z8) ls L)
    (row : ∀ (j : Nat) (x v : Int32) (rest : List Value), k < L.length → (pm_lv (pm_cv ad z8) 0 L)[j]? = some (k, .int x) → x + Int32.ofInt n = v → (∀ ls' : Array Slot, lv_has ls' L.length ((k, Value.int v) :: (pm_lv (pm_cv ad z8) 0 L).filter (fun q => !(q.1 == k) && !(q.1 + 1 == k && q.2.category == 2))) → W p l e R s m args below meth c H locs cells slots Q (F0 m pc1 ls' rest)) → W p l e R s m args below meth c H locs cells slots Q (F0 m pc ls rest)) : pm_goal p l e R s m args below meth c H locs cells slots Q N (pm_cv ad z8) pc ls S pc' L' S' := by
  unfold pm_iin at h
  split at h
  · next x hk =>
    obtain ⟨hb, h⟩ := pm_bif h
    rw [Bool.and_eq_true] at hb
    cases h
    have hx : R32 x := hL.at hk
    have hm := pm_lv_in (cv := pm_cv ad z8) L 0 k (Vi x) (by rw [← pm_nth_eq]; exact hk) (by simp)
    rw [Nat.zero_add] at hm
    obtain ⟨j, hj⟩ := List.getElem?_of_mem hm
    exact ⟨hL.setL (R32_w32 _), hS, fun K => row j _ _ _ (Nat.blt_eq.mp hb.2) hj (pn_add hx (pm_r32_spec hb.1)) fun ls' h' => K ls' (pm_LR.store (v := Vi (w32 (x + n))) (pm_cv_cat hz) rfl h')⟩
  · cases h
theorem pm_to_eq {pc : Nat} {off : Int} (h : decide (0 ≤ (pc : Int) + off) = true) : (pc : Int) + off = ((pm_to pc off : Nat) : Int) := by
  have h := of_decide_eq_true h
  unfold pm_to
  omega
theorem pm_branch {P : Prop} [Decidable P] {off : Int} {L T L' S' S : List pm_V} {pc' : Nat} (h : pm_br P pc off L T = some (pc', L', S')) (hL : okL N L) (hS : okL N T) (hls : pm_LR (pm_cv ad z8) ls L)
    (row : ∀ (tgt : Nat) (rest : List Value), (pc : Int) + off = (tgt : Int) → (P → W p l e R s m args below meth c H locs cells slots Q (F0 m tgt ls (T.map (pm_cv ad z8)))) → (¬ P → W p l e R s m args below meth c H locs cells slots Q (F0 m (pc + 3) ls (T.map (pm_cv ad z8)))) → W p l e R s m args below meth c H locs cells slots Q (F0 m pc ls (S.map (pm_cv ad z8)))) : pm_goal p l e R s m args below meth c H locs cells slots Q N (pm_cv ad z8) pc ls S pc' L' S' := by
  obtain ⟨hk, h⟩ := pm_bif h
  cases h
  refine ⟨hL, hS, fun K => row _ [] (pm_to_eq hk) (fun q => ?_) (fun q => ?_)⟩
  · have e := K ls hls
    rw [if_pos q] at e
    exact e
  · have e := K ls hls
    rw [if_neg q] at e
    exact e
theorem pm_go {off : Int} {L T L' S' S : List pm_V} {pc' : Nat} (h : pm_gt pc off L T = some (pc', L', S')) (hL : okL N L) (hS : okL N T) (hls : pm_LR (pm_cv ad z8) ls L)
    (row : ∀ (tgt : Nat), (pc : Int) + off = (tgt : Int) → W p l e R s m args below meth c H locs cells slots Q (F0 m tgt ls (T.map (pm_cv ad z8))) → W p l e R s m args below meth c H locs cells slots Q (F0 m pc ls (S.map (pm_cv ad z8)))) : pm_goal p l e R s m args below meth c H locs cells slots Q N (pm_cv ad z8) pc ls S pc' L' S' := by
  obtain ⟨hk, h⟩ := pm_bif h
  cases h
  exact ⟨hL, hS, fun K => row _ (pm_to_eq hk) (K ls hls)⟩
end PMS
