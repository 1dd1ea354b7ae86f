/-! the simple instructions: what the pure machine does, the machine does -/
def okV (N : Nat) (v : pm_V) : Prop := match v with
  | .inl x => R32 x
  | .inr (.inl x) => R64 x
  | .inr (.inr (.inl x)) => x < N
  | .inr (.inr (.inr _)) => True
def okL (N : Nat) (L : List pm_V) : Prop := ∀ v ∈ L, okV N v
theorem okL.nil {N : Nat} : okL N [] := fun v h => by cases h
theorem okL.cons {N : Nat} {v : pm_V} {L : List pm_V} (h : okV N v) (hL : okL N L) : okL N (v :: L) := fun u hu => by
  rcases List.mem_cons.mp hu with rfl | hu
  · exact h
  · exact hL u hu
theorem okL.hd {N : Nat} {v : pm_V} {L : List pm_V} (h : okL N (v :: L)) : okV N v := h v List.mem_cons_self
theorem okL.tl {N : Nat} {v : pm_V} {L : List pm_V} (h : okL N (v :: L)) : okL N L := fun u hu => h u (List.mem_cons_of_mem _ hu)
theorem okL.at {N : Nat} {L : List pm_V} (h : okL N L) {k : Nat} {v : pm_V} (hk : pm_nth L k = some v) : okV N v := h v (List.mem_of_getElem? (by rw [← pm_nth_eq]; exact hk))
/-- values of the pure machine as the machine has them -/
def pm_cv (ad : Int → Nat) (z8 : Value) (v : pm_V) : Value := match v with
  | .inl x => .int (Int32.ofInt x)
  | .inr (.inl x) => .long (Int64.ofInt x)
  | .inr (.inr (.inl x)) => if pm_rok x = true then .ref (ad x) else if x = -1 then .null else z8
  | .inr (.inr (.inr _)) => .null
theorem pm_cv_r {ad : Int → Nat} {z8 : Value} {x : Int} (h : pm_rok x = true) : pm_cv ad z8 (Vr x) = .ref (ad x) := if_pos h
theorem pm_cv_cat {ad : Int → Nat} {z8 : Value} (hz : z8.category = 1) (v : pm_V) : (pm_cv ad z8 v).category = pm_cat v := by
  match v with
  | .inl x => rfl
  | .inr (.inl x) => rfl
  | .inr (.inr (.inl x)) =>
    show (if pm_rok x = true then Value.ref (ad x) else if x = -1 then .null else z8).category = 1
    split
    · rfl
    · split
      · rfl
      · exact hz
  | .inr (.inr (.inr _)) => rfl
/-- the locals -/
def pm_LR (cv : pm_V → Value) (ls : Array Slot) (L : List pm_V) : Prop := ls.size = L.length ∧ lv_wf ls ∧ ∀ (k : Nat) (v : pm_V), L[k]? = some v → v ≠ Vx → ls[k]? = some (.val (cv v))
def pm_lv (cv : pm_V → Value) : Nat → List pm_V → List (Nat × Value)
  | _, [] => []
  | i, v :: t => if v = Vx then pm_lv cv (i + 1) t else (i, cv v) :: pm_lv cv (i + 1) t
theorem pm_lv_mem {cv : pm_V → Value} : ∀ (L : List pm_V) (i : Nat) (q : Nat × Value), q ∈ pm_lv cv i L → ∃ (k : Nat) (v : pm_V), L[k]? = some v ∧ v ≠ Vx ∧ q = (i + k, cv v)
  | [], i, q, h => by cases h
  | v :: t, i, q, h => by
    unfold pm_lv at h
    by_cases hv : v = Vx
    · rw [if_pos hv] at h
      obtain ⟨k, u, h1, h2, h3⟩ := pm_lv_mem t (i + 1) q h
      exact ⟨k + 1, u, by simpa using h1, h2, by rw [h3]; congr 1; omega⟩
    · rw [if_neg hv] at h
      rcases List.mem_cons.mp h with h | h
      · exact ⟨0, v, rfl, hv, by simpa using h⟩
      · obtain ⟨k, u, h1, h2, h3⟩ := pm_lv_mem t (i + 1) q h
        exact ⟨k + 1, u, by simpa using h1, h2, by rw [h3]; congr 1; omega⟩
theorem pm_lv_in {cv : pm_V → Value} : ∀ (L : List pm_V) (i k : Nat) (v : pm_V), L[k]? = some v → v ≠ Vx → (i + k, cv v) ∈ pm_lv cv i L
  | [], i, k, v, h, _ => by simp at h
  | u :: t, i, 0, v, h, hv => by
    have e : u = v := by simpa using h
    subst e
    unfold pm_lv
    rw [if_neg hv]
    exact List.mem_cons_self
  | u :: t, i, k + 1, v, h, hv => by
    have e := pm_lv_in (cv := cv) t (i + 1) k v (by simpa using h) hv
    rw [show i + 1 + k = i + (k + 1) by omega] at e
    unfold pm_lv
    split
    · exact e
    · exact List.mem_cons_of_mem _ e
theorem pm_LR.has {cv : pm_V → Value} {ls : Array Slot} {L : List pm_V} (h : pm_LR cv ls L) : lv_has ls L.length (pm_lv cv 0 L) := by
  refine ⟨h.1, h.2.1, fun q hq => ?_⟩
  obtain ⟨k, v, h1, h2, rfl⟩ := pm_lv_mem L 0 q hq
  rw [Nat.zero_add]
  exact h.2.2 k v h1 h2
theorem pm_LR.get {cv : pm_V → Value} {ls : Array Slot} {L : List pm_V} (h : pm_LR cv ls L) {k : Nat} {v : pm_V} (hk : pm_nth L k = some v) (hv : v ≠ Vx) : ls[k]? = some (.val (cv v)) := h.2.2 k v (by rw [← pm_nth_eq]; exact hk) hv
theorem setL_len : ∀ (L : List pm_V) (k : Nat) (v : pm_V), (setL L k v).length = L.length
  | [], _, _ => by simp [setL]
  | _ :: t, 0, v => by simp [setL]
  | u :: t, 1, v => by simp [setL, setL_len t 0 v]
  | u :: t, k + 2, v => by simp [setL, setL_len t (k + 1) v]
theorem setX_len : ∀ (L : List pm_V) (k : Nat), (setX L k).length = L.length
  | [], _ => by simp [setX]
  | _ :: t, 0 => by simp [setX]
  | u :: t, k + 1 => by simp [setX, setX_len t k]
theorem setL_get : ∀ (L : List pm_V) (i : Nat) (v : pm_V) (k : Nat) (u : pm_V), (setL L i v)[k]? = some u → (k = i ∧ u = v) ∨ (k ≠ i ∧ k + 1 ≠ i ∧ L[k]? = some u) ∨ (k + 1 = i ∧ ∃ w, L[k]? = some w ∧ u = pm_dl w)
  | [], _, _, k, u, h => by simp [setL] at h
  | w :: t, 0, v, 0, u, h => Or.inl ⟨rfl, by simpa [setL] using h.symm⟩
  | w :: t, 0, v, k + 1, u, h => Or.inr (Or.inl ⟨by omega, by omega, by simpa [setL] using h⟩)
  | w :: t, 1, v, 0, u, h => Or.inr (Or.inr ⟨rfl, w, rfl, by simpa [setL] using h.symm⟩)
  | w :: t, 1, v, k + 1, u, h => by
    have h' : (setL t 0 v)[k]? = some u := by simpa [setL] using h
    rcases setL_get t 0 v k u h' with ⟨a, b⟩ | ⟨a, b, c⟩ | ⟨a, _⟩
    · exact Or.inl ⟨by omega, b⟩
    · exact Or.inr (Or.inl ⟨by omega, by omega, by simpa using c⟩)
    · omega
  | w :: t, i + 2, v, 0, u, h => Or.inr (Or.inl ⟨by omega, by omega, by simpa [setL] using h⟩)
  | w :: t, i + 2, v, k + 1, u, h => by
    have h' : (setL t (i + 1) v)[k]? = some u := by simpa [setL] using h
    rcases setL_get t (i + 1) v k u h' with ⟨a, b⟩ | ⟨a, b, c⟩ | ⟨a, x, c, d⟩
    · exact Or.inl ⟨by omega, b⟩
    · exact Or.inr (Or.inl ⟨by omega, by omega, by simpa using c⟩)
    · exact Or.inr (Or.inr ⟨by omega, x, by simpa using c, d⟩)
theorem setX_get : ∀ (L : List pm_V) (i k : Nat) (u : pm_V), (setX L i)[k]? = some u → (k = i ∧ u = Vx) ∨ (k ≠ i ∧ L[k]? = some u)
  | [], _, k, u, h => by simp [setX] at h
  | w :: t, 0, 0, u, h => Or.inl ⟨rfl, by simpa [setX] using h.symm⟩
  | w :: t, 0, k + 1, u, h => Or.inr ⟨by omega, by simpa [setX] using h⟩
  | w :: t, i + 1, 0, u, h => Or.inr ⟨by omega, by simpa [setX] using h⟩
  | w :: t, i + 1, k + 1, u, h => by
    have h' : (setX t i)[k]? = some u := by simpa [setX] using h
    rcases setX_get t i k u h' with ⟨a, b⟩ | ⟨a, c⟩
    · exact Or.inl ⟨by omega, b⟩
    · exact Or.inr ⟨by omega, by simpa using c⟩
theorem pm_dl_spec {w u : pm_V} (h : u = pm_dl w) (hu : u ≠ Vx) : u = w ∧ pm_cat w = 1 := by
  match w, h with
  | .inl x, h => exact ⟨h, rfl⟩
  | .inr (.inl x), h => exact absurd h hu
  | .inr (.inr (.inl x)), h => exact ⟨h, rfl⟩
  | .inr (.inr (.inr x)), h => exact absurd h hu
theorem okL.setL {N : Nat} {L : List pm_V} {k : Nat} {v : pm_V} (h : okL N L) (hv : okV N v) : okL N (setL L k v) := by
  intro u hu
  obtain ⟨j, hj⟩ := List.getElem?_of_mem hu
  rcases setL_get L k v j u hj with ⟨-, rfl⟩ | ⟨-, -, c⟩ | ⟨-, w, c, d⟩
  · exact hv
  · exact h u (List.mem_of_getElem? c)
  · by_cases hx : u = Vx
    · rw [hx]; trivial
    · rw [(pm_dl_spec d hx).1]
      exact h w (List.mem_of_getElem? c)
theorem okL.setX {N : Nat} {L : List pm_V} {k : Nat} (h : okL N L) : okL N (setX L k) := by
  intro u hu
  obtain ⟨j, hj⟩ := List.getElem?_of_mem hu
  rcases setX_get L k j u hj with ⟨-, rfl⟩ | ⟨-, c⟩
  · trivial
  · exact h u (List.mem_of_getElem? c)
/-- behind a store of one word -/
theorem pm_LR.store {cv : pm_V → Value} (hcat : ∀ v, (cv v).category = pm_cat v) {ls' : Array Slot} {L : List pm_V} {i : Nat} {v : pm_V} {nL : Nat} (hn : nL = L.length) (h : lv_has ls' nL ((i, cv v) :: (pm_lv cv 0 L).filter (fun q => !(q.1 == i) && !(q.1 + 1 == i && q.2.category == 2)))) : pm_LR cv ls' (setL L i v) := by
  refine ⟨by rw [h.1, setL_len, hn], h.2.1, fun k u hk hu => ?_⟩
  rcases setL_get L i v k u hk with ⟨rfl, rfl⟩ | ⟨a, b, c⟩ | ⟨a, w, c, d⟩
  · exact h.2.2 (k, cv u) List.mem_cons_self
  · refine h.2.2 (k, cv u) (List.mem_cons_of_mem _ (List.mem_filter.mpr ⟨by simpa using pm_lv_in (cv := cv) L 0 k u c hu, by simp [a, b]⟩))
  · obtain ⟨e, e2⟩ := pm_dl_spec d hu
    subst e
    refine h.2.2 (k, cv u) (List.mem_cons_of_mem _ (List.mem_filter.mpr ⟨by simpa using pm_lv_in (cv := cv) L 0 k u c hu, ?_⟩))
    have e3 := hcat u
    rw [e2] at e3
    simp [e3]
    omega
theorem pm_LR.store2 {cv : pm_V → Value} (hcat : ∀ v, (cv v).category = pm_cat v) {ls' : Array Slot} {L : List pm_V} {i : Nat} {v : pm_V} {nL : Nat} (hn : nL = L.length) (h : lv_has ls' nL ((i, cv v) :: (pm_lv cv 0 L).filter (fun q => !(q.1 == i) && (!(q.1 == i + 1) && !(q.1 + 1 == i && q.2.category == 2))))) : pm_LR cv ls' (setX (setL L i v) (i + 1)) := by
  refine ⟨by rw [h.1, setX_len, setL_len, hn], h.2.1, fun k u hk hu => ?_⟩
  rcases setX_get _ _ k u hk with ⟨-, rfl⟩ | ⟨z, hk⟩
  · exact absurd rfl hu
  rcases setL_get L i v k u hk with ⟨rfl, rfl⟩ | ⟨a, b, c⟩ | ⟨a, w, c, d⟩
  · exact h.2.2 (k, cv u) List.mem_cons_self
  · refine h.2.2 (k, cv u) (List.mem_cons_of_mem _ (List.mem_filter.mpr ⟨by simpa using pm_lv_in (cv := cv) L 0 k u c hu, by simp [a, b, z]⟩))
  · obtain ⟨e, e2⟩ := pm_dl_spec d hu
    subst e
    refine h.2.2 (k, cv u) (List.mem_cons_of_mem _ (List.mem_filter.mpr ⟨by simpa using pm_lv_in (cv := cv) L 0 k u c hu, ?_⟩))
    have e3 := hcat u
    rw [e2] at e3
    simp [e3, z]
    omega
theorem pI_spec {α : Type} {S : List pm_V} {k : Int → List pm_V → Option α} {r : α} (h : pI S k = some r) : ∃ x T, S = Vi x :: T ∧ k x T = some r := by
  match S, h with
  | .inl x :: T, h => exact ⟨x, T, rfl, h⟩
theorem pL_spec {α : Type} {S : List pm_V} {k : Int → List pm_V → Option α} {r : α} (h : pL S k = some r) : ∃ x T, S = Vl x :: T ∧ k x T = some r := by
  match S, h with
  | .inr (.inl x) :: T, h => exact ⟨x, T, rfl, h⟩
theorem pR_spec {α : Type} {S : List pm_V} {k : Int → List pm_V → Option α} {r : α} (h : pR S k = some r) : ∃ x T, S = Vr x :: T ∧ k x T = some r := by
  match S, h with
  | .inr (.inr (.inl x)) :: T, h => exact ⟨x, T, rfl, h⟩
theorem pm_bif {α : Type} {b : Bool} {x r : α} (h : (bif b then some x else none) = some r) : b = true ∧ x = r := by
  cases b
  · cases h
  · exact ⟨rfl, Option.some.inj h⟩
theorem pm_lku_eq : ∀ (ps : List (Int × Int)) (d x : Int), Op.lookupswitch.offset ps d x = pm_lku ps d x
  | [], d, x => by simp [pm_lku, Op.lookupswitch.offset]
  | (k, o) :: t, d, x => by
    rw [Op.lookupswitch.offset_cons, pm_lku, pm_lku_eq t d x]
    by_cases h : x = k
    · rw [if_pos h, if_pos h.symm]
    · rw [if_neg h, if_neg (fun q => h q.symm)]
theorem pm_srt_spec : ∀ (ps : List (Int × Int)), pm_srt ps = true → (ps.zip (ps.drop 1)).all (fun (a, next) => a.1 < next.1) = true
  | [], _ => rfl
  | [a], _ => rfl
  | a :: b :: t, h => by
    unfold pm_srt at h
    rw [Bool.and_eq_true] at h
    have e := pm_srt_spec (b :: t) h.2
    simp only [List.drop_succ_cons, List.drop_zero, List.zip_cons_cons, List.all_cons, Bool.and_eq_true] at e ⊢
    exact ⟨h.1, e⟩
