/-! THE WAYS: how many doors lead there -/
theorem lst_le (f : Nat → Bool) : ∀ n, lst f n ≤ n
  | 0 => Nat.le_refl 0
  | n + 1 => by
    have := lst_le f n
    show (if lst f n < n then lst f n else if f n = true then n else n + 1) ≤ n + 1
    split
    · omega
    · split <;> omega
theorem lst_sat (f : Nat → Bool) : ∀ n, lst f n < n → f (lst f n) = true
  | 0, h => absurd h (by omega)
  | n + 1, h => by
    have h1 : lst f (n + 1) = (if lst f n < n then lst f n else if f n = true then n else n + 1) := rfl
    rw [h1] at h ⊢
    split
    · next h2 => exact lst_sat f n h2
    · next h2 =>
      split
      · next h3 => exact h3
      · next h3 =>
        rw [if_neg h2, if_neg h3] at h
        omega
theorem lst_min (f : Nat → Bool) : ∀ n k, k < lst f n → f k = false
  | 0, k, h => absurd h (by show ¬ k < 0; omega)
  | n + 1, k, h => by
    have h1 : lst f (n + 1) = (if lst f n < n then lst f n else if f n = true then n else n + 1) := rfl
    rw [h1] at h
    split at h
    · exact lst_min f n k h
    · next h2 =>
      have h5 := lst_le f n
      split at h
      · exact lst_min f n k (by omega)
      · next h3 =>
        by_cases h4 : k = n
        · subst h4
          simpa using h3
        · exact lst_min f n k (by omega)
theorem lst_of {f : Nat → Bool} {n k : Nat} (hk : f k = true) : lst f n ≤ k := by
  by_cases h : k < lst f n
  · rw [lst_min f n k h] at hk
    cases hk
  · omega
theorem wkS_s {S : STY} {to k r : Nat} : wkS S to (k + 1) r = true ↔ r = to ∨ ∃ o, o < nR S ∧ S.1 4 (8 * r + o) ≠ 0 ∧ wkS S to k o = true := by
  show (decide (r = to) || (List.range (nR S)).any (fun o => decide (S.1 4 (8 * r + o) ≠ 0) && wkS S to k o)) = true ↔ _
  rw [Bool.or_eq_true, decide_eq_true_iff, List.any_eq_true]
  refine or_congr Iff.rfl ⟨?_, ?_⟩
  · rintro ⟨o, h1, h2⟩
    rw [Bool.and_eq_true, decide_eq_true_iff] at h2
    exact ⟨o, List.mem_range.mp h1, h2.1, h2.2⟩
  · rintro ⟨o, h1, h2, h3⟩
    exact ⟨o, List.mem_range.mpr h1, by rw [Bool.and_eq_true, decide_eq_true_iff]; exact ⟨h2, h3⟩⟩
theorem wkS_0 {S : STY} {to r : Nat} : wkS S to 0 r = true ↔ r = to := decide_eq_true_iff
theorem wkS_to {S : STY} {to : Nat} : ∀ k, wkS S to k to = true
  | 0 => wkS_0.mpr rfl
  | _ + 1 => wkS_s.mpr (Or.inl rfl)
theorem wkS_up {S : STY} {to : Nat} : ∀ (k r : Nat), wkS S to k r = true → wkS S to (k + 1) r = true
  | 0, r, h => wkS_s.mpr (Or.inl (wkS_0.mp h))
  | k + 1, r, h => by
    rcases wkS_s.mp h with h | ⟨o, h1, h2, h3⟩
    · exact wkS_s.mpr (Or.inl h)
    · exact wkS_s.mpr (Or.inr ⟨o, h1, h2, wkS_up k o h3⟩)
theorem wkS_le {S : STY} {to r : Nat} {j : Nat} : ∀ k : Nat, j ≤ k → wkS S to j r = true → wkS S to k r = true
  | 0, hk, h => by
    rwa [show j = 0 by omega] at h
  | k + 1, hk, h => by
    by_cases hj : j = k + 1
    · rwa [hj] at h
    · exact wkS_up k r (wkS_le k (by omega) h)
theorem dst_le9 {S : STY} {to r : Nat} : dstS S to r ≤ 9 := by rw [dst_eq]; exact lst_le _ 9
theorem dst_of {S : STY} {to r k : Nat} (h : wkS S to k r = true) : dstS S to r ≤ k := by rw [dst_eq]; exact lst_of h
theorem dst_wk {S : STY} {to r k : Nat} (h9 : k < 9) (h : dstS S to r ≤ k) : wkS S to k r = true :=
  wkS_le k h (by have h1 : dstS S to r < 9 := by omega
                 rw [dst_eq] at h1 ⊢
                 exact lst_sat (fun k => wkS S to k r) 9 h1)
theorem dst_0 {S : STY} {to r : Nat} : dstS S to r = 0 ↔ r = to := by
  constructor
  · intro h
    exact wkS_0.mp (dst_wk (S := S) (to := to) (r := r) (k := 0) (by omega) (by omega))
  · intro h
    have := dst_of (S := S) (wkS_0.mpr h)
    omega
theorem dst_step {S : STY} {to r o d : Nat} (ho : o < nR S) (hd : S.1 4 (8 * r + o) ≠ 0) (h : dstS S to o ≤ d) (h9 : d < 9) : dstS S to r ≤ d + 1 := dst_of (wkS_s.mpr (Or.inr ⟨o, ho, hd, dst_wk h9 h⟩))
theorem dst_pred {S : STY} {to r d : Nat} (h : dstS S to r = d + 1) (h9 : d + 1 < 9) : ∃ o, o < nR S ∧ S.1 4 (8 * r + o) ≠ 0 ∧ dstS S to o = d := by
  rcases wkS_s.mp (dst_wk (S := S) (to := to) (r := r) (k := d + 1) h9 (by omega)) with hr | ⟨o, h1, h2, h3⟩
  · have := (dst_0 (S := S)).mpr hr
    omega
  · refine ⟨o, h1, h2, ?_⟩
    have h4 := dst_of h3
    by_cases h5 : dstS S to o = d
    · exact h5
    · have h7 : dstS S to o ≤ d - 1 := by omega
      have h6 : dstS S to r ≤ d - 1 + 1 := dst_step (S := S) (to := to) (r := r) (o := o) (d := d - 1) h1 h2 h7 (by omega)
      omega
/-- no more unlike numbers below n than n -/
theorem pgn : ∀ (n m : Nat) (f : Nat → Nat), (∀ i, i < m → f i < n) → (∀ i j, i < j → j < m → f i ≠ f j) → m ≤ n
  | 0, m, f, h1, _ => by
    by_cases hm : m = 0
    · omega
    · have := h1 0 (by omega)
      omega
  | n + 1, m, f, h1, h2 => by
    by_cases hx : ∃ i, i < m ∧ f i = n
    · obtain ⟨i0, hi0, he⟩ := hx
      have := pgn n (m - 1) (fun i => if i < i0 then f i else f (i + 1)) (fun i hi => by
        show (if i < i0 then f i else f (i + 1)) < n
        split
        · have h3 := h1 i (by omega)
          have h4 := h2 i i0 (by omega) hi0
          omega
        · have h3 := h1 (i + 1) (by omega)
          have h4 := h2 i0 (i + 1) (by omega) (by omega)
          omega) (fun i j hij hj => by
        show (if i < i0 then f i else f (i + 1)) ≠ (if j < i0 then f j else f (j + 1))
        split
        · split
          · exact h2 i j hij (by omega)
          · exact h2 i (j + 1) (by omega) (by omega)
        · split
          · omega
          · exact h2 (i + 1) (j + 1) (by omega) (by omega))
      omega
    · have := pgn n m f (fun i hi => by
        have h3 := h1 i hi
        have h4 : f i ≠ n := fun h => hx ⟨i, hi, h⟩
        omega) h2
      omega
theorem dst_lev {S : STY} {to r : Nat} (hr : r < nR S) : ∀ (k d : Nat), d + k = dstS S to r → dstS S to r < 9 → ∃ o, o < nR S ∧ dstS S to o = d
  | 0, d, h, _ => ⟨r, hr, by omega⟩
  | k + 1, d, h, h9 => by
    obtain ⟨o, h1, h2⟩ := dst_lev hr k (d + 1) (by omega) h9
    obtain ⟨q, h3, -, h4⟩ := dst_pred h2 (by omega)
    exact ⟨q, h3, h4⟩
theorem dst_lt {S : STY} {to r : Nat} (hr : r < nR S) (h9 : dstS S to r < 9) : dstS S to r < nR S := by
  have h1 : ∀ d : Nat, ∃ o : Nat, d ≤ dstS S to r → o < nR S ∧ dstS S to o = d := by
    intro d
    by_cases h : d ≤ dstS S to r
    · obtain ⟨o, h1⟩ := dst_lev hr (dstS S to r - d) d (by omega) h9
      exact ⟨o, fun _ => h1⟩
    · exact ⟨0, fun h2 => absurd h2 h⟩
  obtain ⟨f, hf⟩ := Classical.axiomOfChoice h1
  have := pgn (nR S) (dstS S to r + 1) f (fun i hi => (hf i (by omega)).1) (fun i j hij hj he => by
    have h2 := (hf i (by omega)).2
    have h3 := (hf j (by omega)).2
    rw [he] at h2
    omega)
  omega
/-- the table of the ways while it is filled -/
def BFS (S : STY) (to d : Nat) (P : Nat → Prop) (s : Nat → Int) : Prop := ∀ r, r < nR S → (dstS S to r ≤ d → s r = (dstS S to r : Int)) ∧ (dstS S to r = d + 1 → P r → s r = (d : Int) + 1) ∧ (dstS S to r = d + 1 → ¬ P r → s r = -1) ∧ (d + 1 < dstS S to r → s r = -1)
theorem BFS.cg {S : STY} {to d : Nat} {P Q : Nat → Prop} {s : Nat → Int} (h : BFS S to d P s) (hq : ∀ x, x < nR S → dstS S to x = d + 1 → (P x ↔ Q x)) : BFS S to d Q s := fun r hr => by
  obtain ⟨h1, h2, h3, h4⟩ := h r hr
  exact ⟨h1, fun e q => h2 e ((hq r hr e).mpr q), fun e q => h3 e (fun p => q ((hq r hr e).mp p)), h4⟩
theorem BFS.next {S : STY} {to d : Nat} {s : Nat → Int} (hd : d + 1 < 9) (h : BFS S to d (fun x => ∃ r0, r0 < nR S ∧ dstS S to r0 = d ∧ S.1 4 (8 * x + r0) ≠ 0) s) : BFS S to (d + 1) (fun _ => False) s := fun r hr => by
  obtain ⟨h1, h2, h3, h4⟩ := h r hr
  refine ⟨fun e => ?_, fun e p => absurd p id, fun e _ => h4 (by omega), fun e => h4 (by omega)⟩
  by_cases hq : dstS S to r = d + 1
  · obtain ⟨o, g1, g2, g3⟩ := dst_pred hq hd
    rw [h2 hq ⟨o, g1, g3, g2⟩, hq]
    omega
  · exact h1 (by omega)
theorem BFS.eqd {S : STY} {to d : Nat} {P : Nat → Prop} {s : Nat → Int} (h : BFS S to d P s) {r : Nat} (hr : r < nR S) : s r = (d : Int) ↔ dstS S to r = d := by
  obtain ⟨h1, h2, h3, h4⟩ := h r hr
  constructor
  · intro e
    by_cases g1 : dstS S to r ≤ d
    · have := h1 g1
      omega
    · by_cases g2 : dstS S to r = d + 1
      · by_cases g3 : P r
        · have := h2 g2 g3
          omega
        · have := h3 g2 g3
          omega
      · have := h4 (by omega)
        omega
  · intro e
    rw [h1 (by omega), e]
theorem BFS.keep {S : STY} {to d o : Nat} {P Q : Nat → Prop} {s : Nat → Int} (h : BFS S to d P s) (hs : s o ≠ -1) (hq : ∀ x, x < nR S → x ≠ o → (P x ↔ Q x)) (hp : P o → Q o) : BFS S to d Q s := by
  refine h.cg (fun x hx e => ?_)
  by_cases hxo : x = o
  · subst hxo
    refine ⟨hp, fun _ => ?_⟩
    by_cases g : P x
    · exact g
    · exact absurd ((h x hx).2.2.1 e g) hs
  · exact hq x hx hxo
theorem BFS.put {S : STY} {to d o : Nat} {P Q : Nat → Prop} {s s' : Nat → Int} (h : BFS S to d P s) (ho : o < nR S) (hs : s o = -1) (hle : dstS S to o ≤ d + 1) (hv : s' o = (d : Int) + 1) (hn : ∀ x, x ≠ o → s' x = s x) (hq : ∀ x, x < nR S → x ≠ o → (P x ↔ Q x)) (hp : Q o) : BFS S to d Q s' := fun r hr => by
  obtain ⟨h1, h2, h3, h4⟩ := h r hr
  by_cases hro : r = o
  · subst hro
    have g1 : dstS S to r = d + 1 := by
      by_cases g : dstS S to r ≤ d
      · have := h1 g
        omega
      · omega
    exact ⟨fun e => absurd e (by omega), fun _ _ => hv, fun _ g => absurd hp g, fun e => absurd e (by omega)⟩
  · rw [hn r hro]
    exact ⟨h1, fun e q => h2 e ((hq r hr hro).mpr q), fun e q => h3 e (fun p => q ((hq r hr hro).mp p)), h4⟩
def BPO (S : STY) (to d r o : Nat) (x : Nat) : Prop := (∃ r0, r0 < r ∧ dstS S to r0 = d ∧ S.1 4 (8 * x + r0) ≠ 0) ∨ (x < o ∧ S.1 4 (8 * x + r) ≠ 0)
theorem BPO_ne {S : STY} {to d r o x : Nat} (h : x ≠ o) : BPO S to d r o x ↔ BPO S to d r (o + 1) x := by
  unfold BPO
  exact or_congr Iff.rfl ⟨fun h1 => ⟨by omega, h1.2⟩, fun h1 => ⟨by omega, h1.2⟩⟩
theorem BPO_in {S : STY} {to d r o x : Nat} (h : BPO S to d r o x) : BPO S to d r (o + 1) x := by
  rcases h with h | h
  · exact Or.inl h
  · exact Or.inr ⟨by omega, h.2⟩
theorem BFS.no {S : STY} {to d r o : Nat} {s : Nat → Int} (h : BFS S to d (BPO S to d r o) s) (hd : S.1 4 (8 * o + r) = 0) : BFS S to d (BPO S to d r (o + 1)) s := by
  refine h.cg (fun x _ _ => ?_)
  by_cases hx : x = o
  · subst hx
    refine ⟨BPO_in, fun h1 => ?_⟩
    rcases h1 with h1 | h1
    · exact Or.inl h1
    · exact absurd hd h1.2
  · exact BPO_ne hx
theorem BFS.kp {S : STY} {to d r o : Nat} {s : Nat → Int} (h : BFS S to d (BPO S to d r o) s) (hs : s o ≠ -1) : BFS S to d (BPO S to d r (o + 1)) s :=
  h.keep hs (fun _ _ hx => BPO_ne hx) BPO_in
theorem BFS.pt {S : STY} {to d r o : Nat} {s s' : Nat → Int} (h : BFS S to d (BPO S to d r o) s) (ho : o < nR S) (hr : r < nR S) (hdr : dstS S to r = d) (h9 : d < 9) (hs : s o = -1) (hd : S.1 4 (8 * o + r) ≠ 0) (hv : s' o = (d : Int) + 1) (hn : ∀ x, x ≠ o → s' x = s x) : BFS S to d (BPO S to d r (o + 1)) s' :=
  h.put ho hs (dst_step hr hd (by omega) h9) hv hn (fun _ _ hx => BPO_ne hx) (Or.inr ⟨by omega, hd⟩)
theorem BFS.fin {S : STY} {to d r : Nat} {s : Nat → Int} (h : BFS S to d (BPO S to d r (nR S)) s) (hdr : dstS S to r = d) : BFS S to d (fun x => ∃ r0, r0 < r + 1 ∧ dstS S to r0 = d ∧ S.1 4 (8 * x + r0) ≠ 0) s := by
  refine h.cg (fun x hx _ => ⟨?_, ?_⟩)
  · rintro (⟨r0, g1, g2, g3⟩ | ⟨g1, g2⟩)
    · exact ⟨r0, by omega, g2, g3⟩
    · exact ⟨r, by omega, hdr, g2⟩
  · rintro ⟨r0, g1, g2, g3⟩
    by_cases hq : r0 = r
    · subst hq
      exact Or.inr ⟨hx, g3⟩
    · exact Or.inl ⟨r0, by omega, g2, g3⟩
theorem BFS.st {S : STY} {to d r : Nat} {s : Nat → Int} (h : BFS S to d (fun x => ∃ r0, r0 < r ∧ dstS S to r0 = d ∧ S.1 4 (8 * x + r0) ≠ 0) s) : BFS S to d (BPO S to d r 0) s := by
  refine h.cg (fun x hx _ => ⟨Or.inl, ?_⟩)
  rintro (h1 | h1)
  · exact h1
  · exact absurd h1.1 (by omega)
theorem BFS.sk {S : STY} {to d r : Nat} {s : Nat → Int} (h : BFS S to d (fun x => ∃ r0, r0 < r ∧ dstS S to r0 = d ∧ S.1 4 (8 * x + r0) ≠ 0) s) (hr : dstS S to r ≠ d) : BFS S to d (fun x => ∃ r0, r0 < r + 1 ∧ dstS S to r0 = d ∧ S.1 4 (8 * x + r0) ≠ 0) s := by
  refine h.cg (fun x hx _ => ⟨?_, ?_⟩)
  · rintro ⟨r0, g1, g2, g3⟩
    exact ⟨r0, by omega, g2, g3⟩
  · rintro ⟨r0, g1, g2, g3⟩
    by_cases hq : r0 = r
    · subst hq
      exact absurd g2 hr
    · exact ⟨r0, by omega, g2, g3⟩
