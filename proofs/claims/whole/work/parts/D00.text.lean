/-! WHAT A TEXT TELLS: tokens. A text: its bytes, how many -/
abbrev TXT : Type := (Nat → Int) × Nat
abbrev PF : Type := Int × Int
abbrev PRS : Type := Nat → Except PF (List (Nat × Nat) × Nat)
def clsT (c : Int) : Nat := if 97 ≤ c ∧ c ≤ 122 then 1 else if 48 ≤ c ∧ c ≤ 57 then 2 else 0
abbrev isBl (c : Int) : Prop := c = 32 ∨ c = 10
def skpT (W : TXT) (p : Nat) : Nat := p + lst (fun k => decide (¬ isBl (W.1 (p + k)))) (W.2 - p)
def runT (W : TXT) (q : Nat) : Nat := lst (fun k => decide (clsT (W.1 (q + k)) ≠ clsT (W.1 q))) (W.2 - q)
def vlT (W : TXT) (B o q : Nat) : Nat → Nat
  | 0 => 0
  | k + 1 => vlT W B o q k * B + ((W.1 (q + k)).toNat - o)
/-- the own words, a byte a letter -/
def ownT : List Nat := [1919905645, 1685024626, 7825519, 26990, 499967946343, 1935767923, 26479, 1952541541, 7102841, 2003398757, 1717921132, 1802071148, 2003330414, 28530, 6385252, 7237492, 6384748, 24948, 6840691, 1852137842, 418431069797, 1684365668, 461414299507, 120299592184933, 1836019556, 7170414, 7168376]
def ownG (i : Nat) : Nat := match pm_nth ownT i with
  | some v => v
  | none => 0
def tcW (w : Nat) : Nat := if lst (fun i => decide (ownG i = w)) 27 < 27 then 256 + lst (fun i => decide (ownG i = w)) 27 else 300
/-- the token behind p: what it is (a sign: its byte; 256 and on: an own word; 300 a name, 301 a number, 302 the end, 303 a fault at the place that follows), its value, where it begins, where it ends -/
def tokT (W : TXT) (p : Nat) : Nat × Nat × Nat × Nat :=
  if W.2 ≤ skpT W p then (302, 0, skpT W p, skpT W p)
  else if clsT (W.1 (skpT W p)) = 0 then ((W.1 (skpT W p)).toNat, 0, skpT W p, skpT W p + 1)
  else if 0 < skpT W p ∧ clsT (W.1 (skpT W p - 1)) ≠ 0 then (303, skpT W p, skpT W p, skpT W p)
  else if clsT (W.1 (skpT W p)) = 1 then (if 6 < runT W (skpT W p) then (303, skpT W p + 6, skpT W p, skpT W p) else (tcW (vlT W 256 0 (skpT W p) (runT W (skpT W p))), vlT W 256 0 (skpT W p) (runT W (skpT W p)), skpT W p, skpT W p + runT W (skpT W p)))
  else if 4 < runT W (skpT W p) then (303, skpT W p + 4, skpT W p, skpT W p) else (301, vlT W 10 48 (skpT W p) (runT W (skpT W p)), skpT W p, skpT W p + runT W (skpT W p))
def tC (W : TXT) (p : Nat) : Nat := (tokT W p).1
def tV (W : TXT) (p : Nat) : Nat := (tokT W p).2.1
def tA (W : TXT) (p : Nat) : Nat := (tokT W p).2.2.1
def tE (W : TXT) (p : Nat) : Nat := (tokT W p).2.2.2
abbrev TxO (W : TXT) : Prop := W.2 ≤ 1200 ∧ ∀ i, i < W.2 → 0 ≤ W.1 i ∧ W.1 i < 256
theorem skp_uq {W : TXT} {p q : Nat} (h1 : p ≤ q) (h2 : ∀ i, p ≤ i → i < q → isBl (W.1 i)) (h3 : q < W.2 → ¬ isBl (W.1 q)) (h4 : q ≤ W.2 ∨ q = p) : skpT W p = q := by
  unfold skpT
  by_cases h : q < W.2
  · rw [lst_eq (k := q - p) (by rw [show p + (q - p) = q by omega]; exact decide_eq_true (h3 h)) (fun j hj => decide_eq_false (fun hn => hn (h2 (p + j) (by omega) (by omega)))) (by omega)]
    omega
  · rw [lst_no (fun j hj => decide_eq_false (fun hn => hn (h2 (p + j) (by omega) (by omega))))]
    omega
theorem skp_ge {W : TXT} {p : Nat} : p ≤ skpT W p := by
  unfold skpT
  omega
theorem skp_le {W : TXT} {p : Nat} (h : p ≤ W.2) : skpT W p ≤ W.2 := by
  unfold skpT
  have := lst_le (fun k => decide (¬ isBl (W.1 (p + k)))) (W.2 - p)
  omega
theorem skp_bl {W : TXT} {p i : Nat} (h1 : p ≤ i) (h2 : i < skpT W p) : isBl (W.1 i) := by
  unfold skpT at h2
  have h := lst_min (fun k => decide (¬ isBl (W.1 (p + k)))) (W.2 - p) (i - p) (by omega)
  have h3 := of_decide_eq_false h
  rw [show p + (i - p) = i by omega] at h3
  exact Classical.not_not.mp h3
theorem run_uq {W : TXT} {q r : Nat} (h1 : ∀ i, i < r → clsT (W.1 (q + i)) = clsT (W.1 q)) (h2 : q + r < W.2 → clsT (W.1 (q + r)) ≠ clsT (W.1 q)) (h3 : q + r ≤ W.2) : runT W q = r := by
  unfold runT
  by_cases h : q + r < W.2
  · exact lst_eq (decide_eq_true (h2 h)) (fun j hj => decide_eq_false (fun hn => hn (h1 j hj))) (by omega)
  · rw [lst_no (fun j hj => decide_eq_false (fun hn => hn (h1 j (by omega))))]
    omega
theorem run_le {W : TXT} {q : Nat} (h : q ≤ W.2) : q + runT W q ≤ W.2 := by
  unfold runT
  have := lst_le (fun k => decide (clsT (W.1 (q + k)) ≠ clsT (W.1 q))) (W.2 - q)
  omega
theorem run_cl {W : TXT} {q i : Nat} (h : i < runT W q) : clsT (W.1 (q + i)) = clsT (W.1 q) := by
  unfold runT at h
  have h := lst_min (fun k => decide (clsT (W.1 (q + k)) ≠ clsT (W.1 q))) (W.2 - q) i h
  exact Classical.not_not.mp (of_decide_eq_false h)
theorem run_gt {W : TXT} {q r : Nat} (h : q + r < W.2) (h1 : ∀ i, i ≤ r → clsT (W.1 (q + i)) = clsT (W.1 q)) : r < runT W q := by
  by_cases hh : r < runT W q
  · exact hh
  · exfalso
    have h2 : runT W q < W.2 - q := by omega
    have h3 : runT W q ≤ r := by omega
    unfold runT at h2 h3
    have h4 := of_decide_eq_true (lst_sat (fun k => decide (clsT (W.1 (q + k)) ≠ clsT (W.1 q))) (W.2 - q) h2)
    exact h4 (h1 _ h3)
theorem cls_1 {c : Int} : clsT c = 1 ↔ 97 ≤ c ∧ c ≤ 122 := by
  unfold clsT
  split
  · next h => exact ⟨fun _ => h, fun _ => rfl⟩
  · next h =>
    split
    · exact ⟨fun g => absurd g (by decide), fun g => absurd g h⟩
    · exact ⟨fun g => absurd g (by decide), fun g => absurd g h⟩
theorem cls_2 {c : Int} : clsT c = 2 ↔ 48 ≤ c ∧ c ≤ 57 := by
  unfold clsT
  split
  · next h => exact ⟨fun g => absurd g (by decide), fun g => by omega⟩
  · next h =>
    split
    · next g => exact ⟨fun _ => g, fun _ => rfl⟩
    · next g => exact ⟨fun g => absurd g (by decide), fun f => absurd f g⟩
theorem cls_3 {c : Int} : clsT c = 0 ∨ clsT c = 1 ∨ clsT c = 2 := by
  unfold clsT
  split
  · exact Or.inr (Or.inl rfl)
  · split
    · exact Or.inr (Or.inr rfl)
    · exact Or.inl rfl
/-! names: letters alone, none behind the last -/
def vdN : Nat → Nat → Prop
  | 0, n => n = 0
  | k + 1, n => n = 0 ∨ ((97 ≤ n % 256 ∧ n % 256 ≤ 122) ∧ vdN k (n / 256))
theorem vdN_0 : ∀ k, vdN k 0
  | 0 => rfl
  | _ + 1 => Or.inl rfl
theorem vdN_s : ∀ (k n : Nat), vdN k n → vdN (k + 1) n
  | 0, _, h => Or.inl h
  | k + 1, _, h => h.elim Or.inl (fun g => Or.inr ⟨g.1, vdN_s k _ g.2⟩)
theorem vdN_le {k j n : Nat} (h : vdN k n) (hk : k ≤ j) : vdN j n := by
  obtain ⟨i, rfl⟩ := Nat.le.dest hk
  induction i with
  | zero => exact h
  | succ i ih => exact vdN_s _ _ (ih (by omega))
theorem vdN_lt : ∀ (k n : Nat), vdN k n → n < 256 ^ k
  | 0, n, h => by
    have h : n = 0 := h
    rw [h]
    decide
  | k + 1, n, h => by
    rw [Nat.pow_succ]
    rcases h with h | h
    · have : 0 < 256 ^ k := Nat.pow_pos (by omega)
      omega
    · have := vdN_lt k _ h.2
      omega
theorem cvF_0 : ∀ k, cvF 0 k = 0
  | 0 => rfl
  | k + 1 => by
    show cvF (0 / 256) k * 32 + 0 % 32 = 0
    rw [show 0 / 256 = 0 from rfl, cvF_0 k]
theorem cvF_inj : ∀ (k n m : Nat), vdN k n → vdN k m → cvF n k = cvF m k → n = m
  | 0, n, m, h, h', _ => by
    have h : n = 0 := h
    have h' : m = 0 := h'
    rw [h, h']
  | k + 1, n, m, h, h', e => by
    have e : cvF (n / 256) k * 32 + n % 32 = cvF (m / 256) k * 32 + m % 32 := e
    rcases h with h | h <;> rcases h' with h' | h'
    · rw [h, h']
    · rw [h, show 0 / 256 = 0 from rfl, cvF_0] at e
      exfalso
      have := h'.1
      omega
    · rw [h', show 0 / 256 = 0 from rfl, cvF_0] at e
      exfalso
      have := h.1
      omega
    · have h1 : cvF (n / 256) k = cvF (m / 256) k := by omega
      have h2 := cvF_inj k _ _ h.2 h'.2 h1
      have h3 := h.1
      have h4 := h'.1
      omega
theorem cvF_s : ∀ (k n : Nat), vdN k n → cvF n (k + 1) = cvF n k
  | 0, n, h => by
    have h : n = 0 := h
    rw [h, cvF_0, cvF_0]
  | k + 1, n, h => by
    rcases h with h | h
    · rw [h, cvF_0, cvF_0]
    · show cvF (n / 256) (k + 1) * 32 + n % 32 = cvF (n / 256) k * 32 + n % 32
      rw [cvF_s k _ h.2]
theorem cvF_le {k j n : Nat} (h : vdN k n) (hk : k ≤ j) : cvF n j = cvF n k := by
  obtain ⟨i, rfl⟩ := Nat.le.dest hk
  induction i with
  | zero => rfl
  | succ i ih =>
    rw [← Nat.add_assoc, cvF_s _ _ (vdN_le h (by omega))]
    exact ih (by omega)
theorem vl_s {W : TXT} {B o q k : Nat} : vlT W B o q (k + 1) = vlT W B o q k * B + ((W.1 (q + k)).toNat - o) := rfl
theorem vl_vd {W : TXT} {q : Nat} : ∀ k, (∀ i, i < k → clsT (W.1 (q + i)) = 1) → vdN k (vlT W 256 0 q k)
  | 0, _ => rfl
  | k + 1, h => by
    have h1 := cls_1.mp (h k (by omega))
    rw [vl_s]
    refine Or.inr ⟨?_, ?_⟩
    · omega
    · rw [show (vlT W 256 0 q k * 256 + ((W.1 (q + k)).toNat - 0)) / 256 = vlT W 256 0 q k by omega]
      exact vl_vd k (fun i hi => h i (by omega))
theorem vl_cv {W : TXT} {q k : Nat} (h : ∀ i, i < k + 1 → clsT (W.1 (q + i)) = 1) (hk : k < 6) : cvF (vlT W 256 0 q (k + 1)) 6 = cvF (vlT W 256 0 q k) 6 * 32 + ((W.1 (q + k)).toNat - 96) := by
  have h1 := cls_1.mp (h k (by omega))
  rw [cvF_le (vl_vd (k + 1) h) (by omega), cvF_le (vl_vd k (fun i hi => h i (by omega))) (by omega)]
  show cvF (vlT W 256 0 q (k + 1) / 256) k * 32 + vlT W 256 0 q (k + 1) % 32 = _
  rw [vl_s, show (vlT W 256 0 q k * 256 + ((W.1 (q + k)).toNat - 0)) / 256 = vlT W 256 0 q k by omega]
  omega
theorem vl_10 {W : TXT} {q : Nat} : ∀ k, (∀ i, i < k → clsT (W.1 (q + i)) = 2) → vlT W 10 48 q k < 10 ^ k
  | 0, _ => by show 0 < 1; omega
  | k + 1, h => by
    have h1 := cls_2.mp (h k (by omega))
    have h2 := vl_10 k (fun i hi => h i (by omega))
    rw [vl_s, Nat.pow_succ]
    omega
theorem cvF_lt : ∀ (k n : Nat), cvF n k < 32 ^ k
  | 0, _ => by show 0 < 1; omega
  | k + 1, n => by
    have := cvF_lt k (n / 256)
    show cvF (n / 256) k * 32 + n % 32 < _
    rw [Nat.pow_succ]
    omega
/-! the token, case by case -/
theorem tok_end {W : TXT} {p q : Nat} (hq : skpT W p = q) (h : W.2 ≤ q) : tokT W p = (302, 0, q, q) := by
  unfold tokT
  rw [hq, if_pos h]
theorem tok_sig {W : TXT} {p q : Nat} (hq : skpT W p = q) (h : q < W.2) (h0 : clsT (W.1 q) = 0) : tokT W p = ((W.1 q).toNat, 0, q, q + 1) := by
  unfold tokT
  rw [hq, if_neg (by omega), if_pos h0]
theorem tok_bes {W : TXT} {p q : Nat} (hq : skpT W p = q) (h : q < W.2) (h0 : clsT (W.1 q) ≠ 0) (hb : 0 < q ∧ clsT (W.1 (q - 1)) ≠ 0) : tokT W p = (303, q, q, q) := by
  unfold tokT
  rw [hq, if_neg (by omega), if_neg h0, if_pos hb]
theorem tok_wlg {W : TXT} {p q : Nat} (hq : skpT W p = q) (h : q < W.2) (h0 : clsT (W.1 q) = 1) (hb : ¬ (0 < q ∧ clsT (W.1 (q - 1)) ≠ 0)) (hr : 6 < runT W q) : tokT W p = (303, q + 6, q, q) := by
  unfold tokT
  rw [hq, if_neg (by omega), if_neg (by omega), if_neg hb, if_pos h0, if_pos hr]
theorem tok_wrd {W : TXT} {p q r : Nat} (hq : skpT W p = q) (h : q < W.2) (h0 : clsT (W.1 q) = 1) (hb : ¬ (0 < q ∧ clsT (W.1 (q - 1)) ≠ 0)) (hr : runT W q = r) (h6 : r ≤ 6) : tokT W p = (tcW (vlT W 256 0 q r), vlT W 256 0 q r, q, q + r) := by
  unfold tokT
  rw [hq, if_neg (by omega), if_neg (by omega), if_neg hb, if_pos h0, if_neg (by omega), hr]
theorem tok_nlg {W : TXT} {p q : Nat} (hq : skpT W p = q) (h : q < W.2) (h0 : clsT (W.1 q) = 2) (hb : ¬ (0 < q ∧ clsT (W.1 (q - 1)) ≠ 0)) (hr : 4 < runT W q) : tokT W p = (303, q + 4, q, q) := by
  unfold tokT
  rw [hq, if_neg (by omega), if_neg (by omega), if_neg hb, if_neg (by omega), if_pos hr]
theorem tok_num {W : TXT} {p q r : Nat} (hq : skpT W p = q) (h : q < W.2) (h0 : clsT (W.1 q) = 2) (hb : ¬ (0 < q ∧ clsT (W.1 (q - 1)) ≠ 0)) (hr : runT W q = r) (h4 : r ≤ 4) : tokT W p = (301, vlT W 10 48 q r, q, q + r) := by
  unfold tokT
  rw [hq, if_neg (by omega), if_neg (by omega), if_neg hb, if_neg (by omega), if_neg (by omega), hr]
theorem tcW_own {w : Nat} (h : lst (fun i => decide (ownG i = w)) 27 < 27) : tcW w = 256 + lst (fun i => decide (ownG i = w)) 27 ∧ ownG (tcW w - 256) = w := by
  have e : tcW w = 256 + lst (fun i => decide (ownG i = w)) 27 := if_pos h
  refine ⟨e, ?_⟩
  rw [e, Nat.add_sub_cancel_left]
  exact of_decide_eq_true (lst_sat (fun i => decide (ownG i = w)) 27 h)
theorem tcW_cs (w : Nat) : (256 ≤ tcW w ∧ tcW w < 283 ∧ ownG (tcW w - 256) = w) ∨ (tcW w = 300 ∧ ∀ i, i < 27 → ownG i ≠ w) := by
  by_cases h : lst (fun i => decide (ownG i = w)) 27 < 27
  · obtain ⟨e, e2⟩ := tcW_own h
    exact Or.inl ⟨by omega, by omega, e2⟩
  · refine Or.inr ⟨if_neg h, fun i hi => ?_⟩
    have := lst_le (fun i => decide (ownG i = w)) 27
    exact of_decide_eq_false (lst_min (fun i => decide (ownG i = w)) 27 i (by omega))
theorem own_ij : ∀ i j : Fin 27, ownG i = ownG j → i = j := by decide +kernel
theorem own_vd : ∀ i : Fin 27, ownG i < 281474976710656 ∧ 256 ≤ ownG i := by decide +kernel
/-- what is known of a token -/
theorem tok_pr {W : TXT} {p : Nat} (hp : p ≤ W.2) (hT : TxO W) : p ≤ tA W p ∧ tA W p ≤ tE W p ∧ tE W p ≤ W.2 ∧ (tC W p ≠ 302 → tC W p ≠ 303 → tA W p < tE W p) ∧ (tC W p = 271 → tA W p + 3 ≤ tE W p) ∧
    (tC W p = 300 → vdN 6 (tV W p) ∧ ∀ i, i < 27 → ownG i ≠ tV W p) ∧ (tC W p = 301 → tV W p ≤ 9999) ∧ (256 ≤ tC W p → tC W p < 283 → tV W p = ownG (tC W p - 256)) ∧
    (tC W p < 256 ∨ (256 ≤ tC W p ∧ tC W p < 283) ∨ tC W p = 300 ∨ tC W p = 301 ∨ tC W p = 302 ∨ tC W p = 303) := by
  obtain ⟨q, hq⟩ : ∃ q, skpT W p = q := ⟨_, rfl⟩
  have h1 := skp_ge (W := W) (p := p)
  have h2 := skp_le hp
  rw [hq] at h1 h2
  unfold tC tV tA tE
  by_cases hn : W.2 ≤ q
  · rw [tok_end hq hn]
    dsimp only
    refine ⟨by omega, by omega, by omega, by omega, by omega, by omega, by omega, by omega, by omega⟩
  have hb := hT.2 q (by omega)
  by_cases h0 : clsT (W.1 q) = 0
  · rw [tok_sig hq (by omega) h0]
    dsimp only
    refine ⟨by omega, by omega, by omega, by omega, by omega, by omega, by omega, by omega, by omega⟩
  by_cases hbs : 0 < q ∧ clsT (W.1 (q - 1)) ≠ 0
  · rw [tok_bes hq (by omega) h0 hbs]
    dsimp only
    refine ⟨by omega, by omega, by omega, by omega, by omega, by omega, by omega, by omega, by omega⟩
  have hrl := run_le (W := W) (q := q) (by omega)
  have hr0 := run_gt (W := W) (q := q) (r := 0) (by omega) (fun i hi => by rw [show i = 0 by omega, Nat.add_zero])
  obtain ⟨r, hr⟩ : ∃ r, runT W q = r := ⟨_, rfl⟩
  rw [hr] at hrl hr0
  rcases cls_3 (c := W.1 q) with h | h | h
  · exact absurd h h0
  · by_cases h6 : 6 < r
    · rw [tok_wlg hq (by omega) h hbs (by omega)]
      dsimp only
      refine ⟨by omega, by omega, by omega, by omega, by omega, by omega, by omega, by omega, by omega⟩
    · rw [tok_wrd hq (by omega) h hbs hr (by omega)]
      dsimp only
      have hv := vl_vd (W := W) (q := q) r (fun i hi => (run_cl (by omega)).trans h)
      have hl := vdN_lt _ _ hv
      have h3 : tcW (vlT W 256 0 q r) = 271 → 3 ≤ r := fun h => by
        rcases tcW_cs (vlT W 256 0 q r) with ⟨-, -, g⟩ | ⟨g, -⟩
        · rw [h] at g
          have g : 7237492 = vlT W 256 0 q r := g
          rcases (show r = 0 ∨ r = 1 ∨ r = 2 ∨ 3 ≤ r by omega) with rfl | rfl | rfl | h
          · rw [← g] at hl; exact absurd hl (by decide)
          · rw [← g] at hl; exact absurd hl (by decide)
          · rw [← g] at hl; exact absurd hl (by decide)
          · exact h
        · rw [g] at h; exact absurd h (by decide)
      rcases tcW_cs (vlT W 256 0 q r) with ⟨g1, g2, g3⟩ | ⟨g1, g2⟩
      · refine ⟨by omega, by omega, by omega, fun _ _ => by omega, fun h => by have := h3 h; omega, fun h => by omega, fun h => by omega, fun _ _ => g3.symm, Or.inr (Or.inl ⟨g1, g2⟩)⟩
      · refine ⟨by omega, by omega, by omega, fun _ _ => by omega, fun h => by omega, fun _ => ⟨vdN_le hv (by omega), g2⟩, fun h => by omega, fun _ _ => by omega, Or.inr (Or.inr (Or.inl g1))⟩
  · by_cases h4 : 4 < r
    · rw [tok_nlg hq (by omega) h hbs (by omega)]
      dsimp only
      refine ⟨by omega, by omega, by omega, by omega, by omega, by omega, by omega, by omega, by omega⟩
    · rw [tok_num hq (by omega) h hbs hr (by omega)]
      dsimp only
      have hv := vl_10 (W := W) (q := q) r (fun i hi => (run_cl (by omega)).trans h)
      have hl : vlT W 10 48 q r ≤ 9999 := by
        have : 10 ^ r ≤ 10 ^ 4 := Nat.pow_le_pow_right (by omega) (by omega)
        omega
      refine ⟨by omega, by omega, by omega, by omega, by omega, by omega, fun _ => hl, by omega, by omega⟩
/-! WHAT A TEXT TELLS: how it goes on -/
def bnX {α β : Type} (x : Except PF α) (f : α → Except PF β) : Except PF β := match x with
  | .error e => .error e
  | .ok a => f a
/-- past the token behind p -/
def gotT (W : TXT) (p : Nat) : Except PF Nat := if tC W (tE W p) = 303 then .error (1, ((tV W (tE W p) : Nat) : Int)) else .ok (tE W p)
abbrev fltT (W : TXT) (k : Int) (p : Nat) : PF := (k, ((tA W p : Nat) : Int))
def cntN (N : SC) (kd : Nat) : Nat := match kd with
  | 0 => (N 0 0).toNat
  | 1 => (N 0 2).toNat
  | _ => (N 0 3).toNat
def nmd (N : SC) (kd w : Nat) : Nat := lst (fun i => decide (N (1 + kd) i = (w : Int))) (cntN N kd)
def askT (W : TXT) (N : SC) (kd : Nat) (but : Int) (p : Nat) : Except PF (Nat × Nat) :=
  if tC W p ≠ 300 then .error (fltT W 1 p)
  else if nmd N kd (tV W p) = cntN N kd ∨ ((nmd N kd (tV W p) : Nat) : Int) = but then .error (fltT W 3 p)
  else bnX (gotT W p) (fun p1 => .ok (nmd N kd (tV W p), p1))
def numT (W : TXT) (lo p : Nat) : Except PF (Nat × Nat) :=
  if tC W p ≠ 301 then .error (fltT W 1 p)
  else if tV W p < lo ∨ 180 ≤ tV W p then .error (fltT W 4 p)
  else bnX (gotT W p) (fun p1 => .ok (tV W p, p1))
abbrev hasN (N : SC) (w : Nat) : Prop := nmd N 0 w < cntN N 0 ∨ nmd N 1 w < cntN N 1 ∨ nmd N 2 w < cntN N 2
def givT (W : TXT) (N : SC) (p : Nat) : Except PF (Nat × Nat) :=
  if tC W p ≠ 300 then .error (fltT W 1 p)
  else if hasN N (tV W p) then .error (fltT W 2 p)
  else bnX (gotT W p) (fun p1 => .ok (tV W p, p1))
def expT (W : TXT) (c p : Nat) : Except PF Nat := if tC W p ≠ c then .error (fltT W 1 p) else gotT W p
def opnT (W : TXT) (c k p : Nat) : Except PF Nat := if tC W p ≠ c then .error (fltT W 1 p) else if k = 0 then .error (fltT W 5 p) else gotT W p
def opA (c : Nat) : Nat := if c = 43 then 15 else if c = 45 then 16 else 0
def opM (c : Nat) : Nat := if c = 42 then 17 else if c = 47 then 18 else if c = 37 then 19 else 0
def opC (c : Nat) : Nat := if c = 60 then 22 else if c = 62 then 23 else if c = 61 then 24 else 0
def opB (c : Nat) : Nat := if c = 270 then 25 else 0
def opO (c : Nat) : Nat := if c = 269 then 26 else 0
def chnL (W : TXT) (f : Nat → Nat) (P : PRS) : Nat → List (Nat × Nat) → PRS
  | 0, l, p => .ok (l, p)
  | F + 1, l, p => if f (tC W p) = 0 then .ok (l, p) else bnX (gotT W p) (fun p1 => bnX (P p1) (fun r => chnL W f P F (l ++ (r.1 ++ [(f (tC W p), 0)])) r.2))
def chnT (W : TXT) (f : Nat → Nat) (P : PRS) : PRS := fun p => bnX (P p) (fun r => chnL W f P 1200 r.1 r.2)
def parT (W : TXT) (k : Nat) (I : PRS) : PRS := fun p => bnX (opnT W 40 k p) (fun p1 => bnX (I p1) (fun r => bnX (expT W 41 r.2) (fun p3 => .ok (r.1, p3))))
def paiT (W : TXT) (k : Nat) (I : PRS) : PRS := fun p => bnX (gotT W p) (fun p1 => bnX (opnT W 40 k p1) (fun p2 => bnX (I p2) (fun r => bnX (expT W 44 r.2) (fun p4 => bnX (I p4) (fun r1 => bnX (expT W 41 r1.2) (fun p6 => .ok (r.1 ++ (r1.1 ++ [(if tC W p = 281 then 20 else 21, 0)]), p6)))))))
def prtT (W : TXT) (N : SC) (k : Nat) (I : PRS) : PRS := fun p =>
  if tC W p = 301 then bnX (gotT W p) (fun p1 => .ok ([(0, tV W p)], p1))
  else if tC W p = 279 then bnX (gotT W p) (fun p1 => .ok ([(1, 0)], p1))
  else if tC W p = 280 then bnX (gotT W p) (fun p1 => bnX (askT W N 1 (-1) p1) (fun r => .ok ([(2, r.1)], r.2)))
  else if tC W p = 281 ∨ tC W p = 282 then paiT W k I p
  else parT W k I p
def prdT (W : TXT) (N : SC) (k : Nat) (I : PRS) : PRS := chnT W opM (prtT W N k I)
def sumG (W : TXT) (N : SC) (k : Nat) (I : PRS) : PRS := chnT W opA (prdT W N k I)
def sumT (W : TXT) (N : SC) : Nat → PRS
  | 0 => sumG W N 0 (fun _ => .error (0, 0))
  | k + 1 => sumG W N (k + 1) (sumT W N k)
def kdF (c : Nat) : Nat := if c = 273 then 0 else if c = 274 then 2 else 1
def buF (c i : Nat) : Int := if c = 275 ∨ c = 278 then (i : Int) else -1
def simT (W : TXT) (N : SC) : PRS := fun p => bnX (gotT W p) (fun p1 =>
  if tC W p = 272 then .ok ([(3, 0)], p1)
  else bnX (askT W N 1 (-1) p1) (fun r => if tC W p = 276 ∨ tC W p = 277 then .ok ([(tC W p - 269, 8 * r.1)], r.2)
    else bnX (askT W N (kdF (tC W p)) (buF (tC W p) r.1) r.2) (fun r1 => .ok ([(tC W p - 269, 8 * r.1 + r1.1)], r1.2))))
def brkT (W : TXT) (k : Nat) (I : PRS) : PRS := fun p => bnX (opnT W 91 k p) (fun p1 => bnX (I p1) (fun r => bnX (expT W 93 r.2) (fun p3 => .ok (r.1, p3))))
def cmpT (W : TXT) (Sm : PRS) : PRS := fun p => bnX (Sm p) (fun r => if opC (tC W r.2) = 0 then .error (fltT W 1 r.2) else bnX (gotT W r.2) (fun p2 => bnX (Sm p2) (fun r1 => .ok (r.1 ++ (r1.1 ++ [(opC (tC W r.2), 0)]), r1.2))))
def fbdT (W : TXT) (N : SC) (k : Nat) (I Sm : PRS) : PRS := fun p =>
  if 272 ≤ tC W p ∧ tC W p ≤ 278 then simT W N p
  else if tC W p = 91 then brkT W k I p
  else cmpT W Sm p
def fctT (W : TXT) (Bd : PRS) : Nat → PRS
  | 0, p => Bd p
  | F + 1, p => if tC W p = 271 then bnX (gotT W p) (fun p1 => bnX (fctT W Bd F p1) (fun r => .ok (r.1 ++ [(27, 0)], r.2))) else Bd p
def bthG (W : TXT) (N : SC) (k : Nat) (I : PRS) : PRS := chnT W opB (fctT W (fbdT W N k I (sumT W N k)) 1200)
def tstG (W : TXT) (N : SC) (k : Nat) (I : PRS) : PRS := chnT W opO (bthG W N k I)
def tstT (W : TXT) (N : SC) : Nat → PRS
  | 0 => tstG W N 0 (fun _ => .error (0, 0))
  | k + 1 => tstG W N (k + 1) (tstT W N k)
/-! statements: what a story becomes -/
def srtT (c : Nat) : Nat := if c = 256 then 0 else if c = 257 then 1 else if c = 258 then 2 else if c = 260 then 3 else if c = 261 then 5 else if 262 ≤ c ∧ c ≤ 267 then 4 else 6
def mstT (k : Nat) : Int := match k with
  | 0 => 8
  | 1 => 16
  | 2 => 8
  | 3 => 8
  | 4 => 30
  | _ => 12
def incN (N : SC) (k : Nat) : SC := updC N 0 k (N 0 k + 1)
def rooT (W : TXT) (S : STY) (p : Nat) : Except PF (STY × Nat) := bnX (gotT W p) (fun p1 => bnX (givT W S.1 p1) (fun r => .ok ((incN (updC S.1 1 (nR S) r.1) 0, S.2), r.2)))
def dooT (W : TXT) (S : STY) (p : Nat) : Except PF (STY × Nat) := bnX (gotT W p) (fun p1 => bnX (askT W S.1 0 (-1) p1) (fun r =>
  if tC W r.2 ≠ 300 then .error (fltT W 1 r.2)
  else if nmd S.1 0 (tV W r.2) = cntN S.1 0 ∨ nmd S.1 0 (tV W r.2) = r.1 then .error (fltT W 3 r.2)
  else if S.1 4 (8 * r.1 + nmd S.1 0 (tV W r.2)) ≠ 0 then .error (fltT W 2 r.2)
  else bnX (gotT W r.2) (fun p3 => .ok ((incN (updC (updC S.1 4 (8 * r.1 + nmd S.1 0 (tV W r.2)) 1) 4 (8 * nmd S.1 0 (tV W r.2) + r.1) 1) 1, S.2), p3))))
def whoT (W : TXT) (S : STY) (p : Nat) : Except PF (STY × Nat) := bnX (gotT W p) (fun p1 => bnX (givT W S.1 p1) (fun r => bnX (expT W 259 r.2) (fun p3 => bnX (askT W S.1 0 (-1) p3) (fun r1 => .ok ((incN (updC (updC S.1 2 (nW S) r.1) 5 (nW S) r1.1) 2, S.2), r1.2)))))
def thiT (W : TXT) (S : STY) (p : Nat) : Except PF (STY × Nat) := bnX (gotT W p) (fun p1 => bnX (givT W S.1 p1) (fun r => bnX (expT W 259 r.2) (fun p3 => bnX (askT W S.1 0 (-1) p3) (fun r1 => .ok ((incN (updC (updC S.1 3 (nT S) r.1) 6 (nT S) r1.1) 3, S.2), r1.2)))))
def sayT (W : TXT) (S : STY) (p : Nat) : Except PF (STY × Nat) := bnX (gotT W p) (fun p1 => bnX (askT W S.1 1 (-1) p1) (fun r => bnX (askT W S.1 0 (-1) r.2) (fun r1 => bnX (numT W 0 r1.2) (fun r2 => bnX (numT W r2.1 r2.2) (fun r3 => .ok ((incN (updC (updC (updC (updC S.1 7 (nC S) r.1) 8 (nC S) r1.1) 9 (nC S) r2.1) 10 (nC S) r3.1) 5, S.2), r3.2))))))
def argT (W : TXT) (N : SC) (c i p : Nat) : Except PF ((Int × Int × List (Nat × Nat)) × Nat) :=
  if c = 262 then bnX (askT W N 0 (-1) p) (fun r => .ok ((r.1, r.1, []), r.2))
  else if c = 263 ∨ c = 264 then bnX (askT W N 2 (-1) p) (fun r => .ok ((r.1, r.1, []), r.2))
  else if c = 266 then bnX (sumT W N 8 p) (fun r => .ok ((-1, -1, r.1), r.2))
  else if c = 267 then bnX (askT W N 1 (i : Int) p) (fun r => bnX (askT W N 2 (-1) r.2) (fun r1 => .ok ((r.1, r1.1, []), r1.2)))
  else .ok ((-1, -1, []), p)
def rulS (S : STY) (kd i : Nat) (o t : Int) (l1 l2 : List (Nat × Nat)) : STY := (incN (updC (updC (updC (updC S.1 11 (nL S) kd) 12 (nL S) i) 13 (nL S) o) 14 (nL S) t) 4, fun j => if j = 2 * nL S then l1 else if j = 2 * nL S + 1 then l2 else S.2 j)
def rulT (W : TXT) (S : STY) (p : Nat) : Except PF (STY × Nat) := bnX (gotT W p) (fun p1 => bnX (askT W S.1 1 (-1) p1) (fun r => bnX (argT W S.1 (tC W p) r.1 r.2) (fun r1 => bnX (expT W 268 r1.2) (fun p4 => bnX (tstT W S.1 8 p4) (fun r2 => .ok (rulS S (tC W p - 262) r.1 r1.1.1 r1.1.2.1 r1.1.2.2 r2.1, r2.2))))))
def bodT (W : TXT) (S : STY) (p : Nat) : Except PF (STY × Nat) := match srtT (tC W p) with
  | 0 => rooT W S p
  | 1 => dooT W S p
  | 2 => whoT W S p
  | 3 => thiT W S p
  | 4 => rulT W S p
  | _ => sayT W S p
def stmT (W : TXT) (S : STY) (p : Nat) : Except PF (STY × Nat) := if srtT (tC W p) = 6 then .error (fltT W 1 p) else if mstT (srtT (tC W p)) ≤ S.1 0 (srtT (tC W p)) then .error (fltT W 5 p) else bnX (bodT W S p) (fun r => bnX (expT W 59 r.2) (fun p1 => .ok (r.1, p1)))
def stsT (W : TXT) : Nat → STY → Nat → Except PF STY
  | 0, S, _ => .ok S
  | F + 1, S, p => if tC W p = 302 then .ok S else bnX (stmT W S p) (fun r => stsT W F r.1 r.2)
def styO : STY := (fun _ _ => 0, fun _ => [])
def txtT (W : TXT) : Except PF STY := if tC W 0 = 303 then .error (1, ((tV W 0 : Nat) : Int)) else stsT W 1200 styO 0
