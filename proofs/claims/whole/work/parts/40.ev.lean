/-- the objects behind the constructors; what changes of their references: which story is told, which one is the draft, which one the reader has -/
def SHv (st dr rd : Int) : List pm_SH := [
(10, 9, [1, (-1), 114, st, dr, 116, 119, 138, 141]),
(21, 1200, []),
(9, 12, [3, 4, 5, 6, 7, 8, 11, 12, 13, (-1), 14, 15]),
(20, 6, []),
(20, 48, []),
(20, 8, []),
(20, 64, []),
(20, 64, []),
(0, 3, [9, 10, (-1)]),
(20, 8, []),
(20, 8, []),
(24, 30, [16, 17, 18, 19, 20, 21, 22, 23, 24, 25, 26, 27, 28, 29, 30, 31, 32, 33, 34, 35, 36, 37, 38, 39, 40, 41, 42, 43, 44, 45]),
(25, 12, [46, 47, 48, 49, 50, 51, 52, 53, 54, 55, 56, 57]),
(20, 1200, []),
(20, 30, []),
(20, 17, []),
(7, 7, [(-1), (-1), (-1), (-1), (-1), (-1), (-1)]),
(7, 7, [(-1), (-1), (-1), (-1), (-1), (-1), (-1)]),
(7, 7, [(-1), (-1), (-1), (-1), (-1), (-1), (-1)]),
(7, 7, [(-1), (-1), (-1), (-1), (-1), (-1), (-1)]),
(7, 7, [(-1), (-1), (-1), (-1), (-1), (-1), (-1)]),
(7, 7, [(-1), (-1), (-1), (-1), (-1), (-1), (-1)]),
(7, 7, [(-1), (-1), (-1), (-1), (-1), (-1), (-1)]),
(7, 7, [(-1), (-1), (-1), (-1), (-1), (-1), (-1)]),
(7, 7, [(-1), (-1), (-1), (-1), (-1), (-1), (-1)]),
(7, 7, [(-1), (-1), (-1), (-1), (-1), (-1), (-1)]),
(7, 7, [(-1), (-1), (-1), (-1), (-1), (-1), (-1)]),
(7, 7, [(-1), (-1), (-1), (-1), (-1), (-1), (-1)]),
(7, 7, [(-1), (-1), (-1), (-1), (-1), (-1), (-1)]),
(7, 7, [(-1), (-1), (-1), (-1), (-1), (-1), (-1)]),
(7, 7, [(-1), (-1), (-1), (-1), (-1), (-1), (-1)]),
(7, 7, [(-1), (-1), (-1), (-1), (-1), (-1), (-1)]),
(7, 7, [(-1), (-1), (-1), (-1), (-1), (-1), (-1)]),
(7, 7, [(-1), (-1), (-1), (-1), (-1), (-1), (-1)]),
(7, 7, [(-1), (-1), (-1), (-1), (-1), (-1), (-1)]),
(7, 7, [(-1), (-1), (-1), (-1), (-1), (-1), (-1)]),
(7, 7, [(-1), (-1), (-1), (-1), (-1), (-1), (-1)]),
(7, 7, [(-1), (-1), (-1), (-1), (-1), (-1), (-1)]),
(7, 7, [(-1), (-1), (-1), (-1), (-1), (-1), (-1)]),
(7, 7, [(-1), (-1), (-1), (-1), (-1), (-1), (-1)]),
(7, 7, [(-1), (-1), (-1), (-1), (-1), (-1), (-1)]),
(7, 7, [(-1), (-1), (-1), (-1), (-1), (-1), (-1)]),
(7, 7, [(-1), (-1), (-1), (-1), (-1), (-1), (-1)]),
(7, 7, [(-1), (-1), (-1), (-1), (-1), (-1), (-1)]),
(7, 7, [(-1), (-1), (-1), (-1), (-1), (-1), (-1)]),
(7, 7, [(-1), (-1), (-1), (-1), (-1), (-1), (-1)]),
(2, 4, [(-1), (-1), (-1), (-1)]),
(2, 4, [(-1), (-1), (-1), (-1)]),
(2, 4, [(-1), (-1), (-1), (-1)]),
(2, 4, [(-1), (-1), (-1), (-1)]),
(2, 4, [(-1), (-1), (-1), (-1)]),
(2, 4, [(-1), (-1), (-1), (-1)]),
(2, 4, [(-1), (-1), (-1), (-1)]),
(2, 4, [(-1), (-1), (-1), (-1)]),
(2, 4, [(-1), (-1), (-1), (-1)]),
(2, 4, [(-1), (-1), (-1), (-1)]),
(2, 4, [(-1), (-1), (-1), (-1)]),
(2, 4, [(-1), (-1), (-1), (-1)]),
(9, 12, [59, 60, 61, 62, 63, 64, 67, 68, 69, (-1), 70, 71]),
(20, 6, []),
(20, 48, []),
(20, 8, []),
(20, 64, []),
(20, 64, []),
(0, 3, [65, 66, (-1)]),
(20, 8, []),
(20, 8, []),
(24, 30, [72, 73, 74, 75, 76, 77, 78, 79, 80, 81, 82, 83, 84, 85, 86, 87, 88, 89, 90, 91, 92, 93, 94, 95, 96, 97, 98, 99, 100, 101]),
(25, 12, [102, 103, 104, 105, 106, 107, 108, 109, 110, 111, 112, 113]),
(20, 1200, []),
(20, 30, []),
(20, 17, []),
(7, 7, [(-1), (-1), (-1), (-1), (-1), (-1), (-1)]),
(7, 7, [(-1), (-1), (-1), (-1), (-1), (-1), (-1)]),
(7, 7, [(-1), (-1), (-1), (-1), (-1), (-1), (-1)]),
(7, 7, [(-1), (-1), (-1), (-1), (-1), (-1), (-1)]),
(7, 7, [(-1), (-1), (-1), (-1), (-1), (-1), (-1)]),
(7, 7, [(-1), (-1), (-1), (-1), (-1), (-1), (-1)]),
(7, 7, [(-1), (-1), (-1), (-1), (-1), (-1), (-1)]),
(7, 7, [(-1), (-1), (-1), (-1), (-1), (-1), (-1)]),
(7, 7, [(-1), (-1), (-1), (-1), (-1), (-1), (-1)]),
(7, 7, [(-1), (-1), (-1), (-1), (-1), (-1), (-1)]),
(7, 7, [(-1), (-1), (-1), (-1), (-1), (-1), (-1)]),
(7, 7, [(-1), (-1), (-1), (-1), (-1), (-1), (-1)]),
(7, 7, [(-1), (-1), (-1), (-1), (-1), (-1), (-1)]),
(7, 7, [(-1), (-1), (-1), (-1), (-1), (-1), (-1)]),
(7, 7, [(-1), (-1), (-1), (-1), (-1), (-1), (-1)]),
(7, 7, [(-1), (-1), (-1), (-1), (-1), (-1), (-1)]),
(7, 7, [(-1), (-1), (-1), (-1), (-1), (-1), (-1)]),
(7, 7, [(-1), (-1), (-1), (-1), (-1), (-1), (-1)]),
(7, 7, [(-1), (-1), (-1), (-1), (-1), (-1), (-1)]),
(7, 7, [(-1), (-1), (-1), (-1), (-1), (-1), (-1)]),
(7, 7, [(-1), (-1), (-1), (-1), (-1), (-1), (-1)]),
(7, 7, [(-1), (-1), (-1), (-1), (-1), (-1), (-1)]),
(7, 7, [(-1), (-1), (-1), (-1), (-1), (-1), (-1)]),
(7, 7, [(-1), (-1), (-1), (-1), (-1), (-1), (-1)]),
(7, 7, [(-1), (-1), (-1), (-1), (-1), (-1), (-1)]),
(7, 7, [(-1), (-1), (-1), (-1), (-1), (-1), (-1)]),
(7, 7, [(-1), (-1), (-1), (-1), (-1), (-1), (-1)]),
(7, 7, [(-1), (-1), (-1), (-1), (-1), (-1), (-1)]),
(7, 7, [(-1), (-1), (-1), (-1), (-1), (-1), (-1)]),
(7, 7, [(-1), (-1), (-1), (-1), (-1), (-1), (-1)]),
(2, 4, [(-1), (-1), (-1), (-1)]),
(2, 4, [(-1), (-1), (-1), (-1)]),
(2, 4, [(-1), (-1), (-1), (-1)]),
(2, 4, [(-1), (-1), (-1), (-1)]),
(2, 4, [(-1), (-1), (-1), (-1)]),
(2, 4, [(-1), (-1), (-1), (-1)]),
(2, 4, [(-1), (-1), (-1), (-1)]),
(2, 4, [(-1), (-1), (-1), (-1)]),
(2, 4, [(-1), (-1), (-1), (-1)]),
(2, 4, [(-1), (-1), (-1), (-1)]),
(2, 4, [(-1), (-1), (-1), (-1)]),
(2, 4, [(-1), (-1), (-1), (-1)]),
(6, 11, [115, 1, (-1), (-1), rd, (-1), (-1), (-1), (-1), (-1), (-1)]),
(20, 27, []),
(0, 3, [117, 118, (-1)]),
(20, 8, []),
(20, 8, []),
(4, 8, [120, 133, 127, 130, 131, 132, (-1), (-1)]),
(8, 9, [121, 122, 123, 124, 125, 126, (-1), (-1), (-1)]),
(20, 8, []),
(20, 8, []),
(20, 8, []),
(20, 8, []),
(20, 64, []),
(20, 48, []),
(0, 3, [128, 129, (-1)]),
(20, 8, []),
(20, 8, []),
(20, 180, []),
(23, 180, []),
(20, 48, []),
(3, 6, [(-1), 134, 135, 137, 136, (-1)]),
(20, 1440, []),
(20, 1440, []),
(20, 1440, []),
(20, 180, []),
(5, 9, [139, 140, (-1), (-1), (-1), (-1), (-1), (-1), (-1)]),
(23, 180, []),
(20, 180, []),
(1, 6, [142, 161, 164, 165, (-1), (-1)]),
(4, 8, [143, 156, 150, 153, 154, 155, (-1), (-1)]),
(8, 9, [144, 145, 146, 147, 148, 149, (-1), (-1), (-1)]),
(20, 8, []),
(20, 8, []),
(20, 8, []),
(20, 8, []),
(20, 64, []),
(20, 48, []),
(0, 3, [151, 152, (-1)]),
(20, 8, []),
(20, 8, []),
(20, 180, []),
(23, 180, []),
(20, 48, []),
(3, 6, [(-1), 157, 158, 160, 159, (-1)]),
(20, 0, []),
(20, 0, []),
(20, 0, []),
(20, 0, []),
(0, 3, [162, 163, (-1)]),
(20, 8, []),
(20, 8, []),
(20, 3, []),
(20, 4, []),
(11, 79, [167, (-1), (-1), (-1), (-1), (-1), (-1), (-1), (-1), (-1), (-1), (-1), (-1), 168, 169, 170, 171, 172, 173, 174, 175, 176, 177, 178, 179, 180, 181, 182, 183, 184, 185, 186, 187, 188, 189, 190, 191, 192, (-1), (-1), 193, 194, 195, 196, 197, (-1), (-1), 198, (-1), (-1), 199, 200, 201, 202, 203, 204, 205, 206, 207, 208, 209, 210, 211, 212, (-1), (-1), 213, 214, 215, 216, 217, 218, (-1), (-1), (-1), (-1), (-1), (-1), (-1)]),
(20, 1200, []),
(20, 2, []),
(20, 2, []),
(20, 2, []),
(20, 2, []),
(20, 2, []),
(20, 2, []),
(23, 16, []),
(22, 128, []),
(23, 16, []),
(20, 16, []),
(23, 16, []),
(20, 16, []),
(20, 24, []),
(20, 24, []),
(20, 24, []),
(20, 24, []),
(20, 60, []),
(20, 60, []),
(20, 60, []),
(20, 60, []),
(20, 60, []),
(20, 60, []),
(20, 60, []),
(20, 2400, []),
(20, 2400, []),
(20, 20, []),
(20, 20, []),
(22, 20, []),
(20, 20, []),
(20, 20, []),
(20, 500, []),
(20, 24, []),
(20, 24, []),
(22, 90, []),
(20, 2, []),
(20, 2, []),
(20, 2, []),
(20, 2880, []),
(22, 2880, []),
(20, 2880, []),
(20, 2880, []),
(20, 2880, []),
(20, 192, []),
(20, 17280, []),
(20, 128, []),
(20, 8, []),
(22, 8, []),
(20, 8, []),
(20, 8, []),
(23, 1250, []),
(20, 8, [])]
/-- the pure machine comes to the method's end, with Q -/
def Ev (X : List Int) (d m pc : Nat) (L S : List pm_V) (h : pm_H) (Q : Option pm_V → pm_H → Prop) : Prop := ∃ (f : Nat) (r : Option pm_V) (h' : pm_H), exec X f d m pc L S h = some (r, h') ∧ Q r h'
theorem exec_step {X : List Int} {d m pc : Nat} {L S : List pm_V} {h : pm_H} (f : Nat) : exec X (f + 1) d m pc L S h = (match pm_code m pc with
    | none => none
    | some E => match stpS E.1 pc L S with
      | some (pc', L', S') => exec X f d m pc' L' S' h
      | none => match stpH X E S h with
        | some (n, S', h') => exec X f d m (pc + n) L S' h'
        | none => match stpQ (pm_mk m).2.2.2.2 E.1 S with
          | some r => some (r, h)
          | none => match stpC E S h with
            | none => none
            | some (m', as, S') => match d with
              | 0 => none
              | d' + 1 => match exec X f d' m' 0 (pm_pad (pm_spread as) (pm_mk m').2.2.1) [] h with
                | none => none
                | some (r, h') => exec X f (d' + 1) m (pc + 3) L (r.toList ++ S') h') := rfl
theorem exec_more {X : List Int} : ∀ (f d m pc : Nat) (L S : List pm_V) (h : pm_H) (x : Option pm_V × pm_H), exec X f d m pc L S h = some x → exec X (f + 1) d m pc L S h = some x := by
  intro f
  induction f with
  | zero => intro d m pc L S h x hr; cases hr
  | succ f ih =>
    intro d m pc L S h x hr
    rw [exec_step] at hr ⊢
    split at hr
    · cases hr
    · next E hE =>
      split at hr
      · exact ih _ _ _ _ _ _ _ hr
      · split at hr
        · exact ih _ _ _ _ _ _ _ hr
        · split at hr
          · exact hr
          · split at hr
            · cases hr
            · split at hr
              · cases hr
              · split at hr
                · cases hr
                · next hq =>
                  rw [ih _ _ _ _ _ _ _ hq]
                  exact ih _ _ _ _ _ _ _ hr
theorem exec_le {X : List Int} {f g d m pc : Nat} {L S : List pm_V} {h : pm_H} {x : Option pm_V × pm_H} (hfg : f ≤ g) (hr : exec X f d m pc L S h = some x) : exec X g d m pc L S h = some x := by
  obtain ⟨k, rfl⟩ := Nat.le.dest hfg
  induction k with
  | zero => exact hr
  | succ k ih => exact exec_more _ _ _ _ _ _ _ _ (ih (by omega))
/-- so many steps within a method, no call, no return -/
def stpN (X : List Int) (m : Nat) : Nat → Nat → List pm_V → List pm_V → pm_H → Option (Nat × List pm_V × List pm_V × pm_H)
  | 0, pc, L, S, h => some (pc, L, S, h)
  | k + 1, pc, L, S, h => match pm_code m pc with
    | none => none
    | some E => match stpS E.1 pc L S with
      | some (pc', L', S') => stpN X m k pc' L' S' h
      | none => match stpH X E S h with
        | some (n, S', h') => stpN X m k (pc + n) L S' h'
        | none => none
theorem stpN_exec {X : List Int} {m : Nat} : ∀ (k f d pc : Nat) (L S : List pm_V) (h : pm_H) (pc' : Nat) (L' S' : List pm_V) (h' : pm_H), stpN X m k pc L S h = some (pc', L', S', h') → exec X (f + k) d m pc L S h = exec X f d m pc' L' S' h' := by
  intro k
  induction k with
  | zero => intro f d pc L S h pc' L' S' h' e; cases e; rfl
  | succ k ih =>
    intro f d pc L S h pc' L' S' h' e
    rw [← Nat.add_assoc, exec_step]
    unfold stpN at e
    cases hc : pm_code m pc with
    | none => rw [hc] at e; cases e
    | some E =>
      rw [hc] at e
      dsimp only at e ⊢
      cases hs : stpS E.1 pc L S with
      | some x =>
        obtain ⟨p1, L1, S1⟩ := x
        rw [hs] at e
        exact ih f d p1 L1 S1 h pc' L' S' h' e
      | none =>
        rw [hs] at e
        dsimp only at e ⊢
        cases hh : stpH X E S h with
        | some x =>
          obtain ⟨n, S1, h1⟩ := x
          rw [hh] at e
          exact ih f d (pc + n) L S1 h1 pc' L' S' h' e
        | none => rw [hh] at e; cases e
/-- steps, and the method's end -/
def finN (X : List Int) (m k pc : Nat) (L S : List pm_V) (h : pm_H) : Option (Option pm_V × pm_H) := match stpN X m (k - 1) pc L S h with
  | none => none
  | some (pc1, L1, S1, h1) => match pm_code m pc1 with
    | none => none
    | some E => match stpS E.1 pc1 L1 S1 with
      | some _ => none
      | none => match stpH X E S1 h1 with
        | some _ => none
        | none => match stpQ (pm_mk m).2.2.2.2 E.1 S1 with
          | some r => some (r, h1)
          | none => none
theorem finN_exec {X : List Int} {m k f d pc : Nat} {L S : List pm_V} {h : pm_H} {r : Option pm_V} {h' : pm_H} (e : finN X m k pc L S h = some (r, h')) : exec X (f + 1 + (k - 1)) d m pc L S h = some (r, h') := by
  unfold finN at e
  cases hn : stpN X m (k - 1) pc L S h with
  | none => rw [hn] at e; cases e
  | some x =>
    obtain ⟨pc1, L1, S1, h1⟩ := x
    rw [hn] at e
    dsimp only at e
    rw [stpN_exec _ _ _ _ _ _ _ _ _ _ _ hn, exec_step]
    cases hc : pm_code m pc1 with
    | none => rw [hc] at e; cases e
    | some E =>
      rw [hc] at e
      dsimp only at e ⊢
      cases hs : stpS E.1 pc1 L1 S1 with
      | some x => rw [hs] at e; cases e
      | none =>
        rw [hs] at e
        dsimp only at e ⊢
        cases hh : stpH X E S1 h1 with
        | some x => rw [hh] at e; cases e
        | none =>
          rw [hh] at e
          dsimp only at e ⊢
          cases hq : stpQ (pm_mk m).2.2.2.2 E.1 S1 with
          | none => rw [hq] at e; cases e
          | some r1 => rw [hq] at e; exact e
section EV
variable {X : List Int} {d m pc : Nat} {L S : List pm_V} {h : pm_H} {Q : Option pm_V → pm_H → Prop}
theorem Ev.steps {k pc' : Nat} {L' S' : List pm_V} {h' : pm_H} (e : ∀ _ : Unit, stpN X m k pc L S h = some (pc', L', S', h')) (K : Ev X d m pc' L' S' h' Q) : Ev X d m pc L S h Q := by
  obtain ⟨f, r, h2, h3, h4⟩ := K
  exact ⟨f + k, r, h2, (stpN_exec _ _ _ _ _ _ _ _ _ _ _ (e ())).trans h3, h4⟩
theorem Ev.fin {k : Nat} {r : Option pm_V} {h' : pm_H} (e : ∀ _ : Unit, finN X m k pc L S h = some (r, h')) (q : Q r h') : Ev X d m pc L S h Q := ⟨0 + 1 + (k - 1), r, h', finN_exec (e ()), q⟩
theorem Ev.ite {P : Prop} [Decidable P] {k a b : Nat} {L' S' : List pm_V} {h' : pm_H} (e : ∀ _ : Unit, stpN X m k pc L S h = some ((if P then a else b), L', S', h')) (kt : P → Ev X d m a L' S' h' Q) (kf : ¬ P → Ev X d m b L' S' h' Q) : Ev X d m pc L S h Q := by
  by_cases hP : P
  · exact Ev.steps (fun _ => by rw [e (), if_pos hP]) (kt hP)
  · exact Ev.steps (fun _ => by rw [e (), if_neg hP]) (kf hP)
theorem Ev.mono {Q' : Option pm_V → pm_H → Prop} (K : Ev X d m pc L S h Q') (hq : ∀ r h', Q' r h' → Q r h') : Ev X d m pc L S h Q := by
  obtain ⟨f, r, h2, h3, h4⟩ := K
  exact ⟨f, r, h2, h3, hq _ _ h4⟩
theorem Ev.call {k m' pc1 : Nat} {as S' : List pm_V} {L1 S1 L0 : List pm_V} {h1 : pm_H} {E : pm_EN} {Q' : Option pm_V → pm_H → Prop} (e : ∀ _ : Unit, stpN X m k pc L S h = some (pc1, L1, S1, h1)) (hc : pm_code m pc1 = some E) (hs : stpS E.1 pc1 L1 S1 = none) (hh : stpH X E S1 h1 = none) (hq : stpQ (pm_mk m).2.2.2.2 E.1 S1 = none) (hcc : stpC E S1 h1 = some (m', as, S')) (hp : pm_pad (pm_spread as) (pm_mk m').2.2.1 = L0)
    (M : Ev X d m' 0 L0 [] h1 Q') (K : ∀ r h', Q' r h' → Ev X (d + 1) m (pc1 + 3) L1 (r.toList ++ S') h' Q) : Ev X (d + 1) m pc L S h Q := by
  subst hp
  obtain ⟨f1, r1, h2, e1, q1⟩ := M
  obtain ⟨f2, r2, h3, e2, q2⟩ := K r1 h2 q1
  refine Ev.steps e ⟨max f1 f2 + 1, r2, h3, ?_, q2⟩
  rw [exec_step, hc]
  dsimp only
  rw [hs]
  dsimp only
  rw [hh]
  dsimp only
  rw [hq]
  dsimp only
  rw [hcc]
  dsimp only
  rw [exec_le (Nat.le_max_left f1 f2) e1]
  exact exec_le (Nat.le_max_right f1 f2) e2
/-- one step that touches the heap -/
theorem Ev.heap {n : Nat} {S' : List pm_V} {h' : pm_H} {E : pm_EN} (hc : pm_code m pc = some E) (hs : stpS E.1 pc L S = none) (hh : stpH X E S h = some (n, S', h')) (K : Ev X d m (pc + n) L S' h' Q) : Ev X d m pc L S h Q := by
  refine Ev.steps (k := 1) (fun _ => ?_) K
  unfold stpN
  rw [hc]
  dsimp only
  rw [hs]
  dsimp only
  rw [hh]
  rfl
theorem Ev.simple {pc' : Nat} {L' S' : List pm_V} {E : pm_EN} (hc : pm_code m pc = some E) (hs : stpS E.1 pc L S = some (pc', L', S')) (K : Ev X d m pc' L' S' h Q) : Ev X d m pc L S h Q := by
  refine Ev.steps (k := 1) (fun _ => ?_) K
  unfold stpN
  rw [hc]
  dsimp only
  rw [hs]
  rfl
end EV
section EVH
variable {X : List Int} {d m pc : Nat} {L T : List pm_V} {sh : List pm_SH} {c : Nat → Nat → Int} {Q : Option pm_V → pm_H → Prop} {i o v : Int} {n a b w : Nat} {rs : List Int} {vv : Int}
theorem pm_ob_at {α : Type} {h : pm_H} {o : Int} {kd n : Nat} {rs : List Int} {k : Nat → Nat → List Int → Option α} (ho : o < 0 → False) (hs : pm_nth h.1 o.toNat = some (kd, n, rs)) : pm_ob h o k = k kd n rs := by
  unfold pm_ob
  rw [if_neg ho, hs]
theorem pm_bl {i : Int} {n : Nat} (h0 : 0 ≤ i) (h1 : i < n) : Nat.blt i.toNat n = true := Nat.blt_eq.mpr (by omega)
theorem Ev.iald (hc : pm_code m pc = some (.iaload, 1, a, b, vv, w)) (ho : o < 0 → False) (hs : pm_nth sh o.toNat = some (20, n, rs)) (h0 : 0 ≤ i) (h1 : i < n) (hv : c o.toNat i.toNat = v) (K : Ev X d m (pc + 1) L (Vi v :: T) (sh, c) Q) : Ev X d m pc L (Vi i :: Vr o :: T) (sh, c) Q := by
  refine Ev.heap hc rfl (n := 1) (S' := Vi v :: T) (h' := (sh, c)) ?_ K
  have e : pm_ild X (sh, c) (Vi i :: Vr o :: T) = some (Vi v :: T, (sh, c)) := by
    show (if i < 0 then none else if o < 0 then _ else _) = _
    rw [if_neg (by omega), if_neg ho, pm_ob_at ho hs, pm_bl h0 h1, ← hv]
    rfl
  show (match pm_ild X (sh, c) (Vi i :: Vr o :: T) with
    | some (S, h) => some (1, S, h)
    | none => none) = _
  rw [e]
theorem Ev.zald (hc : pm_code m pc = some (.baload, 1, a, b, vv, w)) (ho : o < 0 → False) (hs : pm_nth sh o.toNat = some (22, n, rs)) (h0 : 0 ≤ i) (h1 : i < n) (hv : c o.toNat i.toNat = v) (K : Ev X d m (pc + 1) L (Vi v :: T) (sh, c) Q) : Ev X d m pc L (Vi i :: Vr o :: T) (sh, c) Q := by
  refine Ev.heap hc rfl (n := 1) (S' := Vi v :: T) (h' := (sh, c)) ?_ K
  have e : pm_bld (sh, c) (Vi i :: Vr o :: T) = some (Vi v :: T, (sh, c)) := by
    show (if i < 0 then none else if o < 0 then _ else _) = _
    rw [if_neg (by omega), if_neg ho, pm_ob_at ho hs, pm_bl h0 h1, ← hv]
    rfl
  show (match pm_bld (sh, c) (Vi i :: Vr o :: T) with
    | some (S, h) => some (1, S, h)
    | none => none) = _
  rw [e]
theorem Ev.bald (hc : pm_code m pc = some (.baload, 1, a, b, vv, w)) (ho : o < 0 → False) (hs : pm_nth sh o.toNat = some (21, n, rs)) (h0 : 0 ≤ i) (h1 : i < n) (hv : c o.toNat i.toNat = v) (K : Ev X d m (pc + 1) L (Vi v :: T) (sh, c) Q) : Ev X d m pc L (Vi i :: Vr o :: T) (sh, c) Q := by
  refine Ev.heap hc rfl (n := 1) (S' := Vi v :: T) (h' := (sh, c)) ?_ K
  have e : pm_bld (sh, c) (Vi i :: Vr o :: T) = some (Vi v :: T, (sh, c)) := by
    show (if i < 0 then none else if o < 0 then _ else _) = _
    rw [if_neg (by omega), if_neg ho, pm_ob_at ho hs, pm_bl h0 h1, ← hv]
    rfl
  show (match pm_bld (sh, c) (Vi i :: Vr o :: T) with
    | some (S, h) => some (1, S, h)
    | none => none) = _
  rw [e]
theorem Ev.lald (hc : pm_code m pc = some (.laload, 1, a, b, vv, w)) (ho : o < 0 → False) (hs : pm_nth sh o.toNat = some (23, n, rs)) (h0 : 0 ≤ i) (h1 : i < n) (hv : c o.toNat i.toNat = v) (K : Ev X d m (pc + 1) L (Vl v :: T) (sh, c) Q) : Ev X d m pc L (Vi i :: Vr o :: T) (sh, c) Q := by
  refine Ev.heap hc rfl (n := 1) (S' := Vl v :: T) (h' := (sh, c)) ?_ K
  have e : pm_lld (sh, c) (Vi i :: Vr o :: T) = some (Vl v :: T, (sh, c)) := by
    show (if i < 0 then none else _) = _
    rw [if_neg (by omega), pm_ob_at ho hs, pm_bl h0 h1, ← hv]
    rfl
  show (match pm_lld (sh, c) (Vi i :: Vr o :: T) with
    | some (S, h) => some (1, S, h)
    | none => none) = _
  rw [e]
theorem Ev.aald {kd : Nat} {r : Int} (hc : pm_code m pc = some (.aaload, 1, a, b, vv, w)) (ho : o < 0 → False) (hs : pm_nth sh o.toNat = some (kd, n, rs)) (hk : (Nat.beq kd 24 || Nat.beq kd 25) = true) (h0 : 0 ≤ i) (h1 : i < n) (hv : pm_nth rs i.toNat = some r) (K : Ev X d m (pc + 1) L (Vr r :: T) (sh, c) Q) : Ev X d m pc L (Vi i :: Vr o :: T) (sh, c) Q := by
  refine Ev.heap hc rfl (n := 1) (S' := Vr r :: T) (h' := (sh, c)) ?_ K
  have e : pm_ald (sh, c) (Vi i :: Vr o :: T) = some (Vr r :: T, (sh, c)) := by
    show (if i < 0 then none else _) = _
    rw [if_neg (by omega), pm_ob_at ho hs, hk, pm_bl h0 h1, hv]
    rfl
  show (match pm_ald (sh, c) (Vi i :: Vr o :: T) with
    | some (S, h) => some (1, S, h)
    | none => none) = _
  rw [e]
theorem Ev.iast {x : Int} {c' : Nat → Nat → Int} (hc : pm_code m pc = some (.iastore, 1, a, b, vv, w)) (ho : o < 0 → False) (hs : pm_nth sh o.toNat = some (20, n, rs)) (h0 : 0 ≤ i) (h1 : i < n) (hv : updC c o.toNat i.toNat x = c') (K : Ev X d m (pc + 1) L T (sh, c') Q) : Ev X d m pc L (Vi x :: Vi i :: Vr o :: T) (sh, c) Q := by
  refine Ev.heap hc rfl (n := 1) (S' := T) (h' := (sh, c')) ?_ K
  have e : pm_ist (sh, c) (Vi x :: Vi i :: Vr o :: T) = some (T, (sh, c')) := by
    show (if i < 0 then none else _) = _
    rw [if_neg (by omega), pm_ob_at ho hs, pm_bl h0 h1, ← hv]
    rfl
  show (match pm_ist (sh, c) (Vi x :: Vi i :: Vr o :: T) with
    | some (S, h) => some (1, S, h)
    | none => none) = _
  rw [e]
theorem Ev.bast {x : Int} {c' : Nat → Nat → Int} (hc : pm_code m pc = some (.bastore, 1, a, b, vv, w)) (ho : o < 0 → False) (hs : pm_nth sh o.toNat = some (21, n, rs)) (h0 : 0 ≤ i) (h1 : i < n) (hx : -128 ≤ x ∧ x ≤ 127) (hv : updC c o.toNat i.toNat x = c') (K : Ev X d m (pc + 1) L T (sh, c') Q) : Ev X d m pc L (Vi x :: Vi i :: Vr o :: T) (sh, c) Q := by
  refine Ev.heap hc rfl (n := 1) (S' := T) (h' := (sh, c')) ?_ K
  have e : pm_bst (sh, c) (Vi x :: Vi i :: Vr o :: T) = some (T, (sh, c')) := by
    show (if i < 0 then none else _) = _
    rw [if_neg (by omega), pm_ob_at ho hs, pm_bl h0 h1, ← hv]
    exact if_pos hx
  show (match pm_bst (sh, c) (Vi x :: Vi i :: Vr o :: T) with
    | some (S, h) => some (1, S, h)
    | none => none) = _
  rw [e]
theorem Ev.zast {x : Int} {c' : Nat → Nat → Int} (hc : pm_code m pc = some (.bastore, 1, a, b, vv, w)) (ho : o < 0 → False) (hs : pm_nth sh o.toNat = some (22, n, rs)) (h0 : 0 ≤ i) (h1 : i < n) (hx : x = 0 ∨ x = 1) (hv : updC c o.toNat i.toNat x = c') (K : Ev X d m (pc + 1) L T (sh, c') Q) : Ev X d m pc L (Vi x :: Vi i :: Vr o :: T) (sh, c) Q := by
  refine Ev.heap hc rfl (n := 1) (S' := T) (h' := (sh, c')) ?_ K
  have e : pm_bst (sh, c) (Vi x :: Vi i :: Vr o :: T) = some (T, (sh, c')) := by
    show (if i < 0 then none else _) = _
    rw [if_neg (by omega), pm_ob_at ho hs, pm_bl h0 h1, ← hv]
    exact if_pos hx
  show (match pm_bst (sh, c) (Vi x :: Vi i :: Vr o :: T) with
    | some (S, h) => some (1, S, h)
    | none => none) = _
  rw [e]
theorem Ev.last {x : Int} {c' : Nat → Nat → Int} (hc : pm_code m pc = some (.lastore, 1, a, b, vv, w)) (ho : o < 0 → False) (hs : pm_nth sh o.toNat = some (23, n, rs)) (h0 : 0 ≤ i) (h1 : i < n) (hv : updC c o.toNat i.toNat x = c') (K : Ev X d m (pc + 1) L T (sh, c') Q) : Ev X d m pc L (Vl x :: Vi i :: Vr o :: T) (sh, c) Q := by
  refine Ev.heap hc rfl (n := 1) (S' := T) (h' := (sh, c')) ?_ K
  have e : pm_lst (sh, c) (Vl x :: Vi i :: Vr o :: T) = some (T, (sh, c')) := by
    show (if i < 0 then none else _) = _
    rw [if_neg (by omega), pm_ob_at ho hs, pm_bl h0 h1, ← hv]
    rfl
  show (match pm_lst (sh, c) (Vl x :: Vi i :: Vr o :: T) with
    | some (S, h) => some (1, S, h)
    | none => none) = _
  rw [e]
/-- a read of the script, or of one of the rows that were there before -/
theorem Ev.rald {l : List Int} (hc : pm_code m pc = some (.iaload, 1, a, b, vv, w)) (ho : o < 0) (hl : pm_ro X o = some l) (h0 : 0 ≤ i) (hv : pm_nth l i.toNat = some v) (K : Ev X d m (pc + 1) L (Vi v :: T) (sh, c) Q) : Ev X d m pc L (Vi i :: Vr o :: T) (sh, c) Q := by
  refine Ev.heap hc rfl (n := 1) (S' := Vi v :: T) (h' := (sh, c)) ?_ K
  have e : pm_ild X (sh, c) (Vi i :: Vr o :: T) = some (Vi v :: T, (sh, c)) := by
    show (if i < 0 then none else if o < 0 then _ else _) = _
    rw [if_neg (by omega), if_pos ho, hl]
    dsimp only
    rw [hv]
  show (match pm_ild X (sh, c) (Vi i :: Vr o :: T) with
    | some (S, h) => some (1, S, h)
    | none => none) = _
  rw [e]
/-- a field of an object whose number isn't written out -/
theorem Ev.getf {idx ln : Nat} (hc : pm_code m pc = some (.getfield idx, ln, a, b, vv, w)) (h99 : Nat.beq a 99 = false) (ho : o < 0 → False) (hs : pm_nth sh o.toNat = some (a, n, rs)) (hb : Nat.blt b n = true) (hf : pm_ft a b = 0) (hv : c o.toNat b = v) (K : Ev X d m (pc + 3) L (Vi v :: T) (sh, c) Q) : Ev X d m pc L (Vr o :: T) (sh, c) Q := by
  refine Ev.heap hc rfl (n := 3) (S' := Vi v :: T) (h' := (sh, c)) ?_ K
  have e : pm_get (sh, c) a b (Vr o :: T) = some (Vi v :: T, (sh, c)) := by
    show (bif Nat.beq a 99 then _ else _) = _
    rw [h99]
    show pm_ob _ _ _ = _
    rw [pm_ob_at ho hs, Nat.beq_refl, hb, hf, ← hv]
    rfl
  show (match pm_get (sh, c) a b (Vr o :: T) with
    | some (S, h) => some (3, S, h)
    | none => none) = _
  rw [e]
theorem Ev.putf {idx ln : Nat} {x : Int} {c' : Nat → Nat → Int} (hc : pm_code m pc = some (.putfield idx, ln, a, b, vv, w)) (ho : o < 0 → False) (hs : pm_nth sh o.toNat = some (a, n, rs)) (hb : Nat.blt b n = true) (hf : pm_ft a b = 0) (hv : updC c o.toNat b x = c') (K : Ev X d m (pc + 3) L T (sh, c') Q) : Ev X d m pc L (Vi x :: Vr o :: T) (sh, c) Q := by
  refine Ev.heap hc rfl (n := 3) (S' := T) (h' := (sh, c')) ?_ K
  have e : pm_put (sh, c) a b (Vi x :: Vr o :: T) = some (T, (sh, c')) := by
    show pm_ob _ _ _ = _
    rw [pm_ob_at ho hs, Nat.beq_refl, hb, hf, ← hv]
    rfl
  show (match pm_put (sh, c) a b (Vi x :: Vr o :: T) with
    | some (S, h) => some (3, S, h)
    | none => none) = _
  rw [e]
end EVH
/-- the contents: the class's objects, the scratch of the reference, the rest of the reference's -/
def ovl (a s b : Nat → Nat → Int) : Nat → Nat → Int := fun o => bif Nat.blt o 166 then a o else bif Nat.blt 216 o then s o else b o
theorem ovl_rc {a s b : Nat → Nat → Int} {o i : Nat} (h : o < 166) : ovl a s b o i = a o i := by
  unfold ovl
  rw [Nat.blt_eq.mpr h]
  rfl
theorem pm_bltF {a b : Nat} (h : b ≤ a) : Nat.blt a b = false := by
  cases h2 : Nat.blt a b with
  | false => rfl
  | true => have := Nat.blt_eq.mp h2; omega
theorem ovl_wc {a s b : Nat → Nat → Int} {o i : Nat} {v : Int} (h : o < 166) : updC (ovl a s b) o i v = ovl (updC a o i v) s b := by
  funext o' i'
  by_cases e : o' = o
  · subst e
    unfold updC ovl
    rw [Nat.blt_eq.mpr h]
    simp only [Nat.beq_refl, Bool.true_and, cond_true, cond_false]
  · rw [updC_ne e]
    unfold ovl
    rw [updC_ne e]
theorem ovl_ws {a s b : Nat → Nat → Int} {o i : Nat} {v : Int} (h : 216 < o) : updC (ovl a s b) o i v = ovl a (updC s o i v) b := by
  funext o' i'
  by_cases e : o' = o
  · subst e
    unfold updC ovl
    rw [Nat.blt_eq.mpr h, pm_bltF (show 166 ≤ o' by omega)]
    simp only [Nat.beq_refl, Bool.true_and, cond_true, cond_false]
  · rw [updC_ne e]
    unfold ovl
    rw [updC_ne e]
theorem ovl_wm {a s b : Nat → Nat → Int} {o i : Nat} {v : Int} (h : 166 ≤ o ∧ o < 217) : updC (ovl a s b) o i v = ovl a s (updC b o i v) := by
  funext o' i'
  by_cases e : o' = o
  · subst e
    unfold updC ovl
    rw [pm_bltF h.1, pm_bltF (show o' ≤ 216 by omega)]
    simp only [Nat.beq_refl, Bool.true_and, cond_true, cond_false]
  · rw [updC_ne e]
    unfold ovl
    rw [updC_ne e]
theorem Ev_retz {X : List Int} {m pc : Nat} {L : List pm_V} {h : pm_H} {x : Int} (hc : (pm_code m pc).map (fun E => (E.1, (pm_mk m).2.2.2.2)) = some (.ireturn, 3)) (hx : x = 0 ∨ x = 1) : finN X m 1 pc L [Vi x] h = some (some (Vi x), h) := by
  unfold finN
  rw [show stpN X m (1 - 1) pc L [Vi x] h = some (pc, L, [Vi x], h) from rfl]
  dsimp only
  cases hq : pm_code m pc with
  | none => rw [hq] at hc; cases hc
  | some E =>
    rw [hq] at hc
    obtain ⟨i, rest⟩ := E
    have h1 := Option.some.inj hc
    have e1 : i = .ireturn := congrArg Prod.fst h1
    have e2 : (pm_mk m).2.2.2.2 = 3 := congrArg Prod.snd h1
    subst e1
    dsimp only
    rw [show stpS .ireturn pc L [Vi x] = none from rfl, show stpH X (.ireturn, rest) [Vi x] h = none from rfl, e2]
    dsimp only
    rw [show stpQ 3 .ireturn [Vi x] = if x = 0 ∨ x = 1 then some (some (Vi x)) else none from rfl, if_pos hx]
section EVT
variable {X : List Int} {d m pc : Nat} {L T : List pm_V} {h : pm_H} {Q : Option pm_V → pm_H → Prop} {x : Int} {n a b w : Nat} {vv : Int}
theorem pm_tsw_out {dflt lo hi : Int} {offs : List Int} {tgt : Nat} (hx : (x < lo ∨ hi < x) ∨ pm_nth offs (x - lo).toNat = some dflt) (ht : 0 ≤ (pc : Int) + dflt ∧ pm_to pc dflt = tgt) : pm_tsw dflt lo hi offs pc L (Vi x :: T) = some (tgt, L, T) := by
  have hg : pm_gt pc dflt L T = some (tgt, L, T) := by
    unfold pm_gt
    rw [decide_eq_true ht.1, ht.2]
    rfl
  show (if x < lo ∨ hi < x then pm_gt pc dflt L T else match pm_nth offs (x - lo).toNat with
    | some off => pm_gt pc off L T
    | none => none) = _
  by_cases hr : x < lo ∨ hi < x
  · rw [if_pos hr, hg]
  · rw [if_neg hr]
    rcases hx with hx | hx
    · exact absurd hx hr
    · rw [hx]
      exact hg
theorem Ev.putl {sh : List pm_SH} {c c' : Nat → Nat → Int} {o : Int} {rs : List Int} {k : Nat} {idx ln : Nat} (hc : pm_code m pc = some (.putfield idx, ln, a, b, vv, w)) (ho : o < 0 → False) (hs : pm_nth sh o.toNat = some (a, k, rs)) (hb : Nat.blt b k = true) (hf : pm_ft a b = 1) (hv : updC c o.toNat b x = c') (K : Ev X d m (pc + 3) L T (sh, c') Q) : Ev X d m pc L (Vl x :: Vr o :: T) (sh, c) Q := by
  refine Ev.heap hc rfl (n := 3) (S' := T) (h' := (sh, c')) ?_ K
  have e : pm_put (sh, c) a b (Vl x :: Vr o :: T) = some (T, (sh, c')) := by
    show pm_ob _ _ _ = _
    rw [pm_ob_at ho hs, Nat.beq_refl, hb, hf, ← hv]
    rfl
  show (match pm_put (sh, c) a b (Vl x :: Vr o :: T) with
    | some (S, h) => some (3, S, h)
    | none => none) = _
  rw [e]
/-- a switch that goes to its default, the value outside -/
theorem Ev.tswd {dflt lo hi : Int} {offs : Array Int} (hc : pm_code m pc = some (.tableswitch dflt lo hi offs, n, a, b, vv, w)) (hx : x < lo ∨ hi < x) (ht : 0 ≤ (pc : Int) + dflt) (K : Ev X d m (pm_to pc dflt) L T h Q) : Ev X d m pc L (Vi x :: T) h Q :=
  Ev.simple hc (pm_tsw_out (Or.inl hx) ⟨ht, rfl⟩) K
theorem Ev.lswd {dflt : Int} {ps : Array (Int × Int)} (hc : pm_code m pc = some (.lookupswitch dflt ps, n, a, b, vv, w)) (hs : pm_srt ps.toList = true) (hx : pm_lku ps.toList dflt x = dflt) (ht : 0 ≤ (pc : Int) + dflt) (K : Ev X d m (pm_to pc dflt) L T h Q) : Ev X d m pc L (Vi x :: T) h Q := by
  refine Ev.simple hc (pc' := pm_to pc dflt) (L' := L) (S' := T) ?_ K
  show (bif pm_srt ps.toList then pI (Vi x :: T) fun x S => pm_gt pc (pm_lku ps.toList dflt x) L S else none) = _
  rw [hs]
  show pm_gt pc (pm_lku ps.toList dflt x) L T = _
  rw [hx]
  unfold pm_gt
  rw [decide_eq_true ht]
  rfl
theorem Ev.putz {sh : List pm_SH} {c c' : Nat → Nat → Int} {o : Int} {rs : List Int} {k : Nat} {idx ln : Nat} (hc : pm_code m pc = some (.putfield idx, ln, a, b, vv, w)) (ho : o < 0 → False) (hs : pm_nth sh o.toNat = some (a, k, rs)) (hb : Nat.blt b k = true) (hf : pm_ft a b = 3) (hx : x = 0 ∨ x = 1) (hv : updC c o.toNat b x = c') (K : Ev X d m (pc + 3) L T (sh, c') Q) : Ev X d m pc L (Vi x :: Vr o :: T) (sh, c) Q := by
  refine Ev.heap hc rfl (n := 3) (S' := T) (h' := (sh, c')) ?_ K
  have e : pm_put (sh, c) a b (Vi x :: Vr o :: T) = some (T, (sh, c')) := by
    show pm_ob _ _ _ = _
    rw [pm_ob_at ho hs, Nat.beq_refl, hb, hf, ← hv]
    exact if_pos hx
  show (match pm_put (sh, c) a b (Vi x :: Vr o :: T) with
    | some (S, h) => some (3, S, h)
    | none => none) = _
  rw [e]
end EVT
