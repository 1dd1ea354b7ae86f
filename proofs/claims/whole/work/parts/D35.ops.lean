/-! THE REFERENCE READS: operators that wait -/
def rkM (op : Int) : Int := if op = 26 then 1 else if op = 25 then 2 else if op = 27 then 3 else if op = 22 ∨ op = 23 ∨ op = 24 then 4 else if op = 15 ∨ op = 16 then 5 else 6
/-- operators that wait above om, the topmost first -/
def stkM (O : Nat → Int) (om : Nat) : List Nat → Prop
  | [] => True
  | op :: t => O (om + t.length) = (op : Int) ∧ stkM O om t
def opL (pd : List Nat) : List (Nat × Nat) := pd.map (fun op => (op, 0))
theorem stkM_cg {O O' : Nat → Int} {om : Nat} : ∀ pd : List Nat, (∀ i, om ≤ i → i < om + pd.length → O' i = O i) → stkM O om pd → stkM O' om pd
  | [], _, _ => trivial
  | op :: t, h, g => ⟨(h _ (by omega) (by show om + t.length < om + (t.length + 1); omega)).trans g.1, stkM_cg t (fun i h1 h2 => h i h1 (by show i < om + (t.length + 1); omega)) g.2⟩
theorem stkM_app {O : Nat → Int} {om op : Nat} : ∀ pd : List Nat, stkM O (om + 1) pd → O om = (op : Int) → stkM O om (pd ++ [op])
  | [], _, h => ⟨h, trivial⟩
  | x :: t, g, h => by
    refine ⟨?_, stkM_app t g.2 h⟩
    have := g.1
    show O (om + (t ++ [op]).length) = (x : Int)
    rw [List.length_append]
    show O (om + (t.length + 1)) = (x : Int)
    rwa [show om + (t.length + 1) = om + 1 + t.length by omega]
theorem codM_app {A B : Nat → Int} : ∀ (l l' : List (Nat × Nat)) (k : Nat), codM A B k l → codM A B (k + l.length) l' → codM A B k (l ++ l')
  | [], l', k, _, h => h
  | q :: l, l', k, h, h' => ⟨h.1, h.2.1, codM_app l l' (k + 1) h.2.2 (by rwa [show k + 1 + l.length = k + (l.length + 1) by omega])⟩
theorem codM_cg {A B A' B' : Nat → Int} : ∀ (l : List (Nat × Nat)) (k : Nat), (∀ i, k ≤ i → i < k + l.length → A' i = A i ∧ B' i = B i) → codM A B k l → codM A' B' k l
  | [], _, _, _ => trivial
  | q :: l, k, h, g => ⟨(h k (by omega) (by show k < k + (l.length + 1); omega)).1.trans g.1, (h k (by omega) (by show k < k + (l.length + 1); omega)).2.trans g.2.1, codM_cg l (k + 1) (fun i h1 h2 => h i (by omega) (by show i < k + (l.length + 1); omega)) g.2.2⟩
theorem m_rank {X : List Int} {d : Nat} {st dr rd : Int} {a s b : C3} (op : Int) : Ev X d 180 0 [Vi op] [] (SHv st dr rd, ovl a s b) (fun rr hh => rr = some (Vi (rkM op)) ∧ hh = (SHv st dr rd, ovl a s b)) := by
  refine Ev.ite (P := op ≠ 26) (k := 3) (a := 10) (b := 6) (L' := [Vi op]) (S' := []) (h' := ((SHv st dr rd), (ovl a s b))) (fun _ => rfl) (fun b3 => ?_) (fun b3 => ?_)
  · refine Ev.ite (P := op ≠ 25) (k := 3) (a := 20) (b := 16) (L' := [Vi op]) (S' := []) (h' := ((SHv st dr rd), (ovl a s b))) (fun _ => rfl) (fun b13 => ?_) (fun b13 => ?_)
    · refine Ev.ite (P := op ≠ 27) (k := 3) (a := 30) (b := 26) (L' := [Vi op]) (S' := []) (h' := ((SHv st dr rd), (ovl a s b))) (fun _ => rfl) (fun b23 => ?_) (fun b23 => ?_)
      · refine Ev.ite (P := op = 22) (k := 3) (a := 48) (b := 36) (L' := [Vi op]) (S' := []) (h' := ((SHv st dr rd), (ovl a s b))) (fun _ => rfl) (fun b33 => ?_) (fun b33 => ?_)
        · refine Ev.fin (k := 3) (r := (some (Vi 4))) (h' := ((SHv st dr rd), (ovl a s b))) (fun _ => rfl) ?_
          refine ⟨?_, rfl⟩
          unfold rkM
          first
            | (rw [if_pos (by omega)]; done)
            | (rw [if_neg (by omega), if_pos (by omega)]; done)
            | (rw [if_neg (by omega), if_neg (by omega), if_pos (by omega)]; done)
            | (rw [if_neg (by omega), if_neg (by omega), if_neg (by omega), if_pos (by omega)]; done)
            | (rw [if_neg (by omega), if_neg (by omega), if_neg (by omega), if_neg (by omega), if_pos (by omega)]; done)
            | (rw [if_neg (by omega), if_neg (by omega), if_neg (by omega), if_neg (by omega), if_neg (by omega)]; done)
        · refine Ev.ite (P := op = 23) (k := 3) (a := 48) (b := 42) (L' := [Vi op]) (S' := []) (h' := ((SHv st dr rd), (ovl a s b))) (fun _ => rfl) (fun b39 => ?_) (fun b39 => ?_)
          · refine Ev.fin (k := 3) (r := (some (Vi 4))) (h' := ((SHv st dr rd), (ovl a s b))) (fun _ => rfl) ?_
            refine ⟨?_, rfl⟩
            unfold rkM
            first
              | (rw [if_pos (by omega)]; done)
              | (rw [if_neg (by omega), if_pos (by omega)]; done)
              | (rw [if_neg (by omega), if_neg (by omega), if_pos (by omega)]; done)
              | (rw [if_neg (by omega), if_neg (by omega), if_neg (by omega), if_pos (by omega)]; done)
              | (rw [if_neg (by omega), if_neg (by omega), if_neg (by omega), if_neg (by omega), if_pos (by omega)]; done)
              | (rw [if_neg (by omega), if_neg (by omega), if_neg (by omega), if_neg (by omega), if_neg (by omega)]; done)
          · refine Ev.ite (P := op ≠ 24) (k := 3) (a := 52) (b := 48) (L' := [Vi op]) (S' := []) (h' := ((SHv st dr rd), (ovl a s b))) (fun _ => rfl) (fun b45 => ?_) (fun b45 => ?_)
            · refine Ev.ite (P := op = 15) (k := 3) (a := 64) (b := 58) (L' := [Vi op]) (S' := []) (h' := ((SHv st dr rd), (ovl a s b))) (fun _ => rfl) (fun b55 => ?_) (fun b55 => ?_)
              · refine Ev.fin (k := 3) (r := (some (Vi 5))) (h' := ((SHv st dr rd), (ovl a s b))) (fun _ => rfl) ?_
                refine ⟨?_, rfl⟩
                unfold rkM
                first
                  | (rw [if_pos (by omega)]; done)
                  | (rw [if_neg (by omega), if_pos (by omega)]; done)
                  | (rw [if_neg (by omega), if_neg (by omega), if_pos (by omega)]; done)
                  | (rw [if_neg (by omega), if_neg (by omega), if_neg (by omega), if_pos (by omega)]; done)
                  | (rw [if_neg (by omega), if_neg (by omega), if_neg (by omega), if_neg (by omega), if_pos (by omega)]; done)
                  | (rw [if_neg (by omega), if_neg (by omega), if_neg (by omega), if_neg (by omega), if_neg (by omega)]; done)
              · refine Ev.ite (P := op ≠ 16) (k := 3) (a := 68) (b := 64) (L' := [Vi op]) (S' := []) (h' := ((SHv st dr rd), (ovl a s b))) (fun _ => rfl) (fun b61 => ?_) (fun b61 => ?_)
                · refine Ev.fin (k := 2) (r := (some (Vi 6))) (h' := ((SHv st dr rd), (ovl a s b))) (fun _ => rfl) ?_
                  refine ⟨?_, rfl⟩
                  unfold rkM
                  first
                    | (rw [if_pos (by omega)]; done)
                    | (rw [if_neg (by omega), if_pos (by omega)]; done)
                    | (rw [if_neg (by omega), if_neg (by omega), if_pos (by omega)]; done)
                    | (rw [if_neg (by omega), if_neg (by omega), if_neg (by omega), if_pos (by omega)]; done)
                    | (rw [if_neg (by omega), if_neg (by omega), if_neg (by omega), if_neg (by omega), if_pos (by omega)]; done)
                    | (rw [if_neg (by omega), if_neg (by omega), if_neg (by omega), if_neg (by omega), if_neg (by omega)]; done)
                · refine Ev.fin (k := 3) (r := (some (Vi 5))) (h' := ((SHv st dr rd), (ovl a s b))) (fun _ => rfl) ?_
                  refine ⟨?_, rfl⟩
                  unfold rkM
                  first
                    | (rw [if_pos (by omega)]; done)
                    | (rw [if_neg (by omega), if_pos (by omega)]; done)
                    | (rw [if_neg (by omega), if_neg (by omega), if_pos (by omega)]; done)
                    | (rw [if_neg (by omega), if_neg (by omega), if_neg (by omega), if_pos (by omega)]; done)
                    | (rw [if_neg (by omega), if_neg (by omega), if_neg (by omega), if_neg (by omega), if_pos (by omega)]; done)
                    | (rw [if_neg (by omega), if_neg (by omega), if_neg (by omega), if_neg (by omega), if_neg (by omega)]; done)
            · refine Ev.fin (k := 3) (r := (some (Vi 4))) (h' := ((SHv st dr rd), (ovl a s b))) (fun _ => rfl) ?_
              refine ⟨?_, rfl⟩
              unfold rkM
              first
                | (rw [if_pos (by omega)]; done)
                | (rw [if_neg (by omega), if_pos (by omega)]; done)
                | (rw [if_neg (by omega), if_neg (by omega), if_pos (by omega)]; done)
                | (rw [if_neg (by omega), if_neg (by omega), if_neg (by omega), if_pos (by omega)]; done)
                | (rw [if_neg (by omega), if_neg (by omega), if_neg (by omega), if_neg (by omega), if_pos (by omega)]; done)
                | (rw [if_neg (by omega), if_neg (by omega), if_neg (by omega), if_neg (by omega), if_neg (by omega)]; done)
      · refine Ev.fin (k := 3) (r := (some (Vi 3))) (h' := ((SHv st dr rd), (ovl a s b))) (fun _ => rfl) ?_
        refine ⟨?_, rfl⟩
        unfold rkM
        first
          | (rw [if_pos (by omega)]; done)
          | (rw [if_neg (by omega), if_pos (by omega)]; done)
          | (rw [if_neg (by omega), if_neg (by omega), if_pos (by omega)]; done)
          | (rw [if_neg (by omega), if_neg (by omega), if_neg (by omega), if_pos (by omega)]; done)
          | (rw [if_neg (by omega), if_neg (by omega), if_neg (by omega), if_neg (by omega), if_pos (by omega)]; done)
          | (rw [if_neg (by omega), if_neg (by omega), if_neg (by omega), if_neg (by omega), if_neg (by omega)]; done)
    · refine Ev.fin (k := 3) (r := (some (Vi 2))) (h' := ((SHv st dr rd), (ovl a s b))) (fun _ => rfl) ?_
      refine ⟨?_, rfl⟩
      unfold rkM
      first
        | (rw [if_pos (by omega)]; done)
        | (rw [if_neg (by omega), if_pos (by omega)]; done)
        | (rw [if_neg (by omega), if_neg (by omega), if_pos (by omega)]; done)
        | (rw [if_neg (by omega), if_neg (by omega), if_neg (by omega), if_pos (by omega)]; done)
        | (rw [if_neg (by omega), if_neg (by omega), if_neg (by omega), if_neg (by omega), if_pos (by omega)]; done)
        | (rw [if_neg (by omega), if_neg (by omega), if_neg (by omega), if_neg (by omega), if_neg (by omega)]; done)
  · refine Ev.fin (k := 3) (r := (some (Vi 1))) (h' := ((SHv st dr rd), (ovl a s b))) (fun _ => rfl) ?_
    refine ⟨?_, rfl⟩
    unfold rkM
    first
      | (rw [if_pos (by omega)]; done)
      | (rw [if_neg (by omega), if_pos (by omega)]; done)
      | (rw [if_neg (by omega), if_neg (by omega), if_pos (by omega)]; done)
      | (rw [if_neg (by omega), if_neg (by omega), if_neg (by omega), if_pos (by omega)]; done)
      | (rw [if_neg (by omega), if_neg (by omega), if_neg (by omega), if_neg (by omega), if_pos (by omega)]; done)
      | (rw [if_neg (by omega), if_neg (by omega), if_neg (by omega), if_neg (by omega), if_neg (by omega)]; done)
theorem m_add {X : List Int} {d : Nat} {st dr rd : Int} {a s b : C3} {j c : Nat} (hj : j < 2) (e39 : b 166 39 = (j : Int)) (e38 : b 166 38 = (c : Int)) (hc : c < 1200) (q v : Int) : Ev X d 176 0 [Vr 166, Vi q, Vi v] [] (SHv st dr rd, ovl a s b) (fun rr hh => rr = none ∧ hh = (SHv st dr rd, ovl a s (updC (updC (updC b 191 (1200 * j + c) q) 192 (1200 * j + c) v) 166 38 ((c : Int) + 1)))) := by
  refine Ev.steps (k := 5) (pc' := 11) (L' := [Vr 166, Vi q, Vi v]) (S' := [Vi (b 166 39), Vi 1200, Vr 191]) (h' := ((SHv st dr rd), (ovl a s b))) (fun _ => rfl) ?_
  rw [e39]
  refine Ev.steps (k := 1) (pc' := 12) (L' := [Vr 166, Vi q, Vi v]) (S' := [Vi (w32 (1200 * (j : Int))), Vr 191]) (h' := ((SHv st dr rd), (ovl a s b))) (fun _ => rfl) ?_
  rw [show (w32 (1200 * (j : Int))) = (1200 * (j : Int)) from w32_id (by unfold R32; omega)]
  refine Ev.steps (k := 2) (pc' := 16) (L' := [Vr 166, Vi q, Vi v]) (S' := [Vi (b 166 38), Vi (1200 * (j : Int)), Vr 191]) (h' := ((SHv st dr rd), (ovl a s b))) (fun _ => rfl) ?_
  rw [e38]
  refine Ev.steps (k := 1) (pc' := 17) (L' := [Vr 166, Vi q, Vi v]) (S' := [Vi (w32 ((1200 * (j : Int)) + (c : Int))), Vr 191]) (h' := ((SHv st dr rd), (ovl a s b))) (fun _ => rfl) ?_
  rw [show (w32 ((1200 * (j : Int)) + (c : Int))) = ((1200 * j + c : Nat) : Int) from (by unfold w32; omega)]
  refine Ev.steps (k := 1) (pc' := 18) (L' := [Vr 166, Vi q, Vi v]) (S' := [Vi q, Vi ((1200 * j + c : Nat) : Int), Vr 191]) (h' := ((SHv st dr rd), (ovl a s b))) (fun _ => rfl) ?_
  refine Ev.iast (c' := (ovl a s (updC b 191 ((1200 * j + c)) q))) rfl (by decide) rfl (by omega) (by omega) (ovl_wm (by decide)) ?_
  refine Ev.steps (k := 5) (pc' := 30) (L' := [Vr 166, Vi q, Vi v]) (S' := [Vi (b 166 39), Vi 1200, Vr 192]) (h' := ((SHv st dr rd), (ovl a s (updC b 191 ((1200 * j + c)) q)))) (fun _ => rfl) ?_
  rw [e39]
  refine Ev.steps (k := 1) (pc' := 31) (L' := [Vr 166, Vi q, Vi v]) (S' := [Vi (w32 (1200 * (j : Int))), Vr 192]) (h' := ((SHv st dr rd), (ovl a s (updC b 191 ((1200 * j + c)) q)))) (fun _ => rfl) ?_
  rw [show (w32 (1200 * (j : Int))) = (1200 * (j : Int)) from w32_id (by unfold R32; omega)]
  refine Ev.steps (k := 2) (pc' := 35) (L' := [Vr 166, Vi q, Vi v]) (S' := [Vi (b 166 38), Vi (1200 * (j : Int)), Vr 192]) (h' := ((SHv st dr rd), (ovl a s (updC b 191 ((1200 * j + c)) q)))) (fun _ => rfl) ?_
  rw [e38]
  refine Ev.steps (k := 1) (pc' := 36) (L' := [Vr 166, Vi q, Vi v]) (S' := [Vi (w32 ((1200 * (j : Int)) + (c : Int))), Vr 192]) (h' := ((SHv st dr rd), (ovl a s (updC b 191 ((1200 * j + c)) q)))) (fun _ => rfl) ?_
  rw [show (w32 ((1200 * (j : Int)) + (c : Int))) = ((1200 * j + c : Nat) : Int) from (by unfold w32; omega)]
  refine Ev.steps (k := 1) (pc' := 37) (L' := [Vr 166, Vi q, Vi v]) (S' := [Vi v, Vi ((1200 * j + c : Nat) : Int), Vr 192]) (h' := ((SHv st dr rd), (ovl a s (updC b 191 ((1200 * j + c)) q)))) (fun _ => rfl) ?_
  refine Ev.iast (c' := (ovl a s (updC (updC b 191 ((1200 * j + c)) q) 192 ((1200 * j + c)) v))) rfl (by decide) rfl (by omega) (by omega) (ovl_wm (by decide)) ?_
  refine Ev.steps (k := 3) (pc' := 43) (L' := [Vr 166, Vi q, Vi v]) (S' := [Vi (b 166 38), Vr 166]) (h' := ((SHv st dr rd), (ovl a s (updC (updC b 191 ((1200 * j + c)) q) 192 ((1200 * j + c)) v)))) (fun _ => rfl) ?_
  rw [e38]
  refine Ev.steps (k := 2) (pc' := 45) (L' := [Vr 166, Vi q, Vi v]) (S' := [Vi (w32 ((c : Int) + 1)), Vr 166]) (h' := ((SHv st dr rd), (ovl a s (updC (updC b 191 ((1200 * j + c)) q) 192 ((1200 * j + c)) v)))) (fun _ => rfl) ?_
  rw [show (w32 ((c : Int) + 1)) = ((c : Int) + 1) from w32_id (by unfold R32; omega)]
  refine Ev.putf (c' := (ovl a s (updC (updC (updC b 191 ((1200 * j + c)) q) 192 ((1200 * j + c)) v) 166 38 ((c : Int) + 1)))) rfl (by decide) rfl rfl rfl (ovl_wm (by decide)) ?_
  refine Ev.fin (k := 1) (r := none) (h' := ((SHv st dr rd), (ovl a s (updC (updC (updC b 191 ((1200 * j + c)) q) 192 ((1200 * j + c)) v) 166 38 ((c : Int) + 1))))) (fun _ => rfl) ?_
  exact ⟨rfl, rfl⟩
theorem m_holdsBack {X : List Int} {d : Nat} {st dr rd : Int} {a s b : C3} {om : Nat} (e48 : b 166 48 = (om : Int)) (ho : om < 500) (op : Int) : Ev X d 173 0 [Vr 166, Vi op] [] (SHv st dr rd, ovl a s b) (fun rr hh => rr = none ∧ hh = (SHv st dr rd, ovl a s (updC (updC b 198 om op) 166 48 ((om : Int) + 1)))) := by
  refine Ev.steps (k := 4) (pc' := 8) (L' := [Vr 166, Vi op]) (S' := [Vi (b 166 48), Vr 198]) (h' := ((SHv st dr rd), (ovl a s b))) (fun _ => rfl) ?_
  rw [e48]
  refine Ev.steps (k := 1) (pc' := 9) (L' := [Vr 166, Vi op]) (S' := [Vi op, Vi (om : Int), Vr 198]) (h' := ((SHv st dr rd), (ovl a s b))) (fun _ => rfl) ?_
  refine Ev.iast (c' := (ovl a s (updC b 198 om op))) rfl (by decide) rfl (by omega) (by omega) (ovl_wm (by decide)) ?_
  refine Ev.steps (k := 3) (pc' := 15) (L' := [Vr 166, Vi op]) (S' := [Vi (b 166 48), Vr 166]) (h' := ((SHv st dr rd), (ovl a s (updC b 198 om op)))) (fun _ => rfl) ?_
  rw [e48]
  refine Ev.steps (k := 2) (pc' := 17) (L' := [Vr 166, Vi op]) (S' := [Vi (w32 ((om : Int) + 1)), Vr 166]) (h' := ((SHv st dr rd), (ovl a s (updC b 198 om op)))) (fun _ => rfl) ?_
  rw [show (w32 ((om : Int) + 1)) = ((om : Int) + 1) from w32_id (by unfold R32; omega)]
  refine Ev.putf (c' := (ovl a s (updC (updC b 198 om op) 166 48 ((om : Int) + 1)))) rfl (by decide) rfl rfl rfl (ovl_wm (by decide)) ?_
  refine Ev.fin (k := 1) (r := none) (h' := ((SHv st dr rd), (ovl a s (updC (updC b 198 om op) 166 48 ((om : Int) + 1))))) (fun _ => rfl) ?_
  exact ⟨rfl, rfl⟩
theorem m_pushes {X : List Int} {d : Nat} {st dr rd : Int} {a s b : C3} {om dp : Nat} (e48 : b 166 48 = (om : Int)) (e45 : b 166 45 = (dp : Int)) (hd : dp < 20) (kd : Int) : Ev X d 170 0 [Vr 166, Vi kd] [] (SHv st dr rd, ovl a s b) (fun rr hh => rr = none ∧ hh = (SHv st dr rd, ovl a s (updC (updC (updC (updC (updC b 193 dp kd) 194 dp 0) 195 dp 1) 197 dp om) 166 45 ((dp : Int) + 1)))) := by
  refine Ev.steps (k := 4) (pc' := 8) (L' := [Vr 166, Vi kd]) (S' := [Vi (b 166 45), Vr 193]) (h' := ((SHv st dr rd), (ovl a s b))) (fun _ => rfl) ?_
  rw [e45]
  refine Ev.steps (k := 1) (pc' := 9) (L' := [Vr 166, Vi kd]) (S' := [Vi kd, Vi (dp : Int), Vr 193]) (h' := ((SHv st dr rd), (ovl a s b))) (fun _ => rfl) ?_
  refine Ev.iast (c' := (ovl a s (updC b 193 dp kd))) rfl (by decide) rfl (by omega) (by omega) (ovl_wm (by decide)) ?_
  refine Ev.steps (k := 4) (pc' := 18) (L' := [Vr 166, Vi kd]) (S' := [Vi (b 166 45), Vr 194]) (h' := ((SHv st dr rd), (ovl a s (updC b 193 dp kd)))) (fun _ => rfl) ?_
  rw [e45]
  refine Ev.steps (k := 1) (pc' := 19) (L' := [Vr 166, Vi kd]) (S' := [Vi 0, Vi (dp : Int), Vr 194]) (h' := ((SHv st dr rd), (ovl a s (updC b 193 dp kd)))) (fun _ => rfl) ?_
  refine Ev.iast (c' := (ovl a s (updC (updC b 193 dp kd) 194 dp 0))) rfl (by decide) rfl (by omega) (by omega) (ovl_wm (by decide)) ?_
  refine Ev.steps (k := 4) (pc' := 28) (L' := [Vr 166, Vi kd]) (S' := [Vi (b 166 45), Vr 195]) (h' := ((SHv st dr rd), (ovl a s (updC (updC b 193 dp kd) 194 dp 0)))) (fun _ => rfl) ?_
  rw [e45]
  refine Ev.steps (k := 1) (pc' := 29) (L' := [Vr 166, Vi kd]) (S' := [Vi 1, Vi (dp : Int), Vr 195]) (h' := ((SHv st dr rd), (ovl a s (updC (updC b 193 dp kd) 194 dp 0)))) (fun _ => rfl) ?_
  refine Ev.zast (c' := (ovl a s (updC (updC (updC b 193 dp kd) 194 dp 0) 195 dp 1))) rfl (by decide) rfl (by omega) (by omega) (by omega) (ovl_wm (by decide)) ?_
  refine Ev.steps (k := 4) (pc' := 38) (L' := [Vr 166, Vi kd]) (S' := [Vi (b 166 45), Vr 197]) (h' := ((SHv st dr rd), (ovl a s (updC (updC (updC b 193 dp kd) 194 dp 0) 195 dp 1)))) (fun _ => rfl) ?_
  rw [e45]
  refine Ev.steps (k := 2) (pc' := 42) (L' := [Vr 166, Vi kd]) (S' := [Vi (b 166 48), Vi (dp : Int), Vr 197]) (h' := ((SHv st dr rd), (ovl a s (updC (updC (updC b 193 dp kd) 194 dp 0) 195 dp 1)))) (fun _ => rfl) ?_
  rw [e48]
  refine Ev.iast (c' := (ovl a s (updC (updC (updC (updC b 193 dp kd) 194 dp 0) 195 dp 1) 197 dp (om : Int)))) rfl (by decide) rfl (by omega) (by omega) (ovl_wm (by decide)) ?_
  refine Ev.steps (k := 3) (pc' := 48) (L' := [Vr 166, Vi kd]) (S' := [Vi (b 166 45), Vr 166]) (h' := ((SHv st dr rd), (ovl a s (updC (updC (updC (updC b 193 dp kd) 194 dp 0) 195 dp 1) 197 dp (om : Int))))) (fun _ => rfl) ?_
  rw [e45]
  refine Ev.steps (k := 2) (pc' := 50) (L' := [Vr 166, Vi kd]) (S' := [Vi (w32 ((dp : Int) + 1)), Vr 166]) (h' := ((SHv st dr rd), (ovl a s (updC (updC (updC (updC b 193 dp kd) 194 dp 0) 195 dp 1) 197 dp (om : Int))))) (fun _ => rfl) ?_
  rw [show (w32 ((dp : Int) + 1)) = ((dp : Int) + 1) from w32_id (by unfold R32; omega)]
  refine Ev.putf (c' := (ovl a s (updC (updC (updC (updC (updC b 193 dp kd) 194 dp 0) 195 dp 1) 197 dp (om : Int)) 166 45 ((dp : Int) + 1)))) rfl (by decide) rfl rfl rfl (ovl_wm (by decide)) ?_
  refine Ev.fin (k := 1) (r := none) (h' := ((SHv st dr rd), (ovl a s (updC (updC (updC (updC (updC b 193 dp kd) 194 dp 0) 195 dp 1) 197 dp (om : Int)) 166 45 ((dp : Int) + 1))))) (fun _ => rfl) ?_
  exact ⟨rfl, rfl⟩
theorem m_joins {X : List Int} {d : Nat} {st dr rd : Int} {a s b : C3} {j dp om bs : Nat} (hj : j < 2) (hdp : 1 ≤ dp ∧ dp ≤ 20) (least : Int) (hbo : bs ≤ om) {b0 : C3} (pd : List Nat) (c : Nat) (e39 : b 166 39 = (j : Int)) (e38 : b 166 38 = (c : Int)) (e45 : b 166 45 = (dp : Int)) (e48 : b 166 48 = ((om + pd.length : Nat) : Int)) (ebs : b 197 (dp - 1) = (bs : Int)) (hst : stkM (b 198) om pd) (hrk : ∀ op, op ∈ pd → least ≤ rkM ((op : Nat) : Int)) (hlo : om = bs ∨ rkM (b 198 (om - 1)) < least) (hc : c + pd.length ≤ 1200) (ho : om + pd.length ≤ 500) : Ev X (d + 1) 179 0 [Vr 166, Vi least] [] (SHv st dr rd, ovl a s b) (fun rr hh => rr = none ∧ ∃ b' : C3, hh = (SHv st dr rd, ovl a s b') ∧ codM (b' 191) (b' 192) (1200 * j + c) (opL pd) ∧ b' 166 38 = ((c + pd.length : Nat) : Int) ∧ b' 166 48 = (om : Int) ∧ ∀ o i, ¬ (o = 166 ∧ (i = 38 ∨ i = 48)) → ¬ ((o = 191 ∨ o = 192) ∧ 1200 * j + c ≤ i ∧ i < 1200 * j + c + pd.length) → b' o i = b o i) := by
  induction hkk : (pd.length) using Nat.strongRecOn generalizing pd c b with
  | ind kk ih =>
    have hl0 : ∃ n, n = pd.length := ⟨_, rfl⟩
    obtain ⟨n, hn⟩ := hl0
    rw [← hn] at e48 hc ho
    refine Ev.steps (k := 2) (pc' := 4) (L' := [Vr 166, Vi least]) (S' := [Vi (b 166 48)]) (h' := ((SHv st dr rd), (ovl a s b))) (fun _ => rfl) ?_
    rw [e48]
    refine Ev.steps (k := 4) (pc' := 12) (L' := [Vr 166, Vi least]) (S' := [Vi (b 166 45), Vr 197, Vi ((om + n : Nat) : Int)]) (h' := ((SHv st dr rd), (ovl a s b))) (fun _ => rfl) ?_
    rw [e45]
    refine Ev.steps (k := 2) (pc' := 14) (L' := [Vr 166, Vi least]) (S' := [Vi (w32 ((dp : Int) - 1)), Vr 197, Vi ((om + n : Nat) : Int)]) (h' := ((SHv st dr rd), (ovl a s b))) (fun _ => rfl) ?_
    rw [show (w32 ((dp : Int) - 1)) = ((dp - 1 : Nat) : Int) from (by unfold w32; omega)]
    refine Ev.iald (v := (bs : Int)) rfl (by decide) rfl (by omega) (by omega) (ebs) ?_
    refine Ev.ite (P := ((om + n : Nat) : Int) ≤ (bs : Int)) (k := 1) (a := 63) (b := 18) (L' := [Vr 166, Vi least]) (S' := []) (h' := ((SHv st dr rd), (ovl a s b))) (fun _ => rfl) (fun b15 => ?_) (fun b15 => ?_)
    · refine Ev.fin (k := 1) (r := none) (h' := ((SHv st dr rd), (ovl a s b))) (fun _ => rfl) ?_
      match pd, hn, hst, hrk, hkk with
      | [], hn, _, _, hkk =>
        have hk1 : kk = 0 := hkk.symm
        subst hk1
        exact ⟨rfl, b, rfl, trivial, e38, by rw [e48]; omega, fun _ _ _ _ => rfl⟩
      | op :: t, hn, hst, hrk, hkk =>
        exfalso
        have hk1 : kk = t.length + 1 := hkk.symm
        have hn : n = t.length + 1 := by first | exact hn | omega
        first
          | omega
          | (have hix : om + n - 1 = om + t.length := by omega
             have h1 := hrk op List.mem_cons_self
             rw [hix, hst.1] at b33
             omega)
    · refine Ev.steps (k := 4) (pc' := 26) (L' := [Vr 166, Vi least]) (S' := [Vi (b 166 48), Vr 198]) (h' := ((SHv st dr rd), (ovl a s b))) (fun _ => rfl) ?_
      rw [e48]
      refine Ev.steps (k := 2) (pc' := 28) (L' := [Vr 166, Vi least]) (S' := [Vi (w32 (((om + n : Nat) : Int) - 1)), Vr 198]) (h' := ((SHv st dr rd), (ovl a s b))) (fun _ => rfl) ?_
      rw [show (w32 (((om + n : Nat) : Int) - 1)) = ((om + n - 1 : Nat) : Int) from (by unfold w32; omega)]
      refine Ev.iald (v := (b 198 ((om + n - 1)))) rfl (by decide) rfl (by omega) (by omega) (rfl) ?_
      refine Ev.call (k := 0) (pc1 := 29) (L1 := [Vr 166, Vi least]) (S1 := [Vi (b 198 ((om + n - 1)))]) (h1 := ((SHv st dr rd), (ovl a s b))) (m' := 180) (as := [Vi (b 198 ((om + n - 1)))]) (S' := []) (L0 := [Vi (b 198 ((om + n - 1)))]) (fun _ => rfl) rfl rfl rfl rfl rfl rfl (m_rank (b 198 ((om + n - 1)))) (fun r h' hq => ?_)
      obtain ⟨rfl, rfl⟩ := hq
      show Ev X _ _ 32 [Vr 166, Vi least] [Vi (rkM (b 198 ((om + n - 1))))] ((SHv st dr rd), (ovl a s b)) _
      refine Ev.ite (P := (rkM (b 198 ((om + n - 1)))) < least) (k := 2) (a := 63) (b := 36) (L' := [Vr 166, Vi least]) (S' := []) (h' := ((SHv st dr rd), (ovl a s b))) (fun _ => rfl) (fun b33 => ?_) (fun b33 => ?_)
      · refine Ev.fin (k := 1) (r := none) (h' := ((SHv st dr rd), (ovl a s b))) (fun _ => rfl) ?_
        match pd, hn, hst, hrk, hkk with
        | [], hn, _, _, hkk =>
          have hk1 : kk = 0 := hkk.symm
          subst hk1
          exact ⟨rfl, b, rfl, trivial, e38, by rw [e48]; omega, fun _ _ _ _ => rfl⟩
        | op :: t, hn, hst, hrk, hkk =>
          exfalso
          have hk1 : kk = t.length + 1 := hkk.symm
          have hn : n = t.length + 1 := by first | exact hn | omega
          first
            | omega
            | (have hix : om + n - 1 = om + t.length := by omega
               have h1 := hrk op List.mem_cons_self
               rw [hix, hst.1] at b33
               omega)
      · have hn1 : 1 ≤ n := by
          rcases Nat.eq_zero_or_pos n with h | h
          · exfalso
            rcases hlo with h2 | h2
            · omega
            · rw [h, Nat.add_zero] at b33
              exact b33 h2
          · exact h
        refine Ev.steps (k := 3) (pc' := 41) (L' := [Vr 166, Vi least]) (S' := [Vi (b 166 48), Vr 166]) (h' := ((SHv st dr rd), (ovl a s b))) (fun _ => rfl) ?_
        rw [e48]
        refine Ev.steps (k := 2) (pc' := 43) (L' := [Vr 166, Vi least]) (S' := [Vi (w32 (((om + n : Nat) : Int) - 1)), Vr 166]) (h' := ((SHv st dr rd), (ovl a s b))) (fun _ => rfl) ?_
        rw [show (w32 (((om + n : Nat) : Int) - 1)) = ((om + n - 1 : Nat) : Int) from (by unfold w32; omega)]
        refine Ev.putf (c' := (ovl a s (updC b 166 48 ((om + n - 1 : Nat) : Int)))) rfl (by decide) rfl rfl rfl (ovl_wm (by decide)) ?_
        refine Ev.steps (k := 5) (pc' := 55) (L' := [Vr 166, Vi least]) (S' := [Vi ((om + n - 1 : Nat) : Int), Vr 198, Vr 166]) (h' := ((SHv st dr rd), (ovl a s (updC b 166 48 ((om + n - 1 : Nat) : Int))))) (fun _ => rfl) ?_
        refine Ev.iald (v := (b 198 ((om + n - 1)))) rfl (by decide) rfl (by omega) (by omega) (rfl) ?_
        refine Ev.call (k := 1) (pc1 := 57) (L1 := [Vr 166, Vi least]) (S1 := [Vi 0, Vi (b 198 ((om + n - 1))), Vr 166]) (h1 := ((SHv st dr rd), (ovl a s (updC b 166 48 ((om + n - 1 : Nat) : Int))))) (m' := 176) (as := [Vr 166, Vi (b 198 ((om + n - 1))), Vi 0]) (S' := []) (L0 := [Vr 166, Vi (b 198 ((om + n - 1))), Vi 0]) (fun _ => rfl) rfl rfl rfl rfl rfl rfl (m_add (b := (updC b 166 48 ((om + n - 1 : Nat) : Int))) hj e39 e38 (by omega) (b 198 ((om + n - 1))) 0) (fun r h' hq => ?_)
        obtain ⟨rfl, rfl⟩ := hq
        show Ev X _ _ 60 [Vr 166, Vi least] [] ((SHv st dr rd), (ovl a s (updC (updC (updC (updC b 166 48 ((om + n - 1 : Nat) : Int)) 191 (1200 * j + c) (b 198 ((om + n - 1)))) 192 (1200 * j + c) 0) 166 38 ((c : Int) + 1)))) _
        refine Ev.steps (k := 1) (pc' := 0) (L' := [Vr 166, Vi least]) (S' := []) (h' := ((SHv st dr rd), (ovl a s (updC (updC (updC (updC b 166 48 ((om + n - 1 : Nat) : Int)) 191 (1200 * j + c) (b 198 ((om + n - 1)))) 192 (1200 * j + c) 0) 166 38 ((c : Int) + 1))))) (fun _ => rfl) ?_
        match pd, hn, hst, hrk, hkk with
        | [], hn, _, _, hkk =>
          exfalso
          have hk0 : kk = 0 := hkk.symm
          omega
        | op :: t, hn, hst, hrk, hkk =>
          have hk1 : kk = t.length + 1 := hkk.symm
          subst hk1
          have hn : n = t.length + 1 := hn
          have hix : om + n - 1 = om + t.length := by omega
          have hop : b 198 (om + n - 1) = (op : Int) := by rw [hix]; exact hst.1
          refine (ih t.length (by omega) (b := (updC (updC (updC (updC b 166 48 ((om + n - 1 : Nat) : Int)) 191 (1200 * j + c) (b 198 ((om + n - 1)))) 192 (1200 * j + c) 0) 166 38 ((c : Int) + 1))) t (c + 1) e39 rfl e45 (by show ((om + n - 1 : Nat) : Int) = _; omega) ebs hst.2 (fun x hx => hrk x (List.mem_cons_of_mem _ hx)) hlo (by omega) (by omega) rfl).mono ?_
          rintro r h' ⟨g1, b', g2, g3, g4, g5, g6⟩
          refine ⟨g1, b', g2, ⟨?_, ?_, by rwa [show 1200 * j + (c + 1) = 1200 * j + c + 1 by omega] at g3⟩, by rw [g4]; show ((c + 1 + t.length : Nat) : Int) = ((c + (t.length + 1) : Nat) : Int); omega, g5, fun o i h1 h2 => ?_⟩
          · rw [g6 191 _ (by omega) (by omega)]
            show updC (updC (updC _ 191 (1200 * j + c) _) 192 (1200 * j + c) 0) 166 38 _ 191 (1200 * j + c) = (op : Int)
            rw [updC_nt (by omega), updC_nt (by omega), updC_sm]
            exact hop
          · rw [g6 192 _ (by omega) (by omega)]
            show updC (updC (updC _ 191 (1200 * j + c) _) 192 (1200 * j + c) 0) 166 38 _ 192 (1200 * j + c) = ((0 : Nat) : Int)
            rw [updC_nt (by omega), updC_sm]
            rfl
          · have h2 : ¬ ((o = 191 ∨ o = 192) ∧ 1200 * j + c ≤ i ∧ i < 1200 * j + c + (t.length + 1)) := h2
            rw [g6 o i h1 (by omega), updC_nt (by omega), updC_nt (by omega), updC_nt (by omega), updC_nt (by omega)]
