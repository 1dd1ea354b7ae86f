/-! THE CLASS: traces, who saw, breakfasts, an evening is let go -/
theorem tr_dig {N sh b mk : Nat} {s k : Int} (hs : s = (sh : Int)) (hk : k = (mk : Int)) (hN : N < 2147483648) (hsh : sh < 32) (hb : b ≤ 8) (hm : mk = 2 ^ b - 1) : i_and (i_ushr (N : Int) s) k = ((N / 2 ^ sh % 2 ^ b : Nat) : Int) := by
  have h1 := Nat.div_le_self N (2 ^ sh)
  have h2 : 2 ^ b ≤ 2 ^ 8 := Nat.pow_le_pow_right (by omega) hb
  rw [hs, hk, i_ushr_nat hsh hN, i_and_nat (by omega) (by omega), hm, Nat.and_two_pow_sub_one_eq_mod]
theorem c_tracePart_0 {X : List Int} {d : Nat} {st dr rd : Int} {a s b : C3} (k n m kd w p r zz : Nat) (h1 : m < 256) (h2 : kd < 4) (h3 : w < 8) (h4 : p < 8) (h5 : r < 8) (h6 : zz < 256) (hk : k < n) (hn : n ≤ 1440) (e5 : a 133 5 = (n : Int)) (hv : a 136 k = ((m + kd * 256 + w * 1024 + p * 8192 + r * 65536 + zz * 524288 : Nat) : Int)) : Ev X d 120 0 [Vr 133, Vi (k : Int), Vi 0, Vx] [] (SHv st dr rd, ovl a s b) (fun rr hh => rr = some (Vi (m : Int)) ∧ hh = (SHv st dr rd, ovl a s b)) := by
  refine Ev.ite (P := (k : Int) < 0) (k := 2) (a := 21) (b := 4) (L' := [Vr 133, Vi (k : Int), Vi 0, Vx]) (S' := []) (h' := ((SHv st dr rd), (ovl a s b))) (fun _ => rfl) (fun b1 => ?_) (fun b1 => ?_)
  · exfalso; omega
  · refine Ev.steps (k := 3) (pc' := 9) (L' := [Vr 133, Vi (k : Int), Vi 0, Vx]) (S' := [Vi (a 133 5), Vi (k : Int)]) (h' := ((SHv st dr rd), (ovl a s b))) (fun _ => rfl) ?_
    rw [e5]
    refine Ev.ite (P := (n : Int) ≤ (k : Int)) (k := 1) (a := 21) (b := 12) (L' := [Vr 133, Vi (k : Int), Vi 0, Vx]) (S' := []) (h' := ((SHv st dr rd), (ovl a s b))) (fun _ => rfl) (fun b9 => ?_) (fun b9 => ?_)
    · exfalso; omega
    · refine Ev.steps (k := 8) (pc' := 28) (L' := [Vr 133, Vi (k : Int), Vi 0, Vx]) (S' := [Vi (k : Int), Vr 136]) (h' := ((SHv st dr rd), (ovl a s b))) (fun _ => rfl) ?_
      refine Ev.iald (v := ((m + kd * 256 + w * 1024 + p * 8192 + r * 65536 + zz * 524288 : Nat) : Int)) rfl (by decide) rfl (by omega) (by omega) (hv) ?_
      refine Ev.steps (k := 2) (pc' := 33) (L' := [Vr 133, Vi (k : Int), Vi 0, Vx]) (S' := [Vi 0, Vr (-4), Vi ((m + kd * 256 + w * 1024 + p * 8192 + r * 65536 + zz * 524288 : Nat) : Int)]) (h' := ((SHv st dr rd), (ovl a s b))) (fun _ => rfl) ?_
      refine Ev.rald (v := 0) rfl (by decide) rfl (by decide) rfl ?_
      refine Ev.steps (k := 3) (pc' := 39) (L' := [Vr 133, Vi (k : Int), Vi 0, Vx]) (S' := [Vi 0, Vr (-5), Vi (i_ushr ((m + kd * 256 + w * 1024 + p * 8192 + r * 65536 + zz * 524288 : Nat) : Int) 0)]) (h' := ((SHv st dr rd), (ovl a s b))) (fun _ => rfl) ?_
      refine Ev.rald (v := 255) rfl (by decide) rfl (by decide) rfl ?_
      refine Ev.steps (k := 1) (pc' := 41) (L' := [Vr 133, Vi (k : Int), Vi 0, Vx]) (S' := [Vi (i_and (i_ushr ((m + kd * 256 + w * 1024 + p * 8192 + r * 65536 + zz * 524288 : Nat) : Int) 0) 255)]) (h' := ((SHv st dr rd), (ovl a s b))) (fun _ => rfl) ?_
      rw [show (i_and (i_ushr ((m + kd * 256 + w * 1024 + p * 8192 + r * 65536 + zz * 524288 : Nat) : Int) 0) 255) = (m : Int) from ((tr_dig (sh := 0) (b := 8) (mk := 255) rfl rfl (by omega) (by omega) (by omega) rfl).trans (by congr 1; omega))]
      refine Ev.fin (k := 6) (r := (some (Vi (m : Int)))) (h' := ((SHv st dr rd), (ovl a s b))) (fun _ => rfl) ?_
      exact ⟨rfl, rfl⟩
theorem c_tracePart_1 {X : List Int} {d : Nat} {st dr rd : Int} {a s b : C3} (k n m kd w p r zz : Nat) (h1 : m < 256) (h2 : kd < 4) (h3 : w < 8) (h4 : p < 8) (h5 : r < 8) (h6 : zz < 256) (hk : k < n) (hn : n ≤ 1440) (e5 : a 133 5 = (n : Int)) (hv : a 136 k = ((m + kd * 256 + w * 1024 + p * 8192 + r * 65536 + zz * 524288 : Nat) : Int)) : Ev X d 120 0 [Vr 133, Vi (k : Int), Vi 1, Vx] [] (SHv st dr rd, ovl a s b) (fun rr hh => rr = some (Vi (kd : Int)) ∧ hh = (SHv st dr rd, ovl a s b)) := by
  refine Ev.ite (P := (k : Int) < 0) (k := 2) (a := 21) (b := 4) (L' := [Vr 133, Vi (k : Int), Vi 1, Vx]) (S' := []) (h' := ((SHv st dr rd), (ovl a s b))) (fun _ => rfl) (fun b1 => ?_) (fun b1 => ?_)
  · exfalso; omega
  · refine Ev.steps (k := 3) (pc' := 9) (L' := [Vr 133, Vi (k : Int), Vi 1, Vx]) (S' := [Vi (a 133 5), Vi (k : Int)]) (h' := ((SHv st dr rd), (ovl a s b))) (fun _ => rfl) ?_
    rw [e5]
    refine Ev.ite (P := (n : Int) ≤ (k : Int)) (k := 1) (a := 21) (b := 12) (L' := [Vr 133, Vi (k : Int), Vi 1, Vx]) (S' := []) (h' := ((SHv st dr rd), (ovl a s b))) (fun _ => rfl) (fun b9 => ?_) (fun b9 => ?_)
    · exfalso; omega
    · refine Ev.steps (k := 8) (pc' := 28) (L' := [Vr 133, Vi (k : Int), Vi 1, Vx]) (S' := [Vi (k : Int), Vr 136]) (h' := ((SHv st dr rd), (ovl a s b))) (fun _ => rfl) ?_
      refine Ev.iald (v := ((m + kd * 256 + w * 1024 + p * 8192 + r * 65536 + zz * 524288 : Nat) : Int)) rfl (by decide) rfl (by omega) (by omega) (hv) ?_
      refine Ev.steps (k := 2) (pc' := 33) (L' := [Vr 133, Vi (k : Int), Vi 1, Vx]) (S' := [Vi 1, Vr (-4), Vi ((m + kd * 256 + w * 1024 + p * 8192 + r * 65536 + zz * 524288 : Nat) : Int)]) (h' := ((SHv st dr rd), (ovl a s b))) (fun _ => rfl) ?_
      refine Ev.rald (v := 8) rfl (by decide) rfl (by decide) rfl ?_
      refine Ev.steps (k := 3) (pc' := 39) (L' := [Vr 133, Vi (k : Int), Vi 1, Vx]) (S' := [Vi 1, Vr (-5), Vi (i_ushr ((m + kd * 256 + w * 1024 + p * 8192 + r * 65536 + zz * 524288 : Nat) : Int) 8)]) (h' := ((SHv st dr rd), (ovl a s b))) (fun _ => rfl) ?_
      refine Ev.rald (v := 3) rfl (by decide) rfl (by decide) rfl ?_
      refine Ev.steps (k := 1) (pc' := 41) (L' := [Vr 133, Vi (k : Int), Vi 1, Vx]) (S' := [Vi (i_and (i_ushr ((m + kd * 256 + w * 1024 + p * 8192 + r * 65536 + zz * 524288 : Nat) : Int) 8) 3)]) (h' := ((SHv st dr rd), (ovl a s b))) (fun _ => rfl) ?_
      rw [show (i_and (i_ushr ((m + kd * 256 + w * 1024 + p * 8192 + r * 65536 + zz * 524288 : Nat) : Int) 8) 3) = (kd : Int) from ((tr_dig (sh := 8) (b := 2) (mk := 3) rfl rfl (by omega) (by omega) (by omega) rfl).trans (by congr 1; omega))]
      refine Ev.fin (k := 6) (r := (some (Vi (kd : Int)))) (h' := ((SHv st dr rd), (ovl a s b))) (fun _ => rfl) ?_
      exact ⟨rfl, rfl⟩
theorem c_tracePart_2 {X : List Int} {d : Nat} {st dr rd : Int} {a s b : C3} (k n m kd w p r zz : Nat) (h1 : m < 256) (h2 : kd < 4) (h3 : w < 8) (h4 : p < 8) (h5 : r < 8) (h6 : zz < 256) (hk : k < n) (hn : n ≤ 1440) (e5 : a 133 5 = (n : Int)) (hv : a 136 k = ((m + kd * 256 + w * 1024 + p * 8192 + r * 65536 + zz * 524288 : Nat) : Int)) : Ev X d 120 0 [Vr 133, Vi (k : Int), Vi 2, Vx] [] (SHv st dr rd, ovl a s b) (fun rr hh => rr = some (Vi (w : Int)) ∧ hh = (SHv st dr rd, ovl a s b)) := by
  refine Ev.ite (P := (k : Int) < 0) (k := 2) (a := 21) (b := 4) (L' := [Vr 133, Vi (k : Int), Vi 2, Vx]) (S' := []) (h' := ((SHv st dr rd), (ovl a s b))) (fun _ => rfl) (fun b1 => ?_) (fun b1 => ?_)
  · exfalso; omega
  · refine Ev.steps (k := 3) (pc' := 9) (L' := [Vr 133, Vi (k : Int), Vi 2, Vx]) (S' := [Vi (a 133 5), Vi (k : Int)]) (h' := ((SHv st dr rd), (ovl a s b))) (fun _ => rfl) ?_
    rw [e5]
    refine Ev.ite (P := (n : Int) ≤ (k : Int)) (k := 1) (a := 21) (b := 12) (L' := [Vr 133, Vi (k : Int), Vi 2, Vx]) (S' := []) (h' := ((SHv st dr rd), (ovl a s b))) (fun _ => rfl) (fun b9 => ?_) (fun b9 => ?_)
    · exfalso; omega
    · refine Ev.steps (k := 8) (pc' := 28) (L' := [Vr 133, Vi (k : Int), Vi 2, Vx]) (S' := [Vi (k : Int), Vr 136]) (h' := ((SHv st dr rd), (ovl a s b))) (fun _ => rfl) ?_
      refine Ev.iald (v := ((m + kd * 256 + w * 1024 + p * 8192 + r * 65536 + zz * 524288 : Nat) : Int)) rfl (by decide) rfl (by omega) (by omega) (hv) ?_
      refine Ev.steps (k := 2) (pc' := 33) (L' := [Vr 133, Vi (k : Int), Vi 2, Vx]) (S' := [Vi 2, Vr (-4), Vi ((m + kd * 256 + w * 1024 + p * 8192 + r * 65536 + zz * 524288 : Nat) : Int)]) (h' := ((SHv st dr rd), (ovl a s b))) (fun _ => rfl) ?_
      refine Ev.rald (v := 10) rfl (by decide) rfl (by decide) rfl ?_
      refine Ev.steps (k := 3) (pc' := 39) (L' := [Vr 133, Vi (k : Int), Vi 2, Vx]) (S' := [Vi 2, Vr (-5), Vi (i_ushr ((m + kd * 256 + w * 1024 + p * 8192 + r * 65536 + zz * 524288 : Nat) : Int) 10)]) (h' := ((SHv st dr rd), (ovl a s b))) (fun _ => rfl) ?_
      refine Ev.rald (v := 7) rfl (by decide) rfl (by decide) rfl ?_
      refine Ev.steps (k := 1) (pc' := 41) (L' := [Vr 133, Vi (k : Int), Vi 2, Vx]) (S' := [Vi (i_and (i_ushr ((m + kd * 256 + w * 1024 + p * 8192 + r * 65536 + zz * 524288 : Nat) : Int) 10) 7)]) (h' := ((SHv st dr rd), (ovl a s b))) (fun _ => rfl) ?_
      rw [show (i_and (i_ushr ((m + kd * 256 + w * 1024 + p * 8192 + r * 65536 + zz * 524288 : Nat) : Int) 10) 7) = (w : Int) from ((tr_dig (sh := 10) (b := 3) (mk := 7) rfl rfl (by omega) (by omega) (by omega) rfl).trans (by congr 1; omega))]
      refine Ev.fin (k := 6) (r := (some (Vi (w : Int)))) (h' := ((SHv st dr rd), (ovl a s b))) (fun _ => rfl) ?_
      exact ⟨rfl, rfl⟩
theorem c_tracePart_3 {X : List Int} {d : Nat} {st dr rd : Int} {a s b : C3} (k n m kd w p r zz : Nat) (h1 : m < 256) (h2 : kd < 4) (h3 : w < 8) (h4 : p < 8) (h5 : r < 8) (h6 : zz < 256) (hk : k < n) (hn : n ≤ 1440) (e5 : a 133 5 = (n : Int)) (hv : a 136 k = ((m + kd * 256 + w * 1024 + p * 8192 + r * 65536 + zz * 524288 : Nat) : Int)) : Ev X d 120 0 [Vr 133, Vi (k : Int), Vi 3, Vx] [] (SHv st dr rd, ovl a s b) (fun rr hh => rr = some (Vi (p : Int)) ∧ hh = (SHv st dr rd, ovl a s b)) := by
  refine Ev.ite (P := (k : Int) < 0) (k := 2) (a := 21) (b := 4) (L' := [Vr 133, Vi (k : Int), Vi 3, Vx]) (S' := []) (h' := ((SHv st dr rd), (ovl a s b))) (fun _ => rfl) (fun b1 => ?_) (fun b1 => ?_)
  · exfalso; omega
  · refine Ev.steps (k := 3) (pc' := 9) (L' := [Vr 133, Vi (k : Int), Vi 3, Vx]) (S' := [Vi (a 133 5), Vi (k : Int)]) (h' := ((SHv st dr rd), (ovl a s b))) (fun _ => rfl) ?_
    rw [e5]
    refine Ev.ite (P := (n : Int) ≤ (k : Int)) (k := 1) (a := 21) (b := 12) (L' := [Vr 133, Vi (k : Int), Vi 3, Vx]) (S' := []) (h' := ((SHv st dr rd), (ovl a s b))) (fun _ => rfl) (fun b9 => ?_) (fun b9 => ?_)
    · exfalso; omega
    · refine Ev.steps (k := 8) (pc' := 28) (L' := [Vr 133, Vi (k : Int), Vi 3, Vx]) (S' := [Vi (k : Int), Vr 136]) (h' := ((SHv st dr rd), (ovl a s b))) (fun _ => rfl) ?_
      refine Ev.iald (v := ((m + kd * 256 + w * 1024 + p * 8192 + r * 65536 + zz * 524288 : Nat) : Int)) rfl (by decide) rfl (by omega) (by omega) (hv) ?_
      refine Ev.steps (k := 2) (pc' := 33) (L' := [Vr 133, Vi (k : Int), Vi 3, Vx]) (S' := [Vi 3, Vr (-4), Vi ((m + kd * 256 + w * 1024 + p * 8192 + r * 65536 + zz * 524288 : Nat) : Int)]) (h' := ((SHv st dr rd), (ovl a s b))) (fun _ => rfl) ?_
      refine Ev.rald (v := 13) rfl (by decide) rfl (by decide) rfl ?_
      refine Ev.steps (k := 3) (pc' := 39) (L' := [Vr 133, Vi (k : Int), Vi 3, Vx]) (S' := [Vi 3, Vr (-5), Vi (i_ushr ((m + kd * 256 + w * 1024 + p * 8192 + r * 65536 + zz * 524288 : Nat) : Int) 13)]) (h' := ((SHv st dr rd), (ovl a s b))) (fun _ => rfl) ?_
      refine Ev.rald (v := 7) rfl (by decide) rfl (by decide) rfl ?_
      refine Ev.steps (k := 1) (pc' := 41) (L' := [Vr 133, Vi (k : Int), Vi 3, Vx]) (S' := [Vi (i_and (i_ushr ((m + kd * 256 + w * 1024 + p * 8192 + r * 65536 + zz * 524288 : Nat) : Int) 13) 7)]) (h' := ((SHv st dr rd), (ovl a s b))) (fun _ => rfl) ?_
      rw [show (i_and (i_ushr ((m + kd * 256 + w * 1024 + p * 8192 + r * 65536 + zz * 524288 : Nat) : Int) 13) 7) = (p : Int) from ((tr_dig (sh := 13) (b := 3) (mk := 7) rfl rfl (by omega) (by omega) (by omega) rfl).trans (by congr 1; omega))]
      refine Ev.fin (k := 6) (r := (some (Vi (p : Int)))) (h' := ((SHv st dr rd), (ovl a s b))) (fun _ => rfl) ?_
      exact ⟨rfl, rfl⟩
theorem c_tracePart_4 {X : List Int} {d : Nat} {st dr rd : Int} {a s b : C3} (k n m kd w p r zz : Nat) (h1 : m < 256) (h2 : kd < 4) (h3 : w < 8) (h4 : p < 8) (h5 : r < 8) (h6 : zz < 256) (hk : k < n) (hn : n ≤ 1440) (e5 : a 133 5 = (n : Int)) (hv : a 136 k = ((m + kd * 256 + w * 1024 + p * 8192 + r * 65536 + zz * 524288 : Nat) : Int)) : Ev X d 120 0 [Vr 133, Vi (k : Int), Vi 4, Vx] [] (SHv st dr rd, ovl a s b) (fun rr hh => rr = some (Vi (r : Int)) ∧ hh = (SHv st dr rd, ovl a s b)) := by
  refine Ev.ite (P := (k : Int) < 0) (k := 2) (a := 21) (b := 4) (L' := [Vr 133, Vi (k : Int), Vi 4, Vx]) (S' := []) (h' := ((SHv st dr rd), (ovl a s b))) (fun _ => rfl) (fun b1 => ?_) (fun b1 => ?_)
  · exfalso; omega
  · refine Ev.steps (k := 3) (pc' := 9) (L' := [Vr 133, Vi (k : Int), Vi 4, Vx]) (S' := [Vi (a 133 5), Vi (k : Int)]) (h' := ((SHv st dr rd), (ovl a s b))) (fun _ => rfl) ?_
    rw [e5]
    refine Ev.ite (P := (n : Int) ≤ (k : Int)) (k := 1) (a := 21) (b := 12) (L' := [Vr 133, Vi (k : Int), Vi 4, Vx]) (S' := []) (h' := ((SHv st dr rd), (ovl a s b))) (fun _ => rfl) (fun b9 => ?_) (fun b9 => ?_)
    · exfalso; omega
    · refine Ev.steps (k := 8) (pc' := 28) (L' := [Vr 133, Vi (k : Int), Vi 4, Vx]) (S' := [Vi (k : Int), Vr 136]) (h' := ((SHv st dr rd), (ovl a s b))) (fun _ => rfl) ?_
      refine Ev.iald (v := ((m + kd * 256 + w * 1024 + p * 8192 + r * 65536 + zz * 524288 : Nat) : Int)) rfl (by decide) rfl (by omega) (by omega) (hv) ?_
      refine Ev.steps (k := 2) (pc' := 33) (L' := [Vr 133, Vi (k : Int), Vi 4, Vx]) (S' := [Vi 4, Vr (-4), Vi ((m + kd * 256 + w * 1024 + p * 8192 + r * 65536 + zz * 524288 : Nat) : Int)]) (h' := ((SHv st dr rd), (ovl a s b))) (fun _ => rfl) ?_
      refine Ev.rald (v := 16) rfl (by decide) rfl (by decide) rfl ?_
      refine Ev.steps (k := 3) (pc' := 39) (L' := [Vr 133, Vi (k : Int), Vi 4, Vx]) (S' := [Vi 4, Vr (-5), Vi (i_ushr ((m + kd * 256 + w * 1024 + p * 8192 + r * 65536 + zz * 524288 : Nat) : Int) 16)]) (h' := ((SHv st dr rd), (ovl a s b))) (fun _ => rfl) ?_
      refine Ev.rald (v := 7) rfl (by decide) rfl (by decide) rfl ?_
      refine Ev.steps (k := 1) (pc' := 41) (L' := [Vr 133, Vi (k : Int), Vi 4, Vx]) (S' := [Vi (i_and (i_ushr ((m + kd * 256 + w * 1024 + p * 8192 + r * 65536 + zz * 524288 : Nat) : Int) 16) 7)]) (h' := ((SHv st dr rd), (ovl a s b))) (fun _ => rfl) ?_
      rw [show (i_and (i_ushr ((m + kd * 256 + w * 1024 + p * 8192 + r * 65536 + zz * 524288 : Nat) : Int) 16) 7) = (r : Int) from ((tr_dig (sh := 16) (b := 3) (mk := 7) rfl rfl (by omega) (by omega) (by omega) rfl).trans (by congr 1; omega))]
      refine Ev.fin (k := 6) (r := (some (Vi (r : Int)))) (h' := ((SHv st dr rd), (ovl a s b))) (fun _ => rfl) ?_
      exact ⟨rfl, rfl⟩
theorem c_tracePart_5 {X : List Int} {d : Nat} {st dr rd : Int} {a s b : C3} (k n m kd w p r zz : Nat) (h1 : m < 256) (h2 : kd < 4) (h3 : w < 8) (h4 : p < 8) (h5 : r < 8) (h6 : zz < 256) (hk : k < n) (hn : n ≤ 1440) (e5 : a 133 5 = (n : Int)) (hv : a 136 k = ((m + kd * 256 + w * 1024 + p * 8192 + r * 65536 + zz * 524288 : Nat) : Int)) : Ev X d 120 0 [Vr 133, Vi (k : Int), Vi 5, Vx] [] (SHv st dr rd, ovl a s b) (fun rr hh => rr = some (Vi ((zz : Int) - 1 : Int)) ∧ hh = (SHv st dr rd, ovl a s b)) := by
  refine Ev.ite (P := (k : Int) < 0) (k := 2) (a := 21) (b := 4) (L' := [Vr 133, Vi (k : Int), Vi 5, Vx]) (S' := []) (h' := ((SHv st dr rd), (ovl a s b))) (fun _ => rfl) (fun b1 => ?_) (fun b1 => ?_)
  · exfalso; omega
  · refine Ev.steps (k := 3) (pc' := 9) (L' := [Vr 133, Vi (k : Int), Vi 5, Vx]) (S' := [Vi (a 133 5), Vi (k : Int)]) (h' := ((SHv st dr rd), (ovl a s b))) (fun _ => rfl) ?_
    rw [e5]
    refine Ev.ite (P := (n : Int) ≤ (k : Int)) (k := 1) (a := 21) (b := 12) (L' := [Vr 133, Vi (k : Int), Vi 5, Vx]) (S' := []) (h' := ((SHv st dr rd), (ovl a s b))) (fun _ => rfl) (fun b9 => ?_) (fun b9 => ?_)
    · exfalso; omega
    · refine Ev.steps (k := 8) (pc' := 28) (L' := [Vr 133, Vi (k : Int), Vi 5, Vx]) (S' := [Vi (k : Int), Vr 136]) (h' := ((SHv st dr rd), (ovl a s b))) (fun _ => rfl) ?_
      refine Ev.iald (v := ((m + kd * 256 + w * 1024 + p * 8192 + r * 65536 + zz * 524288 : Nat) : Int)) rfl (by decide) rfl (by omega) (by omega) (hv) ?_
      refine Ev.steps (k := 2) (pc' := 33) (L' := [Vr 133, Vi (k : Int), Vi 5, Vx]) (S' := [Vi 5, Vr (-4), Vi ((m + kd * 256 + w * 1024 + p * 8192 + r * 65536 + zz * 524288 : Nat) : Int)]) (h' := ((SHv st dr rd), (ovl a s b))) (fun _ => rfl) ?_
      refine Ev.rald (v := 19) rfl (by decide) rfl (by decide) rfl ?_
      refine Ev.steps (k := 3) (pc' := 39) (L' := [Vr 133, Vi (k : Int), Vi 5, Vx]) (S' := [Vi 5, Vr (-5), Vi (i_ushr ((m + kd * 256 + w * 1024 + p * 8192 + r * 65536 + zz * 524288 : Nat) : Int) 19)]) (h' := ((SHv st dr rd), (ovl a s b))) (fun _ => rfl) ?_
      refine Ev.rald (v := 255) rfl (by decide) rfl (by decide) rfl ?_
      refine Ev.steps (k := 1) (pc' := 41) (L' := [Vr 133, Vi (k : Int), Vi 5, Vx]) (S' := [Vi (i_and (i_ushr ((m + kd * 256 + w * 1024 + p * 8192 + r * 65536 + zz * 524288 : Nat) : Int) 19) 255)]) (h' := ((SHv st dr rd), (ovl a s b))) (fun _ => rfl) ?_
      rw [show (i_and (i_ushr ((m + kd * 256 + w * 1024 + p * 8192 + r * 65536 + zz * 524288 : Nat) : Int) 19) 255) = (zz : Int) from ((tr_dig (sh := 19) (b := 8) (mk := 255) rfl rfl (by omega) (by omega) (by omega) rfl).trans (by congr 1; omega))]
      refine Ev.steps (k := 7) (pc' := 50) (L' := [Vr 133, Vi (k : Int), Vi 5, Vi (zz : Int)]) (S' := [Vi (w32 ((zz : Int) - 1))]) (h' := ((SHv st dr rd), (ovl a s b))) (fun _ => rfl) ?_
      rw [show (w32 ((zz : Int) - 1)) = ((zz : Int) - 1) from (by unfold w32; omega)]
      refine Ev.fin (k := 2) (r := (some (Vi ((zz : Int) - 1)))) (h' := ((SHv st dr rd), (ovl a s b))) (fun _ => rfl) ?_
      exact ⟨rfl, rfl⟩
theorem c_tracePart_no {X : List Int} {d : Nat} {st dr rd : Int} {a s b : C3} (k w n : Int) (e5 : a 133 5 = n) (hno : ¬ ((0 ≤ k ∧ k < n) ∧ (0 ≤ w ∧ w ≤ 5))) : Ev X d 120 0 [Vr 133, Vi k, Vi w, Vx] [] (SHv st dr rd, ovl a s b) (fun rr hh => rr = some (Vi (-1)) ∧ hh = (SHv st dr rd, ovl a s b)) := by
  refine Ev.ite (P := k < 0) (k := 2) (a := 21) (b := 4) (L' := [Vr 133, Vi k, Vi w, Vx]) (S' := []) (h' := ((SHv st dr rd), (ovl a s b))) (fun _ => rfl) (fun b1 => ?_) (fun b1 => ?_)
  · refine Ev.fin (k := 2) (r := (some (Vi (-1)))) (h' := ((SHv st dr rd), (ovl a s b))) (fun _ => rfl) ?_
    exact ⟨rfl, rfl⟩
  · refine Ev.steps (k := 3) (pc' := 9) (L' := [Vr 133, Vi k, Vi w, Vx]) (S' := [Vi (a 133 5), Vi k]) (h' := ((SHv st dr rd), (ovl a s b))) (fun _ => rfl) ?_
    rw [e5]
    refine Ev.ite (P := n ≤ k) (k := 1) (a := 21) (b := 12) (L' := [Vr 133, Vi k, Vi w, Vx]) (S' := []) (h' := ((SHv st dr rd), (ovl a s b))) (fun _ => rfl) (fun b9 => ?_) (fun b9 => ?_)
    · refine Ev.fin (k := 2) (r := (some (Vi (-1)))) (h' := ((SHv st dr rd), (ovl a s b))) (fun _ => rfl) ?_
      exact ⟨rfl, rfl⟩
    · refine Ev.ite (P := w < 0) (k := 2) (a := 21) (b := 16) (L' := [Vr 133, Vi k, Vi w, Vx]) (S' := []) (h' := ((SHv st dr rd), (ovl a s b))) (fun _ => rfl) (fun b13 => ?_) (fun b13 => ?_)
      · refine Ev.fin (k := 2) (r := (some (Vi (-1)))) (h' := ((SHv st dr rd), (ovl a s b))) (fun _ => rfl) ?_
        exact ⟨rfl, rfl⟩
      · refine Ev.ite (P := w ≤ 5) (k := 3) (a := 23) (b := 21) (L' := [Vr 133, Vi k, Vi w, Vx]) (S' := []) (h' := ((SHv st dr rd), (ovl a s b))) (fun _ => rfl) (fun b18 => ?_) (fun b18 => ?_)
        · exfalso; omega
        · refine Ev.fin (k := 2) (r := (some (Vi (-1)))) (h' := ((SHv st dr rd), (ovl a s b))) (fun _ => rfl) ?_
          exact ⟨rfl, rfl⟩
theorem q_tracePart {X : List Int} {d : Nat} {rd : Int} {a s b : C3} {y z : Nat} {G : GST} (hT : TopC G a rd y z) (k w : Int) : Ev X d 120 0 [Vr 133, Vi k, Vi w, Vx] [] (SHv (y : Int) (z : Int) rd, ovl a s b) (fun rr hh => rr = some (Vi (aTrace G k w)) ∧ hh = (SHv (y : Int) (z : Int) rd, ovl a s b)) := by
  obtain ⟨hyz, hrd, hY, hWY, hBB, hWB, hWE, hn180, ⟨e7, e6, e5, e0, hEv⟩, hTp, hfk, hfp, hCh, h156, hOwn⟩ := id hT
  have hy : hyS y := by show y = 2 ∨ y = 58; omega
  have hy0 : y = 2 ∨ y = 58 := hy
  have hW8 := hWY.2.2.1.1
  have hR8 := hWY.1.1
  have hT8 := hWY.2.2.2.1.1
  have hL30 := hWY.2.2.2.2.1.1
  have hC12 := hWY.2.2.2.2.2.1.1
  have hk7 := (aftS_wf hWY hWE (gn G) hn180).1.2.2.2.2.2.2.1
  have h75 := (aftS_wf hWY hWE (gn G) hn180).1.2.2.2.2.2.1
  have hz : gn G = 0 → gA G (gn G) 7 0 = 0 := fun h => by rw [h]; rfl
  unfold aTrace
  by_cases hin : (0 ≤ k ∧ k < gA G (gn G) 7 0) ∧ (0 ≤ w ∧ w ≤ 5)
  · rw [if_pos hin]
    obtain ⟨⟨g1, g2⟩, g3, g4⟩ := hin
    have hn0 : 0 < gn G := by
      by_cases h : gn G = 0
      · rw [hz h] at g2; omega
      · omega
    have hE := hEv hn0
    obtain ⟨n7, hn7⟩ : ∃ n7 : Nat, gA G (gn G) 7 0 = (n7 : Int) := ⟨(gA G (gn G) 7 0).toNat, (Int.toNat_of_nonneg hk7.1).symm⟩
    have h1440 : n7 ≤ 1440 := by
      have e : aftS (gS G) (gE G) (gn G) 7 0 = (n7 : Int) := hn7
      rw [e] at hk7
      omega
    rw [hn7] at g2 e5
    obtain ⟨kk, rfl⟩ : ∃ kk : Nat, k = (kk : Int) := ⟨k.toNat, by omega⟩
    have hT7 := (hE.2.2.2.1.1 rfl).1.2 kk (by show kk < (gA G (gn G) 7 0).toNat; rw [hn7]; omega)
    obtain ⟨m, kd, w0, p, r, zz, b1, b2, b3, b4, b5, b6, t0, t1, t2, t3, t4, t5, t6⟩ := hT7
    rcases (show w = 0 ∨ w = 1 ∨ w = 2 ∨ w = 3 ∨ w = 4 ∨ w = 5 by omega) with rfl | rfl | rfl | rfl | rfl | rfl
    · have h := c_tracePart_0 (X := X) (d := d) (st := (y : Int)) (dr := (z : Int)) (rd := rd) (a := a) (s := s) (b := b) kk n7 m kd w0 p r zz b1 b2 b3 b4 b5 b6 (by omega) h1440 e5 t6
      rw [show (m : Int) = gA G (gn G) 6 (6 * ((kk : Int)).toNat + ((0 : Int)).toNat) from by rw [Int.toNat_natCast]; exact t0.symm] at h
      exact h
    · have h := c_tracePart_1 (X := X) (d := d) (st := (y : Int)) (dr := (z : Int)) (rd := rd) (a := a) (s := s) (b := b) kk n7 m kd w0 p r zz b1 b2 b3 b4 b5 b6 (by omega) h1440 e5 t6
      rw [show (kd : Int) = gA G (gn G) 6 (6 * ((kk : Int)).toNat + ((1 : Int)).toNat) from by rw [Int.toNat_natCast]; exact t1.symm] at h
      exact h
    · have h := c_tracePart_2 (X := X) (d := d) (st := (y : Int)) (dr := (z : Int)) (rd := rd) (a := a) (s := s) (b := b) kk n7 m kd w0 p r zz b1 b2 b3 b4 b5 b6 (by omega) h1440 e5 t6
      rw [show (w0 : Int) = gA G (gn G) 6 (6 * ((kk : Int)).toNat + ((2 : Int)).toNat) from by rw [Int.toNat_natCast]; exact t2.symm] at h
      exact h
    · have h := c_tracePart_3 (X := X) (d := d) (st := (y : Int)) (dr := (z : Int)) (rd := rd) (a := a) (s := s) (b := b) kk n7 m kd w0 p r zz b1 b2 b3 b4 b5 b6 (by omega) h1440 e5 t6
      rw [show (p : Int) = gA G (gn G) 6 (6 * ((kk : Int)).toNat + ((3 : Int)).toNat) from by rw [Int.toNat_natCast]; exact t3.symm] at h
      exact h
    · have h := c_tracePart_4 (X := X) (d := d) (st := (y : Int)) (dr := (z : Int)) (rd := rd) (a := a) (s := s) (b := b) kk n7 m kd w0 p r zz b1 b2 b3 b4 b5 b6 (by omega) h1440 e5 t6
      rw [show (r : Int) = gA G (gn G) 6 (6 * ((kk : Int)).toNat + ((4 : Int)).toNat) from by rw [Int.toNat_natCast]; exact t4.symm] at h
      exact h
    · have h := c_tracePart_5 (X := X) (d := d) (st := (y : Int)) (dr := (z : Int)) (rd := rd) (a := a) (s := s) (b := b) kk n7 m kd w0 p r zz b1 b2 b3 b4 b5 b6 (by omega) h1440 e5 t6
      rw [show (zz : Int) - 1 = gA G (gn G) 6 (6 * ((kk : Int)).toNat + ((5 : Int)).toNat) from by rw [Int.toNat_natCast]; exact (show aftS (gS G) (gE G) (gn G) 6 (6 * kk + 5) = (zz : Int) - 1 by omega).symm] at h
      exact h
  · rw [if_neg hin]
    exact c_tracePart_no k w _ e5 hin
theorem h_trace {X : List Int} {d : Nat} {rd : Int} {a s b : C3} {y z : Nat} {G : GST} (hT : TopC G a rd y z) (k w : Int) : Ev X (d + 1) 119 0 [Vr 0, Vi k, Vi w] [] (SHv (y : Int) (z : Int) rd, ovl a s b) (fun rr hh => rr = some (Vi (aTrace G k w)) ∧ hh = (SHv (y : Int) (z : Int) rd, ovl a s b)) := by
  obtain ⟨hyz, hrd, hY, hWY, hBB, hWB, hWE, hn180, ⟨e7, e6, e5, e0, hEv⟩, hTp, hfk, hfp, hCh, h156, hOwn⟩ := id hT
  have hy : hyS y := by show y = 2 ∨ y = 58; omega
  have hy0 : y = 2 ∨ y = 58 := hy
  have hW8 := hWY.2.2.1.1
  have hR8 := hWY.1.1
  have hT8 := hWY.2.2.2.1.1
  have hL30 := hWY.2.2.2.2.1.1
  have hC12 := hWY.2.2.2.2.2.1.1
  refine Ev.call (k := 5) (pc1 := 9) (L1 := [Vr 0, Vi k, Vi w]) (S1 := [Vi w, Vi k, Vr 133]) (h1 := ((SHv (y : Int) (z : Int) rd), (ovl a s b))) (m' := 120) (as := [Vr 133, Vi k, Vi w]) (S' := []) (L0 := [Vr 133, Vi k, Vi w, Vx]) (fun _ => rfl) rfl rfl rfl rfl rfl rfl (q_tracePart hT k w) (fun r h' hq => ?_)
  obtain ⟨rfl, rfl⟩ := hq
  show Ev X _ _ 12 [Vr 0, Vi k, Vi w] [Vi (aTrace G k w)] ((SHv (y : Int) (z : Int) rd), (ovl a s b)) _
  refine Ev.fin (k := 1) (r := (some (Vi (aTrace G k w)))) (h' := ((SHv (y : Int) (z : Int) rd), (ovl a s b))) (fun _ => rfl) ?_
  exact ⟨rfl, rfl⟩
theorem h_saw {X : List Int} {d : Nat} {rd : Int} {a s b : C3} {y z : Nat} {G : GST} (hT : TopC G a rd y z) (x o m : Int) : Ev X (d + 3) 121 0 [Vr 0, Vi x, Vi o, Vi m] [] (SHv (y : Int) (z : Int) rd, ovl a s b) (fun rr hh => rr = some (Vi (aSaw G x o m)) ∧ hh = (SHv (y : Int) (z : Int) rd, ovl a s b)) := by
  obtain ⟨hyz, hrd, hY, hWY, hBB, hWB, hWE, hn180, ⟨e7, e6, e5, e0, hEv⟩, hTp, hfk, hfp, hCh, h156, hOwn⟩ := id hT
  have hy : hyS y := by show y = 2 ∨ y = 58; omega
  have hy0 : y = 2 ∨ y = 58 := hy
  have hW8 := hWY.2.2.1.1
  have hR8 := hWY.1.1
  have hT8 := hWY.2.2.2.1.1
  have hL30 := hWY.2.2.2.2.1.1
  have hC12 := hWY.2.2.2.2.2.1.1
  refine Ev.call (k := 4) (pc1 := 6) (L1 := [Vr 0, Vi x, Vi o, Vi m]) (S1 := [Vi x, Vi 2, Vr (y : Int)]) (h1 := ((SHv (y : Int) (z : Int) rd), (ovl a s b))) (m' := 70) (as := [Vr (y : Int), Vi 2, Vi x]) (S' := []) (L0 := [Vr (y : Int), Vi 2, Vi x]) (fun _ => rfl) rfl rfl rfl rfl (stpC_of rfl (pm_recv_of (by omega) (shY_0 hy))) rfl (q_thW hT x) (fun r h' hq => ?_)
  obtain ⟨rfl, rfl⟩ := hq
  by_cases c6 : okW G x
  · rw [if_pos c6]
    show Ev X _ _ 9 [Vr 0, Vi x, Vi o, Vi m] [Vi 1] ((SHv (y : Int) (z : Int) rd), (ovl a s b)) _
    refine Ev.call (k := 5) (pc1 := 18) (L1 := [Vr 0, Vi x, Vi o, Vi m]) (S1 := [Vi o, Vi 2, Vr (y : Int)]) (h1 := ((SHv (y : Int) (z : Int) rd), (ovl a s b))) (m' := 70) (as := [Vr (y : Int), Vi 2, Vi o]) (S' := []) (L0 := [Vr (y : Int), Vi 2, Vi o]) (fun _ => rfl) rfl rfl rfl rfl (stpC_of rfl (pm_recv_of (by omega) (shY_0 hy))) rfl (q_thW hT o) (fun r h' hq => ?_)
    obtain ⟨rfl, rfl⟩ := hq
    by_cases c18 : okW G o
    · rw [if_pos c18]
      show Ev X _ _ 21 [Vr 0, Vi x, Vi o, Vi m] [Vi 1] ((SHv (y : Int) (z : Int) rd), (ovl a s b)) _
      refine Ev.call (k := 4) (pc1 := 29) (L1 := [Vr 0, Vi x, Vi o, Vi m]) (S1 := [Vi m, Vr 119]) (h1 := ((SHv (y : Int) (z : Int) rd), (ovl a s b))) (m' := 106) (as := [Vr 119, Vi m]) (S' := []) (L0 := [Vr 119, Vi m]) (fun _ => rfl) rfl rfl rfl rfl rfl rfl (q_had hT m) (fun r h' hq => ?_)
      obtain ⟨rfl, rfl⟩ := hq
      by_cases c29 : okM G m
      · rw [if_pos c29]
        show Ev X _ _ 32 [Vr 0, Vi x, Vi o, Vi m] [Vi 1] ((SHv (y : Int) (z : Int) rd), (ovl a s b)) _
        refine Ev.steps (k := 1) (pc' := 37) (L' := [Vr 0, Vi x, Vi o, Vi m]) (S' := []) (h' := ((SHv (y : Int) (z : Int) rd), (ovl a s b))) (fun _ => rfl) ?_
        obtain ⟨p, hp⟩ : ∃ p : Nat, x = (p : Int) := ⟨x.toNat, by have := c6.1; omega⟩
        have hpW : p < nW (gS G) := by have := c6.2; omega
        have hwl := witB_lt (W := nW (gS G)) (c := gA G (m.toNat + 1)) (r := o.toNat) hW8
        have hws := witB_see (W := nW (gS G)) (c := gA G (m.toNat + 1)) (o := o.toNat) (p := p)
        have hsee : seeS (gA G (m.toNat + 1)) x.toNat o.toNat = 0 ∨ seeS (gA G (m.toNat + 1)) x.toNat o.toNat = if gA G (m.toNat + 1) 1 o.toNat ≠ 0 then 1 else 2 := by
          unfold seeS
          split
          · exact Or.inl rfl
          · exact Or.inr rfl
        rw [hp, Int.toNat_natCast] at hsee
        refine Ev.call (k := 4) (pc1 := 43) (L1 := [Vr 0, Vi x, Vi o, Vi m]) (S1 := [Vi m, Vi o, Vr 119]) (h1 := ((SHv (y : Int) (z : Int) rd), (ovl a s b))) (m' := 122) (as := [Vr 119, Vi o, Vi m]) (S' := []) (L0 := [Vr 119, Vi o, Vi m]) (fun _ => rfl) rfl rfl rfl rfl rfl rfl (q_witnesses hT o m c18 c29) (fun r h' hq => ?_)
        obtain ⟨rfl, rfl⟩ := hq
        show Ev X _ _ 46 [Vr 0, Vi x, Vi o, Vi m] [Vi ((witB (nW (gS G)) (gA G (m.toNat + 1)) o.toNat : Nat) : Int)] ((SHv (y : Int) (z : Int) rd), (ovl a s b)) _
        refine Ev.ite (P := (i_and ((witB (nW (gS G)) (gA G (m.toNat + 1)) o.toNat : Nat) : Int) (i_shl 1 x)) ≠ 0) (k := 5) (a := 55) (b := 53) (L' := [Vr 0, Vi x, Vi o, Vi m]) (S' := []) (h' := ((SHv (y : Int) (z : Int) rd), (ovl a s b))) (fun _ => rfl) (fun b50 => ?_) (fun b50 => ?_)
        · rw [hp, ib1 (by omega) (by omega)] at b50
          refine Ev.call (k := 4) (pc1 := 61) (L1 := [Vr 0, Vi x, Vi o, Vi m]) (S1 := [Vi m, Vi o, Vr 119]) (h1 := ((SHv (y : Int) (z : Int) rd), (ovl a s b))) (m' := 109) (as := [Vr 119, Vi o, Vi m]) (S' := []) (L0 := [Vr 119, Vi o, Vi m]) (fun _ => rfl) rfl rfl rfl rfl rfl rfl (q_livedThen hT o m c18 c29) (fun r h' hq => ?_)
          obtain ⟨rfl, rfl⟩ := hq
          by_cases c61 : gA G (m.toNat + 1) 1 o.toNat ≠ 0
          · rw [if_pos c61]
            show Ev X _ _ 64 [Vr 0, Vi x, Vi o, Vi m] [Vi 1] ((SHv (y : Int) (z : Int) rd), (ovl a s b)) _
            refine Ev.fin (k := 4) (r := (some (Vi 1))) (h' := ((SHv (y : Int) (z : Int) rd), (ovl a s b))) (fun _ => rfl) ?_
            refine ⟨?_, rfl⟩
            unfold aSaw
            rw [if_pos ⟨c6, c18, c29⟩, hp, Int.toNat_natCast, hsee.resolve_left (hws.mp b50).2]
            first | rw [if_pos c61] | rw [if_neg c61]
          · rw [if_neg c61]
            show Ev X _ _ 64 [Vr 0, Vi x, Vi o, Vi m] [Vi 0] ((SHv (y : Int) (z : Int) rd), (ovl a s b)) _
            refine Ev.fin (k := 3) (r := (some (Vi 2))) (h' := ((SHv (y : Int) (z : Int) rd), (ovl a s b))) (fun _ => rfl) ?_
            refine ⟨?_, rfl⟩
            unfold aSaw
            rw [if_pos ⟨c6, c18, c29⟩, hp, Int.toNat_natCast, hsee.resolve_left (hws.mp b50).2]
            first | rw [if_pos c61] | rw [if_neg c61]
        · rw [hp, ib1 (by omega) (by omega)] at b50
          refine Ev.fin (k := 2) (r := (some (Vi 0))) (h' := ((SHv (y : Int) (z : Int) rd), (ovl a s b))) (fun _ => rfl) ?_
          refine ⟨?_, rfl⟩
          unfold aSaw
          rw [if_pos ⟨c6, c18, c29⟩, hp, Int.toNat_natCast, Classical.not_not.mp (fun h => b50 (hws.mpr ⟨hpW, h⟩))]
      · rw [if_neg c29]
        show Ev X _ _ 32 [Vr 0, Vi x, Vi o, Vi m] [Vi 0] ((SHv (y : Int) (z : Int) rd), (ovl a s b)) _
        refine Ev.fin (k := 3) (r := (some (Vi (-1)))) (h' := ((SHv (y : Int) (z : Int) rd), (ovl a s b))) (fun _ => rfl) ?_
        refine ⟨?_, rfl⟩
        unfold aSaw
        first | rw [if_neg (fun h => c6 h.1)] | rw [if_neg (fun h => c18 h.2.1)] | rw [if_neg (fun h => c29 h.2.2)]
    · rw [if_neg c18]
      show Ev X _ _ 21 [Vr 0, Vi x, Vi o, Vi m] [Vi 0] ((SHv (y : Int) (z : Int) rd), (ovl a s b)) _
      refine Ev.fin (k := 3) (r := (some (Vi (-1)))) (h' := ((SHv (y : Int) (z : Int) rd), (ovl a s b))) (fun _ => rfl) ?_
      refine ⟨?_, rfl⟩
      unfold aSaw
      first | rw [if_neg (fun h => c6 h.1)] | rw [if_neg (fun h => c18 h.2.1)] | rw [if_neg (fun h => c29 h.2.2)]
  · rw [if_neg c6]
    show Ev X _ _ 9 [Vr 0, Vi x, Vi o, Vi m] [Vi 0] ((SHv (y : Int) (z : Int) rd), (ovl a s b)) _
    refine Ev.fin (k := 3) (r := (some (Vi (-1)))) (h' := ((SHv (y : Int) (z : Int) rd), (ovl a s b))) (fun _ => rfl) ?_
    refine ⟨?_, rfl⟩
    unfold aSaw
    first | rw [if_neg (fun h => c6 h.1)] | rw [if_neg (fun h => c18 h.2.1)] | rw [if_neg (fun h => c29 h.2.2)]
theorem h_knows {X : List Int} {d : Nat} {rd : Int} {a s b : C3} {y z : Nat} {G : GST} (hT : TopC G a rd y z) (x o : Int) : Ev X (d + 1) 123 0 [Vr 0, Vi x, Vi o] [] (SHv (y : Int) (z : Int) rd, ovl a s b) (fun rr hh => rr = some (Vi (aKnows G x o)) ∧ hh = (SHv (y : Int) (z : Int) rd, ovl a s b)) := by
  obtain ⟨hyz, hrd, hY, hWY, hBB, hWB, hWE, hn180, ⟨e7, e6, e5, e0, hEv⟩, hTp, hfk, hfp, hCh, h156, hOwn⟩ := id hT
  have hy : hyS y := by show y = 2 ∨ y = 58; omega
  have hy0 : y = 2 ∨ y = 58 := hy
  have hW8 := hWY.2.2.1.1
  have hR8 := hWY.1.1
  have hT8 := hWY.2.2.2.1.1
  have hL30 := hWY.2.2.2.2.1.1
  have hC12 := hWY.2.2.2.2.2.1.1
  refine Ev.call (k := 4) (pc1 := 6) (L1 := [Vr 0, Vi x, Vi o]) (S1 := [Vi x, Vi 2, Vr (y : Int)]) (h1 := ((SHv (y : Int) (z : Int) rd), (ovl a s b))) (m' := 70) (as := [Vr (y : Int), Vi 2, Vi x]) (S' := []) (L0 := [Vr (y : Int), Vi 2, Vi x]) (fun _ => rfl) rfl rfl rfl rfl (stpC_of rfl (pm_recv_of (by omega) (shY_0 hy))) rfl (q_thW hT x) (fun r h' hq => ?_)
  obtain ⟨rfl, rfl⟩ := hq
  by_cases c6 : okW G x
  · rw [if_pos c6]
    show Ev X _ _ 9 [Vr 0, Vi x, Vi o] [Vi 1] ((SHv (y : Int) (z : Int) rd), (ovl a s b)) _
    refine Ev.call (k := 5) (pc1 := 18) (L1 := [Vr 0, Vi x, Vi o]) (S1 := [Vi o, Vi 2, Vr (y : Int)]) (h1 := ((SHv (y : Int) (z : Int) rd), (ovl a s b))) (m' := 70) (as := [Vr (y : Int), Vi 2, Vi o]) (S' := []) (L0 := [Vr (y : Int), Vi 2, Vi o]) (fun _ => rfl) rfl rfl rfl rfl (stpC_of rfl (pm_recv_of (by omega) (shY_0 hy))) rfl (q_thW hT o) (fun r h' hq => ?_)
    obtain ⟨rfl, rfl⟩ := hq
    by_cases c18 : okW G o
    · rw [if_pos c18]
      show Ev X _ _ 21 [Vr 0, Vi x, Vi o] [Vi 1] ((SHv (y : Int) (z : Int) rd), (ovl a s b)) _
      refine Ev.steps (k := 4) (pc' := 31) (L' := [Vr 0, Vi x, Vi o]) (S' := [Vi (a 119 7)]) (h' := ((SHv (y : Int) (z : Int) rd), (ovl a s b))) (fun _ => rfl) ?_
      rw [e7]
      refine Ev.ite (P := ((gn G : Nat) : Int) ≠ 0) (k := 1) (a := 36) (b := 34) (L' := [Vr 0, Vi x, Vi o]) (S' := []) (h' := ((SHv (y : Int) (z : Int) rd), (ovl a s b))) (fun _ => rfl) (fun b31 => ?_) (fun b31 => ?_)
      · obtain ⟨p, hp⟩ : ∃ p : Nat, x = (p : Int) := ⟨x.toNat, by have := c6.1; omega⟩
        obtain ⟨q, hq⟩ : ∃ q : Nat, o = (q : Int) := ⟨o.toNat, by have := c18.1; omega⟩
        have hpW : p < nW (gS G) := by have := c6.2; omega
        have hqW : q < nW (gS G) := by have := c18.2; omega
        have hE := hEv (by omega)
        have hkn := hE.2.1.2.2.2.2.2.2.2.1 p q hpW hqW
        refine Ev.steps (k := 7) (pc' := 50) (L' := [Vr 0, Vi x, Vi o]) (S' := [Vi (w32 (x * 8)), Vr 125]) (h' := ((SHv (y : Int) (z : Int) rd), (ovl a s b))) (fun _ => rfl) ?_
        rw [show (w32 (x * 8)) = (8 * x) from (by unfold w32; omega)]
        refine Ev.steps (k := 2) (pc' := 52) (L' := [Vr 0, Vi x, Vi o]) (S' := [Vi (w32 ((8 * x) + o)), Vr 125]) (h' := ((SHv (y : Int) (z : Int) rd), (ovl a s b))) (fun _ => rfl) ?_
        rw [show (w32 ((8 * x) + o)) = ((8 * p + q : Nat) : Int) from (by unfold w32; omega)]
        refine Ev.iald (v := (a 125 ((8 * p + q)))) rfl (by decide) rfl (by omega) (by omega) (rfl) ?_
        refine Ev.fin (k := 1) (r := (some (Vi (a 125 ((8 * p + q)))))) (h' := ((SHv (y : Int) (z : Int) rd), (ovl a s b))) (fun _ => rfl) ?_
        refine ⟨?_, rfl⟩
        unfold aKnows
        rw [if_pos ⟨c6, c18, by omega⟩, hp, hq, Int.toNat_natCast, Int.toNat_natCast]
        exact congrArg (fun x => some (Vi x)) hkn
      · refine Ev.fin (k := 2) (r := (some (Vi (-1)))) (h' := ((SHv (y : Int) (z : Int) rd), (ovl a s b))) (fun _ => rfl) ?_
        refine ⟨?_, rfl⟩
        unfold aKnows
        first | rw [if_neg (fun h => c6 h.1)] | rw [if_neg (fun h => c18 h.2.1)] | rw [if_neg (fun h => by have := h.2.2; omega)]
    · rw [if_neg c18]
      show Ev X _ _ 21 [Vr 0, Vi x, Vi o] [Vi 0] ((SHv (y : Int) (z : Int) rd), (ovl a s b)) _
      refine Ev.fin (k := 3) (r := (some (Vi (-1)))) (h' := ((SHv (y : Int) (z : Int) rd), (ovl a s b))) (fun _ => rfl) ?_
      refine ⟨?_, rfl⟩
      unfold aKnows
      first | rw [if_neg (fun h => c6 h.1)] | rw [if_neg (fun h => c18 h.2.1)] | rw [if_neg (fun h => by have := h.2.2; omega)]
  · rw [if_neg c6]
    show Ev X _ _ 9 [Vr 0, Vi x, Vi o] [Vi 0] ((SHv (y : Int) (z : Int) rd), (ovl a s b)) _
    refine Ev.fin (k := 3) (r := (some (Vi (-1)))) (h' := ((SHv (y : Int) (z : Int) rd), (ovl a s b))) (fun _ => rfl) ?_
    refine ⟨?_, rfl⟩
    unfold aKnows
    first | rw [if_neg (fun h => c6 h.1)] | rw [if_neg (fun h => c18 h.2.1)] | rw [if_neg (fun h => by have := h.2.2; omega)]
theorem h_has {X : List Int} {d : Nat} {rd : Int} {a s b : C3} {y z : Nat} {G : GST} (hT : TopC G a rd y z) (w : Int) : Ev X d 67 0 [Vr 0, Vi w] [] (SHv (y : Int) (z : Int) rd, ovl a s b) (fun rr hh => rr = some (Vi (aHas G w)) ∧ hh = (SHv (y : Int) (z : Int) rd, ovl a s b)) := by
  obtain ⟨hyz, hrd, hY, hWY, hBB, hWB, hWE, hn180, ⟨e7, e6, e5, e0, hEv⟩, hTp, hfk, hfp, hCh, h156, hOwn⟩ := id hT
  have hy : hyS y := by show y = 2 ∨ y = 58; omega
  have hy0 : y = 2 ∨ y = 58 := hy
  have hW8 := hWY.2.2.1.1
  have hR8 := hWY.1.1
  have hT8 := hWY.2.2.2.1.1
  have hL30 := hWY.2.2.2.2.1.1
  have hC12 := hWY.2.2.2.2.2.1.1
  have hc := hY.1
  obtain ⟨v9, hv9⟩ : ∃ v, v = gA G (gn G) 9 0 := ⟨_, rfl⟩
  obtain ⟨v7, hv7⟩ : ∃ v, v = gA G (gn G) 7 0 := ⟨_, rfl⟩
  rw [← hv9] at e6
  rw [← hv7] at e5
  refine Ev.ite (P := w < 0) (k := 2) (a := 20) (b := 4) (L' := [Vr 0, Vi w]) (S' := []) (h' := ((SHv (y : Int) (z : Int) rd), (ovl a s b))) (fun _ => rfl) (fun b1 => ?_) (fun b1 => ?_)
  · refine Ev.steps (k := 1) (pc' := 21) (L' := [Vr 0, Vi w]) (S' := [Vi w]) (h' := ((SHv (y : Int) (z : Int) rd), (ovl a s b))) (fun _ => rfl) ?_
    rcases (show w = 6 ∨ w = 7 ∨ w = 8 ∨ (w ≠ 6 ∧ w ≠ 7 ∧ w ≠ 8) by omega) with b21 | b21 | b21 | b21
    · rw [b21]
      refine Ev.steps (k := 4) (pc' := 55) (L' := [Vr 0, Vi 6]) (S' := [Vi (a 119 7)]) (h' := ((SHv (y : Int) (z : Int) rd), (ovl a s b))) (fun _ => rfl) ?_
      rw [e7]
      refine Ev.fin (k := 1) (r := (some (Vi ((gn G : Nat) : Int)))) (h' := ((SHv (y : Int) (z : Int) rd), (ovl a s b))) (fun _ => rfl) ?_
      refine ⟨?_, rfl⟩
      unfold aHas
      rw [if_neg (by omega), if_neg (by omega), if_neg (by omega), if_neg (by omega), if_neg (by omega), if_neg (by omega)]
      first
        | (rw [if_pos (by omega)]; done)
        | (rw [if_neg (by omega), if_pos (by omega), hv9]; done)
        | (rw [if_neg (by omega), if_neg (by omega), if_pos (by omega), hv7]; done)
        | (rw [if_neg (by omega), if_neg (by omega), if_neg (by omega)]; done)
    · rw [b21]
      refine Ev.steps (k := 4) (pc' := 63) (L' := [Vr 0, Vi 7]) (S' := [Vi (a 119 6)]) (h' := ((SHv (y : Int) (z : Int) rd), (ovl a s b))) (fun _ => rfl) ?_
      rw [e6]
      refine Ev.fin (k := 1) (r := (some (Vi v9))) (h' := ((SHv (y : Int) (z : Int) rd), (ovl a s b))) (fun _ => rfl) ?_
      refine ⟨?_, rfl⟩
      unfold aHas
      rw [if_neg (by omega), if_neg (by omega), if_neg (by omega), if_neg (by omega), if_neg (by omega), if_neg (by omega)]
      first
        | (rw [if_pos (by omega)]; done)
        | (rw [if_neg (by omega), if_pos (by omega), hv9]; done)
        | (rw [if_neg (by omega), if_neg (by omega), if_pos (by omega), hv7]; done)
        | (rw [if_neg (by omega), if_neg (by omega), if_neg (by omega)]; done)
    · rw [b21]
      refine Ev.steps (k := 5) (pc' := 74) (L' := [Vr 0, Vi 8]) (S' := [Vi (a 133 5)]) (h' := ((SHv (y : Int) (z : Int) rd), (ovl a s b))) (fun _ => rfl) ?_
      rw [e5]
      refine Ev.fin (k := 1) (r := (some (Vi v7))) (h' := ((SHv (y : Int) (z : Int) rd), (ovl a s b))) (fun _ => rfl) ?_
      refine ⟨?_, rfl⟩
      unfold aHas
      rw [if_neg (by omega), if_neg (by omega), if_neg (by omega), if_neg (by omega), if_neg (by omega), if_neg (by omega)]
      first
        | (rw [if_pos (by omega)]; done)
        | (rw [if_neg (by omega), if_pos (by omega), hv9]; done)
        | (rw [if_neg (by omega), if_neg (by omega), if_pos (by omega), hv7]; done)
        | (rw [if_neg (by omega), if_neg (by omega), if_neg (by omega)]; done)
    · refine Ev.tswd (dflt := 54) rfl (by omega) (by decide) ?_
      show Ev X _ _ 75 [Vr 0, Vi w] [] ((SHv (y : Int) (z : Int) rd), (ovl a s b)) _
      refine Ev.fin (k := 2) (r := (some (Vi (-1)))) (h' := ((SHv (y : Int) (z : Int) rd), (ovl a s b))) (fun _ => rfl) ?_
      refine ⟨?_, rfl⟩
      unfold aHas
      rw [if_neg (by omega), if_neg (by omega), if_neg (by omega), if_neg (by omega), if_neg (by omega), if_neg (by omega)]
      first
        | (rw [if_pos (by omega)]; done)
        | (rw [if_neg (by omega), if_pos (by omega), hv9]; done)
        | (rw [if_neg (by omega), if_neg (by omega), if_pos (by omega), hv7]; done)
        | (rw [if_neg (by omega), if_neg (by omega), if_neg (by omega)]; done)
  · refine Ev.ite (P := 6 ≤ w) (k := 3) (a := 20) (b := 10) (L' := [Vr 0, Vi w]) (S' := []) (h' := ((SHv (y : Int) (z : Int) rd), (ovl a s b))) (fun _ => rfl) (fun b7 => ?_) (fun b7 => ?_)
    · refine Ev.steps (k := 1) (pc' := 21) (L' := [Vr 0, Vi w]) (S' := [Vi w]) (h' := ((SHv (y : Int) (z : Int) rd), (ovl a s b))) (fun _ => rfl) ?_
      rcases (show w = 6 ∨ w = 7 ∨ w = 8 ∨ (w ≠ 6 ∧ w ≠ 7 ∧ w ≠ 8) by omega) with b21 | b21 | b21 | b21
      · rw [b21]
        refine Ev.steps (k := 4) (pc' := 55) (L' := [Vr 0, Vi 6]) (S' := [Vi (a 119 7)]) (h' := ((SHv (y : Int) (z : Int) rd), (ovl a s b))) (fun _ => rfl) ?_
        rw [e7]
        refine Ev.fin (k := 1) (r := (some (Vi ((gn G : Nat) : Int)))) (h' := ((SHv (y : Int) (z : Int) rd), (ovl a s b))) (fun _ => rfl) ?_
        refine ⟨?_, rfl⟩
        unfold aHas
        rw [if_neg (by omega), if_neg (by omega), if_neg (by omega), if_neg (by omega), if_neg (by omega), if_neg (by omega)]
        first
          | (rw [if_pos (by omega)]; done)
          | (rw [if_neg (by omega), if_pos (by omega), hv9]; done)
          | (rw [if_neg (by omega), if_neg (by omega), if_pos (by omega), hv7]; done)
          | (rw [if_neg (by omega), if_neg (by omega), if_neg (by omega)]; done)
      · rw [b21]
        refine Ev.steps (k := 4) (pc' := 63) (L' := [Vr 0, Vi 7]) (S' := [Vi (a 119 6)]) (h' := ((SHv (y : Int) (z : Int) rd), (ovl a s b))) (fun _ => rfl) ?_
        rw [e6]
        refine Ev.fin (k := 1) (r := (some (Vi v9))) (h' := ((SHv (y : Int) (z : Int) rd), (ovl a s b))) (fun _ => rfl) ?_
        refine ⟨?_, rfl⟩
        unfold aHas
        rw [if_neg (by omega), if_neg (by omega), if_neg (by omega), if_neg (by omega), if_neg (by omega), if_neg (by omega)]
        first
          | (rw [if_pos (by omega)]; done)
          | (rw [if_neg (by omega), if_pos (by omega), hv9]; done)
          | (rw [if_neg (by omega), if_neg (by omega), if_pos (by omega), hv7]; done)
          | (rw [if_neg (by omega), if_neg (by omega), if_neg (by omega)]; done)
      · rw [b21]
        refine Ev.steps (k := 5) (pc' := 74) (L' := [Vr 0, Vi 8]) (S' := [Vi (a 133 5)]) (h' := ((SHv (y : Int) (z : Int) rd), (ovl a s b))) (fun _ => rfl) ?_
        rw [e5]
        refine Ev.fin (k := 1) (r := (some (Vi v7))) (h' := ((SHv (y : Int) (z : Int) rd), (ovl a s b))) (fun _ => rfl) ?_
        refine ⟨?_, rfl⟩
        unfold aHas
        rw [if_neg (by omega), if_neg (by omega), if_neg (by omega), if_neg (by omega), if_neg (by omega), if_neg (by omega)]
        first
          | (rw [if_pos (by omega)]; done)
          | (rw [if_neg (by omega), if_pos (by omega), hv9]; done)
          | (rw [if_neg (by omega), if_neg (by omega), if_pos (by omega), hv7]; done)
          | (rw [if_neg (by omega), if_neg (by omega), if_neg (by omega)]; done)
      · refine Ev.tswd (dflt := 54) rfl (by omega) (by decide) ?_
        show Ev X _ _ 75 [Vr 0, Vi w] [] ((SHv (y : Int) (z : Int) rd), (ovl a s b)) _
        refine Ev.fin (k := 2) (r := (some (Vi (-1)))) (h' := ((SHv (y : Int) (z : Int) rd), (ovl a s b))) (fun _ => rfl) ?_
        refine ⟨?_, rfl⟩
        unfold aHas
        rw [if_neg (by omega), if_neg (by omega), if_neg (by omega), if_neg (by omega), if_neg (by omega), if_neg (by omega)]
        first
          | (rw [if_pos (by omega)]; done)
          | (rw [if_neg (by omega), if_pos (by omega), hv9]; done)
          | (rw [if_neg (by omega), if_neg (by omega), if_pos (by omega), hv7]; done)
          | (rw [if_neg (by omega), if_neg (by omega), if_neg (by omega)]; done)
    · refine Ev.steps (k := 2) (pc' := 14) (L' := [Vr 0, Vi w]) (S' := [Vr (y : Int)]) (h' := ((SHv (y : Int) (z : Int) rd), (ovl a s b))) (fun _ => rfl) ?_
      refine Ev.getr (r := ((y : Int) + 1)) rfl rfl (by omega) (shY_0 hy) rfl rfl rfl ?_
      refine Ev.steps (k := 1) (pc' := 18) (L' := [Vr 0, Vi w]) (S' := [Vi w, Vr ((y : Int) + 1)]) (h' := ((SHv (y : Int) (z : Int) rd), (ovl a s b))) (fun _ => rfl) ?_
      refine Ev.iald (v := (a (y + 1) (w).toNat)) rfl (by omega) (shY_1 hy) (by omega) (by omega) (ovl_rc (by omega)) ?_
      refine Ev.fin (k := 1) (r := (some (Vi (a (y + 1) (w).toNat)))) (h' := ((SHv (y : Int) (z : Int) rd), (ovl a s b))) (fun _ => rfl) ?_
      refine ⟨?_, rfl⟩
      have := hc w.toNat (by omega)
      rw [this]
      unfold aHas
      rcases (show w = 0 ∨ w = 1 ∨ w = 2 ∨ w = 3 ∨ w = 4 ∨ w = 5 by omega) with rfl | rfl | rfl | rfl | rfl | rfl <;> rfl
theorem h_fault {X : List Int} {d : Nat} {rd : Int} {a s b : C3} {y z : Nat} {G : GST} (hT : TopC G a rd y z) (w : Int) : Ev X d 66 0 [Vr 0, Vi w] [] (SHv (y : Int) (z : Int) rd, ovl a s b) (fun rr hh => rr = some (Vi (if w = 0 then gk G else if w = 1 then gp G else -1)) ∧ hh = (SHv (y : Int) (z : Int) rd, ovl a s b)) := by
  obtain ⟨hyz, hrd, hY, hWY, hBB, hWB, hWE, hn180, ⟨e7, e6, e5, e0, hEv⟩, hTp, hfk, hfp, hCh, h156, hOwn⟩ := id hT
  have hy : hyS y := by show y = 2 ∨ y = 58; omega
  have hy0 : y = 2 ∨ y = 58 := hy
  have hW8 := hWY.2.2.1.1
  have hR8 := hWY.1.1
  have hT8 := hWY.2.2.2.1.1
  have hL30 := hWY.2.2.2.2.1.1
  have hC12 := hWY.2.2.2.2.2.1.1
  refine Ev.steps (k := 1) (pc' := 1) (L' := [Vr 0, Vi w]) (S' := [Vi w]) (h' := ((SHv (y : Int) (z : Int) rd), (ovl a s b))) (fun _ => rfl) ?_
  rcases (show w = 0 ∨ w = 1 ∨ (w ≠ 0 ∧ w ≠ 1) by omega) with b1 | b1 | b1
  · rw [b1]
    refine Ev.steps (k := 4) (pc' := 35) (L' := [Vr 0, Vi 0]) (S' := [Vi (a 114 9)]) (h' := ((SHv (y : Int) (z : Int) rd), (ovl a s b))) (fun _ => rfl) ?_
    rw [hfk]
    refine Ev.fin (k := 1) (r := (some (Vi (gk G)))) (h' := ((SHv (y : Int) (z : Int) rd), (ovl a s b))) (fun _ => rfl) ?_
    refine ⟨?_, rfl⟩
    first | (rw [if_pos (by omega)]; done) | (rw [if_neg (by omega), if_pos (by omega)]; done) | (rw [if_neg (by omega), if_neg (by omega)]; done)
  · rw [b1]
    refine Ev.steps (k := 4) (pc' := 43) (L' := [Vr 0, Vi 1]) (S' := [Vi (a 114 10)]) (h' := ((SHv (y : Int) (z : Int) rd), (ovl a s b))) (fun _ => rfl) ?_
    rw [hfp]
    refine Ev.fin (k := 1) (r := (some (Vi (gp G)))) (h' := ((SHv (y : Int) (z : Int) rd), (ovl a s b))) (fun _ => rfl) ?_
    refine ⟨?_, rfl⟩
    first | (rw [if_pos (by omega)]; done) | (rw [if_neg (by omega), if_pos (by omega)]; done) | (rw [if_neg (by omega), if_neg (by omega)]; done)
  · refine Ev.lswd (dflt := 43) rfl rfl (by simp only [pm_lku]; rw [if_neg (by omega)]; rw [if_neg (by omega)]) (by decide) ?_
    show Ev X _ _ 44 [Vr 0, Vi w] [] ((SHv (y : Int) (z : Int) rd), (ovl a s b)) _
    refine Ev.fin (k := 2) (r := (some (Vi (-1)))) (h' := ((SHv (y : Int) (z : Int) rd), (ovl a s b))) (fun _ => rfl) ?_
    refine ⟨?_, rfl⟩
    first | (rw [if_pos (by omega)]; done) | (rw [if_neg (by omega), if_pos (by omega)]; done) | (rw [if_neg (by omega), if_neg (by omega)]; done)
theorem farJ_cg {S : STY} {B B' E : SC} {n : Nat} {T T' : ((Nat → Int) × Nat) × (Int × Int)} : ∀ j, farJ (S, B, E, n, T) j = farJ (S, B', E, n, T') j
  | 0 => rfl
  | j + 1 => by
    have e : farV (S, B, E, n, T) (nL S + j) = farV (S, B', E, n, T') (nL S + j) := rfl
    show (if (farJ (S, B, E, n, T) j).2 < farV (S, B, E, n, T) (nL S + j) then (((nL S + j : Nat) : Int), farV (S, B, E, n, T) (nL S + j)) else farJ (S, B, E, n, T) j) = (if (farJ (S, B', E, n, T') j).2 < farV (S, B', E, n, T') (nL S + j) then (((nL S + j : Nat) : Int), farV (S, B', E, n, T') (nL S + j)) else farJ (S, B', E, n, T') j)
    rw [farJ_cg j, e]
theorem aFairest_cg {S : STY} {B B' E : SC} {n : Nat} {T T' : ((Nat → Int) × Nat) × (Int × Int)} {w : Int} : aFairest (S, B, E, n, T) w = aFairest (S, B', E, n, T') w := by
  have e : farA (S, B, E, n, T) = farA (S, B', E, n, T') := farJ_cg _
  unfold aFairest
  rw [e]
theorem EvF.fr {S : STY} {B a a' : SC} {u n : Nat} (h : EvF S B a u n) (hf : ∀ o, u ≤ o → o ≤ u + 18 → a' o = a o) : EvF S B a' u n := by
  obtain ⟨h1, h2, h3, h4, h5, h6⟩ := h
  exact ⟨by rw [hf u (by omega) (by omega)]; exact h1, h2.fr (fun o g1 g2 => hf o (by omega) (by omega)), h3.fr (by rw [hf u (by omega) (by omega)]) (hf _ (by omega) (by omega)) rfl rfl, h4.fr (fun o g1 g2 => hf o (by omega) (by omega)) rfl rfl, h5.fr (hf _ (by omega) (by omega)) (hf _ (by omega) (by omega)), h6.fr (fun o g1 g2 => hf o (by omega) (by omega))⟩
theorem EvT.fr {G : GST} {a a' : SC} (h : EvT G a) (hf : ∀ o, 119 ≤ o → o ≤ 137 → a' o = a o) : EvT G a' := by
  obtain ⟨h1, h2, h3, h4, h5⟩ := h
  unfold EvT
  rw [hf 119 (by omega) (by omega), hf 133 (by omega) (by omega)]
  exact ⟨h1, h2, h3, h4, fun hn => (h5 hn).fr (fun o g1 g2 => hf o g1 (by omega))⟩
/-- what the relation looks at -/
theorem TopC.fo {G : GST} {a a' : SC} {rd : Int} {y z : Nat} (h : TopC G a rd y z) (hf : ∀ o, ¬ (138 ≤ o ∧ o ≤ 140) → ¬ (142 ≤ o ∧ o ≤ 155) → ¬ (157 ≤ o ∧ o ≤ 163) → a' o = a o) : TopC G a' rd y z := by
  obtain ⟨hyz, hrd, hY, hWY, hBB, hWB, hWE, hn180, hE, hTp, hfk, hfp, hCh, h156, hOwn⟩ := h
  have hL30 := hWY.2.2.2.2.1.1
  have hC12 := hWY.2.2.2.2.2.1.1
  refine ⟨hyz, hrd, hY.fr (fun o g1 g2 => hf o (by omega) (by omega) (by omega)) hL30 hC12, hWY, hBB.fr (fun o g1 g2 => hf o (by omega) (by omega) (by omega)), hWB, hWE, hn180, hE.fr (fun o g1 g2 => hf o (by omega) (by omega) (by omega)), ?_, ?_, ?_, ?_, ?_, ?_⟩
  · rw [hf 0 (by omega) (by omega) (by omega), hf 1 (by omega) (by omega) (by omega)]; exact hTp
  · rw [hf 114 (by omega) (by omega) (by omega)]; exact hfk
  · rw [hf 114 (by omega) (by omega) (by omega)]; exact hfp
  · unfold ChC at hCh ⊢
    rw [hf 141 (by omega) (by omega) (by omega), hf 164 (by omega) (by omega) (by omega), hf 165 (by omega) (by omega) (by omega)]; exact hCh
  · rw [hf 156 (by omega) (by omega) (by omega)]; exact h156
  · unfold OwnC
    rw [hf 115 (by omega) (by omega) (by omega)]; exact hOwn
theorem TopC.setB {G : GST} {a a' B : SC} {rd : Int} {y z : Nat} (h : TopC G a rd y z) (hf : FrO 116 118 a a') (hB : RbC (gS G) B a' 116) (hW : WfB (gS G) B) : TopC (gsB G B) a' rd y z := by
  obtain ⟨hyz, hrd, hY, hWY, hBB, hWB, hWE, hn180, hE, hTp, hfk, hfp, hCh, h156, hOwn⟩ := h
  have hL30 := hWY.2.2.2.2.1.1
  have hC12 := hWY.2.2.2.2.2.1.1
  have hs : ∀ w, aSpare (gsB G B) w = aSpare G w := fun _ => rfl
  have hv : ∀ w, aFairest (gsB G B) w = aFairest G w := fun _ => aFairest_cg
  refine ⟨hyz, hrd, hY.fr (fun o g1 g2 => hf o (by omega)) hL30 hC12, hWY, hB, hW, hWE, hn180, hE.fr (fun o g1 g2 => hf o (by omega)), ?_, ?_, ?_, ?_, ?_, ?_⟩
  · rw [hf 0 (by omega), hf 1 (by omega)]; exact hTp
  · rw [hf 114 (by omega)]; exact hfk
  · rw [hf 114 (by omega)]; exact hfp
  · unfold ChC at hCh ⊢
    rw [hf 141 (by omega), hf 164 (by omega), hf 165 (by omega)]
    exact ⟨hCh.1, hCh.2.1, fun g => ⟨(hCh.2.2.1 g).1, fun w hw => by rw [hs]; exact (hCh.2.2.1 g).2 w hw⟩, fun g => ⟨(hCh.2.2.2 g).1, fun w hw => by rw [hv]; exact (hCh.2.2.2 g).2 w hw⟩⟩
  · rw [hf 156 (by omega)]; exact h156
  · unfold OwnC
    rw [hf 115 (by omega)]; exact hOwn
theorem h_begin {X : List Int} {d : Nat} {rd : Int} {a s b : C3} {y z : Nat} {G : GST} (hT : TopC G a rd y z) (x r : Int) : Ev X (d + 1) 71 0 [Vr 0, Vi x, Vi r] [] (SHv (y : Int) (z : Int) rd, ovl a s b) (fun rr hh => rr = some (Vi (if okW G x ∧ okR G r then 1 else 0)) ∧ ∃ a' : C3, hh = (SHv (y : Int) (z : Int) rd, ovl a' s b) ∧ TopC (nBegin G x r) a' rd y z) := by
  obtain ⟨hyz, hrd, hY, hWY, hBB, hWB, hWE, hn180, ⟨e7, e6, e5, e0, hEv⟩, hTp, hfk, hfp, hCh, h156, hOwn⟩ := id hT
  have hy : hyS y := by show y = 2 ∨ y = 58; omega
  have hy0 : y = 2 ∨ y = 58 := hy
  have hW8 := hWY.2.2.1.1
  have hR8 := hWY.1.1
  have hT8 := hWY.2.2.2.1.1
  have hL30 := hWY.2.2.2.2.1.1
  have hC12 := hWY.2.2.2.2.2.1.1
  obtain ⟨b0, b1, b2, b3, b4⟩ := id hBB
  unfold nBegin
  refine Ev.call (k := 4) (pc1 := 6) (L1 := [Vr 0, Vi x, Vi r]) (S1 := [Vi x, Vi 2, Vr (y : Int)]) (h1 := ((SHv (y : Int) (z : Int) rd), (ovl a s b))) (m' := 70) (as := [Vr (y : Int), Vi 2, Vi x]) (S' := []) (L0 := [Vr (y : Int), Vi 2, Vi x]) (fun _ => rfl) rfl rfl rfl rfl (stpC_of rfl (pm_recv_of (by omega) (shY_0 hy))) rfl (q_thW hT x) (fun r h' hq => ?_)
  obtain ⟨rfl, rfl⟩ := hq
  by_cases c6 : okW G x
  · rw [if_pos c6]
    show Ev X _ _ 9 [Vr 0, Vi x, Vi r] [Vi 1] ((SHv (y : Int) (z : Int) rd), (ovl a s b)) _
    refine Ev.call (k := 5) (pc1 := 18) (L1 := [Vr 0, Vi x, Vi r]) (S1 := [Vi r, Vi 0, Vr (y : Int)]) (h1 := ((SHv (y : Int) (z : Int) rd), (ovl a s b))) (m' := 70) (as := [Vr (y : Int), Vi 0, Vi r]) (S' := []) (L0 := [Vr (y : Int), Vi 0, Vi r]) (fun _ => rfl) rfl rfl rfl rfl (stpC_of rfl (pm_recv_of (by omega) (shY_0 hy))) rfl (q_thR hT r) (fun r h' hq => ?_)
    obtain ⟨rfl, rfl⟩ := hq
    by_cases c18 : okR G r
    · rw [if_pos c18]
      show Ev X _ _ 21 [Vr 0, Vi x, Vi r] [Vi 1] ((SHv (y : Int) (z : Int) rd), (ovl a s b)) _
      refine Ev.steps (k := 1) (pc' := 26) (L' := [Vr 0, Vi x, Vi r]) (S' := []) (h' := ((SHv (y : Int) (z : Int) rd), (ovl a s b))) (fun _ => rfl) ?_
      obtain ⟨p, hp⟩ : ∃ p : Nat, x = (p : Int) := ⟨x.toNat, by have := c6.1; omega⟩
      have hpW : p < nW (gS G) := by have := c6.2; omega
      have hr0 := c18.1
      have hr1 := c18.2
      refine Ev.steps (k := 5) (pc' := 35) (L' := [Vr 0, Vi x, Vi r]) (S' := [Vi r, Vi x, Vr 117]) (h' := ((SHv (y : Int) (z : Int) rd), (ovl a s b))) (fun _ => rfl) ?_
      refine Ev.iast (c' := (ovl (updC a 117 (x).toNat r) s b)) rfl (by decide) rfl (by omega) (by omega) (ovl_wc (by decide)) ?_
      refine Ev.fin (k := 2) (r := (some (Vi 1))) (h' := ((SHv (y : Int) (z : Int) rd), (ovl (updC a 117 (x).toNat r) s b))) (fun _ => rfl) ?_
      rw [if_pos ⟨c6, c18⟩, if_pos ⟨c6, c18⟩, hp, Int.toNat_natCast]
      refine ⟨rfl, _, rfl, hT.setB (FrO.rf.up (by omega)) ⟨fun q hq => ?_, fun i hi => ?_, fun t ht => ?_, fun i hi => ?_, ?_⟩ ⟨?_, ?_, hWB.2.2⟩⟩
      · rw [updC_if, updC_if]
        split
        · rfl
        · exact b0 q hq
      · rw [updC_if]
        split
        · omega
        · exact b1 i hi
      · rw [updC_row (by omega)]
        exact b2 t ht
      · rw [updC_row (by omega)]
        exact b3 i hi
      · rw [updC_row (by omega)]
        exact b4
      · intro q hq
        rw [updC_if]
        split
        · omega
        · exact hWB.1 q hq
      · exact hWB.2.1
    · rw [if_neg c18]
      show Ev X _ _ 21 [Vr 0, Vi x, Vi r] [Vi 0] ((SHv (y : Int) (z : Int) rd), (ovl a s b)) _
      refine Ev.fin (k := 3) (r := (some (Vi 0))) (h' := ((SHv (y : Int) (z : Int) rd), (ovl a s b))) (fun _ => rfl) ?_
      first
        | (rw [if_neg (fun h => c6 h.1), if_neg (fun h => c6 h.1)]
           exact ⟨rfl, a, rfl, hT⟩)
        | (rw [if_neg (fun h => c18 h.2), if_neg (fun h => c18 h.2)]
           exact ⟨rfl, a, rfl, hT⟩)
  · rw [if_neg c6]
    show Ev X _ _ 9 [Vr 0, Vi x, Vi r] [Vi 0] ((SHv (y : Int) (z : Int) rd), (ovl a s b)) _
    refine Ev.fin (k := 3) (r := (some (Vi 0))) (h' := ((SHv (y : Int) (z : Int) rd), (ovl a s b))) (fun _ => rfl) ?_
    first
      | (rw [if_neg (fun h => c6 h.1), if_neg (fun h => c6 h.1)]
         exact ⟨rfl, a, rfl, hT⟩)
      | (rw [if_neg (fun h => c18 h.2), if_neg (fun h => c18 h.2)]
         exact ⟨rfl, a, rfl, hT⟩)
theorem h_put {X : List Int} {d : Nat} {rd : Int} {a s b : C3} {y z : Nat} {G : GST} (hT : TopC G a rd y z) (x r : Int) : Ev X (d + 1) 72 0 [Vr 0, Vi x, Vi r] [] (SHv (y : Int) (z : Int) rd, ovl a s b) (fun rr hh => rr = some (Vi (if okT G x ∧ okR G r then 1 else 0)) ∧ ∃ a' : C3, hh = (SHv (y : Int) (z : Int) rd, ovl a' s b) ∧ TopC (nPut G x r) a' rd y z) := by
  obtain ⟨hyz, hrd, hY, hWY, hBB, hWB, hWE, hn180, ⟨e7, e6, e5, e0, hEv⟩, hTp, hfk, hfp, hCh, h156, hOwn⟩ := id hT
  have hy : hyS y := by show y = 2 ∨ y = 58; omega
  have hy0 : y = 2 ∨ y = 58 := hy
  have hW8 := hWY.2.2.1.1
  have hR8 := hWY.1.1
  have hT8 := hWY.2.2.2.1.1
  have hL30 := hWY.2.2.2.2.1.1
  have hC12 := hWY.2.2.2.2.2.1.1
  obtain ⟨b0, b1, b2, b3, b4⟩ := id hBB
  unfold nPut
  refine Ev.call (k := 4) (pc1 := 6) (L1 := [Vr 0, Vi x, Vi r]) (S1 := [Vi x, Vi 3, Vr (y : Int)]) (h1 := ((SHv (y : Int) (z : Int) rd), (ovl a s b))) (m' := 70) (as := [Vr (y : Int), Vi 3, Vi x]) (S' := []) (L0 := [Vr (y : Int), Vi 3, Vi x]) (fun _ => rfl) rfl rfl rfl rfl (stpC_of rfl (pm_recv_of (by omega) (shY_0 hy))) rfl (q_thT hT x) (fun r h' hq => ?_)
  obtain ⟨rfl, rfl⟩ := hq
  by_cases c6 : okT G x
  · rw [if_pos c6]
    show Ev X _ _ 9 [Vr 0, Vi x, Vi r] [Vi 1] ((SHv (y : Int) (z : Int) rd), (ovl a s b)) _
    refine Ev.call (k := 5) (pc1 := 18) (L1 := [Vr 0, Vi x, Vi r]) (S1 := [Vi r, Vi 0, Vr (y : Int)]) (h1 := ((SHv (y : Int) (z : Int) rd), (ovl a s b))) (m' := 70) (as := [Vr (y : Int), Vi 0, Vi r]) (S' := []) (L0 := [Vr (y : Int), Vi 0, Vi r]) (fun _ => rfl) rfl rfl rfl rfl (stpC_of rfl (pm_recv_of (by omega) (shY_0 hy))) rfl (q_thR hT r) (fun r h' hq => ?_)
    obtain ⟨rfl, rfl⟩ := hq
    by_cases c18 : okR G r
    · rw [if_pos c18]
      show Ev X _ _ 21 [Vr 0, Vi x, Vi r] [Vi 1] ((SHv (y : Int) (z : Int) rd), (ovl a s b)) _
      refine Ev.steps (k := 1) (pc' := 26) (L' := [Vr 0, Vi x, Vi r]) (S' := []) (h' := ((SHv (y : Int) (z : Int) rd), (ovl a s b))) (fun _ => rfl) ?_
      obtain ⟨p, hp⟩ : ∃ p : Nat, x = (p : Int) := ⟨x.toNat, by have := c6.1; omega⟩
      have hpW : p < nT (gS G) := by have := c6.2; omega
      have hr0 := c18.1
      have hr1 := c18.2
      refine Ev.steps (k := 5) (pc' := 35) (L' := [Vr 0, Vi x, Vi r]) (S' := [Vi r, Vi x, Vr 118]) (h' := ((SHv (y : Int) (z : Int) rd), (ovl a s b))) (fun _ => rfl) ?_
      refine Ev.iast (c' := (ovl (updC a 118 (x).toNat r) s b)) rfl (by decide) rfl (by omega) (by omega) (ovl_wc (by decide)) ?_
      refine Ev.fin (k := 2) (r := (some (Vi 1))) (h' := ((SHv (y : Int) (z : Int) rd), (ovl (updC a 118 (x).toNat r) s b))) (fun _ => rfl) ?_
      rw [if_pos ⟨c6, c18⟩, if_pos ⟨c6, c18⟩, hp, Int.toNat_natCast]
      refine ⟨rfl, _, rfl, hT.setB (FrO.rf.up (by omega)) ⟨fun q hq => ?_, fun i hi => ?_, fun t ht => ?_, fun i hi => ?_, ?_⟩ ⟨?_, ?_, hWB.2.2⟩⟩
      · rw [updC_row (by omega)]
        exact b0 q hq
      · rw [updC_row (by omega)]
        exact b1 i hi
      · rw [updC_if, updC_if]
        split
        · rfl
        · exact b2 t ht
      · rw [updC_if]
        split
        · omega
        · exact b3 i hi
      · rw [updC_row (by omega)]
        exact b4
      · exact hWB.1
      · intro q hq
        rw [updC_if]
        split
        · omega
        · exact hWB.2.1 q hq
    · rw [if_neg c18]
      show Ev X _ _ 21 [Vr 0, Vi x, Vi r] [Vi 0] ((SHv (y : Int) (z : Int) rd), (ovl a s b)) _
      refine Ev.fin (k := 3) (r := (some (Vi 0))) (h' := ((SHv (y : Int) (z : Int) rd), (ovl a s b))) (fun _ => rfl) ?_
      first
        | (rw [if_neg (fun h => c6 h.1), if_neg (fun h => c6 h.1)]
           exact ⟨rfl, a, rfl, hT⟩)
        | (rw [if_neg (fun h => c18 h.2), if_neg (fun h => c18 h.2)]
           exact ⟨rfl, a, rfl, hT⟩)
  · rw [if_neg c6]
    show Ev X _ _ 9 [Vr 0, Vi x, Vi r] [Vi 0] ((SHv (y : Int) (z : Int) rd), (ovl a s b)) _
    refine Ev.fin (k := 3) (r := (some (Vi 0))) (h' := ((SHv (y : Int) (z : Int) rd), (ovl a s b))) (fun _ => rfl) ?_
    first
      | (rw [if_neg (fun h => c6 h.1), if_neg (fun h => c6 h.1)]
         exact ⟨rfl, a, rfl, hT⟩)
      | (rw [if_neg (fun h => c18 h.2), if_neg (fun h => c18 h.2)]
         exact ⟨rfl, a, rfl, hT⟩)
theorem h_skip {X : List Int} {d : Nat} {rd : Int} {a s b : C3} {y z : Nat} {G : GST} (hT : TopC G a rd y z) (x o : Int) (ho : o = 0 ∨ o = 1) : Ev X (d + 1) 73 0 [Vr 0, Vi x, Vi o] [] (SHv (y : Int) (z : Int) rd, ovl a s b) (fun rr hh => rr = some (Vi (if okRl G x then 1 else 0)) ∧ ∃ a' : C3, hh = (SHv (y : Int) (z : Int) rd, ovl a' s b) ∧ TopC (nSkip G x o) a' rd y z) := by
  obtain ⟨hyz, hrd, hY, hWY, hBB, hWB, hWE, hn180, ⟨e7, e6, e5, e0, hEv⟩, hTp, hfk, hfp, hCh, h156, hOwn⟩ := id hT
  have hy : hyS y := by show y = 2 ∨ y = 58; omega
  have hy0 : y = 2 ∨ y = 58 := hy
  have hW8 := hWY.2.2.1.1
  have hR8 := hWY.1.1
  have hT8 := hWY.2.2.2.1.1
  have hL30 := hWY.2.2.2.2.1.1
  have hC12 := hWY.2.2.2.2.2.1.1
  obtain ⟨b0, b1, b2, b3, xo, hxo, hxa, hxb⟩ := id hBB
  unfold nSkip
  refine Ev.call (k := 4) (pc1 := 6) (L1 := [Vr 0, Vi x, Vi o]) (S1 := [Vi x, Vi 4, Vr (y : Int)]) (h1 := ((SHv (y : Int) (z : Int) rd), (ovl a s b))) (m' := 70) (as := [Vr (y : Int), Vi 4, Vi x]) (S' := []) (L0 := [Vr (y : Int), Vi 4, Vi x]) (fun _ => rfl) rfl rfl rfl rfl (stpC_of rfl (pm_recv_of (by omega) (shY_0 hy))) rfl (q_thL hT x) (fun r h' hq => ?_)
  obtain ⟨rfl, rfl⟩ := hq
  by_cases c6 : okRl G x
  · rw [if_pos c6]
    show Ev X _ _ 9 [Vr 0, Vi x, Vi o] [Vi 1] ((SHv (y : Int) (z : Int) rd), (ovl a s b)) _
    refine Ev.steps (k := 1) (pc' := 14) (L' := [Vr 0, Vi x, Vi o]) (S' := []) (h' := ((SHv (y : Int) (z : Int) rd), (ovl a s b))) (fun _ => rfl) ?_
    obtain ⟨p, hp⟩ : ∃ p : Nat, x = (p : Int) := ⟨x.toNat, by have := c6.1; omega⟩
    have hpW : p < nL (gS G) := by have := c6.2; omega
    refine Ev.call (k := 4) (pc1 := 20) (L1 := [Vr 0, Vi x, Vi o]) (S1 := [Vi o, Vi x, Vr 116]) (h1 := ((SHv (y : Int) (z : Int) rd), (ovl a s b))) (m' := 74) (as := [Vr 116, Vi x, Vi o]) (S' := []) (L0 := [Vr 116, Vi x, Vi o]) (fun _ => rfl) rfl rfl rfl rfl rfl rfl ((by rw [hp]; exact c_leave (k := 116) (by show (116 : Nat) = 8 ∨ (116 : Nat) = 64 ∨ (116 : Nat) = 116 ∨ (116 : Nat) = 127 ∨ (116 : Nat) = 150 ∨ (116 : Nat) = 161; omega) p (by omega) xo hxo hxa o)) (fun r h' hq => ?_)
    obtain ⟨rfl, zz, z1, rfl, z2⟩ := hq
    show Ev X _ _ 23 [Vr 0, Vi x, Vi o] [] ((SHv (y : Int) (z : Int) rd), (ovl (updC a 116 2 (zz : Int)) s b)) _
    refine Ev.fin (k := 2) (r := (some (Vi 1))) (h' := ((SHv (y : Int) (z : Int) rd), (ovl (updC a 116 2 (zz : Int)) s b))) (fun _ => rfl) ?_
    try rw [if_pos c6]
    try rw [if_pos c6]
    rw [hp, Int.toNat_natCast]
    refine ⟨rfl, _, rfl, hT.setB (FrO.rf.up (by omega)) ⟨fun q hq => ?_, fun i hi => ?_, fun t ht => ?_, fun i hi => ?_, zz, z1, ?_, fun r hr => ?_⟩ ⟨hWB.1, hWB.2.1, fun r hr => ?_⟩⟩
    · rw [updC_row (by omega)]; exact b0 q hq
    · rw [updC_row (by omega)]; exact b1 i hi
    · rw [updC_row (by omega)]; exact b2 t ht
    · rw [updC_row (by omega)]; exact b3 i hi
    · rw [updC_sm]
    · rw [z2 r, updC_if]
      split
      · exact Iff.rfl
      · exact hxb r hr
    · rw [updC_if]
      split
      · exact ho
      · exact hWB.2.2 r hr
  · rw [if_neg c6]
    show Ev X _ _ 9 [Vr 0, Vi x, Vi o] [Vi 0] ((SHv (y : Int) (z : Int) rd), (ovl a s b)) _
    refine Ev.fin (k := 3) (r := (some (Vi 0))) (h' := ((SHv (y : Int) (z : Int) rd), (ovl a s b))) (fun _ => rfl) ?_
    try rw [if_neg c6]
    try rw [if_neg c6]
    exact ⟨rfl, a, rfl, hT⟩
theorem h_anew {X : List Int} {d : Nat} {rd : Int} {a s b : C3} {y z : Nat} {G : GST} (hT : TopC G a rd y z)  : Ev X (d + 1) 75 0 [Vr 0] [] (SHv (y : Int) (z : Int) rd, ovl a s b) (fun rr hh => rr = none ∧ ∃ a' : C3, hh = (SHv (y : Int) (z : Int) rd, ovl a' s b) ∧ TopC (gsB G (tldB (gS G))) a' rd y z) := by
  obtain ⟨hyz, hrd, hY, hWY, hBB, hWB, hWE, hn180, ⟨e7, e6, e5, e0, hEv⟩, hTp, hfk, hfp, hCh, h156, hOwn⟩ := id hT
  have hy : hyS y := by show y = 2 ∨ y = 58; omega
  have hy0 : y = 2 ∨ y = 58 := hy
  have hW8 := hWY.2.2.1.1
  have hR8 := hWY.1.1
  have hT8 := hWY.2.2.2.1.1
  have hL30 := hWY.2.2.2.2.1.1
  have hC12 := hWY.2.2.2.2.2.1.1
  have hj6 : hkS (y + 6) := by show y + 6 = 8 ∨ y + 6 = 64 ∨ y + 6 = 116 ∨ y + 6 = 127 ∨ y + 6 = 150 ∨ y + 6 = 161; omega
  obtain ⟨-, -, -, -, -, t1, t2, t3, -⟩ := id hY
  refine Ev.steps (k := 4) (pc' := 8) (L' := [Vr 0]) (S' := [Vr (y : Int), Vr 116]) (h' := ((SHv (y : Int) (z : Int) rd), (ovl a s b))) (fun _ => rfl) ?_
  refine Ev.getr (r := ((y : Int) + 6)) rfl rfl (by omega) (shY_0 hy) rfl rfl rfl ?_
  refine Ev.call (k := 0) (pc1 := 11) (L1 := [Vr 0]) (S1 := [Vr ((y : Int) + 6), Vr 116]) (h1 := ((SHv (y : Int) (z : Int) rd), (ovl a s b))) (m' := 61) (as := [Vr 116, Vr ((y : Int) + 6)]) (S' := []) (L0 := [Vr 116, Vr ((y : Int) + 6), Vx]) (fun _ => rfl) rfl rfl rfl rfl rfl rfl (c_copy (k := 116) (by show (116 : Nat) = 8 ∨ (116 : Nat) = 64 ∨ (116 : Nat) = 116 ∨ (116 : Nat) = 127 ∨ (116 : Nat) = 150 ∨ (116 : Nat) = 161; omega) (j := y + 6) hj6 (by omega)) (fun r h' hq => ?_)
  obtain ⟨rfl, a2, rfl, g1, g2, g3, g4⟩ := hq
  show Ev X _ _ 14 [Vr 0] [] ((SHv (y : Int) (z : Int) rd), (ovl a2 s b)) _
  refine Ev.fin (k := 1) (r := none) (h' := ((SHv (y : Int) (z : Int) rd), (ovl a2 s b))) (fun _ => rfl) ?_
  have hT8' := hWY.2.2.2.2.2.2.2.2
  refine ⟨rfl, a2, rfl, hT.setB (g1.wd (by omega) (by omega)) ⟨fun p hp => ?_, fun i hi => ?_, fun t ht => ?_, fun i hi => ?_, 0, by omega, ?_, fun r hr => ?_⟩ (tldB_wf hWY)⟩
  · rw [g2 p (by omega), show y + 6 + 1 = y + 7 by omega, t1 p (by omega), if_pos hp]
    rfl
  · rw [g2 i hi, show y + 6 + 1 = y + 7 by omega, t1 i hi]
    split
    · next h => have := hT8'.1 i h; omega
    · omega
  · rw [g3 t (by omega), show y + 6 + 2 = y + 8 by omega, t2 t (by omega), if_pos ht]
    rfl
  · rw [g3 i hi, show y + 6 + 2 = y + 8 by omega, t2 i hi]
    split
    · next h => have := hT8'.2.1 i h; omega
    · omega
  · rw [g4, t3]
    rfl
  · rw [Nat.zero_testBit]
    exact ⟨fun h => absurd h (by decide), fun h => absurd rfl h⟩
