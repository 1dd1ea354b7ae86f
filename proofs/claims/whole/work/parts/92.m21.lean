/-! THE REFERENCE: the tape -/
/-- a byte of a number, as the reference has it -/
def bytS (v : Int) (k : Nat) : Int := i_and (i_shr v ((24 - 8 * k : Nat) : Int)) 255
/-- twenty bytes more -/
def fedT (T : Nat → Int) (t : Nat) (x : Nat → Int) : Nat → Int := fun i => if i < t then T i else bytS (x ((i - t) / 4)) ((i - t) % 4)
abbrev gsT (G : GST) (T : Nat → Int) (t : Nat) : GST := (gS G, gB G, gE G, gn G, (T, t), G.2.2.2.2.2)
noncomputable def nFeed (G : GST) (x : Nat → Int) : GST := if gt G + 20 ≤ 1200 then gsT G (fedT (gT G) (gt G) x) (gt G + 20) else G
noncomputable def nEnd (G : GST) (n : Int) : GST := if 0 ≤ n ∧ n ≤ ((gt G : Nat) : Int) then gsT G (gT G) n.toNat else G
theorem bytS_r (v : Int) (k : Nat) : 0 ≤ bytS v k ∧ bytS v k < 256 := by
  unfold bytS i_and
  rw [← Int32.toInt_toBitVec, Int32.toBitVec_and]
  have e : (Int32.ofInt 255).toBitVec = 255#32 := by decide
  rw [e]
  have h1 : ((Int32.ofInt (i_shr v ((24 - 8 * k : Nat) : Int))).toBitVec &&& 255#32).toNat ≤ 255 := by
    rw [BitVec.toNat_and]
    exact Nat.and_le_right
  rw [BitVec.toInt_eq_toNat_of_lt (by omega)]
  omega
theorem RepY.rr {S : STY} {b b' : SC} {bk : Nat} (h : RepY S b bk) (hr : ∀ o, 168 ≤ o → b' o = b o) (h12 : b' 166 12 = b 166 12) : RepY S b' bk := by
  unfold RepY at h ⊢
  rw [hr 168 (by omega), hr 169 (by omega), hr 170 (by omega), hr 171 (by omega), hr 172 (by omega), hr 173 (by omega), hr 174 (by omega), hr 175 (by omega), hr 176 (by omega), hr 177 (by omega), hr 178 (by omega), hr 179 (by omega), hr 180 (by omega), hr 181 (by omega), hr 182 (by omega), hr 183 (by omega), hr 184 (by omega), hr 185 (by omega), hr 186 (by omega), hr 187 (by omega), hr 188 (by omega), hr 189 (by omega), hr 190 (by omega), h12]
  unfold SegM at h ⊢
  rw [hr 191 (by omega), hr 192 (by omega)]
  exact h
theorem TopM.tp {G : GST} {b b' : SC} {T : Nat → Int} {t : Nat} (h : TopM G b) (hf : ∀ o i, o ≠ 167 → ¬ (o = 166 ∧ i = 1) → b' o i = b o i) (h1 : t ≤ 1200) (h2 : b' 166 1 = (t : Int)) (h3 : ∀ i, i < t → b' 167 i = T i ∧ 0 ≤ T i ∧ T i < 256) : TopM (gsT G T t) b' := by
  have hr : ∀ o, 168 ≤ o → b' o = b o := fun o ho => by
    funext i
    exact hf o i (by omega) (by omega)
  obtain ⟨bk, g1, g2, g3, g4, g5, g6, g7, g8, g9, g10, g11⟩ := h
  refine ⟨bk, g1.rr hr (hf _ _ (by omega) (by omega)), g2, ?_, g4, g5, g6, ?_, ⟨h1, h2, h3⟩, ?_, ?_, ?_⟩
  · unfold RepB at g3 ⊢
    rw [hr 199 (by omega), hr 200 (by omega), hr 201 (by omega)]
    exact g3
  · unfold EvQ HisM RepB at g7 ⊢
    rw [hr 199 (by omega), hr 200 (by omega), hr 201 (by omega), hr 202 (by omega), hr 203 (by omega), hr 204 (by omega), hr 205 (by omega), hr 206 (by omega), hr 207 (by omega), hr 208 (by omega), hr 209 (by omega), hr 210 (by omega), hr 211 (by omega), hr 212 (by omega)]
    exact g7
  · rw [hf _ _ (by omega) (by omega)]; exact g9
  · rw [hf _ _ (by omega) (by omega)]; exact g10
  · rw [hr 201 (by omega)]; exact g11
theorem m_put_l {X : List Int} {d : Nat} {st dr rd : Int} {a s b : C3} (v : Int) (t : Nat) (ht : t + 4 ≤ 1200) {b0 : C3} (k : Nat) (hk4 : k ≤ 4) (e1 : b 166 1 = ((t + k : Nat) : Int)) (hf : ∀ o i, ¬ (o = 167 ∧ t ≤ i ∧ i < t + k) → ¬ (o = 166 ∧ i = 1) → b o i = b0 o i) (hv : ∀ j, j < k → b 167 (t + j) = bytS v j) : Ev X d 154 3 [Vr 166, Vi v, Vi (24 - 8 * (k : Int))] [] (SHv st dr rd, ovl a s b) (fun rr hh => rr = none ∧ ∃ b' : C3, hh = (SHv st dr rd, ovl a s b') ∧ b' 166 1 = ((t + 4 : Nat) : Int) ∧ (∀ o i, ¬ (o = 167 ∧ t ≤ i ∧ i < t + 4) → ¬ (o = 166 ∧ i = 1) → b' o i = b0 o i) ∧ (∀ j, j < 4 → b' 167 (t + j) = bytS v j)) := by
  induction hk : (4 - k) using Nat.strongRecOn generalizing k b with
  | ind k ih =>
    refine Ev.ite (P := (24 - 8 * (k : Int)) < 0) (k := 2) (a := 39) (b := 7) (L' := [Vr 166, Vi v, Vi (24 - 8 * (k : Int))]) (S' := []) (h' := ((SHv st dr rd), (ovl a s b))) (fun _ => rfl) (fun b4 => ?_) (fun b4 => ?_)
    · refine Ev.fin (k := 1) (r := none) (h' := ((SHv st dr rd), (ovl a s b))) (fun _ => rfl) ?_
      obtain rfl : k = 4 := by omega
      exact ⟨rfl, b, rfl, e1, hf, hv⟩
    · refine Ev.steps (k := 4) (pc' := 15) (L' := [Vr 166, Vi v, Vi (24 - 8 * (k : Int))]) (S' := [Vi (b 166 1), Vr 167]) (h' := ((SHv st dr rd), (ovl a s b))) (fun _ => rfl) ?_
      rw [e1]
      refine Ev.steps (k := 5) (pc' := 22) (L' := [Vr 166, Vi v, Vi (24 - 8 * (k : Int))]) (S' := [Vi (i_and (i_shr v (24 - 8 * (k : Int))) 255), Vi ((t + k : Nat) : Int), Vr 167]) (h' := ((SHv st dr rd), (ovl a s b))) (fun _ => rfl) ?_
      refine Ev.iast (c' := (ovl a s (updC b 167 ((t + k)) (i_and (i_shr v (24 - 8 * (k : Int))) 255)))) rfl (by decide) rfl (by omega) (by omega) (ovl_wm (by decide)) ?_
      refine Ev.steps (k := 3) (pc' := 28) (L' := [Vr 166, Vi v, Vi (24 - 8 * (k : Int))]) (S' := [Vi (b 166 1), Vr 166]) (h' := ((SHv st dr rd), (ovl a s (updC b 167 ((t + k)) (i_and (i_shr v (24 - 8 * (k : Int))) 255))))) (fun _ => rfl) ?_
      rw [e1]
      refine Ev.steps (k := 2) (pc' := 30) (L' := [Vr 166, Vi v, Vi (24 - 8 * (k : Int))]) (S' := [Vi (w32 (((t + k : Nat) : Int) + 1)), Vr 166]) (h' := ((SHv st dr rd), (ovl a s (updC b 167 ((t + k)) (i_and (i_shr v (24 - 8 * (k : Int))) 255))))) (fun _ => rfl) ?_
      rw [show (w32 (((t + k : Nat) : Int) + 1)) = (((t + k : Nat) : Int) + 1) from w32_id (by unfold R32; omega)]
      refine Ev.putf (c' := (ovl a s (updC (updC b 167 ((t + k)) (i_and (i_shr v (24 - 8 * (k : Int))) 255)) 166 1 (((t + k : Nat) : Int) + 1)))) rfl (by decide) rfl rfl rfl (ovl_wm (by decide)) ?_
      refine Ev.steps (k := 1) (pc' := 36) (L' := [Vr 166, Vi v, Vi (w32 ((24 - 8 * (k : Int)) + (-8)))]) (S' := []) (h' := ((SHv st dr rd), (ovl a s (updC (updC b 167 ((t + k)) (i_and (i_shr v (24 - 8 * (k : Int))) 255)) 166 1 (((t + k : Nat) : Int) + 1))))) (fun _ => rfl) ?_
      rw [show (w32 ((24 - 8 * (k : Int)) + (-8))) = (24 - 8 * ((k : Int) + 1)) from by unfold w32; omega]
      refine Ev.steps (k := 1) (pc' := 3) (L' := [Vr 166, Vi v, Vi (24 - 8 * ((k : Int) + 1))]) (S' := []) (h' := ((SHv st dr rd), (ovl a s (updC (updC b 167 ((t + k)) (i_and (i_shr v (24 - 8 * (k : Int))) 255)) 166 1 (((t + k : Nat) : Int) + 1))))) (fun _ => rfl) ?_
      refine ih _ (by omega) (b := (updC (updC b 167 ((t + k)) (i_and (i_shr v (24 - 8 * (k : Int))) 255)) 166 1 (((t + k : Nat) : Int) + 1))) (k + 1) (by omega) ?_ ?_ ?_ rfl
      · rw [updC_sm]
        omega
      · intro o i h1 h2
        rw [updC_nt h2, updC_nt (fun hc => h1 ⟨hc.1, by omega, by omega⟩)]
        exact hf o i (fun hc => h1 ⟨hc.1, by omega, by omega⟩) h2
      · intro j hj
        show updC b 167 (t + k) _ 167 (t + j) = _
        rw [updC_if]
        by_cases h : j = k
        · rw [if_pos (by omega), h]
          unfold bytS
          rw [show (24 - 8 * (k : Int)) = ((24 - 8 * k : Nat) : Int) by omega]
        · rw [if_neg (by omega)]
          exact hv j (by omega)
theorem m_put4 {X : List Int} {d : Nat} {st dr rd : Int} {a s b : C3} (v : Int) (t : Nat) (ht : t + 4 ≤ 1200) (e1 : b 166 1 = (t : Int)) : Ev X d 154 0 [Vr 166, Vi v, Vx] [] (SHv st dr rd, ovl a s b) (fun rr hh => rr = none ∧ ∃ b' : C3, hh = (SHv st dr rd, ovl a s b') ∧ b' 166 1 = ((t + 4 : Nat) : Int) ∧ (∀ o i, ¬ (o = 167 ∧ t ≤ i ∧ i < t + 4) → ¬ (o = 166 ∧ i = 1) → b' o i = b o i) ∧ (∀ j, j < 4 → b' 167 (t + j) = bytS v j)) := by
  refine Ev.steps (k := 2) (pc' := 3) (L' := [Vr 166, Vi v, Vi 24]) (S' := []) (h' := ((SHv st dr rd), (ovl a s b))) (fun _ => rfl) ?_
  exact m_put_l v t ht (b0 := b) 0 (by omega) e1 (fun _ _ _ _ => rfl) (fun j h => absurd h (by omega))
theorem g_feed {X : List Int} {d : Nat} {st dr rd : Int} {a s b : C3} (x0 x1 x2 x3 x4 : Int) {G : GST} (hT : TopM G b) : Ev X (d + 1) 153 0 [Vr 166, Vi x0, Vi x1, Vi x2, Vi x3, Vi x4] [] (SHv st dr rd, ovl a s b) (fun rr hh => rr = some (Vi (if gt G + 20 ≤ 1200 then ((gt G + 20 : Nat) : Int) else -1)) ∧ ∃ b' : C3, hh = (SHv st dr rd, ovl a s b') ∧ TopM (nFeed G (fun i => match i with | 0 => x0 | 1 => x1 | 2 => x2 | 3 => x3 | _ => x4)) b') := by
  obtain ⟨bk, hY_b, hWY, hB1, hWB, hWE, hn180, hEQ, hTp, hfk, hfp, hO⟩ := id hT
  obtain ⟨hb2_b, h12_b, h168_b, h169_b, h170_b, h171_b, h173_b, h172_b, h174_b, h176_b, h178_b, h175_b, h177_b, h179_b, h180_b, h184_b⟩ := id hY_b
  obtain ⟨wR, wD, wW, wT, wL, wC, wdoor, wsym, wWI, wTI, wCl, wRu⟩ := id hWY
  obtain ⟨w8, wWc⟩ := wW
  obtain ⟨t8, wTc⟩ := wT
  obtain ⟨r8, wRc⟩ := wR
  obtain ⟨l30, wLc⟩ := wL
  obtain ⟨c12, wCc⟩ := wC
  obtain ⟨e202, e203, e204, e211, e210, eHis, e212⟩ := id hEQ
  obtain ⟨t1, e0, t3⟩ := hTp
  unfold nFeed
  refine Ev.steps (k := 2) (pc' := 4) (L' := [Vr 166, Vi x0, Vi x1, Vi x2, Vi x3, Vi x4]) (S' := [Vi (b 166 1)]) (h' := ((SHv st dr rd), (ovl a s b))) (fun _ => rfl) ?_
  rw [e0]
  refine Ev.steps (k := 2) (pc' := 7) (L' := [Vr 166, Vi x0, Vi x1, Vi x2, Vi x3, Vi x4]) (S' := [Vi (w32 (((gt G : Nat) : Int) + 20))]) (h' := ((SHv st dr rd), (ovl a s b))) (fun _ => rfl) ?_
  rw [show (w32 (((gt G : Nat) : Int) + 20)) = (((gt G : Nat) : Int) + 20) from w32_id (by unfold R32; omega)]
  refine Ev.ite (P := (((gt G : Nat) : Int) + 20) ≤ 1200) (k := 2) (a := 15) (b := 13) (L' := [Vr 166, Vi x0, Vi x1, Vi x2, Vi x3, Vi x4]) (S' := []) (h' := ((SHv st dr rd), (ovl a s b))) (fun _ => rfl) (fun b10 => ?_) (fun b10 => ?_)
  · refine Ev.call (k := 2) (pc1 := 17) (L1 := [Vr 166, Vi x0, Vi x1, Vi x2, Vi x3, Vi x4]) (S1 := [Vi x0, Vr 166]) (h1 := ((SHv st dr rd), (ovl a s b))) (m' := 154) (as := [Vr 166, Vi x0]) (S' := []) (L0 := [Vr 166, Vi x0, Vx]) (fun _ => rfl) rfl rfl rfl rfl rfl rfl (m_put4 x0 (gt G + 0) (by omega) e0) (fun r h' hq => ?_)
    obtain ⟨rfl, b1, rfl, e1, f1, v1⟩ := hq
    show Ev X _ _ 20 [Vr 166, Vi x0, Vi x1, Vi x2, Vi x3, Vi x4] [] ((SHv st dr rd), (ovl a s b1)) _
    refine Ev.call (k := 2) (pc1 := 22) (L1 := [Vr 166, Vi x0, Vi x1, Vi x2, Vi x3, Vi x4]) (S1 := [Vi x1, Vr 166]) (h1 := ((SHv st dr rd), (ovl a s b1))) (m' := 154) (as := [Vr 166, Vi x1]) (S' := []) (L0 := [Vr 166, Vi x1, Vx]) (fun _ => rfl) rfl rfl rfl rfl rfl rfl (m_put4 x1 (gt G + 4) (by omega) e1) (fun r h' hq => ?_)
    obtain ⟨rfl, b2, rfl, e2, f2, v2⟩ := hq
    show Ev X _ _ 25 [Vr 166, Vi x0, Vi x1, Vi x2, Vi x3, Vi x4] [] ((SHv st dr rd), (ovl a s b2)) _
    refine Ev.call (k := 2) (pc1 := 27) (L1 := [Vr 166, Vi x0, Vi x1, Vi x2, Vi x3, Vi x4]) (S1 := [Vi x2, Vr 166]) (h1 := ((SHv st dr rd), (ovl a s b2))) (m' := 154) (as := [Vr 166, Vi x2]) (S' := []) (L0 := [Vr 166, Vi x2, Vx]) (fun _ => rfl) rfl rfl rfl rfl rfl rfl (m_put4 x2 (gt G + 8) (by omega) e2) (fun r h' hq => ?_)
    obtain ⟨rfl, b3, rfl, e3, f3, v3⟩ := hq
    show Ev X _ _ 30 [Vr 166, Vi x0, Vi x1, Vi x2, Vi x3, Vi x4] [] ((SHv st dr rd), (ovl a s b3)) _
    refine Ev.call (k := 2) (pc1 := 33) (L1 := [Vr 166, Vi x0, Vi x1, Vi x2, Vi x3, Vi x4]) (S1 := [Vi x3, Vr 166]) (h1 := ((SHv st dr rd), (ovl a s b3))) (m' := 154) (as := [Vr 166, Vi x3]) (S' := []) (L0 := [Vr 166, Vi x3, Vx]) (fun _ => rfl) rfl rfl rfl rfl rfl rfl (m_put4 x3 (gt G + 12) (by omega) e3) (fun r h' hq => ?_)
    obtain ⟨rfl, b4, rfl, e4, f4, v4⟩ := hq
    show Ev X _ _ 36 [Vr 166, Vi x0, Vi x1, Vi x2, Vi x3, Vi x4] [] ((SHv st dr rd), (ovl a s b4)) _
    refine Ev.call (k := 2) (pc1 := 39) (L1 := [Vr 166, Vi x0, Vi x1, Vi x2, Vi x3, Vi x4]) (S1 := [Vi x4, Vr 166]) (h1 := ((SHv st dr rd), (ovl a s b4))) (m' := 154) (as := [Vr 166, Vi x4]) (S' := []) (L0 := [Vr 166, Vi x4, Vx]) (fun _ => rfl) rfl rfl rfl rfl rfl rfl (m_put4 x4 (gt G + 16) (by omega) e4) (fun r h' hq => ?_)
    obtain ⟨rfl, b5, rfl, e5, f5, v5⟩ := hq
    show Ev X _ _ 42 [Vr 166, Vi x0, Vi x1, Vi x2, Vi x3, Vi x4] [] ((SHv st dr rd), (ovl a s b5)) _
    refine Ev.steps (k := 2) (pc' := 46) (L' := [Vr 166, Vi x0, Vi x1, Vi x2, Vi x3, Vi x4]) (S' := [Vi (b5 166 1)]) (h' := ((SHv st dr rd), (ovl a s b5))) (fun _ => rfl) ?_
    rw [e5]
    refine Ev.fin (k := 1) (r := (some (Vi ((gt G + 20 : Nat) : Int)))) (h' := ((SHv st dr rd), (ovl a s b5))) (fun _ => rfl) ?_
    rw [if_pos (by omega), if_pos (by omega)]
    refine ⟨rfl, b5, rfl, hT.tp (fun o i h1 h2 => ?_) (by omega) e5 (fun i hi => ?_)⟩
    · rw [f5 o i (by omega) h2, f4 o i (by omega) h2, f3 o i (by omega) h2, f2 o i (by omega) h2, f1 o i (by omega) h2]
    · unfold fedT
      by_cases hlt : i < gt G
      · rw [if_pos hlt, f5 167 i (by omega) (by omega), f4 167 i (by omega) (by omega), f3 167 i (by omega) (by omega), f2 167 i (by omega) (by omega), f1 167 i (by omega) (by omega)]
        exact t3 i hlt
      · rw [if_neg hlt]
        refine ⟨?_, bytS_r _ _⟩
        obtain ⟨j, rfl⟩ : ∃ j, i = gt G + j := ⟨i - gt G, by omega⟩
        rw [Nat.add_sub_cancel_left]
        rcases (show j / 4 = 0 ∨ j / 4 = 1 ∨ j / 4 = 2 ∨ j / 4 = 3 ∨ j / 4 = 4 by omega) with h | h | h | h | h
        · have := v1 (j % 4) (by omega)
          rw [f5 167 _ (by omega) (by omega), f4 167 _ (by omega) (by omega), f3 167 _ (by omega) (by omega), f2 167 _ (by omega) (by omega), h]
          exact (congrArg (b1 167) (by omega)).trans this
        · have := v2 (j % 4) (by omega)
          rw [f5 167 _ (by omega) (by omega), f4 167 _ (by omega) (by omega), f3 167 _ (by omega) (by omega), h]
          exact (congrArg (b2 167) (by omega)).trans this
        · have := v3 (j % 4) (by omega)
          rw [f5 167 _ (by omega) (by omega), f4 167 _ (by omega) (by omega), h]
          exact (congrArg (b3 167) (by omega)).trans this
        · have := v4 (j % 4) (by omega)
          rw [f5 167 _ (by omega) (by omega), h]
          exact (congrArg (b4 167) (by omega)).trans this
        · have := v5 (j % 4) (by omega)
          rw [h]
          exact (congrArg (b5 167) (by omega)).trans this
  · refine Ev.fin (k := 2) (r := (some (Vi (-1)))) (h' := ((SHv st dr rd), (ovl a s b))) (fun _ => rfl) ?_
    rw [if_neg (by omega), if_neg (by omega)]
    exact ⟨rfl, b, rfl, hT⟩
theorem g_end {X : List Int} {d : Nat} {st dr rd : Int} {a s b : C3} (n : Int) {G : GST} (hT : TopM G b) : Ev X d 155 0 [Vr 166, Vi n] [] (SHv st dr rd, ovl a s b) (fun rr hh => rr = some (Vi (if 0 ≤ n ∧ n ≤ ((gt G : Nat) : Int) then 1 else 0)) ∧ ∃ b' : C3, hh = (SHv st dr rd, ovl a s b') ∧ TopM (nEnd G n) b') := by
  obtain ⟨bk, hY_b, hWY, hB1, hWB, hWE, hn180, hEQ, hTp, hfk, hfp, hO⟩ := id hT
  obtain ⟨hb2_b, h12_b, h168_b, h169_b, h170_b, h171_b, h173_b, h172_b, h174_b, h176_b, h178_b, h175_b, h177_b, h179_b, h180_b, h184_b⟩ := id hY_b
  obtain ⟨wR, wD, wW, wT, wL, wC, wdoor, wsym, wWI, wTI, wCl, wRu⟩ := id hWY
  obtain ⟨w8, wWc⟩ := wW
  obtain ⟨t8, wTc⟩ := wT
  obtain ⟨r8, wRc⟩ := wR
  obtain ⟨l30, wLc⟩ := wL
  obtain ⟨c12, wCc⟩ := wC
  obtain ⟨e202, e203, e204, e211, e210, eHis, e212⟩ := id hEQ
  obtain ⟨t1, e0, t3⟩ := hTp
  unfold nEnd
  refine Ev.ite (P := n < 0) (k := 2) (a := 12) (b := 4) (L' := [Vr 166, Vi n]) (S' := []) (h' := ((SHv st dr rd), (ovl a s b))) (fun _ => rfl) (fun b1 => ?_) (fun b1 => ?_)
  · refine Ev.fin (k := 2) (r := (some (Vi 0))) (h' := ((SHv st dr rd), (ovl a s b))) (fun _ => rfl) ?_
    rw [if_neg (by omega), if_neg (by omega)]
    exact ⟨rfl, b, rfl, hT⟩
  · refine Ev.steps (k := 3) (pc' := 9) (L' := [Vr 166, Vi n]) (S' := [Vi (b 166 1), Vi n]) (h' := ((SHv st dr rd), (ovl a s b))) (fun _ => rfl) ?_
    rw [e0]
    refine Ev.ite (P := n ≤ ((gt G : Nat) : Int)) (k := 1) (a := 14) (b := 12) (L' := [Vr 166, Vi n]) (S' := []) (h' := ((SHv st dr rd), (ovl a s b))) (fun _ => rfl) (fun b9 => ?_) (fun b9 => ?_)
    · refine Ev.steps (k := 2) (pc' := 16) (L' := [Vr 166, Vi n]) (S' := [Vi n, Vr 166]) (h' := ((SHv st dr rd), (ovl a s b))) (fun _ => rfl) ?_
      refine Ev.putf (c' := (ovl a s (updC b 166 1 n))) rfl (by decide) rfl rfl rfl (ovl_wm (by decide)) ?_
      refine Ev.fin (k := 2) (r := (some (Vi 1))) (h' := ((SHv st dr rd), (ovl a s (updC b 166 1 n)))) (fun _ => rfl) ?_
      rw [if_pos (by omega), if_pos (by omega)]
      exact ⟨rfl, _, rfl, hT.tp (fun o i h1 h2 => updC_nt h2) (by omega) (by rw [updC_sm]; omega) (fun i hi => t3 i (by omega))⟩
    · refine Ev.fin (k := 2) (r := (some (Vi 0))) (h' := ((SHv st dr rd), (ovl a s b))) (fun _ => rfl) ?_
      rw [if_neg (by omega), if_neg (by omega)]
      exact ⟨rfl, b, rfl, hT⟩
