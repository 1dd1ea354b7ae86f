/-! THE CLASS READS: all statements -/
theorem c_reads_l {X : List Int} {st dr : Int} {s b : C3} {W : TXT} {z : Nat} (hz : hyS z) {x : Except PF STY} {a00 : C3} {Q : Option pm_V → pm_H → Prop} (by0 : Int) (d i : Nat) (x4 x5 : pm_V) (S : STY) (a0 : C3) (p0 c0 : Nat) (X0 : XoC W S.1 z p0 c0 8 a0) (P0 : PaC S a0 z c0) (hWY : WfY S) (hWD : WfD S) (hc0 : c0 ≤ p0) (hi : i ≤ 1200) (hF : FtZ z a00 a0) (hx : stsT W (1200 - i) S p0 = x)
  (KE : ∀ e a', x = .error e → FtZ z a00 a' → BaC W a' → BrC e a' → Q (some (Vi 0)) (SHv st dr (z : Int), ovl a' s b))
  (KO : ∀ a' S' p' c' (i' : Int) (y4 y5 : pm_V), x = .ok S' → XoC W S'.1 z p' c' 8 a' → PaC S' a' z c' → WfY S' → WfD S' → FtZ z a00 a' → Ev X (d + 401) 22 284 [Vr 114, Vi by0, Vr (z : Int), Vi i', y4, y5] [] (SHv st dr (z : Int), ovl a' s b) Q) : Ev X (d + 401) 22 51 [Vr 114, Vi by0, Vr (z : Int), Vi (i : Int), x4, x5] [] (SHv st dr (z : Int), ovl a0 s b) Q := by
  induction hk : 1200 - i using Nat.strongRecOn generalizing i x4 x5 S a0 p0 c0 with
  | ind kk ih =>
    rw [hk] at hx
    have e9 : a0 114 9 = 0 := X0.1.2.1
    refine Ev.ite (P := 1200 ≤ (i : Int)) (k := 3) (a := 284) (b := 58) (L' := [Vr 114, Vi by0, Vr (z : Int), Vi (i : Int), x4, x5]) (S' := []) (h' := ((SHv st dr (z : Int)), (ovl a0 s b))) (fun _ => rfl) (fun b55 => ?_) (fun b55 => ?_)
    · have hst : stsT W kk S p0 = .ok S := by
        match kk, hk with
        | 0, _ => rfl
        | F + 1, _ => exact if_pos (by omega)
      exact KO a0 S p0 c0 _ _ _ (hx.symm.trans hst) X0 P0 hWY hWD hF
    · refine Ev.steps (k := 2) (pc' := 62) (L' := [Vr 114, Vi by0, Vr (z : Int), Vi (i : Int), x4, x5]) (S' := [Vi (a0 114 9)]) (h' := ((SHv st dr (z : Int)), (ovl a0 s b))) (fun _ => rfl) ?_
      rw [e9]
      refine Ev.steps (k := 3) (pc' := 69) (L' := [Vr 114, Vi by0, Vr (z : Int), Vi (i : Int), x4, x5]) (S' := [Vi (a0 114 5)]) (h' := ((SHv st dr (z : Int)), (ovl a0 s b))) (fun _ => rfl) ?_
      rw [X0.t5]
      refine Ev.ite (P := ((tC W p0 : Nat) : Int) = 302) (k := 2) (a := 284) (b := 75) (L' := [Vr 114, Vi by0, Vr (z : Int), Vi (i : Int), x4, x5]) (S' := []) (h' := ((SHv st dr (z : Int)), (ovl a0 s b))) (fun _ => rfl) (fun b72 => ?_) (fun b72 => ?_)
      · have hst : stsT W kk S p0 = .ok S := by
          match kk, hk with
          | 0, _ => rfl
          | F + 1, _ => exact if_pos (by omega)
        exact KO a0 S p0 c0 _ _ _ (hx.symm.trans hst) X0 P0 hWY hWD hF
      · obtain ⟨F, rfl⟩ : ∃ F, kk = F + 1 := ⟨kk - 1, by omega⟩
        have hst : stsT W (F + 1) S p0 = bnX (stmT W S p0) (fun r => stsT W F r.1 r.2) := if_neg (by omega)
        rw [hst] at hx
        have KE2 : ∀ e a', stmT W S p0 = .error e → FtZ z a0 a' → BaC W a' → BrC e a' → Q (some (Vi 0)) (SHv st dr (z : Int), ovl a' s b) := fun e a' h1 h2 h3 h4 => by
          rw [h1, bnX_e] at hx
          exact KE e a' hx.symm (hF.tr h2) h3 h4
        have KK2 : ∀ (q : Int) (n : Int) a' S' p' c', stmT W S p0 = .ok (S', p') → XoC W S'.1 z p' c' 8 a' → PaC S' a' z c' → FtZ z a0 a' → c' ≤ p' → Ev X (d + 401) 22 51 [Vr 114, Vi by0, Vr (z : Int), Vi ((i : Int) + 1), Vi q, Vi n] [] (SHv st dr (z : Int), ovl a' s b) Q := fun q n a' S' p' c' h1 h2 h3 h4 h5 => by
          rw [h1, bnX_o] at hx
          have hw := stm_wf X0.1.1.1 hWY hWD X0.le.1 X0.1.2.2.2.2.2.2.2.2.1 h1
          exact ih F (by omega) (i + 1) _ _ S' a' p' c' h2 h3 hw.1 hw.2.1 h5 (by omega) (hF.tr h4) (by rw [show 1200 - (i + 1) = F by omega]; exact hx) (by omega)
        have hsl := (srt_c (c := tC W p0)).2.2.2.2.2.2
        have c0' := hWY.1.2
        have c1' := hWY.2.1.1
        rcases (show srtT (tC W p0) = 0 ∨ srtT (tC W p0) = 1 ∨ srtT (tC W p0) = 2 ∨ srtT (tC W p0) = 3 ∨ srtT (tC W p0) = 4 ∨ srtT (tC W p0) = 5 ∨ srtT (tC W p0) = 6 by omega) with e | e | e | e | e | e | e
        · exact c_reads_0 hz d i by0 x4 x5 X0 P0 hWY hWD hc0 (by omega) e KE2 (nR S) hWY.1.2 (KK2 _ _)
        · exact c_reads_1 hz d i by0 x4 x5 X0 P0 hWY hWD hc0 (by omega) e KE2 (S.1 0 1).toNat (by omega) (KK2 _ _)
        · exact c_reads_2 hz d i by0 x4 x5 X0 P0 hWY hWD hc0 (by omega) e KE2 (nW S) hWY.2.2.1.2 (KK2 _ _)
        · exact c_reads_3 hz d i by0 x4 x5 X0 P0 hWY hWD hc0 (by omega) e KE2 (nT S) hWY.2.2.2.1.2 (KK2 _ _)
        · exact c_reads_4 hz d i by0 x4 x5 X0 P0 hWY hWD hc0 (by omega) e KE2 (nL S) hWY.2.2.2.2.1.2 (KK2 _ _)
        · exact c_reads_5 hz d i by0 x4 x5 X0 P0 hWY hWD hc0 (by omega) e KE2 (nC S) hWY.2.2.2.2.2.1.2 (KK2 _ _)
        · exact c_reads_6 hz d i by0 x4 x5 X0 P0 hWY hWD hc0 (by omega) e KE2
