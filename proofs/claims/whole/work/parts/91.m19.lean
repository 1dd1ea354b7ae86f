/-! THE REFERENCE: what spares -/
theorem TopM.ge {G : GST} {b b' : SC} (h : TopM G b) (hf : FrE 1 b b') : TopM G b' := by
  refine h.fx hf.fx (fun i hi => ?_)
  rw [hf.row (o := 201) (by omega) (by omega)]
  obtain ⟨bk, -, -, -, -, -, -, -, -, -, -, hO⟩ := h
  exact hO i hi
