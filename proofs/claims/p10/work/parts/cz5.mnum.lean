theorem figs_n2 {cap : Nat} {L : List Int32} {y : Int32} (h : y < 0) : lputs cap (lput cap L (b8 45)) (fd (mag y) 10 0 false) = lputs cap L (figs y) := by
  unfold figs
  rw [if_pos h]
  rfl
theorem figs_p2 {cap : Nat} {L : List Int32} {y : Int32} (h : ¬ y < 0) : lputs cap L (fd (mag y) 10 0 false) = lputs cap L (figs y) := by
  unfold figs
  rw [if_neg h]
  rfl
