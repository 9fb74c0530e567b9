/-! two segments that are not on one line -/
theorem mul_pos_btw (x y : Int) : ¬ (x * y > 0) ↔ btw x y 0 := by
  unfold btw
  rcases Int.lt_trichotomy x 0 with hx | hx | hx
  · rcases Int.lt_trichotomy y 0 with hy | hy | hy
    · have := Int.mul_pos_of_neg_of_neg hx hy
      omega
    · subst hy; simp; omega
    · have := Int.mul_neg_of_neg_of_pos hx hy
      omega
  · subst hx; simp; omega
  · rcases Int.lt_trichotomy y 0 with hy | hy | hy
    · have := Int.mul_neg_of_pos_of_neg hx hy
      omega
    · subst hy; simp; omega
    · have := Int.mul_pos hx hy
      omega
