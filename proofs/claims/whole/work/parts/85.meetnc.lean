/-! two segments that are not on one line -/
theorem mul_pos_btw (x y : Int) : ¬ (x * y > 0) ↔ btw x y 0 := by
  unfold btw
  rcases Int.lt_trichotomy x 0 with hx | hx | hx
  · rcases Int.lt_trichotomy y 0 with hy | hy | hy
    · have := Int.mul_pos_of_neg_of_neg hx hy
      omega
    · subst hy; simp; omega
    · have := Int.mul_neg_of_neg_of_pos hx hy
      omega
  · subst hx; simp; omega
  · rcases Int.lt_trichotomy y 0 with hy | hy | hy
    · have := Int.mul_neg_of_pos_of_neg hx hy
      omega
    · subst hy; simp; omega
    · have := Int.mul_pos hx hy
      omega
theorem col_all {ux uy wx wy ax ay vx vy : Int} (hne : ¬ (ux = wx ∧ uy = wy)) (h6 : tr ux uy wx wy ax ay = 0) (h7 : tr ux uy wx wy vx vy = 0) : tr ax ay vx vy ux uy = 0 ∧ tr ax ay vx vy wx wy = 0 := by
  by_cases q : ux = wx
  · have k : wy - uy ≠ 0 := by omega
    have e1 : (wy - uy) * tr ax ay vx vy ux uy = 0 := by unfold tr at *; grind
    have e2 : (wy - uy) * tr ax ay vx vy wx wy = 0 := by unfold tr at *; grind
    exact ⟨(Int.mul_eq_zero.mp e1).resolve_left k, (Int.mul_eq_zero.mp e2).resolve_left k⟩
  · have k : wx - ux ≠ 0 := by omega
    have e1 : (wx - ux) * tr ax ay vx vy ux uy = 0 := by unfold tr at *; grind
    have e2 : (wx - ux) * tr ax ay vx vy wx wy = 0 := by unfold tr at *; grind
    exact ⟨(Int.mul_eq_zero.mp e1).resolve_left k, (Int.mul_eq_zero.mp e2).resolve_left k⟩
