/-! lines that cross -/
theorem aff_x (cx cy dx dy ax ay bx by' px py : Int) (h : tr ax ay bx by' px py = 0) : (bx - ax) * (tr cx cy dx dy px py - tr cx cy dx dy ax ay) = (px - ax) * (tr cx cy dx dy bx by' - tr cx cy dx dy ax ay) ∧ (by' - ay) * (tr cx cy dx dy px py - tr cx cy dx dy ax ay) = (py - ay) * (tr cx cy dx dy bx by' - tr cx cy dx dy ax ay) := by
  unfold tr at *; constructor <;> grind
/-- a point of a segment: its turn lies between those of the ends -/
theorem aff_btw {cx cy dx dy ax ay bx by' px py : Int} (h : onS ax ay bx by' px py) : btw (tr cx cy dx dy ax ay) (tr cx cy dx dy bx by') (tr cx cy dx dy px py) := by
  obtain ⟨h1, h2, h3⟩ := h
  obtain ⟨e1, e2⟩ := aff_x cx cy dx dy ax ay bx by' px py h1
  unfold btw at h2 h3 ⊢
  by_cases q : bx = ax
  · by_cases q2 : by' = ay
    · have : px = ax := by omega
      have : py = ay := by omega
      subst_vars
      left; omega
    · have := part_s (u := by' - ay) (w := py - ay) (by omega) (by omega) e2
      generalize tr cx cy dx dy ax ay = A at *
      generalize tr cx cy dx dy bx by' = B at *
      generalize tr cx cy dx dy px py = P at *
      omega
  · have := part_s (u := bx - ax) (w := px - ax) (by omega) (by omega) e1
    generalize tr cx cy dx dy ax ay = A at *
    generalize tr cx cy dx dy bx by' = B at *
    generalize tr cx cy dx dy px py = P at *
    omega
/-- where a line passes between the ends of a segment -/
theorem mid_on {cx cy dx dy ax ay bx by' px py : Int} (h : tr ax ay bx by' px py = 0) (h0 : tr cx cy dx dy px py = 0) (hne : tr cx cy dx dy ax ay ≠ tr cx cy dx dy bx by') (hs : btw (tr cx cy dx dy ax ay) (tr cx cy dx dy bx by') 0) : onS ax ay bx by' px py := by
  obtain ⟨e1, e2⟩ := aff_x cx cy dx dy ax ay bx by' px py h
  rw [h0] at e1 e2
  generalize tr cx cy dx dy ax ay = A at *
  generalize tr cx cy dx dy bx by' = B at *
  have k1 := part_s (u := B - A) (w := 0 - A) (A := bx - ax) (s := px - ax) (by omega) (by unfold btw at hs; omega) (by rw [Int.mul_comm (B - A), ← e1, Int.mul_comm])
  have k2 := part_s (u := B - A) (w := 0 - A) (A := by' - ay) (s := py - ay) (by omega) (by unfold btw at hs; omega) (by rw [Int.mul_comm (B - A), ← e2, Int.mul_comm])
  refine ⟨h, ?_, ?_⟩
  · unfold btw; omega
  · unfold btw; omega
/-- two lines that are not parallel meet in one point only -/
theorem one_pt {cx cy dx dy ax ay bx by' px py qx qy : Int} (hne : tr cx cy dx dy ax ay ≠ tr cx cy dx dy bx by') (h1 : tr ax ay bx by' px py = 0) (h2 : tr ax ay bx by' qx qy = 0) (h3 : tr cx cy dx dy px py = 0) (h4 : tr cx cy dx dy qx qy = 0) : px = qx ∧ py = qy := by
  have k : tr cx cy dx dy bx by' - tr cx cy dx dy ax ay ≠ 0 := by omega
  have e1 : (tr cx cy dx dy bx by' - tr cx cy dx dy ax ay) * (px - qx) = 0 := by unfold tr at *; grind
  have e2 : (tr cx cy dx dy bx by' - tr cx cy dx dy ax ay) * (py - qy) = 0 := by unfold tr at *; grind
  rcases Int.mul_eq_zero.mp e1 with z | z
  · exact absurd z k
  · rcases Int.mul_eq_zero.mp e2 with y | y
    · exact absurd y k
    · omega
