/-! the meeting lemma, on one line -/
theorem com_iff (a b c d : Int) : 0 < comS a b c d ↔ a ≠ b ∧ c ≠ d ∧ (a < c ∨ a < d ∨ b < c ∨ b < d) ∧ (c < a ∨ c < b ∨ d < a ∨ d < b) := by
  unfold comS; omega
theorem ord_eq {x y x' y' : Int} (hx : 0 ≤ x ∧ x ≤ 16) (hx' : 0 ≤ x' ∧ x' ≤ 16) : y * 17 + x = y' * 17 + x' ↔ x = x' ∧ y = y' := by omega
/-- on a segment, by the order of places -/
theorem on_ord {ax ay vx vy ux uy : Int} (ha : 0 ≤ ax ∧ ax ≤ 16) (hv : 0 ≤ vx ∧ vx ≤ 16) (hu : 0 ≤ ux ∧ ux ≤ 16) (h : tr ax ay vx vy ux uy = 0) : onS ax ay vx vy ux uy ↔ btw (ay * 17 + ax) (vy * 17 + vx) (uy * 17 + ux) := by
  have f1 : uy = ay → vy = ay ∨ ux = ax := by
    intro q
    subst q
    have e : (vy - uy) * (ux - ax) = 0 := by unfold tr at h; grind
    rcases Int.mul_eq_zero.mp e with z | z <;> omega
  have f2 : uy = vy → vy = ay ∨ ux = vx := by
    intro q
    subst q
    have e : (uy - ay) * (vx - ux) = 0 := by unfold tr at h; grind
    rcases Int.mul_eq_zero.mp e with z | z <;> omega
  have f3 : vy = ay → vx = ax ∨ uy = ay := by
    intro q
    subst q
    have e : (vx - ax) * (uy - vy) = 0 := by unfold tr at h; grind
    rcases Int.mul_eq_zero.mp e with z | z <;> omega
  constructor
  · rintro ⟨-, h2, h3⟩
    unfold btw at *
    omega
  · intro hb
    refine ⟨h, ?_, ?_⟩
    · by_cases q : vy = ay
      · unfold btw at *
        have := f3 q
        omega
      · have e : (vy - ay) * (ux - ax) = (uy - ay) * (vx - ax) := by unfold tr at h; grind
        have := part_s (u := vy - ay) (w := uy - ay) (A := vx - ax) (s := ux - ax) (by omega) (by unfold btw at hb; omega) e
        unfold btw
        omega
    · unfold btw at *
      omega
theorem mono_l {m n dx dy : Int} (hx : 0 < dx) (hy : 0 < dy) (e : m * dy = n * dx) : 0 < m ↔ 0 < n := by
  constructor
  · intro h
    have := Int.mul_pos h hy
    rw [e] at this
    rcases Int.lt_trichotomy n 0 with q | q | q
    · have := Int.mul_neg_of_neg_of_pos q hx; omega
    · subst q; simp at this
    · exact q
  · intro h
    have := Int.mul_pos h hx
    rw [← e] at this
    rcases Int.lt_trichotomy m 0 with q | q | q
    · have := Int.mul_neg_of_neg_of_pos q hy; omega
    · subst q; simp at this
    · exact q
/-- a point on the line through o in the direction d -/
def onL (dx dy ox oy x y : Int) : Prop := dx * (y - oy) = dy * (x - ox)
theorem onL_2 {dx dy ox oy x y x' y' : Int} (h : onL dx dy ox oy x y) (h' : onL dx dy ox oy x' y') : (x' - x) * dy = (y' - y) * dx := by unfold onL at *; grind
/-- on a line that rises or falls the order of places is that of y, and x goes with it -/
theorem pr_up {dx dy ox oy x y x' y' : Int} (hx : 0 < dx) (hy : 0 < dy) (h : onL dx dy ox oy x y) (h' : onL dx dy ox oy x' y') : (x < x' ↔ y < y') ∧ (x' < x ↔ y' < y) := by
  have e1 := mono_l hx hy (onL_2 h h')
  have e2 := mono_l hx hy (onL_2 h' h)
  omega
theorem com_line {dx dy ox oy ux uy wx wy ax ay vx vy : Int} (hu : onL dx dy ox oy ux uy) (hw : onL dx dy ox oy wx wy) (ha : onL dx dy ox oy ax ay) (hv : onL dx dy ox oy vx vy) (hd : 0 ≤ dy) (hd2 : dx ≠ 0 ∨ dy ≠ 0) (bu : 0 ≤ ux ∧ ux ≤ 16) (bw : 0 ≤ wx ∧ wx ≤ 16) (ba : 0 ≤ ax ∧ ax ≤ 16) (bv : 0 ≤ vx ∧ vx ≤ 16) :
    (0 < comS ux wx ax vx ∨ 0 < comS uy wy ay vy) ↔ 0 < comS (uy * 17 + ux) (wy * 17 + wx) (ay * 17 + ax) (vy * 17 + vx) := by
  rw [com_iff, com_iff, com_iff]
  by_cases q : dy = 0
  · subst q
    have key : ∀ {x y : Int}, onL dx 0 ox oy x y → y = oy := by
      intro x y h
      unfold onL at h
      have : dx * (y - oy) = 0 := by grind
      rcases Int.mul_eq_zero.mp this with z | z <;> omega
    have e1 := key hu
    have e2 := key hw
    have e3 := key ha
    have e4 := key hv
    subst e1
    rw [e2, e3, e4]
    omega
  · have hy : 0 < dy := by omega
    rcases Int.lt_trichotomy dx 0 with hx | hx | hx
    · have nm : ∀ {x y : Int}, onL dx dy ox oy x y → onL (-dx) dy (-ox) oy (-x) y := by
        intro x y h; unfold onL at *; grind
      have p1 := pr_up (by omega) hy (nm hu) (nm hw)
      have p2 := pr_up (by omega) hy (nm ha) (nm hv)
      have p3 := pr_up (by omega) hy (nm hu) (nm ha)
      have p4 := pr_up (by omega) hy (nm hu) (nm hv)
      have p5 := pr_up (by omega) hy (nm hw) (nm ha)
      have p6 := pr_up (by omega) hy (nm hw) (nm hv)
      clear nm hu hw ha hv
      have r1 : uy * 17 + ux < wy * 17 + wx ↔ uy < wy := by omega
      have r1' : uy * 17 + ux ≠ wy * 17 + wx ↔ uy ≠ wy := by omega
      have r2' : ay * 17 + ax ≠ vy * 17 + vx ↔ ay ≠ vy := by omega
      have r3 : uy * 17 + ux < ay * 17 + ax ↔ uy < ay := by omega
      have r3' : ay * 17 + ax < uy * 17 + ux ↔ ay < uy := by omega
      have r4 : uy * 17 + ux < vy * 17 + vx ↔ uy < vy := by omega
      have r4' : vy * 17 + vx < uy * 17 + ux ↔ vy < uy := by omega
      have r5 : wy * 17 + wx < ay * 17 + ax ↔ wy < ay := by omega
      have r5' : ay * 17 + ax < wy * 17 + wx ↔ ay < wy := by omega
      have r6 : wy * 17 + wx < vy * 17 + vx ↔ wy < vy := by omega
      have r6' : vy * 17 + vx < wy * 17 + wx ↔ vy < wy := by omega
      rw [r1', r2', r3, r3', r4, r4', r5, r5', r6, r6']
      have x1 : ux ≠ wx ↔ uy ≠ wy := by omega
      have x2 : ax ≠ vx ↔ ay ≠ vy := by omega
      have x3 : ux < ax ↔ ay < uy := by omega
      have x3' : ax < ux ↔ uy < ay := by omega
      have x4 : ux < vx ↔ vy < uy := by omega
      have x4' : vx < ux ↔ uy < vy := by omega
      have x5 : wx < ax ↔ ay < wy := by omega
      have x5' : ax < wx ↔ wy < ay := by omega
      have x6 : wx < vx ↔ vy < wy := by omega
      have x6' : vx < wx ↔ wy < vy := by omega
      rw [x1, x2, x3, x3', x4, x4', x5, x5', x6, x6']
      constructor
      · rintro (⟨z1, z2, z3, z4⟩ | h)
        · refine ⟨z1, z2, ?_, ?_⟩
          · rcases z4 with z | z | z | z <;> simp [z]
          · rcases z3 with z | z | z | z <;> simp [z]
        · exact h
      · exact Or.inr
    · subst hx
      have key : ∀ {x y : Int}, onL 0 dy ox oy x y → x = ox := by
        intro x y h
        unfold onL at h
        have : dy * (x - ox) = 0 := by grind
        rcases Int.mul_eq_zero.mp this with z | z <;> omega
      have e1 := key hu
      have e2 := key hw
      have e3 := key ha
      have e4 := key hv
      subst e1
      rw [e2, e3, e4]
      omega
    · have p1 := pr_up hx hy hu hw
      have p2 := pr_up hx hy ha hv
      have p3 := pr_up hx hy hu ha
      have p4 := pr_up hx hy hu hv
      have p5 := pr_up hx hy hw ha
      have p6 := pr_up hx hy hw hv
      clear hu hw ha hv
      have r1' : uy * 17 + ux ≠ wy * 17 + wx ↔ uy ≠ wy := by omega
      have r2' : ay * 17 + ax ≠ vy * 17 + vx ↔ ay ≠ vy := by omega
      have r3 : uy * 17 + ux < ay * 17 + ax ↔ uy < ay := by omega
      have r3' : ay * 17 + ax < uy * 17 + ux ↔ ay < uy := by omega
      have r4 : uy * 17 + ux < vy * 17 + vx ↔ uy < vy := by omega
      have r4' : vy * 17 + vx < uy * 17 + ux ↔ vy < uy := by omega
      have r5 : wy * 17 + wx < ay * 17 + ax ↔ wy < ay := by omega
      have r5' : ay * 17 + ax < wy * 17 + wx ↔ ay < wy := by omega
      have r6 : wy * 17 + wx < vy * 17 + vx ↔ wy < vy := by omega
      have r6' : vy * 17 + vx < wy * 17 + wx ↔ vy < wy := by omega
      rw [r1', r2', r3, r3', r4, r4', r5, r5', r6, r6']
      have x1 : ux ≠ wx ↔ uy ≠ wy := by omega
      have x2 : ax ≠ vx ↔ ay ≠ vy := by omega
      rw [x1, x2, p3.1, p3.2, p4.1, p4.2, p5.1, p5.2, p6.1, p6.2]
      exact or_self_iff
theorem onL_neg {dx dy ox oy x y : Int} (h : onL dx dy ox oy x y) : onL (-dx) (-dy) ox oy x y := by unfold onL at *; grind
theorem com_line2 {dx dy ox oy ux uy wx wy ax ay vx vy : Int} (hu : onL dx dy ox oy ux uy) (hw : onL dx dy ox oy wx wy) (ha : onL dx dy ox oy ax ay) (hv : onL dx dy ox oy vx vy) (hd2 : dx ≠ 0 ∨ dy ≠ 0) (bu : 0 ≤ ux ∧ ux ≤ 16) (bw : 0 ≤ wx ∧ wx ≤ 16) (ba : 0 ≤ ax ∧ ax ≤ 16) (bv : 0 ≤ vx ∧ vx ≤ 16) :
    (0 < comS ux wx ax vx ∨ 0 < comS uy wy ay vy) ↔ 0 < comS (uy * 17 + ux) (wy * 17 + wx) (ay * 17 + ax) (vy * 17 + vx) := by
  by_cases q : 0 ≤ dy
  · exact com_line hu hw ha hv q hd2 bu bw ba bv
  · exact com_line (onL_neg hu) (onL_neg hw) (onL_neg ha) (onL_neg hv) (by omega) (by omega) bu bw ba bv
theorem com_col {ux uy wx wy ax ay vx vy : Int} (h6 : tr ux uy wx wy ax ay = 0) (h7 : tr ux uy wx wy vx vy = 0) (h8 : tr ax ay vx vy ux uy = 0) (h9 : tr ax ay vx vy wx wy = 0) (bu : 0 ≤ ux ∧ ux ≤ 16) (bw : 0 ≤ wx ∧ wx ≤ 16) (ba : 0 ≤ ax ∧ ax ≤ 16) (bv : 0 ≤ vx ∧ vx ≤ 16) :
    (0 < comS ux wx ax vx ∨ 0 < comS uy wy ay vy) ↔ 0 < comS (uy * 17 + ux) (wy * 17 + wx) (ay * 17 + ax) (vy * 17 + vx) := by
  by_cases q : vx - ax ≠ 0 ∨ vy - ay ≠ 0
  · refine com_line2 (dx := vx - ax) (dy := vy - ay) (ox := ax) (oy := ay) ?_ ?_ ?_ ?_ q bu bw ba bv
    · unfold onL; unfold tr at h8; omega
    · unfold onL; unfold tr at h9; omega
    · unfold onL; simp
    · unfold onL; exact Int.mul_comm _ _
  · by_cases q2 : wx - ux ≠ 0 ∨ wy - uy ≠ 0
    · refine com_line2 (dx := wx - ux) (dy := wy - uy) (ox := ux) (oy := uy) ?_ ?_ ?_ ?_ q2 bu bw ba bv
      · unfold onL; simp
      · unfold onL; exact Int.mul_comm _ _
      · unfold onL; unfold tr at h6; omega
      · unfold onL; unfold tr at h7; omega
    · have e1 : vx = ax := by omega
      have e2 : vy = ay := by omega
      have e3 : wx = ux := by omega
      have e4 : wy = uy := by omega
      subst e1 e2 e3 e4
      rw [com_iff, com_iff, com_iff]
      omega
/-- the reference's way, all on one line -/
def mRl (ux uy wx wy ax ay vx vy bx by' : Int) : Prop := (looQ ux uy ax ay bx by' ∧ onS ax ay vx vy ux uy) ∨ (looQ wx wy ax ay bx by' ∧ onS ax ay vx vy wx wy) ∨ (looQ vx vy ax ay bx by' ∧ onS ux uy wx wy vx vy) ∨ (0 < comS ux wx ax vx ∨ 0 < comS uy wy ay vy)
theorem line_same {ux uy wx wy ax ay vx vy bx by' : Int} (h6 : tr ux uy wx wy ax ay = 0) (h7 : tr ux uy wx wy vx vy = 0) (h8 : tr ax ay vx vy ux uy = 0) (h9 : tr ax ay vx vy wx wy = 0) (bu : 0 ≤ ux ∧ ux ≤ 16) (bw : 0 ≤ wx ∧ wx ≤ 16) (ba : 0 ≤ ax ∧ ax ≤ 16) (bv : 0 ≤ vx ∧ vx ≤ 16) (bb : 0 ≤ bx ∧ bx ≤ 16) :
    lnP (uy * 17 + ux) (wy * 17 + wx) (ay * 17 + ax) (vy * 17 + vx) (by' * 17 + bx) ↔ mRl ux uy wx wy ax ay vx vy bx by' := by
  unfold mRl looQ
  rw [com_col h6 h7 h8 h9 bu bw ba bv, on_ord ba bv bu h8, on_ord ba bv bw h9, on_ord bu bw bv h7]
  rw [← ord_eq bu ba (y := uy) (y' := ay), ← ord_eq bu bb (y := uy) (y' := by'), ← ord_eq bw ba (y := wy) (y' := ay), ← ord_eq bw bb (y := wy) (y' := by'), ← ord_eq bv ba (y := vy) (y' := ay), ← ord_eq bv bb (y := vy) (y' := by')]
  generalize uy * 17 + ux = U
  generalize wy * 17 + wx = W
  generalize ay * 17 + ax = P
  generalize vy * 17 + vx = V
  generalize by' * 17 + bx = Q
  unfold lnP comS btw
  omega
