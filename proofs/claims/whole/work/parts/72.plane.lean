/-! the plane: turns and triangles -/
def tr (ax ay bx by' px py : Int) : Int := (bx - ax) * (py - ay) - (by' - ay) * (px - ax)
def btw (x y z : Int) : Prop := (x ≤ z ∧ z ≤ y) ∨ (y ≤ z ∧ z ≤ x)
def onS (ax ay bx by' px py : Int) : Prop := tr ax ay bx by' px py = 0 ∧ btw ax bx px ∧ btw ay by' py
theorem tr_sw (ax ay bx by' px py : Int) : tr bx by' ax ay px py = -tr ax ay bx by' px py := by unfold tr; grind
theorem onS_sw {ax ay bx by' px py : Int} (h : onS ax ay bx by' px py) : onS bx by' ax ay px py := by
  obtain ⟨h1, h2, h3⟩ := h
  refine ⟨by rw [tr_sw, h1]; rfl, ?_, ?_⟩
  · unfold btw at *; omega
  · unfold btw at *; omega
theorem tr_sum (ax ay vx vy bx by' px py : Int) : tr ax ay vx vy bx by' = tr ax ay vx vy px py + tr vx vy bx by' px py + tr bx by' ax ay px py := by unfold tr; grind
theorem tr_bx (ax ay vx vy bx by' px py : Int) : tr ax ay vx vy bx by' * px = tr vx vy bx by' px py * ax + tr bx by' ax ay px py * vx + tr ax ay vx vy px py * bx := by unfold tr; grind
theorem tr_by (ax ay vx vy bx by' px py : Int) : tr ax ay vx vy bx by' * py = tr vx vy bx by' px py * ay + tr bx by' ax ay px py * vy + tr ax ay vx vy px py * by' := by unfold tr; grind
theorem wt_lo {A p w1 w2 w3 a b c m : Int} (hA : 0 < A) (hs : w1 + w2 + w3 = A) (h1 : 0 ≤ w1) (h2 : 0 ≤ w2) (h3 : 0 ≤ w3) (he : A * p = w1 * a + w2 * b + w3 * c) (ha : w1 ≠ 0 → m ≤ a) (hb : w2 ≠ 0 → m ≤ b) (hc : w3 ≠ 0 → m ≤ c) : m ≤ p := by
  have k : ∀ w x : Int, 0 ≤ w → (w ≠ 0 → m ≤ x) → w * m ≤ w * x := by
    intro w x h0 hx
    by_cases z : w = 0
    · subst z; simp
    · exact Int.mul_le_mul_of_nonneg_left (hx z) h0
  have k1 := k w1 a h1 ha
  have k2 := k w2 b h2 hb
  have k3 := k w3 c h3 hc
  have e : A * m = w1 * m + w2 * m + w3 * m := by rw [← hs]; grind
  exact Int.le_of_mul_le_mul_left (a := A) (b := m) (c := p) (by omega) hA
theorem wt_hi {A p w1 w2 w3 a b c m : Int} (hA : 0 < A) (hs : w1 + w2 + w3 = A) (h1 : 0 ≤ w1) (h2 : 0 ≤ w2) (h3 : 0 ≤ w3) (he : A * p = w1 * a + w2 * b + w3 * c) (ha : w1 ≠ 0 → a ≤ m) (hb : w2 ≠ 0 → b ≤ m) (hc : w3 ≠ 0 → c ≤ m) : p ≤ m := by
  have k : ∀ w x : Int, 0 ≤ w → (w ≠ 0 → x ≤ m) → w * x ≤ w * m := by
    intro w x h0 hx
    by_cases z : w = 0
    · subst z; simp
    · exact Int.mul_le_mul_of_nonneg_left (hx z) h0
  have k1 := k w1 a h1 ha
  have k2 := k w2 b h2 hb
  have k3 := k w3 c h3 hc
  have e : A * m = w1 * m + w2 * m + w3 * m := by rw [← hs]; grind
  exact Int.le_of_mul_le_mul_left (a := A) (b := p) (c := m) (by omega) hA
theorem col_btw {xi yi xj yj px py : Int} (hx : xi < xj) (h1 : xi ≤ px) (h2 : px ≤ xj) (h : tr xi yi xj yj px py = 0) : btw yi yj py := by
  unfold tr at h
  have hu : 0 < xj - xi := by omega
  have e : (xj - xi) * (py - yi) = (yj - yi) * (px - xi) := by omega
  unfold btw
  by_cases c : yi ≤ yj
  · left
    have k1 : 0 ≤ (yj - yi) * (px - xi) := Int.mul_nonneg (by omega) (by omega)
    have k2 : (yj - yi) * (px - xi) ≤ (yj - yi) * (xj - xi) := Int.mul_le_mul_of_nonneg_left (by omega) (by omega)
    have g1 : (xj - xi) * 0 ≤ (xj - xi) * (py - yi) := by rw [e, Int.mul_zero]; exact k1
    have g2 : (xj - xi) * (py - yi) ≤ (xj - xi) * (yj - yi) := by rw [e, Int.mul_comm (xj - xi)]; exact k2
    have := Int.le_of_mul_le_mul_left g1 hu
    have := Int.le_of_mul_le_mul_left g2 hu
    omega
  · right
    have k1 : 0 ≤ (yi - yj) * (px - xi) := Int.mul_nonneg (by omega) (by omega)
    have k2 : (yi - yj) * (px - xi) ≤ (yi - yj) * (xj - xi) := Int.mul_le_mul_of_nonneg_left (by omega) (by omega)
    have n1 : (yi - yj) * (px - xi) = -((yj - yi) * (px - xi)) := by grind
    have n2 : (yi - yj) * (xj - xi) = -((xj - xi) * (yj - yi)) := by grind
    have g1 : (xj - xi) * (py - yi) ≤ (xj - xi) * 0 := by rw [e, Int.mul_zero]; omega
    have g2 : (xj - xi) * (yj - yi) ≤ (xj - xi) * (py - yi) := by rw [e]; omega
    have := Int.le_of_mul_le_mul_left g1 hu
    have := Int.le_of_mul_le_mul_left g2 hu
    omega
/-- on a line, within the box of the ends in x, when they differ in x -/
theorem onS_x {ax ay bx by' px py : Int} (hne : ax ≠ bx) (hx : btw ax bx px) (h : tr ax ay bx by' px py = 0) : onS ax ay bx by' px py := by
  refine ⟨h, hx, ?_⟩
  rcases hx with hx | hx
  · exact col_btw (by omega) hx.1 hx.2 h
  · have h' : tr bx by' ax ay px py = 0 := by rw [tr_sw, h]; rfl
    have := col_btw (by omega) hx.1 hx.2 h'
    unfold btw at *
    omega
/-- a third along a side -/
theorem part_s {u w A s : Int} (hu : u ≠ 0) (hw : (0 ≤ w ∧ w ≤ u) ∨ (u ≤ w ∧ w ≤ 0)) (h : u * s = w * A) : (0 ≤ A → 0 ≤ s ∧ s ≤ A) ∧ (A ≤ 0 → A ≤ s ∧ s ≤ 0) := by
  have main : ∀ u w A s : Int, 0 < u → 0 ≤ w → w ≤ u → u * s = w * A → 0 ≤ A → 0 ≤ s ∧ s ≤ A := by
    intro u w A s hu h0 h1 h hA
    have k1 : 0 ≤ w * A := Int.mul_nonneg h0 hA
    have k2 : w * A ≤ u * A := Int.mul_le_mul_of_nonneg_right h1 hA
    have g1 : u * 0 ≤ u * s := by rw [Int.mul_zero, h]; exact k1
    have g2 : u * s ≤ u * A := by rw [h]; exact k2
    exact ⟨Int.le_of_mul_le_mul_left g1 hu, Int.le_of_mul_le_mul_left g2 hu⟩
  rcases hw with hw | hw
  · refine ⟨main u w A s (by omega) hw.1 hw.2 h, fun hA => ?_⟩
    have := main u w (-A) (-s) (by omega) hw.1 hw.2 (by rw [Int.mul_neg, Int.mul_neg, h]) (by omega)
    omega
  · refine ⟨main (-u) (-w) A s (by omega) (by omega) (by omega) (by rw [Int.neg_mul, Int.neg_mul, h]), fun hA => ?_⟩
    have := main (-u) (-w) (-A) (-s) (by omega) (by omega) (by omega) (by rw [Int.neg_mul_neg, Int.neg_mul_neg, h]) (by omega)
    omega
def mn3 (a b c : Int) : Int := min b (min a c)
def mx3 (a b c : Int) : Int := max b (max a c)
def inC (s1 s2 s3 : Int) : Prop := ¬ ((s1 < 0 ∨ s2 < 0 ∨ s3 < 0) ∧ (s1 > 0 ∨ s2 > 0 ∨ s3 > 0))
def inRf (ax ay vx vy bx by' px py : Int) : Prop := onS ax ay vx vy px py ∨ onS vx vy bx by' px py ∨ onS ax ay bx by' px py ∨ (tr ax ay vx vy px py > 0 ∧ tr vx vy bx by' px py > 0 ∧ tr bx by' ax ay px py > 0) ∨ (tr ax ay vx vy px py < 0 ∧ tr vx vy bx by' px py < 0 ∧ tr bx by' ax ay px py < 0)
def box3 (ax ay vx vy bx by' px py : Int) : Prop := (mn3 ax vx bx ≤ px ∧ px ≤ mx3 ax vx bx) ∧ (mn3 ay vy by' ≤ py ∧ py ≤ mx3 ay vy by')
theorem inR_pos_box {ax ay vx vy bx by' px py : Int} (h1 : tr ax ay vx vy px py > 0) (h2 : tr vx vy bx by' px py > 0) (h3 : tr bx by' ax ay px py > 0) : box3 ax ay vx vy bx by' px py := by
  have hs := tr_sum ax ay vx vy bx by' px py
  have ex := tr_bx ax ay vx vy bx by' px py
  have ey := tr_by ax ay vx vy bx by' px py
  generalize tr ax ay vx vy bx by' = A at *
  generalize tr ax ay vx vy px py = s1 at *
  generalize tr vx vy bx by' px py = s2 at *
  generalize tr bx by' ax ay px py = s3 at *
  unfold box3 mn3 mx3
  refine ⟨⟨?_, ?_⟩, ?_, ?_⟩
  · exact wt_lo (A := A) (w1 := s2) (w2 := s3) (w3 := s1) (by omega) (by omega) (by omega) (by omega) (by omega) ex (fun _ => by omega) (fun _ => by omega) (fun _ => by omega)
  · exact wt_hi (A := A) (w1 := s2) (w2 := s3) (w3 := s1) (by omega) (by omega) (by omega) (by omega) (by omega) ex (fun _ => by omega) (fun _ => by omega) (fun _ => by omega)
  · exact wt_lo (A := A) (w1 := s2) (w2 := s3) (w3 := s1) (by omega) (by omega) (by omega) (by omega) (by omega) ey (fun _ => by omega) (fun _ => by omega) (fun _ => by omega)
  · exact wt_hi (A := A) (w1 := s2) (w2 := s3) (w3 := s1) (by omega) (by omega) (by omega) (by omega) (by omega) ey (fun _ => by omega) (fun _ => by omega) (fun _ => by omega)
theorem box_sw {ax ay vx vy bx by' px py : Int} (h : box3 bx by' vx vy ax ay px py) : box3 ax ay vx vy bx by' px py := by
  unfold box3 mn3 mx3 at *; omega
theorem inR_box {ax ay vx vy bx by' px py : Int} (h : inRf ax ay vx vy bx by' px py) : box3 ax ay vx vy bx by' px py := by
  rcases h with h | h | h | h | h
  · obtain ⟨-, h1, h2⟩ := h; unfold btw at *; unfold box3 mn3 mx3; omega
  · obtain ⟨-, h1, h2⟩ := h; unfold btw at *; unfold box3 mn3 mx3; omega
  · obtain ⟨-, h1, h2⟩ := h; unfold btw at *; unfold box3 mn3 mx3; omega
  · exact inR_pos_box h.1 h.2.1 h.2.2
  · refine box_sw (inR_pos_box ?_ ?_ ?_)
    · rw [tr_sw]; omega
    · rw [tr_sw]; omega
    · rw [tr_sw]; omega
/-- all turns at least 0: then on a side or inside -/
theorem inC_pos {ax ay vx vy bx by' px py : Int} (hb : box3 ax ay vx vy bx by' px py) (h1 : 0 ≤ tr ax ay vx vy px py) (h2 : 0 ≤ tr vx vy bx by' px py) (h3 : 0 ≤ tr bx by' ax ay px py) : inRf ax ay vx vy bx by' px py := by
  have hs := tr_sum ax ay vx vy bx by' px py
  have ex := tr_bx ax ay vx vy bx by' px py
  have ey := tr_by ax ay vx vy bx by' px py
  have sw := tr_sw ax ay bx by' px py
  unfold inRf
  by_cases hA : tr ax ay vx vy bx by' = 0
  · -- all on one line
    have z1 : tr ax ay vx vy px py = 0 := by omega
    have z2 : tr vx vy bx by' px py = 0 := by omega
    have z3 : tr ax ay bx by' px py = 0 := by omega
    unfold box3 mn3 mx3 at hb
    by_cases q : ax = vx ∧ vx = bx
    · by_cases y1 : btw ay vy py
      · exact Or.inl ⟨z1, by unfold btw; omega, y1⟩
      · by_cases y2 : btw vy by' py
        · exact Or.inr (Or.inl ⟨z2, by unfold btw; omega, y2⟩)
        · exact Or.inr (Or.inr (Or.inl ⟨z3, by unfold btw; omega, by unfold btw at *; omega⟩))
    · by_cases x1 : ax ≠ vx ∧ btw ax vx px
      · exact Or.inl (onS_x x1.1 x1.2 z1)
      · by_cases x2 : vx ≠ bx ∧ btw vx bx px
        · exact Or.inr (Or.inl (onS_x x2.1 x2.2 z2))
        · exact Or.inr (Or.inr (Or.inl (onS_x (by unfold btw at *; omega) (by unfold btw at *; omega) z3)))
  · generalize tr ax ay vx vy bx by' = A at *
    by_cases z1 : tr ax ay vx vy px py = 0
    · refine Or.inl ⟨z1, ?_, ?_⟩
      · have l := wt_lo (m := min ax vx) (A := A) (by omega) (by omega) h2 h3 h1 ex (fun _ => by omega) (fun _ => by omega) (fun q => absurd z1 q)
        have u := wt_hi (m := max ax vx) (A := A) (by omega) (by omega) h2 h3 h1 ex (fun _ => by omega) (fun _ => by omega) (fun q => absurd z1 q)
        unfold btw; omega
      · have l := wt_lo (m := min ay vy) (A := A) (by omega) (by omega) h2 h3 h1 ey (fun _ => by omega) (fun _ => by omega) (fun q => absurd z1 q)
        have u := wt_hi (m := max ay vy) (A := A) (by omega) (by omega) h2 h3 h1 ey (fun _ => by omega) (fun _ => by omega) (fun q => absurd z1 q)
        unfold btw; omega
    · by_cases z2 : tr vx vy bx by' px py = 0
      · refine Or.inr (Or.inl ⟨z2, ?_, ?_⟩)
        · have l := wt_lo (m := min vx bx) (A := A) (by omega) (by omega) h2 h3 h1 ex (fun q => absurd z2 q) (fun _ => by omega) (fun _ => by omega)
          have u := wt_hi (m := max vx bx) (A := A) (by omega) (by omega) h2 h3 h1 ex (fun q => absurd z2 q) (fun _ => by omega) (fun _ => by omega)
          unfold btw; omega
        · have l := wt_lo (m := min vy by') (A := A) (by omega) (by omega) h2 h3 h1 ey (fun q => absurd z2 q) (fun _ => by omega) (fun _ => by omega)
          have u := wt_hi (m := max vy by') (A := A) (by omega) (by omega) h2 h3 h1 ey (fun q => absurd z2 q) (fun _ => by omega) (fun _ => by omega)
          unfold btw; omega
      · by_cases z3 : tr bx by' ax ay px py = 0
        · refine Or.inr (Or.inr (Or.inl ⟨by omega, ?_, ?_⟩))
          · have l := wt_lo (m := min ax bx) (A := A) (by omega) (by omega) h2 h3 h1 ex (fun _ => by omega) (fun q => absurd z3 q) (fun _ => by omega)
            have u := wt_hi (m := max ax bx) (A := A) (by omega) (by omega) h2 h3 h1 ex (fun _ => by omega) (fun q => absurd z3 q) (fun _ => by omega)
            unfold btw; omega
          · have l := wt_lo (m := min ay by') (A := A) (by omega) (by omega) h2 h3 h1 ey (fun _ => by omega) (fun q => absurd z3 q) (fun _ => by omega)
            have u := wt_hi (m := max ay by') (A := A) (by omega) (by omega) h2 h3 h1 ey (fun _ => by omega) (fun q => absurd z3 q) (fun _ => by omega)
            unfold btw; omega
        · exact Or.inr (Or.inr (Or.inr (Or.inl ⟨by omega, by omega, by omega⟩)))
theorem inRf_sw {ax ay vx vy bx by' px py : Int} (h : inRf bx by' vx vy ax ay px py) : inRf ax ay vx vy bx by' px py := by
  unfold inRf at *
  rcases h with h | h | h | h | h
  · exact Or.inr (Or.inl (onS_sw h))
  · exact Or.inl (onS_sw h)
  · exact Or.inr (Or.inr (Or.inl (onS_sw h)))
  · rw [tr_sw vx vy bx by', tr_sw ax ay vx vy, tr_sw bx by' ax ay] at h
    exact Or.inr (Or.inr (Or.inr (Or.inr ⟨by omega, by omega, by omega⟩)))
  · rw [tr_sw vx vy bx by', tr_sw ax ay vx vy, tr_sw bx by' ax ay] at h
    exact Or.inr (Or.inr (Or.inr (Or.inl ⟨by omega, by omega, by omega⟩)))
theorem tr_px (ax ay vx vy bx by' px py : Int) (h : tr ax ay vx vy px py = 0) : (vx - ax) * tr bx by' ax ay px py = (px - ax) * tr ax ay vx vy bx by' ∧ (vy - ay) * tr bx by' ax ay px py = (py - ay) * tr ax ay vx vy bx by' := by
  unfold tr at *; constructor <;> grind
theorem tr_pb (ax ay vx vy bx by' px py : Int) (h : tr bx by' ax ay px py = 0) : (bx - ax) * tr ax ay vx vy px py = (px - ax) * tr ax ay vx vy bx by' ∧ (by' - ay) * tr ax ay vx vy px py = (py - ay) * tr ax ay vx vy bx by' := by
  unfold tr at *; constructor <;> grind
theorem on_inC1 {ax ay vx vy bx by' px py : Int} (ha : ¬ (px = ax ∧ py = ay)) (h : onS ax ay vx vy px py) : inC (tr ax ay vx vy px py) (tr vx vy bx by' px py) (tr bx by' ax ay px py) := by
  obtain ⟨h1, h2, h3⟩ := h
  obtain ⟨e1, e2⟩ := tr_px ax ay vx vy bx by' px py h1
  have hs := tr_sum ax ay vx vy bx by' px py
  generalize tr ax ay vx vy bx by' = A at *
  generalize tr ax ay vx vy px py = s1 at *
  generalize tr vx vy bx by' px py = s2 at *
  generalize tr bx by' ax ay px py = s3 at *
  unfold btw at h2 h3
  unfold inC
  by_cases q : vx = ax
  · have q2 : vy ≠ ay := by omega
    have := part_s (u := vy - ay) (w := py - ay) (by omega) (by omega) e2
    omega
  · have := part_s (u := vx - ax) (w := px - ax) (by omega) (by omega) e1
    omega
theorem on_inC3 {ax ay vx vy bx by' px py : Int} (ha : ¬ (px = ax ∧ py = ay)) (h : onS ax ay bx by' px py) : inC (tr ax ay vx vy px py) (tr vx vy bx by' px py) (tr bx by' ax ay px py) := by
  obtain ⟨h1, h2, h3⟩ := h
  have sw := tr_sw ax ay bx by' px py
  obtain ⟨e1, e2⟩ := tr_pb ax ay vx vy bx by' px py (by omega)
  have hs := tr_sum ax ay vx vy bx by' px py
  generalize tr ax ay vx vy bx by' = A at *
  generalize tr ax ay vx vy px py = s1 at *
  generalize tr vx vy bx by' px py = s2 at *
  generalize tr bx by' ax ay px py = s3 at *
  unfold btw at h2 h3
  unfold inC
  by_cases q : bx = ax
  · have q2 : by' ≠ ay := by omega
    have := part_s (u := by' - ay) (w := py - ay) (by omega) (by omega) e2
    omega
  · have := part_s (u := bx - ax) (w := px - ax) (by omega) (by omega) e1
    omega
/-- in the triangle: both ways say the same -/
theorem tri_same {ax ay vx vy bx by' px py : Int} (ha : ¬ (px = ax ∧ py = ay)) (hb : ¬ (px = bx ∧ py = by')) : inRf ax ay vx vy bx by' px py ↔ box3 ax ay vx vy bx by' px py ∧ inC (tr ax ay vx vy px py) (tr vx vy bx by' px py) (tr bx by' ax ay px py) := by
  constructor
  · intro h
    refine ⟨inR_box h, ?_⟩
    rcases h with h | h | h | h | h
    · exact on_inC1 ha h
    · have := on_inC1 (bx := ax) (by' := ay) hb (onS_sw h)
      rw [tr_sw vx vy bx by', tr_sw ax ay vx vy, tr_sw bx by' ax ay] at this
      unfold inC at *
      omega
    · exact on_inC3 ha h
    · unfold inC; omega
    · unfold inC; omega
  · rintro ⟨hbx, hi⟩
    unfold inC at hi
    by_cases q : 0 ≤ tr ax ay vx vy px py ∧ 0 ≤ tr vx vy bx by' px py ∧ 0 ≤ tr bx by' ax ay px py
    · exact inC_pos hbx q.1 q.2.1 q.2.2
    · refine inRf_sw (inC_pos (box_sw hbx) ?_ ?_ ?_)
      · rw [tr_sw]; omega
      · rw [tr_sw]; omega
      · rw [tr_sw]; omega
