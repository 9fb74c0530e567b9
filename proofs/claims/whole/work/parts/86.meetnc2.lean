/-! the meeting lemma, not on one line -/
def looQ (x y ax ay bx by' : Int) : Prop := ¬ (x = ax ∧ y = ay) ∧ ¬ (x = bx ∧ y = by')
def mCn (ux uy wx wy ax ay vx vy bx by' : Int) : Prop := btw (tr ux uy wx wy ax ay) (tr ux uy wx wy vx vy) 0 ∧ btw (tr ax ay vx vy ux uy) (tr ax ay vx vy wx wy) 0 ∧ tr ux uy wx wy ax ay ≠ 0 ∧ ¬ (tr ux uy wx wy bx by' = 0 ∧ tr ax ay vx vy bx by' = 0)
def strC (s6 s7 s8 s9 : Int) : Prop := ((s8 > 0 ∧ s9 < 0) ∨ (s8 < 0 ∧ s9 > 0)) ∧ ((s6 > 0 ∧ s7 < 0) ∨ (s6 < 0 ∧ s7 > 0))
def mRn (ux uy wx wy ax ay vx vy bx by' : Int) : Prop := (looQ ux uy ax ay bx by' ∧ onS ax ay vx vy ux uy) ∨ (looQ wx wy ax ay bx by' ∧ onS ax ay vx vy wx wy) ∨ (looQ vx vy ax ay bx by' ∧ onS ux uy wx wy vx vy) ∨ strC (tr ux uy wx wy ax ay) (tr ux uy wx wy vx vy) (tr ax ay vx vy ux uy) (tr ax ay vx vy wx wy)
theorem tr_aa (ax ay bx by' : Int) : tr ax ay bx by' ax ay = 0 ∧ tr ax ay bx by' bx by' = 0 ∧ tr ax ay ax ay bx by' = 0 := by unfold tr; refine ⟨?_, ?_, ?_⟩ <;> grind
theorem meet_to {ux uy wx wy ax ay vx vy bx by' : Int} (h : mCn ux uy wx wy ax ay vx vy bx by') : mRn ux uy wx wy ax ay vx vy bx by' := by
  obtain ⟨h1, h2, h3, h4⟩ := h
  have huw : ¬ (ux = wx ∧ uy = wy) := by
    rintro ⟨rfl, rfl⟩; exact h3 (tr_aa ux uy ax ay).2.2
  have hav : ¬ (vx = ax ∧ vy = ay ∧ tr ux uy wx wy vx vy = 0) := by
    rintro ⟨rfl, rfl, z⟩; exact h3 z
  by_cases z7 : tr ux uy wx wy vx vy = 0
  · refine Or.inr (Or.inr (Or.inl ⟨⟨fun q => hav ⟨q.1, q.2, z7⟩, ?_⟩, ?_⟩))
    · rintro ⟨rfl, rfl⟩
      exact h4 ⟨z7, (tr_aa ax ay vx vy).2.1⟩
    · refine mid_on (cx := ax) (cy := ay) (dx := vx) (dy := vy) z7 (tr_aa ax ay vx vy).2.1 (fun e => ?_) h2
      have z8 : tr ax ay vx vy ux uy = 0 := by unfold btw at h2; omega
      have z9 : tr ax ay vx vy wx wy = 0 := by omega
      have nav : ¬ (ax = vx ∧ ay = vy) := fun q => hav ⟨q.1.symm, q.2.symm, z7⟩
      exact h3 (col_all (ux := ax) (uy := ay) (wx := vx) (wy := vy) (ax := ux) (ay := uy) (vx := wx) (vy := wy) nav z8 z9).1
  · by_cases z8 : tr ax ay vx vy ux uy = 0
    · refine Or.inl ⟨⟨fun q => ?_, fun q => ?_⟩, ?_⟩
      · obtain ⟨rfl, rfl⟩ := q; exact h3 (tr_aa ux uy wx wy).1
      · obtain ⟨rfl, rfl⟩ := q; exact h4 ⟨(tr_aa ux uy wx wy).1, z8⟩
      · exact mid_on (cx := ux) (cy := uy) (dx := wx) (dy := wy) z8 (tr_aa ux uy wx wy).1 (fun e => by unfold btw at h1; omega) h1
    · by_cases z9 : tr ax ay vx vy wx wy = 0
      · refine Or.inr (Or.inl ⟨⟨fun q => ?_, fun q => ?_⟩, ?_⟩)
        · obtain ⟨rfl, rfl⟩ := q; exact h3 (tr_aa ux uy wx wy).2.1
        · obtain ⟨rfl, rfl⟩ := q; exact h4 ⟨(tr_aa ux uy wx wy).2.1, z9⟩
        · exact mid_on (cx := ux) (cy := uy) (dx := wx) (dy := wy) z9 (tr_aa ux uy wx wy).2.1 (fun e => by unfold btw at h1; omega) h1
      · refine Or.inr (Or.inr (Or.inr ?_))
        unfold strC btw at *
        omega
