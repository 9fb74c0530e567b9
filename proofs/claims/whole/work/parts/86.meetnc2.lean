/-! the meeting lemma, not on one line -/
def looQ (x y ax ay bx by' : Int) : Prop := ¬ (x = ax ∧ y = ay) ∧ ¬ (x = bx ∧ y = by')
def mCn (ux uy wx wy ax ay vx vy bx by' : Int) : Prop := btw (tr ux uy wx wy ax ay) (tr ux uy wx wy vx vy) 0 ∧ btw (tr ax ay vx vy ux uy) (tr ax ay vx vy wx wy) 0 ∧ tr ux uy wx wy ax ay ≠ 0 ∧ ¬ (tr ux uy wx wy bx by' = 0 ∧ tr ax ay vx vy bx by' = 0)
def strC (s6 s7 s8 s9 : Int) : Prop := ((s8 > 0 ∧ s9 < 0) ∨ (s8 < 0 ∧ s9 > 0)) ∧ ((s6 > 0 ∧ s7 < 0) ∨ (s6 < 0 ∧ s7 > 0))
def mRn (ux uy wx wy ax ay vx vy bx by' : Int) : Prop := (looQ ux uy ax ay bx by' ∧ onS ax ay vx vy ux uy) ∨ (looQ wx wy ax ay bx by' ∧ onS ax ay vx vy wx wy) ∨ (looQ vx vy ax ay bx by' ∧ onS ux uy wx wy vx vy) ∨ strC (tr ux uy wx wy ax ay) (tr ux uy wx wy vx vy) (tr ax ay vx vy ux uy) (tr ax ay vx vy wx wy)
theorem tr_aa (ax ay bx by' : Int) : tr ax ay bx by' ax ay = 0 ∧ tr ax ay bx by' bx by' = 0 ∧ tr ax ay ax ay bx by' = 0 := by unfold tr; refine ⟨?_, ?_, ?_⟩ <;> grind
theorem meet_to {ux uy wx wy ax ay vx vy bx by' : Int} (h : mCn ux uy wx wy ax ay vx vy bx by') : mRn ux uy wx wy ax ay vx vy bx by' := by
  obtain ⟨h1, h2, h3, h4⟩ := h
  have huw : ¬ (ux = wx ∧ uy = wy) := by
    rintro ⟨rfl, rfl⟩; exact h3 (tr_aa ux uy ax ay).2.2
  have hav : ¬ (vx = ax ∧ vy = ay ∧ tr ux uy wx wy vx vy = 0) := by
    rintro ⟨rfl, rfl, z⟩; exact h3 z
  by_cases z7 : tr ux uy wx wy vx vy = 0
  · refine Or.inr (Or.inr (Or.inl ⟨⟨fun q => hav ⟨q.1, q.2, z7⟩, ?_⟩, ?_⟩))
    · rintro ⟨rfl, rfl⟩
      exact h4 ⟨z7, (tr_aa ax ay vx vy).2.1⟩
    · refine mid_on (cx := ax) (cy := ay) (dx := vx) (dy := vy) z7 (tr_aa ax ay vx vy).2.1 (fun e => ?_) h2
      have z8 : tr ax ay vx vy ux uy = 0 := by unfold btw at h2; omega
      have z9 : tr ax ay vx vy wx wy = 0 := by omega
      have nav : ¬ (ax = vx ∧ ay = vy) := fun q => hav ⟨q.1.symm, q.2.symm, z7⟩
      exact h3 (col_all (ux := ax) (uy := ay) (wx := vx) (wy := vy) (ax := ux) (ay := uy) (vx := wx) (vy := wy) nav z8 z9).1
  · by_cases z8 : tr ax ay vx vy ux uy = 0
    · refine Or.inl ⟨⟨fun q => ?_, fun q => ?_⟩, ?_⟩
      · obtain ⟨rfl, rfl⟩ := q; exact h3 (tr_aa ux uy wx wy).1
      · obtain ⟨rfl, rfl⟩ := q; exact h4 ⟨(tr_aa ux uy wx wy).1, z8⟩
      · exact mid_on (cx := ux) (cy := uy) (dx := wx) (dy := wy) z8 (tr_aa ux uy wx wy).1 (fun e => by unfold btw at h1; omega) h1
    · by_cases z9 : tr ax ay vx vy wx wy = 0
      · refine Or.inr (Or.inl ⟨⟨fun q => ?_, fun q => ?_⟩, ?_⟩)
        · obtain ⟨rfl, rfl⟩ := q; exact h3 (tr_aa ux uy wx wy).2.1
        · obtain ⟨rfl, rfl⟩ := q; exact h4 ⟨(tr_aa ux uy wx wy).2.1, z9⟩
        · exact mid_on (cx := ux) (cy := uy) (dx := wx) (dy := wy) z9 (tr_aa ux uy wx wy).2.1 (fun e => by unfold btw at h1; omega) h1
      · refine Or.inr (Or.inr (Or.inr ?_))
        unfold strC btw at *
        omega
theorem meet_from {ux uy wx wy ax ay vx vy bx by' : Int} (hnz : ¬ (tr ux uy wx wy ax ay = 0 ∧ tr ux uy wx wy vx vy = 0 ∧ tr ax ay vx vy ux uy = 0 ∧ tr ax ay vx vy wx wy = 0)) (hc : tr ax ay vx vy bx by' ≠ 0 ∨ onS ax ay bx by' vx vy) (h : mRn ux uy wx wy ax ay vx vy bx by') : mCn ux uy wx wy ax ay vx vy bx by' := by
  -- a line through u or w that holds a and v holds all
  have key : tr ux uy wx wy ax ay = 0 → tr ux uy wx wy vx vy = 0 → (tr ax ay vx vy ux uy = 0 ∨ tr ax ay vx vy wx wy = 0) → False := by
    intro k6 k7 k8
    by_cases q : ux = wx ∧ uy = wy
    · obtain ⟨rfl, rfl⟩ := q
      exact hnz ⟨k6, k7, by omega, by omega⟩
    · obtain ⟨k8', k9'⟩ := col_all q k6 k7
      exact hnz ⟨k6, k7, k8', k9'⟩
  rcases h with ⟨hl, ho⟩ | ⟨hl, ho⟩ | ⟨hl, ho⟩ | hs
  · have hb := aff_btw (cx := ux) (cy := uy) (dx := wx) (dy := wy) ho
    rw [(tr_aa ux uy wx wy).1] at hb
    have h3 : tr ux uy wx wy ax ay ≠ 0 := by
      intro z
      obtain ⟨o1, -, -⟩ := ho
      by_cases z7 : tr ux uy wx wy vx vy = 0
      · exact key z z7 (Or.inl o1)
      · have := one_pt (cx := ux) (cy := uy) (dx := wx) (dy := wy) (by omega) o1 (tr_aa ax ay vx vy).1 (tr_aa ux uy wx wy).1 z
        exact hl.1 this
    refine ⟨hb, by rw [ho.1]; unfold btw; omega, h3, ?_⟩
    rintro ⟨q1, q2⟩
    exact hl.2 (one_pt (cx := ux) (cy := uy) (dx := wx) (dy := wy) (by unfold btw at hb; omega) ho.1 q2 (tr_aa ux uy wx wy).1 q1)
  · have hb := aff_btw (cx := ux) (cy := uy) (dx := wx) (dy := wy) ho
    rw [(tr_aa ux uy wx wy).2.1] at hb
    have h3 : tr ux uy wx wy ax ay ≠ 0 := by
      intro z
      obtain ⟨o1, -, -⟩ := ho
      by_cases z7 : tr ux uy wx wy vx vy = 0
      · exact key z z7 (Or.inr o1)
      · have := one_pt (cx := ux) (cy := uy) (dx := wx) (dy := wy) (by omega) o1 (tr_aa ax ay vx vy).1 (tr_aa ux uy wx wy).2.1 z
        exact hl.1 this
    refine ⟨hb, by rw [ho.1]; unfold btw; omega, h3, ?_⟩
    rintro ⟨q1, q2⟩
    exact hl.2 (one_pt (cx := ux) (cy := uy) (dx := wx) (dy := wy) (by unfold btw at hb; omega) ho.1 q2 (tr_aa ux uy wx wy).2.1 q1)
  · have hb := aff_btw (cx := ax) (cy := ay) (dx := vx) (dy := vy) ho
    rw [(tr_aa ax ay vx vy).2.1] at hb
    have z7 := ho.1
    have h3 : tr ux uy wx wy ax ay ≠ 0 := by
      intro z
      by_cases q : ux = wx ∧ uy = wy
      · obtain ⟨rfl, rfl⟩ := q
        obtain ⟨-, o2, o3⟩ := ho
        have e1 : vx = ux := by unfold btw at o2; omega
        have e2 : vy = uy := by unfold btw at o3; omega
        subst e1; subst e2
        exact key z z7 (Or.inl (tr_aa ax ay vx vy).2.1)
      · exact key z z7 (Or.inl (col_all q z z7).1)
    refine ⟨by rw [z7]; unfold btw; omega, hb, h3, ?_⟩
    rintro ⟨q1, q2⟩
    exact hl.2 (one_pt (cx := ux) (cy := uy) (dx := wx) (dy := wy) (by omega) (tr_aa ax ay vx vy).2.1 q2 z7 q1)
  · unfold strC at hs
    refine ⟨by unfold btw; omega, by unfold btw; omega, by omega, ?_⟩
    rintro ⟨q1, q2⟩
    rcases hc with hc | hc
    · exact hc q2
    · have hb := aff_btw (cx := ux) (cy := uy) (dx := wx) (dy := wy) hc
      rw [q1] at hb
      unfold btw at hb
      omega
