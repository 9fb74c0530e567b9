/-! the rows of the contours: how they hang together -/
theorem sm_congr {D E : Nat → Int} : ∀ {n : Nat}, (∀ k, k < n → D k = E k) → sm D n = sm E n
  | 0, _ => rfl
  | n + 1, h => by rw [sm, sm, sm_congr (n := n) (fun k hk => h k (by omega)), h n (by omega)]
def cAt (σ : cs_S) (k : Nat) : Int := sm (fun v => if σ 23 v ≠ 0 ∧ σ 22 v * 17 + σ 21 v = (k : Int) then 1 else 0) (σ 4 2).toNat
def cIn (σ : cs_S) (c : Nat) : Int := sm (fun v => if σ 23 v ≠ 0 ∧ σ 20 v = (c : Int) then 1 else 0) (σ 4 2).toNat
def cAll (σ : cs_S) : Int := sm (fun v => if σ 23 v ≠ 0 then 1 else 0) (σ 4 2).toNat
/-- the contours as rows of vertices; the last may still be empty -/
def CSo (σ : cs_S) : Prop :=
  ((0 ≤ σ 4 1 ∧ σ 4 1 ≤ 110) ∧ (0 ≤ σ 4 2 ∧ σ 4 2 ≤ 442) ∧ (σ 4 1 = 0 → σ 4 2 = 0) ∧ (1 ≤ σ 4 1 → σ 15 0 = 0) ∧ (1 ≤ σ 4 1 → σ 15 (σ 4 1).toNat = σ 4 2)) ∧
  (∀ c : Nat, (c : Int) < σ 4 1 → 0 ≤ σ 15 c ∧ σ 15 c ≤ σ 15 (c + 1) ∧ σ 15 (c + 1) ≤ σ 4 2) ∧
  (∀ v : Nat, (v : Int) < σ 4 2 → (0 ≤ σ 20 v ∧ σ 20 v < σ 4 1) ∧ σ 15 (σ 20 v).toNat ≤ v ∧ (v : Int) < σ 15 ((σ 20 v).toNat + 1)) ∧
  (∀ c v : Nat, (c : Int) < σ 4 1 → σ 15 c ≤ v → (v : Int) < σ 15 (c + 1) → σ 20 v = c) ∧
  (∀ v : Nat, (v : Int) < σ 4 2 → (0 ≤ σ 21 v ∧ σ 21 v ≤ 16) ∧ (0 ≤ σ 22 v ∧ σ 22 v ≤ 12))
def CPr (σ : cs_S) : Prop := (∀ v : Nat, (v : Int) < σ 4 2 → σ 23 v = 0 ∨ σ 23 v = 1) ∧ σ 4 3 = cAll σ ∧ (∀ c : Nat, (c : Int) < σ 4 1 → σ 16 c = cIn σ c) ∧ ∀ k : Nat, k < 221 → σ 24 k = cAt σ k
def Full (σ : cs_S) : Prop := ∀ c : Nat, (c : Int) < σ 4 1 → σ 15 c < σ 15 (c + 1)
def Whole1 (σ : cs_S) : Prop := ∀ v : Nat, (v : Int) < σ 4 2 → σ 23 v = 1
theorem begC_v (σ : cs_S) : begC σ 4 1 = σ 4 1 + 1 ∧ begC σ 4 2 = σ 4 2 ∧ begC σ 4 3 = σ 4 3 ∧ begC σ 15 = au (au (σ 15) (σ 4 1).toNat (σ 4 2)) (σ 4 1 + 1).toNat (σ 4 2) ∧ begC σ 16 = au (σ 16) (σ 4 1).toNat 0 ∧ begC σ 20 = σ 20 ∧ begC σ 21 = σ 21 ∧ begC σ 22 = σ 22 ∧ begC σ 23 = σ 23 ∧ begC σ 24 = σ 24 := by
  simp [begC, au]
theorem begC_CS {σ : cs_S} (h : CSo σ) (h2 : CPr σ) (hc : σ 4 1 < 110) : CSo (begC σ) ∧ CPr (begC σ) := by
  obtain ⟨⟨a1, a2, a3, a4, a5⟩, b1, b2, b3, b4⟩ := h
  obtain ⟨p1, p2, p3, p4⟩ := h2
  obtain ⟨v1, v2, v3, v15, v16, v20, v21, v22, v23, v24⟩ := begC_v σ
  have n1 : ∀ c : Nat, (c : Int) < σ 4 1 → begC σ 15 c = σ 15 c := by
    intro c hc; rw [v15, au_ne (by omega), au_ne (by omega)]
  have n2 : begC σ 15 (σ 4 1).toNat = σ 4 2 := by rw [v15, au_ne (by omega), au_at]
  have n3 : begC σ 15 ((σ 4 1).toNat + 1) = σ 4 2 := by rw [v15, show (σ 4 1).toNat + 1 = (σ 4 1 + 1).toNat by omega, au_at]
  have n4 : ∀ c : Nat, (c : Int) < σ 4 1 → begC σ 15 (c + 1) = σ 15 (c + 1) := by
    intro c hc
    by_cases e : (c : Int) + 1 < σ 4 1
    · exact n1 (c + 1) (by omega)
    · have e1 : c + 1 = (σ 4 1).toNat := by omega
      rw [e1, n2, a5 (by omega)]
  refine ⟨⟨⟨by rw [v1]; omega, by rw [v2]; exact a2, fun q => by rw [v1] at q; omega, fun _ => ?_, fun _ => ?_⟩, ?_, ?_, ?_, ?_⟩, ?_, ?_, ?_, ?_⟩
  · by_cases e : σ 4 1 = 0
    · have : (σ 4 1).toNat = 0 := by omega
      rw [this] at n2
      rw [n2, a3 e]
    · rw [n1 0 (by omega)]; exact a4 (by omega)
  · rw [v1, v2, show (σ 4 1 + 1).toNat = (σ 4 1).toNat + 1 by omega, n3]
  · intro c hc
    rw [v1] at hc
    rw [v2]
    by_cases e : (c : Int) < σ 4 1
    · rw [n1 c e, n4 c e]; exact b1 c e
    · have : c = (σ 4 1).toNat := by omega
      subst this
      rw [n2, n3]; omega
  · intro v hv
    rw [v2] at hv
    obtain ⟨q1, q2, q3⟩ := b2 v hv
    rw [v20, v1, n1 _ (by omega), n4 _ (by omega)]
    exact ⟨by omega, q2, q3⟩
  · intro c v hc h1 h2
    rw [v1] at hc
    rw [v20]
    by_cases e : (c : Int) < σ 4 1
    · rw [n1 c e] at h1; rw [n4 c e] at h2; exact b3 c v e h1 h2
    · have : c = (σ 4 1).toNat := by omega
      subst this
      rw [n2] at h1; rw [n3] at h2; omega
  · intro v hv
    rw [v2] at hv
    rw [v21, v22]; exact b4 v hv
  · intro v hv; rw [v2] at hv; rw [v23]; exact p1 v hv
  · rw [v3, p2]; unfold cAll; rw [v2, v23]
  · intro c hc
    rw [v1] at hc
    unfold cIn
    rw [v2, v16, v20, v23]
    by_cases e : (c : Int) < σ 4 1
    · rw [au_ne (by omega)]; exact p3 c e
    · have : c = (σ 4 1).toNat := by omega
      subst this
      rw [au_at]
      have : sm (fun v => if σ 23 v ≠ 0 ∧ σ 20 v = ((σ 4 1).toNat : Int) then 1 else 0) (σ 4 2).toNat = sm (fun _ => 0) (σ 4 2).toNat := by
        refine sm_congr (fun k hk => if_neg (fun q => ?_))
        have := (b2 k (by omega)).1
        omega
      rw [this]
      have z : ∀ n, sm (fun _ => 0) n = 0 := fun n => by induction n with
        | zero => rfl
        | succ n ih => rw [sm, ih]; rfl
      rw [z]
  · intro k hk; rw [v24, p4 k hk]; unfold cAt; rw [v2, v21, v22, v23]
theorem addC_v2 (σ : cs_S) (x y : Int) : addC σ x y 15 = au (σ 15) (σ 4 1).toNat (σ 4 2 + 1) ∧ addC σ x y 20 = au (σ 20) (σ 4 2).toNat (σ 4 1 - 1) ∧ addC σ x y 21 = au (σ 21) (σ 4 2).toNat x ∧ addC σ x y 22 = au (σ 22) (σ 4 2).toNat y ∧ addC σ x y 23 = au (σ 23) (σ 4 2).toNat 1 := by
  simp [addC]
theorem addC_CS {σ : cs_S} {x y : Int} (h : CSo σ) (h2 : CPr σ) (hc : 1 ≤ σ 4 1) (hv : σ 4 2 < 442) (hx : 0 ≤ x ∧ x ≤ 16) (hy : 0 ≤ y ∧ y ≤ 12) : CSo (addC σ x y) ∧ CPr (addC σ x y) := by
  obtain ⟨⟨a1, a2, a3, a4, a5⟩, b1, b2, b3, b4⟩ := h
  obtain ⟨p1, p2, p3, p4⟩ := h2
  obtain ⟨-, -, -, v1, v2, v3, v16, v24, -⟩ := addC_v σ x y
  obtain ⟨v15, v20, v21, v22, v23⟩ := addC_v2 σ x y
  have a5 := a5 hc
  have n1 : ∀ c : Nat, (c : Int) < σ 4 1 → addC σ x y 15 c = σ 15 c := fun c hc => by rw [v15, au_ne (by omega)]
  have n2 : addC σ x y 15 (σ 4 1).toNat = σ 4 2 + 1 := by rw [v15, au_at]
  have n3 : ∀ c : Nat, (c : Int) + 1 < σ 4 1 → addC σ x y 15 (c + 1) = σ 15 (c + 1) := fun c hc => by rw [v15, au_ne (by omega)]
  have n4 : addC σ x y 15 ((σ 4 1 - 1).toNat + 1) = σ 4 2 + 1 := by rw [show (σ 4 1 - 1).toNat + 1 = (σ 4 1).toNat by omega]; exact n2
  have o1 : ∀ v : Nat, (v : Int) < σ 4 2 → addC σ x y 20 v = σ 20 v ∧ addC σ x y 21 v = σ 21 v ∧ addC σ x y 22 v = σ 22 v ∧ addC σ x y 23 v = σ 23 v := fun v hv => by
    rw [v20, v21, v22, v23, au_ne (by omega), au_ne (by omega), au_ne (by omega), au_ne (by omega)]
    exact ⟨rfl, rfl, rfl, rfl⟩
  have o2 : addC σ x y 20 (σ 4 2).toNat = σ 4 1 - 1 ∧ addC σ x y 21 (σ 4 2).toNat = x ∧ addC σ x y 22 (σ 4 2).toNat = y ∧ addC σ x y 23 (σ 4 2).toNat = 1 := by
    rw [v20, v21, v22, v23, au_at, au_at, au_at, au_at]; exact ⟨rfl, rfl, rfl, rfl⟩
  have hlast := b1 (σ 4 1 - 1).toNat (by omega)
  have hl1 : σ 15 ((σ 4 1 - 1).toNat + 1) = σ 4 2 := by rw [show (σ 4 1 - 1).toNat + 1 = (σ 4 1).toNat by omega]; exact a5
  rw [hl1] at hlast
  have tn : (σ 4 2 + 1).toNat = (σ 4 2).toNat + 1 := by omega
  refine ⟨⟨⟨by rw [v1]; exact a1, by rw [v2]; omega, fun q => by rw [v1] at q; omega, fun _ => ?_, fun _ => ?_⟩, ?_, ?_, ?_, ?_⟩, ?_, ?_, ?_, ?_⟩
  · rw [n1 0 (by omega)]; exact a4 hc
  · rw [v1, v2, n2]
  · intro c hc'
    rw [v1] at hc'
    rw [v2, n1 c hc']
    by_cases e : (c : Int) + 1 < σ 4 1
    · rw [n3 c e]; have := b1 c hc'; omega
    · have : c = (σ 4 1 - 1).toNat := by omega
      subst this
      rw [n4]; omega
  · intro v hv'
    rw [v2] at hv'
    by_cases e : (v : Int) < σ 4 2
    · obtain ⟨q1, q2, q3⟩ := b2 v e
      rw [(o1 v e).1, v1, n1 _ (by omega)]
      refine ⟨q1, q2, ?_⟩
      by_cases e2 : σ 20 v + 1 < σ 4 1
      · rw [n3 _ (by omega)]; exact q3
      · have : (σ 20 v).toNat = (σ 4 1 - 1).toNat := by omega
        rw [this, n4]; omega
    · have : v = (σ 4 2).toNat := by omega
      subst this
      rw [o2.1, v1, n1 _ (by omega), n4]
      omega
  · intro c v hc' h1 h2
    rw [v1] at hc'
    rw [n1 c hc'] at h1
    by_cases e : (c : Int) + 1 < σ 4 1
    · rw [n3 c e] at h2
      have := b1 c hc'
      rw [(o1 v (by omega)).1]
      exact b3 c v hc' h1 h2
    · have : c = (σ 4 1 - 1).toNat := by omega
      subst this
      rw [n4] at h2
      by_cases e2 : (v : Int) < σ 4 2
      · rw [(o1 v e2).1]
        exact b3 _ v hc' h1 (by rw [hl1]; exact e2)
      · have : v = (σ 4 2).toNat := by omega
        subst this
        rw [o2.1]; omega
  · intro v hv'
    rw [v2] at hv'
    by_cases e : (v : Int) < σ 4 2
    · rw [(o1 v e).2.1, (o1 v e).2.2.1]; exact b4 v e
    · have : v = (σ 4 2).toNat := by omega
      subst this
      rw [o2.2.1, o2.2.2.1]; exact ⟨hx, hy⟩
  · intro v hv'
    rw [v2] at hv'
    by_cases e : (v : Int) < σ 4 2
    · rw [(o1 v e).2.2.2]; exact p1 v e
    · have : v = (σ 4 2).toNat := by omega
      subst this
      rw [o2.2.2.2]; exact Or.inr rfl
  · rw [v3, p2]
    unfold cAll
    rw [v2, tn, sm, o2.2.2.2]
    congr 1
    exact sm_congr (fun k hk => by rw [(o1 k (by omega)).2.2.2])
  · intro c hc'
    rw [v1] at hc'
    have hs : sm (fun v => if addC σ x y 23 v ≠ 0 ∧ addC σ x y 20 v = (c : Int) then 1 else 0) (σ 4 2).toNat = cIn σ c := sm_congr (fun k hk => by rw [(o1 k (by omega)).2.2.2, (o1 k (by omega)).1])
    unfold cIn
    rw [v2, tn, sm, hs, o2.2.2.2, o2.1, v16]
    by_cases e : c = (σ 4 1 - 1).toNat
    · subst e
      rw [au_at, p3 _ hc', if_pos ⟨by decide, by omega⟩]
    · rw [au_ne e, p3 c hc', if_neg (fun q => e (by omega))]
      omega
  · intro k hk
    have hs : sm (fun v => if addC σ x y 23 v ≠ 0 ∧ addC σ x y 22 v * 17 + addC σ x y 21 v = (k : Int) then 1 else 0) (σ 4 2).toNat = cAt σ k := sm_congr (fun j hj => by rw [(o1 j (by omega)).2.2.2, (o1 j (by omega)).2.1, (o1 j (by omega)).2.2.1])
    unfold cAt
    rw [v2, tn, sm, hs, o2.2.2.2, o2.2.1, o2.2.2.1, v24]
    by_cases e : k = (y * 17 + x).toNat
    · subst e
      rw [au_at, p4 _ hk, if_pos ⟨by decide, by omega⟩]
    · rw [au_ne e, p4 k hk, if_neg (fun q => e (by omega))]
      omega
