/-! what the vertices of a contour tell of its arrows -/
def AddF (φ : Int → Int → Int → Int → Int) : Prop := (∀ x y, φ x y x y = 0) ∧ ∀ (x y d : Int) (k : Nat), 0 ≤ d → d < 4 → φ x y (x + ((k : Int) + 1) * sx d) (y + ((k : Int) + 1) * sy d) = φ x y (x + (k : Int) * sx d) (y + (k : Int) * sy d) + φ (x + (k : Int) * sx d) (y + (k : Int) * sy d) (x + ((k : Int) + 1) * sx d) (y + ((k : Int) + 1) * sy d)
section GEO
variable (ins : Int → Int → Bool) (pt : Int)
def asum (φ : Int → Int → Int → Int → Int) (s : Arw) (i : Nat) : Int := sm (fun j => φ (itr ins pt j s).1 (itr ins pt j s).2.1 (itr ins pt (j + 1) s).1 (itr ins pt (j + 1) s).2.1) i
end GEO
def vsum (φ : Int → Int → Int → Int → Int) (X Y : Nat → Int) (f m : Nat) : Int := sm (fun j => φ (X (f + j)) (Y (f + j)) (X (f + j + 1)) (Y (f + j + 1))) m
def Ali (X Y : Nat → Int) (v w : Nat) : Prop := (X v = X w ∧ Y v ≠ Y w) ∨ (X v ≠ X w ∧ Y v = Y w)
/-- the last contour so far, i arrows from s on are gone; f: its first vertex -/
def GI (ins : Int → Int → Bool) (pt : Int) (σ : cs_S) (s : Arw) (f i : Nat) : Prop :=
  (CSo σ ∧ CPr σ ∧ Whole1 σ) ∧ (1 ≤ σ 4 1 ∧ σ 15 (σ 4 1 - 1).toNat = f ∧ (f : Int) < σ 4 2) ∧ (σ 21 f = s.1 ∧ σ 22 f = s.2.1) ∧
  ∃ k : Nat, 1 ≤ k ∧ ∃ dd : Int, (0 ≤ dd ∧ dd < 4) ∧ (∃ j : Nat, i = j + 1 ∧ dd = (itr ins pt j s).2.2) ∧
    (itr ins pt i s).1 = σ 21 (σ 4 2 - 1).toNat + (k : Int) * sx dd ∧ (itr ins pt i s).2.1 = σ 22 (σ 4 2 - 1).toNat + (k : Int) * sy dd ∧
    (∀ v : Nat, f ≤ v → (v : Int) + 1 < σ 4 2 → Ali (σ 21) (σ 22) v (v + 1)) ∧
    ∀ φ, AddF φ → asum ins pt φ s i = vsum φ (σ 21) (σ 22) f ((σ 4 2 - 1).toNat - f) + φ (σ 21 (σ 4 2 - 1).toNat) (σ 22 (σ 4 2 - 1).toNat) (itr ins pt i s).1 (itr ins pt i s).2.1
theorem markC_v (σ : cs_S) (a : Arw) : markC σ a 4 = σ 4 ∧ markC σ a 15 = σ 15 ∧ markC σ a 16 = σ 16 ∧ markC σ a 20 = σ 20 ∧ markC σ a 21 = σ 21 ∧ markC σ a 22 = σ 22 ∧ markC σ a 23 = σ 23 ∧ markC σ a 24 = σ 24 := by
  unfold markC
  split
  · simp [cs_set]
  · simp
theorem CSo_congr {σ τ : cs_S} (h4 : τ 4 = σ 4) (h15 : τ 15 = σ 15) (h20 : τ 20 = σ 20) (h21 : τ 21 = σ 21) (h22 : τ 22 = σ 22) : CSo τ ↔ CSo σ := by unfold CSo; rw [h4, h15, h20, h21, h22]
theorem CPr_congr {σ τ : cs_S} (h4 : τ 4 = σ 4) (h16 : τ 16 = σ 16) (h20 : τ 20 = σ 20) (h21 : τ 21 = σ 21) (h22 : τ 22 = σ 22) (h23 : τ 23 = σ 23) (h24 : τ 24 = σ 24) : CPr τ ↔ CPr σ := by unfold CPr cAll cIn cAt; rw [h4, h16, h20, h21, h22, h23, h24]
theorem Whole1_congr {σ τ : cs_S} (h4 : τ 4 = σ 4) (h23 : τ 23 = σ 23) : Whole1 τ ↔ Whole1 σ := by unfold Whole1; rw [h4, h23]
theorem GI_mark {ins : Int → Int → Bool} {pt : Int} {σ : cs_S} {s a : Arw} {f i : Nat} (h : GI ins pt σ s f i) : GI ins pt (markC σ a) s f i := by
  obtain ⟨v4, v15, v16, v20, v21, v22, v23, v24⟩ := markC_v σ a
  unfold GI
  rw [CSo_congr v4 v15 v20 v21 v22, CPr_congr v4 v16 v20 v21 v22 v23 v24, Whole1_congr v4 v23, v4, v15, v21, v22]
  exact h
theorem k1 (z : Int) : ((0 : Nat) : Int) * z = 0 := by simp
theorem ali_k {dd : Int} (hd : 0 ≤ dd ∧ dd < 4) {k : Nat} (hk : 1 ≤ k) {X Y x y : Int} (h1 : x = X + (k : Int) * sx dd) (h2 : y = Y + (k : Int) * sy dd) : (X = x ∧ Y ≠ y) ∨ (X ≠ x ∧ Y = y) := by
  rcases sxy dd hd.1 hd.2 with ⟨a, b⟩ | ⟨a, b⟩ | ⟨a, b⟩ | ⟨a, b⟩ <;> rw [a] at h1 <;> rw [b] at h2 <;> simp at h1 h2 <;> omega
/-- the first arrow -/
theorem GI_first {ins : Int → Int → Bool} {pt : Int} {σ : cs_S} {s : Arw} (h1 : CSo σ) (h2 : CPr σ) (h3 : Whole1 σ) (hc : 1 ≤ σ 4 1) (hv : σ 4 2 < 442) (hf : σ 15 (σ 4 1 - 1).toNat = σ 4 2) (hs : 0 ≤ s.2.2 ∧ s.2.2 < 4) (hx : 0 ≤ s.1 ∧ s.1 ≤ 16) (hy : 0 ≤ s.2.1 ∧ s.2.1 ≤ 12) : GI ins pt (stC σ s true) s (σ 4 2).toNat 1 := by
  unfold stC
  refine GI_mark ?_
  rw [if_pos rfl]
  obtain ⟨c1, c2⟩ := addC_CS (x := s.1) (y := s.2.1) h1 h2 hc hv hx hy
  obtain ⟨-, -, -, v1, v2, v3, v16, v24, -⟩ := addC_v σ s.1 s.2.1
  obtain ⟨v15, v20, v21, v22, v23⟩ := addC_v2 σ s.1 s.2.1
  have a2 := h1.1.2.1
  have e : (σ 4 2 + 1 - 1).toNat = (σ 4 2).toNat := by omega
  have w1 : Whole1 (addC σ s.1 s.2.1) := by
    intro v hv'
    rw [v2] at hv'
    rw [v23]
    unfold au
    split
    · rfl
    · exact h3 v (by omega)
  refine ⟨⟨c1, c2, w1⟩, ⟨by rw [v1]; exact hc, by rw [v1, v15, au_ne (by omega), hf]; omega, by rw [v2]; omega⟩, ⟨by rw [v21, au_at], by rw [v22, au_at]⟩, 1, by omega, s.2.2, hs, ⟨0, rfl, rfl⟩, ?_, ?_, ?_, ?_⟩
  · rw [v2, e, v21, au_at]; simp [itr, stp]
  · rw [v2, e, v22, au_at]; simp [itr, stp]
  · intro v g1 g2; rw [v2] at g2; omega
  · intro φ hφ
    rw [v2, e, v21, v22, au_at, au_at, Nat.sub_self]
    simp [asum, vsum, sm, itr]
/-- each further arrow -/
theorem GI_step {ins : Int → Int → Bool} {pt : Int} {σ : cs_S} {s : Arw} {f i : Nat} {t : Bool} (h : GI ins pt σ s f i) (hv : σ 4 2 < 442) (hr : 0 ≤ (itr ins pt i s).2.2 ∧ (itr ins pt i s).2.2 < 4) (hx : 0 ≤ (itr ins pt i s).1 ∧ (itr ins pt i s).1 ≤ 16) (hy : 0 ≤ (itr ins pt i s).2.1 ∧ (itr ins pt i s).2.1 ≤ 12) (ht : ∀ j : Nat, i = j + 1 → t = decide ((itr ins pt i s).2.2 ≠ (itr ins pt j s).2.2)) : GI ins pt (stC σ (itr ins pt i s) t) s f (i + 1) := by
  obtain ⟨⟨g1, g2, g3⟩, ⟨hc, hf, hfv⟩, ⟨hf1, hf2⟩, k, hk, dd, hd, ⟨j, hj, hdd⟩, p1, p2, al, ph⟩ := h
  have htj := ht j hj
  have hnext : (itr ins pt (i + 1) s).1 = (itr ins pt i s).1 + sx (itr ins pt i s).2.2 ∧ (itr ins pt (i + 1) s).2.1 = (itr ins pt i s).2.1 + sy (itr ins pt i s).2.2 := by
    rw [itr_succ]; exact ⟨rfl, rfl⟩
  unfold stC
  refine GI_mark ?_
  cases t with
  | true =>
    rw [if_pos rfl]
    obtain ⟨c1, c2⟩ := addC_CS (x := (itr ins pt i s).1) (y := (itr ins pt i s).2.1) g1 g2 hc hv hx hy
    obtain ⟨-, -, -, v1, v2, v3, v16, v24, -⟩ := addC_v σ (itr ins pt i s).1 (itr ins pt i s).2.1
    obtain ⟨v15, v20, v21, v22, v23⟩ := addC_v2 σ (itr ins pt i s).1 (itr ins pt i s).2.1
    have a2 := g1.1.2.1
    have e : (σ 4 2 + 1 - 1).toNat = (σ 4 2).toNat := by omega
    have w1 : Whole1 (addC σ (itr ins pt i s).1 (itr ins pt i s).2.1) := by
      intro v hv'
      rw [v2] at hv'
      rw [v23]
      unfold au
      split
      · rfl
      · exact g3 v (by omega)
    have o1 : ∀ v : Nat, (v : Int) < σ 4 2 → au (σ 21) (σ 4 2).toNat (itr ins pt i s).1 v = σ 21 v ∧ au (σ 22) (σ 4 2).toNat (itr ins pt i s).2.1 v = σ 22 v := fun v hv => ⟨au_ne (by omega), au_ne (by omega)⟩
    have last : (σ 4 2).toNat = (σ 4 2 - 1).toNat + 1 := by omega
    refine ⟨⟨c1, c2, w1⟩, ⟨by rw [v1]; exact hc, by rw [v1, v15, au_ne (by omega), hf], by rw [v2]; omega⟩, ⟨by rw [v21, (o1 f hfv).1]; exact hf1, by rw [v22, (o1 f hfv).2]; exact hf2⟩, 1, by omega, (itr ins pt i s).2.2, hr, ⟨i, rfl, rfl⟩, ?_, ?_, ?_, ?_⟩
    · rw [v2, e, v21, au_at, hnext.1]; simp
    · rw [v2, e, v22, au_at, hnext.2]; simp
    · intro v q1 q2
      rw [v2] at q2
      rw [v21, v22]
      by_cases e3 : (v : Int) + 1 < σ 4 2
      · unfold Ali
        rw [(o1 v (by omega)).1, (o1 v (by omega)).2, (o1 (v + 1) (by omega)).1, (o1 (v + 1) (by omega)).2]
        exact al v q1 e3
      · have e4 : v = (σ 4 2 - 1).toNat := by omega
        have e5 : v + 1 = (σ 4 2).toNat := by omega
        unfold Ali
        rw [(o1 v (by omega)).1, (o1 v (by omega)).2, e5, au_at, au_at, e4]
        exact ali_k hd hk p1 p2
    · intro φ hφ
      have := ph φ hφ
      rw [v2, e, v21, v22, au_at, au_at]
      have hm : (σ 4 2).toNat - f = ((σ 4 2 - 1).toNat - f) + 1 := by omega
      rw [hm]
      unfold asum at this ⊢
      unfold vsum at this ⊢
      rw [sm, sm, this]
      have hs : sm (fun j => φ (au (σ 21) (σ 4 2).toNat (itr ins pt i s).1 (f + j)) (au (σ 22) (σ 4 2).toNat (itr ins pt i s).2.1 (f + j)) (au (σ 21) (σ 4 2).toNat (itr ins pt i s).1 (f + j + 1)) (au (σ 22) (σ 4 2).toNat (itr ins pt i s).2.1 (f + j + 1))) ((σ 4 2 - 1).toNat - f) = sm (fun j => φ (σ 21 (f + j)) (σ 22 (f + j)) (σ 21 (f + j + 1)) (σ 22 (f + j + 1))) ((σ 4 2 - 1).toNat - f) := sm_congr (fun j hj => by
        rw [(o1 (f + j) (by omega)).1, (o1 (f + j) (by omega)).2, (o1 (f + j + 1) (by omega)).1, (o1 (f + j + 1) (by omega)).2])
      rw [hs]
      have e6 : f + ((σ 4 2 - 1).toNat - f) = (σ 4 2 - 1).toNat := by omega
      rw [e6, (o1 (σ 4 2 - 1).toNat (by omega)).1, (o1 (σ 4 2 - 1).toNat (by omega)).2, ← last, au_at, au_at]
  | false =>
    rw [if_neg (by simp)]
    have hde : (itr ins pt i s).2.2 = dd := by
      have := htj
      simp only [Bool.false_eq] at this
      rw [decide_eq_false_iff_not] at this
      rw [hdd]
      exact Decidable.not_not.mp this
    have q1 : (itr ins pt (i + 1) s).1 = σ 21 (σ 4 2 - 1).toNat + ((k : Int) + 1) * sx dd := by
      rw [hnext.1, p1, hde, Int.add_mul]; omega
    have q2 : (itr ins pt (i + 1) s).2.1 = σ 22 (σ 4 2 - 1).toNat + ((k : Int) + 1) * sy dd := by
      rw [hnext.2, p2, hde, Int.add_mul]; omega
    refine ⟨⟨g1, g2, g3⟩, ⟨hc, hf, hfv⟩, ⟨hf1, hf2⟩, k + 1, by omega, dd, hd, ⟨i, rfl, hde.symm⟩, ?_, ?_, al, ?_⟩
    · rw [q1]; simp
    · rw [q2]; simp
    · intro φ hφ
      have := ph φ hφ
      have ad := hφ.2 (σ 21 (σ 4 2 - 1).toNat) (σ 22 (σ 4 2 - 1).toNat) dd k hd.1 hd.2
      rw [← q1, ← q2, ← p1, ← p2] at ad
      unfold asum at this ⊢
      rw [sm, this, ad]
      omega
