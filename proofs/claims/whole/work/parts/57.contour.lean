/-! a whole contour, the class's way -/
theorem goC_run {σ0 : cs_S} (hz : szJ (σ0 1 3) (σ0 1 4)) (hpt : σ0 5 4 = 1 ∨ σ0 5 4 = 3) {l : List Arw} (hl : Ways (insC σ0) (σ0 5 4) l) {s : Arw} (hs : Vld (insC σ0) s) (hsl : s ∉ l) {n : Nat} (hm : ∀ k : Nat, 1 ≤ k → k < n → itr (insC σ0) (σ0 5 4) k s ≠ s) (f : Nat) : ∀ (m i : Nat) (t : Bool) (σ : cs_S), i + m ≤ n → GI (insC σ0) (σ0 5 4) σ s f i → TB σ0 σ (l.length + i) → (∀ j : Nat, i = j + 1 → t = decide ((itr (insC σ0) (σ0 5 4) i s).2.2 ≠ (itr (insC σ0) (σ0 5 4) j s).2.2)) →
    GI (insC σ0) (σ0 5 4) (goC (insC σ0) (σ0 5 4) m (itr (insC σ0) (σ0 5 4) i s) t σ) s f (i + m) ∧ TB σ0 (goC (insC σ0) (σ0 5 4) m (itr (insC σ0) (σ0 5 4) i s) t σ) (l.length + i + m) := by
  intro m
  induction m with
  | zero => intro i t σ _ hG hT _; exact ⟨hG, hT⟩
  | succ m ih =>
    intro i t σ him hG hT ht
    have hva := itr_vld hpt hs i
    have hin := vld_in insD_J hva
    obtain ⟨pn, pv⟩ := ways_prefix (n := i + 1) hpt hl hs hsl (fun k h1 h2 => hm k h1 (by omega))
    have hlen := arw_len hz insD_J pn pv
    rw [List.length_append, wlk_len] at hlen
    have hvn := hT.2.2.1
    have hG' := GI_step hG (by omega) hva.1 (by omega) (by omega) ht
    have hT' := TB_st (a := itr (insC σ0) (σ0 5 4) i s) (t := t) hT
    have := ih (i + 1) (decide ((stp (insC σ0) (σ0 5 4) (itr (insC σ0) (σ0 5 4) i s)).2.2 ≠ (itr (insC σ0) (σ0 5 4) i s).2.2)) (stC σ (itr (insC σ0) (σ0 5 4) i s) t) (by omega) hG' (by rw [show l.length + (i + 1) = l.length + i + 1 by omega]; exact hT') (fun j hj => by
      have : j = i := by omega
      subst this
      rw [itr_succ])
    rw [itr_succ] at this
    rw [goC]
    rw [show i + (m + 1) = i + 1 + m by omega, show l.length + i + (m + 1) = l.length + (i + 1) + m by omega]
    exact this
theorem stC_low (σ : cs_S) (a : Arw) (t : Bool) (hv : 0 ≤ σ 4 2) : (stC σ a t) 4 1 = σ 4 1 ∧ σ 4 2 ≤ (stC σ a t) 4 2 ∧ (∀ v : Nat, (v : Int) < σ 4 2 → (stC σ a t) 21 v = σ 21 v ∧ (stC σ a t) 22 v = σ 22 v) ∧ ∀ c : Nat, (c : Int) < σ 4 1 → (stC σ a t) 15 c = σ 15 c := by
  unfold stC
  obtain ⟨v4, v15, -, -, v21, v22, -, -⟩ := markC_v (if t then addC σ a.1 a.2.1 else σ) a
  rw [v4, v15, v21, v22]
  cases t
  · simp
  · simp only [if_true]
    obtain ⟨-, -, -, w1, w2, -, -, -, -⟩ := addC_v σ a.1 a.2.1
    obtain ⟨w15, -, w21, w22, -⟩ := addC_v2 σ a.1 a.2.1
    rw [w1, w2, w15, w21, w22]
    exact ⟨rfl, by omega, fun v hv => ⟨au_ne (by omega), au_ne (by omega)⟩, fun c hc => au_ne (by omega)⟩
theorem goC_low (ins : Int → Int → Bool) (pt : Int) : ∀ (m : Nat) (a : Arw) (t : Bool) (σ : cs_S), 0 ≤ σ 4 2 → (goC ins pt m a t σ) 4 1 = σ 4 1 ∧ σ 4 2 ≤ (goC ins pt m a t σ) 4 2 ∧ (∀ v : Nat, (v : Int) < σ 4 2 → (goC ins pt m a t σ) 21 v = σ 21 v ∧ (goC ins pt m a t σ) 22 v = σ 22 v) ∧ ∀ c : Nat, (c : Int) < σ 4 1 → (goC ins pt m a t σ) 15 c = σ 15 c
  | 0, a, t, σ, hv => ⟨rfl, Int.le_refl _, fun _ _ => ⟨rfl, rfl⟩, fun _ _ => rfl⟩
  | m + 1, a, t, σ, hv => by
    obtain ⟨h1, h2, h3, h4⟩ := stC_low σ a t hv
    obtain ⟨g1, g2, g3, g4⟩ := goC_low ins pt m (stp ins pt a) (decide ((stp ins pt a).2.2 ≠ a.2.2)) (stC σ a t) (by omega)
    rw [goC]
    refine ⟨g1.trans h1, by omega, fun v hv => ?_, fun c hc => ?_⟩
    · have := g3 v (by omega)
      rw [this.1, this.2]; exact h3 v hv
    · rw [g4 c (by rw [h1]; exact hc)]; exact h4 c hc
theorem stC_25 (σ : cs_S) (a : Arw) (t : Bool) : (stC σ a t) 25 = if a.2.2 = 0 then au (σ 25) (ix a.1 a.2.1) 1 else σ 25 := by
  unfold stC markC
  have : (if t then addC σ a.1 a.2.1 else σ) 25 = σ 25 := by
    cases t
    · rfl
    · exact (addC_v σ a.1 a.2.1).2.2.2.2.2.2.2.2
  split
  · rw [cs_set_at, this]
  · exact this
theorem goC_25 {ins : Int → Int → Bool} {pt w h : Int} (hz : szJ w h) : ∀ (m : Nat) (a : Arw) (t : Bool) (σ : cs_S), (∀ j : Nat, j < m → (itr ins pt j a).2.2 = 0 → inP w h (itr ins pt j a).1 (itr ins pt j a).2.1 = true) → ∀ x y, inP w h x y = true → ((goC ins pt m a t σ) 25 (ix x y) ≠ 0 ↔ σ 25 (ix x y) ≠ 0 ∨ ∃ j : Nat, j < m ∧ itr ins pt j a = (x, y, 0))
  | 0, a, t, σ, _, x, y, _ => by simp [goC]
  | m + 1, a, t, σ, hj, x, y, hp => by
    rw [goC, goC_25 hz m (stp ins pt a) _ (stC σ a t) (fun j hjm h0 => hj (j + 1) (by omega) h0) x y hp, stC_25]
    have hfirst : (if a.2.2 = 0 then au (σ 25) (ix a.1 a.2.1) 1 else σ 25) (ix x y) ≠ 0 ↔ σ 25 (ix x y) ≠ 0 ∨ a = (x, y, 0) := by
      by_cases h0 : a.2.2 = 0
      · rw [if_pos h0]
        have hpa := hj 0 (by omega) h0
        unfold au
        by_cases e : ix x y = ix a.1 a.2.1
        · obtain ⟨e1, e2⟩ := ix_inj hz hp hpa e
          rw [if_pos e]
          constructor
          · intro _; right
            obtain ⟨a1, a2, a3⟩ := a
            dsimp only at *
            rw [e1, e2, h0]
            rfl
          · intro _; decide
        · rw [if_neg e]
          constructor
          · exact Or.inl
          · rintro (q | q)
            · exact q
            · rw [q] at e; exact absurd rfl e
      · rw [if_neg h0]
        constructor
        · exact Or.inl
        · rintro (q | q)
          · exact q
          · rw [q] at h0; exact absurd rfl h0
    rw [hfirst]
    constructor
    · rintro ((q | q) | ⟨j, q1, q2⟩)
      · exact Or.inl q
      · exact Or.inr ⟨0, by omega, q⟩
      · exact Or.inr ⟨j + 1, by omega, q2⟩
    · rintro (q | ⟨j, q1, q2⟩)
      · exact Or.inl (Or.inl q)
      · cases j with
        | zero => exact Or.inl (Or.inr q2)
        | succ j => exact Or.inr ⟨j, by omega, q2⟩
/-- the number of arrows of an arrow's way -/
def IsPer (ins : Int → Int → Bool) (pt : Int) (a : Arw) (n : Nat) : Prop := 1 ≤ n ∧ itr ins pt n a = a ∧ ∀ k : Nat, 1 ≤ k → k < n → itr ins pt k a ≠ a
noncomputable def perd (ins : Int → Int → Bool) (pt : Int) (a : Arw) : Nat := Classical.epsilon (IsPer ins pt a)
theorem perd_ok {ins : Int → Int → Bool} {pt w h : Int} (hpt : pt = 1 ∨ pt = 3) (hz : szJ w h) (hi : insJ w h ins) {a : Arw} (ha : Vld ins a) : IsPer ins pt a (perd ins pt a) ∧ 4 ≤ perd ins pt a ∧ perd ins pt a ≤ 442 := by
  obtain ⟨n, h1, h2, h3, h4⟩ := period hpt hz hi ha
  have hp : IsPer ins pt a (perd ins pt a) := Classical.epsilon_spec (p := IsPer ins pt a) ⟨n, h1, h3, h4⟩
  refine ⟨hp, period_4 hpt ha hp.1 hp.2.1, ?_⟩
  apply Classical.byContradiction
  intro hgt
  exact hp.2.2 n h1 (by omega) h3
def nxv (f e v : Nat) : Nat := if v + 1 < e then v + 1 else f
def csum (φ : Int → Int → Int → Int → Int) (X Y : Nat → Int) (f e : Nat) : Int := vsum φ X Y f (e - 1 - f) + φ (X (e - 1)) (Y (e - 1)) (X f) (Y f)
/-- a contour that is done: c is its number, s its first arrow, n the number of its arrows -/
def CD (ins : Int → Int → Bool) (pt : Int) (σ : cs_S) (c : Nat) (s : Arw) (n : Nat) : Prop :=
  (Vld ins s ∧ s.2.2 = 0 ∧ IsPer ins pt s n) ∧ (σ 21 (σ 15 c).toNat = s.1 ∧ σ 22 (σ 15 c).toNat = s.2.1) ∧
  (∀ v : Nat, (σ 15 c).toNat ≤ v → v < (σ 15 (c + 1)).toNat → Ali (σ 21) (σ 22) v (nxv (σ 15 c).toNat (σ 15 (c + 1)).toNat v)) ∧
  ∀ φ, AddF φ → asum ins pt φ s n = csum φ (σ 21) (σ 22) (σ 15 c).toNat (σ 15 (c + 1)).toNat
theorem Ali_congr {X Y X' Y' : Nat → Int} {v w : Nat} (h1 : X' v = X v) (h2 : Y' v = Y v) (h3 : X' w = X w) (h4 : Y' w = Y w) : Ali X' Y' v w ↔ Ali X Y v w := by unfold Ali; rw [h1, h2, h3, h4]
theorem csum_congr {φ : Int → Int → Int → Int → Int} {X Y X' Y' : Nat → Int} {f e : Nat} (hfe : f < e) (h : ∀ v, v < e → X' v = X v ∧ Y' v = Y v) : csum φ X' Y' f e = csum φ X Y f e := by
  unfold csum vsum
  rw [(h (e - 1) (by omega)).1, (h (e - 1) (by omega)).2, (h f hfe).1, (h f hfe).2]
  congr 1
  exact sm_congr (fun j hj => by rw [(h (f + j) (by omega)).1, (h (f + j) (by omega)).2, (h (f + j + 1) (by omega)).1, (h (f + j + 1) (by omega)).2])
theorem nxv_lt {f e v : Nat} (hfe : f < e) (hv : v < e) : nxv f e v < e := by unfold nxv; split <;> omega
/-- a contour that is done stays so, when no vertex of it changes -/
theorem CD_keep {ins : Int → Int → Bool} {pt : Int} {σ τ : cs_S} {c : Nat} {s : Arw} {n : Nat} (h : CD ins pt σ c s n) (hfe : (σ 15 c).toNat < (σ 15 (c + 1)).toNat) (h15 : τ 15 c = σ 15 c ∧ τ 15 (c + 1) = σ 15 (c + 1)) (hv : ∀ v : Nat, v < (σ 15 (c + 1)).toNat → τ 21 v = σ 21 v ∧ τ 22 v = σ 22 v) : CD ins pt τ c s n := by
  obtain ⟨h1, h2, h3, h4⟩ := h
  unfold CD
  rw [h15.1, h15.2]
  refine ⟨h1, by rw [(hv _ hfe).1, (hv _ hfe).2]; exact h2, fun v q1 q2 => ?_, fun φ hφ => ?_⟩
  · have w := nxv_lt hfe q2
    rw [Ali_congr (hv v q2).1 (hv v q2).2 (hv _ w).1 (hv _ w).2]
    exact h3 v q1 q2
  · rw [csum_congr hfe hv]; exact h4 φ hφ
/-- the walk is through: the contour is done -/
theorem GI_done {ins : Int → Int → Bool} {pt : Int} {σ : cs_S} {s : Arw} {f n : Nat} (h : GI ins pt σ s f n) (hv : Vld ins s) (h0 : s.2.2 = 0) (hn : IsPer ins pt s n) : CD ins pt σ (σ 4 1 - 1).toNat s n ∧ (σ 15 (σ 4 1 - 1).toNat).toNat < (σ 15 ((σ 4 1 - 1).toNat + 1)).toNat := by
  obtain ⟨⟨g1, g2, g3⟩, ⟨hc, hf, hfv⟩, ⟨hf1, hf2⟩, k, hk, dd, hd, -, p1, p2, al, ph⟩ := h
  have he : σ 15 ((σ 4 1 - 1).toNat + 1) = σ 4 2 := by
    rw [show (σ 4 1 - 1).toNat + 1 = (σ 4 1).toNat by have := g1.1.1; omega]
    exact g1.1.2.2.2.2 hc
  have a2 := g1.1.2.1
  have back : (itr ins pt n s).1 = σ 21 f ∧ (itr ins pt n s).2.1 = σ 22 f := by rw [hn.2.1, hf1, hf2]; exact ⟨rfl, rfl⟩
  refine ⟨⟨⟨hv, h0, hn⟩, ?_, ?_, ?_⟩, ?_⟩
  · rw [hf]; simp only [Int.toNat_natCast]; exact ⟨hf1, hf2⟩
  · intro v q1 q2
    rw [hf, Int.toNat_natCast] at q1
    rw [he] at q2
    rw [hf, he, Int.toNat_natCast]
    unfold nxv
    by_cases e : v + 1 < (σ 4 2).toNat
    · rw [if_pos e]; exact al v q1 (by omega)
    · rw [if_neg e]
      have e4 : v = (σ 4 2 - 1).toNat := by omega
      rw [back.1] at p1
      rw [back.2] at p2
      unfold Ali
      rw [e4]
      exact ali_k hd hk p1 p2
  · intro φ hφ
    have := ph φ hφ
    rw [back.1, back.2] at this
    rw [this, hf, he, Int.toNat_natCast]
    unfold csum
    rw [show (σ 4 2).toNat - 1 = (σ 4 2 - 1).toNat by omega]
  · rw [hf, he]; omega
