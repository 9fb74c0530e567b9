/-! rules for the functions: reading, writing, loops -/
theorem cs_rd_ok {p n : Nat} {i : Int} {σ : cs_S} (h : 0 ≤ i ∧ i < (n : Int)) : cs_rd p n i σ = some (σ p i.toNat, σ) := if_pos h
theorem cs_wr_ok {p n : Nat} {i v : Int} {L : cs_L} {σ : cs_S} (h : 0 ≤ i ∧ i < (n : Int)) : cs_wr p n i v L σ = some (.inl (L, cs_up σ p i.toNat v)) := if_pos h
theorem cs_up_at {σ : cs_S} {p k j : Nat} {v : Int} : cs_up σ p k v p j = if j = k then v else σ p j := by simp [cs_up]
theorem cs_up_self {σ : cs_S} {p k : Nat} {v : Int} : cs_up σ p k v p k = v := by simp [cs_up]
theorem cs_up_off {σ : cs_S} {p k q j : Nat} {v : Int} (h : q ≠ p) : cs_up σ p k v q j = σ q j := by simp [cs_up, h]
/-- a loop's general rule: a measure falls -/
theorem wh_rule {c : cs_C} {b : cs_T} (Inv : Nat → cs_L → cs_S → Prop) (Post : cs_O → Prop)
    (h : ∀ n L σ, Inv n L σ → (∃ σ1, c L σ = some (false, σ1) ∧ Post (.inl (L, σ1))) ∨ ∃ σ1 o, c L σ = some (true, σ1) ∧ b L σ1 = some o ∧ (match o with
      | .inl r => ∃ m, m < n ∧ Inv m r.1 r.2
      | .inr (.inl r) => Post (.inr (.inl r))
      | .inr (.inr r) => Post (.inl r))) : ∀ n L σ, Inv n L σ → ∃ o, s_wh c b L σ = some o ∧ Post o := by
  intro n
  induction n using Nat.strongRecOn with
  | ind n ih =>
    intro L σ hI
    rw [s_wh_eq]
    rcases h n L σ hI with ⟨σ1, h1, h2⟩ | ⟨σ1, o, h1, h2, h3⟩
    · exact ⟨_, by rw [h1]; rfl, h2⟩
    · rw [h1]
      match o, h2, h3 with
      | .inl r, h2, ⟨m, hm, hI2⟩ =>
        obtain ⟨o2, g1, g2⟩ := ih m hm r.1 r.2 hI2
        exact ⟨o2, by simp only [Option.bind_some, if_true, h2]; exact g1, g2⟩
      | .inr (.inl r), h2, h3 => exact ⟨_, by simp only [Option.bind_some, if_true, h2], h3⟩
      | .inr (.inr r), h2, h3 => exact ⟨_, by simp only [Option.bind_some, if_true, h2], h3⟩
/-- folding over places k, k + 1 .. -/
def fd {α : Type} (F : Int → α → α) : Nat → Int → α → α
  | 0, _, a => a
  | n + 1, k, a => fd F n (k + 1) (F k a)
theorem wh_for {α : Type} {c : cs_C} {b : cs_T} (Lf : Int → α → cs_L) (S : α → cs_S) (F : Int → α → α) (I : Int → α → Prop) (e : Int)
    (hc : ∀ k a, I k a → c (Lf k a) (S a) = some (decide (k < e), S a))
    (hb : ∀ k a, I k a → k < e → b (Lf k a) (S a) = some (.inl (Lf (k + 1) (F k a), S (F k a))) ∧ I (k + 1) (F k a)) :
    ∀ (n : Nat) (k : Int) (a : α), I k a → e = k + n → s_wh c b (Lf k a) (S a) = some (.inl (Lf e (fd F n k a), S (fd F n k a))) ∧ I e (fd F n k a) := by
  intro n
  induction n with
  | zero =>
    intro k a hI he
    have he : e = k := by omega
    subst he
    rw [s_wh_eq, hc _ _ hI]
    simp [fd, hI]
  | succ n ih =>
    intro k a hI he
    have hlt : k < e := by omega
    obtain ⟨h1, h2⟩ := hb k a hI hlt
    obtain ⟨g1, g2⟩ := ih (k + 1) (F k a) h2 (by omega)
    rw [s_wh_eq, hc _ _ hI]
    simp only [Option.bind_some, decide_eq_true hlt, if_true, h1]
    exact ⟨g1, g2⟩
/-- the first place of a kind -/
def ff (hit : Int → Bool) : Nat → Int → Option Int
  | 0, _ => none
  | n + 1, k => if hit k then some k else ff hit n (k + 1)
theorem wh_find {c : cs_C} {b : cs_T} (Lf : Int → cs_L) (σ : cs_S) (hit : Int → Bool) (R : Int → Option Int × cs_S) (k0 e : Int)
    (hc : ∀ k, k0 ≤ k → c (Lf k) σ = some (decide (k < e), σ))
    (hb : ∀ k, k0 ≤ k → k < e → b (Lf k) σ = if hit k then some (.inr (.inl (R k))) else some (.inl (Lf (k + 1), σ))) :
    ∀ (n : Nat) (k : Int), k0 ≤ k → e = k + n → s_wh c b (Lf k) σ = match ff hit n k with
      | some j => some (.inr (.inl (R j)))
      | none => some (.inl (Lf e, σ)) := by
  intro n
  induction n with
  | zero =>
    intro k h0 he
    have he : e = k := by omega
    subst he
    rw [s_wh_eq, hc _ h0]
    simp [ff]
  | succ n ih =>
    intro k h0 he
    have hlt : k < e := by omega
    rw [s_wh_eq, hc _ h0]
    simp only [Option.bind_some, decide_eq_true hlt, if_true, hb k h0 hlt, ff]
    by_cases hh : hit k = true
    · simp [hh]
    · simp only [hh, if_false, Option.bind_some, Bool.false_eq_true]
      exact ih (k + 1) (by omega) (by omega)
theorem ff_some {hit : Int → Bool} : ∀ {n : Nat} {k j : Int}, ff hit n k = some j → k ≤ j ∧ j < k + n ∧ hit j = true ∧ ∀ i, k ≤ i → i < j → hit i = false
  | 0, k, j, h => by simp [ff] at h
  | n + 1, k, j, h => by
    unfold ff at h
    by_cases hh : hit k = true
    · simp only [hh, if_true, Option.some.injEq] at h
      subst h
      exact ⟨by omega, by omega, hh, fun i h1 h2 => by omega⟩
    · simp only [hh, Bool.false_eq_true, if_false] at h
      obtain ⟨h1, h2, h3, h4⟩ := ff_some h
      refine ⟨by omega, by omega, h3, fun i g1 g2 => ?_⟩
      by_cases e : i = k
      · subst e; simpa using hh
      · exact h4 i (by omega) g2
theorem ff_none {hit : Int → Bool} : ∀ {n : Nat} {k : Int}, ff hit n k = none → ∀ i, k ≤ i → i < k + n → hit i = false
  | 0, k, h, i, h1, h2 => by omega
  | n + 1, k, h, i, h1, h2 => by
    unfold ff at h
    by_cases hh : hit k = true
    · simp [hh] at h
    · simp only [hh, Bool.false_eq_true, if_false] at h
      by_cases e : i = k
      · subst e; simpa using hh
      · exact ff_none h i (by omega) (by omega)
theorem ff_congr {h1 h2 : Int → Bool} : ∀ {n : Nat} {k : Int}, (∀ i, k ≤ i → i < k + n → h1 i = h2 i) → ff h1 n k = ff h2 n k
  | 0, k, _ => rfl
  | n + 1, k, h => by
    unfold ff
    rw [h k (by omega) (by omega), ff_congr (n := n) (k := k + 1) (fun i a b => h i (by omega) (by omega))]
theorem fd_congr {α : Type} {F G : Int → α → α} : ∀ {n : Nat} {k : Int} {a : α}, (∀ i a, k ≤ i → i < k + n → F i a = G i a) → fd F n k a = fd G n k a
  | 0, k, a, _ => rfl
  | n + 1, k, a, h => by
    unfold fd
    rw [h k a (by omega) (by omega)]
    exact fd_congr (n := n) (k := k + 1) (fun i a g1 g2 => h i a (by omega) (by omega))
/-- something that each turn keeps -/
theorem fd_inv {α : Type} {F : Int → α → α} (I : Int → α → Prop) : ∀ {n : Nat} {k : Int} {a : α}, I k a → (∀ i a, k ≤ i → i < k + n → I i a → I (i + 1) (F i a)) → I (k + n) (fd F n k a)
  | 0, k, a, h, _ => by simpa [fd] using h
  | n + 1, k, a, h, hs => by
    unfold fd
    have := fd_inv (F := F) I (n := n) (k := k + 1) (a := F k a) (hs k a (by omega) (by omega) h) (fun i a g1 g2 => hs i a (by omega) (by omega))
    rw [show k + ((n + 1 : Nat) : Int) = k + 1 + n by omega]
    exact this
