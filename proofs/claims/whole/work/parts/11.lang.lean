/-! the functions that the code computes: expressions, conditions, argument lists, statements -/
abbrev cs_E : Type := cs_L → cs_S → Option (Int × cs_S)
abbrev cs_C : Type := cs_L → cs_S → Option (Bool × cs_S)
abbrev cs_G : Type := cs_L → cs_S → Option (List Int × cs_S)
abbrev cs_O : Type := (cs_L × cs_S) ⊕ ((Option Int × cs_S) ⊕ (cs_L × cs_S))
abbrev cs_T : Type := cs_L → cs_S → Option cs_O
def cs_chk (z : Int) (σ : cs_S) : Option (Int × cs_S) := if cs_InR z then some (z, σ) else none
theorem cs_chk_some {z v : Int} {σ σ' : cs_S} (h : cs_chk z σ = some (v, σ')) : cs_InR z ∧ z = v ∧ σ = σ' := by
  unfold cs_chk at h
  by_cases c : cs_InR z
  · rw [if_pos c] at h
    cases h
    exact ⟨c, rfl, rfl⟩
  · rw [if_neg c] at h
    cases h
theorem cs_chk_ok {z : Int} {σ : cs_S} (h : cs_InR z) : cs_chk z σ = some (z, σ) := if_pos h
def x_k (n : Int) : cs_E := fun _ σ => some (n, σ)
def x_l (i : Nat) : cs_E := fun L σ => match L[i]? with
  | some (some z) => some (z, σ)
  | _ => none
def x_f (p k : Nat) : cs_E := fun _ σ => some (σ p k, σ)
def cs_rd (p n : Nat) (i : Int) (σ : cs_S) : Option (Int × cs_S) := if 0 ≤ i ∧ i < (n : Int) then some (σ p i.toNat, σ) else none
def x_a (p n : Nat) (e : cs_E) : cs_E := fun L σ => (e L σ).bind fun r => cs_rd p n r.1 r.2
def x_ro (xs : Nat → Int) (e : cs_E) : cs_E := fun L σ => (e L σ).bind fun r => if 0 ≤ r.1 ∧ r.1 < 4 then some (xs r.1.toNat, r.2) else none
def x_add (e1 e2 : cs_E) : cs_E := fun L σ => (e1 L σ).bind fun a => (e2 L a.2).bind fun b => cs_chk (a.1 + b.1) b.2
def x_sub (e1 e2 : cs_E) : cs_E := fun L σ => (e1 L σ).bind fun a => (e2 L a.2).bind fun b => cs_chk (a.1 - b.1) b.2
def x_mul (e1 e2 : cs_E) : cs_E := fun L σ => (e1 L σ).bind fun a => (e2 L a.2).bind fun b => cs_chk (a.1 * b.1) b.2
def x_div (e1 e2 : cs_E) : cs_E := fun L σ => (e1 L σ).bind fun a => (e2 L a.2).bind fun b => if 0 ≤ a.1 ∧ 0 < b.1 then some (a.1 / b.1, b.2) else none
def x_rem (e1 e2 : cs_E) : cs_E := fun L σ => (e1 L σ).bind fun a => (e2 L a.2).bind fun b => if 0 ≤ a.1 ∧ 0 < b.1 then some (a.1 % b.1, b.2) else none
def x_neg (e : cs_E) : cs_E := fun L σ => (e L σ).bind fun a => cs_chk (-a.1) a.2
def x_ite (c : cs_C) (e1 e2 : cs_E) : cs_E := fun L σ => (c L σ).bind fun t => if t.1 then e1 L t.2 else e2 L t.2
def x_call (f : cs_F) (g : cs_G) : cs_E := fun L σ => (g L σ).bind fun a => (f a.1 a.2).bind fun r => match r.1 with
  | some z => some (z, r.2)
  | none => none
def g_nil : cs_G := fun _ σ => some ([], σ)
def g_cons (e : cs_E) (g : cs_G) : cs_G := fun L σ => (e L σ).bind fun a => (g L a.2).bind fun b => some (a.1 :: b.1, b.2)
def y_lt (e1 e2 : cs_E) : cs_C := fun L σ => (e1 L σ).bind fun a => (e2 L a.2).bind fun b => some (decide (a.1 < b.1), b.2)
def y_le (e1 e2 : cs_E) : cs_C := fun L σ => (e1 L σ).bind fun a => (e2 L a.2).bind fun b => some (decide (a.1 ≤ b.1), b.2)
def y_gt (e1 e2 : cs_E) : cs_C := fun L σ => (e1 L σ).bind fun a => (e2 L a.2).bind fun b => some (decide (b.1 < a.1), b.2)
def y_ge (e1 e2 : cs_E) : cs_C := fun L σ => (e1 L σ).bind fun a => (e2 L a.2).bind fun b => some (decide (b.1 ≤ a.1), b.2)
def y_eq (e1 e2 : cs_E) : cs_C := fun L σ => (e1 L σ).bind fun a => (e2 L a.2).bind fun b => some (decide (a.1 = b.1), b.2)
def y_ne (e1 e2 : cs_E) : cs_C := fun L σ => (e1 L σ).bind fun a => (e2 L a.2).bind fun b => some (decide (a.1 ≠ b.1), b.2)
def y_lgt (e1 e2 e3 e4 : cs_E) : cs_C := fun L σ => (e1 L σ).bind fun a => (e2 L a.2).bind fun b => (e3 L b.2).bind fun c => (e4 L c.2).bind fun d => some (decide (c.1 * d.1 < a.1 * b.1), d.2)
def y_not (c : cs_C) : cs_C := fun L σ => (c L σ).bind fun t => some (!t.1, t.2)
def y_and (c d : cs_C) : cs_C := fun L σ => (c L σ).bind fun t => if t.1 then d L t.2 else some (false, t.2)
def y_or (c d : cs_C) : cs_C := fun L σ => (c L σ).bind fun t => if t.1 then some (true, t.2) else d L t.2
def y_ite (c d1 d2 : cs_C) : cs_C := fun L σ => (c L σ).bind fun t => if t.1 then d1 L t.2 else d2 L t.2
def s_nop : cs_T := fun L σ => some (.inl (L, σ))
def s_seq (s t : cs_T) : cs_T := fun L σ => (s L σ).bind fun o => match o with
  | .inl r => t r.1 r.2
  | .inr r => some (.inr r)
def s_set (i : Nat) (e : cs_E) : cs_T := fun L σ => (e L σ).bind fun a => some (.inl (L.set i (some a.1), a.2))
def s_inc (i : Nat) (n : Int) : cs_T := s_set i (x_add (x_l i) (x_k n))
def s_put (p k : Nat) (e : cs_E) : cs_T := fun L σ => (e L σ).bind fun a => some (.inl (L, cs_up a.2 p k a.1))
def cs_wr (p n : Nat) (i v : Int) (L : cs_L) (σ : cs_S) : Option cs_O := if 0 ≤ i ∧ i < (n : Int) then some (.inl (L, cs_up σ p i.toNat v)) else none
def s_ast (p n : Nat) (e1 e2 : cs_E) : cs_T := fun L σ => (e1 L σ).bind fun a => (e2 L a.2).bind fun b => cs_wr p n a.1 b.1 L b.2
def s_zst (p n : Nat) (e1 e2 : cs_E) : cs_T := fun L σ => (e1 L σ).bind fun a => (e2 L a.2).bind fun b => if b.1 = 0 ∨ b.1 = 1 then cs_wr p n a.1 b.1 L b.2 else none
def s_cst (p n : Nat) (e1 e2 : cs_E) : cs_T := fun L σ => (e1 L σ).bind fun a => (e2 L a.2).bind fun b => if 0 ≤ b.1 ∧ b.1 < 65536 then cs_wr p n a.1 b.1 L b.2 else none
def s_ada (p n : Nat) (e1 e2 : cs_E) : cs_T := fun L σ => (e1 L σ).bind fun a => (cs_rd p n a.1 a.2).bind fun r => (e2 L r.2).bind fun b => (cs_chk (r.1 + b.1) b.2).bind fun d => cs_wr p n a.1 d.1 L d.2
def s_if (c : cs_C) (s t : cs_T) : cs_T := fun L σ => (c L σ).bind fun r => if r.1 then s L r.2 else t L r.2
def s_ret (e : cs_E) : cs_T := fun L σ => (e L σ).bind fun a => some (.inr (.inl (some a.1, a.2)))
def s_retz (e : cs_E) : cs_T := fun L σ => (e L σ).bind fun a => if a.1 = 0 ∨ a.1 = 1 then some (.inr (.inl (some a.1, a.2))) else none
def s_retv : cs_T := fun _ σ => some (.inr (.inl (none, σ)))
def s_brk : cs_T := fun L σ => some (.inr (.inr (L, σ)))
def s_ex (e : cs_E) : cs_T := fun L σ => (e L σ).bind fun a => some (.inl (L, a.2))
def s_cv (f : cs_F) (g : cs_G) : cs_T := fun L σ => (g L σ).bind fun a => (f a.1 a.2).bind fun r => match r.1 with
  | some _ => none
  | none => some (.inl (L, r.2))
def s_sw (e : cs_E) (ss : List cs_T) (d : cs_T) : cs_T := fun L σ => (e L σ).bind fun a => (if 0 ≤ a.1 then (ss[a.1.toNat]?).getD d else d) L a.2
def cs_it (c : cs_C) (b : cs_T) : Nat → cs_T
  | 0, _, _ => none
  | n + 1, L, σ => (c L σ).bind fun t => if t.1 then (b L t.2).bind (fun o => match o with
      | .inl r => cs_it c b n r.1 r.2
      | .inr (.inl r) => some (.inr (.inl r))
      | .inr (.inr r) => some (.inl r)) else some (.inl (L, t.2))
theorem cs_it_succ {c : cs_C} {b : cs_T} : ∀ (n : Nat) (L : cs_L) (σ : cs_S) (o : cs_O), cs_it c b n L σ = some o → cs_it c b (n + 1) L σ = some o
  | 0, L, σ, o, h => by simp [cs_it] at h
  | n + 1, L, σ, o, h => by
    rw [cs_it] at h ⊢
    obtain ⟨t, h1, h2⟩ := Option.bind_eq_some_iff.mp h
    refine Option.bind_eq_some_iff.mpr ⟨t, h1, ?_⟩
    by_cases ht : t.1 = true
    · rw [if_pos ht] at h2 ⊢
      obtain ⟨r, h3, h4⟩ := Option.bind_eq_some_iff.mp h2
      refine Option.bind_eq_some_iff.mpr ⟨r, h3, ?_⟩
      match r, h4 with
      | .inl r, h4 => exact cs_it_succ n _ _ _ h4
      | .inr (.inl r), h4 => exact h4
      | .inr (.inr r), h4 => exact h4
    · rw [if_neg ht] at h2 ⊢
      exact h2
theorem cs_it_add {c : cs_C} {b : cs_T} {n : Nat} (k : Nat) {L : cs_L} {σ : cs_S} {o : cs_O} (h : cs_it c b n L σ = some o) : cs_it c b (n + k) L σ = some o := by
  induction k with
  | zero => exact h
  | succ k ih => exact cs_it_succ _ _ _ _ ih
noncomputable def s_wh (c : cs_C) (b : cs_T) : cs_T := fun L σ => cs_it c b (Classical.epsilon (fun n => (cs_it c b n L σ).isSome = true)) L σ
theorem s_wh_iff {c : cs_C} {b : cs_T} {L : cs_L} {σ : cs_S} {o : cs_O} : s_wh c b L σ = some o ↔ ∃ n, cs_it c b n L σ = some o := by
  unfold s_wh
  constructor
  · intro h
    exact ⟨_, h⟩
  · rintro ⟨n, h⟩
    have hh : ∃ n, (cs_it c b n L σ).isSome = true := ⟨n, by rw [h]; rfl⟩
    obtain ⟨o2, h2⟩ := Option.isSome_iff_exists.mp (Classical.epsilon_spec hh)
    have h3 := cs_it_add n h2
    have h4 := cs_it_add (Classical.epsilon (fun n => (cs_it c b n L σ).isSome = true)) h
    rw [Nat.add_comm, h3] at h4
    rw [h2, ← h4]
/-- a loop's unfolding -/
theorem s_wh_eq {c : cs_C} {b : cs_T} {L : cs_L} {σ : cs_S} : s_wh c b L σ = (c L σ).bind fun t => if t.1 then (b L t.2).bind (fun o => match o with
      | .inl r => s_wh c b r.1 r.2
      | .inr (.inl r) => some (.inr (.inl r))
      | .inr (.inr r) => some (.inl r)) else some (.inl (L, t.2)) := by
  apply Option.ext
  intro o
  constructor
  · intro h
    obtain ⟨n, hn⟩ := s_wh_iff.mp h
    cases n with
    | zero => simp [cs_it] at hn
    | succ n =>
      rw [cs_it] at hn
      obtain ⟨t, h1, h2⟩ := Option.bind_eq_some_iff.mp hn
      refine Option.bind_eq_some_iff.mpr ⟨t, h1, ?_⟩
      by_cases ht : t.1 = true
      · rw [if_pos ht] at h2 ⊢
        obtain ⟨r, h3, h4⟩ := Option.bind_eq_some_iff.mp h2
        refine Option.bind_eq_some_iff.mpr ⟨r, h3, ?_⟩
        match r, h4 with
        | .inl r, h4 => exact s_wh_iff.mpr ⟨n, h4⟩
        | .inr (.inl r), h4 => exact h4
        | .inr (.inr r), h4 => exact h4
      · rw [if_neg ht] at h2 ⊢
        exact h2
  · intro h
    obtain ⟨t, h1, h2⟩ := Option.bind_eq_some_iff.mp h
    by_cases ht : t.1 = true
    · rw [if_pos ht] at h2
      obtain ⟨r, h3, h4⟩ := Option.bind_eq_some_iff.mp h2
      match r, h3, h4 with
      | .inl r, h3, h4 =>
        obtain ⟨n, hn⟩ := s_wh_iff.mp h4
        refine s_wh_iff.mpr ⟨n + 1, ?_⟩
        rw [cs_it, h1]
        simp only [Option.bind_some]
        rw [if_pos ht, h3]
        exact hn
      | .inr (.inl r), h3, h4 =>
        refine s_wh_iff.mpr ⟨1, ?_⟩
        rw [cs_it, h1]
        simp only [Option.bind_some]
        rw [if_pos ht, h3]
        exact h4
      | .inr (.inr r), h3, h4 =>
        refine s_wh_iff.mpr ⟨1, ?_⟩
        rw [cs_it, h1]
        simp only [Option.bind_some]
        rw [if_pos ht, h3]
        exact h4
    · rw [if_neg ht] at h2
      refine s_wh_iff.mpr ⟨1, ?_⟩
      rw [cs_it, h1]
      simp only [Option.bind_some]
      rw [if_neg ht]
      exact h2
/-- a method's function out of its body -/
def cs_run (sg : List (Option Nat)) (nL : Nat) (s : cs_T) : cs_F := fun zs σ => match s (cs_L0 sg zs ++ List.replicate (nL - sg.length) none) σ with
  | some (.inr (.inl r)) => some r
  | _ => none
