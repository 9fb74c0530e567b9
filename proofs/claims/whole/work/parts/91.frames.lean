/-! frames: a method of one side looks at, and changes, its own places alone -/
def mx (A : Nat → Bool) (σ τ : cs_S) : cs_S := fun q => if A q then σ q else τ q
def cA (q : Nat) : Bool := Nat.blt q 28 && !(Nat.beq q 10)
def rA (q : Nat) : Bool := !(cA q)
section FRM
variable {A : Nat → Bool}
def fr {α : Type} (A : Nat → Bool) (e : cs_L → cs_S → Option (α × cs_S)) : Prop := ∀ L σ τ, e L (mx A σ τ) = (e L σ).map (fun r => (r.1, mx A r.2 τ))
def frO (A : Nat → Bool) (τ : cs_S) (o : cs_O) : cs_O := match o with
  | .inl r => .inl (r.1, mx A r.2 τ)
  | .inr (.inl r) => .inr (.inl (r.1, mx A r.2 τ))
  | .inr (.inr r) => .inr (.inr (r.1, mx A r.2 τ))
def frS (A : Nat → Bool) (s : cs_T) : Prop := ∀ L σ τ, s L (mx A σ τ) = (s L σ).map (frO A τ)
def frF (A : Nat → Bool) (f : cs_F) : Prop := ∀ zs σ τ, f zs (mx A σ τ) = (f zs σ).map (fun r => (r.1, mx A r.2 τ))
theorem mx_at {σ τ : cs_S} {p : Nat} (h : A p = true) : mx A σ τ p = σ p := by simp [mx, h]
theorem mx_off {σ τ : cs_S} {p : Nat} (h : A p = false) : mx A σ τ p = τ p := by simp [mx, h]
theorem mx_up {σ τ : cs_S} {p k : Nat} {v : Int} (h : A p = true) : cs_up (mx A σ τ) p k v = mx A (cs_up σ p k v) τ := by
  funext q j
  unfold cs_up mx
  by_cases e : q = p
  · subst e; simp [h]
  · simp only [e, false_and, if_false]
theorem fr_k {n : Int} : fr A (x_k n) := fun _ _ _ => rfl
theorem fr_l {i : Nat} : fr A (x_l i) := fun L σ τ => by
  unfold x_l
  split <;> rfl
theorem fr_f {p k : Nat} (h : A p = true) : fr A (x_f p k) := fun L σ τ => by simp [x_f, mx_at h]
theorem fr_chk {z : Int} {σ τ : cs_S} : cs_chk z (mx A σ τ) = (cs_chk z σ).map (fun r => (r.1, mx A r.2 τ)) := by
  unfold cs_chk; split <;> rfl
theorem fr_rd {p n : Nat} {i : Int} {σ τ : cs_S} (h : A p = true) : cs_rd p n i (mx A σ τ) = (cs_rd p n i σ).map (fun r => (r.1, mx A r.2 τ)) := by
  unfold cs_rd; rw [mx_at h]; split <;> rfl
theorem fr_wr {p n : Nat} {i v : Int} {L : cs_L} {σ τ : cs_S} (h : A p = true) : cs_wr p n i v L (mx A σ τ) = (cs_wr p n i v L σ).map (frO A τ) := by
  unfold cs_wr; rw [mx_up h]; split <;> rfl
theorem fr_a {p n : Nat} {e : cs_E} (h : A p = true) (he : fr A e) : fr A (x_a p n e) := fun L σ τ => by
  simp only [x_a]; rw [he]
  rcases e L σ with _ | r
  · rfl
  · exact fr_rd h
theorem fr_ro {xs : Nat → Int} {e : cs_E} (he : fr A e) : fr A (x_ro xs e) := fun L σ τ => by
  simp only [x_ro]; rw [he]
  rcases e L σ with _ | r
  · rfl
  · simp only [Option.map_some, Option.bind_some]; split <;> rfl
theorem fr_b2 {α β γ : Type} {e1 : cs_L → cs_S → Option (α × cs_S)} {e2 : cs_L → cs_S → Option (β × cs_S)} (F : α → β → cs_S → Option (γ × cs_S)) (h1 : fr A e1) (h2 : fr A e2) (hF : ∀ a b σ τ, F a b (mx A σ τ) = (F a b σ).map (fun r => (r.1, mx A r.2 τ))) : fr A (fun L σ => (e1 L σ).bind fun a => (e2 L a.2).bind fun b => F a.1 b.1 b.2) := fun L σ τ => by
  dsimp only
  rw [h1]
  rcases e1 L σ with _ | a
  · rfl
  · simp only [Option.map_some, Option.bind_some]
    rw [h2]
    rcases e2 L a.2 with _ | b
    · rfl
    · exact hF _ _ _ _
theorem fr_b1 {α γ : Type} {e1 : cs_L → cs_S → Option (α × cs_S)} (F : α → cs_S → Option (γ × cs_S)) (h1 : fr A e1) (hF : ∀ a σ τ, F a (mx A σ τ) = (F a σ).map (fun r => (r.1, mx A r.2 τ))) : fr A (fun L σ => (e1 L σ).bind fun a => F a.1 a.2) := fun L σ τ => by
  dsimp only
  rw [h1]
  rcases e1 L σ with _ | a
  · rfl
  · exact hF _ _ _
theorem fr_add {e1 e2 : cs_E} (h1 : fr A e1) (h2 : fr A e2) : fr A (x_add e1 e2) := fr_b2 (fun a b σ => cs_chk (a + b) σ) h1 h2 (fun _ _ _ _ => fr_chk)
theorem fr_sub {e1 e2 : cs_E} (h1 : fr A e1) (h2 : fr A e2) : fr A (x_sub e1 e2) := fr_b2 (fun a b σ => cs_chk (a - b) σ) h1 h2 (fun _ _ _ _ => fr_chk)
theorem fr_mul {e1 e2 : cs_E} (h1 : fr A e1) (h2 : fr A e2) : fr A (x_mul e1 e2) := fr_b2 (fun a b σ => cs_chk (a * b) σ) h1 h2 (fun _ _ _ _ => fr_chk)
theorem fr_div {e1 e2 : cs_E} (h1 : fr A e1) (h2 : fr A e2) : fr A (x_div e1 e2) := fr_b2 (fun a b σ => if 0 ≤ a ∧ 0 < b then some (a / b, σ) else none) h1 h2 (fun _ _ _ _ => by split <;> rfl)
theorem fr_rem {e1 e2 : cs_E} (h1 : fr A e1) (h2 : fr A e2) : fr A (x_rem e1 e2) := fr_b2 (fun a b σ => if 0 ≤ a ∧ 0 < b then some (a % b, σ) else none) h1 h2 (fun _ _ _ _ => by split <;> rfl)
theorem fr_max {e1 e2 : cs_E} (h1 : fr A e1) (h2 : fr A e2) : fr A (x_max e1 e2) := fr_b2 (fun a b σ => some (if a < b then b else a, σ)) h1 h2 (fun _ _ _ _ => rfl)
theorem fr_min {e1 e2 : cs_E} (h1 : fr A e1) (h2 : fr A e2) : fr A (x_min e1 e2) := fr_b2 (fun a b σ => some (if b < a then b else a, σ)) h1 h2 (fun _ _ _ _ => rfl)
theorem fr_abs {e : cs_E} (h1 : fr A e) : fr A (x_abs e) := fr_b1 (fun a σ => cs_chk (if 0 ≤ a then a else 0 - a) σ) h1 (fun _ _ _ => fr_chk)
theorem fr_neg {e : cs_E} (h1 : fr A e) : fr A (x_neg e) := fr_b1 (fun a σ => cs_chk (-a) σ) h1 (fun _ _ _ => fr_chk)
theorem fr_xite {c : cs_C} {e1 e2 : cs_E} (hc : fr A c) (h1 : fr A e1) (h2 : fr A e2) : fr A (x_ite c e1 e2) := fun L σ τ => by
  simp only [x_ite]; rw [hc]
  rcases c L σ with _ | t
  · rfl
  · simp only [Option.map_some, Option.bind_some]
    split
    · exact h1 _ _ _
    · exact h2 _ _ _
theorem fr_call {f : cs_F} {g : cs_G} (hf : frF A f) (hg : fr A g) : fr A (x_call f g) := fun L σ τ => by
  simp only [x_call]; rw [hg]
  rcases g L σ with _ | a
  · rfl
  · simp only [Option.map_some, Option.bind_some]
    rw [hf]
    rcases f a.1 a.2 with _ | ⟨_ | z, s⟩ <;> rfl
theorem fr_gn : fr A g_nil := fun _ _ _ => rfl
theorem fr_gc {e : cs_E} {g : cs_G} (h1 : fr A e) (h2 : fr A g) : fr A (g_cons e g) := fr_b2 (fun a b σ => some (a :: b, σ)) h1 h2 (fun _ _ _ _ => rfl)
theorem fr_lt {e1 e2 : cs_E} (h1 : fr A e1) (h2 : fr A e2) : fr A (y_lt e1 e2) := fr_b2 (fun a b σ => some (decide (a < b), σ)) h1 h2 (fun _ _ _ _ => rfl)
theorem fr_le {e1 e2 : cs_E} (h1 : fr A e1) (h2 : fr A e2) : fr A (y_le e1 e2) := fr_b2 (fun a b σ => some (decide (a ≤ b), σ)) h1 h2 (fun _ _ _ _ => rfl)
theorem fr_gt {e1 e2 : cs_E} (h1 : fr A e1) (h2 : fr A e2) : fr A (y_gt e1 e2) := fr_b2 (fun a b σ => some (decide (b < a), σ)) h1 h2 (fun _ _ _ _ => rfl)
theorem fr_ge {e1 e2 : cs_E} (h1 : fr A e1) (h2 : fr A e2) : fr A (y_ge e1 e2) := fr_b2 (fun a b σ => some (decide (b ≤ a), σ)) h1 h2 (fun _ _ _ _ => rfl)
theorem fr_eq {e1 e2 : cs_E} (h1 : fr A e1) (h2 : fr A e2) : fr A (y_eq e1 e2) := fr_b2 (fun a b σ => some (decide (a = b), σ)) h1 h2 (fun _ _ _ _ => rfl)
theorem fr_ne {e1 e2 : cs_E} (h1 : fr A e1) (h2 : fr A e2) : fr A (y_ne e1 e2) := fr_b2 (fun a b σ => some (decide (a ≠ b), σ)) h1 h2 (fun _ _ _ _ => rfl)
theorem fr_lgt {e1 e2 e3 e4 : cs_E} (h1 : fr A e1) (h2 : fr A e2) (h3 : fr A e3) (h4 : fr A e4) : fr A (y_lgt e1 e2 e3 e4) := fun L σ τ => by
  simp only [y_lgt]; rw [h1]
  rcases e1 L σ with _ | a
  · rfl
  · simp only [Option.map_some, Option.bind_some]; rw [h2]
    rcases e2 L a.2 with _ | b
    · rfl
    · simp only [Option.map_some, Option.bind_some]; rw [h3]
      rcases e3 L b.2 with _ | c
      · rfl
      · simp only [Option.map_some, Option.bind_some]; rw [h4]
        rcases e4 L c.2 with _ | d <;> rfl
theorem fr_not {c : cs_C} (h1 : fr A c) : fr A (y_not c) := fr_b1 (fun a σ => some (!a, σ)) h1 (fun _ _ _ => rfl)
theorem fr_and {c d : cs_C} (h1 : fr A c) (h2 : fr A d) : fr A (y_and c d) := fun L σ τ => by
  simp only [y_and]; rw [h1]
  rcases c L σ with _ | t
  · rfl
  · simp only [Option.map_some, Option.bind_some]
    split
    · exact h2 _ _ _
    · rfl
theorem fr_or {c d : cs_C} (h1 : fr A c) (h2 : fr A d) : fr A (y_or c d) := fun L σ τ => by
  simp only [y_or]; rw [h1]
  rcases c L σ with _ | t
  · rfl
  · simp only [Option.map_some, Option.bind_some]
    split
    · rfl
    · exact h2 _ _ _
theorem fr_yite {c d e : cs_C} (h1 : fr A c) (h2 : fr A d) (h3 : fr A e) : fr A (y_ite c d e) := fun L σ τ => by
  simp only [y_ite]; rw [h1]
  rcases c L σ with _ | t
  · rfl
  · simp only [Option.map_some, Option.bind_some]
    split
    · exact h2 _ _ _
    · exact h3 _ _ _
theorem fr_nop : frS A s_nop := fun _ _ _ => rfl
theorem fr_brk : frS A s_brk := fun _ _ _ => rfl
theorem fr_retv : frS A s_retv := fun _ _ _ => rfl
theorem fr_seq {s t : cs_T} (h1 : frS A s) (h2 : frS A t) : frS A (s_seq s t) := fun L σ τ => by
  simp only [s_seq]; rw [h1]
  rcases s L σ with _ | (r | (r | r))
  · rfl
  · exact h2 _ _ _
  · rfl
  · rfl
theorem fr_s1 {α : Type} {e : cs_L → cs_S → Option (α × cs_S)} (F : cs_L → α → cs_S → Option cs_O) (h1 : fr A e) (hF : ∀ L a σ τ, F L a (mx A σ τ) = (F L a σ).map (frO A τ)) : frS A (fun L σ => (e L σ).bind fun a => F L a.1 a.2) := fun L σ τ => by
  dsimp only
  rw [h1]
  rcases e L σ with _ | a
  · rfl
  · exact hF _ _ _ _
theorem fr_s2 {α β : Type} {e1 : cs_L → cs_S → Option (α × cs_S)} {e2 : cs_L → cs_S → Option (β × cs_S)} (F : cs_L → α → β → cs_S → Option cs_O) (h1 : fr A e1) (h2 : fr A e2) (hF : ∀ L a b σ τ, F L a b (mx A σ τ) = (F L a b σ).map (frO A τ)) : frS A (fun L σ => (e1 L σ).bind fun a => (e2 L a.2).bind fun b => F L a.1 b.1 b.2) := fun L σ τ => by
  dsimp only
  rw [h1]
  rcases e1 L σ with _ | a
  · rfl
  · simp only [Option.map_some, Option.bind_some]
    rw [h2]
    rcases e2 L a.2 with _ | b
    · rfl
    · exact hF _ _ _ _ _
theorem fr_set {i : Nat} {e : cs_E} (h : fr A e) : frS A (s_set i e) := fr_s1 (fun L a σ => some (.inl (L.set i (some a), σ))) h (fun _ _ _ _ => rfl)
theorem fr_inc {i : Nat} {n : Int} : frS A (s_inc i n) := fr_set (fr_add fr_l fr_k)
theorem fr_put {p k : Nat} {e : cs_E} (hp : A p = true) (h : fr A e) : frS A (s_put p k e) := fr_s1 (fun L a σ => some (.inl (L, cs_up σ p k a))) h (fun L a σ τ => by rw [mx_up hp]; rfl)
theorem fr_ast {p n : Nat} {e1 e2 : cs_E} (hp : A p = true) (h1 : fr A e1) (h2 : fr A e2) : frS A (s_ast p n e1 e2) := fr_s2 (fun L a b σ => cs_wr p n a b L σ) h1 h2 (fun _ _ _ _ _ => fr_wr hp)
theorem fr_zst {p n : Nat} {e1 e2 : cs_E} (hp : A p = true) (h1 : fr A e1) (h2 : fr A e2) : frS A (s_zst p n e1 e2) := fr_s2 (fun L a b σ => if b = 0 ∨ b = 1 then cs_wr p n a b L σ else none) h1 h2 (fun _ _ _ _ _ => by split; exact fr_wr hp; rfl)
theorem fr_cst {p n : Nat} {e1 e2 : cs_E} (hp : A p = true) (h1 : fr A e1) (h2 : fr A e2) : frS A (s_cst p n e1 e2) := fr_s2 (fun L a b σ => if 0 ≤ b ∧ b < 65536 then cs_wr p n a b L σ else none) h1 h2 (fun _ _ _ _ _ => by split; exact fr_wr hp; rfl)
theorem fr_ada {p n : Nat} {e1 e2 : cs_E} (hp : A p = true) (h1 : fr A e1) (h2 : fr A e2) : frS A (s_ada p n e1 e2) := fun L σ τ => by
  simp only [s_ada]; rw [h1]
  rcases e1 L σ with _ | a
  · rfl
  · simp only [Option.map_some, Option.bind_some]; rw [fr_rd hp]
    rcases cs_rd p n a.1 a.2 with _ | r
    · rfl
    · simp only [Option.map_some, Option.bind_some]; rw [h2]
      rcases e2 L r.2 with _ | b
      · rfl
      · simp only [Option.map_some, Option.bind_some]; rw [fr_chk]
        rcases cs_chk (r.1 + b.1) b.2 with _ | d
        · rfl
        · exact fr_wr hp
theorem fr_if {c : cs_C} {s t : cs_T} (hc : fr A c) (h1 : frS A s) (h2 : frS A t) : frS A (s_if c s t) := fun L σ τ => by
  simp only [s_if]; rw [hc]
  rcases c L σ with _ | r
  · rfl
  · simp only [Option.map_some, Option.bind_some]
    split
    · exact h1 _ _ _
    · exact h2 _ _ _
theorem fr_ret {e : cs_E} (h : fr A e) : frS A (s_ret e) := fr_s1 (fun _ a σ => some (.inr (.inl (some a, σ)))) h (fun _ _ _ _ => rfl)
theorem fr_retz {e : cs_E} (h : fr A e) : frS A (s_retz e) := fr_s1 (fun _ a σ => if a = 0 ∨ a = 1 then some (.inr (.inl (some a, σ))) else none) h (fun _ _ _ _ => by split <;> rfl)
theorem fr_ex {e : cs_E} (h : fr A e) : frS A (s_ex e) := fr_s1 (fun L _ σ => some (.inl (L, σ))) h (fun _ _ _ _ => rfl)
theorem fr_cv {f : cs_F} {g : cs_G} (hf : frF A f) (hg : fr A g) : frS A (s_cv f g) := fun L σ τ => by
  simp only [s_cv]; rw [hg]
  rcases g L σ with _ | a
  · rfl
  · simp only [Option.map_some, Option.bind_some]
    rw [hf]
    rcases f a.1 a.2 with _ | ⟨_ | z, s⟩ <;> rfl
def frL (A : Nat → Bool) (ss : List cs_T) : Prop := ∀ (i : Nat) (s : cs_T), ss[i]? = some s → frS A s
theorem fr_nil : frL A [] := fun i s h => by simp at h
theorem fr_cons {s : cs_T} {ss : List cs_T} (h1 : frS A s) (h2 : frL A ss) : frL A (s :: ss) := fun i t h => by
  cases i with
  | zero => simp at h; subst h; exact h1
  | succ i => exact h2 i t (by simpa using h)
theorem fr_sw {e : cs_E} {ss : List cs_T} {d : cs_T} (he : fr A e) (hs : frL A ss) (hd : frS A d) : frS A (s_sw e ss d) := fun L σ τ => by
  simp only [s_sw]; rw [he]
  rcases e L σ with _ | a
  · rfl
  · simp only [Option.map_some, Option.bind_some]
    split
    · cases q : ss[a.1.toNat]? with
      | none => exact hd _ _ _
      | some s => exact hs _ _ q _ _ _
    · exact hd _ _ _
theorem fr_it {c : cs_C} {b : cs_T} (hc : fr A c) (hb : frS A b) : ∀ n : Nat, frS A (cs_it c b n)
  | 0 => fun _ _ _ => rfl
  | n + 1 => fun L σ τ => by
    simp only [cs_it]; rw [hc]
    rcases c L σ with _ | t
    · rfl
    · simp only [Option.map_some, Option.bind_some]
      split
      · rw [hb]
        rcases b L t.2 with _ | (r | (r | r))
        · rfl
        · exact fr_it hc hb n _ _ _
        · rfl
        · rfl
      · rfl
theorem fr_wh {c : cs_C} {b : cs_T} (hc : fr A c) (hb : frS A b) : frS A (s_wh c b) := fun L σ τ => by
  apply Option.ext
  intro o
  rw [s_wh_iff, Option.map_eq_some_iff]
  constructor
  · rintro ⟨n, hn⟩
    rw [fr_it hc hb n, Option.map_eq_some_iff] at hn
    obtain ⟨a, h1, h2⟩ := hn
    exact ⟨a, s_wh_iff.mpr ⟨n, h1⟩, h2⟩
  · rintro ⟨a, h1, h2⟩
    obtain ⟨n, hn⟩ := s_wh_iff.mp h1
    exact ⟨n, by rw [fr_it hc hb n, hn, Option.map_some, h2]⟩
theorem fr_run {sg : List (Option Nat)} {nL : Nat} {s : cs_T} (h : frS A s) : frF A (cs_run sg nL s) := fun zs σ τ => by
  simp only [cs_run]; rw [h]
  rcases s (cs_L0 sg zs ++ List.replicate (nL - sg.length) none) σ with _ | (r | (r | r)) <;> rfl
end FRM
