/-! exact ints: a number of the model stands for the int32 of it -/
abbrev cs_InR (z : Int) : Prop := -2147483648 ≤ z ∧ z ≤ 2147483647
def cs_q (z : Int) : Int32 := Int32.ofInt z
theorem cs_qT {z : Int} (h : cs_InR z) : (cs_q z).toInt = z := Int32.toInt_ofInt_of_le (by omega) (by omega)
theorem cs_qS (x : Int32) : cs_q x.toInt = x := Int32.ofInt_toInt x
theorem cs_inR (x : Int32) : cs_InR x.toInt := by
  have h1 := Int32.le_toInt x
  have h2 := Int32.toInt_lt x
  omega
theorem cs_q_lt {a b : Int} (ha : cs_InR a) (hb : cs_InR b) : cs_q a < cs_q b ↔ a < b := by rw [Int32.lt_iff_toInt_lt, cs_qT ha, cs_qT hb]
theorem cs_q_le {a b : Int} (ha : cs_InR a) (hb : cs_InR b) : cs_q a ≤ cs_q b ↔ a ≤ b := by rw [Int32.le_iff_toInt_le, cs_qT ha, cs_qT hb]
theorem cs_q_eq {a b : Int} (ha : cs_InR a) (hb : cs_InR b) : cs_q a = cs_q b ↔ a = b := by rw [← Int32.toInt_inj, cs_qT ha, cs_qT hb]
theorem cs_q0 : cs_q 0 = 0 := by decide +kernel
theorem cs_q_nat {a : Int} (h0 : 0 ≤ a) (h : cs_InR a) : (cs_q a).toNatClampNeg = a.toNat := Int32.toNatClampNeg_ofInt_of_le (by omega) (by omega)
theorem cs_q_in {a : Int} {n : Nat} (h0 : 0 ≤ a) (h1 : a < n) (hr : cs_InR a) : vp_in (cs_q a) n := vp_in_iff.mpr (by rw [cs_qT hr]; omega)
theorem cs_q_add (a b : Int) : cs_q a + cs_q b = cs_q (a + b) := (Int32.ofInt_add a b).symm
theorem cs_q_sub (a b : Int) : cs_q a - cs_q b = cs_q (a - b) := (Int32.ofInt_sub a b).symm
theorem cs_q_mul (a b : Int) : cs_q a * cs_q b = cs_q (a * b) := (Int32.ofInt_mul a b).symm
theorem cs_q_neg (a : Int) : -cs_q a = cs_q (-a) := (Int32.ofInt_neg a).symm
theorem cs_q_div {a b : Int} (ha : 0 ≤ a) (hb : 0 < b) (ra : cs_InR a) (rb : cs_InR b) : cs_q a / cs_q b = cs_q (a / b) := by
  apply Int32.toInt_inj.mp
  have h1 : cs_q b ≠ -1 := by
    intro h
    have h2 := congrArg Int32.toInt h
    rw [cs_qT rb] at h2
    have h3 : (-1 : Int32).toInt = -1 := by decide +kernel
    omega
  have h4 : a / b ≤ a := Int.ediv_le_self b ha
  have h5 : 0 ≤ a / b := Int.ediv_nonneg ha (by omega)
  rw [Int32.toInt_div_of_ne_right _ _ h1, cs_qT ra, cs_qT rb, cs_qT ⟨by omega, by omega⟩, Int.tdiv_eq_ediv_of_nonneg ha]
theorem cs_q_rem {a b : Int} (ha : 0 ≤ a) (hb : 0 < b) (ra : cs_InR a) (rb : cs_InR b) : cs_q a - cs_q a / cs_q b * cs_q b = cs_q (a % b) := by
  rw [cs_q_div ha hb ra rb, cs_q_mul, cs_q_sub]
  congr 1
  have := Int.emod_add_mul_ediv a b
  have h2 : b * (a / b) = a / b * b := Int.mul_comm _ _
  omega
/-! the store, the shape of the objects, the world of a store -/
abbrev cs_S : Type := Nat → Nat → Int
abbrev cs_Sh : Type := List ((Nat × List (Option Nat)) ⊕ (FieldType × Nat))
def cs_up (σ : cs_S) (p k : Nat) (v : Int) : cs_S := fun q j => if q = p ∧ j = k then v else σ q j
abbrev cs_InS (σ : cs_S) : Prop := ∀ p k, cs_InR (σ p k)
theorem cs_InS_up {σ : cs_S} {p k : Nat} {v : Int} (h : cs_InS σ) (hv : cs_InR v) : cs_InS (cs_up σ p k v) := by
  intro q j
  unfold cs_up
  by_cases c : q = p ∧ j = k
  · rw [if_pos c]; exact hv
  · rw [if_neg c]; exact h q j
def cs_fv (adr : Nat → Nat) (g : Nat → Int) (k : Nat) (f : Option Nat) : Value := match f with
  | none => .int (cs_q (g k))
  | some q => .ref (adr q)
def cs_ce (adr : Nat → Nat) (ac : FieldType → ClassId) (g : Nat → Int) (e : (Nat × List (Option Nat)) ⊕ (FieldType × Nat)) : va_E := match e with
  | .inl o => .inr (o.1, o.2.mapIdx (cs_fv adr g))
  | .inr a => .inl (ac a.1, a.2, .inl (fun j => cs_q (g j)))
def cs_wl (sh : cs_Sh) (adr : Nat → Nat) (ac : FieldType → ClassId) (σ : cs_S) : va_W := sh.mapIdx (fun p e => (adr p, cs_ce adr ac (σ p) e))
theorem cs_wl_at {sh : cs_Sh} {adr : Nat → Nat} {ac : FieldType → ClassId} {σ : cs_S} {p : Nat} {e : (Nat × List (Option Nat)) ⊕ (FieldType × Nat)} (h : sh[p]? = some e) : (cs_wl sh adr ac σ)[p]? = some (adr p, cs_ce adr ac (σ p) e) := by
  unfold cs_wl
  rw [List.getElem?_mapIdx, h]
  rfl
theorem cs_wl_len {sh : cs_Sh} {adr : Nat → Nat} {ac : FieldType → ClassId} {σ : cs_S} : (cs_wl sh adr ac σ).length = sh.length := by
  unfold cs_wl
  exact List.length_mapIdx
theorem cs_wl_set {sh : cs_Sh} {adr : Nat → Nat} {ac : FieldType → ClassId} {σ : cs_S} {p : Nat} {x : va_E} {σ' : cs_S} (e : (Nat × List (Option Nat)) ⊕ (FieldType × Nat)) (h : sh[p]? = some e) (hx : x = cs_ce adr ac (σ' p) e) (ho : ∀ q, q ≠ p → σ' q = σ q) : (cs_wl sh adr ac σ).set p (adr p, x) = cs_wl sh adr ac σ' := by
  subst hx
  apply List.ext_getElem?
  intro i
  have hl : p < sh.length := (List.getElem?_eq_some_iff.mp h).1
  by_cases hi : i = p
  · subst hi
    rw [List.getElem?_set_self (by rw [cs_wl_len]; exact hl), cs_wl_at h]
  · rw [List.getElem?_set_ne (fun q => hi q.symm)]
    unfold cs_wl
    rw [List.getElem?_mapIdx, List.getElem?_mapIdx, ho i hi]
theorem cs_up_ne {σ : cs_S} {p k : Nat} {v : Int} {q : Nat} (h : q ≠ p) : cs_up σ p k v q = σ q := by
  funext j
  unfold cs_up
  rw [if_neg (fun c => h c.1)]
theorem cs_up_fs {σ : cs_S} {p k : Nat} {v : Int} {adr : Nat → Nat} {fs : List (Option Nat)} (h : fs[k]? = some none) : (fs.mapIdx (cs_fv adr (σ p))).set k (.int (cs_q v)) = fs.mapIdx (cs_fv adr (cs_up σ p k v p)) := by
  apply List.ext_getElem?
  intro i
  have hl : k < fs.length := (List.getElem?_eq_some_iff.mp h).1
  by_cases hi : i = k
  · subst hi
    rw [List.getElem?_set_self (by rw [List.length_mapIdx]; exact hl), List.getElem?_mapIdx, h]
    simp [cs_fv, cs_up]
  · rw [List.getElem?_set_ne (fun q => hi q.symm), List.getElem?_mapIdx, List.getElem?_mapIdx]
    congr 1
    funext f
    cases f with
    | none => simp [cs_fv, cs_up, hi]
    | some q => rfl
theorem cs_up_ar {σ : cs_S} {p k : Nat} {v : Int} : upd (fun j => cs_q (σ p j)) k (cs_q v) = fun j => cs_q (cs_up σ p k v p j) := by
  funext j
  unfold upd cs_up
  by_cases h : j = k
  · simp [h]
  · simp [h]
/-- the cells of a world: its addresses, and what comes from sz on -/
def cs_A (n : Nat) (adr : Nat → Nat) (sz : Nat) : Nat → Prop := fun q => (∃ k, k < n ∧ q = adr k) ∨ sz ≤ q
theorem cs_wl_D {sh : cs_Sh} {adr : Nat → Nat} {ac : FieldType → ClassId} {σ : cs_S} {A : Nat → Prop} (hi : ∀ i j, i < sh.length → j < sh.length → adr i = adr j → i = j) (hA : ∀ i, i < sh.length → A (adr i)) : va_D A (cs_wl sh adr ac σ) := by
  have key : ∀ (k : Nat) (q : Nat × va_E), (cs_wl sh adr ac σ)[k]? = some q → k < sh.length ∧ q.1 = adr k := by
    intro k q h
    have hk : k < sh.length := by
      have := (List.getElem?_eq_some_iff.mp h).1
      rwa [cs_wl_len] at this
    have h2 := List.getElem?_eq_getElem hk
    rw [cs_wl_at h2] at h
    obtain rfl := Option.some.inj h
    exact ⟨hk, rfl⟩
  refine ⟨fun i j x y hx hy hxy => ?_, fun k q h => ?_⟩
  · obtain ⟨a1, a2⟩ := key i x hx
    obtain ⟨b1, b2⟩ := key j y hy
    exact hi i j a1 b1 (by rw [← a2, ← b2, hxy])
  · obtain ⟨a1, a2⟩ := key k q h
    rw [a2]
    exact hA k a1
theorem cs_wl_A {sh : cs_Sh} {adr : Nat → Nat} {ac : FieldType → ClassId} {σ : cs_S} {sz q : Nat} : va_A (cs_wl sh adr ac σ) sz q ↔ cs_A sh.length adr sz q := by
  constructor
  · rintro (⟨k, e, h⟩ | h)
    · have hk : k < sh.length := by
        have := (List.getElem?_eq_some_iff.mp h).1
        rwa [cs_wl_len] at this
      have h2 := List.getElem?_eq_getElem hk
      rw [cs_wl_at h2] at h
      have h3 := Option.some.inj h
      exact Or.inl ⟨k, hk, (congrArg Prod.fst h3).symm⟩
    · exact Or.inr h
  · rintro (⟨k, hk, rfl⟩ | h)
    · exact Or.inl ⟨k, _, cs_wl_at (List.getElem?_eq_getElem hk)⟩
    · exact Or.inr h
/-! the locals -/
abbrev cs_L : Type := List (Option Int)
abbrev cs_InL (L : cs_L) : Prop := ∀ (i : Nat) (z : Int), L[i]? = some (some z) → cs_InR z
def cs_cv (adr : Nat → Nat) (v : Int ⊕ Nat) : Value := match v with
  | .inl z => .int (cs_q z)
  | .inr p => .ref (adr p)
theorem cs_cv_cat (adr : Nat → Nat) (v : Int ⊕ Nat) : (cs_cv adr v).category = 1 := by cases v <;> rfl
/-- the int slots L, and the slots that hold known references -/
def cs_LR (adr : Nat → Nat) (refs : List (Nat × Nat)) (nL : Nat) (ls : Array Slot) (L : cs_L) : Prop :=
  ls.size = nL ∧ lv_wf ls ∧ (∀ (i : Nat) (z : Int), L[i]? = some (some z) → ls[i]? = some (.val (.int (cs_q z)))) ∧ ∀ r ∈ refs, ls[r.1]? = some (.val (.ref (adr r.2)))
def cs_enc (adr : Nat → Nat) (refs : List (Nat × Nat)) : Nat → cs_L → List (Nat × Value)
  | _, [] => refs.map (fun r => (r.1, .ref (adr r.2)))
  | k, none :: t => cs_enc adr refs (k + 1) t
  | k, some z :: t => (k, .int (cs_q z)) :: cs_enc adr refs (k + 1) t
theorem cs_enc_mem {adr : Nat → Nat} {refs : List (Nat × Nat)} {q : Nat × Value} : ∀ (L : cs_L) (k : Nat), q ∈ cs_enc adr refs k L ↔ (∃ (i : Nat) (z : Int), L[i]? = some (some z) ∧ q = (k + i, .int (cs_q z))) ∨ ∃ r ∈ refs, q = (r.1, .ref (adr r.2))
  | [], k => by
    simp only [cs_enc, List.mem_map]
    constructor
    · rintro ⟨r, h, rfl⟩; exact Or.inr ⟨r, h, rfl⟩
    · rintro (⟨i, z, h, -⟩ | ⟨r, h, rfl⟩)
      · simp at h
      · exact ⟨r, h, rfl⟩
  | none :: t, k => by
    rw [cs_enc, cs_enc_mem t (k + 1)]
    constructor
    · rintro (⟨i, z, h, rfl⟩ | h)
      · exact Or.inl ⟨i + 1, z, by simpa using h, by congr 1; omega⟩
      · exact Or.inr h
    · rintro (⟨i, z, h, rfl⟩ | h)
      · cases i with
        | zero => simp at h
        | succ i => exact Or.inl ⟨i, z, by simpa using h, by congr 1; omega⟩
      · exact Or.inr h
  | some z0 :: t, k => by
    rw [cs_enc, List.mem_cons, cs_enc_mem t (k + 1)]
    constructor
    · rintro (rfl | ⟨i, z, h, rfl⟩ | h)
      · exact Or.inl ⟨0, z0, by simp, by simp⟩
      · exact Or.inl ⟨i + 1, z, by simpa using h, by congr 1; omega⟩
      · exact Or.inr h
    · rintro (⟨i, z, h, rfl⟩ | h)
      · cases i with
        | zero =>
          simp at h
          subst h
          exact Or.inl (by simp)
        | succ i => exact Or.inr (Or.inl ⟨i, z, by simpa using h, by congr 1; omega⟩)
      · exact Or.inr (Or.inr h)
theorem cs_LR_has {adr : Nat → Nat} {refs : List (Nat × Nat)} {nL : Nat} {ls : Array Slot} {L : cs_L} : cs_LR adr refs nL ls L ↔ lv_has ls nL (cs_enc adr refs 0 L) := by
  constructor
  · rintro ⟨h1, h2, h3, h4⟩
    refine ⟨h1, h2, fun q hq => ?_⟩
    rcases (cs_enc_mem L 0).mp hq with ⟨i, z, h, rfl⟩ | ⟨r, h, rfl⟩
    · simpa using h3 i z h
    · exact h4 r h
  · rintro ⟨h1, h2, h3⟩
    refine ⟨h1, h2, fun i z h => ?_, fun r h => ?_⟩
    · exact h3 (i, .int (cs_q z)) ((cs_enc_mem L 0).mpr (Or.inl ⟨i, z, h, by simp⟩))
    · exact h3 (r.1, .ref (adr r.2)) ((cs_enc_mem L 0).mpr (Or.inr ⟨r, h, rfl⟩))
theorem cs_LR_set {adr : Nat → Nat} {refs : List (Nat × Nat)} {nL : Nat} {ls : Array Slot} {L : cs_L} {i : Nat} {z : Int} {lv : List (Nat × Value)} (hlv : lv = cs_enc adr refs 0 L) (hr : ∀ r ∈ refs, r.1 ≠ i) (h : lv_has ls nL ((i, Value.int (cs_q z)) :: lv.filter (fun q => !(q.1 == i) && !(q.1 + 1 == i && q.2.category == 2)))) : cs_LR adr refs nL ls (L.set i (some z)) := by
  subst hlv
  obtain ⟨h1, h2, h3⟩ := h
  refine ⟨h1, h2, fun j w hj => ?_, fun r hr2 => ?_⟩
  · by_cases e : j = i
    · subst e
      by_cases hl : j < L.length
      · rw [List.getElem?_set_self hl] at hj
        have : w = z := (Option.some.inj (Option.some.inj hj)).symm
        subst this
        exact h3 (j, .int (cs_q w)) List.mem_cons_self
      · rw [List.getElem?_eq_none (by rw [List.length_set]; omega)] at hj
        cases hj
    · rw [List.getElem?_set_ne (fun q => e q.symm)] at hj
      refine h3 (j, .int (cs_q w)) (List.mem_cons_of_mem _ (List.mem_filter.mpr ⟨(cs_enc_mem L 0).mpr (Or.inl ⟨j, w, hj, by simp⟩), ?_⟩))
      simp [e, Value.category]
  · refine h3 (r.1, .ref (adr r.2)) (List.mem_cons_of_mem _ (List.mem_filter.mpr ⟨(cs_enc_mem L 0).mpr (Or.inr ⟨r, hr2, rfl⟩), ?_⟩))
    simp [hr r hr2, Value.category]
