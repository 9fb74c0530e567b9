/-! code that computes an expression, a condition, an argument list, a statement -/
def cs_SE (M : cs_M) (n pc pc' : Nat) (e : cs_E) : Prop := ∀ (L : cs_L) (σ : cs_S) (v : Int) (σ' : cs_S), cs_InL L → cs_InS σ → e L σ = some (v, σ') → cs_InR v ∧ cs_InS σ' ∧ ∀ X, cs_Ok M X → ∀ st : List (Int ⊕ Nat), st.length + n ≤ 8 → cs_V M X pc' L (.inl v :: st) σ' → cs_V M X pc L st σ
def cs_SR (M : cs_M) (pc pc' p : Nat) : Prop := ∀ (L : cs_L) (σ : cs_S) X, cs_Ok M X → ∀ st : List (Int ⊕ Nat), cs_V M X pc' L (.inr p :: st) σ → cs_V M X pc L st σ
def cs_SC (M : cs_M) (n pc pT pF : Nat) (c : cs_C) : Prop := ∀ (L : cs_L) (σ : cs_S) (b : Bool) (σ' : cs_S), cs_InL L → cs_InS σ → c L σ = some (b, σ') → cs_InS σ' ∧ ∀ X, cs_Ok M X → ∀ st : List (Int ⊕ Nat), st.length + n ≤ 8 → cs_V M X (bif b then pT else pF) L st σ' → cs_V M X pc L st σ
def cs_SG (M : cs_M) (n pc pc' : Nat) (sg : List (Option Nat)) (g : cs_G) : Prop := ∀ (L : cs_L) (σ : cs_S) (zs : List Int) (σ' : cs_S), cs_InL L → cs_InS σ → g L σ = some (zs, σ') → (∀ z ∈ zs, cs_InR z) ∧ cs_InS σ' ∧ ∀ X, cs_Ok M X → ∀ st : List (Int ⊕ Nat), st.length + n ≤ 8 → cs_V M X pc' L ((cs_av sg zs).reverse ++ st) σ' → cs_V M X pc L st σ
/-- a method may end with this answer and store -/
def cs_Rt (M : cs_M) (X : cs_X) (r : Option Int) (σ : cs_S) : Prop := match X with
  | ((p, l, e, R), (s, m, args, below), (meth, c), (cells, slots, Q), (adr, ac, D, A)) =>
    ∀ (pc : Nat) (ls : Array Slot) (H : Heap) (locs : List Loc), va_P D cs_cl (cs_wl (cs_sh M) adr ac σ) H → va_S A s.heap H locs → (match r with
      | none => decode (cs_cc M) pc = .ok (.return_, 1) → cs_rt M = none → W p l e R s m args below meth c H locs cells slots Q (F0 m pc ls [])
      | some z => decode (cs_cc M) pc = .ok (.ireturn, 1) → (cs_rt M = some .int ∨ cs_rt M = some .boolean ∧ (z = 0 ∨ z = 1)) → W p l e R s m args below meth c H locs cells slots Q (F0 m pc ls [.int (cs_q z)]))
def cs_aft (M : cs_M) (X : cs_X) (pN pB : Nat) (o : cs_O) : Prop := match o with
  | .inl r => cs_V M X pN r.1 [] r.2
  | .inr (.inl r) => cs_Rt M X r.1 r.2
  | .inr (.inr r) => cs_V M X pB r.1 [] r.2
def cs_InO (o : cs_O) : Prop := match o with
  | .inl r => cs_InL r.1 ∧ cs_InS r.2
  | .inr (.inl r) => (∀ z, r.1 = some z → cs_InR z) ∧ cs_InS r.2
  | .inr (.inr r) => cs_InL r.1 ∧ cs_InS r.2
def cs_SS (M : cs_M) (pc pN pB : Nat) (s : cs_T) : Prop := ∀ (L : cs_L) (σ : cs_S) (o : cs_O), cs_InL L → cs_InS σ → s L σ = some o → cs_InO o ∧ ∀ X, cs_Ok M X → cs_aft M X pN pB o → cs_V M X pc L [] σ
theorem cs_InL_set {L : cs_L} {i : Nat} {z : Int} (h : cs_InL L) (hz : cs_InR z) : cs_InL (L.set i (some z)) := by
  intro j w hj
  by_cases e : j = i
  · subst e
    by_cases hl : j < L.length
    · rw [List.getElem?_set_self hl] at hj
      have : w = z := (Option.some.inj (Option.some.inj hj)).symm
      rw [this]; exact hz
    · rw [List.getElem?_eq_none (by rw [List.length_set]; omega)] at hj
      cases hj
  · rw [List.getElem?_set_ne (fun q => e q.symm)] at hj
    exact h j w hj
section CE
variable {M : cs_M} {pc p1 p2 p3 p4 n n1 n2 n3 n4 : Nat} {e e1 e2 e3 e4 : cs_E} {c d d1 d2 : cs_C} {s t : cs_T} {pT pF pN pB pM : Nat}
-- constants
theorem E_k {z : Int} (hr : cs_InR z) (h : ∀ (L : cs_L) (σ : cs_S) X, cs_Ok M X → ∀ st : List (Int ⊕ Nat), cs_V M X p1 L (.inl z :: st) σ → cs_V M X pc L st σ) : cs_SE M 0 pc p1 (x_k z) := by
  intro L σ v σ' hL hS hv
  cases hv
  exact ⟨hr, hS, fun X hX st _ k => h L σ X hX st k⟩
theorem E_iconst {z m : Int} (hd : decode (cs_cc M) pc = .ok (.iconst m, 1)) (hz : cs_q z = Int32.ofInt m := by decide +kernel) (hr : cs_InR z := by decide) : cs_SE M 0 pc (pc + 1) (x_k z) := E_k hr fun _ _ _ hX _ k => cs_V_iconst hX hd hz k
theorem E_bipush {z m : Int} (hd : decode (cs_cc M) pc = .ok (.bipush m, 2)) (hz : cs_q z = (Int8.ofInt m).toInt32 := by decide +kernel) (hr : cs_InR z := by decide) : cs_SE M 0 pc (pc + 2) (x_k z) := E_k hr fun _ _ _ hX _ k => cs_V_bipush hX hd hz k
theorem E_sipush {z m : Int} (hd : decode (cs_cc M) pc = .ok (.sipush m, 3)) (hz : cs_q z = (Int16.ofInt m).toInt32 := by decide +kernel) (hr : cs_InR z := by decide) : cs_SE M 0 pc (pc + 3) (x_k z) := E_k hr fun _ _ _ hX _ k => cs_V_sipush hX hd hz k
theorem E_ldc {z : Int} {index : Nat} {v : Int32} (hd : decode (cs_cc M) pc = .ok (.ldc index, 2)) (hw : Cond.constant (cs_own M) index v ∈ cs_gt) (hz : cs_q z = v := by decide +kernel) (hr : cs_InR z := by decide) : cs_SE M 0 pc (pc + 2) (x_k z) := E_k hr fun _ _ _ hX _ k => cs_V_ldc hX hd hw hz k
theorem x_l_some {i : Nat} {L : cs_L} {σ : cs_S} {v : Int} {σ' : cs_S} (h : x_l i L σ = some (v, σ')) : L[i]? = some (some v) ∧ σ = σ' := by
  unfold x_l at h
  split at h
  next z hz => cases h; exact ⟨hz, rfl⟩
  next => cases h
theorem E_iload_n {i : Nat} {j : Fin 4} (hd : decode (cs_cc M) pc = .ok (.iload_n j, 1)) (hj : (j : Nat) = i := by rfl) : cs_SE M 0 pc (pc + 1) (x_l i) := by
  intro L σ v σ' hL hS hv
  obtain ⟨h1, rfl⟩ := x_l_some hv
  exact ⟨hL i v h1, hS, fun X hX st _ k => cs_V_iload_n hX hd hj h1 k⟩
theorem E_iload {i : Nat} (hd : decode (cs_cc M) pc = .ok (.iload i, 2)) : cs_SE M 0 pc (pc + 2) (x_l i) := by
  intro L σ v σ' hL hS hv
  obtain ⟨h1, rfl⟩ := x_l_some hv
  exact ⟨hL i v h1, hS, fun X hX st _ k => cs_V_iload hX hd h1 k⟩
-- references
theorem R_load {i q : Nat} {j : Fin 4} (hd : decode (cs_cc M) pc = .ok (.aload_n j, 1)) (hj : (j : Nat) = i := by rfl) (hl : (i, q) ∈ cs_refs (cs_sig M) 0 := by decide) : cs_SR M pc (pc + 1) q := fun _ _ _ hX _ k => cs_V_aload_n hX hd hj hl k
theorem R_get {p q ci k index N : Nat} {fs : List (Option Nat)} {C : String} {T : u_T} (hr : cs_SR M pc p1 p) (hc : cs_cd ci C T N) (hl : cs_FL (cs_own M) index T k) (hd : decode (cs_cc M) p1 = .ok (.getfield index, 3)) (hs : (cs_sh M)[p]? = some (.inl (ci, fs)) := by rfl) (hf : fs[k]? = some (some q) := by rfl) (hk : k < N := by decide) : cs_SR M pc (p1 + 3) q := fun L σ X hX st kk => hr L σ X hX st (cs_V_getR hX hs hf hc hk hl hd kk)
theorem R_stat {index : Nat} {r : String × Nat × (Nat → Int)} (hr : r ∈ cs_ros) (hl : Cond.fieldLink (cs_own M) index "ContourSimplifier" r.1 "[I" ∈ cs_gt ∨ ∃ host, Cond.fieldLinkNest (cs_own M) index "ContourSimplifier" r.1 "[I" host ∈ cs_nest) (hd : decode (cs_cc M) pc = .ok (.getstatic index, 3)) : cs_SR M pc (pc + 3) r.2.1 := fun _ _ _ hX _ k => cs_V_gets hX hr hl hd k
-- fields, arrays
theorem E_get {p ci k index N : Nat} {fs : List (Option Nat)} {C : String} {T : u_T} (hr : cs_SR M pc p1 p) (hc : cs_cd ci C T N) (hl : cs_FL (cs_own M) index T k) (hd : decode (cs_cc M) p1 = .ok (.getfield index, 3)) (hs : (cs_sh M)[p]? = some (.inl (ci, fs)) := by rfl) (hf : fs[k]? = some none := by rfl) (hk : k < N := by decide) : cs_SE M 0 pc (p1 + 3) (x_f p k) := by
  intro L σ v σ' hL hS hv
  cases hv
  exact ⟨hS p k, hS, fun X hX st _ kk => hr L σ X hX st (cs_V_getI hX hs hf hc hk hl hd kk)⟩
theorem cs_rd_some {p m : Nat} {i : Int} {σ : cs_S} {v : Int} {σ' : cs_S} (h : cs_rd p m i σ = some (v, σ')) : (0 ≤ i ∧ i < (m : Int)) ∧ σ p i.toNat = v ∧ σ = σ' := by
  unfold cs_rd at h
  by_cases c : 0 ≤ i ∧ i < (m : Int)
  · rw [if_pos c] at h; cases h; exact ⟨c, rfl, rfl⟩
  · rw [if_neg c] at h; cases h
theorem E_iald {p m : Nat} (hr : cs_SR M pc p1 p) (he : cs_SE M n p1 p2 e) (hd : decode (cs_cc M) p2 = .ok (.iaload, 1)) (hs : (cs_sh M)[p]? = some (.inr (.int, m)) := by rfl) : cs_SE M (n + 1) pc (p2 + 1) (x_a p m e) := by
  intro L σ v σ' hL hS hv
  obtain ⟨⟨i, σ1⟩, h1, h2⟩ := Option.bind_eq_some_iff.mp hv
  obtain ⟨⟨h3, h4⟩, rfl, rfl⟩ := cs_rd_some h2
  obtain ⟨g1, g2, g3⟩ := he L σ i σ1 hL hS h1
  exact ⟨g2 p _, g2, fun X hX st hn k => hr L σ X hX st (g3 X hX (.inr p :: st) (by simp; omega) (cs_V_iald hX hs h3 h4 g1 hd k))⟩
theorem E_zald {p m : Nat} (hr : cs_SR M pc p1 p) (he : cs_SE M n p1 p2 e) (hd : decode (cs_cc M) p2 = .ok (.baload, 1)) (hs : (cs_sh M)[p]? = some (.inr (.boolean, m)) := by rfl) : cs_SE M (n + 1) pc (p2 + 1) (x_a p m e) := by
  intro L σ v σ' hL hS hv
  obtain ⟨⟨i, σ1⟩, h1, h2⟩ := Option.bind_eq_some_iff.mp hv
  obtain ⟨⟨h3, h4⟩, rfl, rfl⟩ := cs_rd_some h2
  obtain ⟨g1, g2, g3⟩ := he L σ i σ1 hL hS h1
  exact ⟨g2 p _, g2, fun X hX st hn k => hr L σ X hX st (g3 X hX (.inr p :: st) (by simp; omega) (cs_V_zald hX hs h3 h4 g1 hd k))⟩
theorem E_cald {p m : Nat} (hr : cs_SR M pc p1 p) (he : cs_SE M n p1 p2 e) (hd : decode (cs_cc M) p2 = .ok (.caload, 1)) (hs : (cs_sh M)[p]? = some (.inr (.char, m)) := by rfl) : cs_SE M (n + 1) pc (p2 + 1) (x_a p m e) := by
  intro L σ v σ' hL hS hv
  obtain ⟨⟨i, σ1⟩, h1, h2⟩ := Option.bind_eq_some_iff.mp hv
  obtain ⟨⟨h3, h4⟩, rfl, rfl⟩ := cs_rd_some h2
  obtain ⟨g1, g2, g3⟩ := he L σ i σ1 hL hS h1
  exact ⟨g2 p _, g2, fun X hX st hn k => hr L σ X hX st (g3 X hX (.inr p :: st) (by simp; omega) (cs_V_cald hX hs h3 h4 g1 hd k))⟩
theorem E_rold {r : String × Nat × (Nat → Int)} (hm : r ∈ cs_ros) (hin : ∀ j, cs_InR (r.2.2 j)) (hr : cs_SR M pc p1 r.2.1) (he : cs_SE M n p1 p2 e) (hd : decode (cs_cc M) p2 = .ok (.iaload, 1)) : cs_SE M (n + 1) pc (p2 + 1) (x_ro r.2.2 e) := by
  intro L σ v σ' hL hS hv
  obtain ⟨⟨i, σ1⟩, h1, h2⟩ := Option.bind_eq_some_iff.mp hv
  obtain ⟨g1, g2, g3⟩ := he L σ i σ1 hL hS h1
  by_cases c : 0 ≤ i ∧ i < 4
  · rw [if_pos c] at h2
    cases h2
    exact ⟨hin _, g2, fun X hX st hn k => hr L σ X hX st (g3 X hX (.inr r.2.1 :: st) (by simp; omega) (cs_V_rold hX hm c.1 c.2 hd k))⟩
  · rw [if_neg c] at h2
    cases h2
theorem E_alen {p m : Nat} (hr : cs_SR M pc p1 p) (hd : decode (cs_cc M) p1 = .ok (.arraylength, 1)) (hs : (cs_sh M)[p]? = some (.inr (.int, m)) := by rfl) (hm : m < 2147483648 := by decide) : cs_SE M 0 pc (p1 + 1) (x_k (m : Int)) := by
  intro L σ v σ' hL hS hv
  cases hv
  exact ⟨by omega, hS, fun X hX st _ k => hr L σ X hX st (cs_V_alen hX hs hm hd k)⟩
theorem E_add (h1 : cs_SE M n1 pc p1 e1) (h2 : cs_SE M n2 p1 p2 e2) (hd : decode (cs_cc M) p2 = .ok (.iadd, 1)) : cs_SE M (max n1 (n2 + 1)) pc (p2 + 1) (x_add e1 e2) := by
  intro L σ v σ' hL hS hv
  obtain ⟨⟨a, σ1⟩, q1, hv⟩ := Option.bind_eq_some_iff.mp hv
  obtain ⟨⟨b, σ2⟩, q2, hv⟩ := Option.bind_eq_some_iff.mp hv
  obtain ⟨hr, rfl, rfl⟩ := cs_chk_some hv
  obtain ⟨ra, s1, k1⟩ := h1 L σ a σ1 hL hS q1
  obtain ⟨rb, s2, k2⟩ := h2 L σ1 b σ2 hL s1 q2
  exact ⟨hr, s2, fun X hX st hn k => k1 X hX st (by omega) (k2 X hX (.inl a :: st) (by simp; omega) (cs_V_iadd hX hd k))⟩
theorem E_sub (h1 : cs_SE M n1 pc p1 e1) (h2 : cs_SE M n2 p1 p2 e2) (hd : decode (cs_cc M) p2 = .ok (.isub, 1)) : cs_SE M (max n1 (n2 + 1)) pc (p2 + 1) (x_sub e1 e2) := by
  intro L σ v σ' hL hS hv
  obtain ⟨⟨a, σ1⟩, q1, hv⟩ := Option.bind_eq_some_iff.mp hv
  obtain ⟨⟨b, σ2⟩, q2, hv⟩ := Option.bind_eq_some_iff.mp hv
  obtain ⟨hr, rfl, rfl⟩ := cs_chk_some hv
  obtain ⟨ra, s1, k1⟩ := h1 L σ a σ1 hL hS q1
  obtain ⟨rb, s2, k2⟩ := h2 L σ1 b σ2 hL s1 q2
  exact ⟨hr, s2, fun X hX st hn k => k1 X hX st (by omega) (k2 X hX (.inl a :: st) (by simp; omega) (cs_V_isub hX hd k))⟩
theorem E_mul (h1 : cs_SE M n1 pc p1 e1) (h2 : cs_SE M n2 p1 p2 e2) (hd : decode (cs_cc M) p2 = .ok (.imul, 1)) : cs_SE M (max n1 (n2 + 1)) pc (p2 + 1) (x_mul e1 e2) := by
  intro L σ v σ' hL hS hv
  obtain ⟨⟨a, σ1⟩, q1, hv⟩ := Option.bind_eq_some_iff.mp hv
  obtain ⟨⟨b, σ2⟩, q2, hv⟩ := Option.bind_eq_some_iff.mp hv
  obtain ⟨hr, rfl, rfl⟩ := cs_chk_some hv
  obtain ⟨ra, s1, k1⟩ := h1 L σ a σ1 hL hS q1
  obtain ⟨rb, s2, k2⟩ := h2 L σ1 b σ2 hL s1 q2
  exact ⟨hr, s2, fun X hX st hn k => k1 X hX st (by omega) (k2 X hX (.inl a :: st) (by simp; omega) (cs_V_imul hX hd k))⟩
theorem E_div (h1 : cs_SE M n1 pc p1 e1) (h2 : cs_SE M n2 p1 p2 e2) (hd : decode (cs_cc M) p2 = .ok (.idiv, 1)) : cs_SE M (max n1 (n2 + 1)) pc (p2 + 1) (x_div e1 e2) := by
  intro L σ v σ' hL hS hv
  obtain ⟨⟨a, σ1⟩, q1, hv⟩ := Option.bind_eq_some_iff.mp hv
  obtain ⟨⟨b, σ2⟩, q2, hv⟩ := Option.bind_eq_some_iff.mp hv
  obtain ⟨ra, s1, k1⟩ := h1 L σ a σ1 hL hS q1
  obtain ⟨rb, s2, k2⟩ := h2 L σ1 b σ2 hL s1 q2
  by_cases c : 0 ≤ a ∧ 0 < b
  · rw [if_pos c] at hv
    cases hv
    have hq : cs_InR (a / b) := ⟨by have := Int.ediv_nonneg c.1 (Int.le_of_lt c.2); omega, by have := Int.ediv_le_self b c.1; omega⟩
    exact ⟨hq, s2, fun X hX st hn k => k1 X hX st (by omega) (k2 X hX (.inl a :: st) (by simp; omega) (cs_V_idiv hX hd c.1 c.2 ra rb k))⟩
  · rw [if_neg c] at hv
    cases hv
theorem E_rem (h1 : cs_SE M n1 pc p1 e1) (h2 : cs_SE M n2 p1 p2 e2) (hd : decode (cs_cc M) p2 = .ok (.irem, 1)) : cs_SE M (max n1 (n2 + 1)) pc (p2 + 1) (x_rem e1 e2) := by
  intro L σ v σ' hL hS hv
  obtain ⟨⟨a, σ1⟩, q1, hv⟩ := Option.bind_eq_some_iff.mp hv
  obtain ⟨⟨b, σ2⟩, q2, hv⟩ := Option.bind_eq_some_iff.mp hv
  obtain ⟨ra, s1, k1⟩ := h1 L σ a σ1 hL hS q1
  obtain ⟨rb, s2, k2⟩ := h2 L σ1 b σ2 hL s1 q2
  by_cases c : 0 ≤ a ∧ 0 < b
  · rw [if_pos c] at hv
    cases hv
    have hq : cs_InR (a % b) := ⟨by have := Int.emod_nonneg a (b := b) (by omega); omega, by have := Int.emod_lt_of_pos a c.2; omega⟩
    exact ⟨hq, s2, fun X hX st hn k => k1 X hX st (by omega) (k2 X hX (.inl a :: st) (by simp; omega) (cs_V_irem hX hd c.1 c.2 ra rb k))⟩
  · rw [if_neg c] at hv
    cases hv
theorem E_neg (h1 : cs_SE M n1 pc p1 e1) (hd : decode (cs_cc M) p1 = .ok (.ineg, 1)) : cs_SE M n1 pc (p1 + 1) (x_neg e1) := by
  intro L σ v σ' hL hS hv
  obtain ⟨⟨a, σ1⟩, q1, hv⟩ := Option.bind_eq_some_iff.mp hv
  obtain ⟨hr, rfl, rfl⟩ := cs_chk_some hv
  obtain ⟨ra, s1, k1⟩ := h1 L σ a σ1 hL hS q1
  exact ⟨hr, s1, fun X hX st hn k => k1 X hX st hn (cs_V_ineg hX hd k)⟩
theorem E_ite {off : Int} (hc : cs_SC M n pc p1 p3 c) (h1 : cs_SE M n1 p1 p2 e1) (hd : decode (cs_cc M) p2 = .ok (.goto off, 3)) (h2 : cs_SE M n2 p3 p4 e2) (ht : (p2 : Int) + off = (p4 : Int) := by decide) : cs_SE M (max n (max n1 n2)) pc p4 (x_ite c e1 e2) := by
  intro L σ v σ' hL hS hv
  obtain ⟨⟨b, σ1⟩, q1, hv⟩ := Option.bind_eq_some_iff.mp hv
  obtain ⟨s1, k1⟩ := hc L σ b σ1 hL hS q1
  cases b with
  | true =>
    obtain ⟨ra, s2, k2⟩ := h1 L σ1 v σ' hL s1 hv
    exact ⟨ra, s2, fun X hX st hn k => k1 X hX st (by omega) (k2 X hX st (by omega) (cs_V_goto hX hd ht k))⟩
  | false =>
    obtain ⟨ra, s2, k2⟩ := h2 L σ1 v σ' hL s1 hv
    exact ⟨ra, s2, fun X hX st hn k => k1 X hX st (by omega) (k2 X hX st (by omega) k)⟩
-- arguments
theorem G_nil : cs_SG M 0 pc pc [] g_nil := by
  intro L σ zs σ' hL hS hv
  cases hv
  exact ⟨fun z hz => (by cases hz), hS, fun X hX st _ k => k⟩
theorem G_int {sg : List (Option Nat)} {g : cs_G} (h1 : cs_SE M n1 pc p1 e1) (h2 : cs_SG M n2 p1 p2 sg g) : cs_SG M (max n1 (n2 + 1)) pc p2 (none :: sg) (g_cons e1 g) := by
  intro L σ zs σ' hL hS hv
  obtain ⟨⟨a, σ1⟩, q1, hv⟩ := Option.bind_eq_some_iff.mp hv
  obtain ⟨⟨bs, σ2⟩, q2, hv⟩ := Option.bind_eq_some_iff.mp hv
  cases hv
  obtain ⟨ra, s1, k1⟩ := h1 L σ a σ1 hL hS q1
  obtain ⟨rb, s2, k2⟩ := h2 L σ1 bs σ2 hL s1 q2
  refine ⟨fun z hz => (List.mem_cons.mp hz).elim (fun h => h ▸ ra) (rb z), s2, fun X hX st hn k => k1 X hX st (by omega) (k2 X hX (.inl a :: st) (by simp; omega) ?_)⟩
  simpa [cs_av] using k
theorem G_ref {sg : List (Option Nat)} {g : cs_G} {p : Nat} (h1 : cs_SR M pc p1 p) (h2 : cs_SG M n2 p1 p2 sg g) : cs_SG M (n2 + 1) pc p2 (some p :: sg) g := by
  intro L σ zs σ' hL hS hv
  obtain ⟨rb, s2, k2⟩ := h2 L σ zs σ' hL hS hv
  refine ⟨rb, s2, fun X hX st hn k => h1 L σ X hX st (k2 X hX (.inr p :: st) (by simp; omega) ?_)⟩
  simpa [cs_av] using k
-- calls
theorem x_call_some {f : cs_F} {g : cs_G} {L : cs_L} {σ : cs_S} {v : Int} {σ' : cs_S} (h : x_call f g L σ = some (v, σ')) : ∃ zs σ1, g L σ = some (zs, σ1) ∧ f zs σ1 = some (some v, σ') := by
  obtain ⟨⟨zs, σ1⟩, q1, h⟩ := Option.bind_eq_some_iff.mp h
  obtain ⟨⟨r, σ2⟩, q2, h⟩ := Option.bind_eq_some_iff.mp h
  cases r with
  | none => cases h
  | some z => cases h; exact ⟨zs, σ1, q1, q2⟩
theorem E_callV {Mc : cs_M} {f : cs_F} {g : cs_G} {index : Nat} (hc : cs_Con Mc f) (hL0 : cs_LV M Mc index) (hg : cs_SG M n pc p1 (cs_sig Mc) g) (hd : decode (cs_cc M) p1 = .ok (.invokevirtual index, 3)) : cs_SE M n pc (p1 + 3) (x_call f g) := by
  intro L σ v σ' hL hS hv
  obtain ⟨zs, σ1, q1, q2⟩ := x_call_some hv
  obtain ⟨rz, s1, k1⟩ := hg L σ zs σ1 hL hS q1
  obtain ⟨r1, r2, -⟩ := hc zs σ1 (some v) σ' rz s1 q2
  exact ⟨r1 v rfl, r2, fun X hX st hn k => k1 X hX st hn (cs_V_callV hc hX hL0 rz s1 q2 (by omega) hd k)⟩
theorem E_callS {Mc : cs_M} {f : cs_F} {g : cs_G} {index : Nat} (hc : cs_Con Mc f) (hL0 : cs_LS M Mc index) (hg : cs_SG M n pc p1 (cs_sig Mc) g) (hd : decode (cs_cc M) p1 = .ok (.invokestatic index, 3)) : cs_SE M n pc (p1 + 3) (x_call f g) := by
  intro L σ v σ' hL hS hv
  obtain ⟨zs, σ1, q1, q2⟩ := x_call_some hv
  obtain ⟨rz, s1, k1⟩ := hg L σ zs σ1 hL hS q1
  obtain ⟨r1, r2, -⟩ := hc zs σ1 (some v) σ' rz s1 q2
  exact ⟨r1 v rfl, r2, fun X hX st hn k => k1 X hX st hn (cs_V_callS hc hX hL0 rz s1 q2 (by omega) hd k)⟩
theorem s_cv_some {f : cs_F} {g : cs_G} {L : cs_L} {σ : cs_S} {o : cs_O} (h : s_cv f g L σ = some o) : ∃ zs σ1 σ', g L σ = some (zs, σ1) ∧ f zs σ1 = some (none, σ') ∧ o = .inl (L, σ') := by
  obtain ⟨⟨zs, σ1⟩, q1, h⟩ := Option.bind_eq_some_iff.mp h
  obtain ⟨⟨r, σ2⟩, q2, h⟩ := Option.bind_eq_some_iff.mp h
  cases r with
  | some z => cases h
  | none => cases h; exact ⟨zs, σ1, σ2, q1, q2, rfl⟩
theorem S_callV {Mc : cs_M} {f : cs_F} {g : cs_G} {index : Nat} (hc : cs_Con Mc f) (hL0 : cs_LV M Mc index) (hg : cs_SG M n pc p1 (cs_sig Mc) g) (hd : decode (cs_cc M) p1 = .ok (.invokevirtual index, 3)) (hn : n ≤ 8 := by decide) : cs_SS M pc (p1 + 3) pB (s_cv f g) := by
  intro L σ o hL hS hv
  obtain ⟨zs, σ1, σ', q1, q2, rfl⟩ := s_cv_some hv
  obtain ⟨rz, s1, k1⟩ := hg L σ zs σ1 hL hS q1
  obtain ⟨-, r2, -⟩ := hc zs σ1 none σ' rz s1 q2
  exact ⟨⟨hL, r2⟩, fun X hX k => k1 X hX [] (by simpa using hn) (cs_V_callVv hc hX hL0 rz s1 q2 (by simp) hd k)⟩
theorem S_callS {Mc : cs_M} {f : cs_F} {g : cs_G} {index : Nat} (hc : cs_Con Mc f) (hL0 : cs_LS M Mc index) (hg : cs_SG M n pc p1 (cs_sig Mc) g) (hd : decode (cs_cc M) p1 = .ok (.invokestatic index, 3)) (hn : n ≤ 8 := by decide) : cs_SS M pc (p1 + 3) pB (s_cv f g) := by
  intro L σ o hL hS hv
  obtain ⟨zs, σ1, σ', q1, q2, rfl⟩ := s_cv_some hv
  obtain ⟨rz, s1, k1⟩ := hg L σ zs σ1 hL hS q1
  obtain ⟨-, r2, -⟩ := hc zs σ1 none σ' rz s1 q2
  exact ⟨⟨hL, r2⟩, fun X hX k => k1 X hX [] (by simpa using hn) (cs_V_callSv hc hX hL0 rz s1 q2 (by simp) hd k)⟩
-- conditions
theorem C_ieq_j {off : Int} {tgt : Nat} (h1 : cs_SE M n1 pc p1 e1) (h2 : cs_SE M n2 p1 p2 e2) (hd : decode (cs_cc M) p2 = .ok (.if_icmp .eq off, 3)) (ht : (p2 : Int) + off = (tgt : Int) := by decide) : cs_SC M (max n1 (n2 + 1)) pc (tgt) (p2 + 3) (y_eq e1 e2) := by
  intro L σ b0 σ' hL hS hv
  obtain ⟨⟨a, σ1⟩, q1, hv⟩ := Option.bind_eq_some_iff.mp hv
  obtain ⟨⟨b, σ2⟩, q2, hv⟩ := Option.bind_eq_some_iff.mp hv
  cases hv
  obtain ⟨ra, s1, k1⟩ := h1 L σ a σ1 hL hS q1
  obtain ⟨rb, s2, k2⟩ := h2 L σ1 b σ2 hL s1 q2
  refine ⟨s2, fun X hX st hn k => k1 X hX st (by omega) (k2 X hX (.inl a :: st) (by simp; omega) (cs_V_icmp_eq hX hd ht ra rb (fun h => (by rw [decide_eq_true (p := a = b) h] at k; exact k)) (fun h => (by rw [decide_eq_false (p := a = b) h] at k; exact k))))⟩
theorem C_zeq_j {off : Int} {tgt : Nat} (h1 : cs_SE M n1 pc p2 e1) (hd : decode (cs_cc M) p2 = .ok (.ifCond .eq off, 3)) (ht : (p2 : Int) + off = (tgt : Int) := by decide) : cs_SC M n1 pc (tgt) (p2 + 3) (y_eq e1 (x_k 0)) := by
  intro L σ b0 σ' hL hS hv
  obtain ⟨⟨a, σ1⟩, q1, hv⟩ := Option.bind_eq_some_iff.mp hv
  cases hv
  obtain ⟨ra, s1, k1⟩ := h1 L σ a σ1 hL hS q1
  refine ⟨s1, fun X hX st hn k => k1 X hX st hn (cs_V_if_eq hX hd ht ra (fun h => (by rw [decide_eq_true (p := a = (0 : Int)) h] at k; exact k)) (fun h => (by rw [decide_eq_false (p := a = (0 : Int)) h] at k; exact k)))⟩
theorem C_ieq_n {off : Int} {tgt : Nat} (h1 : cs_SE M n1 pc p1 e1) (h2 : cs_SE M n2 p1 p2 e2) (hd : decode (cs_cc M) p2 = .ok (.if_icmp .eq off, 3)) (ht : (p2 : Int) + off = (tgt : Int) := by decide) : cs_SC M (max n1 (n2 + 1)) pc (p2 + 3) (tgt) (y_ne e1 e2) := by
  intro L σ b0 σ' hL hS hv
  obtain ⟨⟨a, σ1⟩, q1, hv⟩ := Option.bind_eq_some_iff.mp hv
  obtain ⟨⟨b, σ2⟩, q2, hv⟩ := Option.bind_eq_some_iff.mp hv
  cases hv
  obtain ⟨ra, s1, k1⟩ := h1 L σ a σ1 hL hS q1
  obtain ⟨rb, s2, k2⟩ := h2 L σ1 b σ2 hL s1 q2
  refine ⟨s2, fun X hX st hn k => k1 X hX st (by omega) (k2 X hX (.inl a :: st) (by simp; omega) (cs_V_icmp_eq hX hd ht ra rb (fun h => (by rw [decide_eq_false (p := a ≠ b) (by omega)] at k; exact k)) (fun h => (by rw [decide_eq_true (p := a ≠ b) (by omega)] at k; exact k))))⟩
theorem C_zeq_n {off : Int} {tgt : Nat} (h1 : cs_SE M n1 pc p2 e1) (hd : decode (cs_cc M) p2 = .ok (.ifCond .eq off, 3)) (ht : (p2 : Int) + off = (tgt : Int) := by decide) : cs_SC M n1 pc (p2 + 3) (tgt) (y_ne e1 (x_k 0)) := by
  intro L σ b0 σ' hL hS hv
  obtain ⟨⟨a, σ1⟩, q1, hv⟩ := Option.bind_eq_some_iff.mp hv
  cases hv
  obtain ⟨ra, s1, k1⟩ := h1 L σ a σ1 hL hS q1
  refine ⟨s1, fun X hX st hn k => k1 X hX st hn (cs_V_if_eq hX hd ht ra (fun h => (by rw [decide_eq_false (p := a ≠ (0 : Int)) (by omega)] at k; exact k)) (fun h => (by rw [decide_eq_true (p := a ≠ (0 : Int)) (by omega)] at k; exact k)))⟩
theorem C_ine_j {off : Int} {tgt : Nat} (h1 : cs_SE M n1 pc p1 e1) (h2 : cs_SE M n2 p1 p2 e2) (hd : decode (cs_cc M) p2 = .ok (.if_icmp .ne off, 3)) (ht : (p2 : Int) + off = (tgt : Int) := by decide) : cs_SC M (max n1 (n2 + 1)) pc (tgt) (p2 + 3) (y_ne e1 e2) := by
  intro L σ b0 σ' hL hS hv
  obtain ⟨⟨a, σ1⟩, q1, hv⟩ := Option.bind_eq_some_iff.mp hv
  obtain ⟨⟨b, σ2⟩, q2, hv⟩ := Option.bind_eq_some_iff.mp hv
  cases hv
  obtain ⟨ra, s1, k1⟩ := h1 L σ a σ1 hL hS q1
  obtain ⟨rb, s2, k2⟩ := h2 L σ1 b σ2 hL s1 q2
  refine ⟨s2, fun X hX st hn k => k1 X hX st (by omega) (k2 X hX (.inl a :: st) (by simp; omega) (cs_V_icmp_ne hX hd ht ra rb (fun h => (by rw [decide_eq_true (p := a ≠ b) h] at k; exact k)) (fun h => (by rw [decide_eq_false (p := a ≠ b) h] at k; exact k))))⟩
theorem C_zne_j {off : Int} {tgt : Nat} (h1 : cs_SE M n1 pc p2 e1) (hd : decode (cs_cc M) p2 = .ok (.ifCond .ne off, 3)) (ht : (p2 : Int) + off = (tgt : Int) := by decide) : cs_SC M n1 pc (tgt) (p2 + 3) (y_ne e1 (x_k 0)) := by
  intro L σ b0 σ' hL hS hv
  obtain ⟨⟨a, σ1⟩, q1, hv⟩ := Option.bind_eq_some_iff.mp hv
  cases hv
  obtain ⟨ra, s1, k1⟩ := h1 L σ a σ1 hL hS q1
  refine ⟨s1, fun X hX st hn k => k1 X hX st hn (cs_V_if_ne hX hd ht ra (fun h => (by rw [decide_eq_true (p := a ≠ (0 : Int)) h] at k; exact k)) (fun h => (by rw [decide_eq_false (p := a ≠ (0 : Int)) h] at k; exact k)))⟩
theorem C_ine_n {off : Int} {tgt : Nat} (h1 : cs_SE M n1 pc p1 e1) (h2 : cs_SE M n2 p1 p2 e2) (hd : decode (cs_cc M) p2 = .ok (.if_icmp .ne off, 3)) (ht : (p2 : Int) + off = (tgt : Int) := by decide) : cs_SC M (max n1 (n2 + 1)) pc (p2 + 3) (tgt) (y_eq e1 e2) := by
  intro L σ b0 σ' hL hS hv
  obtain ⟨⟨a, σ1⟩, q1, hv⟩ := Option.bind_eq_some_iff.mp hv
  obtain ⟨⟨b, σ2⟩, q2, hv⟩ := Option.bind_eq_some_iff.mp hv
  cases hv
  obtain ⟨ra, s1, k1⟩ := h1 L σ a σ1 hL hS q1
  obtain ⟨rb, s2, k2⟩ := h2 L σ1 b σ2 hL s1 q2
  refine ⟨s2, fun X hX st hn k => k1 X hX st (by omega) (k2 X hX (.inl a :: st) (by simp; omega) (cs_V_icmp_ne hX hd ht ra rb (fun h => (by rw [decide_eq_false (p := a = b) (by omega)] at k; exact k)) (fun h => (by rw [decide_eq_true (p := a = b) (by omega)] at k; exact k))))⟩
theorem C_zne_n {off : Int} {tgt : Nat} (h1 : cs_SE M n1 pc p2 e1) (hd : decode (cs_cc M) p2 = .ok (.ifCond .ne off, 3)) (ht : (p2 : Int) + off = (tgt : Int) := by decide) : cs_SC M n1 pc (p2 + 3) (tgt) (y_eq e1 (x_k 0)) := by
  intro L σ b0 σ' hL hS hv
  obtain ⟨⟨a, σ1⟩, q1, hv⟩ := Option.bind_eq_some_iff.mp hv
  cases hv
  obtain ⟨ra, s1, k1⟩ := h1 L σ a σ1 hL hS q1
  refine ⟨s1, fun X hX st hn k => k1 X hX st hn (cs_V_if_ne hX hd ht ra (fun h => (by rw [decide_eq_false (p := a = (0 : Int)) (by omega)] at k; exact k)) (fun h => (by rw [decide_eq_true (p := a = (0 : Int)) (by omega)] at k; exact k)))⟩
theorem C_ilt_j {off : Int} {tgt : Nat} (h1 : cs_SE M n1 pc p1 e1) (h2 : cs_SE M n2 p1 p2 e2) (hd : decode (cs_cc M) p2 = .ok (.if_icmp .lt off, 3)) (ht : (p2 : Int) + off = (tgt : Int) := by decide) : cs_SC M (max n1 (n2 + 1)) pc (tgt) (p2 + 3) (y_lt e1 e2) := by
  intro L σ b0 σ' hL hS hv
  obtain ⟨⟨a, σ1⟩, q1, hv⟩ := Option.bind_eq_some_iff.mp hv
  obtain ⟨⟨b, σ2⟩, q2, hv⟩ := Option.bind_eq_some_iff.mp hv
  cases hv
  obtain ⟨ra, s1, k1⟩ := h1 L σ a σ1 hL hS q1
  obtain ⟨rb, s2, k2⟩ := h2 L σ1 b σ2 hL s1 q2
  refine ⟨s2, fun X hX st hn k => k1 X hX st (by omega) (k2 X hX (.inl a :: st) (by simp; omega) (cs_V_icmp_lt hX hd ht ra rb (fun h => (by rw [decide_eq_true (p := a < b) h] at k; exact k)) (fun h => (by rw [decide_eq_false (p := a < b) h] at k; exact k))))⟩
theorem C_zlt_j {off : Int} {tgt : Nat} (h1 : cs_SE M n1 pc p2 e1) (hd : decode (cs_cc M) p2 = .ok (.ifCond .lt off, 3)) (ht : (p2 : Int) + off = (tgt : Int) := by decide) : cs_SC M n1 pc (tgt) (p2 + 3) (y_lt e1 (x_k 0)) := by
  intro L σ b0 σ' hL hS hv
  obtain ⟨⟨a, σ1⟩, q1, hv⟩ := Option.bind_eq_some_iff.mp hv
  cases hv
  obtain ⟨ra, s1, k1⟩ := h1 L σ a σ1 hL hS q1
  refine ⟨s1, fun X hX st hn k => k1 X hX st hn (cs_V_if_lt hX hd ht ra (fun h => (by rw [decide_eq_true (p := a < (0 : Int)) h] at k; exact k)) (fun h => (by rw [decide_eq_false (p := a < (0 : Int)) h] at k; exact k)))⟩
theorem C_ilt_n {off : Int} {tgt : Nat} (h1 : cs_SE M n1 pc p1 e1) (h2 : cs_SE M n2 p1 p2 e2) (hd : decode (cs_cc M) p2 = .ok (.if_icmp .lt off, 3)) (ht : (p2 : Int) + off = (tgt : Int) := by decide) : cs_SC M (max n1 (n2 + 1)) pc (p2 + 3) (tgt) (y_ge e1 e2) := by
  intro L σ b0 σ' hL hS hv
  obtain ⟨⟨a, σ1⟩, q1, hv⟩ := Option.bind_eq_some_iff.mp hv
  obtain ⟨⟨b, σ2⟩, q2, hv⟩ := Option.bind_eq_some_iff.mp hv
  cases hv
  obtain ⟨ra, s1, k1⟩ := h1 L σ a σ1 hL hS q1
  obtain ⟨rb, s2, k2⟩ := h2 L σ1 b σ2 hL s1 q2
  refine ⟨s2, fun X hX st hn k => k1 X hX st (by omega) (k2 X hX (.inl a :: st) (by simp; omega) (cs_V_icmp_lt hX hd ht ra rb (fun h => (by rw [decide_eq_false (p := b ≤ a) (by omega)] at k; exact k)) (fun h => (by rw [decide_eq_true (p := b ≤ a) (by omega)] at k; exact k))))⟩
theorem C_zlt_n {off : Int} {tgt : Nat} (h1 : cs_SE M n1 pc p2 e1) (hd : decode (cs_cc M) p2 = .ok (.ifCond .lt off, 3)) (ht : (p2 : Int) + off = (tgt : Int) := by decide) : cs_SC M n1 pc (p2 + 3) (tgt) (y_ge e1 (x_k 0)) := by
  intro L σ b0 σ' hL hS hv
  obtain ⟨⟨a, σ1⟩, q1, hv⟩ := Option.bind_eq_some_iff.mp hv
  cases hv
  obtain ⟨ra, s1, k1⟩ := h1 L σ a σ1 hL hS q1
  refine ⟨s1, fun X hX st hn k => k1 X hX st hn (cs_V_if_lt hX hd ht ra (fun h => (by rw [decide_eq_false (p := (0 : Int) ≤ a) (by omega)] at k; exact k)) (fun h => (by rw [decide_eq_true (p := (0 : Int) ≤ a) (by omega)] at k; exact k)))⟩
theorem C_ige_j {off : Int} {tgt : Nat} (h1 : cs_SE M n1 pc p1 e1) (h2 : cs_SE M n2 p1 p2 e2) (hd : decode (cs_cc M) p2 = .ok (.if_icmp .ge off, 3)) (ht : (p2 : Int) + off = (tgt : Int) := by decide) : cs_SC M (max n1 (n2 + 1)) pc (tgt) (p2 + 3) (y_ge e1 e2) := by
  intro L σ b0 σ' hL hS hv
  obtain ⟨⟨a, σ1⟩, q1, hv⟩ := Option.bind_eq_some_iff.mp hv
  obtain ⟨⟨b, σ2⟩, q2, hv⟩ := Option.bind_eq_some_iff.mp hv
  cases hv
  obtain ⟨ra, s1, k1⟩ := h1 L σ a σ1 hL hS q1
  obtain ⟨rb, s2, k2⟩ := h2 L σ1 b σ2 hL s1 q2
  refine ⟨s2, fun X hX st hn k => k1 X hX st (by omega) (k2 X hX (.inl a :: st) (by simp; omega) (cs_V_icmp_ge hX hd ht ra rb (fun h => (by rw [decide_eq_true (p := b ≤ a) h] at k; exact k)) (fun h => (by rw [decide_eq_false (p := b ≤ a) h] at k; exact k))))⟩
theorem C_zge_j {off : Int} {tgt : Nat} (h1 : cs_SE M n1 pc p2 e1) (hd : decode (cs_cc M) p2 = .ok (.ifCond .ge off, 3)) (ht : (p2 : Int) + off = (tgt : Int) := by decide) : cs_SC M n1 pc (tgt) (p2 + 3) (y_ge e1 (x_k 0)) := by
  intro L σ b0 σ' hL hS hv
  obtain ⟨⟨a, σ1⟩, q1, hv⟩ := Option.bind_eq_some_iff.mp hv
  cases hv
  obtain ⟨ra, s1, k1⟩ := h1 L σ a σ1 hL hS q1
  refine ⟨s1, fun X hX st hn k => k1 X hX st hn (cs_V_if_ge hX hd ht ra (fun h => (by rw [decide_eq_true (p := (0 : Int) ≤ a) h] at k; exact k)) (fun h => (by rw [decide_eq_false (p := (0 : Int) ≤ a) h] at k; exact k)))⟩
theorem C_ige_n {off : Int} {tgt : Nat} (h1 : cs_SE M n1 pc p1 e1) (h2 : cs_SE M n2 p1 p2 e2) (hd : decode (cs_cc M) p2 = .ok (.if_icmp .ge off, 3)) (ht : (p2 : Int) + off = (tgt : Int) := by decide) : cs_SC M (max n1 (n2 + 1)) pc (p2 + 3) (tgt) (y_lt e1 e2) := by
  intro L σ b0 σ' hL hS hv
  obtain ⟨⟨a, σ1⟩, q1, hv⟩ := Option.bind_eq_some_iff.mp hv
  obtain ⟨⟨b, σ2⟩, q2, hv⟩ := Option.bind_eq_some_iff.mp hv
  cases hv
  obtain ⟨ra, s1, k1⟩ := h1 L σ a σ1 hL hS q1
  obtain ⟨rb, s2, k2⟩ := h2 L σ1 b σ2 hL s1 q2
  refine ⟨s2, fun X hX st hn k => k1 X hX st (by omega) (k2 X hX (.inl a :: st) (by simp; omega) (cs_V_icmp_ge hX hd ht ra rb (fun h => (by rw [decide_eq_false (p := a < b) (by omega)] at k; exact k)) (fun h => (by rw [decide_eq_true (p := a < b) (by omega)] at k; exact k))))⟩
theorem C_zge_n {off : Int} {tgt : Nat} (h1 : cs_SE M n1 pc p2 e1) (hd : decode (cs_cc M) p2 = .ok (.ifCond .ge off, 3)) (ht : (p2 : Int) + off = (tgt : Int) := by decide) : cs_SC M n1 pc (p2 + 3) (tgt) (y_lt e1 (x_k 0)) := by
  intro L σ b0 σ' hL hS hv
  obtain ⟨⟨a, σ1⟩, q1, hv⟩ := Option.bind_eq_some_iff.mp hv
  cases hv
  obtain ⟨ra, s1, k1⟩ := h1 L σ a σ1 hL hS q1
  refine ⟨s1, fun X hX st hn k => k1 X hX st hn (cs_V_if_ge hX hd ht ra (fun h => (by rw [decide_eq_false (p := a < (0 : Int)) (by omega)] at k; exact k)) (fun h => (by rw [decide_eq_true (p := a < (0 : Int)) (by omega)] at k; exact k)))⟩
theorem C_igt_j {off : Int} {tgt : Nat} (h1 : cs_SE M n1 pc p1 e1) (h2 : cs_SE M n2 p1 p2 e2) (hd : decode (cs_cc M) p2 = .ok (.if_icmp .gt off, 3)) (ht : (p2 : Int) + off = (tgt : Int) := by decide) : cs_SC M (max n1 (n2 + 1)) pc (tgt) (p2 + 3) (y_gt e1 e2) := by
  intro L σ b0 σ' hL hS hv
  obtain ⟨⟨a, σ1⟩, q1, hv⟩ := Option.bind_eq_some_iff.mp hv
  obtain ⟨⟨b, σ2⟩, q2, hv⟩ := Option.bind_eq_some_iff.mp hv
  cases hv
  obtain ⟨ra, s1, k1⟩ := h1 L σ a σ1 hL hS q1
  obtain ⟨rb, s2, k2⟩ := h2 L σ1 b σ2 hL s1 q2
  refine ⟨s2, fun X hX st hn k => k1 X hX st (by omega) (k2 X hX (.inl a :: st) (by simp; omega) (cs_V_icmp_gt hX hd ht ra rb (fun h => (by rw [decide_eq_true (p := b < a) h] at k; exact k)) (fun h => (by rw [decide_eq_false (p := b < a) h] at k; exact k))))⟩
theorem C_zgt_j {off : Int} {tgt : Nat} (h1 : cs_SE M n1 pc p2 e1) (hd : decode (cs_cc M) p2 = .ok (.ifCond .gt off, 3)) (ht : (p2 : Int) + off = (tgt : Int) := by decide) : cs_SC M n1 pc (tgt) (p2 + 3) (y_gt e1 (x_k 0)) := by
  intro L σ b0 σ' hL hS hv
  obtain ⟨⟨a, σ1⟩, q1, hv⟩ := Option.bind_eq_some_iff.mp hv
  cases hv
  obtain ⟨ra, s1, k1⟩ := h1 L σ a σ1 hL hS q1
  refine ⟨s1, fun X hX st hn k => k1 X hX st hn (cs_V_if_gt hX hd ht ra (fun h => (by rw [decide_eq_true (p := (0 : Int) < a) h] at k; exact k)) (fun h => (by rw [decide_eq_false (p := (0 : Int) < a) h] at k; exact k)))⟩
theorem C_igt_n {off : Int} {tgt : Nat} (h1 : cs_SE M n1 pc p1 e1) (h2 : cs_SE M n2 p1 p2 e2) (hd : decode (cs_cc M) p2 = .ok (.if_icmp .gt off, 3)) (ht : (p2 : Int) + off = (tgt : Int) := by decide) : cs_SC M (max n1 (n2 + 1)) pc (p2 + 3) (tgt) (y_le e1 e2) := by
  intro L σ b0 σ' hL hS hv
  obtain ⟨⟨a, σ1⟩, q1, hv⟩ := Option.bind_eq_some_iff.mp hv
  obtain ⟨⟨b, σ2⟩, q2, hv⟩ := Option.bind_eq_some_iff.mp hv
  cases hv
  obtain ⟨ra, s1, k1⟩ := h1 L σ a σ1 hL hS q1
  obtain ⟨rb, s2, k2⟩ := h2 L σ1 b σ2 hL s1 q2
  refine ⟨s2, fun X hX st hn k => k1 X hX st (by omega) (k2 X hX (.inl a :: st) (by simp; omega) (cs_V_icmp_gt hX hd ht ra rb (fun h => (by rw [decide_eq_false (p := a ≤ b) (by omega)] at k; exact k)) (fun h => (by rw [decide_eq_true (p := a ≤ b) (by omega)] at k; exact k))))⟩
theorem C_zgt_n {off : Int} {tgt : Nat} (h1 : cs_SE M n1 pc p2 e1) (hd : decode (cs_cc M) p2 = .ok (.ifCond .gt off, 3)) (ht : (p2 : Int) + off = (tgt : Int) := by decide) : cs_SC M n1 pc (p2 + 3) (tgt) (y_le e1 (x_k 0)) := by
  intro L σ b0 σ' hL hS hv
  obtain ⟨⟨a, σ1⟩, q1, hv⟩ := Option.bind_eq_some_iff.mp hv
  cases hv
  obtain ⟨ra, s1, k1⟩ := h1 L σ a σ1 hL hS q1
  refine ⟨s1, fun X hX st hn k => k1 X hX st hn (cs_V_if_gt hX hd ht ra (fun h => (by rw [decide_eq_false (p := a ≤ (0 : Int)) (by omega)] at k; exact k)) (fun h => (by rw [decide_eq_true (p := a ≤ (0 : Int)) (by omega)] at k; exact k)))⟩
theorem C_ile_j {off : Int} {tgt : Nat} (h1 : cs_SE M n1 pc p1 e1) (h2 : cs_SE M n2 p1 p2 e2) (hd : decode (cs_cc M) p2 = .ok (.if_icmp .le off, 3)) (ht : (p2 : Int) + off = (tgt : Int) := by decide) : cs_SC M (max n1 (n2 + 1)) pc (tgt) (p2 + 3) (y_le e1 e2) := by
  intro L σ b0 σ' hL hS hv
  obtain ⟨⟨a, σ1⟩, q1, hv⟩ := Option.bind_eq_some_iff.mp hv
  obtain ⟨⟨b, σ2⟩, q2, hv⟩ := Option.bind_eq_some_iff.mp hv
  cases hv
  obtain ⟨ra, s1, k1⟩ := h1 L σ a σ1 hL hS q1
  obtain ⟨rb, s2, k2⟩ := h2 L σ1 b σ2 hL s1 q2
  refine ⟨s2, fun X hX st hn k => k1 X hX st (by omega) (k2 X hX (.inl a :: st) (by simp; omega) (cs_V_icmp_le hX hd ht ra rb (fun h => (by rw [decide_eq_true (p := a ≤ b) h] at k; exact k)) (fun h => (by rw [decide_eq_false (p := a ≤ b) h] at k; exact k))))⟩
theorem C_zle_j {off : Int} {tgt : Nat} (h1 : cs_SE M n1 pc p2 e1) (hd : decode (cs_cc M) p2 = .ok (.ifCond .le off, 3)) (ht : (p2 : Int) + off = (tgt : Int) := by decide) : cs_SC M n1 pc (tgt) (p2 + 3) (y_le e1 (x_k 0)) := by
  intro L σ b0 σ' hL hS hv
  obtain ⟨⟨a, σ1⟩, q1, hv⟩ := Option.bind_eq_some_iff.mp hv
  cases hv
  obtain ⟨ra, s1, k1⟩ := h1 L σ a σ1 hL hS q1
  refine ⟨s1, fun X hX st hn k => k1 X hX st hn (cs_V_if_le hX hd ht ra (fun h => (by rw [decide_eq_true (p := a ≤ (0 : Int)) h] at k; exact k)) (fun h => (by rw [decide_eq_false (p := a ≤ (0 : Int)) h] at k; exact k)))⟩
theorem C_ile_n {off : Int} {tgt : Nat} (h1 : cs_SE M n1 pc p1 e1) (h2 : cs_SE M n2 p1 p2 e2) (hd : decode (cs_cc M) p2 = .ok (.if_icmp .le off, 3)) (ht : (p2 : Int) + off = (tgt : Int) := by decide) : cs_SC M (max n1 (n2 + 1)) pc (p2 + 3) (tgt) (y_gt e1 e2) := by
  intro L σ b0 σ' hL hS hv
  obtain ⟨⟨a, σ1⟩, q1, hv⟩ := Option.bind_eq_some_iff.mp hv
  obtain ⟨⟨b, σ2⟩, q2, hv⟩ := Option.bind_eq_some_iff.mp hv
  cases hv
  obtain ⟨ra, s1, k1⟩ := h1 L σ a σ1 hL hS q1
  obtain ⟨rb, s2, k2⟩ := h2 L σ1 b σ2 hL s1 q2
  refine ⟨s2, fun X hX st hn k => k1 X hX st (by omega) (k2 X hX (.inl a :: st) (by simp; omega) (cs_V_icmp_le hX hd ht ra rb (fun h => (by rw [decide_eq_false (p := b < a) (by omega)] at k; exact k)) (fun h => (by rw [decide_eq_true (p := b < a) (by omega)] at k; exact k))))⟩
theorem C_zle_n {off : Int} {tgt : Nat} (h1 : cs_SE M n1 pc p2 e1) (hd : decode (cs_cc M) p2 = .ok (.ifCond .le off, 3)) (ht : (p2 : Int) + off = (tgt : Int) := by decide) : cs_SC M n1 pc (p2 + 3) (tgt) (y_gt e1 (x_k 0)) := by
  intro L σ b0 σ' hL hS hv
  obtain ⟨⟨a, σ1⟩, q1, hv⟩ := Option.bind_eq_some_iff.mp hv
  cases hv
  obtain ⟨ra, s1, k1⟩ := h1 L σ a σ1 hL hS q1
  refine ⟨s1, fun X hX st hn k => k1 X hX st hn (cs_V_if_le hX hd ht ra (fun h => (by rw [decide_eq_false (p := (0 : Int) < a) (by omega)] at k; exact k)) (fun h => (by rw [decide_eq_true (p := (0 : Int) < a) (by omega)] at k; exact k)))⟩
theorem C_not (h : cs_SC M n pc pT pF c) : cs_SC M n pc pF pT (y_not c) := by
  intro L σ b σ' hL hS hv
  obtain ⟨⟨t, σ1⟩, q1, hv⟩ := Option.bind_eq_some_iff.mp hv
  cases hv
  obtain ⟨s1, k1⟩ := h L σ t σ1 hL hS q1
  refine ⟨s1, fun X hX st hn k => k1 X hX st hn ?_⟩
  cases t <;> exact k
theorem C_and (h1 : cs_SC M n1 pc pM pF c) (h2 : cs_SC M n2 pM pT pF d) : cs_SC M (max n1 n2) pc pT pF (y_and c d) := by
  intro L σ b σ' hL hS hv
  obtain ⟨⟨t, σ1⟩, q1, hv⟩ := Option.bind_eq_some_iff.mp hv
  obtain ⟨s1, k1⟩ := h1 L σ t σ1 hL hS q1
  cases t with
  | false => cases hv; exact ⟨s1, fun X hX st hn k => k1 X hX st (by omega) k⟩
  | true =>
    obtain ⟨s2, k2⟩ := h2 L σ1 b σ' hL s1 hv
    exact ⟨s2, fun X hX st hn k => k1 X hX st (by omega) (k2 X hX st (by omega) k)⟩
theorem C_or (h1 : cs_SC M n1 pc pT pM c) (h2 : cs_SC M n2 pM pT pF d) : cs_SC M (max n1 n2) pc pT pF (y_or c d) := by
  intro L σ b σ' hL hS hv
  obtain ⟨⟨t, σ1⟩, q1, hv⟩ := Option.bind_eq_some_iff.mp hv
  obtain ⟨s1, k1⟩ := h1 L σ t σ1 hL hS q1
  cases t with
  | true => cases hv; exact ⟨s1, fun X hX st hn k => k1 X hX st (by omega) k⟩
  | false =>
    obtain ⟨s2, k2⟩ := h2 L σ1 b σ' hL s1 hv
    exact ⟨s2, fun X hX st hn k => k1 X hX st (by omega) (k2 X hX st (by omega) k)⟩
/-- a condition ahead of a jump: its true end goes on by goto -/
theorem C_gotoT {off : Int} (h : cs_SC M n pc p1 pF c) (hd : decode (cs_cc M) p1 = .ok (.goto off, 3)) (ht : (p1 : Int) + off = (pT : Int) := by decide) : cs_SC M n pc pT pF c := by
  intro L σ b σ' hL hS hv
  obtain ⟨s1, k1⟩ := h L σ b σ' hL hS hv
  refine ⟨s1, fun X hX st hn k => k1 X hX st hn ?_⟩
  cases b with
  | true => exact cs_V_goto hX hd ht k
  | false => exact k
theorem C_ite (h : cs_SC M n pc p1 p2 c) (h1 : cs_SC M n1 p1 pT pF d1) (h2 : cs_SC M n2 p2 pT pF d2) : cs_SC M (max n (max n1 n2)) pc pT pF (y_ite c d1 d2) := by
  intro L σ b σ' hL hS hv
  obtain ⟨⟨t, σ1⟩, q1, hv⟩ := Option.bind_eq_some_iff.mp hv
  obtain ⟨s1, k1⟩ := h L σ t σ1 hL hS q1
  cases t with
  | true =>
    obtain ⟨s2, k2⟩ := h1 L σ1 b σ' hL s1 hv
    exact ⟨s2, fun X hX st hn k => k1 X hX st (by omega) (k2 X hX st (by omega) k)⟩
  | false =>
    obtain ⟨s2, k2⟩ := h2 L σ1 b σ' hL s1 hv
    exact ⟨s2, fun X hX st hn k => k1 X hX st (by omega) (k2 X hX st (by omega) k)⟩
-- statements
theorem S_nop : cs_SS M pc pc pB s_nop := by
  intro L σ o hL hS hv
  cases hv
  exact ⟨⟨hL, hS⟩, fun X hX k => k⟩
theorem S_seq (h1 : cs_SS M pc p1 pB s) (h2 : cs_SS M p1 pN pB t) : cs_SS M pc pN pB (s_seq s t) := by
  intro L σ o hL hS hv
  obtain ⟨o1, q1, hv⟩ := Option.bind_eq_some_iff.mp hv
  obtain ⟨s1, k1⟩ := h1 L σ o1 hL hS q1
  match o1, s1, k1, hv with
  | .inl r, s1, k1, hv =>
    obtain ⟨s2, k2⟩ := h2 r.1 r.2 o s1.1 s1.2 hv
    exact ⟨s2, fun X hX k => k1 X hX (k2 X hX k)⟩
  | .inr (.inl r), s1, k1, hv => cases hv; exact ⟨s1, fun X hX k => k1 X hX k⟩
  | .inr (.inr r), s1, k1, hv => cases hv; exact ⟨s1, fun X hX k => k1 X hX k⟩
/-- what stands behind a statement that never ends normally is free -/
theorem S_goto {off : Int} (h : cs_SS M pc p1 pB s) (hd : decode (cs_cc M) p1 = .ok (.goto off, 3)) (ht : (p1 : Int) + off = (pN : Int) := by decide) : cs_SS M pc pN pB s := by
  intro L σ o hL hS hv
  obtain ⟨s1, k1⟩ := h L σ o hL hS hv
  refine ⟨s1, fun X hX k => k1 X hX ?_⟩
  match o, k with
  | .inl r, k => exact cs_V_goto hX hd ht k
  | .inr (.inl r), k => exact k
  | .inr (.inr r), k => exact k
theorem S_set_n {i : Nat} {j : Fin 4} (h : cs_SE M n pc p1 e) (hd : decode (cs_cc M) p1 = .ok (.istore_n j, 1)) (hj : (j : Nat) = i := by rfl) (hi : i < cs_nL M := by decide) (hr : ∀ r ∈ cs_refs (cs_sig M) 0, r.1 ≠ i := by decide) (hn : n ≤ 8 := by decide) : cs_SS M pc (p1 + 1) pB (s_set i e) := by
  intro L σ o hL hS hv
  obtain ⟨⟨a, σ1⟩, q1, hv⟩ := Option.bind_eq_some_iff.mp hv
  cases hv
  obtain ⟨ra, s1, k1⟩ := h L σ a σ1 hL hS q1
  exact ⟨⟨cs_InL_set hL ra, s1⟩, fun X hX k => k1 X hX [] (by simpa using hn) (cs_V_istore_n hX hd hj hi hr k)⟩
theorem S_set {i : Nat} (h : cs_SE M n pc p1 e) (hd : decode (cs_cc M) p1 = .ok (.istore i, 2)) (hi : i < cs_nL M := by decide) (hr : ∀ r ∈ cs_refs (cs_sig M) 0, r.1 ≠ i := by decide) (hn : n ≤ 8 := by decide) : cs_SS M pc (p1 + 2) pB (s_set i e) := by
  intro L σ o hL hS hv
  obtain ⟨⟨a, σ1⟩, q1, hv⟩ := Option.bind_eq_some_iff.mp hv
  cases hv
  obtain ⟨ra, s1, k1⟩ := h L σ a σ1 hL hS q1
  exact ⟨⟨cs_InL_set hL ra, s1⟩, fun X hX k => k1 X hX [] (by simpa using hn) (cs_V_istore hX hd hi hr k)⟩
theorem S_inc {i : Nat} {m : Int} (hd : decode (cs_cc M) pc = .ok (.iinc i m, 3)) (hi : i < cs_nL M := by decide) (hr : ∀ r ∈ cs_refs (cs_sig M) 0, r.1 ≠ i := by decide) : cs_SS M pc (pc + 3) pB (s_inc i m) := by
  intro L σ o hL hS hv
  obtain ⟨⟨a, σ1⟩, q1, hv⟩ := Option.bind_eq_some_iff.mp hv
  cases hv
  obtain ⟨⟨b, σ2⟩, q2, hv⟩ := Option.bind_eq_some_iff.mp q1
  obtain ⟨q3, rfl⟩ := x_l_some q2
  obtain ⟨hr2, rfl, rfl⟩ := cs_chk_some hv
  exact ⟨⟨cs_InL_set hL hr2, hS⟩, fun X hX k => cs_V_iinc hX hd q3 hi hr k⟩
theorem S_put {p ci k index N : Nat} {fs : List (Option Nat)} {C : String} {T : u_T} {ty0 : Nat → FieldType} (hr : cs_SR M pc p1 p) (h : cs_SE M n p1 p2 e) (hc : cs_cd ci C T N) (hl : cs_FL (cs_own M) index T k) (hty : ∀ k, k < N → parseFieldDescriptor (T k).2.2.1 = some (ty0 k)) (hnm : ∀ a, a < N → ∀ b, b < N → a ≠ b → (T a).2.1 ≠ (T b).2.1)
    (hd : decode (cs_cc M) p2 = .ok (.putfield index, 3)) (hs : (cs_sh M)[p]? = some (.inl (ci, fs)) := by rfl) (hf : fs[k]? = some none := by rfl) (hk : k < N := by decide) (hfin : (T k).2.2.2 = false := by rfl) (hti : ty0 k = .int := by rfl) (hn : n + 1 ≤ 8 := by decide) : cs_SS M pc (p2 + 3) pB (s_put p k e) := by
  intro L σ o hL hS hv
  obtain ⟨⟨a, σ1⟩, q1, hv⟩ := Option.bind_eq_some_iff.mp hv
  cases hv
  obtain ⟨ra, s1, k1⟩ := h L σ a σ1 hL hS q1
  exact ⟨⟨hL, cs_InS_up s1 ra⟩, fun X hX kk => hr L σ X hX [] (k1 X hX [.inr p] (by simp; omega) (cs_V_putI hX hs hf hc hk hl hty hnm hfin hti hd kk))⟩
theorem S_addf {p ci k index N : Nat} {fs : List (Option Nat)} {C : String} {T : u_T} {ty0 : Nat → FieldType} (hr : cs_SR M pc p1 p) (hd1 : decode (cs_cc M) p1 = .ok (.dup, 1)) (hd2 : decode (cs_cc M) (p1 + 1) = .ok (.getfield index, 3)) (h : cs_SE M n (p1 + 4) p2 e) (hd3 : decode (cs_cc M) p2 = .ok (.iadd, 1)) (hc : cs_cd ci C T N) (hl : cs_FL (cs_own M) index T k) (hty : ∀ k, k < N → parseFieldDescriptor (T k).2.2.1 = some (ty0 k)) (hnm : ∀ a, a < N → ∀ b, b < N → a ≠ b → (T a).2.1 ≠ (T b).2.1)
    (hd : decode (cs_cc M) (p2 + 1) = .ok (.putfield index, 3)) (hs : (cs_sh M)[p]? = some (.inl (ci, fs)) := by rfl) (hf : fs[k]? = some none := by rfl) (hk : k < N := by decide) (hfin : (T k).2.2.2 = false := by rfl) (hti : ty0 k = .int := by rfl) (hn : n + 2 ≤ 8 := by decide) : cs_SS M pc (p2 + 4) pB (s_put p k (x_add (x_f p k) e)) := by
  intro L σ o hL hS hv
  obtain ⟨⟨a, σ1⟩, q1, hv⟩ := Option.bind_eq_some_iff.mp hv
  cases hv
  obtain ⟨⟨b, σ2⟩, q2, q1⟩ := Option.bind_eq_some_iff.mp q1
  cases q2
  obtain ⟨⟨b, σ2⟩, q2, q1⟩ := Option.bind_eq_some_iff.mp q1
  obtain ⟨hr2, rfl, rfl⟩ := cs_chk_some q1
  obtain ⟨ra, s1, k1⟩ := h L σ b σ2 hL hS q2
  exact ⟨⟨hL, cs_InS_up s1 hr2⟩, fun X hX kk => hr L σ X hX [] (cs_V_dup hX hd1 (cs_V_getI hX hs hf hc hk hl hd2 (k1 X hX [.inl (σ p k), .inr p] (by simp; omega) (cs_V_iadd hX hd3 (cs_V_putI hX hs hf hc hk hl hty hnm hfin hti hd kk)))))⟩
theorem S_subf {p ci k index N : Nat} {fs : List (Option Nat)} {C : String} {T : u_T} {ty0 : Nat → FieldType} (hr : cs_SR M pc p1 p) (hd1 : decode (cs_cc M) p1 = .ok (.dup, 1)) (hd2 : decode (cs_cc M) (p1 + 1) = .ok (.getfield index, 3)) (h : cs_SE M n (p1 + 4) p2 e) (hd3 : decode (cs_cc M) p2 = .ok (.isub, 1)) (hc : cs_cd ci C T N) (hl : cs_FL (cs_own M) index T k) (hty : ∀ k, k < N → parseFieldDescriptor (T k).2.2.1 = some (ty0 k)) (hnm : ∀ a, a < N → ∀ b, b < N → a ≠ b → (T a).2.1 ≠ (T b).2.1)
    (hd : decode (cs_cc M) (p2 + 1) = .ok (.putfield index, 3)) (hs : (cs_sh M)[p]? = some (.inl (ci, fs)) := by rfl) (hf : fs[k]? = some none := by rfl) (hk : k < N := by decide) (hfin : (T k).2.2.2 = false := by rfl) (hti : ty0 k = .int := by rfl) (hn : n + 2 ≤ 8 := by decide) : cs_SS M pc (p2 + 4) pB (s_put p k (x_sub (x_f p k) e)) := by
  intro L σ o hL hS hv
  obtain ⟨⟨a, σ1⟩, q1, hv⟩ := Option.bind_eq_some_iff.mp hv
  cases hv
  obtain ⟨⟨b, σ2⟩, q2, q1⟩ := Option.bind_eq_some_iff.mp q1
  cases q2
  obtain ⟨⟨b, σ2⟩, q2, q1⟩ := Option.bind_eq_some_iff.mp q1
  obtain ⟨hr2, rfl, rfl⟩ := cs_chk_some q1
  obtain ⟨ra, s1, k1⟩ := h L σ b σ2 hL hS q2
  exact ⟨⟨hL, cs_InS_up s1 hr2⟩, fun X hX kk => hr L σ X hX [] (cs_V_dup hX hd1 (cs_V_getI hX hs hf hc hk hl hd2 (k1 X hX [.inl (σ p k), .inr p] (by simp; omega) (cs_V_isub hX hd3 (cs_V_putI hX hs hf hc hk hl hty hnm hfin hti hd kk)))))⟩
theorem cs_wr_some {p m : Nat} {i v : Int} {L : cs_L} {σ : cs_S} {o : cs_O} (h : cs_wr p m i v L σ = some o) : (0 ≤ i ∧ i < (m : Int)) ∧ o = .inl (L, cs_up σ p i.toNat v) := by
  unfold cs_wr at h
  by_cases c : 0 ≤ i ∧ i < (m : Int)
  · rw [if_pos c] at h; cases h; exact ⟨c, rfl⟩
  · rw [if_neg c] at h; cases h
theorem S_ast {p m : Nat} (hr : cs_SR M pc p1 p) (h1 : cs_SE M n1 p1 p2 e1) (h2 : cs_SE M n2 p2 p3 e2) (hd : decode (cs_cc M) p3 = .ok (.iastore, 1)) (hs : (cs_sh M)[p]? = some (.inr (.int, m)) := by rfl) (hn : max (n1 + 1) (n2 + 2) ≤ 8 := by decide) : cs_SS M pc (p3 + 1) pB (s_ast p m e1 e2) := by
  intro L σ o hL hS hv
  obtain ⟨⟨a, σ1⟩, q1, hv⟩ := Option.bind_eq_some_iff.mp hv
  obtain ⟨⟨b, σ2⟩, q2, hv⟩ := Option.bind_eq_some_iff.mp hv
  obtain ⟨c, rfl⟩ := cs_wr_some hv
  obtain ⟨ra, s1, k1⟩ := h1 L σ a σ1 hL hS q1
  obtain ⟨rb, s2, k2⟩ := h2 L σ1 b σ2 hL s1 q2
  exact ⟨⟨hL, cs_InS_up s2 rb⟩, fun X hX k => hr L σ X hX [] (k1 X hX [.inr p] (by simp; omega) (k2 X hX [.inl a, .inr p] (by simp; omega) (cs_V_iast hX hs c.1 c.2 ra hd k)))⟩
theorem S_zst {p m : Nat} (hr : cs_SR M pc p1 p) (h1 : cs_SE M n1 p1 p2 e1) (h2 : cs_SE M n2 p2 p3 e2) (hd : decode (cs_cc M) p3 = .ok (.bastore, 1)) (hs : (cs_sh M)[p]? = some (.inr (.boolean, m)) := by rfl) (hn : max (n1 + 1) (n2 + 2) ≤ 8 := by decide) : cs_SS M pc (p3 + 1) pB (s_zst p m e1 e2) := by
  intro L σ o hL hS hv
  obtain ⟨⟨a, σ1⟩, q1, hv⟩ := Option.bind_eq_some_iff.mp hv
  obtain ⟨⟨b, σ2⟩, q2, hv⟩ := Option.bind_eq_some_iff.mp hv
  by_cases z : b = 0 ∨ b = 1
  · rw [if_pos z] at hv
    obtain ⟨c, rfl⟩ := cs_wr_some hv
    obtain ⟨ra, s1, k1⟩ := h1 L σ a σ1 hL hS q1
    obtain ⟨rb, s2, k2⟩ := h2 L σ1 b σ2 hL s1 q2
    exact ⟨⟨hL, cs_InS_up s2 rb⟩, fun X hX k => hr L σ X hX [] (k1 X hX [.inr p] (by simp; omega) (k2 X hX [.inl a, .inr p] (by simp; omega) (cs_V_zast hX hs c.1 c.2 ra z hd k)))⟩
  · rw [if_neg z] at hv
    cases hv
theorem S_cst {p m : Nat} (hr : cs_SR M pc p1 p) (h1 : cs_SE M n1 p1 p2 e1) (h2 : cs_SE M n2 p2 p3 e2) (hd : decode (cs_cc M) p3 = .ok (.castore, 1)) (hs : (cs_sh M)[p]? = some (.inr (.char, m)) := by rfl) (hn : max (n1 + 1) (n2 + 2) ≤ 8 := by decide) : cs_SS M pc (p3 + 1) pB (s_cst p m e1 e2) := by
  intro L σ o hL hS hv
  obtain ⟨⟨a, σ1⟩, q1, hv⟩ := Option.bind_eq_some_iff.mp hv
  obtain ⟨⟨b, σ2⟩, q2, hv⟩ := Option.bind_eq_some_iff.mp hv
  by_cases z : 0 ≤ b ∧ b < 65536
  · rw [if_pos z] at hv
    obtain ⟨c, rfl⟩ := cs_wr_some hv
    obtain ⟨ra, s1, k1⟩ := h1 L σ a σ1 hL hS q1
    obtain ⟨rb, s2, k2⟩ := h2 L σ1 b σ2 hL s1 q2
    exact ⟨⟨hL, cs_InS_up s2 rb⟩, fun X hX k => hr L σ X hX [] (k1 X hX [.inr p] (by simp; omega) (k2 X hX [.inl a, .inr p] (by simp; omega) (cs_V_cast hX hs c.1 c.2 ra z.1 z.2 hd k)))⟩
  · rw [if_neg z] at hv
    cases hv
theorem S_ada {p m : Nat} (hr : cs_SR M pc p1 p) (h1 : cs_SE M n1 p1 p2 e1) (hd1 : decode (cs_cc M) p2 = .ok (.dup2, 1)) (hd2 : decode (cs_cc M) (p2 + 1) = .ok (.iaload, 1)) (h2 : cs_SE M n2 (p2 + 2) p3 e2) (hd3 : decode (cs_cc M) p3 = .ok (.iadd, 1)) (hd : decode (cs_cc M) (p3 + 1) = .ok (.iastore, 1)) (hs : (cs_sh M)[p]? = some (.inr (.int, m)) := by rfl) (hn : max (n1 + 1) (n2 + 3) ≤ 8 := by decide) : cs_SS M pc (p3 + 2) pB (s_ada p m e1 e2) := by
  intro L σ o hL hS hv
  obtain ⟨⟨a, σ1⟩, q1, hv⟩ := Option.bind_eq_some_iff.mp hv
  obtain ⟨⟨r, σ3⟩, q3, hv⟩ := Option.bind_eq_some_iff.mp hv
  obtain ⟨c, rfl, rfl⟩ := cs_rd_some q3
  obtain ⟨⟨b, σ2⟩, q2, hv⟩ := Option.bind_eq_some_iff.mp hv
  obtain ⟨⟨d, σ4⟩, q4, hv⟩ := Option.bind_eq_some_iff.mp hv
  obtain ⟨hr2, rfl, rfl⟩ := cs_chk_some q4
  obtain ⟨-, rfl⟩ := cs_wr_some hv
  obtain ⟨ra, s1, k1⟩ := h1 L σ a σ1 hL hS q1
  obtain ⟨rb, s2, k2⟩ := h2 L σ1 b σ2 hL s1 q2
  exact ⟨⟨hL, cs_InS_up s2 hr2⟩, fun X hX k => hr L σ X hX [] (k1 X hX [.inr p] (by simp; omega) (cs_V_dup2 hX hd1 (cs_V_iald hX hs c.1 c.2 ra hd2 (k2 X hX [.inl _, .inl a, .inr p] (by simp; omega) (cs_V_iadd hX hd3 (cs_V_iast hX hs c.1 c.2 ra hd k))))))⟩
theorem S_if (hc : cs_SC M n pc p1 p2 c) (h1 : cs_SS M p1 pN pB s) (h2 : cs_SS M p2 pN pB t) (hn : n ≤ 8 := by decide) : cs_SS M pc pN pB (s_if c s t) := by
  intro L σ o hL hS hv
  obtain ⟨⟨b, σ1⟩, q1, hv⟩ := Option.bind_eq_some_iff.mp hv
  obtain ⟨s1, k1⟩ := hc L σ b σ1 hL hS q1
  cases b with
  | true =>
    obtain ⟨s2, k2⟩ := h1 L σ1 o hL s1 hv
    exact ⟨s2, fun X hX k => k1 X hX [] (by simpa using hn) (k2 X hX k)⟩
  | false =>
    obtain ⟨s2, k2⟩ := h2 L σ1 o hL s1 hv
    exact ⟨s2, fun X hX k => k1 X hX [] (by simpa using hn) (k2 X hX k)⟩
theorem S_ret (h : cs_SE M n pc p1 e) (hd : decode (cs_cc M) p1 = .ok (.ireturn, 1)) (ht : cs_rt M = some .int := by rfl) (hn : n ≤ 8 := by decide) : cs_SS M pc pN pB (s_ret e) := by
  intro L σ o hL hS hv
  obtain ⟨⟨a, σ1⟩, q1, hv⟩ := Option.bind_eq_some_iff.mp hv
  cases hv
  obtain ⟨ra, s1, k1⟩ := h L σ a σ1 hL hS q1
  refine ⟨⟨fun z hz => (by cases hz; exact ra), s1⟩, fun X hX k => k1 X hX [] (by simpa using hn) ?_⟩
  obtain ⟨⟨p, l, e, R⟩, ⟨s, m, args, below⟩, ⟨meth, c⟩, ⟨cells, slots, Q⟩, ⟨adr, ac, D, A⟩⟩ := X
  exact fun ls H locs _ g2 g3 => k p1 ls H locs g2 g3 hd (Or.inl ht)
theorem S_retz (h : cs_SE M n pc p1 e) (hd : decode (cs_cc M) p1 = .ok (.ireturn, 1)) (ht : cs_rt M = some .boolean := by rfl) (hn : n ≤ 8 := by decide) : cs_SS M pc pN pB (s_retz e) := by
  intro L σ o hL hS hv
  obtain ⟨⟨a, σ1⟩, q1, hv⟩ := Option.bind_eq_some_iff.mp hv
  by_cases z : a = 0 ∨ a = 1
  · rw [if_pos z] at hv
    cases hv
    obtain ⟨ra, s1, k1⟩ := h L σ a σ1 hL hS q1
    refine ⟨⟨fun z hz => (by cases hz; exact ra), s1⟩, fun X hX k => k1 X hX [] (by simpa using hn) ?_⟩
    obtain ⟨⟨p, l, e, R⟩, ⟨s, m, args, below⟩, ⟨meth, c⟩, ⟨cells, slots, Q⟩, ⟨adr, ac, D, A⟩⟩ := X
    exact fun ls H locs _ g2 g3 => k p1 ls H locs g2 g3 hd (Or.inr ⟨ht, z⟩)
  · rw [if_neg z] at hv
    cases hv
theorem S_retv (hd : decode (cs_cc M) pc = .ok (.return_, 1)) (ht : cs_rt M = none := by rfl) : cs_SS M pc pN pB s_retv := by
  intro L σ o hL hS hv
  cases hv
  refine ⟨⟨fun z hz => (by cases hz), hS⟩, fun X hX k => ?_⟩
  obtain ⟨⟨p, l, e, R⟩, ⟨s, m, args, below⟩, ⟨meth, c⟩, ⟨cells, slots, Q⟩, ⟨adr, ac, D, A⟩⟩ := X
  exact fun ls H locs _ g2 g3 => k pc ls H locs g2 g3 hd ht
theorem S_brk {off : Int} (hd : decode (cs_cc M) pc = .ok (.goto off, 3)) (ht : (pc : Int) + off = (pB : Int) := by decide) : cs_SS M pc pN pB s_brk := by
  intro L σ o hL hS hv
  cases hv
  exact ⟨⟨hL, hS⟩, fun X hX k => cs_V_goto hX hd ht k⟩
theorem S_ex (h : cs_SE M n pc p1 e) (hd : decode (cs_cc M) p1 = .ok (.pop, 1)) (hn : n ≤ 8 := by decide) : cs_SS M pc (p1 + 1) pB (s_ex e) := by
  intro L σ o hL hS hv
  obtain ⟨⟨a, σ1⟩, q1, hv⟩ := Option.bind_eq_some_iff.mp hv
  cases hv
  obtain ⟨ra, s1, k1⟩ := h L σ a σ1 hL hS q1
  exact ⟨⟨hL, s1⟩, fun X hX k => k1 X hX [] (by simpa using hn) (cs_V_pop hX hd k)⟩
theorem S_wh {off : Int} {b : cs_T} (hc : cs_SC M n pc p1 pN c) (hb : cs_SS M p1 p2 pN b) (hd : decode (cs_cc M) p2 = .ok (.goto off, 3)) (ht : (p2 : Int) + off = (pc : Int) := by decide) (hn : n ≤ 8 := by decide) : cs_SS M pc pN pB (s_wh c b) := by
  intro L σ o hL hS hv
  obtain ⟨k, hk⟩ := s_wh_iff.mp hv
  clear hv
  induction k generalizing L σ with
  | zero => simp [cs_it] at hk
  | succ k ih =>
    rw [cs_it] at hk
    obtain ⟨⟨t, σ1⟩, q1, hk⟩ := Option.bind_eq_some_iff.mp hk
    obtain ⟨s1, k1⟩ := hc L σ t σ1 hL hS q1
    cases t with
    | false =>
      simp at hk
      subst hk
      exact ⟨⟨hL, s1⟩, fun X hX kk => k1 X hX [] (by simpa using hn) kk⟩
    | true =>
      rw [if_pos rfl] at hk
      obtain ⟨o1, q2, hk⟩ := Option.bind_eq_some_iff.mp hk
      obtain ⟨s2, k2⟩ := hb L σ1 o1 hL s1 q2
      match o1, s2, k2, hk with
      | .inl r, s2, k2, hk =>
        obtain ⟨s3, k3⟩ := ih r.1 r.2 s2.1 s2.2 hk
        exact ⟨s3, fun X hX kk => k1 X hX [] (by simpa using hn) (k2 X hX (cs_V_goto hX hd ht (k3 X hX kk)))⟩
      | .inr (.inl r), s2, k2, hk => cases hk; exact ⟨s2, fun X hX kk => k1 X hX [] (by simpa using hn) (k2 X hX kk)⟩
      | .inr (.inr r), s2, k2, hk => cases hk; exact ⟨s2, fun X hX kk => k1 X hX [] (by simpa using hn) (k2 X hX kk)⟩
/-- another text of the same function -/
theorem S_as {s' : cs_T} (h : cs_SS M pc pN pB s) (he : s = s') : cs_SS M pc pN pB s' := he ▸ h
theorem E_as {e' : cs_E} (h : cs_SE M n pc p1 e) (he : e = e') : cs_SE M n pc p1 e' := he ▸ h
end CE
