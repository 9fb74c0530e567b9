/-! stores by whole places -/
def au (a : Nat → Int) (k : Nat) (v : Int) : Nat → Int := fun j => if j = k then v else a j
def cs_set (σ : cs_S) (p : Nat) (a : Nat → Int) : cs_S := fun q => if q = p then a else σ q
theorem cs_up_eq (σ : cs_S) (p k : Nat) (v : Int) : cs_up σ p k v = cs_set σ p (au (σ p) k v) := by
  funext q j
  unfold cs_up cs_set au
  by_cases h : q = p
  · subst h; simp
  · simp [h]
theorem cs_set_at (σ : cs_S) (p : Nat) (a : Nat → Int) : cs_set σ p a p = a := by simp [cs_set]
theorem cs_set_ne {σ : cs_S} {p q : Nat} {a : Nat → Int} (h : q ≠ p) : cs_set σ p a q = σ q := by simp [cs_set, h]
theorem cs_set_set (σ : cs_S) (p : Nat) (a b : Nat → Int) : cs_set (cs_set σ p a) p b = cs_set σ p b := by
  funext q; unfold cs_set; by_cases h : q = p <;> simp [h]
theorem cs_set_self (σ : cs_S) (p : Nat) : cs_set σ p (σ p) = σ := by
  funext q; unfold cs_set; by_cases h : q = p <;> simp [h]
theorem cs_set_comm {σ : cs_S} {p q : Nat} {a b : Nat → Int} (h : p ≠ q) : cs_set (cs_set σ p a) q b = cs_set (cs_set σ q b) p a := by
  funext r; unfold cs_set
  by_cases h1 : r = q
  · subst h1; simp [Ne.symm h]
  · simp [h1]
theorem au_at (a : Nat → Int) (k : Nat) (v : Int) : au a k v k = v := by simp [au]
theorem au_ne {a : Nat → Int} {k j : Nat} {v : Int} (h : j ≠ k) : au a k v j = a j := by simp [au, h]
theorem au_same {a : Nat → Int} {k : Nat} {v : Int} (h : a k = v) : au a k v = a := by
  funext j; unfold au; by_cases e : j = k
  · subst e; simp [h]
  · simp [e]
theorem au_au (a : Nat → Int) (k : Nat) (v w : Int) : au (au a k v) k w = au a k w := by
  funext j; unfold au; by_cases e : j = k <;> simp [e]
/-- the first n entries made v -/
def afl (a : Nat → Int) (n : Nat) (v : Int) : Nat → Int := fun j => if j < n then v else a j
theorem afl_0 (a : Nat → Int) (v : Int) : afl a 0 v = a := by funext j; simp [afl]
theorem afl_s (a : Nat → Int) (k : Nat) (v : Int) : au (afl a k v) k v = afl a (k + 1) v := by
  funext j; unfold au afl
  by_cases h : j = k
  · subst h; simp
  · by_cases h2 : j < k
    · simp [h, h2, Nat.lt_succ_of_lt h2]
    · have : ¬ j < k + 1 := by omega
      simp [h, h2, this]
theorem toNat_s (k : Nat) : ((k : Int)).toNat = k := by simp
/-! small functions -/
theorem f_isWithin (v lo hi : Int) (σ : cs_S) : f_X9_isWithin [v, lo, hi] σ = some (some (if lo ≤ v ∧ v ≤ hi then 1 else 0), σ) := by
  simp [f_X9_isWithin, b_X9_isWithin, cs_run, cs_L0, s_ret, s_retz, s_retv, s_seq, s_set, s_inc, s_put, s_ast, s_zst, s_cst, s_ada, s_if, s_ex, s_cv, s_nop, s_brk, x_ite, x_l, x_k, x_f, x_a, x_ro, x_add, x_sub, x_mul, x_div, x_rem, x_neg, x_call, x_max, x_min, x_abs, g_cons, g_nil, y_lt, y_le, y_gt, y_ge, y_eq, y_ne, y_not, y_and, y_or, y_ite]
  by_cases h1 : lo ≤ v <;> by_cases h2 : v ≤ hi <;> simp [h1, h2]
theorem f_within (v lo hi : Int) (σ : cs_S) : f_X10_within [v, lo, hi] σ = some (some (if lo ≤ v ∧ v ≤ hi then 1 else 0), σ) := by
  simp [f_X10_within, b_X10_within, cs_run, cs_L0, s_ret, s_retz, s_retv, s_seq, s_set, s_inc, s_put, s_ast, s_zst, s_cst, s_ada, s_if, s_ex, s_cv, s_nop, s_brk, x_ite, x_l, x_k, x_f, x_a, x_ro, x_add, x_sub, x_mul, x_div, x_rem, x_neg, x_call, x_max, x_min, x_abs, g_cons, g_nil, y_lt, y_le, y_gt, y_ge, y_eq, y_ne, y_not, y_and, y_or, y_ite]
  by_cases h1 : lo ≤ v <;> by_cases h2 : v ≤ hi <;> simp [h1, h2]
theorem f_isLevel (v : Int) (σ : cs_S) : f_X9_isLevel [v] σ = some (some (if 0 ≤ v ∧ v ≤ 9 then 1 else 0), σ) := by
  by_cases h : 0 ≤ v ∧ v ≤ 9 <;> simp [f_X9_isLevel, b_X9_isLevel, cs_run, cs_L0, s_ret, s_retz, s_retv, s_seq, s_set, s_inc, s_put, s_ast, s_zst, s_cst, s_ada, s_if, s_ex, s_cv, s_nop, s_brk, x_ite, x_l, x_k, x_f, x_a, x_ro, x_add, x_sub, x_mul, x_div, x_rem, x_neg, x_call, x_max, x_min, x_abs, g_cons, g_nil, y_lt, y_le, y_gt, y_ge, y_eq, y_ne, y_not, y_and, y_or, y_ite, f_isWithin, h]
theorem f_isLevelR (v : Int) (σ : cs_S) : f_X10_isLevel [v] σ = some (some (if 0 ≤ v ∧ v ≤ 9 then 1 else 0), σ) := by
  by_cases h : 0 ≤ v ∧ v ≤ 9 <;> simp [f_X10_isLevel, b_X10_isLevel, cs_run, cs_L0, s_ret, s_retz, s_retv, s_seq, s_set, s_inc, s_put, s_ast, s_zst, s_cst, s_ada, s_if, s_ex, s_cv, s_nop, s_brk, x_ite, x_l, x_k, x_f, x_a, x_ro, x_add, x_sub, x_mul, x_div, x_rem, x_neg, x_call, x_max, x_min, x_abs, g_cons, g_nil, y_lt, y_le, y_gt, y_ge, y_eq, y_ne, y_not, y_and, y_or, y_ite, f_within, h]
/-- a pixel of a picture of width w and height h -/
def inP (w h x y : Int) : Bool := decide (0 ≤ x ∧ x < w ∧ 0 ≤ y ∧ y < h)
theorem inP_iff {w h x y : Int} : inP w h x y = true ↔ 0 ≤ x ∧ x < w ∧ 0 ≤ y ∧ y < h := decide_eq_true_iff
theorem inP_not {w h x y : Int} : inP w h x y = false ↔ ¬ (0 ≤ x ∧ x < w ∧ 0 ≤ y ∧ y < h) := decide_eq_false_iff_not
abbrev ix (x y : Int) : Nat := (y * 16 + x).toNat
theorem f_has (x y : Int) (σ : cs_S) : f_X2_has [x, y] σ = some (some (if inP (σ 1 3) (σ 1 4) x y then 1 else 0), σ) := by
  simp [f_X2_has, b_X2_has, cs_run, cs_L0, s_ret, s_retz, s_retv, s_seq, s_set, s_inc, s_put, s_ast, s_zst, s_cst, s_ada, s_if, s_ex, s_cv, s_nop, s_brk, x_ite, x_l, x_k, x_f, x_a, x_ro, x_add, x_sub, x_mul, x_div, x_rem, x_neg, x_call, x_max, x_min, x_abs, g_cons, g_nil, y_lt, y_le, y_gt, y_ge, y_eq, y_ne, y_not, y_and, y_or, y_ite]
  by_cases h1 : 0 ≤ x <;> by_cases h2 : x < σ 1 3 <;> by_cases h3 : 0 ≤ y <;> by_cases h4 : y < σ 1 4 <;> simp [inP, h1, h2, h3, h4]
abbrev szJ (w h : Int) : Prop := 3 ≤ w ∧ w ≤ 16 ∧ 3 ≤ h ∧ h ≤ 12
theorem f_at (x y : Int) (σ : cs_S) (hz : szJ (σ 1 3) (σ 1 4)) : f_X2_at [x, y] σ = some (some (if inP (σ 1 3) (σ 1 4) x y then σ 11 (ix x y) else 0), σ) := by
  cases h : inP (σ 1 3) (σ 1 4) x y
  case true =>
    have hq := inP_iff.mp h
    simp (disch := (first | omega | simp)) [f_X2_at, b_X2_at, cs_run, cs_L0, s_ret, s_retz, s_retv, s_seq, s_set, s_inc, s_put, s_ast, s_zst, s_cst, s_ada, s_if, s_ex, s_cv, s_nop, s_brk, x_ite, x_l, x_k, x_f, x_a, x_ro, x_add, x_sub, x_mul, x_div, x_rem, x_neg, x_call, x_max, x_min, x_abs, g_cons, g_nil, y_lt, y_le, y_gt, y_ge, y_eq, y_ne, y_not, y_and, y_or, y_ite, f_has, h, cs_chk_ok, cs_rd_ok]
  case false =>
    simp [f_X2_at, b_X2_at, cs_run, cs_L0, s_ret, s_retz, s_retv, s_seq, s_set, s_inc, s_put, s_ast, s_zst, s_cst, s_ada, s_if, s_ex, s_cv, s_nop, s_brk, x_ite, x_l, x_k, x_f, x_a, x_ro, x_add, x_sub, x_mul, x_div, x_rem, x_neg, x_call, x_max, x_min, x_abs, g_cons, g_nil, y_lt, y_le, y_gt, y_ge, y_eq, y_ne, y_not, y_and, y_or, y_ite, f_has, h]
theorem f_put (x y v : Int) (σ : cs_S) (hz : szJ (σ 1 3) (σ 1 4)) : f_X2_put [x, y, v] σ = some (some (if inP (σ 1 3) (σ 1 4) x y ∧ σ 11 (ix x y) ≠ v then 1 else 0), if inP (σ 1 3) (σ 1 4) x y then cs_set σ 11 (au (σ 11) (ix x y) v) else σ) := by
  cases h : inP (σ 1 3) (σ 1 4) x y
  case true =>
    have hq := inP_iff.mp h
    by_cases h2 : σ 11 (ix x y) = v
    · simp (disch := (first | omega | simp)) [f_X2_put, b_X2_put, cs_run, cs_L0, s_ret, s_retz, s_retv, s_seq, s_set, s_inc, s_put, s_ast, s_zst, s_cst, s_ada, s_if, s_ex, s_cv, s_nop, s_brk, x_ite, x_l, x_k, x_f, x_a, x_ro, x_add, x_sub, x_mul, x_div, x_rem, x_neg, x_call, x_max, x_min, x_abs, g_cons, g_nil, y_lt, y_le, y_gt, y_ge, y_eq, y_ne, y_not, y_and, y_or, y_ite, f_has, f_at x y σ hz, h, h2, au_same, cs_set_self]
    · simp (disch := (first | omega | simp)) [f_X2_put, b_X2_put, cs_run, cs_L0, s_ret, s_retz, s_retv, s_seq, s_set, s_inc, s_put, s_ast, s_zst, s_cst, s_ada, s_if, s_ex, s_cv, s_nop, s_brk, x_ite, x_l, x_k, x_f, x_a, x_ro, x_add, x_sub, x_mul, x_div, x_rem, x_neg, x_call, x_max, x_min, x_abs, g_cons, g_nil, y_lt, y_le, y_gt, y_ge, y_eq, y_ne, y_not, y_and, y_or, y_ite, f_has, f_at x y σ hz, h, h2, cs_chk_ok, cs_wr_ok, cs_up_eq]
  case false =>
    simp [f_X2_put, b_X2_put, cs_run, cs_L0, s_ret, s_retz, s_retv, s_seq, s_set, s_inc, s_put, s_ast, s_zst, s_cst, s_ada, s_if, s_ex, s_cv, s_nop, s_brk, x_ite, x_l, x_k, x_f, x_a, x_ro, x_add, x_sub, x_mul, x_div, x_rem, x_neg, x_call, x_max, x_min, x_abs, g_cons, g_nil, y_lt, y_le, y_gt, y_ge, y_eq, y_ne, y_not, y_and, y_or, y_ite, f_has, h]
theorem f_isPixel (x y : Int) (σ : cs_S) (hz : szJ (σ 10 0) (σ 10 1)) : f_X10_isPixel [x, y] σ = some (some (if inP (σ 10 0) (σ 10 1) x y then 1 else 0), σ) := by
  by_cases h1 : 0 ≤ x ∧ x ≤ σ 10 0 - 1
  · by_cases h2 : 0 ≤ y ∧ y ≤ σ 10 1 - 1
    · have h : inP (σ 10 0) (σ 10 1) x y = true := inP_iff.mpr (by omega)
      simp (disch := (first | omega | simp)) [f_X10_isPixel, b_X10_isPixel, cs_run, cs_L0, s_ret, s_retz, s_retv, s_seq, s_set, s_inc, s_put, s_ast, s_zst, s_cst, s_ada, s_if, s_ex, s_cv, s_nop, s_brk, x_ite, x_l, x_k, x_f, x_a, x_ro, x_add, x_sub, x_mul, x_div, x_rem, x_neg, x_call, x_max, x_min, x_abs, g_cons, g_nil, y_lt, y_le, y_gt, y_ge, y_eq, y_ne, y_not, y_and, y_or, y_ite, f_within, cs_chk_ok, h1, h2, h]
    · have h : inP (σ 10 0) (σ 10 1) x y = false := inP_not.mpr (by omega)
      simp (disch := (first | omega | simp)) [f_X10_isPixel, b_X10_isPixel, cs_run, cs_L0, s_ret, s_retz, s_retv, s_seq, s_set, s_inc, s_put, s_ast, s_zst, s_cst, s_ada, s_if, s_ex, s_cv, s_nop, s_brk, x_ite, x_l, x_k, x_f, x_a, x_ro, x_add, x_sub, x_mul, x_div, x_rem, x_neg, x_call, x_max, x_min, x_abs, g_cons, g_nil, y_lt, y_le, y_gt, y_ge, y_eq, y_ne, y_not, y_and, y_or, y_ite, f_within, cs_chk_ok, h1, h2, h]
  · have h : inP (σ 10 0) (σ 10 1) x y = false := inP_not.mpr (by omega)
    simp (disch := (first | omega | simp)) [f_X10_isPixel, b_X10_isPixel, cs_run, cs_L0, s_ret, s_retz, s_retv, s_seq, s_set, s_inc, s_put, s_ast, s_zst, s_cst, s_ada, s_if, s_ex, s_cv, s_nop, s_brk, x_ite, x_l, x_k, x_f, x_a, x_ro, x_add, x_sub, x_mul, x_div, x_rem, x_neg, x_call, x_max, x_min, x_abs, g_cons, g_nil, y_lt, y_le, y_gt, y_ge, y_eq, y_ne, y_not, y_and, y_or, y_ite, f_within, cs_chk_ok, h1, h]
theorem ix_comm (x y : Int) : (16 * y + x).toNat = ix x y := by unfold ix; congr 1; omega
theorem f_setR (x y v : Int) (σ : cs_S) (hz : szJ (σ 10 0) (σ 10 1)) : f_X10_set [x, y, v] σ = if inP (σ 10 0) (σ 10 1) x y ∧ 0 ≤ v ∧ v ≤ 9 then some (some (σ 28 (ix x y)), cs_set σ 28 (au (σ 28) (ix x y) v)) else some (some (-1003), σ) := by
  cases h : inP (σ 10 0) (σ 10 1) x y
  case true =>
    have hq := inP_iff.mp h
    by_cases h2 : 0 ≤ v ∧ v ≤ 9
    · simp (disch := (first | omega | simp)) [f_X10_set, b_X10_set, cs_run, cs_L0, s_ret, s_retz, s_retv, s_seq, s_set, s_inc, s_put, s_ast, s_zst, s_cst, s_ada, s_if, s_ex, s_cv, s_nop, s_brk, x_ite, x_l, x_k, x_f, x_a, x_ro, x_add, x_sub, x_mul, x_div, x_rem, x_neg, x_call, x_max, x_min, x_abs, g_cons, g_nil, y_lt, y_le, y_gt, y_ge, y_eq, y_ne, y_not, y_and, y_or, y_ite, f_isPixel x y σ hz, f_isLevelR, h, h2, cs_chk_ok, cs_rd_ok, cs_wr_ok, cs_up_eq, ix_comm]
    · simp [f_X10_set, b_X10_set, cs_run, cs_L0, s_ret, s_retz, s_retv, s_seq, s_set, s_inc, s_put, s_ast, s_zst, s_cst, s_ada, s_if, s_ex, s_cv, s_nop, s_brk, x_ite, x_l, x_k, x_f, x_a, x_ro, x_add, x_sub, x_mul, x_div, x_rem, x_neg, x_call, x_max, x_min, x_abs, g_cons, g_nil, y_lt, y_le, y_gt, y_ge, y_eq, y_ne, y_not, y_and, y_or, y_ite, f_isPixel x y σ hz, f_isLevelR, h, h2]
  case false =>
    simp [f_X10_set, b_X10_set, cs_run, cs_L0, s_ret, s_retz, s_retv, s_seq, s_set, s_inc, s_put, s_ast, s_zst, s_cst, s_ada, s_if, s_ex, s_cv, s_nop, s_brk, x_ite, x_l, x_k, x_f, x_a, x_ro, x_add, x_sub, x_mul, x_div, x_rem, x_neg, x_call, x_max, x_min, x_abs, g_cons, g_nil, y_lt, y_le, y_gt, y_ge, y_eq, y_ne, y_not, y_and, y_or, y_ite, f_isPixel x y σ hz, h]
theorem f_setC (x y v : Int) (σ : cs_S) (hz : szJ (σ 1 3) (σ 1 4)) : f_X9_set [x, y, v] σ = if inP (σ 1 3) (σ 1 4) x y ∧ 0 ≤ v ∧ v ≤ 9 then some (some (σ 11 (ix x y)), cs_set σ 11 (au (σ 11) (ix x y) v)) else some (some (-1003), σ) := by
  cases h : inP (σ 1 3) (σ 1 4) x y
  case true =>
    have hq := inP_iff.mp h
    by_cases h2 : 0 ≤ v ∧ v ≤ 9
    · simp [f_X9_set, b_X9_set, cs_run, cs_L0, s_ret, s_retz, s_retv, s_seq, s_set, s_inc, s_put, s_ast, s_zst, s_cst, s_ada, s_if, s_ex, s_cv, s_nop, s_brk, x_ite, x_l, x_k, x_f, x_a, x_ro, x_add, x_sub, x_mul, x_div, x_rem, x_neg, x_call, x_max, x_min, x_abs, g_cons, g_nil, y_lt, y_le, y_gt, y_ge, y_eq, y_ne, y_not, y_and, y_or, y_ite, f_has, f_isLevel, f_at x y σ hz, f_put x y v σ hz, h, h2]
    · simp [f_X9_set, b_X9_set, cs_run, cs_L0, s_ret, s_retz, s_retv, s_seq, s_set, s_inc, s_put, s_ast, s_zst, s_cst, s_ada, s_if, s_ex, s_cv, s_nop, s_brk, x_ite, x_l, x_k, x_f, x_a, x_ro, x_add, x_sub, x_mul, x_div, x_rem, x_neg, x_call, x_max, x_min, x_abs, g_cons, g_nil, y_lt, y_le, y_gt, y_ge, y_eq, y_ne, y_not, y_and, y_or, y_ite, f_has, f_isLevel, h, h2]
  case false =>
    simp [f_X9_set, b_X9_set, cs_run, cs_L0, s_ret, s_retz, s_retv, s_seq, s_set, s_inc, s_put, s_ast, s_zst, s_cst, s_ada, s_if, s_ex, s_cv, s_nop, s_brk, x_ite, x_l, x_k, x_f, x_a, x_ro, x_add, x_sub, x_mul, x_div, x_rem, x_neg, x_call, x_max, x_min, x_abs, g_cons, g_nil, y_lt, y_le, y_gt, y_ge, y_eq, y_ne, y_not, y_and, y_or, y_ite, f_has, h]
theorem f_levelC (x y : Int) (σ : cs_S) (hz : szJ (σ 1 3) (σ 1 4)) : f_X9_level [x, y] σ = some (some (if inP (σ 1 3) (σ 1 4) x y then σ 11 (ix x y) else -1003), σ) := by
  cases h : inP (σ 1 3) (σ 1 4) x y
  case true =>
    have hq := inP_iff.mp h
    simp [f_X9_level, b_X9_level, cs_run, cs_L0, s_ret, s_retz, s_retv, s_seq, s_set, s_inc, s_put, s_ast, s_zst, s_cst, s_ada, s_if, s_ex, s_cv, s_nop, s_brk, x_ite, x_l, x_k, x_f, x_a, x_ro, x_add, x_sub, x_mul, x_div, x_rem, x_neg, x_call, x_max, x_min, x_abs, g_cons, g_nil, y_lt, y_le, y_gt, y_ge, y_eq, y_ne, y_not, y_and, y_or, y_ite, f_has, f_at x y σ hz, h]
  case false =>
    simp [f_X9_level, b_X9_level, cs_run, cs_L0, s_ret, s_retz, s_retv, s_seq, s_set, s_inc, s_put, s_ast, s_zst, s_cst, s_ada, s_if, s_ex, s_cv, s_nop, s_brk, x_ite, x_l, x_k, x_f, x_a, x_ro, x_add, x_sub, x_mul, x_div, x_rem, x_neg, x_call, x_max, x_min, x_abs, g_cons, g_nil, y_lt, y_le, y_gt, y_ge, y_eq, y_ne, y_not, y_and, y_or, y_ite, f_has, h]
theorem f_levelR (x y : Int) (σ : cs_S) (hz : szJ (σ 10 0) (σ 10 1)) : f_X10_level [x, y] σ = some (some (if inP (σ 10 0) (σ 10 1) x y then σ 28 (ix x y) else -1003), σ) := by
  cases h : inP (σ 10 0) (σ 10 1) x y
  case true =>
    have hq := inP_iff.mp h
    simp (disch := (first | omega | simp)) [f_X10_level, b_X10_level, cs_run, cs_L0, s_ret, s_retz, s_retv, s_seq, s_set, s_inc, s_put, s_ast, s_zst, s_cst, s_ada, s_if, s_ex, s_cv, s_nop, s_brk, x_ite, x_l, x_k, x_f, x_a, x_ro, x_add, x_sub, x_mul, x_div, x_rem, x_neg, x_call, x_max, x_min, x_abs, g_cons, g_nil, y_lt, y_le, y_gt, y_ge, y_eq, y_ne, y_not, y_and, y_or, y_ite, f_isPixel x y σ hz, h, cs_chk_ok, cs_rd_ok, ix_comm]
  case false =>
    simp [f_X10_level, b_X10_level, cs_run, cs_L0, s_ret, s_retz, s_retv, s_seq, s_set, s_inc, s_put, s_ast, s_zst, s_cst, s_ada, s_if, s_ex, s_cv, s_nop, s_brk, x_ite, x_l, x_k, x_f, x_a, x_ro, x_add, x_sub, x_mul, x_div, x_rem, x_neg, x_call, x_max, x_min, x_abs, g_cons, g_nil, y_lt, y_le, y_gt, y_ge, y_eq, y_ne, y_not, y_and, y_or, y_ite, f_isPixel x y σ hz, h]
