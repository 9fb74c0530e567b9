/-! filling rows of ints -/
theorem f_fill11 (v : Int) (σ : cs_S) : f_J7_fill_11 [v] σ = some (none, cs_set σ 11 (afl (σ 11) 192 v)) := by
  have hw : w_J7_fill_11_1 [none, some v, some 0, some 192] σ = some (.inl ([none, some v, some 192, some 192], cs_set σ 11 (afl (σ 11) 192 v))) := by
    have h := wh_for (c := wc_J7_fill_11_1) (b := wb_J7_fill_11_1) (fun k (_ : Nat → Int) => [none, some v, some k, some 192]) (fun a => cs_set σ 11 a) (fun k a => au a k.toNat v) (fun k a => 0 ≤ k ∧ a = afl (σ 11) k.toNat v) 192
      (fun k a hI => by simp [wc_J7_fill_11_1, cs_run, cs_L0, s_ret, s_retz, s_retv, s_seq, s_set, s_inc, s_put, s_ast, s_zst, s_cst, s_ada, s_if, s_ex, s_cv, s_nop, s_brk, x_ite, x_l, x_k, x_f, x_a, x_ro, x_add, x_sub, x_mul, x_div, x_rem, x_neg, x_call, x_max, x_min, x_abs, g_cons, g_nil, y_lt, y_le, y_gt, y_ge, y_eq, y_ne, y_not, y_and, y_or, y_ite])
      (fun k a hI hk => by
        obtain ⟨h0, rfl⟩ := hI
        refine ⟨?_, by omega, ?_⟩
        · simp (disch := (first | omega | simp)) [wb_J7_fill_11_1, cs_run, cs_L0, s_ret, s_retz, s_retv, s_seq, s_set, s_inc, s_put, s_ast, s_zst, s_cst, s_ada, s_if, s_ex, s_cv, s_nop, s_brk, x_ite, x_l, x_k, x_f, x_a, x_ro, x_add, x_sub, x_mul, x_div, x_rem, x_neg, x_call, x_max, x_min, x_abs, g_cons, g_nil, y_lt, y_le, y_gt, y_ge, y_eq, y_ne, y_not, y_and, y_or, y_ite, cs_wr_ok, cs_chk_ok, cs_up_eq, cs_set_at, cs_set_set]
        · rw [afl_s, show (k + 1).toNat = k.toNat + 1 by omega])
      192 0 (σ 11) ⟨by omega, by simp [afl_0]⟩ (by omega)
    obtain ⟨h1, h2, h3⟩ := h
    rw [cs_set_self] at h1
    unfold w_J7_fill_11_1
    rw [h1, h3]
    simp
  simp [f_J7_fill_11, b_J7_fill_11, cs_run, cs_L0, s_ret, s_retz, s_retv, s_seq, s_set, s_inc, s_put, s_ast, s_zst, s_cst, s_ada, s_if, s_ex, s_cv, s_nop, s_brk, x_ite, x_l, x_k, x_f, x_a, x_ro, x_add, x_sub, x_mul, x_div, x_rem, x_neg, x_call, x_max, x_min, x_abs, g_cons, g_nil, y_lt, y_le, y_gt, y_ge, y_eq, y_ne, y_not, y_and, y_or, y_ite, hw]
theorem f_fill24 (v : Int) (σ : cs_S) : f_J7_fill_24 [v] σ = some (none, cs_set σ 24 (afl (σ 24) 221 v)) := by
  have hw : w_J7_fill_24_1 [none, some v, some 0, some 221] σ = some (.inl ([none, some v, some 221, some 221], cs_set σ 24 (afl (σ 24) 221 v))) := by
    have h := wh_for (c := wc_J7_fill_24_1) (b := wb_J7_fill_24_1) (fun k (_ : Nat → Int) => [none, some v, some k, some 221]) (fun a => cs_set σ 24 a) (fun k a => au a k.toNat v) (fun k a => 0 ≤ k ∧ a = afl (σ 24) k.toNat v) 221
      (fun k a hI => by simp [wc_J7_fill_24_1, cs_run, cs_L0, s_ret, s_retz, s_retv, s_seq, s_set, s_inc, s_put, s_ast, s_zst, s_cst, s_ada, s_if, s_ex, s_cv, s_nop, s_brk, x_ite, x_l, x_k, x_f, x_a, x_ro, x_add, x_sub, x_mul, x_div, x_rem, x_neg, x_call, x_max, x_min, x_abs, g_cons, g_nil, y_lt, y_le, y_gt, y_ge, y_eq, y_ne, y_not, y_and, y_or, y_ite])
      (fun k a hI hk => by
        obtain ⟨h0, rfl⟩ := hI
        refine ⟨?_, by omega, ?_⟩
        · simp (disch := (first | omega | simp)) [wb_J7_fill_24_1, cs_run, cs_L0, s_ret, s_retz, s_retv, s_seq, s_set, s_inc, s_put, s_ast, s_zst, s_cst, s_ada, s_if, s_ex, s_cv, s_nop, s_brk, x_ite, x_l, x_k, x_f, x_a, x_ro, x_add, x_sub, x_mul, x_div, x_rem, x_neg, x_call, x_max, x_min, x_abs, g_cons, g_nil, y_lt, y_le, y_gt, y_ge, y_eq, y_ne, y_not, y_and, y_or, y_ite, cs_wr_ok, cs_chk_ok, cs_up_eq, cs_set_at, cs_set_set]
        · rw [afl_s, show (k + 1).toNat = k.toNat + 1 by omega])
      221 0 (σ 24) ⟨by omega, by simp [afl_0]⟩ (by omega)
    obtain ⟨h1, h2, h3⟩ := h
    rw [cs_set_self] at h1
    unfold w_J7_fill_24_1
    rw [h1, h3]
    simp
  simp [f_J7_fill_24, b_J7_fill_24, cs_run, cs_L0, s_ret, s_retz, s_retv, s_seq, s_set, s_inc, s_put, s_ast, s_zst, s_cst, s_ada, s_if, s_ex, s_cv, s_nop, s_brk, x_ite, x_l, x_k, x_f, x_a, x_ro, x_add, x_sub, x_mul, x_div, x_rem, x_neg, x_call, x_max, x_min, x_abs, g_cons, g_nil, y_lt, y_le, y_gt, y_ge, y_eq, y_ne, y_not, y_and, y_or, y_ite, hw]
theorem f_fill14 (v : Int) (σ : cs_S) : f_J7_fill_14 [v] σ = some (none, cs_set σ 14 (afl (σ 14) 192 v)) := by
  have hw : w_J7_fill_14_1 [none, some v, some 0, some 192] σ = some (.inl ([none, some v, some 192, some 192], cs_set σ 14 (afl (σ 14) 192 v))) := by
    have h := wh_for (c := wc_J7_fill_14_1) (b := wb_J7_fill_14_1) (fun k (_ : Nat → Int) => [none, some v, some k, some 192]) (fun a => cs_set σ 14 a) (fun k a => au a k.toNat v) (fun k a => 0 ≤ k ∧ a = afl (σ 14) k.toNat v) 192
      (fun k a hI => by simp [wc_J7_fill_14_1, cs_run, cs_L0, s_ret, s_retz, s_retv, s_seq, s_set, s_inc, s_put, s_ast, s_zst, s_cst, s_ada, s_if, s_ex, s_cv, s_nop, s_brk, x_ite, x_l, x_k, x_f, x_a, x_ro, x_add, x_sub, x_mul, x_div, x_rem, x_neg, x_call, x_max, x_min, x_abs, g_cons, g_nil, y_lt, y_le, y_gt, y_ge, y_eq, y_ne, y_not, y_and, y_or, y_ite])
      (fun k a hI hk => by
        obtain ⟨h0, rfl⟩ := hI
        refine ⟨?_, by omega, ?_⟩
        · simp (disch := (first | omega | simp)) [wb_J7_fill_14_1, cs_run, cs_L0, s_ret, s_retz, s_retv, s_seq, s_set, s_inc, s_put, s_ast, s_zst, s_cst, s_ada, s_if, s_ex, s_cv, s_nop, s_brk, x_ite, x_l, x_k, x_f, x_a, x_ro, x_add, x_sub, x_mul, x_div, x_rem, x_neg, x_call, x_max, x_min, x_abs, g_cons, g_nil, y_lt, y_le, y_gt, y_ge, y_eq, y_ne, y_not, y_and, y_or, y_ite, cs_wr_ok, cs_chk_ok, cs_up_eq, cs_set_at, cs_set_set]
        · rw [afl_s, show (k + 1).toNat = k.toNat + 1 by omega])
      192 0 (σ 14) ⟨by omega, by simp [afl_0]⟩ (by omega)
    obtain ⟨h1, h2, h3⟩ := h
    rw [cs_set_self] at h1
    unfold w_J7_fill_14_1
    rw [h1, h3]
    simp
  simp [f_J7_fill_14, b_J7_fill_14, cs_run, cs_L0, s_ret, s_retz, s_retv, s_seq, s_set, s_inc, s_put, s_ast, s_zst, s_cst, s_ada, s_if, s_ex, s_cv, s_nop, s_brk, x_ite, x_l, x_k, x_f, x_a, x_ro, x_add, x_sub, x_mul, x_div, x_rem, x_neg, x_call, x_max, x_min, x_abs, g_cons, g_nil, y_lt, y_le, y_gt, y_ge, y_eq, y_ne, y_not, y_and, y_or, y_ite, hw]
/-- both sides without contours and steps -/
def dropC (σ : cs_S) : cs_S := cs_set (cs_set (cs_set σ 4 (au (au (au (au (σ 4) 0 0) 1 0) 2 0) 3 0)) 24 (afl (σ 24) 221 0)) 8 (au (au (σ 8) 1 0) 2 0)
theorem f_dropC (σ : cs_S) : f_X9_dropContours [] σ = some (none, dropC σ) := by
  simp [f_X9_dropContours, b_X9_dropContours, f_X1_clear, b_X1_clear, f_X6_clear, b_X6_clear, f_fill24, cs_run, cs_L0, s_ret, s_retz, s_retv, s_seq, s_set, s_inc, s_put, s_ast, s_zst, s_cst, s_ada, s_if, s_ex, s_cv, s_nop, s_brk, x_ite, x_l, x_k, x_f, x_a, x_ro, x_add, x_sub, x_mul, x_div, x_rem, x_neg, x_call, x_max, x_min, x_abs, g_cons, g_nil, y_lt, y_le, y_gt, y_ge, y_eq, y_ne, y_not, y_and, y_or, y_ite, cs_up_eq, cs_set_at, cs_set_set, cs_set_ne, dropC]
def dropR (σ : cs_S) : cs_S := cs_set σ 10 (au (au (au (au (σ 10) 7 0) 8 0) 19 0) 9 0)
theorem f_dropR (σ : cs_S) : f_X10_noContours [] σ = some (none, dropR σ) := by
  simp [f_X10_noContours, b_X10_noContours, cs_run, cs_L0, s_ret, s_retz, s_retv, s_seq, s_set, s_inc, s_put, s_ast, s_zst, s_cst, s_ada, s_if, s_ex, s_cv, s_nop, s_brk, x_ite, x_l, x_k, x_f, x_a, x_ro, x_add, x_sub, x_mul, x_div, x_rem, x_neg, x_call, x_max, x_min, x_abs, g_cons, g_nil, y_lt, y_le, y_gt, y_ge, y_eq, y_ne, y_not, y_and, y_or, y_ite, cs_up_eq, cs_set_at, cs_set_set, dropR]
theorem f_resetC (w h : Int) (σ : cs_S) : f_X9_reset [w, h] σ = if szJ w h then some (some (w * h), dropC (cs_set (cs_set σ 1 (au (au (σ 1) 3 w) 4 h)) 11 (afl (σ 11) 192 0))) else some (some (-1003), σ) := by
  by_cases h1 : 3 ≤ w ∧ w ≤ 16
  · by_cases h2 : 3 ≤ h ∧ h ≤ 12
    · have hz : szJ w h := by omega
      have hm : cs_InR (w * h) := by
        have : w * h ≤ 16 * 12 := Int.mul_le_mul (by omega) (by omega) (by omega) (by omega)
        have : 0 ≤ w * h := Int.mul_nonneg (by omega) (by omega)
        omega
      rw [if_pos hz]
      simp [f_X9_reset, b_X9_reset, f_X2_start, b_X2_start, f_fill11, f_dropC, f_isWithin, cs_run, cs_L0, s_ret, s_retz, s_retv, s_seq, s_set, s_inc, s_put, s_ast, s_zst, s_cst, s_ada, s_if, s_ex, s_cv, s_nop, s_brk, x_ite, x_l, x_k, x_f, x_a, x_ro, x_add, x_sub, x_mul, x_div, x_rem, x_neg, x_call, x_max, x_min, x_abs, g_cons, g_nil, y_lt, y_le, y_gt, y_ge, y_eq, y_ne, y_not, y_and, y_or, y_ite, h1, h2, cs_chk_ok hm, cs_up_eq, cs_set_at, cs_set_set, cs_set_ne]
    · have hz : ¬ szJ w h := by omega
      rw [if_neg hz]
      simp [f_X9_reset, b_X9_reset, f_isWithin, cs_run, cs_L0, s_ret, s_retz, s_retv, s_seq, s_set, s_inc, s_put, s_ast, s_zst, s_cst, s_ada, s_if, s_ex, s_cv, s_nop, s_brk, x_ite, x_l, x_k, x_f, x_a, x_ro, x_add, x_sub, x_mul, x_div, x_rem, x_neg, x_call, x_max, x_min, x_abs, g_cons, g_nil, y_lt, y_le, y_gt, y_ge, y_eq, y_ne, y_not, y_and, y_or, y_ite, h1, h2]
  · have hz : ¬ szJ w h := by omega
    rw [if_neg hz]
    simp [f_X9_reset, b_X9_reset, f_isWithin, cs_run, cs_L0, s_ret, s_retz, s_retv, s_seq, s_set, s_inc, s_put, s_ast, s_zst, s_cst, s_ada, s_if, s_ex, s_cv, s_nop, s_brk, x_ite, x_l, x_k, x_f, x_a, x_ro, x_add, x_sub, x_mul, x_div, x_rem, x_neg, x_call, x_max, x_min, x_abs, g_cons, g_nil, y_lt, y_le, y_gt, y_ge, y_eq, y_ne, y_not, y_and, y_or, y_ite, h1]
theorem f_resetR (w h : Int) (σ : cs_S) : f_X10_reset [w, h] σ = if szJ w h then some (some (w * h), dropR (cs_set (cs_set σ 10 (au (au (σ 10) 0 w) 1 h)) 28 (afl (σ 28) 192 0))) else some (some (-1003), σ) := by
  by_cases h1 : 3 ≤ w ∧ w ≤ 16
  · by_cases h2 : 3 ≤ h ∧ h ≤ 12
    · have hz : szJ w h := by omega
      have hm : cs_InR (w * h) := by
        have : w * h ≤ 16 * 12 := Int.mul_le_mul (by omega) (by omega) (by omega) (by omega)
        have : 0 ≤ w * h := Int.mul_nonneg (by omega) (by omega)
        omega
      rw [if_pos hz]
      have hw : ∀ τ : cs_S, w_X10_reset_1 [none, some w, some h, some 0] τ = some (.inl ([none, some w, some h, some 192], cs_set τ 28 (afl (τ 28) 192 0))) := by
        intro τ
        have h := wh_for (c := wc_X10_reset_1) (b := wb_X10_reset_1) (fun k (_ : Nat → Int) => [none, some w, some h, some k]) (fun a => cs_set τ 28 a) (fun k a => au a k.toNat 0) (fun k a => 0 ≤ k ∧ a = afl (τ 28) k.toNat 0) 192
          (fun k a hI => by simp [wc_X10_reset_1, cs_run, cs_L0, s_ret, s_retz, s_retv, s_seq, s_set, s_inc, s_put, s_ast, s_zst, s_cst, s_ada, s_if, s_ex, s_cv, s_nop, s_brk, x_ite, x_l, x_k, x_f, x_a, x_ro, x_add, x_sub, x_mul, x_div, x_rem, x_neg, x_call, x_max, x_min, x_abs, g_cons, g_nil, y_lt, y_le, y_gt, y_ge, y_eq, y_ne, y_not, y_and, y_or, y_ite])
          (fun k a hI hk => by
            obtain ⟨h0, rfl⟩ := hI
            refine ⟨?_, by omega, ?_⟩
            · simp (disch := (first | omega | simp)) [wb_X10_reset_1, cs_run, cs_L0, s_ret, s_retz, s_retv, s_seq, s_set, s_inc, s_put, s_ast, s_zst, s_cst, s_ada, s_if, s_ex, s_cv, s_nop, s_brk, x_ite, x_l, x_k, x_f, x_a, x_ro, x_add, x_sub, x_mul, x_div, x_rem, x_neg, x_call, x_max, x_min, x_abs, g_cons, g_nil, y_lt, y_le, y_gt, y_ge, y_eq, y_ne, y_not, y_and, y_or, y_ite, cs_wr_ok, cs_chk_ok, cs_up_eq, cs_set_at, cs_set_set]
            · rw [afl_s, show (k + 1).toNat = k.toNat + 1 by omega])
          192 0 (τ 28) ⟨by omega, by simp [afl_0]⟩ (by omega)
        obtain ⟨h1, h2, h3⟩ := h
        rw [cs_set_self] at h1
        unfold w_X10_reset_1
        rw [h1, h3]
        simp
      simp [f_X10_reset, b_X10_reset, f_dropR, f_within, hw, cs_run, cs_L0, s_ret, s_retz, s_retv, s_seq, s_set, s_inc, s_put, s_ast, s_zst, s_cst, s_ada, s_if, s_ex, s_cv, s_nop, s_brk, x_ite, x_l, x_k, x_f, x_a, x_ro, x_add, x_sub, x_mul, x_div, x_rem, x_neg, x_call, x_max, x_min, x_abs, g_cons, g_nil, y_lt, y_le, y_gt, y_ge, y_eq, y_ne, y_not, y_and, y_or, y_ite, h1, h2, cs_chk_ok hm, cs_up_eq, cs_set_at, cs_set_set, cs_set_ne]
    · have hz : ¬ szJ w h := by omega
      rw [if_neg hz]
      simp [f_X10_reset, b_X10_reset, f_within, cs_run, cs_L0, s_ret, s_retz, s_retv, s_seq, s_set, s_inc, s_put, s_ast, s_zst, s_cst, s_ada, s_if, s_ex, s_cv, s_nop, s_brk, x_ite, x_l, x_k, x_f, x_a, x_ro, x_add, x_sub, x_mul, x_div, x_rem, x_neg, x_call, x_max, x_min, x_abs, g_cons, g_nil, y_lt, y_le, y_gt, y_ge, y_eq, y_ne, y_not, y_and, y_or, y_ite, h1, h2]
  · have hz : ¬ szJ w h := by omega
    rw [if_neg hz]
    simp [f_X10_reset, b_X10_reset, f_within, cs_run, cs_L0, s_ret, s_retz, s_retv, s_seq, s_set, s_inc, s_put, s_ast, s_zst, s_cst, s_ada, s_if, s_ex, s_cv, s_nop, s_brk, x_ite, x_l, x_k, x_f, x_a, x_ro, x_add, x_sub, x_mul, x_div, x_rem, x_neg, x_call, x_max, x_min, x_abs, g_cons, g_nil, y_lt, y_le, y_gt, y_ge, y_eq, y_ne, y_not, y_and, y_or, y_ite, h1]
