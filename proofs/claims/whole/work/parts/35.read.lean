/-! reading the text -/
theorem rdL_I {w h : Int} {ch : Nat → Int} (hz : szJ w h) : ∀ (n : Nat) (i : Int) (s : rdT), rdI w h s → (match rdL w h ch n i s with
    | .inl r => i ≤ r.1 ∧ r.1 < i + n
    | .inr s' => rdI w h s')
  | 0, i, s, hI => hI
  | n + 1, i, s, hI => by
    unfold rdL
    cases hs : rdS w h (ch i.toNat) s with
    | none => exact ⟨by dsimp only; omega, by dsimp only; omega⟩
    | some s' =>
      have := rdL_I (ch := ch) hz n (i + 1) s' (rdS_I hz hI hs)
      dsimp only
      cases hr : rdL w h ch n (i + 1) s' with
      | inl r => rw [hr] at this; dsimp only at this ⊢; omega
      | inr s2 => rw [hr] at this; exact this
theorem faultIn_loop (τ : cs_S) (hz : szJ (τ 3 1) (τ 3 2)) (hl : τ 2 1 ≤ 200) (hch : ∀ k, 0 ≤ τ 13 k ∧ τ 13 k < 65536) : ∀ (n : Nat) (i : Int) (s : rdT), 0 ≤ i → τ 2 1 = i + n → rdI (τ 3 1) (τ 3 2) s →
    w_X4_faultIn_1 [none, none, none, some i] (rdC τ s) = match rdL (τ 3 1) (τ 3 2) (τ 13) n i s with
      | .inl r => some (.inr (.inl (some r.1, rdC τ r.2)))
      | .inr s' => some (.inl ([none, none, none, some (i + n)], rdC τ s'))
  | 0, i, s, h0, hn, hI => by
    have e1 : rdC τ s 2 1 = τ 2 1 := by simp [rdC, cs_set]
    have hlt : ¬ i < τ 2 1 := by omega
    unfold w_X4_faultIn_1
    rw [s_wh_eq]
    simp [wc_X4_faultIn_1, cs_run, cs_L0, s_ret, s_retz, s_retv, s_seq, s_set, s_inc, s_put, s_ast, s_zst, s_cst, s_ada, s_if, s_ex, s_cv, s_nop, s_brk, x_ite, x_l, x_k, x_f, x_a, x_ro, x_add, x_sub, x_mul, x_div, x_rem, x_neg, x_call, x_max, x_min, x_abs, g_cons, g_nil, y_lt, y_le, y_gt, y_ge, y_eq, y_ne, y_not, y_and, y_or, y_ite, e1, hlt, rdL]
  | n + 1, i, s, h0, hn, hI => by
    have e1 : rdC τ s 2 1 = τ 2 1 := by simp [rdC, cs_set]
    have e2 : rdC τ s 13 = τ 13 := by simp [rdC, cs_set]
    have hlt : i < τ 2 1 := by omega
    have hlt2 : i < 200 := by omega
    have hc : wc_X4_faultIn_1 [none, none, none, some i] (rdC τ s) = some (true, rdC τ s) := by
      simp [wc_X4_faultIn_1, cs_run, cs_L0, s_ret, s_retz, s_retv, s_seq, s_set, s_inc, s_put, s_ast, s_zst, s_cst, s_ada, s_if, s_ex, s_cv, s_nop, s_brk, x_ite, x_l, x_k, x_f, x_a, x_ro, x_add, x_sub, x_mul, x_div, x_rem, x_neg, x_call, x_max, x_min, x_abs, g_cons, g_nil, y_lt, y_le, y_gt, y_ge, y_eq, y_ne, y_not, y_and, y_or, y_ite, e1, hlt, hlt2]
    have hacc := f_acceptsC (τ 13 i.toNat) τ s hz (hch _) hI
    unfold w_X4_faultIn_1
    rw [s_wh_eq, hc]
    unfold rdL
    cases hs : rdS (τ 3 1) (τ 3 2) (τ 13 i.toNat) s with
    | none =>
      rw [hs] at hacc
      dsimp only at hacc
      simp (disch := (first | omega | simp)) [wb_X4_faultIn_1, cs_run, cs_L0, s_ret, s_retz, s_retv, s_seq, s_set, s_inc, s_put, s_ast, s_zst, s_cst, s_ada, s_if, s_ex, s_cv, s_nop, s_brk, x_ite, x_l, x_k, x_f, x_a, x_ro, x_add, x_sub, x_mul, x_div, x_rem, x_neg, x_call, x_max, x_min, x_abs, g_cons, g_nil, y_lt, y_le, y_gt, y_ge, y_eq, y_ne, y_not, y_and, y_or, y_ite, cs_rd_ok, e2, hacc]
    | some s' =>
      rw [hs] at hacc
      dsimp only at hacc
      have hb : wb_X4_faultIn_1 [none, none, none, some i] (rdC τ s) = some (.inl ([none, none, none, some (i + 1)], rdC τ s')) := by
        simp (disch := (first | omega | simp)) [wb_X4_faultIn_1, cs_run, cs_L0, s_ret, s_retz, s_retv, s_seq, s_set, s_inc, s_put, s_ast, s_zst, s_cst, s_ada, s_if, s_ex, s_cv, s_nop, s_brk, x_ite, x_l, x_k, x_f, x_a, x_ro, x_add, x_sub, x_mul, x_div, x_rem, x_neg, x_call, x_max, x_min, x_abs, g_cons, g_nil, y_lt, y_le, y_gt, y_ge, y_eq, y_ne, y_not, y_and, y_or, y_ite, cs_rd_ok, cs_chk_ok, e2, hacc]
      have ih := faultIn_loop τ hz hl hch n (i + 1) s' (by omega) (by omega) (rdS_I hz hI hs)
      unfold w_X4_faultIn_1 at ih
      simp only [Option.bind_some, if_true, hb, ih]
      rw [show i + 1 + (n : Int) = i + ((n + 1 : Nat) : Int) by omega]
def rd0 (a : Nat → Int) : rdT := (0, 0, 0, afl a 192 0)
theorem rd0_I {w h : Int} {a : Nat → Int} (hz : szJ w h) : rdI w h (rd0 a) := ⟨by simp [rd0]; omega, by simp [rd0]; omega, by simp [rd0]; omega, AJ_zero⟩
def rdB (σ : cs_S) : cs_S := cs_set σ 3 (au (au (σ 3) 1 (σ 1 3)) 2 (σ 1 4))
theorem f_faultC (σ : cs_S) (hz : szJ (σ 1 3) (σ 1 4)) (h0 : 0 ≤ σ 2 1) (hl : σ 2 1 ≤ 200) (hch : ∀ k, 0 ≤ σ 13 k ∧ σ 13 k < 65536) : f_X4_faultIn [] σ = match rdL (σ 1 3) (σ 1 4) (σ 13) (σ 2 1).toNat 0 (rd0 (σ 14)) with
    | .inl r => some (some r.1, rdC (rdB σ) r.2)
    | .inr s' => some (some (if 0 < s'.2.2.1 then σ 2 1 else -1), rdC (rdB σ) s') := by
  have e1 : rdB σ 3 1 = σ 1 3 := by simp [rdB, cs_set, au]
  have e2 : rdB σ 3 2 = σ 1 4 := by simp [rdB, cs_set, au]
  have e3 : rdB σ 2 = σ 2 := by simp [rdB, cs_set]
  have e4 : rdB σ 13 = σ 13 := by simp [rdB, cs_set]
  have hb : f_X4_begin [σ 1 3, σ 1 4] σ = some (none, rdC (rdB σ) (rd0 (σ 14))) := by
    simp [f_X4_begin, b_X4_begin, f_fill14, cs_run, cs_L0, s_ret, s_retz, s_retv, s_seq, s_set, s_inc, s_put, s_ast, s_zst, s_cst, s_ada, s_if, s_ex, s_cv, s_nop, s_brk, x_ite, x_l, x_k, x_f, x_a, x_ro, x_add, x_sub, x_mul, x_div, x_rem, x_neg, x_call, x_max, x_min, x_abs, g_cons, g_nil, y_lt, y_le, y_gt, y_ge, y_eq, y_ne, y_not, y_and, y_or, y_ite, cs_up_eq, cs_set_at, cs_set_set, cs_set_ne, rdC, rdB, rd0]
  have hw := faultIn_loop (rdB σ) (by rw [e1, e2]; exact hz) (by rw [e3]; exact hl) (by rw [e4]; exact hch) (σ 2 1).toNat 0 (rd0 (σ 14)) (by omega) (by rw [e3]; omega) (by rw [e1, e2]; exact rd0_I hz)
  rw [e1, e2, e4] at hw
  cases hr : rdL (σ 1 3) (σ 1 4) (σ 13) (σ 2 1).toNat 0 (rd0 (σ 14)) with
  | inl r =>
    rw [hr] at hw
    dsimp only at hw
    simp [f_X4_faultIn, b_X4_faultIn, cs_run, cs_L0, s_ret, s_retz, s_retv, s_seq, s_set, s_inc, s_put, s_ast, s_zst, s_cst, s_ada, s_if, s_ex, s_cv, s_nop, s_brk, x_ite, x_l, x_k, x_f, x_a, x_ro, x_add, x_sub, x_mul, x_div, x_rem, x_neg, x_call, x_max, x_min, x_abs, g_cons, g_nil, y_lt, y_le, y_gt, y_ge, y_eq, y_ne, y_not, y_and, y_or, y_ite, hb, hw]
  | inr s' =>
    rw [hr] at hw
    dsimp only at hw
    have e5 : rdC (rdB σ) s' 3 5 = s'.2.2.1 := by simp [rdC, cs_set, au]
    have e6 : rdC (rdB σ) s' 2 1 = σ 2 1 := by simp [rdC, cs_set, rdB]
    by_cases hn : 0 < s'.2.2.1
    · simp [f_X4_faultIn, b_X4_faultIn, cs_run, cs_L0, s_ret, s_retz, s_retv, s_seq, s_set, s_inc, s_put, s_ast, s_zst, s_cst, s_ada, s_if, s_ex, s_cv, s_nop, s_brk, x_ite, x_l, x_k, x_f, x_a, x_ro, x_add, x_sub, x_mul, x_div, x_rem, x_neg, x_call, x_max, x_min, x_abs, g_cons, g_nil, y_lt, y_le, y_gt, y_ge, y_eq, y_ne, y_not, y_and, y_or, y_ite, hb, hw, e5, e6, hn]
    · simp [f_X4_faultIn, b_X4_faultIn, cs_run, cs_L0, s_ret, s_retz, s_retv, s_seq, s_set, s_inc, s_put, s_ast, s_zst, s_cst, s_ada, s_if, s_ex, s_cv, s_nop, s_brk, x_ite, x_l, x_k, x_f, x_a, x_ro, x_add, x_sub, x_mul, x_div, x_rem, x_neg, x_call, x_max, x_min, x_abs, g_cons, g_nil, y_lt, y_le, y_gt, y_ge, y_eq, y_ne, y_not, y_and, y_or, y_ite, hb, hw, e5, e6, hn]
