/-! the reference's reading -/
theorem reads_run (σ : cs_S) (y n i c e : Int) (hy : 0 ≤ y ∧ y < 12) (hc : 97 ≤ c ∧ c ≤ 106) (he : e ≤ 16) : ∀ (m : Nat) (x : Int) (a : Nat → Int), 0 ≤ x → e = x + m →
    w_X10_reads_2 [none, some x, some y, some n, some i, some c, some e] (cs_set σ 31 a) = some (.inl ([none, some e, some y, some n, some i, some c, some e], cs_set σ 31 (arun a (ix x y) m (c - 97)))) := by
  intro m x a hx hm
  have hh := wh_for (c := wc_X10_reads_2) (b := wb_X10_reads_2) (fun k (_ : Nat → Int) => [none, some k, some y, some n, some i, some c, some e]) (fun b => cs_set σ 31 b) (fun k b => au b (ix k y) (c - 97)) (fun k b => x ≤ k ∧ b = arun a (ix x y) (k - x).toNat (c - 97)) e
    (fun k b hI => by simp [wc_X10_reads_2, cs_run, cs_L0, s_ret, s_retz, s_retv, s_seq, s_set, s_inc, s_put, s_ast, s_zst, s_cst, s_ada, s_if, s_ex, s_cv, s_nop, s_brk, x_ite, x_l, x_k, x_f, x_a, x_ro, x_add, x_sub, x_mul, x_div, x_rem, x_neg, x_call, x_max, x_min, x_abs, g_cons, g_nil, y_lt, y_le, y_gt, y_ge, y_eq, y_ne, y_not, y_and, y_or, y_ite])
    (fun k b hI hk => by
      obtain ⟨q1, rfl⟩ := hI
      refine ⟨?_, by omega, ?_⟩
      · simp (disch := (first | omega | simp)) [wb_X10_reads_2, cs_run, cs_L0, s_ret, s_retz, s_retv, s_seq, s_set, s_inc, s_put, s_ast, s_zst, s_cst, s_ada, s_if, s_ex, s_cv, s_nop, s_brk, x_ite, x_l, x_k, x_f, x_a, x_ro, x_add, x_sub, x_mul, x_div, x_rem, x_neg, x_call, x_max, x_min, x_abs, g_cons, g_nil, y_lt, y_le, y_gt, y_ge, y_eq, y_ne, y_not, y_and, y_or, y_ite, cs_chk_ok, cs_wr_ok, cs_up_eq, cs_set_at, cs_set_set, ix_comm]
      · have : ix k y = ix x y + (k - x).toNat := by unfold ix; omega
        rw [this, arun_s]
        congr 1
        omega)
    m x a ⟨by omega, by simp [arun_0]⟩ (by omega)
  obtain ⟨r1, -, r2⟩ := hh
  unfold w_X10_reads_2
  rw [r1, r2, show (e - x).toNat = m by omega]
theorem reads_body (τ : cs_S) (hz : szJ (τ 10 0) (τ 10 1)) (i c y x m : Int) (a : Nat → Int) (o5 o6 : Option Int) (h0 : 0 ≤ i) (hlt2 : i < 200) (hcc : 0 ≤ c ∧ c < 65536) (hcv : τ 30 i.toNat = c) (h1 : 0 ≤ y ∧ y < τ 10 1) (h2 : 0 ≤ x ∧ x ≤ τ 10 0) (h3 : 0 ≤ m ∧ m ≤ τ 10 0 - x) : ∃ o6', match rdS (τ 10 0) (τ 10 1) c (y, x, m, a) with
        | none => wb_X10_reads_3 [none, some x, some y, some m, some i, o5, o6] (cs_set τ 31 a) = some (.inr (.inl (some i, cs_set τ 31 a)))
        | some s' => wb_X10_reads_3 [none, some x, some y, some m, some i, o5, o6] (cs_set τ 31 a) = some (.inl ([none, some s'.2.1, some s'.1, some s'.2.2.1, some (i + 1), some c, o6'], cs_set τ 31 s'.2.2.2)) := by
      have k10 : cs_set τ 31 a 10 = τ 10 := cs_set_ne (by decide)
      have k30 : cs_set τ 31 a 30 = τ 30 := cs_set_ne (by decide)
      unfold rdS
      dsimp only
      by_cases c1 : c = 47
      · refine ⟨o6, ?_⟩
        rw [if_pos c1]
        by_cases g : 0 < m ∨ τ 10 1 ≤ y + 1
        · rw [if_pos g]
          dsimp only
          by_cases g2 : 0 < m
          · simp (disch := omega) only [cs_run, cs_L0, s_ret, s_retz, s_retv, s_seq, s_set, s_inc, s_put, s_ast, s_zst, s_cst, s_ada, s_if, s_ex, s_cv, s_nop, s_brk, x_ite, x_l, x_k, x_f, x_a, x_ro, x_add, x_sub, x_mul, x_div, x_rem, x_neg, x_call, x_max, x_min, x_abs, g_cons, g_nil, y_lt, y_le, y_gt, y_ge, y_eq, y_ne, y_not, y_and, y_or, y_ite, Option.bind_some, Option.bind_none, List.getElem?_cons_zero, List.getElem?_cons_succ, List.getElem?_nil, List.set_cons_zero, List.set_cons_succ, List.cons_append, List.nil_append, List.append_nil, List.replicate, List.length_cons, List.length_nil, Nat.reduceAdd, Nat.reduceSub, Nat.zero_add, Nat.sub_self, if_true, if_false, ite_true, ite_false, reduceIte, reduceCtorEq, decide_true, decide_false, decide_eq_true_eq, Bool.not_true, Bool.not_false, Bool.true_and, Bool.false_and, Bool.and_true, Bool.and_false, Bool.true_or, Bool.false_or, Bool.false_eq_true, Bool.true_eq_false, not_true_eq_false, not_false_eq_true, ne_eq, Int.reduceEq, Int.reduceNe, Int.reduceLT, Int.reduceLE, and_self, and_true, true_and, and_false, false_and, or_true, true_or, or_false, false_or, true_or, Option.map_some, cs_chk_ok, cs_rd_ok, cs_wr_ok, wb_X10_reads_3, k10, k30, hcv, c1, g2]
          · have g3 : y = τ 10 1 - 1 := by omega
            have g4 : ¬ 0 < m := g2
            simp (disch := omega) only [cs_run, cs_L0, s_ret, s_retz, s_retv, s_seq, s_set, s_inc, s_put, s_ast, s_zst, s_cst, s_ada, s_if, s_ex, s_cv, s_nop, s_brk, x_ite, x_l, x_k, x_f, x_a, x_ro, x_add, x_sub, x_mul, x_div, x_rem, x_neg, x_call, x_max, x_min, x_abs, g_cons, g_nil, y_lt, y_le, y_gt, y_ge, y_eq, y_ne, y_not, y_and, y_or, y_ite, Option.bind_some, Option.bind_none, List.getElem?_cons_zero, List.getElem?_cons_succ, List.getElem?_nil, List.set_cons_zero, List.set_cons_succ, List.cons_append, List.nil_append, List.append_nil, List.replicate, List.length_cons, List.length_nil, Nat.reduceAdd, Nat.reduceSub, Nat.zero_add, Nat.sub_self, if_true, if_false, ite_true, ite_false, reduceIte, reduceCtorEq, decide_true, decide_false, decide_eq_true_eq, Bool.not_true, Bool.not_false, Bool.true_and, Bool.false_and, Bool.and_true, Bool.and_false, Bool.true_or, Bool.false_or, Bool.false_eq_true, Bool.true_eq_false, not_true_eq_false, not_false_eq_true, ne_eq, Int.reduceEq, Int.reduceNe, Int.reduceLT, Int.reduceLE, and_self, and_true, true_and, and_false, false_and, or_true, true_or, or_false, false_or, true_or, Option.map_some, cs_chk_ok, cs_rd_ok, cs_wr_ok, wb_X10_reads_3, k10, k30, hcv, c1, g4, ← g3]
        · rw [if_neg g]
          dsimp only
          have g2 : ¬ 0 < m := fun q => g (Or.inl q)
          have g3 : ¬ y = τ 10 1 - 1 := by omega
          simp (disch := omega) only [cs_run, cs_L0, s_ret, s_retz, s_retv, s_seq, s_set, s_inc, s_put, s_ast, s_zst, s_cst, s_ada, s_if, s_ex, s_cv, s_nop, s_brk, x_ite, x_l, x_k, x_f, x_a, x_ro, x_add, x_sub, x_mul, x_div, x_rem, x_neg, x_call, x_max, x_min, x_abs, g_cons, g_nil, y_lt, y_le, y_gt, y_ge, y_eq, y_ne, y_not, y_and, y_or, y_ite, Option.bind_some, Option.bind_none, List.getElem?_cons_zero, List.getElem?_cons_succ, List.getElem?_nil, List.set_cons_zero, List.set_cons_succ, List.cons_append, List.nil_append, List.append_nil, List.replicate, List.length_cons, List.length_nil, Nat.reduceAdd, Nat.reduceSub, Nat.zero_add, Nat.sub_self, if_true, if_false, ite_true, ite_false, reduceIte, reduceCtorEq, decide_true, decide_false, decide_eq_true_eq, Bool.not_true, Bool.not_false, Bool.true_and, Bool.false_and, Bool.and_true, Bool.and_false, Bool.true_or, Bool.false_or, Bool.false_eq_true, Bool.true_eq_false, not_true_eq_false, not_false_eq_true, ne_eq, Int.reduceEq, Int.reduceNe, Int.reduceLT, Int.reduceLE, and_self, and_true, true_and, and_false, false_and, or_true, true_or, or_false, false_or, true_or, Option.map_some, cs_chk_ok, cs_rd_ok, cs_wr_ok, wb_X10_reads_3, k10, k30, hcv, c1, g2, g3]
      · rw [if_neg c1]
        by_cases c2 : 48 ≤ c ∧ c ≤ 57
        · refine ⟨o6, ?_⟩
          rw [if_pos c2]
          have e : 10 * m + c - 48 = 10 * m + (c - 48) := by omega
          by_cases g : 1 ≤ 10 * m + (c - 48) ∧ 10 * m + (c - 48) ≤ τ 10 0 - x
          · rw [if_pos g]
            dsimp only
            have g2 : ¬ 10 * m + (c - 48) = 0 := by omega
            have g3 : ¬ τ 10 0 - x < 10 * m + (c - 48) := by omega
            simp (disch := omega) only [cs_run, cs_L0, s_ret, s_retz, s_retv, s_seq, s_set, s_inc, s_put, s_ast, s_zst, s_cst, s_ada, s_if, s_ex, s_cv, s_nop, s_brk, x_ite, x_l, x_k, x_f, x_a, x_ro, x_add, x_sub, x_mul, x_div, x_rem, x_neg, x_call, x_max, x_min, x_abs, g_cons, g_nil, y_lt, y_le, y_gt, y_ge, y_eq, y_ne, y_not, y_and, y_or, y_ite, Option.bind_some, Option.bind_none, List.getElem?_cons_zero, List.getElem?_cons_succ, List.getElem?_nil, List.set_cons_zero, List.set_cons_succ, List.cons_append, List.nil_append, List.append_nil, List.replicate, List.length_cons, List.length_nil, Nat.reduceAdd, Nat.reduceSub, Nat.zero_add, Nat.sub_self, if_true, if_false, ite_true, ite_false, reduceIte, reduceCtorEq, decide_true, decide_false, decide_eq_true_eq, Bool.not_true, Bool.not_false, Bool.true_and, Bool.false_and, Bool.and_true, Bool.and_false, Bool.true_or, Bool.false_or, Bool.false_eq_true, Bool.true_eq_false, not_true_eq_false, not_false_eq_true, ne_eq, Int.reduceEq, Int.reduceNe, Int.reduceLT, Int.reduceLE, and_self, and_true, true_and, and_false, false_and, or_true, true_or, or_false, false_or, true_or, Option.map_some, cs_chk_ok, cs_rd_ok, cs_wr_ok, wb_X10_reads_3, k10, k30, hcv, c1, c2, f_within, e, g2, g3]
          · rw [if_neg g]
            dsimp only
            by_cases g2 : 10 * m + (c - 48) = 0
            · simp (disch := omega) only [cs_run, cs_L0, s_ret, s_retz, s_retv, s_seq, s_set, s_inc, s_put, s_ast, s_zst, s_cst, s_ada, s_if, s_ex, s_cv, s_nop, s_brk, x_ite, x_l, x_k, x_f, x_a, x_ro, x_add, x_sub, x_mul, x_div, x_rem, x_neg, x_call, x_max, x_min, x_abs, g_cons, g_nil, y_lt, y_le, y_gt, y_ge, y_eq, y_ne, y_not, y_and, y_or, y_ite, Option.bind_some, Option.bind_none, List.getElem?_cons_zero, List.getElem?_cons_succ, List.getElem?_nil, List.set_cons_zero, List.set_cons_succ, List.cons_append, List.nil_append, List.append_nil, List.replicate, List.length_cons, List.length_nil, Nat.reduceAdd, Nat.reduceSub, Nat.zero_add, Nat.sub_self, if_true, if_false, ite_true, ite_false, reduceIte, reduceCtorEq, decide_true, decide_false, decide_eq_true_eq, Bool.not_true, Bool.not_false, Bool.true_and, Bool.false_and, Bool.and_true, Bool.and_false, Bool.true_or, Bool.false_or, Bool.false_eq_true, Bool.true_eq_false, not_true_eq_false, not_false_eq_true, ne_eq, Int.reduceEq, Int.reduceNe, Int.reduceLT, Int.reduceLE, and_self, and_true, true_and, and_false, false_and, or_true, true_or, or_false, false_or, true_or, Option.map_some, cs_chk_ok, cs_rd_ok, cs_wr_ok, wb_X10_reads_3, k10, k30, hcv, c1, c2, f_within, e, g2]
            · have g3 : τ 10 0 - x < 10 * m + (c - 48) := by omega
              simp (disch := omega) only [cs_run, cs_L0, s_ret, s_retz, s_retv, s_seq, s_set, s_inc, s_put, s_ast, s_zst, s_cst, s_ada, s_if, s_ex, s_cv, s_nop, s_brk, x_ite, x_l, x_k, x_f, x_a, x_ro, x_add, x_sub, x_mul, x_div, x_rem, x_neg, x_call, x_max, x_min, x_abs, g_cons, g_nil, y_lt, y_le, y_gt, y_ge, y_eq, y_ne, y_not, y_and, y_or, y_ite, Option.bind_some, Option.bind_none, List.getElem?_cons_zero, List.getElem?_cons_succ, List.getElem?_nil, List.set_cons_zero, List.set_cons_succ, List.cons_append, List.nil_append, List.append_nil, List.replicate, List.length_cons, List.length_nil, Nat.reduceAdd, Nat.reduceSub, Nat.zero_add, Nat.sub_self, if_true, if_false, ite_true, ite_false, reduceIte, reduceCtorEq, decide_true, decide_false, decide_eq_true_eq, Bool.not_true, Bool.not_false, Bool.true_and, Bool.false_and, Bool.and_true, Bool.and_false, Bool.true_or, Bool.false_or, Bool.false_eq_true, Bool.true_eq_false, not_true_eq_false, not_false_eq_true, ne_eq, Int.reduceEq, Int.reduceNe, Int.reduceLT, Int.reduceLE, and_self, and_true, true_and, and_false, false_and, or_true, true_or, or_false, false_or, true_or, Option.map_some, cs_chk_ok, cs_rd_ok, cs_wr_ok, wb_X10_reads_3, k10, k30, hcv, c1, c2, f_within, e, g2, g3]
        · rw [if_neg c2]
          by_cases c3 : 97 ≤ c ∧ c ≤ 106
          · rw [if_pos c3]
            have hl := rdLen_1 (n := m)
            by_cases g : rdLen m ≤ τ 10 0 - x
            · refine ⟨some (x + rdLen m), ?_⟩
              rw [if_pos g]
              dsimp only
              have g2 : x < τ 10 0 := by omega
              have hrun := reads_run τ y m i c (x + rdLen m) (by omega) c3 (by omega) (rdLen m).toNat x a (by omega) (by omega)
              by_cases g3 : m = 0
              · have g4 : rdLen m = 1 := by rw [g3]; rfl
                subst g3
                rw [g4] at hrun ⊢
                simp (disch := omega) only [cs_run, cs_L0, s_ret, s_retz, s_retv, s_seq, s_set, s_inc, s_put, s_ast, s_zst, s_cst, s_ada, s_if, s_ex, s_cv, s_nop, s_brk, x_ite, x_l, x_k, x_f, x_a, x_ro, x_add, x_sub, x_mul, x_div, x_rem, x_neg, x_call, x_max, x_min, x_abs, g_cons, g_nil, y_lt, y_le, y_gt, y_ge, y_eq, y_ne, y_not, y_and, y_or, y_ite, Option.bind_some, Option.bind_none, List.getElem?_cons_zero, List.getElem?_cons_succ, List.getElem?_nil, List.set_cons_zero, List.set_cons_succ, List.cons_append, List.nil_append, List.append_nil, List.replicate, List.length_cons, List.length_nil, Nat.reduceAdd, Nat.reduceSub, Nat.zero_add, Nat.sub_self, if_true, if_false, ite_true, ite_false, reduceIte, reduceCtorEq, decide_true, decide_false, decide_eq_true_eq, Bool.not_true, Bool.not_false, Bool.true_and, Bool.false_and, Bool.and_true, Bool.and_false, Bool.true_or, Bool.false_or, Bool.false_eq_true, Bool.true_eq_false, not_true_eq_false, not_false_eq_true, ne_eq, Int.reduceEq, Int.reduceNe, Int.reduceLT, Int.reduceLE, and_self, and_true, true_and, and_false, false_and, or_true, true_or, or_false, false_or, true_or, Option.map_some, cs_chk_ok, cs_rd_ok, cs_wr_ok, wb_X10_reads_3, k10, k30, hcv, c1, c2, c3, f_within, g2, hrun]
              · have g4 : rdLen m = m := by unfold rdLen; rw [if_neg (by omega)]
                rw [g4] at hrun ⊢
                simp (disch := omega) only [cs_run, cs_L0, s_ret, s_retz, s_retv, s_seq, s_set, s_inc, s_put, s_ast, s_zst, s_cst, s_ada, s_if, s_ex, s_cv, s_nop, s_brk, x_ite, x_l, x_k, x_f, x_a, x_ro, x_add, x_sub, x_mul, x_div, x_rem, x_neg, x_call, x_max, x_min, x_abs, g_cons, g_nil, y_lt, y_le, y_gt, y_ge, y_eq, y_ne, y_not, y_and, y_or, y_ite, Option.bind_some, Option.bind_none, List.getElem?_cons_zero, List.getElem?_cons_succ, List.getElem?_nil, List.set_cons_zero, List.set_cons_succ, List.cons_append, List.nil_append, List.append_nil, List.replicate, List.length_cons, List.length_nil, Nat.reduceAdd, Nat.reduceSub, Nat.zero_add, Nat.sub_self, if_true, if_false, ite_true, ite_false, reduceIte, reduceCtorEq, decide_true, decide_false, decide_eq_true_eq, Bool.not_true, Bool.not_false, Bool.true_and, Bool.false_and, Bool.and_true, Bool.and_false, Bool.true_or, Bool.false_or, Bool.false_eq_true, Bool.true_eq_false, not_true_eq_false, not_false_eq_true, ne_eq, Int.reduceEq, Int.reduceNe, Int.reduceLT, Int.reduceLE, and_self, and_true, true_and, and_false, false_and, or_true, true_or, or_false, false_or, true_or, Option.map_some, cs_chk_ok, cs_rd_ok, cs_wr_ok, wb_X10_reads_3, k10, k30, hcv, c1, c2, c3, f_within, g2, g3, hrun]
            · refine ⟨o6, ?_⟩
              rw [if_neg g]
              dsimp only
              have g2 : ¬ x < τ 10 0 := by
                unfold rdLen at g
                split at g <;> omega
              simp (disch := omega) only [cs_run, cs_L0, s_ret, s_retz, s_retv, s_seq, s_set, s_inc, s_put, s_ast, s_zst, s_cst, s_ada, s_if, s_ex, s_cv, s_nop, s_brk, x_ite, x_l, x_k, x_f, x_a, x_ro, x_add, x_sub, x_mul, x_div, x_rem, x_neg, x_call, x_max, x_min, x_abs, g_cons, g_nil, y_lt, y_le, y_gt, y_ge, y_eq, y_ne, y_not, y_and, y_or, y_ite, Option.bind_some, Option.bind_none, List.getElem?_cons_zero, List.getElem?_cons_succ, List.getElem?_nil, List.set_cons_zero, List.set_cons_succ, List.cons_append, List.nil_append, List.append_nil, List.replicate, List.length_cons, List.length_nil, Nat.reduceAdd, Nat.reduceSub, Nat.zero_add, Nat.sub_self, if_true, if_false, ite_true, ite_false, reduceIte, reduceCtorEq, decide_true, decide_false, decide_eq_true_eq, Bool.not_true, Bool.not_false, Bool.true_and, Bool.false_and, Bool.and_true, Bool.and_false, Bool.true_or, Bool.false_or, Bool.false_eq_true, Bool.true_eq_false, not_true_eq_false, not_false_eq_true, ne_eq, Int.reduceEq, Int.reduceNe, Int.reduceLT, Int.reduceLE, and_self, and_true, true_and, and_false, false_and, or_true, true_or, or_false, false_or, true_or, Option.map_some, cs_chk_ok, cs_rd_ok, cs_wr_ok, wb_X10_reads_3, k10, k30, hcv, c1, c2, c3, f_within, g2]
          · refine ⟨o6, ?_⟩
            rw [if_neg c3]
            dsimp only
            simp (disch := omega) only [cs_run, cs_L0, s_ret, s_retz, s_retv, s_seq, s_set, s_inc, s_put, s_ast, s_zst, s_cst, s_ada, s_if, s_ex, s_cv, s_nop, s_brk, x_ite, x_l, x_k, x_f, x_a, x_ro, x_add, x_sub, x_mul, x_div, x_rem, x_neg, x_call, x_max, x_min, x_abs, g_cons, g_nil, y_lt, y_le, y_gt, y_ge, y_eq, y_ne, y_not, y_and, y_or, y_ite, Option.bind_some, Option.bind_none, List.getElem?_cons_zero, List.getElem?_cons_succ, List.getElem?_nil, List.set_cons_zero, List.set_cons_succ, List.cons_append, List.nil_append, List.append_nil, List.replicate, List.length_cons, List.length_nil, Nat.reduceAdd, Nat.reduceSub, Nat.zero_add, Nat.sub_self, if_true, if_false, ite_true, ite_false, reduceIte, reduceCtorEq, decide_true, decide_false, decide_eq_true_eq, Bool.not_true, Bool.not_false, Bool.true_and, Bool.false_and, Bool.and_true, Bool.and_false, Bool.true_or, Bool.false_or, Bool.false_eq_true, Bool.true_eq_false, not_true_eq_false, not_false_eq_true, ne_eq, Int.reduceEq, Int.reduceNe, Int.reduceLT, Int.reduceLE, and_self, and_true, true_and, and_false, false_and, or_true, true_or, or_false, false_or, true_or, Option.map_some, cs_chk_ok, cs_rd_ok, cs_wr_ok, wb_X10_reads_3, k10, k30, hcv, c1, c2, c3, f_within]
theorem reads_loop (τ : cs_S) (hz : szJ (τ 10 0) (τ 10 1)) (hl : τ 10 4 ≤ 200) (hch : ∀ k, 0 ≤ τ 30 k ∧ τ 30 k < 65536) : ∀ (n : Nat) (i : Int) (s : rdT) (o5 o6 : Option Int), 0 ≤ i → τ 10 4 = i + n → rdI (τ 10 0) (τ 10 1) s →
    ∃ q5 q6 : Option Int, w_X10_reads_3 [none, some s.2.1, some s.1, some s.2.2.1, some i, o5, o6] (cs_set τ 31 s.2.2.2) = match rdL (τ 10 0) (τ 10 1) (τ 30) n i s with
      | .inl r => some (.inr (.inl (some r.1, cs_set τ 31 r.2.2.2.2)))
      | .inr s' => some (.inl ([none, some s'.2.1, some s'.1, some s'.2.2.1, some (i + n), q5, q6], cs_set τ 31 s'.2.2.2))
  | 0, i, s, o5, o6, h0, hn, hI => by
    have hlt : ¬ i < τ 10 4 := by omega
    refine ⟨o5, o6, ?_⟩
    unfold w_X10_reads_3
    rw [s_wh_eq]
    simp [wc_X10_reads_3, cs_run, cs_L0, s_ret, s_retz, s_retv, s_seq, s_set, s_inc, s_put, s_ast, s_zst, s_cst, s_ada, s_if, s_ex, s_cv, s_nop, s_brk, x_ite, x_l, x_k, x_f, x_a, x_ro, x_add, x_sub, x_mul, x_div, x_rem, x_neg, x_call, x_max, x_min, x_abs, g_cons, g_nil, y_lt, y_le, y_gt, y_ge, y_eq, y_ne, y_not, y_and, y_or, y_ite, cs_set_ne, hlt, rdL]
  | n + 1, i, s, o5, o6, h0, hn, hI => by
    have hlt : i < τ 10 4 := by omega
    have hlt2 : i < 200 := by omega
    have hc : wc_X10_reads_3 [none, some s.2.1, some s.1, some s.2.2.1, some i, o5, o6] (cs_set τ 31 s.2.2.2) = some (true, cs_set τ 31 s.2.2.2) := by
      simp [wc_X10_reads_3, cs_run, cs_L0, s_ret, s_retz, s_retv, s_seq, s_set, s_inc, s_put, s_ast, s_zst, s_cst, s_ada, s_if, s_ex, s_cv, s_nop, s_brk, x_ite, x_l, x_k, x_f, x_a, x_ro, x_add, x_sub, x_mul, x_div, x_rem, x_neg, x_call, x_max, x_min, x_abs, g_cons, g_nil, y_lt, y_le, y_gt, y_ge, y_eq, y_ne, y_not, y_and, y_or, y_ite, cs_set_ne, hlt]
    have key := reads_body τ hz i (τ 30 i.toNat) s.1 s.2.1 s.2.2.1 s.2.2.2 o5 o6 h0 hlt2 (hch _) rfl hI.1 hI.2.1 hI.2.2.1
    obtain ⟨o6', key⟩ := key
    unfold rdL
    cases hs : rdS (τ 10 0) (τ 10 1) (τ 30 i.toNat) s with
    | none =>
      rw [hs] at key
      dsimp only at key
      refine ⟨o5, o6, ?_⟩
      unfold w_X10_reads_3
      rw [s_wh_eq, hc]
      simp only [Option.bind_some, if_true, key]
    | some s' =>
      rw [hs] at key
      dsimp only at key
      obtain ⟨q5, q6, ih⟩ := reads_loop τ hz hl hch n (i + 1) s' (some (τ 30 i.toNat)) o6' (by omega) (by omega) (rdS_I hz hI hs)
      refine ⟨q5, q6, ?_⟩
      unfold w_X10_reads_3 at ih ⊢
      rw [s_wh_eq, hc]
      simp only [Option.bind_some, if_true, key, ih]
      rw [show i + 1 + (n : Int) = i + ((n + 1 : Nat) : Int) by omega]
