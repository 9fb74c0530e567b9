/-! one contour, the class's way -/
def markC (σ : cs_S) (a : Arw) : cs_S := if a.2.2 = 0 then cs_set σ 25 (au (σ 25) (ix a.1 a.2.1) 1) else σ
def stC (σ : cs_S) (a : Arw) (turn : Bool) : cs_S := markC (if turn then addC σ a.1 a.2.1 else σ) a
def goC (ins : Int → Int → Bool) (pt : Int) : Nat → Arw → Bool → cs_S → cs_S
  | 0, _, _, σ => σ
  | m + 1, a, turn, σ => goC ins pt m (stp ins pt a) (decide ((stp ins pt a).2.2 ≠ a.2.2)) (stC σ a turn)
theorem tr_glue (τ τ1 τ2 : cs_S) (x0 y0 x y d t i x' y' d' t' : Int) (o8 : Option Int) (hd : 0 ≤ d ∧ d < 4) (hi : 0 ≤ i ∧ i < 442) (hx : x' = x + sx d) (hy : y' = y + sy d) (hxr : -50 ≤ x ∧ x ≤ 50) (hyr : -50 ≤ y ∧ y ≤ 50) (ht' : t' = if d' ≠ d then 1 else 0)
    (h1 : (s_if (y_ne (x_l 6) (x_k 0)) (s_cv f_X1_addVertex (g_cons (x_l 3) (g_cons (x_l 4) g_nil))) s_nop) [none, some x0, some y0, some x, some y, some d, some t, some i, o8] τ = some (.inl ([none, some x0, some y0, some x, some y, some d, some t, some i, o8], τ1)))
    (h2 : (s_if (y_eq (x_l 5) (x_k 0)) (s_cv f_X8_pass (g_cons (x_l 3) (g_cons (x_l 4) g_nil))) s_nop) [none, some x0, some y0, some x, some y, some d, some t, some i, o8] τ1 = some (.inl ([none, some x0, some y0, some x, some y, some d, some t, some i, o8], τ2)))
    (h3 : f_X8_directionFrom [x', y', d] τ2 = some (some d', τ2)) :
    ((x' = x0 ∧ y' = y0 ∧ d' = 0) → wb_X8_traceFrom_1 [none, some x0, some y0, some x, some y, some d, some t, some i, o8] τ = some (.inr (.inl (none, τ2)))) ∧
    (¬ (x' = x0 ∧ y' = y0 ∧ d' = 0) → wb_X8_traceFrom_1 [none, some x0, some y0, some x, some y, some d, some t, some i, o8] τ = some (.inl ([none, some x0, some y0, some x', some y', some d', some t', some (i + 1), some d'], τ2))) := by
  have hs := sxy d hd.1 hd.2
  have r0 : (0 ≤ d ∧ d < 4) = True := by simp [hd]
  have e0 : [1, 0, -1, 0].getD d.toNat 0 = sx d := rfl
  have e1 : [0, 1, 0, -1].getD d.toNat 0 = sy d := rfl
  have c1 : cs_InR (x + sx d) := by omega
  have c2 : cs_InR (y + sy d) := by omega
  have c3 : cs_InR (i + 1) := by omega
  have g1 : (s_set 3 (x_add (x_l 3) (x_ro ro_0.2.2 (x_l 5)))) [none, some x0, some y0, some x, some y, some d, some t, some i, o8] τ2 = some (.inl ([none, some x0, some y0, some x', some y, some d, some t, some i, o8], τ2)) := by
    simp only [cs_run, cs_L0, s_ret, s_retz, s_retv, s_seq, s_set, s_inc, s_put, s_ast, s_zst, s_cst, s_ada, s_if, s_ex, s_cv, s_nop, s_brk, x_ite, x_l, x_k, x_f, x_a, x_ro, x_add, x_sub, x_mul, x_div, x_rem, x_neg, x_call, x_max, x_min, x_abs, g_cons, g_nil, y_lt, y_le, y_gt, y_ge, y_eq, y_ne, y_not, y_and, y_or, y_ite, Option.bind_some, Option.bind_none, List.getElem?_cons_zero, List.getElem?_cons_succ, List.getElem?_nil, List.set_cons_zero, List.set_cons_succ, List.cons_append, List.nil_append, List.append_nil, List.replicate, List.length_cons, List.length_nil, Nat.reduceAdd, Nat.reduceSub, Nat.zero_add, Nat.sub_self, if_true, if_false, ite_true, ite_false, reduceIte, reduceCtorEq, decide_true, decide_false, decide_eq_true_eq, Bool.not_true, Bool.not_false, Bool.true_and, Bool.false_and, Bool.and_true, Bool.and_false, Bool.true_or, Bool.false_or, Bool.false_eq_true, Bool.true_eq_false, not_true_eq_false, not_false_eq_true, ne_eq, Int.reduceEq, Int.reduceNe, Int.reduceLT, Int.reduceLE, and_self, and_true, true_and, and_false, false_and, or_true, true_or, or_false, false_or, true_or, Option.map_some, r0, e0, cs_chk_ok c1, hx]
  have g2 : (s_set 4 (x_add (x_l 4) (x_ro ro_1.2.2 (x_l 5)))) [none, some x0, some y0, some x', some y, some d, some t, some i, o8] τ2 = some (.inl ([none, some x0, some y0, some x', some y', some d, some t, some i, o8], τ2)) := by
    simp only [cs_run, cs_L0, s_ret, s_retz, s_retv, s_seq, s_set, s_inc, s_put, s_ast, s_zst, s_cst, s_ada, s_if, s_ex, s_cv, s_nop, s_brk, x_ite, x_l, x_k, x_f, x_a, x_ro, x_add, x_sub, x_mul, x_div, x_rem, x_neg, x_call, x_max, x_min, x_abs, g_cons, g_nil, y_lt, y_le, y_gt, y_ge, y_eq, y_ne, y_not, y_and, y_or, y_ite, Option.bind_some, Option.bind_none, List.getElem?_cons_zero, List.getElem?_cons_succ, List.getElem?_nil, List.set_cons_zero, List.set_cons_succ, List.cons_append, List.nil_append, List.append_nil, List.replicate, List.length_cons, List.length_nil, Nat.reduceAdd, Nat.reduceSub, Nat.zero_add, Nat.sub_self, if_true, if_false, ite_true, ite_false, reduceIte, reduceCtorEq, decide_true, decide_false, decide_eq_true_eq, Bool.not_true, Bool.not_false, Bool.true_and, Bool.false_and, Bool.and_true, Bool.and_false, Bool.true_or, Bool.false_or, Bool.false_eq_true, Bool.true_eq_false, not_true_eq_false, not_false_eq_true, ne_eq, Int.reduceEq, Int.reduceNe, Int.reduceLT, Int.reduceLE, and_self, and_true, true_and, and_false, false_and, or_true, true_or, or_false, false_or, true_or, Option.map_some, r0, e1, cs_chk_ok c2, hy]
  have g3 : (s_set 8 (x_call f_X8_directionFrom (g_cons (x_l 3) (g_cons (x_l 4) (g_cons (x_l 5) g_nil))))) [none, some x0, some y0, some x', some y', some d, some t, some i, o8] τ2 = some (.inl ([none, some x0, some y0, some x', some y', some d, some t, some i, some d'], τ2)) := by
    simp only [cs_run, cs_L0, s_ret, s_retz, s_retv, s_seq, s_set, s_inc, s_put, s_ast, s_zst, s_cst, s_ada, s_if, s_ex, s_cv, s_nop, s_brk, x_ite, x_l, x_k, x_f, x_a, x_ro, x_add, x_sub, x_mul, x_div, x_rem, x_neg, x_call, x_max, x_min, x_abs, g_cons, g_nil, y_lt, y_le, y_gt, y_ge, y_eq, y_ne, y_not, y_and, y_or, y_ite, Option.bind_some, Option.bind_none, List.getElem?_cons_zero, List.getElem?_cons_succ, List.getElem?_nil, List.set_cons_zero, List.set_cons_succ, List.cons_append, List.nil_append, List.append_nil, List.replicate, List.length_cons, List.length_nil, Nat.reduceAdd, Nat.reduceSub, Nat.zero_add, Nat.sub_self, if_true, if_false, ite_true, ite_false, reduceIte, reduceCtorEq, decide_true, decide_false, decide_eq_true_eq, Bool.not_true, Bool.not_false, Bool.true_and, Bool.false_and, Bool.and_true, Bool.and_false, Bool.true_or, Bool.false_or, Bool.false_eq_true, Bool.true_eq_false, not_true_eq_false, not_false_eq_true, ne_eq, Int.reduceEq, Int.reduceNe, Int.reduceLT, Int.reduceLE, and_self, and_true, true_and, and_false, false_and, or_true, true_or, or_false, false_or, true_or, Option.map_some, h3]
  have g4 : (s_set 6 (x_ite (y_ne (x_l 8) (x_l 5)) (x_k 1) (x_k 0))) [none, some x0, some y0, some x', some y', some d, some t, some i, some d'] τ2 = some (.inl ([none, some x0, some y0, some x', some y', some d, some t', some i, some d'], τ2)) := by
    by_cases e : d' = d
    · simp only [cs_run, cs_L0, s_ret, s_retz, s_retv, s_seq, s_set, s_inc, s_put, s_ast, s_zst, s_cst, s_ada, s_if, s_ex, s_cv, s_nop, s_brk, x_ite, x_l, x_k, x_f, x_a, x_ro, x_add, x_sub, x_mul, x_div, x_rem, x_neg, x_call, x_max, x_min, x_abs, g_cons, g_nil, y_lt, y_le, y_gt, y_ge, y_eq, y_ne, y_not, y_and, y_or, y_ite, Option.bind_some, Option.bind_none, List.getElem?_cons_zero, List.getElem?_cons_succ, List.getElem?_nil, List.set_cons_zero, List.set_cons_succ, List.cons_append, List.nil_append, List.append_nil, List.replicate, List.length_cons, List.length_nil, Nat.reduceAdd, Nat.reduceSub, Nat.zero_add, Nat.sub_self, if_true, if_false, ite_true, ite_false, reduceIte, reduceCtorEq, decide_true, decide_false, decide_eq_true_eq, Bool.not_true, Bool.not_false, Bool.true_and, Bool.false_and, Bool.and_true, Bool.and_false, Bool.true_or, Bool.false_or, Bool.false_eq_true, Bool.true_eq_false, not_true_eq_false, not_false_eq_true, ne_eq, Int.reduceEq, Int.reduceNe, Int.reduceLT, Int.reduceLE, and_self, and_true, true_and, and_false, false_and, or_true, true_or, or_false, false_or, true_or, Option.map_some, e, ht']
    · simp only [cs_run, cs_L0, s_ret, s_retz, s_retv, s_seq, s_set, s_inc, s_put, s_ast, s_zst, s_cst, s_ada, s_if, s_ex, s_cv, s_nop, s_brk, x_ite, x_l, x_k, x_f, x_a, x_ro, x_add, x_sub, x_mul, x_div, x_rem, x_neg, x_call, x_max, x_min, x_abs, g_cons, g_nil, y_lt, y_le, y_gt, y_ge, y_eq, y_ne, y_not, y_and, y_or, y_ite, Option.bind_some, Option.bind_none, List.getElem?_cons_zero, List.getElem?_cons_succ, List.getElem?_nil, List.set_cons_zero, List.set_cons_succ, List.cons_append, List.nil_append, List.append_nil, List.replicate, List.length_cons, List.length_nil, Nat.reduceAdd, Nat.reduceSub, Nat.zero_add, Nat.sub_self, if_true, if_false, ite_true, ite_false, reduceIte, reduceCtorEq, decide_true, decide_false, decide_eq_true_eq, Bool.not_true, Bool.not_false, Bool.true_and, Bool.false_and, Bool.and_true, Bool.and_false, Bool.true_or, Bool.false_or, Bool.false_eq_true, Bool.true_eq_false, not_true_eq_false, not_false_eq_true, ne_eq, Int.reduceEq, Int.reduceNe, Int.reduceLT, Int.reduceLE, and_self, and_true, true_and, and_false, false_and, or_true, true_or, or_false, false_or, true_or, Option.map_some, e, ht']
  have g5 : (s_set 5 (x_l 8)) [none, some x0, some y0, some x', some y', some d, some t', some i, some d'] τ2 = some (.inl ([none, some x0, some y0, some x', some y', some d', some t', some i, some d'], τ2)) := by
    simp only [cs_run, cs_L0, s_ret, s_retz, s_retv, s_seq, s_set, s_inc, s_put, s_ast, s_zst, s_cst, s_ada, s_if, s_ex, s_cv, s_nop, s_brk, x_ite, x_l, x_k, x_f, x_a, x_ro, x_add, x_sub, x_mul, x_div, x_rem, x_neg, x_call, x_max, x_min, x_abs, g_cons, g_nil, y_lt, y_le, y_gt, y_ge, y_eq, y_ne, y_not, y_and, y_or, y_ite, Option.bind_some, Option.bind_none, List.getElem?_cons_zero, List.getElem?_cons_succ, List.getElem?_nil, List.set_cons_zero, List.set_cons_succ, List.cons_append, List.nil_append, List.append_nil, List.replicate, List.length_cons, List.length_nil, Nat.reduceAdd, Nat.reduceSub, Nat.zero_add, Nat.sub_self, if_true, if_false, ite_true, ite_false, reduceIte, reduceCtorEq, decide_true, decide_false, decide_eq_true_eq, Bool.not_true, Bool.not_false, Bool.true_and, Bool.false_and, Bool.and_true, Bool.and_false, Bool.true_or, Bool.false_or, Bool.false_eq_true, Bool.true_eq_false, not_true_eq_false, not_false_eq_true, ne_eq, Int.reduceEq, Int.reduceNe, Int.reduceLT, Int.reduceLE, and_self, and_true, true_and, and_false, false_and, or_true, true_or, or_false, false_or, true_or, Option.map_some]
  have g7 : (s_inc 7 1) [none, some x0, some y0, some x', some y', some d', some t', some i, some d'] τ2 = some (.inl ([none, some x0, some y0, some x', some y', some d', some t', some (i + 1), some d'], τ2)) := by
    simp only [cs_run, cs_L0, s_ret, s_retz, s_retv, s_seq, s_set, s_inc, s_put, s_ast, s_zst, s_cst, s_ada, s_if, s_ex, s_cv, s_nop, s_brk, x_ite, x_l, x_k, x_f, x_a, x_ro, x_add, x_sub, x_mul, x_div, x_rem, x_neg, x_call, x_max, x_min, x_abs, g_cons, g_nil, y_lt, y_le, y_gt, y_ge, y_eq, y_ne, y_not, y_and, y_or, y_ite, Option.bind_some, Option.bind_none, List.getElem?_cons_zero, List.getElem?_cons_succ, List.getElem?_nil, List.set_cons_zero, List.set_cons_succ, List.cons_append, List.nil_append, List.append_nil, List.replicate, List.length_cons, List.length_nil, Nat.reduceAdd, Nat.reduceSub, Nat.zero_add, Nat.sub_self, if_true, if_false, ite_true, ite_false, reduceIte, reduceCtorEq, decide_true, decide_false, decide_eq_true_eq, Bool.not_true, Bool.not_false, Bool.true_and, Bool.false_and, Bool.and_true, Bool.and_false, Bool.true_or, Bool.false_or, Bool.false_eq_true, Bool.true_eq_false, not_true_eq_false, not_false_eq_true, ne_eq, Int.reduceEq, Int.reduceNe, Int.reduceLT, Int.reduceLE, and_self, and_true, true_and, and_false, false_and, or_true, true_or, or_false, false_or, true_or, Option.map_some, cs_chk_ok c3]
  constructor
  · rintro ⟨k1, k2, k3⟩
    have g6 : (s_if (y_and (y_and (y_eq (x_l 3) (x_l 1)) (y_eq (x_l 4) (x_l 2))) (y_eq (x_l 5) (x_k 0))) s_retv s_nop) [none, some x0, some y0, some x', some y', some d', some t', some i, some d'] τ2 = some (.inr (.inl (none, τ2))) := by
      simp only [cs_run, cs_L0, s_ret, s_retz, s_retv, s_seq, s_set, s_inc, s_put, s_ast, s_zst, s_cst, s_ada, s_if, s_ex, s_cv, s_nop, s_brk, x_ite, x_l, x_k, x_f, x_a, x_ro, x_add, x_sub, x_mul, x_div, x_rem, x_neg, x_call, x_max, x_min, x_abs, g_cons, g_nil, y_lt, y_le, y_gt, y_ge, y_eq, y_ne, y_not, y_and, y_or, y_ite, Option.bind_some, Option.bind_none, List.getElem?_cons_zero, List.getElem?_cons_succ, List.getElem?_nil, List.set_cons_zero, List.set_cons_succ, List.cons_append, List.nil_append, List.append_nil, List.replicate, List.length_cons, List.length_nil, Nat.reduceAdd, Nat.reduceSub, Nat.zero_add, Nat.sub_self, if_true, if_false, ite_true, ite_false, reduceIte, reduceCtorEq, decide_true, decide_false, decide_eq_true_eq, Bool.not_true, Bool.not_false, Bool.true_and, Bool.false_and, Bool.and_true, Bool.and_false, Bool.true_or, Bool.false_or, Bool.false_eq_true, Bool.true_eq_false, not_true_eq_false, not_false_eq_true, ne_eq, Int.reduceEq, Int.reduceNe, Int.reduceLT, Int.reduceLE, and_self, and_true, true_and, and_false, false_and, or_true, true_or, or_false, false_or, true_or, Option.map_some, k1, k2, k3]
    simp only [wb_X8_traceFrom_1, s_seq, h1, h2, g1, g2, g3, g4, g5, g6, Option.bind_some]
  · intro hn
    have g6 : (s_if (y_and (y_and (y_eq (x_l 3) (x_l 1)) (y_eq (x_l 4) (x_l 2))) (y_eq (x_l 5) (x_k 0))) s_retv s_nop) [none, some x0, some y0, some x', some y', some d', some t', some i, some d'] τ2 = some (.inl ([none, some x0, some y0, some x', some y', some d', some t', some i, some d'], τ2)) := by
      by_cases k1 : x' = x0
      · by_cases k2 : y' = y0
        · have k3 : ¬ d' = 0 := fun q => hn ⟨k1, k2, q⟩
          simp only [cs_run, cs_L0, s_ret, s_retz, s_retv, s_seq, s_set, s_inc, s_put, s_ast, s_zst, s_cst, s_ada, s_if, s_ex, s_cv, s_nop, s_brk, x_ite, x_l, x_k, x_f, x_a, x_ro, x_add, x_sub, x_mul, x_div, x_rem, x_neg, x_call, x_max, x_min, x_abs, g_cons, g_nil, y_lt, y_le, y_gt, y_ge, y_eq, y_ne, y_not, y_and, y_or, y_ite, Option.bind_some, Option.bind_none, List.getElem?_cons_zero, List.getElem?_cons_succ, List.getElem?_nil, List.set_cons_zero, List.set_cons_succ, List.cons_append, List.nil_append, List.append_nil, List.replicate, List.length_cons, List.length_nil, Nat.reduceAdd, Nat.reduceSub, Nat.zero_add, Nat.sub_self, if_true, if_false, ite_true, ite_false, reduceIte, reduceCtorEq, decide_true, decide_false, decide_eq_true_eq, Bool.not_true, Bool.not_false, Bool.true_and, Bool.false_and, Bool.and_true, Bool.and_false, Bool.true_or, Bool.false_or, Bool.false_eq_true, Bool.true_eq_false, not_true_eq_false, not_false_eq_true, ne_eq, Int.reduceEq, Int.reduceNe, Int.reduceLT, Int.reduceLE, and_self, and_true, true_and, and_false, false_and, or_true, true_or, or_false, false_or, true_or, Option.map_some, k1, k2, k3]
        · simp only [cs_run, cs_L0, s_ret, s_retz, s_retv, s_seq, s_set, s_inc, s_put, s_ast, s_zst, s_cst, s_ada, s_if, s_ex, s_cv, s_nop, s_brk, x_ite, x_l, x_k, x_f, x_a, x_ro, x_add, x_sub, x_mul, x_div, x_rem, x_neg, x_call, x_max, x_min, x_abs, g_cons, g_nil, y_lt, y_le, y_gt, y_ge, y_eq, y_ne, y_not, y_and, y_or, y_ite, Option.bind_some, Option.bind_none, List.getElem?_cons_zero, List.getElem?_cons_succ, List.getElem?_nil, List.set_cons_zero, List.set_cons_succ, List.cons_append, List.nil_append, List.append_nil, List.replicate, List.length_cons, List.length_nil, Nat.reduceAdd, Nat.reduceSub, Nat.zero_add, Nat.sub_self, if_true, if_false, ite_true, ite_false, reduceIte, reduceCtorEq, decide_true, decide_false, decide_eq_true_eq, Bool.not_true, Bool.not_false, Bool.true_and, Bool.false_and, Bool.and_true, Bool.and_false, Bool.true_or, Bool.false_or, Bool.false_eq_true, Bool.true_eq_false, not_true_eq_false, not_false_eq_true, ne_eq, Int.reduceEq, Int.reduceNe, Int.reduceLT, Int.reduceLE, and_self, and_true, true_and, and_false, false_and, or_true, true_or, or_false, false_or, true_or, Option.map_some, k1, k2]
      · simp only [cs_run, cs_L0, s_ret, s_retz, s_retv, s_seq, s_set, s_inc, s_put, s_ast, s_zst, s_cst, s_ada, s_if, s_ex, s_cv, s_nop, s_brk, x_ite, x_l, x_k, x_f, x_a, x_ro, x_add, x_sub, x_mul, x_div, x_rem, x_neg, x_call, x_max, x_min, x_abs, g_cons, g_nil, y_lt, y_le, y_gt, y_ge, y_eq, y_ne, y_not, y_and, y_or, y_ite, Option.bind_some, Option.bind_none, List.getElem?_cons_zero, List.getElem?_cons_succ, List.getElem?_nil, List.set_cons_zero, List.set_cons_succ, List.cons_append, List.nil_append, List.append_nil, List.replicate, List.length_cons, List.length_nil, Nat.reduceAdd, Nat.reduceSub, Nat.zero_add, Nat.sub_self, if_true, if_false, ite_true, ite_false, reduceIte, reduceCtorEq, decide_true, decide_false, decide_eq_true_eq, Bool.not_true, Bool.not_false, Bool.true_and, Bool.false_and, Bool.and_true, Bool.and_false, Bool.true_or, Bool.false_or, Bool.false_eq_true, Bool.true_eq_false, not_true_eq_false, not_false_eq_true, ne_eq, Int.reduceEq, Int.reduceNe, Int.reduceLT, Int.reduceLE, and_self, and_true, true_and, and_false, false_and, or_true, true_or, or_false, false_or, true_or, Option.map_some, k1]
    simp only [wb_X8_traceFrom_1, s_seq, h1, h2, g1, g2, g3, g4, g5, g6, g7, Option.bind_some]
/-- what holds of the store while a contour is traced; N: so many arrows were gone -/
def TB (σ0 σ : cs_S) (N : Nat) : Prop := (σ 1 = σ0 1 ∧ σ 5 = σ0 5 ∧ σ 11 = σ0 11) ∧ (1 ≤ σ 4 1 ∧ σ 4 1 ≤ 110) ∧ (0 ≤ σ 4 2 ∧ σ 4 2 ≤ N) ∧ (0 ≤ σ 4 3 ∧ σ 4 3 ≤ σ 4 2) ∧ (0 ≤ σ 16 (σ 4 1 - 1).toNat ∧ σ 16 (σ 4 1 - 1).toNat ≤ σ 4 2) ∧ ∀ k, k < 221 → 0 ≤ σ 24 k ∧ σ 24 k ≤ σ 4 2
theorem addC_v (σ : cs_S) (x y : Int) : addC σ x y 1 = σ 1 ∧ addC σ x y 5 = σ 5 ∧ addC σ x y 11 = σ 11 ∧ addC σ x y 4 1 = σ 4 1 ∧ addC σ x y 4 2 = σ 4 2 + 1 ∧ addC σ x y 4 3 = σ 4 3 + 1 ∧ addC σ x y 16 = au (σ 16) (σ 4 1 - 1).toNat (σ 16 (σ 4 1 - 1).toNat + 1) ∧ addC σ x y 24 = au (σ 24) (y * 17 + x).toNat (σ 24 (y * 17 + x).toNat + 1) ∧ addC σ x y 25 = σ 25 := by
  simp [addC, au]
theorem TB_add {σ0 σ : cs_S} {N : Nat} {x y : Int} (h : TB σ0 σ N) : TB σ0 (addC σ x y) (N + 1) := by
  obtain ⟨⟨h1, h2, h3⟩, h4, h5, h6, h7, h8⟩ := h
  obtain ⟨a1, a2, a3, a4, a5, a6, a7, a8, -⟩ := addC_v σ x y
  refine ⟨⟨a1.trans h1, a2.trans h2, a3.trans h3⟩, by rw [a4]; exact h4, by rw [a5]; omega, by rw [a5, a6]; omega, ?_, ?_⟩
  · rw [a4, a5, a7, au_at]; omega
  · intro k hk
    have := h8 k hk
    rw [a5, a8]
    unfold au
    split
    · next e => subst e; omega
    · omega
theorem TB_more {σ0 σ : cs_S} {N : Nat} (h : TB σ0 σ N) : TB σ0 σ (N + 1) := by
  obtain ⟨h1, h4, h5, h6⟩ := h
  exact ⟨h1, h4, by omega, h6⟩
theorem TB_mark {σ0 σ : cs_S} {N : Nat} {a : Arw} (h : TB σ0 σ N) : TB σ0 (markC σ a) N := by
  unfold markC
  split
  · obtain ⟨⟨h1, h2, h3⟩, h4, h5, h6, h7, h8⟩ := h
    have k : ∀ p m, p ≠ 25 → cs_set σ 25 m p = σ p := fun p m hp => cs_set_ne hp
    refine ⟨⟨?_, ?_, ?_⟩, ?_⟩
    · rw [k 1 _ (by decide)]; exact h1
    · rw [k 5 _ (by decide)]; exact h2
    · rw [k 11 _ (by decide)]; exact h3
    · rw [k 4 _ (by decide), k 16 _ (by decide), k 24 _ (by decide)]; exact ⟨h4, h5, h6, h7, h8⟩
  · exact h
theorem TB_st {σ0 σ : cs_S} {N : Nat} {a : Arw} {t : Bool} (h : TB σ0 σ N) : TB σ0 (stC σ a t) (N + 1) := by
  unfold stC
  cases t
  · exact TB_mark (TB_more h)
  · exact TB_mark (TB_add h)
theorem trace_step (σ0 : cs_S) (hz : szJ (σ0 1 3) (σ0 1 4)) (ht : 1 ≤ σ0 5 3) (hpt : σ0 5 4 = 1 ∨ σ0 5 4 = 3) (l : List Arw) (hl : Ways (insC σ0) (σ0 5 4) l) (s : Arw) (hs : Vld (insC σ0) s) (hs0 : s.2.2 = 0) (hsl : s ∉ l) (n : Nat) (hn : n ≤ 442) (he : itr (insC σ0) (σ0 5 4) n s = s) (hm : ∀ k : Nat, 1 ≤ k → k < n → itr (insC σ0) (σ0 5 4) k s ≠ s) (m i : Nat) (t : Bool) (o8 : Option Int) (τ : cs_S) (hni : n = i + (m + 1)) (hT : TB σ0 τ (l.length + i))
    (next : 1 ≤ m → ∀ (t' : Bool) (o' : Option Int) (τ' : cs_S), TB σ0 τ' (l.length + (i + 1)) → w_X8_traceFrom_1 [none, some s.1, some s.2.1, some (itr (insC σ0) (σ0 5 4) (i + 1) s).1, some (itr (insC σ0) (σ0 5 4) (i + 1) s).2.1, some (itr (insC σ0) (σ0 5 4) (i + 1) s).2.2, some (if t' then 1 else 0), some ((i + 1 : Nat) : Int), o'] τ' = some (.inr (.inl (none, goC (insC σ0) (σ0 5 4) m (itr (insC σ0) (σ0 5 4) (i + 1) s) t' τ')))) :
    w_X8_traceFrom_1 [none, some s.1, some s.2.1, some (itr (insC σ0) (σ0 5 4) i s).1, some (itr (insC σ0) (σ0 5 4) i s).2.1, some (itr (insC σ0) (σ0 5 4) i s).2.2, some (if t then 1 else 0), some (i : Int), o8] τ = some (.inr (.inl (none, goC (insC σ0) (σ0 5 4) (m + 1) (itr (insC σ0) (σ0 5 4) i s) t τ))) := by
  have hnx : itr (insC σ0) (σ0 5 4) (i + 1) s = stp (insC σ0) (σ0 5 4) (itr (insC σ0) (σ0 5 4) i s) := itr_succ i s
  have hva := itr_vld hpt hs i
  have hvb := itr_vld hpt hs (i + 1)
  obtain ⟨pn, pv⟩ := ways_prefix (n := i + 1) hpt hl hs hsl (fun k h1 h2 => hm k h1 (by omega))
  have hlen := arw_len hz insD_J pn pv
  rw [List.length_append, wlk_len] at hlen
  generalize hA : itr (insC σ0) (σ0 5 4) i s = A at *
  have hin := vld_in insD_J hva
  obtain ⟨⟨T1, T2, T3⟩, T4, T5, T6, T7, T8⟩ := id hT
  obtain ⟨x, y, d⟩ := A
  dsimp only at hin
  have hd := hva.1
  dsimp only at hd
  -- the vertex
  have hadd : ∃ τ1, τ1 = (if t then addC τ x y else τ) ∧ (s_if (y_ne (x_l 6) (x_k 0)) (s_cv f_X1_addVertex (g_cons (x_l 3) (g_cons (x_l 4) g_nil))) s_nop) [none, some s.1, some s.2.1, some x, some y, some d, some (if t then 1 else 0), some (i : Int), o8] τ = some (.inl ([none, some s.1, some s.2.1, some x, some y, some d, some (if t then 1 else 0), some (i : Int), o8], τ1)) := by
    refine ⟨_, rfl, ?_⟩
    cases t
    · simp only [cs_run, cs_L0, s_ret, s_retz, s_retv, s_seq, s_set, s_inc, s_put, s_ast, s_zst, s_cst, s_ada, s_if, s_ex, s_cv, s_nop, s_brk, x_ite, x_l, x_k, x_f, x_a, x_ro, x_add, x_sub, x_mul, x_div, x_rem, x_neg, x_call, x_max, x_min, x_abs, g_cons, g_nil, y_lt, y_le, y_gt, y_ge, y_eq, y_ne, y_not, y_and, y_or, y_ite, Option.bind_some, Option.bind_none, List.getElem?_cons_zero, List.getElem?_cons_succ, List.getElem?_nil, List.set_cons_zero, List.set_cons_succ, List.cons_append, List.nil_append, List.append_nil, List.replicate, List.length_cons, List.length_nil, Nat.reduceAdd, Nat.reduceSub, Nat.zero_add, Nat.sub_self, if_true, if_false, ite_true, ite_false, reduceIte, reduceCtorEq, decide_true, decide_false, decide_eq_true_eq, Bool.not_true, Bool.not_false, Bool.true_and, Bool.false_and, Bool.and_true, Bool.and_false, Bool.true_or, Bool.false_or, Bool.false_eq_true, Bool.true_eq_false, not_true_eq_false, not_false_eq_true, ne_eq, Int.reduceEq, Int.reduceNe, Int.reduceLT, Int.reduceLE, and_self, and_true, true_and, and_false, false_and, or_true, true_or, or_false, false_or, true_or, Option.map_some]
    · have hk := T8 (y * 17 + x).toNat (by omega)
      have hf := f_addC τ x y T4 (by omega) (by omega) (by omega) (by omega) (by omega) (by omega)
      simp only [cs_run, cs_L0, s_ret, s_retz, s_retv, s_seq, s_set, s_inc, s_put, s_ast, s_zst, s_cst, s_ada, s_if, s_ex, s_cv, s_nop, s_brk, x_ite, x_l, x_k, x_f, x_a, x_ro, x_add, x_sub, x_mul, x_div, x_rem, x_neg, x_call, x_max, x_min, x_abs, g_cons, g_nil, y_lt, y_le, y_gt, y_ge, y_eq, y_ne, y_not, y_and, y_or, y_ite, Option.bind_some, Option.bind_none, List.getElem?_cons_zero, List.getElem?_cons_succ, List.getElem?_nil, List.set_cons_zero, List.set_cons_succ, List.cons_append, List.nil_append, List.append_nil, List.replicate, List.length_cons, List.length_nil, Nat.reduceAdd, Nat.reduceSub, Nat.zero_add, Nat.sub_self, if_true, if_false, ite_true, ite_false, reduceIte, reduceCtorEq, decide_true, decide_false, decide_eq_true_eq, Bool.not_true, Bool.not_false, Bool.true_and, Bool.false_and, Bool.and_true, Bool.and_false, Bool.true_or, Bool.false_or, Bool.false_eq_true, Bool.true_eq_false, not_true_eq_false, not_false_eq_true, ne_eq, Int.reduceEq, Int.reduceNe, Int.reduceLT, Int.reduceLE, and_self, and_true, true_and, and_false, false_and, or_true, true_or, or_false, false_or, true_or, Option.map_some, hf]
  obtain ⟨τ1, e1, h1⟩ := hadd
  have hT1 : TB σ0 τ1 (l.length + (i + 1)) := by
    rw [e1]
    cases t
    · exact TB_more hT
    · exact TB_add hT
  obtain ⟨⟨S1, S2, S3⟩, -⟩ := id hT1
  have hpass : ∃ τ2, τ2 = markC τ1 (x, y, d) ∧ (s_if (y_eq (x_l 5) (x_k 0)) (s_cv f_X8_pass (g_cons (x_l 3) (g_cons (x_l 4) g_nil))) s_nop) [none, some s.1, some s.2.1, some x, some y, some d, some (if t then 1 else 0), some (i : Int), o8] τ1 = some (.inl ([none, some s.1, some s.2.1, some x, some y, some d, some (if t then 1 else 0), some (i : Int), o8], τ2)) := by
    refine ⟨_, rfl, ?_⟩
    unfold markC
    dsimp only
    by_cases hd0 : d = 0
    · have hv2 := hva.2
      dsimp only at hv2
      rw [hd0] at hv2
      have hp : inP (τ1 1 3) (τ1 1 4) x y = true := by
        rw [S1]
        simp only [arr, if_true, insC, insD, Bool.and_eq_true] at hv2
        exact hv2.1.1
      have hf := f_pass τ1 (by rw [S1]; exact hz) x y hp
      simp only [cs_run, cs_L0, s_ret, s_retz, s_retv, s_seq, s_set, s_inc, s_put, s_ast, s_zst, s_cst, s_ada, s_if, s_ex, s_cv, s_nop, s_brk, x_ite, x_l, x_k, x_f, x_a, x_ro, x_add, x_sub, x_mul, x_div, x_rem, x_neg, x_call, x_max, x_min, x_abs, g_cons, g_nil, y_lt, y_le, y_gt, y_ge, y_eq, y_ne, y_not, y_and, y_or, y_ite, Option.bind_some, Option.bind_none, List.getElem?_cons_zero, List.getElem?_cons_succ, List.getElem?_nil, List.set_cons_zero, List.set_cons_succ, List.cons_append, List.nil_append, List.append_nil, List.replicate, List.length_cons, List.length_nil, Nat.reduceAdd, Nat.reduceSub, Nat.zero_add, Nat.sub_self, if_true, if_false, ite_true, ite_false, reduceIte, reduceCtorEq, decide_true, decide_false, decide_eq_true_eq, Bool.not_true, Bool.not_false, Bool.true_and, Bool.false_and, Bool.and_true, Bool.and_false, Bool.true_or, Bool.false_or, Bool.false_eq_true, Bool.true_eq_false, not_true_eq_false, not_false_eq_true, ne_eq, Int.reduceEq, Int.reduceNe, Int.reduceLT, Int.reduceLE, and_self, and_true, true_and, and_false, false_and, or_true, true_or, or_false, false_or, true_or, Option.map_some, hd0, hf]
    · simp only [cs_run, cs_L0, s_ret, s_retz, s_retv, s_seq, s_set, s_inc, s_put, s_ast, s_zst, s_cst, s_ada, s_if, s_ex, s_cv, s_nop, s_brk, x_ite, x_l, x_k, x_f, x_a, x_ro, x_add, x_sub, x_mul, x_div, x_rem, x_neg, x_call, x_max, x_min, x_abs, g_cons, g_nil, y_lt, y_le, y_gt, y_ge, y_eq, y_ne, y_not, y_and, y_or, y_ite, Option.bind_some, Option.bind_none, List.getElem?_cons_zero, List.getElem?_cons_succ, List.getElem?_nil, List.set_cons_zero, List.set_cons_succ, List.cons_append, List.nil_append, List.append_nil, List.replicate, List.length_cons, List.length_nil, Nat.reduceAdd, Nat.reduceSub, Nat.zero_add, Nat.sub_self, if_true, if_false, ite_true, ite_false, reduceIte, reduceCtorEq, decide_true, decide_false, decide_eq_true_eq, Bool.not_true, Bool.not_false, Bool.true_and, Bool.false_and, Bool.and_true, Bool.and_false, Bool.true_or, Bool.false_or, Bool.false_eq_true, Bool.true_eq_false, not_true_eq_false, not_false_eq_true, ne_eq, Int.reduceEq, Int.reduceNe, Int.reduceLT, Int.reduceLE, and_self, and_true, true_and, and_false, false_and, or_true, true_or, or_false, false_or, true_or, Option.map_some, hd0]
  obtain ⟨τ2, e2, h2⟩ := hpass
  have hT2 : TB σ0 τ2 (l.length + (i + 1)) := by rw [e2]; exact TB_mark hT1
  obtain ⟨⟨R1, R2, R3⟩, -⟩ := id hT2
  have hsx := sxy d hd.1 hd.2
  have h3 := f_dirFrom τ2 (by rw [R1]; exact hz) (by rw [R2]; exact ht) (by rw [R2]; exact hpt) (x + sx d) (y + sy d) d (by omega) (by omega) hd
  have hIc : insC τ2 = insC σ0 := by unfold insC; rw [R1, R2, R3]
  rw [hIc, R2] at h3
  have hst : stC τ (x, y, d) t = τ2 := by rw [e2, e1]; rfl
  obtain ⟨g1, g2⟩ := tr_glue τ τ1 τ2 s.1 s.2.1 x y d (if t then 1 else 0) i (x + sx d) (y + sy d) _ (if ndr (insC σ0) (σ0 5 4) (x + sx d) (y + sy d) d ≠ d then 1 else 0) o8 hd (by omega) rfl rfl (by omega) (by omega) rfl h1 h2 h3
  have hb : stp (insC σ0) (σ0 5 4) (x, y, d) = (x + sx d, y + sy d, ndr (insC σ0) (σ0 5 4) (x + sx d) (y + sy d) d) := rfl
  have hc : wc_X8_traceFrom_1 [none, some s.1, some s.2.1, some x, some y, some d, some (if t then 1 else 0), some (i : Int), o8] τ = some (true, τ) := by
    have : (i : Int) < 442 := by omega
    simp only [wc_X8_traceFrom_1, cs_run, cs_L0, s_ret, s_retz, s_retv, s_seq, s_set, s_inc, s_put, s_ast, s_zst, s_cst, s_ada, s_if, s_ex, s_cv, s_nop, s_brk, x_ite, x_l, x_k, x_f, x_a, x_ro, x_add, x_sub, x_mul, x_div, x_rem, x_neg, x_call, x_max, x_min, x_abs, g_cons, g_nil, y_lt, y_le, y_gt, y_ge, y_eq, y_ne, y_not, y_and, y_or, y_ite, Option.bind_some, Option.bind_none, List.getElem?_cons_zero, List.getElem?_cons_succ, List.getElem?_nil, List.set_cons_zero, List.set_cons_succ, List.cons_append, List.nil_append, List.append_nil, List.replicate, List.length_cons, List.length_nil, Nat.reduceAdd, Nat.reduceSub, Nat.zero_add, Nat.sub_self, if_true, if_false, ite_true, ite_false, reduceIte, reduceCtorEq, decide_true, decide_false, decide_eq_true_eq, Bool.not_true, Bool.not_false, Bool.true_and, Bool.false_and, Bool.and_true, Bool.and_false, Bool.true_or, Bool.false_or, Bool.false_eq_true, Bool.true_eq_false, not_true_eq_false, not_false_eq_true, ne_eq, Int.reduceEq, Int.reduceNe, Int.reduceLT, Int.reduceLE, and_self, and_true, true_and, and_false, false_and, or_true, true_or, or_false, false_or, true_or, Option.map_some, this]
  by_cases hm0 : m = 0
  · subst hm0
    have hback : stp (insC σ0) (σ0 5 4) (x, y, d) = s := by rw [← hnx, show i + 1 = n by omega]; exact he
    rw [hb] at hback
    have q : x + sx d = s.1 ∧ y + sy d = s.2.1 ∧ ndr (insC σ0) (σ0 5 4) (x + sx d) (y + sy d) d = 0 := by
      refine ⟨congrArg (fun u : Arw => u.1) hback, congrArg (fun u : Arw => u.2.1) hback, ?_⟩
      rw [← hs0]
      exact congrArg (fun u : Arw => u.2.2) hback
    have hbd := g1 q
    unfold w_X8_traceFrom_1
    rw [s_wh_eq, hc]
    simp only [Option.bind_some, if_true, hbd, goC, hst]
  · have hnb : ¬ (x + sx d = s.1 ∧ y + sy d = s.2.1 ∧ ndr (insC σ0) (σ0 5 4) (x + sx d) (y + sy d) d = 0) := by
      rintro ⟨q1, q2, q3⟩
      apply hm (i + 1) (by omega) (by omega)
      rw [hnx, hb, q1, q2]
      obtain ⟨s1, s2, s3⟩ := s
      dsimp only at *
      rw [← q1, ← q2, q3, hs0]
    have hbd := g2 hnb
    have hnxt := next (by omega) (decide ((stp (insC σ0) (σ0 5 4) (x, y, d)).2.2 ≠ d)) (some (ndr (insC σ0) (σ0 5 4) (x + sx d) (y + sy d) d)) τ2 hT2
    rw [hnx] at hnxt
    have ht2 : (if decide ((stp (insC σ0) (σ0 5 4) (x, y, d)).2.2 ≠ d) = true then (1 : Int) else 0) = (if ndr (insC σ0) (σ0 5 4) (x + sx d) (y + sy d) d ≠ d then 1 else 0) := by
      simp only [decide_eq_true_eq]
      rfl
    rw [ht2] at hnxt
    rw [goC, hst]
    have hi1 : ((i + 1 : Nat) : Int) = (i : Int) + 1 := by omega
    rw [hi1] at hnxt
    unfold w_X8_traceFrom_1 at hnxt ⊢
    rw [s_wh_eq, hc]
    simp only [Option.bind_some, if_true, hbd]
    exact hnxt
theorem trace_loop (σ0 : cs_S) (hz : szJ (σ0 1 3) (σ0 1 4)) (ht : 1 ≤ σ0 5 3) (hpt : σ0 5 4 = 1 ∨ σ0 5 4 = 3) (l : List Arw) (hl : Ways (insC σ0) (σ0 5 4) l) (s : Arw) (hs : Vld (insC σ0) s) (hs0 : s.2.2 = 0) (hsl : s ∉ l) (n : Nat) (hn : n ≤ 442) (he : itr (insC σ0) (σ0 5 4) n s = s) (hm : ∀ k : Nat, 1 ≤ k → k < n → itr (insC σ0) (σ0 5 4) k s ≠ s) : ∀ (m i : Nat) (t : Bool) (o8 : Option Int) (τ : cs_S), n = i + (m + 1) → TB σ0 τ (l.length + i) →
    w_X8_traceFrom_1 [none, some s.1, some s.2.1, some (itr (insC σ0) (σ0 5 4) i s).1, some (itr (insC σ0) (σ0 5 4) i s).2.1, some (itr (insC σ0) (σ0 5 4) i s).2.2, some (if t then 1 else 0), some (i : Int), o8] τ = some (.inr (.inl (none, goC (insC σ0) (σ0 5 4) (m + 1) (itr (insC σ0) (σ0 5 4) i s) t τ))) := by
  intro m
  induction m with
  | zero =>
    intro i t o8 τ hni hT
    exact trace_step σ0 hz ht hpt l hl s hs hs0 hsl n hn he hm 0 i t o8 τ hni hT (fun h => by omega)
  | succ m ih =>
    intro i t o8 τ hni hT
    exact trace_step σ0 hz ht hpt l hl s hs hs0 hsl n hn he hm (m + 1) i t o8 τ hni hT (fun _ t' o' τ' hT' => ih (i + 1) t' o' τ' (by omega) hT')
