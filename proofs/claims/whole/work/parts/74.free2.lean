/-! is a removal free of other vertices -/
theorem f_inTriR {σ : cs_S} (h : CSo σ) (hR : RR σ) {a v b p : Int} (ha : 0 ≤ a ∧ a < σ 4 2) (hv : 0 ≤ v ∧ v < σ 4 2) (hb : 0 ≤ b ∧ b < σ 4 2) (hp : 0 ≤ p ∧ p < σ 4 2) : ∃ r : Int, f_X10_isInTriangle [a, v, b, p] σ = some (some r, σ) ∧ (r = 1 ∨ r = 0) ∧ (r = 1 ↔ inRf (vX σ a) (vY σ a) (vX σ v) (vY σ v) (vX σ b) (vY σ b) (vX σ p) (vY σ p)) := by
  obtain ⟨r1, e1, o1, i1⟩ := f_isOn h hR ha hv hp
  obtain ⟨r2, e2, o2, i2⟩ := f_isOn h hR hv hb hp
  obtain ⟨r3, e3, o3, i3⟩ := f_isOn h hR ha hb hp
  have t1 := f_turnR h hR ha hv hp
  have t2 := f_turnR h hR hv hb hp
  have t3 := f_turnR h hR hb ha hp
  have hdef : inRf (vX σ a) (vY σ a) (vX σ v) (vY σ v) (vX σ b) (vY σ b) (vX σ p) (vY σ p) ↔ onV σ a v p ∨ onV σ v b p ∨ onV σ a b p ∨ (trS σ a v (vX σ p) (vY σ p) > 0 ∧ trS σ v b (vX σ p) (vY σ p) > 0 ∧ trS σ b a (vX σ p) (vY σ p) > 0) ∨ (trS σ a v (vX σ p) (vY σ p) < 0 ∧ trS σ v b (vX σ p) (vY σ p) < 0 ∧ trS σ b a (vX σ p) (vY σ p) < 0) := Iff.rfl
  rw [hdef]
  generalize trS σ a v (vX σ p) (vY σ p) = s1 at *
  generalize trS σ v b (vX σ p) (vY σ p) = s2 at *
  generalize trS σ b a (vX σ p) (vY σ p) = s3 at *
  generalize onV σ a v p = O1 at *
  generalize onV σ v b p = O2 at *
  generalize onV σ a b p = O3 at *
  have g0 : (s_if (y_or (y_or (y_ne (x_call f_X10_isOn (g_cons (x_l 1) (g_cons (x_l 2) (g_cons (x_l 4) g_nil)))) (x_k 0)) (y_ne (x_call f_X10_isOn (g_cons (x_l 2) (g_cons (x_l 3) (g_cons (x_l 4) g_nil)))) (x_k 0))) (y_ne (x_call f_X10_isOn (g_cons (x_l 1) (g_cons (x_l 3) (g_cons (x_l 4) g_nil)))) (x_k 0))) (s_retz (x_k 1)) s_nop) [none, some a, some v, some b, some p, none, none, none] σ = if r1 = 1 ∨ r2 = 1 ∨ r3 = 1 then some (.inr (.inl (some 1, σ))) else some (.inl ([none, some a, some v, some b, some p, none, none, none], σ)) := by
    rcases o1 with rfl | rfl
    · simp only [cs_run, cs_L0, s_ret, s_retz, s_retv, s_seq, s_set, s_inc, s_put, s_ast, s_zst, s_cst, s_ada, s_if, s_ex, s_cv, s_nop, s_brk, x_ite, x_l, x_k, x_f, x_a, x_ro, x_add, x_sub, x_mul, x_div, x_rem, x_neg, x_call, x_max, x_min, x_abs, g_cons, g_nil, y_lt, y_le, y_gt, y_ge, y_eq, y_ne, y_not, y_and, y_or, y_ite, Option.bind_some, Option.bind_none, List.getElem?_cons_zero, List.getElem?_cons_succ, List.getElem?_nil, List.set_cons_zero, List.set_cons_succ, List.cons_append, List.nil_append, List.append_nil, List.replicate, List.length_cons, List.length_nil, Nat.reduceAdd, Nat.reduceSub, Nat.zero_add, Nat.sub_self, if_true, if_false, ite_true, ite_false, reduceIte, reduceCtorEq, decide_true, decide_false, decide_eq_true_eq, Bool.not_true, Bool.not_false, Bool.true_and, Bool.false_and, Bool.and_true, Bool.and_false, Bool.true_or, Bool.false_or, Bool.false_eq_true, Bool.true_eq_false, not_true_eq_false, not_false_eq_true, ne_eq, Int.reduceEq, Int.reduceNe, Int.reduceLT, Int.reduceLE, and_self, and_true, true_and, and_false, false_and, or_true, true_or, or_false, false_or, true_or, Option.map_some, e1]
    · rcases o2 with rfl | rfl
      · simp only [cs_run, cs_L0, s_ret, s_retz, s_retv, s_seq, s_set, s_inc, s_put, s_ast, s_zst, s_cst, s_ada, s_if, s_ex, s_cv, s_nop, s_brk, x_ite, x_l, x_k, x_f, x_a, x_ro, x_add, x_sub, x_mul, x_div, x_rem, x_neg, x_call, x_max, x_min, x_abs, g_cons, g_nil, y_lt, y_le, y_gt, y_ge, y_eq, y_ne, y_not, y_and, y_or, y_ite, Option.bind_some, Option.bind_none, List.getElem?_cons_zero, List.getElem?_cons_succ, List.getElem?_nil, List.set_cons_zero, List.set_cons_succ, List.cons_append, List.nil_append, List.append_nil, List.replicate, List.length_cons, List.length_nil, Nat.reduceAdd, Nat.reduceSub, Nat.zero_add, Nat.sub_self, if_true, if_false, ite_true, ite_false, reduceIte, reduceCtorEq, decide_true, decide_false, decide_eq_true_eq, Bool.not_true, Bool.not_false, Bool.true_and, Bool.false_and, Bool.and_true, Bool.and_false, Bool.true_or, Bool.false_or, Bool.false_eq_true, Bool.true_eq_false, not_true_eq_false, not_false_eq_true, ne_eq, Int.reduceEq, Int.reduceNe, Int.reduceLT, Int.reduceLE, and_self, and_true, true_and, and_false, false_and, or_true, true_or, or_false, false_or, true_or, Option.map_some, e1, e2]
      · rcases o3 with rfl | rfl
        · simp only [cs_run, cs_L0, s_ret, s_retz, s_retv, s_seq, s_set, s_inc, s_put, s_ast, s_zst, s_cst, s_ada, s_if, s_ex, s_cv, s_nop, s_brk, x_ite, x_l, x_k, x_f, x_a, x_ro, x_add, x_sub, x_mul, x_div, x_rem, x_neg, x_call, x_max, x_min, x_abs, g_cons, g_nil, y_lt, y_le, y_gt, y_ge, y_eq, y_ne, y_not, y_and, y_or, y_ite, Option.bind_some, Option.bind_none, List.getElem?_cons_zero, List.getElem?_cons_succ, List.getElem?_nil, List.set_cons_zero, List.set_cons_succ, List.cons_append, List.nil_append, List.append_nil, List.replicate, List.length_cons, List.length_nil, Nat.reduceAdd, Nat.reduceSub, Nat.zero_add, Nat.sub_self, if_true, if_false, ite_true, ite_false, reduceIte, reduceCtorEq, decide_true, decide_false, decide_eq_true_eq, Bool.not_true, Bool.not_false, Bool.true_and, Bool.false_and, Bool.and_true, Bool.and_false, Bool.true_or, Bool.false_or, Bool.false_eq_true, Bool.true_eq_false, not_true_eq_false, not_false_eq_true, ne_eq, Int.reduceEq, Int.reduceNe, Int.reduceLT, Int.reduceLE, and_self, and_true, true_and, and_false, false_and, or_true, true_or, or_false, false_or, true_or, Option.map_some, e1, e2, e3]
        · simp only [cs_run, cs_L0, s_ret, s_retz, s_retv, s_seq, s_set, s_inc, s_put, s_ast, s_zst, s_cst, s_ada, s_if, s_ex, s_cv, s_nop, s_brk, x_ite, x_l, x_k, x_f, x_a, x_ro, x_add, x_sub, x_mul, x_div, x_rem, x_neg, x_call, x_max, x_min, x_abs, g_cons, g_nil, y_lt, y_le, y_gt, y_ge, y_eq, y_ne, y_not, y_and, y_or, y_ite, Option.bind_some, Option.bind_none, List.getElem?_cons_zero, List.getElem?_cons_succ, List.getElem?_nil, List.set_cons_zero, List.set_cons_succ, List.cons_append, List.nil_append, List.append_nil, List.replicate, List.length_cons, List.length_nil, Nat.reduceAdd, Nat.reduceSub, Nat.zero_add, Nat.sub_self, if_true, if_false, ite_true, ite_false, reduceIte, reduceCtorEq, decide_true, decide_false, decide_eq_true_eq, Bool.not_true, Bool.not_false, Bool.true_and, Bool.false_and, Bool.and_true, Bool.and_false, Bool.true_or, Bool.false_or, Bool.false_eq_true, Bool.true_eq_false, not_true_eq_false, not_false_eq_true, ne_eq, Int.reduceEq, Int.reduceNe, Int.reduceLT, Int.reduceLE, and_self, and_true, true_and, and_false, false_and, or_true, true_or, or_false, false_or, true_or, Option.map_some, e1, e2, e3]
  unfold f_X10_isInTriangle b_X10_isInTriangle cs_run
  simp only [cs_L0, Option.bind_some, Option.bind_none, List.getElem?_cons_zero, List.getElem?_cons_succ, List.getElem?_nil, List.set_cons_zero, List.set_cons_succ, List.cons_append, List.nil_append, List.append_nil, List.replicate, List.length_cons, List.length_nil, Nat.reduceAdd, Nat.reduceSub, Nat.zero_add, Nat.sub_self, if_true, if_false, ite_true, ite_false, reduceIte, reduceCtorEq, decide_true, decide_false, decide_eq_true_eq, Bool.not_true, Bool.not_false, Bool.true_and, Bool.false_and, Bool.and_true, Bool.and_false, Bool.true_or, Bool.false_or, Bool.false_eq_true, Bool.true_eq_false, not_true_eq_false, not_false_eq_true, ne_eq, Int.reduceEq, Int.reduceNe, Int.reduceLT, Int.reduceLE, and_self, and_true, true_and, and_false, false_and, or_true, true_or, or_false, false_or, true_or, Option.map_some]
  by_cases c : r1 = 1 ∨ r2 = 1 ∨ r3 = 1
  · rw [if_pos c] at g0
    refine ⟨1, ?_, Or.inl rfl, ?_⟩
    · rw [s_seq, g0]; rfl
    · rw [i1, i2, i3] at c
      exact ⟨fun _ => by rcases c with c | c | c; exact Or.inl c; exact Or.inr (Or.inl c); exact Or.inr (Or.inr (Or.inl c)), fun _ => rfl⟩
  · rw [if_neg c] at g0
    have g1 : (s_set 5 (x_call f_X10_turn (g_cons (x_l 1) (g_cons (x_l 2) (g_cons (x_l 4) g_nil))))) [none, some a, some v, some b, some p, none, none, none] σ = some (.inl ([none, some a, some v, some b, some p, some s1, none, none], σ)) := by simp only [cs_run, cs_L0, s_ret, s_retz, s_retv, s_seq, s_set, s_inc, s_put, s_ast, s_zst, s_cst, s_ada, s_if, s_ex, s_cv, s_nop, s_brk, x_ite, x_l, x_k, x_f, x_a, x_ro, x_add, x_sub, x_mul, x_div, x_rem, x_neg, x_call, x_max, x_min, x_abs, g_cons, g_nil, y_lt, y_le, y_gt, y_ge, y_eq, y_ne, y_not, y_and, y_or, y_ite, Option.bind_some, Option.bind_none, List.getElem?_cons_zero, List.getElem?_cons_succ, List.getElem?_nil, List.set_cons_zero, List.set_cons_succ, List.cons_append, List.nil_append, List.append_nil, List.replicate, List.length_cons, List.length_nil, Nat.reduceAdd, Nat.reduceSub, Nat.zero_add, Nat.sub_self, if_true, if_false, ite_true, ite_false, reduceIte, reduceCtorEq, decide_true, decide_false, decide_eq_true_eq, Bool.not_true, Bool.not_false, Bool.true_and, Bool.false_and, Bool.and_true, Bool.and_false, Bool.true_or, Bool.false_or, Bool.false_eq_true, Bool.true_eq_false, not_true_eq_false, not_false_eq_true, ne_eq, Int.reduceEq, Int.reduceNe, Int.reduceLT, Int.reduceLE, and_self, and_true, true_and, and_false, false_and, or_true, true_or, or_false, false_or, true_or, Option.map_some, t1]
    have g2 : (s_set 6 (x_call f_X10_turn (g_cons (x_l 2) (g_cons (x_l 3) (g_cons (x_l 4) g_nil))))) [none, some a, some v, some b, some p, some s1, none, none] σ = some (.inl ([none, some a, some v, some b, some p, some s1, some s2, none], σ)) := by simp only [cs_run, cs_L0, s_ret, s_retz, s_retv, s_seq, s_set, s_inc, s_put, s_ast, s_zst, s_cst, s_ada, s_if, s_ex, s_cv, s_nop, s_brk, x_ite, x_l, x_k, x_f, x_a, x_ro, x_add, x_sub, x_mul, x_div, x_rem, x_neg, x_call, x_max, x_min, x_abs, g_cons, g_nil, y_lt, y_le, y_gt, y_ge, y_eq, y_ne, y_not, y_and, y_or, y_ite, Option.bind_some, Option.bind_none, List.getElem?_cons_zero, List.getElem?_cons_succ, List.getElem?_nil, List.set_cons_zero, List.set_cons_succ, List.cons_append, List.nil_append, List.append_nil, List.replicate, List.length_cons, List.length_nil, Nat.reduceAdd, Nat.reduceSub, Nat.zero_add, Nat.sub_self, if_true, if_false, ite_true, ite_false, reduceIte, reduceCtorEq, decide_true, decide_false, decide_eq_true_eq, Bool.not_true, Bool.not_false, Bool.true_and, Bool.false_and, Bool.and_true, Bool.and_false, Bool.true_or, Bool.false_or, Bool.false_eq_true, Bool.true_eq_false, not_true_eq_false, not_false_eq_true, ne_eq, Int.reduceEq, Int.reduceNe, Int.reduceLT, Int.reduceLE, and_self, and_true, true_and, and_false, false_and, or_true, true_or, or_false, false_or, true_or, Option.map_some, t2]
    have g3 : (s_set 7 (x_call f_X10_turn (g_cons (x_l 3) (g_cons (x_l 1) (g_cons (x_l 4) g_nil))))) [none, some a, some v, some b, some p, some s1, some s2, none] σ = some (.inl ([none, some a, some v, some b, some p, some s1, some s2, some s3], σ)) := by simp only [cs_run, cs_L0, s_ret, s_retz, s_retv, s_seq, s_set, s_inc, s_put, s_ast, s_zst, s_cst, s_ada, s_if, s_ex, s_cv, s_nop, s_brk, x_ite, x_l, x_k, x_f, x_a, x_ro, x_add, x_sub, x_mul, x_div, x_rem, x_neg, x_call, x_max, x_min, x_abs, g_cons, g_nil, y_lt, y_le, y_gt, y_ge, y_eq, y_ne, y_not, y_and, y_or, y_ite, Option.bind_some, Option.bind_none, List.getElem?_cons_zero, List.getElem?_cons_succ, List.getElem?_nil, List.set_cons_zero, List.set_cons_succ, List.cons_append, List.nil_append, List.append_nil, List.replicate, List.length_cons, List.length_nil, Nat.reduceAdd, Nat.reduceSub, Nat.zero_add, Nat.sub_self, if_true, if_false, ite_true, ite_false, reduceIte, reduceCtorEq, decide_true, decide_false, decide_eq_true_eq, Bool.not_true, Bool.not_false, Bool.true_and, Bool.false_and, Bool.and_true, Bool.and_false, Bool.true_or, Bool.false_or, Bool.false_eq_true, Bool.true_eq_false, not_true_eq_false, not_false_eq_true, ne_eq, Int.reduceEq, Int.reduceNe, Int.reduceLT, Int.reduceLE, and_self, and_true, true_and, and_false, false_and, or_true, true_or, or_false, false_or, true_or, Option.map_some, t3]
    rw [sq_st g0, sq_st g1, sq_st g2, sq_st g3]
    rw [i1, i2, i3] at c
    have c1 : ¬ O1 := fun q => c (Or.inl q)
    have c2 : ¬ O2 := fun q => c (Or.inr (Or.inl q))
    have c3 : ¬ O3 := fun q => c (Or.inr (Or.inr q))
    simp only [c1, c2, c3, false_or]
    by_cases p1 : s1 > 0
    · have n1 : ¬ s1 < 0 := by omega
      by_cases p2 : s2 > 0
      · by_cases p3 : s3 > 0
        · exact ⟨1, by simp only [cs_run, cs_L0, s_ret, s_retz, s_retv, s_seq, s_set, s_inc, s_put, s_ast, s_zst, s_cst, s_ada, s_if, s_ex, s_cv, s_nop, s_brk, x_ite, x_l, x_k, x_f, x_a, x_ro, x_add, x_sub, x_mul, x_div, x_rem, x_neg, x_call, x_max, x_min, x_abs, g_cons, g_nil, y_lt, y_le, y_gt, y_ge, y_eq, y_ne, y_not, y_and, y_or, y_ite, Option.bind_some, Option.bind_none, List.getElem?_cons_zero, List.getElem?_cons_succ, List.getElem?_nil, List.set_cons_zero, List.set_cons_succ, List.cons_append, List.nil_append, List.append_nil, List.replicate, List.length_cons, List.length_nil, Nat.reduceAdd, Nat.reduceSub, Nat.zero_add, Nat.sub_self, if_true, if_false, ite_true, ite_false, reduceIte, reduceCtorEq, decide_true, decide_false, decide_eq_true_eq, Bool.not_true, Bool.not_false, Bool.true_and, Bool.false_and, Bool.and_true, Bool.and_false, Bool.true_or, Bool.false_or, Bool.false_eq_true, Bool.true_eq_false, not_true_eq_false, not_false_eq_true, ne_eq, Int.reduceEq, Int.reduceNe, Int.reduceLT, Int.reduceLE, and_self, and_true, true_and, and_false, false_and, or_true, true_or, or_false, false_or, true_or, Option.map_some, gt_iff_lt.mp p1, gt_iff_lt.mp p2, gt_iff_lt.mp p3], Or.inl rfl, by simp [p1, p2, p3]⟩
        · have p3' : ¬ 0 < s3 := p3
          exact ⟨0, by simp only [cs_run, cs_L0, s_ret, s_retz, s_retv, s_seq, s_set, s_inc, s_put, s_ast, s_zst, s_cst, s_ada, s_if, s_ex, s_cv, s_nop, s_brk, x_ite, x_l, x_k, x_f, x_a, x_ro, x_add, x_sub, x_mul, x_div, x_rem, x_neg, x_call, x_max, x_min, x_abs, g_cons, g_nil, y_lt, y_le, y_gt, y_ge, y_eq, y_ne, y_not, y_and, y_or, y_ite, Option.bind_some, Option.bind_none, List.getElem?_cons_zero, List.getElem?_cons_succ, List.getElem?_nil, List.set_cons_zero, List.set_cons_succ, List.cons_append, List.nil_append, List.append_nil, List.replicate, List.length_cons, List.length_nil, Nat.reduceAdd, Nat.reduceSub, Nat.zero_add, Nat.sub_self, if_true, if_false, ite_true, ite_false, reduceIte, reduceCtorEq, decide_true, decide_false, decide_eq_true_eq, Bool.not_true, Bool.not_false, Bool.true_and, Bool.false_and, Bool.and_true, Bool.and_false, Bool.true_or, Bool.false_or, Bool.false_eq_true, Bool.true_eq_false, not_true_eq_false, not_false_eq_true, ne_eq, Int.reduceEq, Int.reduceNe, Int.reduceLT, Int.reduceLE, and_self, and_true, true_and, and_false, false_and, or_true, true_or, or_false, false_or, true_or, Option.map_some, gt_iff_lt.mp p1, gt_iff_lt.mp p2, p3', n1], Or.inr rfl, by omega⟩
      · have p2' : ¬ 0 < s2 := p2
        exact ⟨0, by simp only [cs_run, cs_L0, s_ret, s_retz, s_retv, s_seq, s_set, s_inc, s_put, s_ast, s_zst, s_cst, s_ada, s_if, s_ex, s_cv, s_nop, s_brk, x_ite, x_l, x_k, x_f, x_a, x_ro, x_add, x_sub, x_mul, x_div, x_rem, x_neg, x_call, x_max, x_min, x_abs, g_cons, g_nil, y_lt, y_le, y_gt, y_ge, y_eq, y_ne, y_not, y_and, y_or, y_ite, Option.bind_some, Option.bind_none, List.getElem?_cons_zero, List.getElem?_cons_succ, List.getElem?_nil, List.set_cons_zero, List.set_cons_succ, List.cons_append, List.nil_append, List.append_nil, List.replicate, List.length_cons, List.length_nil, Nat.reduceAdd, Nat.reduceSub, Nat.zero_add, Nat.sub_self, if_true, if_false, ite_true, ite_false, reduceIte, reduceCtorEq, decide_true, decide_false, decide_eq_true_eq, Bool.not_true, Bool.not_false, Bool.true_and, Bool.false_and, Bool.and_true, Bool.and_false, Bool.true_or, Bool.false_or, Bool.false_eq_true, Bool.true_eq_false, not_true_eq_false, not_false_eq_true, ne_eq, Int.reduceEq, Int.reduceNe, Int.reduceLT, Int.reduceLE, and_self, and_true, true_and, and_false, false_and, or_true, true_or, or_false, false_or, true_or, Option.map_some, gt_iff_lt.mp p1, p2', n1], Or.inr rfl, by omega⟩
    · have p1' : ¬ 0 < s1 := p1
      by_cases q1 : s1 < 0
      · by_cases q2 : s2 < 0
        · by_cases q3 : s3 < 0
          · exact ⟨1, by simp only [cs_run, cs_L0, s_ret, s_retz, s_retv, s_seq, s_set, s_inc, s_put, s_ast, s_zst, s_cst, s_ada, s_if, s_ex, s_cv, s_nop, s_brk, x_ite, x_l, x_k, x_f, x_a, x_ro, x_add, x_sub, x_mul, x_div, x_rem, x_neg, x_call, x_max, x_min, x_abs, g_cons, g_nil, y_lt, y_le, y_gt, y_ge, y_eq, y_ne, y_not, y_and, y_or, y_ite, Option.bind_some, Option.bind_none, List.getElem?_cons_zero, List.getElem?_cons_succ, List.getElem?_nil, List.set_cons_zero, List.set_cons_succ, List.cons_append, List.nil_append, List.append_nil, List.replicate, List.length_cons, List.length_nil, Nat.reduceAdd, Nat.reduceSub, Nat.zero_add, Nat.sub_self, if_true, if_false, ite_true, ite_false, reduceIte, reduceCtorEq, decide_true, decide_false, decide_eq_true_eq, Bool.not_true, Bool.not_false, Bool.true_and, Bool.false_and, Bool.and_true, Bool.and_false, Bool.true_or, Bool.false_or, Bool.false_eq_true, Bool.true_eq_false, not_true_eq_false, not_false_eq_true, ne_eq, Int.reduceEq, Int.reduceNe, Int.reduceLT, Int.reduceLE, and_self, and_true, true_and, and_false, false_and, or_true, true_or, or_false, false_or, true_or, Option.map_some, p1', q1, q2, q3], Or.inl rfl, by omega⟩
          · exact ⟨0, by simp only [cs_run, cs_L0, s_ret, s_retz, s_retv, s_seq, s_set, s_inc, s_put, s_ast, s_zst, s_cst, s_ada, s_if, s_ex, s_cv, s_nop, s_brk, x_ite, x_l, x_k, x_f, x_a, x_ro, x_add, x_sub, x_mul, x_div, x_rem, x_neg, x_call, x_max, x_min, x_abs, g_cons, g_nil, y_lt, y_le, y_gt, y_ge, y_eq, y_ne, y_not, y_and, y_or, y_ite, Option.bind_some, Option.bind_none, List.getElem?_cons_zero, List.getElem?_cons_succ, List.getElem?_nil, List.set_cons_zero, List.set_cons_succ, List.cons_append, List.nil_append, List.append_nil, List.replicate, List.length_cons, List.length_nil, Nat.reduceAdd, Nat.reduceSub, Nat.zero_add, Nat.sub_self, if_true, if_false, ite_true, ite_false, reduceIte, reduceCtorEq, decide_true, decide_false, decide_eq_true_eq, Bool.not_true, Bool.not_false, Bool.true_and, Bool.false_and, Bool.and_true, Bool.and_false, Bool.true_or, Bool.false_or, Bool.false_eq_true, Bool.true_eq_false, not_true_eq_false, not_false_eq_true, ne_eq, Int.reduceEq, Int.reduceNe, Int.reduceLT, Int.reduceLE, and_self, and_true, true_and, and_false, false_and, or_true, true_or, or_false, false_or, true_or, Option.map_some, p1', q1, q2, q3], Or.inr rfl, by omega⟩
        · exact ⟨0, by simp only [cs_run, cs_L0, s_ret, s_retz, s_retv, s_seq, s_set, s_inc, s_put, s_ast, s_zst, s_cst, s_ada, s_if, s_ex, s_cv, s_nop, s_brk, x_ite, x_l, x_k, x_f, x_a, x_ro, x_add, x_sub, x_mul, x_div, x_rem, x_neg, x_call, x_max, x_min, x_abs, g_cons, g_nil, y_lt, y_le, y_gt, y_ge, y_eq, y_ne, y_not, y_and, y_or, y_ite, Option.bind_some, Option.bind_none, List.getElem?_cons_zero, List.getElem?_cons_succ, List.getElem?_nil, List.set_cons_zero, List.set_cons_succ, List.cons_append, List.nil_append, List.append_nil, List.replicate, List.length_cons, List.length_nil, Nat.reduceAdd, Nat.reduceSub, Nat.zero_add, Nat.sub_self, if_true, if_false, ite_true, ite_false, reduceIte, reduceCtorEq, decide_true, decide_false, decide_eq_true_eq, Bool.not_true, Bool.not_false, Bool.true_and, Bool.false_and, Bool.and_true, Bool.and_false, Bool.true_or, Bool.false_or, Bool.false_eq_true, Bool.true_eq_false, not_true_eq_false, not_false_eq_true, ne_eq, Int.reduceEq, Int.reduceNe, Int.reduceLT, Int.reduceLE, and_self, and_true, true_and, and_false, false_and, or_true, true_or, or_false, false_or, true_or, Option.map_some, p1', q1, q2], Or.inr rfl, by omega⟩
      · exact ⟨0, by simp only [cs_run, cs_L0, s_ret, s_retz, s_retv, s_seq, s_set, s_inc, s_put, s_ast, s_zst, s_cst, s_ada, s_if, s_ex, s_cv, s_nop, s_brk, x_ite, x_l, x_k, x_f, x_a, x_ro, x_add, x_sub, x_mul, x_div, x_rem, x_neg, x_call, x_max, x_min, x_abs, g_cons, g_nil, y_lt, y_le, y_gt, y_ge, y_eq, y_ne, y_not, y_and, y_or, y_ite, Option.bind_some, Option.bind_none, List.getElem?_cons_zero, List.getElem?_cons_succ, List.getElem?_nil, List.set_cons_zero, List.set_cons_succ, List.cons_append, List.nil_append, List.append_nil, List.replicate, List.length_cons, List.length_nil, Nat.reduceAdd, Nat.reduceSub, Nat.zero_add, Nat.sub_self, if_true, if_false, ite_true, ite_false, reduceIte, reduceCtorEq, decide_true, decide_false, decide_eq_true_eq, Bool.not_true, Bool.not_false, Bool.true_and, Bool.false_and, Bool.and_true, Bool.and_false, Bool.true_or, Bool.false_or, Bool.false_eq_true, Bool.true_eq_false, not_true_eq_false, not_false_eq_true, ne_eq, Int.reduceEq, Int.reduceNe, Int.reduceLT, Int.reduceLE, and_self, and_true, true_and, and_false, false_and, or_true, true_or, or_false, false_or, true_or, Option.map_some, p1', q1], Or.inr rfl, by omega⟩
theorem sm_split {D : Nat → Int} {v : Nat} : ∀ {n : Nat}, v < n → sm D n = D v + sm (fun k => if k = v then 0 else D k) n
  | 0, h => by omega
  | n + 1, h => by
    rw [sm, sm]
    by_cases e : n = v
    · subst e
      rw [if_pos rfl, sm_congr (E := D) (D := fun k => if k = n then 0 else D k) (fun k hk => if_neg (by omega))]
      omega
    · rw [if_neg e, sm_split (v := v) (by omega)]; omega
theorem sm_pos {E : Nat → Int} : ∀ {n : Nat}, (∀ k, k < n → 0 ≤ E k) → (0 < sm E n ↔ ∃ k, k < n ∧ 0 < E k)
  | 0, _ => by simp [sm]
  | n + 1, h => by
    have ih := sm_pos (n := n) (fun k hk => h k (by omega))
    have h0 : 0 ≤ sm E n := by
      have : ∀ m : Nat, m ≤ n → 0 ≤ sm E m := by
        intro m
        induction m with
        | zero => intro _; exact Int.le_refl 0
        | succ m ihm => intro hm; rw [sm]; have := ihm (by omega); have := h m (by omega); omega
      exact this n (Nat.le_refl n)
    have hn := h n (by omega)
    rw [sm]
    constructor
    · intro q
      by_cases z : 0 < E n
      · exact ⟨n, by omega, z⟩
      · obtain ⟨k, k1, k2⟩ := ih.mp (by omega)
        exact ⟨k, by omega, k2⟩
    · rintro ⟨k, k1, k2⟩
      by_cases e : k = n
      · subst e; omega
      · have := ih.mpr ⟨k, by omega, k2⟩
        omega
def othS (σ : cs_S) (v x y : Int) : Prop := ∃ u : Int, (0 ≤ u ∧ u < σ 4 2) ∧ u ≠ v ∧ Pr σ u = true ∧ (vX σ u = x ∧ vY σ u = y)
theorem f_otherAt {σ : cs_S} (h : CSo σ) (h2 : CPr σ) {v x y : Int} (hv : 0 ≤ v ∧ v < σ 4 2) (hx : 0 ≤ x ∧ x ≤ 16) (hy : 0 ≤ y ∧ y ≤ 12) : ∃ r : Int, f_X3_isOtherAt [v, x, y] σ = some (some r, σ) ∧ (r = 1 ∨ r = 0) ∧ (r = 1 ↔ othS σ v x y) := by
  have hbb := h.1
  have ha := f_isAt h x y hv
  have h24 := h2.2.2.2 (y * 17 + x).toNat (by omega)
  have c1 : (0 : Int) ≤ v ∧ v < ((442 : Nat) : Int) := by omega
  have c2 : (0 : Int) ≤ y * 17 + x ∧ y * 17 + x < ((221 : Nat) : Int) := by omega
  have d1 : cs_InR (y * 17) := by omega
  have d2 : cs_InR (y * 17 + x) := by omega
  obtain ⟨D, hD⟩ : ∃ D : Nat → Int, D = fun w => if σ 23 w ≠ 0 ∧ σ 22 w * 17 + σ 21 w = (((y * 17 + x).toNat : Nat) : Int) then 1 else 0 := ⟨_, rfl⟩
  have hDw : ∀ w : Nat, (w : Int) < σ 4 2 → ((0 < D w ↔ Pr σ w = true ∧ vX σ w = x ∧ vY σ w = y) ∧ 0 ≤ D w) := by
    intro w hw
    have hr := h.2.2.2.2 w hw
    rw [hD]
    dsimp only
    unfold Pr vX vY
    rw [decide_eq_true_eq, show ((w : Nat) : Int).toNat = w by simp]
    split
    · next q => exact ⟨⟨fun _ => ⟨q.1, by omega, by omega⟩, fun _ => by omega⟩, by omega⟩
    · next q => exact ⟨⟨fun z => by omega, fun z => absurd ⟨z.1, by omega⟩ q⟩, by omega⟩
  have hcat : cAt σ (y * 17 + x).toNat = sm D (σ 4 2).toNat := by rw [hD]; rfl
  rw [hcat, sm_split (D := D) (v := v.toNat) (by omega)] at h24
  have hpos := sm_pos (E := fun k => if k = v.toNat then 0 else D k) (n := (σ 4 2).toNat) (fun k hk => by split; omega; exact (hDw k (by omega)).2)
  have hoth : othS σ v x y ↔ 0 < sm (fun k => if k = v.toNat then 0 else D k) (σ 4 2).toNat := by
    rw [hpos]
    constructor
    · rintro ⟨u, u1, u2, u3, u4⟩
      refine ⟨u.toNat, by omega, ?_⟩
      rw [if_neg (by omega)]
      refine (hDw u.toNat (by omega)).1.mpr ?_
      rw [show ((u.toNat : Nat) : Int) = u by omega]
      exact ⟨u3, u4⟩
    · rintro ⟨k, k1, k2⟩
      by_cases e : k = v.toNat
      · rw [if_pos e] at k2; omega
      · rw [if_neg e] at k2
        obtain ⟨z1, z2⟩ := (hDw k (by omega)).1.mp k2
        exact ⟨k, by omega, by omega, z1, z2⟩
  rw [hoth]
  have hDv : D v.toNat = if (σ 23 v.toNat ≠ 0 ∧ atB σ v x y = true) then 1 else 0 := by
    have := hDw v.toNat (by omega)
    rw [show ((v.toNat : Nat) : Int) = v by omega] at this
    have hle : D v.toNat ≤ 1 := by rw [hD]; dsimp only; split <;> omega
    unfold Pr at this
    rw [decide_eq_true_eq] at this
    have hat : atB σ v x y = true ↔ vX σ v = x ∧ vY σ v = y := decide_eq_true_iff
    by_cases q : σ 23 v.toNat ≠ 0 ∧ atB σ v x y = true
    · rw [if_pos q]
      have := this.1.mpr ⟨q.1, hat.mp q.2⟩
      omega
    · rw [if_neg q]
      have n0 : ¬ 0 < D v.toNat := fun z => q ⟨(this.1.mp z).1, hat.mpr (this.1.mp z).2⟩
      omega
  generalize sm (fun k => if k = v.toNat then 0 else D k) (σ 4 2).toNat = S at *
  have g4 : (s_set 4 (x_ite (y_and (y_ne (x_a 23 442 (x_l 1)) (x_k 0)) (y_ne (x_call f_X3_isAt (g_cons (x_l 1) (g_cons (x_l 2) (g_cons (x_l 3) g_nil)))) (x_k 0))) (x_k 1) (x_k 0))) [none, some v, some x, some y, none] σ = some (.inl ([none, some v, some x, some y, some (D v.toNat)], σ)) := by
    rw [hDv]
    by_cases q1 : σ 23 v.toNat = 0
    · simp only [cs_run, cs_L0, s_ret, s_retz, s_retv, s_seq, s_set, s_inc, s_put, s_ast, s_zst, s_cst, s_ada, s_if, s_ex, s_cv, s_nop, s_brk, x_ite, x_l, x_k, x_f, x_a, x_ro, x_add, x_sub, x_mul, x_div, x_rem, x_neg, x_call, x_max, x_min, x_abs, g_cons, g_nil, y_lt, y_le, y_gt, y_ge, y_eq, y_ne, y_not, y_and, y_or, y_ite, Option.bind_some, Option.bind_none, List.getElem?_cons_zero, List.getElem?_cons_succ, List.getElem?_nil, List.set_cons_zero, List.set_cons_succ, List.cons_append, List.nil_append, List.append_nil, List.replicate, List.length_cons, List.length_nil, Nat.reduceAdd, Nat.reduceSub, Nat.zero_add, Nat.sub_self, if_true, if_false, ite_true, ite_false, reduceIte, reduceCtorEq, decide_true, decide_false, decide_eq_true_eq, Bool.not_true, Bool.not_false, Bool.true_and, Bool.false_and, Bool.and_true, Bool.and_false, Bool.true_or, Bool.false_or, Bool.false_eq_true, Bool.true_eq_false, not_true_eq_false, not_false_eq_true, ne_eq, Int.reduceEq, Int.reduceNe, Int.reduceLT, Int.reduceLE, and_self, and_true, true_and, and_false, false_and, or_true, true_or, or_false, false_or, true_or, Option.map_some, cs_rd_ok c1, q1]
    · cases q2 : atB σ v x y <;> rw [q2] at ha <;> simp only [cs_run, cs_L0, s_ret, s_retz, s_retv, s_seq, s_set, s_inc, s_put, s_ast, s_zst, s_cst, s_ada, s_if, s_ex, s_cv, s_nop, s_brk, x_ite, x_l, x_k, x_f, x_a, x_ro, x_add, x_sub, x_mul, x_div, x_rem, x_neg, x_call, x_max, x_min, x_abs, g_cons, g_nil, y_lt, y_le, y_gt, y_ge, y_eq, y_ne, y_not, y_and, y_or, y_ite, Option.bind_some, Option.bind_none, List.getElem?_cons_zero, List.getElem?_cons_succ, List.getElem?_nil, List.set_cons_zero, List.set_cons_succ, List.cons_append, List.nil_append, List.append_nil, List.replicate, List.length_cons, List.length_nil, Nat.reduceAdd, Nat.reduceSub, Nat.zero_add, Nat.sub_self, if_true, if_false, ite_true, ite_false, reduceIte, reduceCtorEq, decide_true, decide_false, decide_eq_true_eq, Bool.not_true, Bool.not_false, Bool.true_and, Bool.false_and, Bool.and_true, Bool.and_false, Bool.true_or, Bool.false_or, Bool.false_eq_true, Bool.true_eq_false, not_true_eq_false, not_false_eq_true, ne_eq, Int.reduceEq, Int.reduceNe, Int.reduceLT, Int.reduceLE, and_self, and_true, true_and, and_false, false_and, or_true, true_or, or_false, false_or, true_or, Option.map_some, cs_rd_ok c1, q1, ha]
  unfold f_X3_isOtherAt b_X3_isOtherAt cs_run
  simp only [cs_L0, Option.bind_some, Option.bind_none, List.getElem?_cons_zero, List.getElem?_cons_succ, List.getElem?_nil, List.set_cons_zero, List.set_cons_succ, List.cons_append, List.nil_append, List.append_nil, List.replicate, List.length_cons, List.length_nil, Nat.reduceAdd, Nat.reduceSub, Nat.zero_add, Nat.sub_self, if_true, if_false, ite_true, ite_false, reduceIte, reduceCtorEq, decide_true, decide_false, decide_eq_true_eq, Bool.not_true, Bool.not_false, Bool.true_and, Bool.false_and, Bool.and_true, Bool.and_false, Bool.true_or, Bool.false_or, Bool.false_eq_true, Bool.true_eq_false, not_true_eq_false, not_false_eq_true, ne_eq, Int.reduceEq, Int.reduceNe, Int.reduceLT, Int.reduceLE, and_self, and_true, true_and, and_false, false_and, or_true, true_or, or_false, false_or, true_or, Option.map_some]
  rw [sq_st g4]
  by_cases q : 0 < S
  · have q' : D v.toNat < D v.toNat + S := by omega
    refine ⟨1, by simp only [cs_run, cs_L0, s_ret, s_retz, s_retv, s_seq, s_set, s_inc, s_put, s_ast, s_zst, s_cst, s_ada, s_if, s_ex, s_cv, s_nop, s_brk, x_ite, x_l, x_k, x_f, x_a, x_ro, x_add, x_sub, x_mul, x_div, x_rem, x_neg, x_call, x_max, x_min, x_abs, g_cons, g_nil, y_lt, y_le, y_gt, y_ge, y_eq, y_ne, y_not, y_and, y_or, y_ite, Option.bind_some, Option.bind_none, List.getElem?_cons_zero, List.getElem?_cons_succ, List.getElem?_nil, List.set_cons_zero, List.set_cons_succ, List.cons_append, List.nil_append, List.append_nil, List.replicate, List.length_cons, List.length_nil, Nat.reduceAdd, Nat.reduceSub, Nat.zero_add, Nat.sub_self, if_true, if_false, ite_true, ite_false, reduceIte, reduceCtorEq, decide_true, decide_false, decide_eq_true_eq, Bool.not_true, Bool.not_false, Bool.true_and, Bool.false_and, Bool.and_true, Bool.and_false, Bool.true_or, Bool.false_or, Bool.false_eq_true, Bool.true_eq_false, not_true_eq_false, not_false_eq_true, ne_eq, Int.reduceEq, Int.reduceNe, Int.reduceLT, Int.reduceLE, and_self, and_true, true_and, and_false, false_and, or_true, true_or, or_false, false_or, true_or, Option.map_some, cs_chk_ok d1, cs_chk_ok d2, cs_rd_ok c2, h24, q'], Or.inl rfl, by simp [q]⟩
  · have q' : ¬ D v.toNat < D v.toNat + S := by omega
    refine ⟨0, by simp only [cs_run, cs_L0, s_ret, s_retz, s_retv, s_seq, s_set, s_inc, s_put, s_ast, s_zst, s_cst, s_ada, s_if, s_ex, s_cv, s_nop, s_brk, x_ite, x_l, x_k, x_f, x_a, x_ro, x_add, x_sub, x_mul, x_div, x_rem, x_neg, x_call, x_max, x_min, x_abs, g_cons, g_nil, y_lt, y_le, y_gt, y_ge, y_eq, y_ne, y_not, y_and, y_or, y_ite, Option.bind_some, Option.bind_none, List.getElem?_cons_zero, List.getElem?_cons_succ, List.getElem?_nil, List.set_cons_zero, List.set_cons_succ, List.cons_append, List.nil_append, List.append_nil, List.replicate, List.length_cons, List.length_nil, Nat.reduceAdd, Nat.reduceSub, Nat.zero_add, Nat.sub_self, if_true, if_false, ite_true, ite_false, reduceIte, reduceCtorEq, decide_true, decide_false, decide_eq_true_eq, Bool.not_true, Bool.not_false, Bool.true_and, Bool.false_and, Bool.and_true, Bool.and_false, Bool.true_or, Bool.false_or, Bool.false_eq_true, Bool.true_eq_false, not_true_eq_false, not_false_eq_true, ne_eq, Int.reduceEq, Int.reduceNe, Int.reduceLT, Int.reduceLE, and_self, and_true, true_and, and_false, false_and, or_true, true_or, or_false, false_or, true_or, Option.map_some, cs_chk_ok d1, cs_chk_ok d2, cs_rd_ok c2, h24, q'], Or.inr rfl, by simp [q]⟩
