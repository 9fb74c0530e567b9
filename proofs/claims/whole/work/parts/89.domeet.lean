/-! meeting, the reference's way -/
def dmP (σ : cs_S) (u w s t a b : Int) : Prop := (looP σ u a b ∧ onV σ s t u) ∨ (looP σ w a b ∧ onV σ s t w) ∨ (looP σ s a b ∧ onV σ u w s) ∨ (looP σ t a b ∧ onV σ u w t) ∨ (zr4 σ u w s t ∧ (0 < comS (vX σ u) (vX σ w) (vX σ s) (vX σ t) ∨ 0 < comS (vY σ u) (vY σ w) (vY σ s) (vY σ t))) ∨ (¬ zr4 σ u w s t ∧ strC (trS σ u w (vX σ s) (vY σ s)) (trS σ u w (vX σ t) (vY σ t)) (trS σ s t (vX σ u) (vY σ u)) (trS σ s t (vX σ w) (vY σ w)))
theorem pair01 {e1 e2 : cs_E} {L : cs_L} {σ : cs_S} {r1 r2 : Int} {P Q : Prop} (h1 : e1 L σ = some (r1, σ)) (h2 : e2 L σ = some (r2, σ)) (z1 : r1 = 1 ∨ r1 = 0) (z2 : r2 = 1 ∨ r2 = 0) (i1 : r1 = 1 ↔ P) (i2 : r2 = 1 ↔ Q) : ∃ b : Bool, y_and (y_ne e1 (x_k 0)) (y_ne e2 (x_k 0)) L σ = some (b, σ) ∧ (b = true ↔ P ∧ Q) := by
  refine ⟨_, ya (yne0 h1) (yne0 h2), ?_⟩
  rw [Bool.and_eq_true, decide_eq_true_eq, decide_eq_true_eq, ← i1, ← i2]
  omega
theorem f_doMeet {σ : cs_S} (h : CSo σ) (hR : RR σ) {u w s t a b : Int} (hu : 0 ≤ u ∧ u < σ 4 2) (hw : 0 ≤ w ∧ w < σ 4 2) (hs : 0 ≤ s ∧ s < σ 4 2) (ht : 0 ≤ t ∧ t < σ 4 2) (ha : 0 ≤ a ∧ a < σ 4 2) (hb : 0 ≤ b ∧ b < σ 4 2) : ∃ r : Int, f_X10_doMeet [u, w, s, t, a, b] σ = some (some r, σ) ∧ (r = 1 ∨ r = 0) ∧ (r = 1 ↔ dmP σ u w s t a b) := by
  obtain ⟨r1, e1, z1, i1⟩ := f_isLoose h hR hu ha hb
  obtain ⟨r2, e2, z2, i2⟩ := f_isOn h hR hs ht hu
  obtain ⟨r3, e3, z3, i3⟩ := f_isLoose h hR hw ha hb
  obtain ⟨r4, e4, z4, i4⟩ := f_isOn h hR hs ht hw
  obtain ⟨r5, e5, z5, i5⟩ := f_isLoose h hR hs ha hb
  obtain ⟨r6, e6, z6, i6⟩ := f_isOn h hR hu hw hs
  obtain ⟨r7, e7, z7, i7⟩ := f_isLoose h hR ht ha hb
  obtain ⟨r8, e8, z8, i8⟩ := f_isOn h hR hu hw ht
  obtain ⟨r9, e9, z9, i9⟩ := f_isLong h hR hu hw hs ht
  have t1 := f_turnR h hR hs ht hu
  have t2 := f_turnR h hR hs ht hw
  have t3 := f_turnR h hR hu hw hs
  have t4 := f_turnR h hR hu hw ht
  have hdef : dmP σ u w s t a b ↔ (looP σ u a b ∧ onV σ s t u) ∨ (looP σ w a b ∧ onV σ s t w) ∨ (looP σ s a b ∧ onV σ u w s) ∨ (looP σ t a b ∧ onV σ u w t) ∨ ((trS σ u w (vX σ s) (vY σ s) = 0 ∧ trS σ u w (vX σ t) (vY σ t) = 0 ∧ trS σ s t (vX σ u) (vY σ u) = 0 ∧ trS σ s t (vX σ w) (vY σ w) = 0) ∧ (0 < comS (vX σ u) (vX σ w) (vX σ s) (vX σ t) ∨ 0 < comS (vY σ u) (vY σ w) (vY σ s) (vY σ t))) ∨ (¬ (trS σ u w (vX σ s) (vY σ s) = 0 ∧ trS σ u w (vX σ t) (vY σ t) = 0 ∧ trS σ s t (vX σ u) (vY σ u) = 0 ∧ trS σ s t (vX σ w) (vY σ w) = 0) ∧ strC (trS σ u w (vX σ s) (vY σ s)) (trS σ u w (vX σ t) (vY σ t)) (trS σ s t (vX σ u) (vY σ u)) (trS σ s t (vX σ w) (vY σ w))) := Iff.rfl
  rw [hdef, ← i9]
  clear hdef i9
  generalize trS σ u w (vX σ s) (vY σ s) = s6 at *
  generalize trS σ u w (vX σ t) (vY σ t) = s7 at *
  generalize trS σ s t (vX σ u) (vY σ u) = s8 at *
  generalize trS σ s t (vX σ w) (vY σ w) = s9 at *
  generalize looP σ u a b = P1 at *
  generalize onV σ s t u = P2 at *
  generalize looP σ w a b = P3 at *
  generalize onV σ s t w = P4 at *
  generalize looP σ s a b = P5 at *
  generalize onV σ u w s = P6 at *
  generalize looP σ t a b = P7 at *
  generalize onV σ u w t = P8 at *
  have m1 : (x_call f_X10_isLoose (g_cons (x_l 1) (g_cons (x_l 5) (g_cons (x_l 6) g_nil)))) [none, some u, some w, some s, some t, some a, some b, none, none, none, none, none] σ = some (r1, σ) := by simp only [cs_run, cs_L0, s_ret, s_retz, s_retv, s_seq, s_set, s_inc, s_put, s_ast, s_zst, s_cst, s_ada, s_if, s_ex, s_cv, s_nop, s_brk, x_ite, x_l, x_k, x_f, x_a, x_ro, x_add, x_sub, x_mul, x_div, x_rem, x_neg, x_call, x_max, x_min, x_abs, g_cons, g_nil, y_lt, y_le, y_gt, y_ge, y_eq, y_ne, y_not, y_and, y_or, y_ite, Option.bind_some, Option.bind_none, List.getElem?_cons_zero, List.getElem?_cons_succ, List.getElem?_nil, List.set_cons_zero, List.set_cons_succ, List.cons_append, List.nil_append, List.append_nil, List.replicate, List.length_cons, List.length_nil, Nat.reduceAdd, Nat.reduceSub, Nat.zero_add, Nat.sub_self, if_true, if_false, ite_true, ite_false, reduceIte, reduceCtorEq, decide_true, decide_false, decide_eq_true_eq, Bool.not_true, Bool.not_false, Bool.true_and, Bool.false_and, Bool.and_true, Bool.and_false, Bool.true_or, Bool.false_or, Bool.false_eq_true, Bool.true_eq_false, not_true_eq_false, not_false_eq_true, ne_eq, Int.reduceEq, Int.reduceNe, Int.reduceLT, Int.reduceLE, and_self, and_true, true_and, and_false, false_and, or_true, true_or, or_false, false_or, true_or, Option.map_some, e1]
  have m2 : (x_call f_X10_isOn (g_cons (x_l 3) (g_cons (x_l 4) (g_cons (x_l 1) g_nil)))) [none, some u, some w, some s, some t, some a, some b, none, none, none, none, none] σ = some (r2, σ) := by simp only [cs_run, cs_L0, s_ret, s_retz, s_retv, s_seq, s_set, s_inc, s_put, s_ast, s_zst, s_cst, s_ada, s_if, s_ex, s_cv, s_nop, s_brk, x_ite, x_l, x_k, x_f, x_a, x_ro, x_add, x_sub, x_mul, x_div, x_rem, x_neg, x_call, x_max, x_min, x_abs, g_cons, g_nil, y_lt, y_le, y_gt, y_ge, y_eq, y_ne, y_not, y_and, y_or, y_ite, Option.bind_some, Option.bind_none, List.getElem?_cons_zero, List.getElem?_cons_succ, List.getElem?_nil, List.set_cons_zero, List.set_cons_succ, List.cons_append, List.nil_append, List.append_nil, List.replicate, List.length_cons, List.length_nil, Nat.reduceAdd, Nat.reduceSub, Nat.zero_add, Nat.sub_self, if_true, if_false, ite_true, ite_false, reduceIte, reduceCtorEq, decide_true, decide_false, decide_eq_true_eq, Bool.not_true, Bool.not_false, Bool.true_and, Bool.false_and, Bool.and_true, Bool.and_false, Bool.true_or, Bool.false_or, Bool.false_eq_true, Bool.true_eq_false, not_true_eq_false, not_false_eq_true, ne_eq, Int.reduceEq, Int.reduceNe, Int.reduceLT, Int.reduceLE, and_self, and_true, true_and, and_false, false_and, or_true, true_or, or_false, false_or, true_or, Option.map_some, e2]
  have m3 : (x_call f_X10_isLoose (g_cons (x_l 2) (g_cons (x_l 5) (g_cons (x_l 6) g_nil)))) [none, some u, some w, some s, some t, some a, some b, none, none, none, none, none] σ = some (r3, σ) := by simp only [cs_run, cs_L0, s_ret, s_retz, s_retv, s_seq, s_set, s_inc, s_put, s_ast, s_zst, s_cst, s_ada, s_if, s_ex, s_cv, s_nop, s_brk, x_ite, x_l, x_k, x_f, x_a, x_ro, x_add, x_sub, x_mul, x_div, x_rem, x_neg, x_call, x_max, x_min, x_abs, g_cons, g_nil, y_lt, y_le, y_gt, y_ge, y_eq, y_ne, y_not, y_and, y_or, y_ite, Option.bind_some, Option.bind_none, List.getElem?_cons_zero, List.getElem?_cons_succ, List.getElem?_nil, List.set_cons_zero, List.set_cons_succ, List.cons_append, List.nil_append, List.append_nil, List.replicate, List.length_cons, List.length_nil, Nat.reduceAdd, Nat.reduceSub, Nat.zero_add, Nat.sub_self, if_true, if_false, ite_true, ite_false, reduceIte, reduceCtorEq, decide_true, decide_false, decide_eq_true_eq, Bool.not_true, Bool.not_false, Bool.true_and, Bool.false_and, Bool.and_true, Bool.and_false, Bool.true_or, Bool.false_or, Bool.false_eq_true, Bool.true_eq_false, not_true_eq_false, not_false_eq_true, ne_eq, Int.reduceEq, Int.reduceNe, Int.reduceLT, Int.reduceLE, and_self, and_true, true_and, and_false, false_and, or_true, true_or, or_false, false_or, true_or, Option.map_some, e3]
  have m4 : (x_call f_X10_isOn (g_cons (x_l 3) (g_cons (x_l 4) (g_cons (x_l 2) g_nil)))) [none, some u, some w, some s, some t, some a, some b, none, none, none, none, none] σ = some (r4, σ) := by simp only [cs_run, cs_L0, s_ret, s_retz, s_retv, s_seq, s_set, s_inc, s_put, s_ast, s_zst, s_cst, s_ada, s_if, s_ex, s_cv, s_nop, s_brk, x_ite, x_l, x_k, x_f, x_a, x_ro, x_add, x_sub, x_mul, x_div, x_rem, x_neg, x_call, x_max, x_min, x_abs, g_cons, g_nil, y_lt, y_le, y_gt, y_ge, y_eq, y_ne, y_not, y_and, y_or, y_ite, Option.bind_some, Option.bind_none, List.getElem?_cons_zero, List.getElem?_cons_succ, List.getElem?_nil, List.set_cons_zero, List.set_cons_succ, List.cons_append, List.nil_append, List.append_nil, List.replicate, List.length_cons, List.length_nil, Nat.reduceAdd, Nat.reduceSub, Nat.zero_add, Nat.sub_self, if_true, if_false, ite_true, ite_false, reduceIte, reduceCtorEq, decide_true, decide_false, decide_eq_true_eq, Bool.not_true, Bool.not_false, Bool.true_and, Bool.false_and, Bool.and_true, Bool.and_false, Bool.true_or, Bool.false_or, Bool.false_eq_true, Bool.true_eq_false, not_true_eq_false, not_false_eq_true, ne_eq, Int.reduceEq, Int.reduceNe, Int.reduceLT, Int.reduceLE, and_self, and_true, true_and, and_false, false_and, or_true, true_or, or_false, false_or, true_or, Option.map_some, e4]
  have m5 : (x_call f_X10_isLoose (g_cons (x_l 3) (g_cons (x_l 5) (g_cons (x_l 6) g_nil)))) [none, some u, some w, some s, some t, some a, some b, none, none, none, none, none] σ = some (r5, σ) := by simp only [cs_run, cs_L0, s_ret, s_retz, s_retv, s_seq, s_set, s_inc, s_put, s_ast, s_zst, s_cst, s_ada, s_if, s_ex, s_cv, s_nop, s_brk, x_ite, x_l, x_k, x_f, x_a, x_ro, x_add, x_sub, x_mul, x_div, x_rem, x_neg, x_call, x_max, x_min, x_abs, g_cons, g_nil, y_lt, y_le, y_gt, y_ge, y_eq, y_ne, y_not, y_and, y_or, y_ite, Option.bind_some, Option.bind_none, List.getElem?_cons_zero, List.getElem?_cons_succ, List.getElem?_nil, List.set_cons_zero, List.set_cons_succ, List.cons_append, List.nil_append, List.append_nil, List.replicate, List.length_cons, List.length_nil, Nat.reduceAdd, Nat.reduceSub, Nat.zero_add, Nat.sub_self, if_true, if_false, ite_true, ite_false, reduceIte, reduceCtorEq, decide_true, decide_false, decide_eq_true_eq, Bool.not_true, Bool.not_false, Bool.true_and, Bool.false_and, Bool.and_true, Bool.and_false, Bool.true_or, Bool.false_or, Bool.false_eq_true, Bool.true_eq_false, not_true_eq_false, not_false_eq_true, ne_eq, Int.reduceEq, Int.reduceNe, Int.reduceLT, Int.reduceLE, and_self, and_true, true_and, and_false, false_and, or_true, true_or, or_false, false_or, true_or, Option.map_some, e5]
  have m6 : (x_call f_X10_isOn (g_cons (x_l 1) (g_cons (x_l 2) (g_cons (x_l 3) g_nil)))) [none, some u, some w, some s, some t, some a, some b, none, none, none, none, none] σ = some (r6, σ) := by simp only [cs_run, cs_L0, s_ret, s_retz, s_retv, s_seq, s_set, s_inc, s_put, s_ast, s_zst, s_cst, s_ada, s_if, s_ex, s_cv, s_nop, s_brk, x_ite, x_l, x_k, x_f, x_a, x_ro, x_add, x_sub, x_mul, x_div, x_rem, x_neg, x_call, x_max, x_min, x_abs, g_cons, g_nil, y_lt, y_le, y_gt, y_ge, y_eq, y_ne, y_not, y_and, y_or, y_ite, Option.bind_some, Option.bind_none, List.getElem?_cons_zero, List.getElem?_cons_succ, List.getElem?_nil, List.set_cons_zero, List.set_cons_succ, List.cons_append, List.nil_append, List.append_nil, List.replicate, List.length_cons, List.length_nil, Nat.reduceAdd, Nat.reduceSub, Nat.zero_add, Nat.sub_self, if_true, if_false, ite_true, ite_false, reduceIte, reduceCtorEq, decide_true, decide_false, decide_eq_true_eq, Bool.not_true, Bool.not_false, Bool.true_and, Bool.false_and, Bool.and_true, Bool.and_false, Bool.true_or, Bool.false_or, Bool.false_eq_true, Bool.true_eq_false, not_true_eq_false, not_false_eq_true, ne_eq, Int.reduceEq, Int.reduceNe, Int.reduceLT, Int.reduceLE, and_self, and_true, true_and, and_false, false_and, or_true, true_or, or_false, false_or, true_or, Option.map_some, e6]
  have m7 : (x_call f_X10_isLoose (g_cons (x_l 4) (g_cons (x_l 5) (g_cons (x_l 6) g_nil)))) [none, some u, some w, some s, some t, some a, some b, none, none, none, none, none] σ = some (r7, σ) := by simp only [cs_run, cs_L0, s_ret, s_retz, s_retv, s_seq, s_set, s_inc, s_put, s_ast, s_zst, s_cst, s_ada, s_if, s_ex, s_cv, s_nop, s_brk, x_ite, x_l, x_k, x_f, x_a, x_ro, x_add, x_sub, x_mul, x_div, x_rem, x_neg, x_call, x_max, x_min, x_abs, g_cons, g_nil, y_lt, y_le, y_gt, y_ge, y_eq, y_ne, y_not, y_and, y_or, y_ite, Option.bind_some, Option.bind_none, List.getElem?_cons_zero, List.getElem?_cons_succ, List.getElem?_nil, List.set_cons_zero, List.set_cons_succ, List.cons_append, List.nil_append, List.append_nil, List.replicate, List.length_cons, List.length_nil, Nat.reduceAdd, Nat.reduceSub, Nat.zero_add, Nat.sub_self, if_true, if_false, ite_true, ite_false, reduceIte, reduceCtorEq, decide_true, decide_false, decide_eq_true_eq, Bool.not_true, Bool.not_false, Bool.true_and, Bool.false_and, Bool.and_true, Bool.and_false, Bool.true_or, Bool.false_or, Bool.false_eq_true, Bool.true_eq_false, not_true_eq_false, not_false_eq_true, ne_eq, Int.reduceEq, Int.reduceNe, Int.reduceLT, Int.reduceLE, and_self, and_true, true_and, and_false, false_and, or_true, true_or, or_false, false_or, true_or, Option.map_some, e7]
  have m8 : (x_call f_X10_isOn (g_cons (x_l 1) (g_cons (x_l 2) (g_cons (x_l 4) g_nil)))) [none, some u, some w, some s, some t, some a, some b, none, none, none, none, none] σ = some (r8, σ) := by simp only [cs_run, cs_L0, s_ret, s_retz, s_retv, s_seq, s_set, s_inc, s_put, s_ast, s_zst, s_cst, s_ada, s_if, s_ex, s_cv, s_nop, s_brk, x_ite, x_l, x_k, x_f, x_a, x_ro, x_add, x_sub, x_mul, x_div, x_rem, x_neg, x_call, x_max, x_min, x_abs, g_cons, g_nil, y_lt, y_le, y_gt, y_ge, y_eq, y_ne, y_not, y_and, y_or, y_ite, Option.bind_some, Option.bind_none, List.getElem?_cons_zero, List.getElem?_cons_succ, List.getElem?_nil, List.set_cons_zero, List.set_cons_succ, List.cons_append, List.nil_append, List.append_nil, List.replicate, List.length_cons, List.length_nil, Nat.reduceAdd, Nat.reduceSub, Nat.zero_add, Nat.sub_self, if_true, if_false, ite_true, ite_false, reduceIte, reduceCtorEq, decide_true, decide_false, decide_eq_true_eq, Bool.not_true, Bool.not_false, Bool.true_and, Bool.false_and, Bool.and_true, Bool.and_false, Bool.true_or, Bool.false_or, Bool.false_eq_true, Bool.true_eq_false, not_true_eq_false, not_false_eq_true, ne_eq, Int.reduceEq, Int.reduceNe, Int.reduceLT, Int.reduceLE, and_self, and_true, true_and, and_false, false_and, or_true, true_or, or_false, false_or, true_or, Option.map_some, e8]
  obtain ⟨b1, c1, j1⟩ := pair01 m1 m2 z1 z2 i1 i2
  obtain ⟨b2, c2, j2⟩ := pair01 m3 m4 z3 z4 i3 i4
  obtain ⟨b3, c3, j3⟩ := pair01 m5 m6 z5 z6 i5 i6
  obtain ⟨b4, c4, j4⟩ := pair01 m7 m8 z7 z8 i7 i8
  have g1 := sset (i := 7) (xit (k := 1) (l := 0) (yo (yo (yo c1 c2) c3) c4))
  simp only [List.set_cons_succ, List.set_cons_zero] at g1
  unfold f_X10_doMeet b_X10_doMeet cs_run
  simp only [cs_L0, Option.bind_some, Option.bind_none, List.getElem?_cons_zero, List.getElem?_cons_succ, List.getElem?_nil, List.set_cons_zero, List.set_cons_succ, List.cons_append, List.nil_append, List.append_nil, List.replicate, List.length_cons, List.length_nil, Nat.reduceAdd, Nat.reduceSub, Nat.zero_add, Nat.sub_self, if_true, if_false, ite_true, ite_false, reduceIte, reduceCtorEq, decide_true, decide_false, decide_eq_true_eq, Bool.not_true, Bool.not_false, Bool.true_and, Bool.false_and, Bool.and_true, Bool.and_false, Bool.true_or, Bool.false_or, Bool.false_eq_true, Bool.true_eq_false, not_true_eq_false, not_false_eq_true, ne_eq, Int.reduceEq, Int.reduceNe, Int.reduceLT, Int.reduceLE, and_self, and_true, true_and, and_false, false_and, or_true, true_or, or_false, false_or, true_or, Option.map_some]
  rw [sq_st g1]
  generalize hA : (b1 || b2 || b3 || b4) = A at *
  have hA' : A = true ↔ (P1 ∧ P2) ∨ (P3 ∧ P4) ∨ (P5 ∧ P6) ∨ (P7 ∧ P8) := by
    rw [← hA, Bool.or_eq_true, Bool.or_eq_true, Bool.or_eq_true, j1, j2, j3, j4, or_assoc, or_assoc]
  have k7 : x_l 7 [none, some u, some w, some s, some t, some a, some b, some (if A then 1 else 0), none, none, none, none] σ = some (if A then 1 else 0, σ) := xl rfl
  have g2 := sif (s := s_retz (x_k 1)) (t := s_nop) (yne0 k7)
  cases A
  case true =>
    have hr : (s_retz (x_k 1)) [none, some u, some w, some s, some t, some a, some b, some 1, none, none, none, none] σ = some (.inr (.inl (some 1, σ))) := by simp only [cs_run, cs_L0, s_ret, s_retz, s_retv, s_seq, s_set, s_inc, s_put, s_ast, s_zst, s_cst, s_ada, s_if, s_ex, s_cv, s_nop, s_brk, x_ite, x_l, x_k, x_f, x_a, x_ro, x_add, x_sub, x_mul, x_div, x_rem, x_neg, x_call, x_max, x_min, x_abs, g_cons, g_nil, y_lt, y_le, y_gt, y_ge, y_eq, y_ne, y_not, y_and, y_or, y_ite, Option.bind_some, Option.bind_none, List.getElem?_cons_zero, List.getElem?_cons_succ, List.getElem?_nil, List.set_cons_zero, List.set_cons_succ, List.cons_append, List.nil_append, List.append_nil, List.replicate, List.length_cons, List.length_nil, Nat.reduceAdd, Nat.reduceSub, Nat.zero_add, Nat.sub_self, if_true, if_false, ite_true, ite_false, reduceIte, reduceCtorEq, decide_true, decide_false, decide_eq_true_eq, Bool.not_true, Bool.not_false, Bool.true_and, Bool.false_and, Bool.and_true, Bool.and_false, Bool.true_or, Bool.false_or, Bool.false_eq_true, Bool.true_eq_false, not_true_eq_false, not_false_eq_true, ne_eq, Int.reduceEq, Int.reduceNe, Int.reduceLT, Int.reduceLE, and_self, and_true, true_and, and_false, false_and, or_true, true_or, or_false, false_or, true_or, Option.map_some]
    simp only [if_true, decide_true, ne_eq, Int.reduceEq, not_false_eq_true, reduceCtorEq] at g2 ⊢
    rw [hr] at g2
    refine ⟨1, by simp only [s_seq, g2, Option.bind_some], Or.inl rfl, ?_⟩
    have := hA'.mp rfl
    constructor
    · intro _
      rcases this with q | q | q | q
      · exact Or.inl q
      · exact Or.inr (Or.inl q)
      · exact Or.inr (Or.inr (Or.inl q))
      · exact Or.inr (Or.inr (Or.inr (Or.inl q)))
    · intro _; rfl
  case false =>
    have hno : ¬ ((P1 ∧ P2) ∨ (P3 ∧ P4) ∨ (P5 ∧ P6) ∨ (P7 ∧ P8)) := fun q => absurd (hA'.mpr q) (by decide)
    simp only [Bool.false_eq_true, if_false, ne_eq, not_true_eq_false, decide_false, nop_inl] at g2 ⊢
    rw [sq_st g2]
    have g3 : (s_set 8 (x_call f_X10_turn (g_cons (x_l 3) (g_cons (x_l 4) (g_cons (x_l 1) g_nil))))) [none, some u, some w, some s, some t, some a, some b, some 0, none, none, none, none] σ = some (.inl ([none, some u, some w, some s, some t, some a, some b, some 0, some s8, none, none, none], σ)) := by simp only [cs_run, cs_L0, s_ret, s_retz, s_retv, s_seq, s_set, s_inc, s_put, s_ast, s_zst, s_cst, s_ada, s_if, s_ex, s_cv, s_nop, s_brk, x_ite, x_l, x_k, x_f, x_a, x_ro, x_add, x_sub, x_mul, x_div, x_rem, x_neg, x_call, x_max, x_min, x_abs, g_cons, g_nil, y_lt, y_le, y_gt, y_ge, y_eq, y_ne, y_not, y_and, y_or, y_ite, Option.bind_some, Option.bind_none, List.getElem?_cons_zero, List.getElem?_cons_succ, List.getElem?_nil, List.set_cons_zero, List.set_cons_succ, List.cons_append, List.nil_append, List.append_nil, List.replicate, List.length_cons, List.length_nil, Nat.reduceAdd, Nat.reduceSub, Nat.zero_add, Nat.sub_self, if_true, if_false, ite_true, ite_false, reduceIte, reduceCtorEq, decide_true, decide_false, decide_eq_true_eq, Bool.not_true, Bool.not_false, Bool.true_and, Bool.false_and, Bool.and_true, Bool.and_false, Bool.true_or, Bool.false_or, Bool.false_eq_true, Bool.true_eq_false, not_true_eq_false, not_false_eq_true, ne_eq, Int.reduceEq, Int.reduceNe, Int.reduceLT, Int.reduceLE, and_self, and_true, true_and, and_false, false_and, or_true, true_or, or_false, false_or, true_or, Option.map_some, t1]
    have g4 : (s_set 9 (x_call f_X10_turn (g_cons (x_l 3) (g_cons (x_l 4) (g_cons (x_l 2) g_nil))))) [none, some u, some w, some s, some t, some a, some b, some 0, some s8, none, none, none] σ = some (.inl ([none, some u, some w, some s, some t, some a, some b, some 0, some s8, some s9, none, none], σ)) := by simp only [cs_run, cs_L0, s_ret, s_retz, s_retv, s_seq, s_set, s_inc, s_put, s_ast, s_zst, s_cst, s_ada, s_if, s_ex, s_cv, s_nop, s_brk, x_ite, x_l, x_k, x_f, x_a, x_ro, x_add, x_sub, x_mul, x_div, x_rem, x_neg, x_call, x_max, x_min, x_abs, g_cons, g_nil, y_lt, y_le, y_gt, y_ge, y_eq, y_ne, y_not, y_and, y_or, y_ite, Option.bind_some, Option.bind_none, List.getElem?_cons_zero, List.getElem?_cons_succ, List.getElem?_nil, List.set_cons_zero, List.set_cons_succ, List.cons_append, List.nil_append, List.append_nil, List.replicate, List.length_cons, List.length_nil, Nat.reduceAdd, Nat.reduceSub, Nat.zero_add, Nat.sub_self, if_true, if_false, ite_true, ite_false, reduceIte, reduceCtorEq, decide_true, decide_false, decide_eq_true_eq, Bool.not_true, Bool.not_false, Bool.true_and, Bool.false_and, Bool.and_true, Bool.and_false, Bool.true_or, Bool.false_or, Bool.false_eq_true, Bool.true_eq_false, not_true_eq_false, not_false_eq_true, ne_eq, Int.reduceEq, Int.reduceNe, Int.reduceLT, Int.reduceLE, and_self, and_true, true_and, and_false, false_and, or_true, true_or, or_false, false_or, true_or, Option.map_some, t2]
    have g5 : (s_set 10 (x_call f_X10_turn (g_cons (x_l 1) (g_cons (x_l 2) (g_cons (x_l 3) g_nil))))) [none, some u, some w, some s, some t, some a, some b, some 0, some s8, some s9, none, none] σ = some (.inl ([none, some u, some w, some s, some t, some a, some b, some 0, some s8, some s9, some s6, none], σ)) := by simp only [cs_run, cs_L0, s_ret, s_retz, s_retv, s_seq, s_set, s_inc, s_put, s_ast, s_zst, s_cst, s_ada, s_if, s_ex, s_cv, s_nop, s_brk, x_ite, x_l, x_k, x_f, x_a, x_ro, x_add, x_sub, x_mul, x_div, x_rem, x_neg, x_call, x_max, x_min, x_abs, g_cons, g_nil, y_lt, y_le, y_gt, y_ge, y_eq, y_ne, y_not, y_and, y_or, y_ite, Option.bind_some, Option.bind_none, List.getElem?_cons_zero, List.getElem?_cons_succ, List.getElem?_nil, List.set_cons_zero, List.set_cons_succ, List.cons_append, List.nil_append, List.append_nil, List.replicate, List.length_cons, List.length_nil, Nat.reduceAdd, Nat.reduceSub, Nat.zero_add, Nat.sub_self, if_true, if_false, ite_true, ite_false, reduceIte, reduceCtorEq, decide_true, decide_false, decide_eq_true_eq, Bool.not_true, Bool.not_false, Bool.true_and, Bool.false_and, Bool.and_true, Bool.and_false, Bool.true_or, Bool.false_or, Bool.false_eq_true, Bool.true_eq_false, not_true_eq_false, not_false_eq_true, ne_eq, Int.reduceEq, Int.reduceNe, Int.reduceLT, Int.reduceLE, and_self, and_true, true_and, and_false, false_and, or_true, true_or, or_false, false_or, true_or, Option.map_some, t3]
    have g6 : (s_set 11 (x_call f_X10_turn (g_cons (x_l 1) (g_cons (x_l 2) (g_cons (x_l 4) g_nil))))) [none, some u, some w, some s, some t, some a, some b, some 0, some s8, some s9, some s6, none] σ = some (.inl ([none, some u, some w, some s, some t, some a, some b, some 0, some s8, some s9, some s6, some s7], σ)) := by simp only [cs_run, cs_L0, s_ret, s_retz, s_retv, s_seq, s_set, s_inc, s_put, s_ast, s_zst, s_cst, s_ada, s_if, s_ex, s_cv, s_nop, s_brk, x_ite, x_l, x_k, x_f, x_a, x_ro, x_add, x_sub, x_mul, x_div, x_rem, x_neg, x_call, x_max, x_min, x_abs, g_cons, g_nil, y_lt, y_le, y_gt, y_ge, y_eq, y_ne, y_not, y_and, y_or, y_ite, Option.bind_some, Option.bind_none, List.getElem?_cons_zero, List.getElem?_cons_succ, List.getElem?_nil, List.set_cons_zero, List.set_cons_succ, List.cons_append, List.nil_append, List.append_nil, List.replicate, List.length_cons, List.length_nil, Nat.reduceAdd, Nat.reduceSub, Nat.zero_add, Nat.sub_self, if_true, if_false, ite_true, ite_false, reduceIte, reduceCtorEq, decide_true, decide_false, decide_eq_true_eq, Bool.not_true, Bool.not_false, Bool.true_and, Bool.false_and, Bool.and_true, Bool.and_false, Bool.true_or, Bool.false_or, Bool.false_eq_true, Bool.true_eq_false, not_true_eq_false, not_false_eq_true, ne_eq, Int.reduceEq, Int.reduceNe, Int.reduceLT, Int.reduceLE, and_self, and_true, true_and, and_false, false_and, or_true, true_or, or_false, false_or, true_or, Option.map_some, t4]
    rw [sq_st g3, sq_st g4, sq_st g5, sq_st g6]
    have q8 : x_l 8 [none, some u, some w, some s, some t, some a, some b, some 0, some s8, some s9, some s6, some s7] σ = some (s8, σ) := xl rfl
    have q9 : x_l 9 [none, some u, some w, some s, some t, some a, some b, some 0, some s8, some s9, some s6, some s7] σ = some (s9, σ) := xl rfl
    have q10 : x_l 10 [none, some u, some w, some s, some t, some a, some b, some 0, some s8, some s9, some s6, some s7] σ = some (s6, σ) := xl rfl
    have q11 : x_l 11 [none, some u, some w, some s, some t, some a, some b, some 0, some s8, some s9, some s6, some s7] σ = some (s7, σ) := xl rfl
    have c5 := ya (ya (ya (yeq0 q8) (yeq0 q9)) (yeq0 q10)) (yeq0 q11)
    have g7 := sif (s := s_retz (x_call f_X10_isLong (g_cons (x_l 1) (g_cons (x_l 2) (g_cons (x_l 3) (g_cons (x_l 4) g_nil)))))) (t := s_nop) c5
    have n1 : ¬ (P1 ∧ P2) := fun q => hno (Or.inl q)
    have n2 : ¬ (P3 ∧ P4) := fun q => hno (Or.inr (Or.inl q))
    have n3 : ¬ (P5 ∧ P6) := fun q => hno (Or.inr (Or.inr (Or.inl q)))
    have n4 : ¬ (P7 ∧ P8) := fun q => hno (Or.inr (Or.inr (Or.inr q)))
    simp only [eq_false n1, eq_false n2, eq_false n3, eq_false n4, false_or]
    by_cases z : s6 = 0 ∧ s7 = 0 ∧ s8 = 0 ∧ s9 = 0
    · refine ⟨r9, ?_, z9, ?_⟩
      · obtain ⟨z6, z7, z8, z9'⟩ := z
        have hr : (s_retz (x_call f_X10_isLong (g_cons (x_l 1) (g_cons (x_l 2) (g_cons (x_l 3) (g_cons (x_l 4) g_nil)))))) [none, some u, some w, some s, some t, some a, some b, some 0, some s8, some s9, some s6, some s7] σ = some (.inr (.inl (some r9, σ))) := by
          rcases z9 with e | e <;> subst e <;> simp only [cs_run, cs_L0, s_ret, s_retz, s_retv, s_seq, s_set, s_inc, s_put, s_ast, s_zst, s_cst, s_ada, s_if, s_ex, s_cv, s_nop, s_brk, x_ite, x_l, x_k, x_f, x_a, x_ro, x_add, x_sub, x_mul, x_div, x_rem, x_neg, x_call, x_max, x_min, x_abs, g_cons, g_nil, y_lt, y_le, y_gt, y_ge, y_eq, y_ne, y_not, y_and, y_or, y_ite, Option.bind_some, Option.bind_none, List.getElem?_cons_zero, List.getElem?_cons_succ, List.getElem?_nil, List.set_cons_zero, List.set_cons_succ, List.cons_append, List.nil_append, List.append_nil, List.replicate, List.length_cons, List.length_nil, Nat.reduceAdd, Nat.reduceSub, Nat.zero_add, Nat.sub_self, if_true, if_false, ite_true, ite_false, reduceIte, reduceCtorEq, decide_true, decide_false, decide_eq_true_eq, Bool.not_true, Bool.not_false, Bool.true_and, Bool.false_and, Bool.and_true, Bool.and_false, Bool.true_or, Bool.false_or, Bool.false_eq_true, Bool.true_eq_false, not_true_eq_false, not_false_eq_true, ne_eq, Int.reduceEq, Int.reduceNe, Int.reduceLT, Int.reduceLE, and_self, and_true, true_and, and_false, false_and, or_true, true_or, or_false, false_or, true_or, Option.map_some, e9]
        simp only [z6, z7, z8, z9', decide_true, Bool.and_true, if_true] at g7 hr ⊢
        rw [hr] at g7
        simp only [s_seq, g7, Option.bind_some]
      · have hz := eq_true z
        simp only [hz, true_and, not_true_eq_false, false_and, or_false]
    · have zb : (((decide (s8 = 0) && decide (s9 = 0)) && decide (s6 = 0)) && decide (s7 = 0)) = false := by
        rw [← Bool.not_eq_true]
        intro hh
        simp only [Bool.and_eq_true, decide_eq_true_eq] at hh
        exact z ⟨hh.1.2, hh.2, hh.1.1.1, hh.1.1.2⟩
      rw [zb, if_neg (by decide), nop_inl] at g7
      rw [sq_st g7]
      have g8 := retz (xit (k := 1) (l := 0) (ya (yo (ya (ygt0 q8) (ylt0 q9)) (ya (ylt0 q8) (ygt0 q9))) (yo (ya (ygt0 q10) (ylt0 q11)) (ya (ylt0 q10) (ygt0 q11)))))
      refine ⟨_, by rw [g8], b01 _, ?_⟩
      rw [b01_iff]
      have hz := eq_false z
      simp only [hz, false_and, false_or, not_false_eq_true, true_and]
      unfold strC
      simp only [Bool.and_eq_true, Bool.or_eq_true, decide_eq_true_eq, gt_iff_lt]
/-! both the same -/
theorem looP_sw {σ : cs_S} {v a b : Int} : looP σ v a b ↔ looP σ v b a := by unfold looP; exact And.comm
theorem onV_sw {σ : cs_S} {a b v : Int} : onV σ a b v ↔ onV σ b a v := ⟨onS_sw, onS_sw⟩
theorem dm_first {σ : cs_S} (h : CSo σ) {u w a v b : Int} (hu : 0 ≤ u ∧ u < σ 4 2) (hw : 0 ≤ w ∧ w < σ 4 2) (ha : 0 ≤ a ∧ a < σ 4 2) (hv : 0 ≤ v ∧ v < σ 4 2) (hb : 0 ≤ b ∧ b < σ 4 2) (hc : trS σ a v (vX σ b) (vY σ b) ≠ 0 ∨ onV σ a b v) : dmP σ u w a v a b ↔ mtC σ u w a v b := by
  obtain ⟨xu, -⟩ := vXY h hu
  obtain ⟨xw, -⟩ := vXY h hw
  obtain ⟨xa, -⟩ := vXY h ha
  obtain ⟨xv, -⟩ := vXY h hv
  obtain ⟨xb, -⟩ := vXY h hb
  have nl : ¬ (looP σ a a b ∧ onV σ u w a) := fun q => q.1.1 ⟨rfl, rfl⟩
  unfold dmP mtC
  by_cases z : zr4 σ u w a v
  · have hz := eq_true z
    obtain ⟨z6, z7, z8, z9⟩ := z
    have := line_same (bx := vX σ b) (by' := vY σ b) z6 z7 z8 z9 xu xw xa xv xb
    simp only [hz, true_and, not_true_eq_false, false_and, or_false, eq_false nl, false_or]
    exact this.symm
  · have hz := eq_false z
    simp only [hz, false_and, not_false_eq_true, true_and, false_or, eq_false nl]
    constructor
    · intro q
      exact meet_from z hc q
    · intro q
      exact meet_to q
theorem tr_ng (σ : cs_S) (a b x y : Int) : trS σ b a x y = -trS σ a b x y := tr_sw _ _ _ _ _ _
theorem com_sw (a b c d : Int) : comS a b d c = comS a b c d := by unfold comS; omega
theorem dm_swap {σ : cs_S} {u w v b a : Int} : dmP σ u w v b a b ↔ dmP σ u w b v b a := by
  unfold dmP
  rw [looP_sw (v := u) (a := a), looP_sw (v := w) (a := a), looP_sw (v := v) (a := a), looP_sw (v := b) (a := a), onV_sw (a := v) (b := b) (v := u), onV_sw (a := v) (b := b) (v := w), com_sw (vX σ u) (vX σ w) (vX σ b) (vX σ v), com_sw (vY σ u) (vY σ w) (vY σ b) (vY σ v)]
  have hz : zr4 σ u w v b ↔ zr4 σ u w b v := by
    unfold zr4
    rw [tr_ng σ b v, tr_ng σ b v]
    generalize trS σ u w (vX σ v) (vY σ v) = s6
    generalize trS σ u w (vX σ b) (vY σ b) = s7
    generalize trS σ b v (vX σ u) (vY σ u) = s8
    generalize trS σ b v (vX σ w) (vY σ w) = s9
    omega
  have hs : strC (trS σ u w (vX σ v) (vY σ v)) (trS σ u w (vX σ b) (vY σ b)) (trS σ v b (vX σ u) (vY σ u)) (trS σ v b (vX σ w) (vY σ w)) ↔ strC (trS σ u w (vX σ b) (vY σ b)) (trS σ u w (vX σ v) (vY σ v)) (trS σ b v (vX σ u) (vY σ u)) (trS σ b v (vX σ w) (vY σ w)) := by
    rw [tr_ng σ b v, tr_ng σ b v]
    generalize trS σ u w (vX σ v) (vY σ v) = s6
    generalize trS σ u w (vX σ b) (vY σ b) = s7
    generalize trS σ b v (vX σ u) (vY σ u) = s8
    generalize trS σ b v (vX σ w) (vY σ w) = s9
    unfold strC
    omega
  rw [hz, hs]
  constructor
  · rintro (q | q | q | q | q)
    · exact Or.inl q
    · exact Or.inr (Or.inl q)
    · exact Or.inr (Or.inr (Or.inr (Or.inl q)))
    · exact Or.inr (Or.inr (Or.inl q))
    · exact Or.inr (Or.inr (Or.inr (Or.inr q)))
  · rintro (q | q | q | q | q)
    · exact Or.inl q
    · exact Or.inr (Or.inl q)
    · exact Or.inr (Or.inr (Or.inr (Or.inl q)))
    · exact Or.inr (Or.inr (Or.inl q))
    · exact Or.inr (Or.inr (Or.inr (Or.inr q)))
theorem dm_second {σ : cs_S} (h : CSo σ) {u w a v b : Int} (hu : 0 ≤ u ∧ u < σ 4 2) (hw : 0 ≤ w ∧ w < σ 4 2) (ha : 0 ≤ a ∧ a < σ 4 2) (hv : 0 ≤ v ∧ v < σ 4 2) (hb : 0 ≤ b ∧ b < σ 4 2) (hc : trS σ a v (vX σ b) (vY σ b) ≠ 0 ∨ onV σ a b v) : dmP σ u w v b a b ↔ mtC σ u w b v a := by
  rw [dm_swap]
  refine dm_first h hu hw hb hv ha ?_
  rcases hc with q | q
  · left
    intro z
    apply q
    unfold trS tr at *
    grind
  · right
    exact onV_sw.mp q
