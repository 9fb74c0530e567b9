/-! values of conditions -/
theorem yo {c d : cs_C} {L : cs_L} {σ : cs_S} {a b : Bool} (h1 : c L σ = some (a, σ)) (h2 : d L σ = some (b, σ)) : y_or c d L σ = some (a || b, σ) := by
  simp only [y_or, h1, Option.bind_some]
  cases a <;> simp [h2]
theorem ya {c d : cs_C} {L : cs_L} {σ : cs_S} {a b : Bool} (h1 : c L σ = some (a, σ)) (h2 : d L σ = some (b, σ)) : y_and c d L σ = some (a && b, σ) := by
  simp only [y_and, h1, Option.bind_some]
  cases a <;> simp [h2]
theorem ynt {c : cs_C} {L : cs_L} {σ : cs_S} {a : Bool} (h1 : c L σ = some (a, σ)) : y_not c L σ = some (!a, σ) := by
  simp only [y_not, h1, Option.bind_some]
theorem xit {c : cs_C} {L : cs_L} {σ : cs_S} {a : Bool} {k l : Int} (h1 : c L σ = some (a, σ)) : x_ite c (x_k k) (x_k l) L σ = some (if a then k else l, σ) := by
  simp only [x_ite, h1, Option.bind_some, x_k]
  cases a <;> simp
theorem yne0 {e : cs_E} {L : cs_L} {σ : cs_S} {r : Int} (h : e L σ = some (r, σ)) : y_ne e (x_k 0) L σ = some (decide (r ≠ 0), σ) := by
  simp only [y_ne, h, Option.bind_some, x_k]
theorem yeq0 {e : cs_E} {L : cs_L} {σ : cs_S} {r : Int} (h : e L σ = some (r, σ)) : y_eq e (x_k 0) L σ = some (decide (r = 0), σ) := by
  simp only [y_eq, h, Option.bind_some, x_k]
theorem ygt0 {e : cs_E} {L : cs_L} {σ : cs_S} {r : Int} (h : e L σ = some (r, σ)) : y_gt e (x_k 0) L σ = some (decide (0 < r), σ) := by
  simp only [y_gt, h, Option.bind_some, x_k]
theorem ylt0 {e : cs_E} {L : cs_L} {σ : cs_S} {r : Int} (h : e L σ = some (r, σ)) : y_lt e (x_k 0) L σ = some (decide (r < 0), σ) := by
  simp only [y_lt, h, Option.bind_some, x_k]
theorem sset {i : Nat} {e : cs_E} {L : cs_L} {σ : cs_S} {r : Int} (h : e L σ = some (r, σ)) : s_set i e L σ = some (.inl (L.set i (some r), σ)) := by
  simp only [s_set, h, Option.bind_some]
theorem xl {L : cs_L} {σ : cs_S} {i : Nat} {z : Int} (h : L[i]? = some (some z)) : x_l i L σ = some (z, σ) := by
  simp only [x_l, h]
theorem sif {c : cs_C} {s t : cs_T} {L : cs_L} {σ : cs_S} {a : Bool} (h : c L σ = some (a, σ)) : s_if c s t L σ = if a then s L σ else t L σ := by
  simp only [s_if, h, Option.bind_some]
theorem retz {e : cs_E} {L : cs_L} {σ : cs_S} {a : Bool} (h : e L σ = some (if a then 1 else 0, σ)) : s_retz e L σ = some (.inr (.inl (some (if a then 1 else 0), σ))) := by
  simp only [s_retz, h, Option.bind_some]
  cases a <;> simp
theorem nop_inl (L : cs_L) (σ : cs_S) : s_nop L σ = some (.inl (L, σ)) := rfl
theorem b01 (a : Bool) : (if a = true then (1 : Int) else 0) = 1 ∨ (if a = true then (1 : Int) else 0) = 0 := by cases a <;> simp
theorem b01_iff (a : Bool) : (if a = true then (1 : Int) else 0) = 1 ↔ a = true := by cases a <;> simp
/-! meeting, the class's way -/
def zr4 (σ : cs_S) (u w p v : Int) : Prop := trS σ u w (vX σ p) (vY σ p) = 0 ∧ trS σ u w (vX σ v) (vY σ v) = 0 ∧ trS σ p v (vX σ u) (vY σ u) = 0 ∧ trS σ p v (vX σ w) (vY σ w) = 0
def mtC (σ : cs_S) (u w p v q : Int) : Prop := (zr4 σ u w p v ∧ lnP (ordS σ u) (ordS σ w) (ordS σ p) (ordS σ v) (ordS σ q)) ∨ (¬ zr4 σ u w p v ∧ mCn (vX σ u) (vY σ u) (vX σ w) (vY σ w) (vX σ p) (vY σ p) (vX σ v) (vY σ v) (vX σ q) (vY σ q))
theorem f_meetBesides {σ : cs_S} (h : CSo σ) {u w p v q : Int} (hu : 0 ≤ u ∧ u < σ 4 2) (hw : 0 ≤ w ∧ w < σ 4 2) (hp : 0 ≤ p ∧ p < σ 4 2) (hv : 0 ≤ v ∧ v < σ 4 2) (hq : 0 ≤ q ∧ q < σ 4 2) : ∃ r : Int, f_X3_meetBesides [u, w, p, v, q] σ = some (some r, σ) ∧ (r = 1 ∨ r = 0) ∧ (r = 1 ↔ mtC σ u w p v q) := by
  have f1 := f_sideOf3 h hu hw hp
  have f2 := f_sideOf3 h hu hw hv
  have f3 := f_sideOf3 h hp hv hu
  have f4 := f_sideOf3 h hp hv hw
  have f5 := f_sideOf3 h hu hw hq
  have f6 := f_sideOf3 h hp hv hq
  have b1 := (f_sideOf h hu hw (vXY h hp).1 (vXY h hp).2).2
  have b2 := (f_sideOf h hu hw (vXY h hv).1 (vXY h hv).2).2
  have b3 := (f_sideOf h hp hv (vXY h hu).1 (vXY h hu).2).2
  have b4 := (f_sideOf h hp hv (vXY h hw).1 (vXY h hw).2).2
  obtain ⟨m, hm1, hm2, hm3⟩ := f_meetOnLine h hu hw hp hv hq
  have hdef : mtC σ u w p v q ↔ ((trS σ u w (vX σ p) (vY σ p) = 0 ∧ trS σ u w (vX σ v) (vY σ v) = 0 ∧ trS σ p v (vX σ u) (vY σ u) = 0 ∧ trS σ p v (vX σ w) (vY σ w) = 0) ∧ lnP (ordS σ u) (ordS σ w) (ordS σ p) (ordS σ v) (ordS σ q)) ∨ (¬ (trS σ u w (vX σ p) (vY σ p) = 0 ∧ trS σ u w (vX σ v) (vY σ v) = 0 ∧ trS σ p v (vX σ u) (vY σ u) = 0 ∧ trS σ p v (vX σ w) (vY σ w) = 0) ∧ btw (trS σ u w (vX σ p) (vY σ p)) (trS σ u w (vX σ v) (vY σ v)) 0 ∧ btw (trS σ p v (vX σ u) (vY σ u)) (trS σ p v (vX σ w) (vY σ w)) 0 ∧ trS σ u w (vX σ p) (vY σ p) ≠ 0 ∧ ¬ (trS σ u w (vX σ q) (vY σ q) = 0 ∧ trS σ p v (vX σ q) (vY σ q) = 0)) := Iff.rfl
  rw [hdef, ← hm3]
  clear hdef hm3
  generalize trS σ u w (vX σ p) (vY σ p) = s6 at *
  generalize trS σ u w (vX σ v) (vY σ v) = s7 at *
  generalize trS σ p v (vX σ u) (vY σ u) = s8 at *
  generalize trS σ p v (vX σ w) (vY σ w) = s9 at *
  generalize trS σ u w (vX σ q) (vY σ q) = s10 at *
  generalize trS σ p v (vX σ q) (vY σ q) = s11 at *
  have m1 := mb s6 s7 400 400 (by omega) (by omega)
  have m2 := mb s8 s9 400 400 (by omega) (by omega)
  have d1 : cs_InR (s6 * s7) := by omega
  have d2 : cs_InR (s8 * s9) := by omega
  rw [← mul_pos_btw, ← mul_pos_btw]
  have g1 : (s_set 6 (x_call f_X3_sideOf_ (g_cons (x_l 1) (g_cons (x_l 2) (g_cons (x_l 3) g_nil))))) [none, some u, some w, some p, some v, some q, none, none, none, none, none] σ = some (.inl ([none, some u, some w, some p, some v, some q, some s6, none, none, none, none], σ)) := by simp only [cs_run, cs_L0, s_ret, s_retz, s_retv, s_seq, s_set, s_inc, s_put, s_ast, s_zst, s_cst, s_ada, s_if, s_ex, s_cv, s_nop, s_brk, x_ite, x_l, x_k, x_f, x_a, x_ro, x_add, x_sub, x_mul, x_div, x_rem, x_neg, x_call, x_max, x_min, x_abs, g_cons, g_nil, y_lt, y_le, y_gt, y_ge, y_eq, y_ne, y_not, y_and, y_or, y_ite, Option.bind_some, Option.bind_none, List.getElem?_cons_zero, List.getElem?_cons_succ, List.getElem?_nil, List.set_cons_zero, List.set_cons_succ, List.cons_append, List.nil_append, List.append_nil, List.replicate, List.length_cons, List.length_nil, Nat.reduceAdd, Nat.reduceSub, Nat.zero_add, Nat.sub_self, if_true, if_false, ite_true, ite_false, reduceIte, reduceCtorEq, decide_true, decide_false, decide_eq_true_eq, Bool.not_true, Bool.not_false, Bool.true_and, Bool.false_and, Bool.and_true, Bool.and_false, Bool.true_or, Bool.false_or, Bool.false_eq_true, Bool.true_eq_false, not_true_eq_false, not_false_eq_true, ne_eq, Int.reduceEq, Int.reduceNe, Int.reduceLT, Int.reduceLE, and_self, and_true, true_and, and_false, false_and, or_true, true_or, or_false, false_or, true_or, Option.map_some, f1]
  have g2 : (s_set 7 (x_call f_X3_sideOf_ (g_cons (x_l 1) (g_cons (x_l 2) (g_cons (x_l 4) g_nil))))) [none, some u, some w, some p, some v, some q, some s6, none, none, none, none] σ = some (.inl ([none, some u, some w, some p, some v, some q, some s6, some s7, none, none, none], σ)) := by simp only [cs_run, cs_L0, s_ret, s_retz, s_retv, s_seq, s_set, s_inc, s_put, s_ast, s_zst, s_cst, s_ada, s_if, s_ex, s_cv, s_nop, s_brk, x_ite, x_l, x_k, x_f, x_a, x_ro, x_add, x_sub, x_mul, x_div, x_rem, x_neg, x_call, x_max, x_min, x_abs, g_cons, g_nil, y_lt, y_le, y_gt, y_ge, y_eq, y_ne, y_not, y_and, y_or, y_ite, Option.bind_some, Option.bind_none, List.getElem?_cons_zero, List.getElem?_cons_succ, List.getElem?_nil, List.set_cons_zero, List.set_cons_succ, List.cons_append, List.nil_append, List.append_nil, List.replicate, List.length_cons, List.length_nil, Nat.reduceAdd, Nat.reduceSub, Nat.zero_add, Nat.sub_self, if_true, if_false, ite_true, ite_false, reduceIte, reduceCtorEq, decide_true, decide_false, decide_eq_true_eq, Bool.not_true, Bool.not_false, Bool.true_and, Bool.false_and, Bool.and_true, Bool.and_false, Bool.true_or, Bool.false_or, Bool.false_eq_true, Bool.true_eq_false, not_true_eq_false, not_false_eq_true, ne_eq, Int.reduceEq, Int.reduceNe, Int.reduceLT, Int.reduceLE, and_self, and_true, true_and, and_false, false_and, or_true, true_or, or_false, false_or, true_or, Option.map_some, f2]
  have g3 : (s_set 8 (x_call f_X3_sideOf_ (g_cons (x_l 3) (g_cons (x_l 4) (g_cons (x_l 1) g_nil))))) [none, some u, some w, some p, some v, some q, some s6, some s7, none, none, none] σ = some (.inl ([none, some u, some w, some p, some v, some q, some s6, some s7, some s8, none, none], σ)) := by simp only [cs_run, cs_L0, s_ret, s_retz, s_retv, s_seq, s_set, s_inc, s_put, s_ast, s_zst, s_cst, s_ada, s_if, s_ex, s_cv, s_nop, s_brk, x_ite, x_l, x_k, x_f, x_a, x_ro, x_add, x_sub, x_mul, x_div, x_rem, x_neg, x_call, x_max, x_min, x_abs, g_cons, g_nil, y_lt, y_le, y_gt, y_ge, y_eq, y_ne, y_not, y_and, y_or, y_ite, Option.bind_some, Option.bind_none, List.getElem?_cons_zero, List.getElem?_cons_succ, List.getElem?_nil, List.set_cons_zero, List.set_cons_succ, List.cons_append, List.nil_append, List.append_nil, List.replicate, List.length_cons, List.length_nil, Nat.reduceAdd, Nat.reduceSub, Nat.zero_add, Nat.sub_self, if_true, if_false, ite_true, ite_false, reduceIte, reduceCtorEq, decide_true, decide_false, decide_eq_true_eq, Bool.not_true, Bool.not_false, Bool.true_and, Bool.false_and, Bool.and_true, Bool.and_false, Bool.true_or, Bool.false_or, Bool.false_eq_true, Bool.true_eq_false, not_true_eq_false, not_false_eq_true, ne_eq, Int.reduceEq, Int.reduceNe, Int.reduceLT, Int.reduceLE, and_self, and_true, true_and, and_false, false_and, or_true, true_or, or_false, false_or, true_or, Option.map_some, f3]
  have g4 : (s_set 9 (x_call f_X3_sideOf_ (g_cons (x_l 3) (g_cons (x_l 4) (g_cons (x_l 2) g_nil))))) [none, some u, some w, some p, some v, some q, some s6, some s7, some s8, none, none] σ = some (.inl ([none, some u, some w, some p, some v, some q, some s6, some s7, some s8, some s9, none], σ)) := by simp only [cs_run, cs_L0, s_ret, s_retz, s_retv, s_seq, s_set, s_inc, s_put, s_ast, s_zst, s_cst, s_ada, s_if, s_ex, s_cv, s_nop, s_brk, x_ite, x_l, x_k, x_f, x_a, x_ro, x_add, x_sub, x_mul, x_div, x_rem, x_neg, x_call, x_max, x_min, x_abs, g_cons, g_nil, y_lt, y_le, y_gt, y_ge, y_eq, y_ne, y_not, y_and, y_or, y_ite, Option.bind_some, Option.bind_none, List.getElem?_cons_zero, List.getElem?_cons_succ, List.getElem?_nil, List.set_cons_zero, List.set_cons_succ, List.cons_append, List.nil_append, List.append_nil, List.replicate, List.length_cons, List.length_nil, Nat.reduceAdd, Nat.reduceSub, Nat.zero_add, Nat.sub_self, if_true, if_false, ite_true, ite_false, reduceIte, reduceCtorEq, decide_true, decide_false, decide_eq_true_eq, Bool.not_true, Bool.not_false, Bool.true_and, Bool.false_and, Bool.and_true, Bool.and_false, Bool.true_or, Bool.false_or, Bool.false_eq_true, Bool.true_eq_false, not_true_eq_false, not_false_eq_true, ne_eq, Int.reduceEq, Int.reduceNe, Int.reduceLT, Int.reduceLE, and_self, and_true, true_and, and_false, false_and, or_true, true_or, or_false, false_or, true_or, Option.map_some, f4]
  unfold f_X3_meetBesides b_X3_meetBesides cs_run
  simp only [cs_L0, Option.bind_some, Option.bind_none, List.getElem?_cons_zero, List.getElem?_cons_succ, List.getElem?_nil, List.set_cons_zero, List.set_cons_succ, List.cons_append, List.nil_append, List.append_nil, List.replicate, List.length_cons, List.length_nil, Nat.reduceAdd, Nat.reduceSub, Nat.zero_add, Nat.sub_self, if_true, if_false, ite_true, ite_false, reduceIte, reduceCtorEq, decide_true, decide_false, decide_eq_true_eq, Bool.not_true, Bool.not_false, Bool.true_and, Bool.false_and, Bool.and_true, Bool.and_false, Bool.true_or, Bool.false_or, Bool.false_eq_true, Bool.true_eq_false, not_true_eq_false, not_false_eq_true, ne_eq, Int.reduceEq, Int.reduceNe, Int.reduceLT, Int.reduceLE, and_self, and_true, true_and, and_false, false_and, or_true, true_or, or_false, false_or, true_or, Option.map_some]
  rw [sq_st g1, sq_st g2, sq_st g3, sq_st g4]
  have k6 : x_l 6 [none, some u, some w, some p, some v, some q, some s6, some s7, some s8, some s9, none] σ = some (s6, σ) := xl rfl
  have k7 : x_l 7 [none, some u, some w, some p, some v, some q, some s6, some s7, some s8, some s9, none] σ = some (s7, σ) := xl rfl
  have k8 : x_l 8 [none, some u, some w, some p, some v, some q, some s6, some s7, some s8, some s9, none] σ = some (s8, σ) := xl rfl
  have k9 : x_l 9 [none, some u, some w, some p, some v, some q, some s6, some s7, some s8, some s9, none] σ = some (s9, σ) := xl rfl
  have c1 := ya (ya (ya (yeq0 k6) (yeq0 k7)) (yeq0 k8)) (yeq0 k9)
  by_cases z : s6 = 0 ∧ s7 = 0 ∧ s8 = 0 ∧ s9 = 0
  · refine ⟨m, ?_, hm2, ?_⟩
    · obtain ⟨z6, z7, z8, z9⟩ := z
      have hr : (s_retz (x_call f_X3_meetOnLine (g_cons (x_l 1) (g_cons (x_l 2) (g_cons (x_l 3) (g_cons (x_l 4) (g_cons (x_l 5) g_nil))))))) [none, some u, some w, some p, some v, some q, some s6, some s7, some s8, some s9, none] σ = some (.inr (.inl (some m, σ))) := by
        rcases hm2 with e | e <;> subst e <;> simp only [cs_run, cs_L0, s_ret, s_retz, s_retv, s_seq, s_set, s_inc, s_put, s_ast, s_zst, s_cst, s_ada, s_if, s_ex, s_cv, s_nop, s_brk, x_ite, x_l, x_k, x_f, x_a, x_ro, x_add, x_sub, x_mul, x_div, x_rem, x_neg, x_call, x_max, x_min, x_abs, g_cons, g_nil, y_lt, y_le, y_gt, y_ge, y_eq, y_ne, y_not, y_and, y_or, y_ite, Option.bind_some, Option.bind_none, List.getElem?_cons_zero, List.getElem?_cons_succ, List.getElem?_nil, List.set_cons_zero, List.set_cons_succ, List.cons_append, List.nil_append, List.append_nil, List.replicate, List.length_cons, List.length_nil, Nat.reduceAdd, Nat.reduceSub, Nat.zero_add, Nat.sub_self, if_true, if_false, ite_true, ite_false, reduceIte, reduceCtorEq, decide_true, decide_false, decide_eq_true_eq, Bool.not_true, Bool.not_false, Bool.true_and, Bool.false_and, Bool.and_true, Bool.and_false, Bool.true_or, Bool.false_or, Bool.false_eq_true, Bool.true_eq_false, not_true_eq_false, not_false_eq_true, ne_eq, Int.reduceEq, Int.reduceNe, Int.reduceLT, Int.reduceLE, and_self, and_true, true_and, and_false, false_and, or_true, true_or, or_false, false_or, true_or, Option.map_some, hm1]
      have g5 := sif (s := s_retz (x_call f_X3_meetOnLine (g_cons (x_l 1) (g_cons (x_l 2) (g_cons (x_l 3) (g_cons (x_l 4) (g_cons (x_l 5) g_nil))))))) (t := s_nop) c1
      simp only [z6, z7, z8, z9, decide_true, Bool.and_true, if_true] at g5 hr ⊢
      rw [hr] at g5
      simp only [s_seq, g5, Option.bind_some]
    · have hz := eq_true z
      simp only [hz, true_and, not_true_eq_false, false_and, or_false]
  · have g5 := sif (s := s_retz (x_call f_X3_meetOnLine (g_cons (x_l 1) (g_cons (x_l 2) (g_cons (x_l 3) (g_cons (x_l 4) (g_cons (x_l 5) g_nil))))))) (t := s_nop) c1
    have zb : (((decide (s6 = 0) && decide (s7 = 0)) && decide (s8 = 0)) && decide (s9 = 0)) = false := by
      rw [← Bool.not_eq_true]
      intro hh
      simp only [Bool.and_eq_true, decide_eq_true_eq] at hh
      exact z ⟨hh.1.1.1, hh.1.1.2, hh.1.2, hh.2⟩
    rw [zb, if_neg (by decide), nop_inl] at g5
    rw [sq_st g5]
    have n1 : (x_mul (x_l 6) (x_l 7)) [none, some u, some w, some p, some v, some q, some s6, some s7, some s8, some s9, none] σ = some (s6 * s7, σ) := by simp only [cs_run, cs_L0, s_ret, s_retz, s_retv, s_seq, s_set, s_inc, s_put, s_ast, s_zst, s_cst, s_ada, s_if, s_ex, s_cv, s_nop, s_brk, x_ite, x_l, x_k, x_f, x_a, x_ro, x_add, x_sub, x_mul, x_div, x_rem, x_neg, x_call, x_max, x_min, x_abs, g_cons, g_nil, y_lt, y_le, y_gt, y_ge, y_eq, y_ne, y_not, y_and, y_or, y_ite, Option.bind_some, Option.bind_none, List.getElem?_cons_zero, List.getElem?_cons_succ, List.getElem?_nil, List.set_cons_zero, List.set_cons_succ, List.cons_append, List.nil_append, List.append_nil, List.replicate, List.length_cons, List.length_nil, Nat.reduceAdd, Nat.reduceSub, Nat.zero_add, Nat.sub_self, if_true, if_false, ite_true, ite_false, reduceIte, reduceCtorEq, decide_true, decide_false, decide_eq_true_eq, Bool.not_true, Bool.not_false, Bool.true_and, Bool.false_and, Bool.and_true, Bool.and_false, Bool.true_or, Bool.false_or, Bool.false_eq_true, Bool.true_eq_false, not_true_eq_false, not_false_eq_true, ne_eq, Int.reduceEq, Int.reduceNe, Int.reduceLT, Int.reduceLE, and_self, and_true, true_and, and_false, false_and, or_true, true_or, or_false, false_or, true_or, Option.map_some, cs_chk_ok d1]
    have n2 : (x_mul (x_l 8) (x_l 9)) [none, some u, some w, some p, some v, some q, some s6, some s7, some s8, some s9, none] σ = some (s8 * s9, σ) := by simp only [cs_run, cs_L0, s_ret, s_retz, s_retv, s_seq, s_set, s_inc, s_put, s_ast, s_zst, s_cst, s_ada, s_if, s_ex, s_cv, s_nop, s_brk, x_ite, x_l, x_k, x_f, x_a, x_ro, x_add, x_sub, x_mul, x_div, x_rem, x_neg, x_call, x_max, x_min, x_abs, g_cons, g_nil, y_lt, y_le, y_gt, y_ge, y_eq, y_ne, y_not, y_and, y_or, y_ite, Option.bind_some, Option.bind_none, List.getElem?_cons_zero, List.getElem?_cons_succ, List.getElem?_nil, List.set_cons_zero, List.set_cons_succ, List.cons_append, List.nil_append, List.append_nil, List.replicate, List.length_cons, List.length_nil, Nat.reduceAdd, Nat.reduceSub, Nat.zero_add, Nat.sub_self, if_true, if_false, ite_true, ite_false, reduceIte, reduceCtorEq, decide_true, decide_false, decide_eq_true_eq, Bool.not_true, Bool.not_false, Bool.true_and, Bool.false_and, Bool.and_true, Bool.and_false, Bool.true_or, Bool.false_or, Bool.false_eq_true, Bool.true_eq_false, not_true_eq_false, not_false_eq_true, ne_eq, Int.reduceEq, Int.reduceNe, Int.reduceLT, Int.reduceLE, and_self, and_true, true_and, and_false, false_and, or_true, true_or, or_false, false_or, true_or, Option.map_some, cs_chk_ok d2]
    have c2 := yo (ygt0 n1) (ygt0 n2)
    have g6 := sif (s := s_retz (x_k 0)) (t := s_nop) c2
    by_cases y : 0 < s6 * s7 ∨ 0 < s8 * s9
    · have yb : (decide (0 < s6 * s7) || decide (0 < s8 * s9)) = true := by
        rw [Bool.or_eq_true, decide_eq_true_eq, decide_eq_true_eq]; exact y
      rw [yb, if_pos rfl] at g6
      have hr : (s_retz (x_k 0)) [none, some u, some w, some p, some v, some q, some s6, some s7, some s8, some s9, none] σ = some (.inr (.inl (some 0, σ))) := by simp only [cs_run, cs_L0, s_ret, s_retz, s_retv, s_seq, s_set, s_inc, s_put, s_ast, s_zst, s_cst, s_ada, s_if, s_ex, s_cv, s_nop, s_brk, x_ite, x_l, x_k, x_f, x_a, x_ro, x_add, x_sub, x_mul, x_div, x_rem, x_neg, x_call, x_max, x_min, x_abs, g_cons, g_nil, y_lt, y_le, y_gt, y_ge, y_eq, y_ne, y_not, y_and, y_or, y_ite, Option.bind_some, Option.bind_none, List.getElem?_cons_zero, List.getElem?_cons_succ, List.getElem?_nil, List.set_cons_zero, List.set_cons_succ, List.cons_append, List.nil_append, List.append_nil, List.replicate, List.length_cons, List.length_nil, Nat.reduceAdd, Nat.reduceSub, Nat.zero_add, Nat.sub_self, if_true, if_false, ite_true, ite_false, reduceIte, reduceCtorEq, decide_true, decide_false, decide_eq_true_eq, Bool.not_true, Bool.not_false, Bool.true_and, Bool.false_and, Bool.and_true, Bool.and_false, Bool.true_or, Bool.false_or, Bool.false_eq_true, Bool.true_eq_false, not_true_eq_false, not_false_eq_true, ne_eq, Int.reduceEq, Int.reduceNe, Int.reduceLT, Int.reduceLE, and_self, and_true, true_and, and_false, false_and, or_true, true_or, or_false, false_or, true_or, Option.map_some]
      rw [hr] at g6
      refine ⟨0, ?_, Or.inr rfl, ?_⟩
      · simp only [s_seq, g6, Option.bind_some]
      · constructor
        · intro q0; exact absurd q0 (by decide)
        · rintro (⟨z1, -⟩ | ⟨-, y1, y2, -⟩)
          · exact absurd z1 z
          · rcases y with y | y
            · exact absurd y y1
            · exact absurd y y2
    · have yb : (decide (0 < s6 * s7) || decide (0 < s8 * s9)) = false := by
        rw [← Bool.not_eq_true, Bool.or_eq_true, decide_eq_true_eq, decide_eq_true_eq]; exact y
      rw [yb, if_neg (by decide), nop_inl] at g6
      rw [sq_st g6]
      have n3 : (x_call f_X3_sideOf_ (g_cons (x_l 1) (g_cons (x_l 2) (g_cons (x_l 5) g_nil)))) [none, some u, some w, some p, some v, some q, some s6, some s7, some s8, some s9, none] σ = some (s10, σ) := by simp only [cs_run, cs_L0, s_ret, s_retz, s_retv, s_seq, s_set, s_inc, s_put, s_ast, s_zst, s_cst, s_ada, s_if, s_ex, s_cv, s_nop, s_brk, x_ite, x_l, x_k, x_f, x_a, x_ro, x_add, x_sub, x_mul, x_div, x_rem, x_neg, x_call, x_max, x_min, x_abs, g_cons, g_nil, y_lt, y_le, y_gt, y_ge, y_eq, y_ne, y_not, y_and, y_or, y_ite, Option.bind_some, Option.bind_none, List.getElem?_cons_zero, List.getElem?_cons_succ, List.getElem?_nil, List.set_cons_zero, List.set_cons_succ, List.cons_append, List.nil_append, List.append_nil, List.replicate, List.length_cons, List.length_nil, Nat.reduceAdd, Nat.reduceSub, Nat.zero_add, Nat.sub_self, if_true, if_false, ite_true, ite_false, reduceIte, reduceCtorEq, decide_true, decide_false, decide_eq_true_eq, Bool.not_true, Bool.not_false, Bool.true_and, Bool.false_and, Bool.and_true, Bool.and_false, Bool.true_or, Bool.false_or, Bool.false_eq_true, Bool.true_eq_false, not_true_eq_false, not_false_eq_true, ne_eq, Int.reduceEq, Int.reduceNe, Int.reduceLT, Int.reduceLE, and_self, and_true, true_and, and_false, false_and, or_true, true_or, or_false, false_or, true_or, Option.map_some, f5]
      have n4 : (x_call f_X3_sideOf_ (g_cons (x_l 3) (g_cons (x_l 4) (g_cons (x_l 5) g_nil)))) [none, some u, some w, some p, some v, some q, some s6, some s7, some s8, some s9, none] σ = some (s11, σ) := by simp only [cs_run, cs_L0, s_ret, s_retz, s_retv, s_seq, s_set, s_inc, s_put, s_ast, s_zst, s_cst, s_ada, s_if, s_ex, s_cv, s_nop, s_brk, x_ite, x_l, x_k, x_f, x_a, x_ro, x_add, x_sub, x_mul, x_div, x_rem, x_neg, x_call, x_max, x_min, x_abs, g_cons, g_nil, y_lt, y_le, y_gt, y_ge, y_eq, y_ne, y_not, y_and, y_or, y_ite, Option.bind_some, Option.bind_none, List.getElem?_cons_zero, List.getElem?_cons_succ, List.getElem?_nil, List.set_cons_zero, List.set_cons_succ, List.cons_append, List.nil_append, List.append_nil, List.replicate, List.length_cons, List.length_nil, Nat.reduceAdd, Nat.reduceSub, Nat.zero_add, Nat.sub_self, if_true, if_false, ite_true, ite_false, reduceIte, reduceCtorEq, decide_true, decide_false, decide_eq_true_eq, Bool.not_true, Bool.not_false, Bool.true_and, Bool.false_and, Bool.and_true, Bool.and_false, Bool.true_or, Bool.false_or, Bool.false_eq_true, Bool.true_eq_false, not_true_eq_false, not_false_eq_true, ne_eq, Int.reduceEq, Int.reduceNe, Int.reduceLT, Int.reduceLE, and_self, and_true, true_and, and_false, false_and, or_true, true_or, or_false, false_or, true_or, Option.map_some, f6]
      have g7 := sset (i := 10) (xit (k := 1) (l := 0) (ya (yeq0 n3) (yeq0 n4)))
      simp only [List.set_cons_succ, List.set_cons_zero] at g7
      rw [sq_st g7]
      generalize hA : (decide (s10 = 0) && decide (s11 = 0)) = A at *
      have k6' : x_l 6 [none, some u, some w, some p, some v, some q, some s6, some s7, some s8, some s9, some (if A then 1 else 0)] σ = some (s6, σ) := xl rfl
      have k10 : x_l 10 [none, some u, some w, some p, some v, some q, some s6, some s7, some s8, some s9, some (if A then 1 else 0)] σ = some (if A then 1 else 0, σ) := xl rfl
      have g8 := retz (xit (k := 1) (l := 0) (ya (yne0 k6') (ynt (yne0 k10))))
      refine ⟨_, by rw [g8], b01 _, ?_⟩
      rw [b01_iff]
      have hA' : A = true ↔ s10 = 0 ∧ s11 = 0 := by rw [← hA, Bool.and_eq_true, decide_eq_true_eq, decide_eq_true_eq]
      have y1 : ¬ 0 < s6 * s7 := fun t => y (Or.inl t)
      have y2 : ¬ 0 < s8 * s9 := fun t => y (Or.inr t)
      rw [← hA']
      have hz := eq_false z
      have e1 := eq_false y1
      have e2 := eq_false y2
      simp only [gt_iff_lt, hz, e1, e2, false_and, false_or, not_false_eq_true, true_and]
      cases A <;> simp
