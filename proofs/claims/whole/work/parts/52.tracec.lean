/-! the class's tracing: its small methods -/
def insD (w h t : Int) (a : Nat → Int) (x y : Int) : Bool := inP w h x y && decide (t ≤ a (ix x y))
theorem insD_J {w h t : Int} {a : Nat → Int} : insJ w h (insD w h t a) := fun x y hx => by
  simp only [insD, Bool.and_eq_true] at hx
  exact inP_iff.mp hx.1
abbrev insC (σ : cs_S) : Int → Int → Bool := insD (σ 1 3) (σ 1 4) (σ 5 3) (σ 11)
theorem at_ge {w h t : Int} {a : Nat → Int} {x y : Int} (ht : 1 ≤ t) : (decide (t ≤ if inP w h x y then a (ix x y) else 0)) = insD w h t a x y := by
  unfold insD
  cases inP w h x y with
  | true => simp
  | false => simp; omega
theorem at_lt {w h t : Int} {a : Nat → Int} {x y : Int} (ht : 1 ≤ t) : (decide ((if inP w h x y then a (ix x y) else 0) < t)) = !insD w h t a x y := by
  rw [← at_ge ht]
  by_cases h : t ≤ if inP w h x y then a (ix x y) else 0
  · rw [decide_eq_true h, decide_eq_false (by omega)]; rfl
  · rw [decide_eq_false h, decide_eq_true (by omega)]; rfl
theorem f_hasArrow (σ : cs_S) (hz : szJ (σ 1 3) (σ 1 4)) (ht : 1 ≤ σ 5 3) (x y d : Int) (hx : -50 ≤ x ∧ x ≤ 50) (hy : -50 ≤ y ∧ y ≤ 50) (hd : 0 ≤ d ∧ d < 4) : f_X8_hasArrow [x, y, d] σ = some (some (if arr (insC σ) x y d then 1 else 0), σ) := by
  change f_X8_hasArrow [x, y, d] σ = some (some (if arr (insD (σ 1 3) (σ 1 4) (σ 5 3) (σ 11)) x y d then 1 else 0), σ)
  have a0 := f_at x y σ hz
  have a1 := f_at (x - 1) y σ hz
  have a2 := f_at (x - 1) (y - 1) σ hz
  have a3 := f_at x (y - 1) σ hz
  have e1 : ∀ z : Int, z + 0 = z := fun z => by omega
  have e2 : ∀ z : Int, z + -1 = z - 1 := fun z => by omega
  have r0 : ([0, -1, -1, 0] : List Int).getD (Int.toNat 0) 0 = 0 ∧ ([0, -1, -1, 0] : List Int).getD (Int.toNat 1) 0 = -1 ∧ ([0, -1, -1, 0] : List Int).getD (Int.toNat 2) 0 = -1 ∧ ([0, -1, -1, 0] : List Int).getD (Int.toNat 3) 0 = 0 := by decide
  have r1 : ([0, 0, -1, -1] : List Int).getD (Int.toNat 0) 0 = 0 ∧ ([0, 0, -1, -1] : List Int).getD (Int.toNat 1) 0 = 0 ∧ ([0, 0, -1, -1] : List Int).getD (Int.toNat 2) 0 = -1 ∧ ([0, 0, -1, -1] : List Int).getD (Int.toNat 3) 0 = -1 := by decide
  have g0 := at_ge (w := σ 1 3) (h := σ 1 4) (a := σ 11) (x := x) (y := y) ht
  have g1 := at_ge (w := σ 1 3) (h := σ 1 4) (a := σ 11) (x := x - 1) (y := y) ht
  have g2 := at_ge (w := σ 1 3) (h := σ 1 4) (a := σ 11) (x := x - 1) (y := y - 1) ht
  have g3 := at_ge (w := σ 1 3) (h := σ 1 4) (a := σ 11) (x := x) (y := y - 1) ht
  have l0 := at_lt (w := σ 1 3) (h := σ 1 4) (a := σ 11) (x := x) (y := y) ht
  have l1 := at_lt (w := σ 1 3) (h := σ 1 4) (a := σ 11) (x := x - 1) (y := y) ht
  have l2 := at_lt (w := σ 1 3) (h := σ 1 4) (a := σ 11) (x := x - 1) (y := y - 1) ht
  have l3 := at_lt (w := σ 1 3) (h := σ 1 4) (a := σ 11) (x := x) (y := y - 1) ht
  generalize (if inP (σ 1 3) (σ 1 4) x y = true then σ 11 (ix x y) else 0) = v0 at *
  generalize (if inP (σ 1 3) (σ 1 4) (x - 1) y = true then σ 11 (ix (x - 1) y) else 0) = v1 at *
  generalize (if inP (σ 1 3) (σ 1 4) (x - 1) (y - 1) = true then σ 11 (ix (x - 1) (y - 1)) else 0) = v2 at *
  generalize (if inP (σ 1 3) (σ 1 4) x (y - 1) = true then σ 11 (ix x (y - 1)) else 0) = v3 at *
  generalize insD (σ 1 3) (σ 1 4) (σ 5 3) (σ 11) = I at *
  rcases d4 hd with rfl | rfl | rfl | rfl
  · have m : ((0 : Int) + 3) % 4 = 3 := by decide
    cases hi : I x y <;> cases hj : I x (y - 1) <;> rw [hi] at g0 <;> rw [hj] at l3 <;> simp (disch := omega) only [cs_run, cs_L0, s_ret, s_retz, s_retv, s_seq, s_set, s_inc, s_put, s_ast, s_zst, s_cst, s_ada, s_if, s_ex, s_cv, s_nop, s_brk, x_ite, x_l, x_k, x_f, x_a, x_ro, x_add, x_sub, x_mul, x_div, x_rem, x_neg, x_call, x_max, x_min, x_abs, g_cons, g_nil, y_lt, y_le, y_gt, y_ge, y_eq, y_ne, y_not, y_and, y_or, y_ite, Option.bind_some, Option.bind_none, List.getElem?_cons_zero, List.getElem?_cons_succ, List.getElem?_nil, List.set_cons_zero, List.set_cons_succ, List.cons_append, List.nil_append, List.append_nil, List.replicate, List.length_cons, List.length_nil, Nat.reduceAdd, Nat.reduceSub, Nat.zero_add, Nat.sub_self, if_true, if_false, ite_true, ite_false, reduceIte, reduceCtorEq, decide_true, decide_false, decide_eq_true_eq, Bool.not_true, Bool.not_false, Bool.true_and, Bool.false_and, Bool.and_true, Bool.and_false, Bool.true_or, Bool.false_or, Bool.false_eq_true, Bool.true_eq_false, not_true_eq_false, not_false_eq_true, ne_eq, Int.reduceEq, Int.reduceNe, Int.reduceLT, Int.reduceLE, and_self, and_true, true_and, and_false, false_and, or_true, true_or, or_false, false_or, true_or, Option.map_some, cs_chk_ok, cs_rd_ok, cs_wr_ok, f_X8_hasArrow, b_X8_hasArrow, cs_run, cs_L0, m, r0, r1, e1, e2, a0, a3, g0, l3, arr, hi, hj, Int.reduceAdd, Int.reduceMod]
  · have m : ((1 : Int) + 3) % 4 = 0 := by decide
    cases hi : I (x - 1) y <;> cases hj : I x y <;> rw [hi] at g1 <;> rw [hj] at l0 <;> simp (disch := omega) only [cs_run, cs_L0, s_ret, s_retz, s_retv, s_seq, s_set, s_inc, s_put, s_ast, s_zst, s_cst, s_ada, s_if, s_ex, s_cv, s_nop, s_brk, x_ite, x_l, x_k, x_f, x_a, x_ro, x_add, x_sub, x_mul, x_div, x_rem, x_neg, x_call, x_max, x_min, x_abs, g_cons, g_nil, y_lt, y_le, y_gt, y_ge, y_eq, y_ne, y_not, y_and, y_or, y_ite, Option.bind_some, Option.bind_none, List.getElem?_cons_zero, List.getElem?_cons_succ, List.getElem?_nil, List.set_cons_zero, List.set_cons_succ, List.cons_append, List.nil_append, List.append_nil, List.replicate, List.length_cons, List.length_nil, Nat.reduceAdd, Nat.reduceSub, Nat.zero_add, Nat.sub_self, if_true, if_false, ite_true, ite_false, reduceIte, reduceCtorEq, decide_true, decide_false, decide_eq_true_eq, Bool.not_true, Bool.not_false, Bool.true_and, Bool.false_and, Bool.and_true, Bool.and_false, Bool.true_or, Bool.false_or, Bool.false_eq_true, Bool.true_eq_false, not_true_eq_false, not_false_eq_true, ne_eq, Int.reduceEq, Int.reduceNe, Int.reduceLT, Int.reduceLE, and_self, and_true, true_and, and_false, false_and, or_true, true_or, or_false, false_or, true_or, Option.map_some, cs_chk_ok, cs_rd_ok, cs_wr_ok, f_X8_hasArrow, b_X8_hasArrow, cs_run, cs_L0, m, r0, r1, e1, e2, a0, a1, g1, l0, arr, hi, hj, Int.reduceAdd, Int.reduceMod]
  · have m : ((2 : Int) + 3) % 4 = 1 := by decide
    cases hi : I (x - 1) (y - 1) <;> cases hj : I (x - 1) y <;> rw [hi] at g2 <;> rw [hj] at l1 <;> simp (disch := omega) only [cs_run, cs_L0, s_ret, s_retz, s_retv, s_seq, s_set, s_inc, s_put, s_ast, s_zst, s_cst, s_ada, s_if, s_ex, s_cv, s_nop, s_brk, x_ite, x_l, x_k, x_f, x_a, x_ro, x_add, x_sub, x_mul, x_div, x_rem, x_neg, x_call, x_max, x_min, x_abs, g_cons, g_nil, y_lt, y_le, y_gt, y_ge, y_eq, y_ne, y_not, y_and, y_or, y_ite, Option.bind_some, Option.bind_none, List.getElem?_cons_zero, List.getElem?_cons_succ, List.getElem?_nil, List.set_cons_zero, List.set_cons_succ, List.cons_append, List.nil_append, List.append_nil, List.replicate, List.length_cons, List.length_nil, Nat.reduceAdd, Nat.reduceSub, Nat.zero_add, Nat.sub_self, if_true, if_false, ite_true, ite_false, reduceIte, reduceCtorEq, decide_true, decide_false, decide_eq_true_eq, Bool.not_true, Bool.not_false, Bool.true_and, Bool.false_and, Bool.and_true, Bool.and_false, Bool.true_or, Bool.false_or, Bool.false_eq_true, Bool.true_eq_false, not_true_eq_false, not_false_eq_true, ne_eq, Int.reduceEq, Int.reduceNe, Int.reduceLT, Int.reduceLE, and_self, and_true, true_and, and_false, false_and, or_true, true_or, or_false, false_or, true_or, Option.map_some, cs_chk_ok, cs_rd_ok, cs_wr_ok, f_X8_hasArrow, b_X8_hasArrow, cs_run, cs_L0, m, r0, r1, e1, e2, a1, a2, g2, l1, arr, hi, hj, Int.reduceAdd, Int.reduceMod]
  · have m : ((3 : Int) + 3) % 4 = 2 := by decide
    cases hi : I x (y - 1) <;> cases hj : I (x - 1) (y - 1) <;> rw [hi] at g3 <;> rw [hj] at l2 <;> simp (disch := omega) only [cs_run, cs_L0, s_ret, s_retz, s_retv, s_seq, s_set, s_inc, s_put, s_ast, s_zst, s_cst, s_ada, s_if, s_ex, s_cv, s_nop, s_brk, x_ite, x_l, x_k, x_f, x_a, x_ro, x_add, x_sub, x_mul, x_div, x_rem, x_neg, x_call, x_max, x_min, x_abs, g_cons, g_nil, y_lt, y_le, y_gt, y_ge, y_eq, y_ne, y_not, y_and, y_or, y_ite, Option.bind_some, Option.bind_none, List.getElem?_cons_zero, List.getElem?_cons_succ, List.getElem?_nil, List.set_cons_zero, List.set_cons_succ, List.cons_append, List.nil_append, List.append_nil, List.replicate, List.length_cons, List.length_nil, Nat.reduceAdd, Nat.reduceSub, Nat.zero_add, Nat.sub_self, if_true, if_false, ite_true, ite_false, reduceIte, reduceCtorEq, decide_true, decide_false, decide_eq_true_eq, Bool.not_true, Bool.not_false, Bool.true_and, Bool.false_and, Bool.and_true, Bool.and_false, Bool.true_or, Bool.false_or, Bool.false_eq_true, Bool.true_eq_false, not_true_eq_false, not_false_eq_true, ne_eq, Int.reduceEq, Int.reduceNe, Int.reduceLT, Int.reduceLE, and_self, and_true, true_and, and_false, false_and, or_true, true_or, or_false, false_or, true_or, Option.map_some, cs_chk_ok, cs_rd_ok, cs_wr_ok, f_X8_hasArrow, b_X8_hasArrow, cs_run, cs_L0, m, r0, r1, e1, e2, a2, a3, g3, l2, arr, hi, hj, Int.reduceAdd, Int.reduceMod]
theorem f_dirFrom (σ : cs_S) (hz : szJ (σ 1 3) (σ 1 4)) (ht : 1 ≤ σ 5 3) (hpt : σ 5 4 = 1 ∨ σ 5 4 = 3) (x y d : Int) (hx : -50 ≤ x ∧ x ≤ 50) (hy : -50 ≤ y ∧ y ≤ 50) (hd : 0 ≤ d ∧ d < 4) : f_X8_directionFrom [x, y, d] σ = some (some (ndr (insC σ) (σ 5 4) x y d), σ) := by
  have hm : 0 ≤ (d + σ 5 4) % 4 ∧ (d + σ 5 4) % 4 < 4 := by omega
  have h1 := f_hasArrow σ hz ht x y ((d + σ 5 4) % 4) hx hy hm
  have h2 := f_hasArrow σ hz ht x y d hx hy hd
  unfold ndr
  generalize insC σ = I at *
  cases c1 : arr I x y ((d + σ 5 4) % 4) <;> cases c2 : arr I x y d <;> rw [c1] at h1 <;> rw [c2] at h2 <;> simp only [if_true, Bool.false_eq_true, if_false] at h1 h2
  all_goals
    have i1 : (0 ≤ d + σ 5 4 ∧ (0 : Int) < 4) = True := by simp; omega
    have i2 : (0 ≤ d + 4 - σ 5 4 ∧ (0 : Int) < 4) = True := by simp; omega
    have i1' : (0 ≤ d + σ 5 4) = True := by simp; omega
    have i2' : (0 ≤ d + 4 - σ 5 4) = True := by simp; omega
    simp (disch := omega) only [cs_run, cs_L0, s_ret, s_retz, s_retv, s_seq, s_set, s_inc, s_put, s_ast, s_zst, s_cst, s_ada, s_if, s_ex, s_cv, s_nop, s_brk, x_ite, x_l, x_k, x_f, x_a, x_ro, x_add, x_sub, x_mul, x_div, x_rem, x_neg, x_call, x_max, x_min, x_abs, g_cons, g_nil, y_lt, y_le, y_gt, y_ge, y_eq, y_ne, y_not, y_and, y_or, y_ite, Option.bind_some, Option.bind_none, List.getElem?_cons_zero, List.getElem?_cons_succ, List.getElem?_nil, List.set_cons_zero, List.set_cons_succ, List.cons_append, List.nil_append, List.append_nil, List.replicate, List.length_cons, List.length_nil, Nat.reduceAdd, Nat.reduceSub, Nat.zero_add, Nat.sub_self, if_true, if_false, ite_true, ite_false, reduceIte, reduceCtorEq, decide_true, decide_false, decide_eq_true_eq, Bool.not_true, Bool.not_false, Bool.true_and, Bool.false_and, Bool.and_true, Bool.and_false, Bool.true_or, Bool.false_or, Bool.false_eq_true, Bool.true_eq_false, not_true_eq_false, not_false_eq_true, ne_eq, Int.reduceEq, Int.reduceNe, Int.reduceLT, Int.reduceLE, and_self, and_true, true_and, and_false, false_and, or_true, true_or, or_false, false_or, true_or, Option.map_some, cs_chk_ok, cs_rd_ok, cs_wr_ok, f_X8_directionFrom, b_X8_directionFrom, cs_run, cs_L0, i1, i2, i1', i2', h1, h2]
theorem f_isPassed (σ : cs_S) (hz : szJ (σ 1 3) (σ 1 4)) (x y : Int) (hp : inP (σ 1 3) (σ 1 4) x y = true) : f_X8_isPassed [x, y] σ = some (some (if σ 25 (ix x y) ≠ 0 then 1 else 0), σ) := by
  have hq := inP_iff.mp hp
  have hh := f_has x y σ
  simp only [hp, if_true] at hh
  by_cases c : σ 25 (ix x y) = 0
  · simp (disch := omega) only [cs_run, cs_L0, s_ret, s_retz, s_retv, s_seq, s_set, s_inc, s_put, s_ast, s_zst, s_cst, s_ada, s_if, s_ex, s_cv, s_nop, s_brk, x_ite, x_l, x_k, x_f, x_a, x_ro, x_add, x_sub, x_mul, x_div, x_rem, x_neg, x_call, x_max, x_min, x_abs, g_cons, g_nil, y_lt, y_le, y_gt, y_ge, y_eq, y_ne, y_not, y_and, y_or, y_ite, Option.bind_some, Option.bind_none, List.getElem?_cons_zero, List.getElem?_cons_succ, List.getElem?_nil, List.set_cons_zero, List.set_cons_succ, List.cons_append, List.nil_append, List.append_nil, List.replicate, List.length_cons, List.length_nil, Nat.reduceAdd, Nat.reduceSub, Nat.zero_add, Nat.sub_self, if_true, if_false, ite_true, ite_false, reduceIte, reduceCtorEq, decide_true, decide_false, decide_eq_true_eq, Bool.not_true, Bool.not_false, Bool.true_and, Bool.false_and, Bool.and_true, Bool.and_false, Bool.true_or, Bool.false_or, Bool.false_eq_true, Bool.true_eq_false, not_true_eq_false, not_false_eq_true, ne_eq, Int.reduceEq, Int.reduceNe, Int.reduceLT, Int.reduceLE, and_self, and_true, true_and, and_false, false_and, or_true, true_or, or_false, false_or, true_or, Option.map_some, cs_chk_ok, cs_rd_ok, cs_wr_ok, f_X8_isPassed, b_X8_isPassed, cs_run, cs_L0, hh, c]
  · simp (disch := omega) only [cs_run, cs_L0, s_ret, s_retz, s_retv, s_seq, s_set, s_inc, s_put, s_ast, s_zst, s_cst, s_ada, s_if, s_ex, s_cv, s_nop, s_brk, x_ite, x_l, x_k, x_f, x_a, x_ro, x_add, x_sub, x_mul, x_div, x_rem, x_neg, x_call, x_max, x_min, x_abs, g_cons, g_nil, y_lt, y_le, y_gt, y_ge, y_eq, y_ne, y_not, y_and, y_or, y_ite, Option.bind_some, Option.bind_none, List.getElem?_cons_zero, List.getElem?_cons_succ, List.getElem?_nil, List.set_cons_zero, List.set_cons_succ, List.cons_append, List.nil_append, List.append_nil, List.replicate, List.length_cons, List.length_nil, Nat.reduceAdd, Nat.reduceSub, Nat.zero_add, Nat.sub_self, if_true, if_false, ite_true, ite_false, reduceIte, reduceCtorEq, decide_true, decide_false, decide_eq_true_eq, Bool.not_true, Bool.not_false, Bool.true_and, Bool.false_and, Bool.and_true, Bool.and_false, Bool.true_or, Bool.false_or, Bool.false_eq_true, Bool.true_eq_false, not_true_eq_false, not_false_eq_true, ne_eq, Int.reduceEq, Int.reduceNe, Int.reduceLT, Int.reduceLE, and_self, and_true, true_and, and_false, false_and, or_true, true_or, or_false, false_or, true_or, Option.map_some, cs_chk_ok, cs_rd_ok, cs_wr_ok, f_X8_isPassed, b_X8_isPassed, cs_run, cs_L0, hh, c]
theorem f_pass (σ : cs_S) (hz : szJ (σ 1 3) (σ 1 4)) (x y : Int) (hp : inP (σ 1 3) (σ 1 4) x y = true) : f_X8_pass [x, y] σ = some (none, cs_set σ 25 (au (σ 25) (ix x y) 1)) := by
  have hq := inP_iff.mp hp
  have hh := f_has x y σ
  simp only [hp, if_true] at hh
  simp (disch := omega) only [cs_run, cs_L0, s_ret, s_retz, s_retv, s_seq, s_set, s_inc, s_put, s_ast, s_zst, s_cst, s_ada, s_if, s_ex, s_cv, s_nop, s_brk, x_ite, x_l, x_k, x_f, x_a, x_ro, x_add, x_sub, x_mul, x_div, x_rem, x_neg, x_call, x_max, x_min, x_abs, g_cons, g_nil, y_lt, y_le, y_gt, y_ge, y_eq, y_ne, y_not, y_and, y_or, y_ite, Option.bind_some, Option.bind_none, List.getElem?_cons_zero, List.getElem?_cons_succ, List.getElem?_nil, List.set_cons_zero, List.set_cons_succ, List.cons_append, List.nil_append, List.append_nil, List.replicate, List.length_cons, List.length_nil, Nat.reduceAdd, Nat.reduceSub, Nat.zero_add, Nat.sub_self, if_true, if_false, ite_true, ite_false, reduceIte, reduceCtorEq, decide_true, decide_false, decide_eq_true_eq, Bool.not_true, Bool.not_false, Bool.true_and, Bool.false_and, Bool.and_true, Bool.and_false, Bool.true_or, Bool.false_or, Bool.false_eq_true, Bool.true_eq_false, not_true_eq_false, not_false_eq_true, ne_eq, Int.reduceEq, Int.reduceNe, Int.reduceLT, Int.reduceLE, and_self, and_true, true_and, and_false, false_and, or_true, true_or, or_false, false_or, true_or, Option.map_some, cs_chk_ok, cs_rd_ok, cs_wr_ok, f_X8_pass, b_X8_pass, cs_run, cs_L0, hh, cs_up_eq]
/-! contours grow -/
def begC (σ : cs_S) : cs_S := fun p =>
  if p = 15 then au (au (σ 15) (σ 4 1).toNat (σ 4 2)) (σ 4 1 + 1).toNat (σ 4 2)
  else if p = 16 then au (σ 16) (σ 4 1).toNat 0
  else if p = 17 then au (σ 17) (σ 4 1).toNat (-1)
  else if p = 4 then au (σ 4) 1 (σ 4 1 + 1)
  else σ p
theorem f_begC (σ : cs_S) (h0 : 0 ≤ σ 4 1) (h1 : σ 4 1 < 110) : f_X1_beginContour [] σ = some (some 1, begC σ) := by
  have hst : cs_set (cs_set (cs_set (cs_set σ 15 (au (au (σ 15) (σ 4 1).toNat (σ 4 2)) (σ 4 1 + 1).toNat (σ 4 2))) 16 (au (σ 16) (σ 4 1).toNat 0)) 17 (au (σ 17) (σ 4 1).toNat (-1))) 4 (au (σ 4) 1 (σ 4 1 + 1)) = begC σ := by
    funext p
    unfold begC cs_set
    by_cases p15 : p = 15
    · subst p15; simp
    · by_cases p16 : p = 16
      · subst p16; simp
      · by_cases p17 : p = 17
        · subst p17; simp
        · simp [p15, p16, p17]
  have c1 : ¬ 110 ≤ σ 4 1 := by omega
  have k4 : ∀ m, cs_set σ 15 m 4 = σ 4 := fun m => cs_set_ne (by decide)
  simp (disch := first | omega | decide) only [f_X1_beginContour, b_X1_beginContour, cs_run, cs_L0, s_ret, s_retz, s_retv, s_seq, s_set, s_inc, s_put, s_ast, s_zst, s_cst, s_ada, s_if, s_ex, s_cv, s_nop, s_brk, x_ite, x_l, x_k, x_f, x_a, x_ro, x_add, x_sub, x_mul, x_div, x_rem, x_neg, x_call, x_max, x_min, x_abs, g_cons, g_nil, y_lt, y_le, y_gt, y_ge, y_eq, y_ne, y_not, y_and, y_or, y_ite, Option.bind_some, Option.bind_none, List.getElem?_cons_zero, List.getElem?_cons_succ, List.getElem?_nil, List.set_cons_zero, List.set_cons_succ, List.cons_append, List.nil_append, List.append_nil, List.replicate, List.length_cons, List.length_nil, Nat.reduceAdd, Nat.reduceSub, Nat.zero_add, Nat.sub_self, if_true, if_false, ite_true, ite_false, reduceIte, reduceCtorEq, decide_true, decide_false, decide_eq_true_eq, Bool.not_true, Bool.not_false, Bool.true_and, Bool.false_and, Bool.and_true, Bool.and_false, Bool.true_or, Bool.false_or, Bool.false_eq_true, Bool.true_eq_false, not_true_eq_false, not_false_eq_true, ne_eq, Int.reduceEq, Int.reduceNe, Int.reduceLT, Int.reduceLE, and_self, and_true, true_and, and_false, false_and, or_true, true_or, or_false, false_or, true_or, Option.map_some, cs_chk_ok, cs_wr_ok, c1, cs_up_eq, cs_set_at, cs_set_ne, cs_set_set, hst]
def addC (σ : cs_S) (x y : Int) : cs_S := fun p =>
  if p = 4 then au (au (σ 4) 2 (σ 4 2 + 1)) 3 (σ 4 3 + 1)
  else if p = 15 then au (σ 15) (σ 4 1).toNat (σ 4 2 + 1)
  else if p = 16 then au (σ 16) (σ 4 1 - 1).toNat (σ 16 (σ 4 1 - 1).toNat + 1)
  else if p = 20 then au (σ 20) (σ 4 2).toNat (σ 4 1 - 1)
  else if p = 21 then au (σ 21) (σ 4 2).toNat x
  else if p = 22 then au (σ 22) (σ 4 2).toNat y
  else if p = 23 then au (σ 23) (σ 4 2).toNat 1
  else if p = 24 then au (σ 24) (y * 17 + x).toNat (σ 24 (y * 17 + x).toNat + 1)
  else σ p
