/-! flooding: the class's queue -/
def sx (d : Int) : Int := ro_0.2.2 d.toNat
def sy (d : Int) : Int := ro_1.2.2 d.toNat
theorem sxy (d : Int) (h0 : 0 ≤ d) (h4 : d < 4) : (sx d = 1 ∧ sy d = 0) ∨ (sx d = 0 ∧ sy d = 1) ∨ (sx d = -1 ∧ sy d = 0) ∨ (sx d = 0 ∧ sy d = -1) := by
  have : d = 0 ∨ d = 1 ∨ d = 2 ∨ d = 3 := by omega
  rcases this with rfl | rfl | rfl | rfl <;> simp [sx, sy]
def ClosedF (w h : Int) (a0 : Nat → Int) (old : Int) (D : Nat → Prop) : Prop := ∀ x y, inP w h x y = true → D (ix x y) → ∀ d : Int, 0 ≤ d → d < 4 → inP w h (x + sx d) (y + sy d) = true → a0 (ix (x + sx d) (y + sy d)) = old → D (ix (x + sx d) (y + sy d))
def FI (w h : Int) (a0 : Nat → Int) (old new : Int) (s0 : Nat) (R : List Nat) (a rr : Nat → Int) : Prop :=
  R.Nodup ∧ (∀ k ∈ R, k < 192 ∧ (∃ x y, inP w h x y = true ∧ k = ix x y) ∧ a0 k = old) ∧ (∀ k, a k = if k ∈ R then new else a0 k) ∧ (∀ (j : Nat) (hj : j < R.length), rr j = (R[j] : Int)) ∧ ∀ D, ClosedF w h a0 old D → D s0 → ∀ k ∈ R, D k
theorem nd_len {R : List Nat} {n : Nat} (h : R.Nodup) (hb : ∀ k ∈ R, k < n) : R.length ≤ n := by
  have := List.Nodup.length_le_of_subset h (l₂ := List.range n) (fun k hk => List.mem_range.mpr (hb k hk))
  simpa using this
def floodS (σ : cs_S) (a rr : Nat → Int) (n : Nat) : cs_S := cs_set (cs_set (cs_set σ 11 a) 12 rr) 1 (au (σ 1) 2 (n : Int))
theorem floodS_11 (σ : cs_S) (a rr : Nat → Int) (n : Nat) : floodS σ a rr n 11 = a := by simp [floodS, cs_set]
theorem floodS_12 (σ : cs_S) (a rr : Nat → Int) (n : Nat) : floodS σ a rr n 12 = rr := by simp [floodS, cs_set]
theorem floodS_2 (σ : cs_S) (a rr : Nat → Int) (n : Nat) : floodS σ a rr n 1 2 = n := by simp [floodS, cs_set, au]
theorem floodS_3 (σ : cs_S) (a rr : Nat → Int) (n : Nat) : floodS σ a rr n 1 3 = σ 1 3 := by simp [floodS, cs_set, au]
theorem floodS_4 (σ : cs_S) (a rr : Nat → Int) (n : Nat) : floodS σ a rr n 1 4 = σ 1 4 := by simp [floodS, cs_set, au]
theorem reach_st (σ : cs_S) (x y new : Int) (h0 : 0 ≤ y * 16 + x) (a rr : Nat → Int) (n : Nat) : cs_up (cs_up (cs_set (floodS σ a rr n) 11 (au a (ix x y) new)) 12 ((n : Int)).toNat (y * 16 + x)) 1 2 ((n : Int) + 1) = floodS σ (au a (ix x y) new) (au rr n (ix x y)) (n + 1) := by
  have e : ((ix x y : Nat) : Int) = y * 16 + x := by unfold ix; omega
  rw [e]
  funext q j
  simp only [cs_up, cs_set, floodS, Int.toNat_natCast]
  by_cases q1 : q = 1
  · subst q1
    by_cases j2 : j = 2
    · subst j2; simp [au]
    · simp [au, j2]
  · by_cases q12 : q = 12
    · subst q12
      by_cases jn : j = n
      · subst jn; simp [au]
      · simp [au, jn]
    · by_cases q11 : q = 11
      · subst q11; simp
      · simp [q1, q12, q11]
theorem rq_1 (σ : cs_S) (a rr : Nat → Int) (n : Nat) (x y new : Int) : cs_set (floodS σ a rr n) 11 (au a (ix x y) new) 1 2 = n := by simp [cs_set, floodS, au]
theorem rq_2 (σ : cs_S) (a rr : Nat → Int) (n : Nat) (x y new : Int) : cs_up (cs_set (floodS σ a rr n) 11 (au a (ix x y) new)) 12 ((n : Int)).toNat (y * 16 + x) 1 2 = n := by simp [cs_up, cs_set, floodS, au]
theorem rq_3 (τ : cs_S) (N y x old new : Int) (c0 : 0 ≤ N) (hn : N < 192) (hy : 0 ≤ y ∧ y < 20) (hx : 0 ≤ x ∧ x < 20) (g2 : τ 1 2 = N) : (s_ast 12 192 (x_f 1 2) (x_add (x_mul (x_l 2) (x_k 16)) (x_l 1))) [none, some x, some y, some old, some new] τ = some (.inl ([none, some x, some y, some old, some new], cs_up τ 12 N.toNat (y * 16 + x))) := by
    simp (disch := omega) only [cs_run, cs_L0, s_ret, s_retz, s_retv, s_seq, s_set, s_inc, s_put, s_ast, s_zst, s_cst, s_ada, s_if, s_ex, s_cv, s_nop, s_brk, x_ite, x_l, x_k, x_f, x_a, x_ro, x_add, x_sub, x_mul, x_div, x_rem, x_neg, x_call, x_max, x_min, x_abs, g_cons, g_nil, y_lt, y_le, y_gt, y_ge, y_eq, y_ne, y_not, y_and, y_or, y_ite, Option.bind_some, Option.bind_none, List.getElem?_cons_zero, List.getElem?_cons_succ, List.getElem?_nil, List.set_cons_zero, List.set_cons_succ, List.cons_append, List.nil_append, List.append_nil, List.replicate, List.length_cons, List.length_nil, Nat.reduceAdd, Nat.reduceSub, Nat.zero_add, Nat.sub_self, if_true, if_false, ite_true, ite_false, reduceIte, reduceCtorEq, decide_true, decide_false, decide_eq_true_eq, Bool.not_true, Bool.not_false, Bool.true_and, Bool.false_and, Bool.and_true, Bool.and_false, Bool.true_or, Bool.false_or, Bool.false_eq_true, Bool.true_eq_false, not_true_eq_false, not_false_eq_true, ne_eq, Int.reduceEq, Int.reduceNe, Int.reduceLT, Int.reduceLE, and_self, and_true, true_and, and_false, false_and, or_true, true_or, or_false, false_or, true_or, Option.map_some, cs_chk_ok, cs_rd_ok, cs_wr_ok, g2]
theorem rq_4 (τ : cs_S) (N y x old new : Int) (c0 : 0 ≤ N) (hn : N < 192) (g2 : τ 1 2 = N) : (s_put 1 2 (x_add (x_f 1 2) (x_k 1))) [none, some x, some y, some old, some new] τ = some (.inl ([none, some x, some y, some old, some new], cs_up τ 1 2 (N + 1))) := by
    simp (disch := omega) only [cs_run, cs_L0, s_ret, s_retz, s_retv, s_seq, s_set, s_inc, s_put, s_ast, s_zst, s_cst, s_ada, s_if, s_ex, s_cv, s_nop, s_brk, x_ite, x_l, x_k, x_f, x_a, x_ro, x_add, x_sub, x_mul, x_div, x_rem, x_neg, x_call, x_max, x_min, x_abs, g_cons, g_nil, y_lt, y_le, y_gt, y_ge, y_eq, y_ne, y_not, y_and, y_or, y_ite, Option.bind_some, Option.bind_none, List.getElem?_cons_zero, List.getElem?_cons_succ, List.getElem?_nil, List.set_cons_zero, List.set_cons_succ, List.cons_append, List.nil_append, List.append_nil, List.replicate, List.length_cons, List.length_nil, Nat.reduceAdd, Nat.reduceSub, Nat.zero_add, Nat.sub_self, if_true, if_false, ite_true, ite_false, reduceIte, reduceCtorEq, decide_true, decide_false, decide_eq_true_eq, Bool.not_true, Bool.not_false, Bool.true_and, Bool.false_and, Bool.and_true, Bool.and_false, Bool.true_or, Bool.false_or, Bool.false_eq_true, Bool.true_eq_false, not_true_eq_false, not_false_eq_true, ne_eq, Int.reduceEq, Int.reduceNe, Int.reduceLT, Int.reduceLE, and_self, and_true, true_and, and_false, false_and, or_true, true_or, or_false, false_or, true_or, Option.map_some, cs_chk_ok, cs_rd_ok, cs_wr_ok, g2]
theorem rq_5 (τ : cs_S) (N y x old new v: Int) (c0 : 0 ≤ N) (hn : N < 192) (g2 : τ 1 2 = N) (hhas : f_X2_has [x, y] τ = some (some 1, τ)) (hat : f_X2_at [x, y] τ = some (some v, τ)) (h1 : v = old) : (y_and (y_and (y_ne (x_call f_X2_has (g_cons (x_l 1) (g_cons (x_l 2) g_nil))) (x_k 0)) (y_eq (x_call f_X2_at (g_cons (x_l 1) (g_cons (x_l 2) g_nil))) (x_l 3))) (y_lt (x_f 1 2) (x_k 192))) [none, some x, some y, some old, some new] τ = some (true, τ) := by
    simp (disch := omega) only [cs_run, cs_L0, s_ret, s_retz, s_retv, s_seq, s_set, s_inc, s_put, s_ast, s_zst, s_cst, s_ada, s_if, s_ex, s_cv, s_nop, s_brk, x_ite, x_l, x_k, x_f, x_a, x_ro, x_add, x_sub, x_mul, x_div, x_rem, x_neg, x_call, x_max, x_min, x_abs, g_cons, g_nil, y_lt, y_le, y_gt, y_ge, y_eq, y_ne, y_not, y_and, y_or, y_ite, Option.bind_some, Option.bind_none, List.getElem?_cons_zero, List.getElem?_cons_succ, List.getElem?_nil, List.set_cons_zero, List.set_cons_succ, List.cons_append, List.nil_append, List.append_nil, List.replicate, List.length_cons, List.length_nil, Nat.reduceAdd, Nat.reduceSub, Nat.zero_add, Nat.sub_self, if_true, if_false, ite_true, ite_false, reduceIte, reduceCtorEq, decide_true, decide_false, decide_eq_true_eq, Bool.not_true, Bool.not_false, Bool.true_and, Bool.false_and, Bool.and_true, Bool.and_false, Bool.true_or, Bool.false_or, Bool.false_eq_true, Bool.true_eq_false, not_true_eq_false, not_false_eq_true, ne_eq, Int.reduceEq, Int.reduceNe, Int.reduceLT, Int.reduceLE, and_self, and_true, true_and, and_false, false_and, or_true, true_or, or_false, false_or, true_or, Option.map_some, cs_chk_ok, cs_rd_ok, cs_wr_ok, g2, hhas, hat, h1, hn]
theorem rq_6 (σ : cs_S) (hz : szJ (σ 1 3) (σ 1 4)) (a rr : Nat → Int) (n : Nat) (x y new : Int) (hp : inP (σ 1 3) (σ 1 4) x y = true) : f_X2_put [x, y, new] (floodS σ a rr n) = some (some (if a (ix x y) ≠ new then 1 else 0), cs_set (floodS σ a rr n) 11 (au a (ix x y) new)) := by
  have hz' : szJ (floodS σ a rr n 1 3) (floodS σ a rr n 1 4) := by rw [floodS_3, floodS_4]; exact hz
  have hput := f_put x y new (floodS σ a rr n) hz'
  rw [floodS_3, floodS_4, floodS_11] at hput
  simp only [hp, if_true, true_and] at hput
  exact hput
theorem rq_7 (σ : cs_S) (hz : szJ (σ 1 3) (σ 1 4)) (a rr : Nat → Int) (n : Nat) (x y new : Int) (hp : inP (σ 1 3) (σ 1 4) x y = true) : f_X2_at [x, y] (floodS σ a rr n) = some (some (a (ix x y)), floodS σ a rr n) := by
  have hz' : szJ (floodS σ a rr n 1 3) (floodS σ a rr n 1 4) := by rw [floodS_3, floodS_4]; exact hz
  have hat := f_at x y (floodS σ a rr n) hz'
  rw [floodS_3, floodS_4, floodS_11] at hat
  simp only [hp, if_true] at hat
  exact hat
theorem reach_glue (τ0 τ1 τ2 τ3 : cs_S) (x y old new : Int)
    (c1 : (y_and (y_and (y_ne (x_call f_X2_has (g_cons (x_l 1) (g_cons (x_l 2) g_nil))) (x_k 0)) (y_eq (x_call f_X2_at (g_cons (x_l 1) (g_cons (x_l 2) g_nil))) (x_l 3))) (y_lt (x_f 1 2) (x_k 192))) [none, some x, some y, some old, some new] τ0 = some (true, τ0))
    (c2 : (s_ex (x_call f_X2_put (g_cons (x_l 1) (g_cons (x_l 2) (g_cons (x_l 4) g_nil))))) [none, some x, some y, some old, some new] τ0 = some (.inl ([none, some x, some y, some old, some new], τ1)))
    (c3 : (s_ast 12 192 (x_f 1 2) (x_add (x_mul (x_l 2) (x_k 16)) (x_l 1))) [none, some x, some y, some old, some new] τ1 = some (.inl ([none, some x, some y, some old, some new], τ2)))
    (c4 : (s_put 1 2 (x_add (x_f 1 2) (x_k 1))) [none, some x, some y, some old, some new] τ2 = some (.inl ([none, some x, some y, some old, some new], τ3))) : f_X2_reach [x, y, old, new] τ0 = some (none, τ3) := by
  unfold f_X2_reach b_X2_reach cs_run
  simp only [cs_L0, List.length_cons, List.length_nil, Nat.reduceAdd, Nat.sub_self, List.replicate, List.append_nil]
  simp only [s_seq, s_if, c1, c2, c3, c4, Option.bind_some, if_true, s_retv]
theorem f_reach_yes (σ : cs_S) (hz : szJ (σ 1 3) (σ 1 4)) (x y old new : Int) (a rr : Nat → Int) (n : Nat) (hn : (n : Int) < 192) (hp : inP (σ 1 3) (σ 1 4) x y = true) (h1 : a (ix x y) = old) : f_X2_reach [x, y, old, new] (floodS σ a rr n) = some (none, floodS σ (au a (ix x y) new) (au rr n (ix x y)) (n + 1)) := by
  have hq := inP_iff.mp hp
  have hhas : f_X2_has [x, y] (floodS σ a rr n) = some (some 1, floodS σ a rr n) := by
    have := f_has x y (floodS σ a rr n)
    rw [floodS_3, floodS_4] at this
    simpa only [hp, if_true] using this
  have c1 := rq_5 (floodS σ a rr n) n y x old new _ (by omega) hn (floodS_2 _ _ _ _) hhas (rq_7 σ hz a rr n x y new hp) h1
  have c2 := rq_6 σ hz a rr n x y new hp
  have c3 := rq_3 (cs_set (floodS σ a rr n) 11 (au a (ix x y) new)) n y x old new (by omega) hn (by omega) (by omega) (rq_1 σ a rr n x y new)
  have c4 := rq_4 (cs_up (cs_set (floodS σ a rr n) 11 (au a (ix x y) new)) 12 ((n : Int)).toNat (y * 16 + x)) n y x old new (by omega) hn (rq_2 σ a rr n x y new)
  rw [reach_st σ x y new (by omega) a rr n] at c4
  have c2' : (s_ex (x_call f_X2_put (g_cons (x_l 1) (g_cons (x_l 2) (g_cons (x_l 4) g_nil))))) [none, some x, some y, some old, some new] (floodS σ a rr n) = some (.inl ([none, some x, some y, some old, some new], cs_set (floodS σ a rr n) 11 (au a (ix x y) new))) := by
    simp only [s_ex, x_call, g_cons, g_nil, x_l, Option.bind_some, Option.bind_none, List.getElem?_cons_zero, List.getElem?_cons_succ, List.getElem?_nil, List.set_cons_zero, List.set_cons_succ, List.cons_append, List.nil_append, List.append_nil, List.replicate, List.length_cons, List.length_nil, Nat.reduceAdd, Nat.reduceSub, Nat.zero_add, Nat.sub_self, if_true, if_false, ite_true, ite_false, reduceIte, reduceCtorEq, decide_true, decide_false, decide_eq_true_eq, Bool.not_true, Bool.not_false, Bool.true_and, Bool.false_and, Bool.and_true, Bool.and_false, Bool.true_or, Bool.false_or, Bool.false_eq_true, Bool.true_eq_false, not_true_eq_false, not_false_eq_true, ne_eq, Int.reduceEq, Int.reduceNe, Int.reduceLT, Int.reduceLE, and_self, and_true, true_and, and_false, false_and, or_true, true_or, or_false, false_or, true_or, Option.map_some, c2]
  exact reach_glue _ _ _ _ x y old new c1 c2' c3 c4
theorem f_reach_no (σ : cs_S) (hz : szJ (σ 1 3) (σ 1 4)) (x y old new : Int) (a rr : Nat → Int) (n : Nat) (h : ¬ (inP (σ 1 3) (σ 1 4) x y = true ∧ a (ix x y) = old)) : f_X2_reach [x, y, old, new] (floodS σ a rr n) = some (none, floodS σ a rr n) := by
  have hz' : szJ (floodS σ a rr n 1 3) (floodS σ a rr n 1 4) := by rw [floodS_3, floodS_4]; exact hz
  have hat := f_at x y (floodS σ a rr n) hz'
  have hhas := f_has x y (floodS σ a rr n)
  rw [floodS_3, floodS_4] at hhas
  rw [floodS_3, floodS_4, floodS_11] at hat
  cases hp : inP (σ 1 3) (σ 1 4) x y with
  | false =>
    simp only [hp] at hhas
    simp (disch := omega) only [cs_run, cs_L0, s_ret, s_retz, s_retv, s_seq, s_set, s_inc, s_put, s_ast, s_zst, s_cst, s_ada, s_if, s_ex, s_cv, s_nop, s_brk, x_ite, x_l, x_k, x_f, x_a, x_ro, x_add, x_sub, x_mul, x_div, x_rem, x_neg, x_call, x_max, x_min, x_abs, g_cons, g_nil, y_lt, y_le, y_gt, y_ge, y_eq, y_ne, y_not, y_and, y_or, y_ite, Option.bind_some, Option.bind_none, List.getElem?_cons_zero, List.getElem?_cons_succ, List.getElem?_nil, List.set_cons_zero, List.set_cons_succ, List.cons_append, List.nil_append, List.append_nil, List.replicate, List.length_cons, List.length_nil, Nat.reduceAdd, Nat.reduceSub, Nat.zero_add, Nat.sub_self, if_true, if_false, ite_true, ite_false, reduceIte, reduceCtorEq, decide_true, decide_false, decide_eq_true_eq, Bool.not_true, Bool.not_false, Bool.true_and, Bool.false_and, Bool.and_true, Bool.and_false, Bool.true_or, Bool.false_or, Bool.false_eq_true, Bool.true_eq_false, not_true_eq_false, not_false_eq_true, ne_eq, Int.reduceEq, Int.reduceNe, Int.reduceLT, Int.reduceLE, and_self, and_true, true_and, and_false, false_and, or_true, true_or, or_false, false_or, true_or, Option.map_some, cs_chk_ok, cs_rd_ok, cs_wr_ok, f_X2_reach, b_X2_reach, cs_run, cs_L0, hhas]
  | true =>
    simp only [hp, if_true] at hhas hat
    have h1 : ¬ a (ix x y) = old := fun q => h ⟨hp, q⟩
    simp (disch := omega) only [cs_run, cs_L0, s_ret, s_retz, s_retv, s_seq, s_set, s_inc, s_put, s_ast, s_zst, s_cst, s_ada, s_if, s_ex, s_cv, s_nop, s_brk, x_ite, x_l, x_k, x_f, x_a, x_ro, x_add, x_sub, x_mul, x_div, x_rem, x_neg, x_call, x_max, x_min, x_abs, g_cons, g_nil, y_lt, y_le, y_gt, y_ge, y_eq, y_ne, y_not, y_and, y_or, y_ite, Option.bind_some, Option.bind_none, List.getElem?_cons_zero, List.getElem?_cons_succ, List.getElem?_nil, List.set_cons_zero, List.set_cons_succ, List.cons_append, List.nil_append, List.append_nil, List.replicate, List.length_cons, List.length_nil, Nat.reduceAdd, Nat.reduceSub, Nat.zero_add, Nat.sub_self, if_true, if_false, ite_true, ite_false, reduceIte, reduceCtorEq, decide_true, decide_false, decide_eq_true_eq, Bool.not_true, Bool.not_false, Bool.true_and, Bool.false_and, Bool.and_true, Bool.and_false, Bool.true_or, Bool.false_or, Bool.false_eq_true, Bool.true_eq_false, not_true_eq_false, not_false_eq_true, ne_eq, Int.reduceEq, Int.reduceNe, Int.reduceLT, Int.reduceLE, and_self, and_true, true_and, and_false, false_and, or_true, true_or, or_false, false_or, true_or, Option.map_some, cs_chk_ok, cs_rd_ok, cs_wr_ok, f_X2_reach, b_X2_reach, cs_run, cs_L0, hhas, hat, h1]
/-- one reach, as a step of the list -/
def rchR (w h : Int) (old : Int) (a : Nat → Int) (R : List Nat) (x y : Int) : List Nat := if inP w h x y = true ∧ a (ix x y) = old then R ++ [ix x y] else R
theorem reach_FI {σ : cs_S} {a0 : Nat → Int} {old new : Int} {s0 : Nat} (hz : szJ (σ 1 3) (σ 1 4)) (hne : old ≠ new) {R : List Nat} {a rr : Nat → Int} (h : FI (σ 1 3) (σ 1 4) a0 old new s0 R a rr) (x y : Int) (hx : -100 ≤ x ∧ x ≤ 100) (hy : -100 ≤ y ∧ y ≤ 100)
    (hj : inP (σ 1 3) (σ 1 4) x y = true → a0 (ix x y) = old → ∀ D, ClosedF (σ 1 3) (σ 1 4) a0 old D → D s0 → D (ix x y)) :
    ∃ R' a' rr', f_X2_reach [x, y, old, new] (floodS σ a rr R.length) = some (none, floodS σ a' rr' R'.length) ∧ FI (σ 1 3) (σ 1 4) a0 old new s0 R' a' rr' ∧ (∃ t, R' = R ++ t) ∧ (inP (σ 1 3) (σ 1 4) x y = true → a0 (ix x y) = old → ix x y ∈ R') := by
  obtain ⟨h1, h2, h3, h4, h5⟩ := h
  have hlen : R.length ≤ 192 := nd_len h1 (fun k hk => (h2 k hk).1)
  by_cases hc : inP (σ 1 3) (σ 1 4) x y = true ∧ a (ix x y) = old
  · have hq := inP_iff.mp hc.1
    have hnot : ix x y ∉ R := by
      intro hm
      have := h3 (ix x y)
      rw [if_pos hm, hc.2] at this
      exact hne this
    have ha0 : a0 (ix x y) = old := by
      have := h3 (ix x y)
      rw [if_neg hnot] at this
      rw [← this]; exact hc.2
    have hixl : ix x y < 192 := by unfold ix; omega
    have hnd : (R ++ [ix x y]).Nodup := List.nodup_append.mpr ⟨h1, by simp, fun u hu v hv => by
      simp at hv; subst hv; intro e; subst e; exact hnot hu⟩
    have hl2 : (R ++ [ix x y]).length ≤ 192 := nd_len hnd (fun k hk => by
      rcases List.mem_append.mp hk with g | g
      · exact (h2 k g).1
      · simp at g; subst g; exact hixl)
    have hlt : R.length < 192 := by simp at hl2; omega
    have hf := f_reach_yes σ hz x y old new a rr R.length (by omega) hc.1 hc.2
    refine ⟨R ++ [ix x y], au a (ix x y) new, au rr R.length (ix x y), by rw [hf, List.length_append]; rfl, ⟨hnd, ?_, ?_, ?_, ?_⟩, ⟨_, rfl⟩, fun _ _ => by simp⟩
    · intro k hk
      rcases List.mem_append.mp hk with g | g
      · exact h2 k g
      · simp at g; subst g; exact ⟨hixl, ⟨x, y, hc.1, rfl⟩, ha0⟩
    · intro k
      unfold au
      by_cases e : k = ix x y
      · subst e; simp
      · rw [if_neg e, h3 k]
        simp [e]
    · intro j hj
      unfold au
      by_cases e : j = R.length
      · subst e; simp
      · have hj2 : j < R.length := by simp at hj; omega
        rw [if_neg e, h4 j hj2, List.getElem_append_left hj2]
    · intro D hD hs k hk
      rcases List.mem_append.mp hk with g | g
      · exact h5 D hD hs k g
      · simp at g; subst g; exact hj hc.1 ha0 D hD hs
  · have hf := f_reach_no σ hz x y old new a rr R.length hc
    refine ⟨R, a, rr, hf, ⟨h1, h2, h3, h4, h5⟩, ⟨[], by simp⟩, fun g1 g2 => ?_⟩
    have := h3 (ix x y)
    by_cases hm : ix x y ∈ R
    · exact hm
    · rw [if_neg hm, g2] at this
      exact absurd ⟨g1, this⟩ hc
theorem spread_in {σ : cs_S} {a0 : Nat → Int} {old new : Int} {s0 : Nat} (hz : szJ (σ 1 3) (σ 1 4)) (hne : old ≠ new) (v1 v2 i x y : Int) (hp : inP (σ 1 3) (σ 1 4) x y = true) : ∀ (n : Nat) (d : Int) (R : List Nat) (a rr : Nat → Int), 0 ≤ d → 4 = d + n → FI (σ 1 3) (σ 1 4) a0 old new s0 R a rr → ix x y ∈ R →
    (∀ e, 0 ≤ e → e < d → inP (σ 1 3) (σ 1 4) (x + sx e) (y + sy e) = true → a0 (ix (x + sx e) (y + sy e)) = old → ix (x + sx e) (y + sy e) ∈ R) →
    ∃ R' a' rr', w_X2_spread_1 [none, some v1, some v2, some new, some old, some i, some x, some y, some d] (floodS σ a rr R.length) = some (.inl ([none, some v1, some v2, some new, some old, some i, some x, some y, some 4], floodS σ a' rr' R'.length)) ∧ FI (σ 1 3) (σ 1 4) a0 old new s0 R' a' rr' ∧ (∃ t, R' = R ++ t) ∧
      (∀ e, 0 ≤ e → e < 4 → inP (σ 1 3) (σ 1 4) (x + sx e) (y + sy e) = true → a0 (ix (x + sx e) (y + sy e)) = old → ix (x + sx e) (y + sy e) ∈ R') := by
  have hq := inP_iff.mp hp
  intro n
  induction n with
  | zero =>
    intro d R a rr h0 hd hF hm hpr
    have : d = 4 := by omega
    subst this
    refine ⟨R, a, rr, ?_, hF, ⟨[], by simp⟩, hpr⟩
    unfold w_X2_spread_1
    rw [s_wh_eq]
    simp [wc_X2_spread_1, cs_run, cs_L0, s_ret, s_retz, s_retv, s_seq, s_set, s_inc, s_put, s_ast, s_zst, s_cst, s_ada, s_if, s_ex, s_cv, s_nop, s_brk, x_ite, x_l, x_k, x_f, x_a, x_ro, x_add, x_sub, x_mul, x_div, x_rem, x_neg, x_call, x_max, x_min, x_abs, g_cons, g_nil, y_lt, y_le, y_gt, y_ge, y_eq, y_ne, y_not, y_and, y_or, y_ite]
  | succ n ih =>
    intro d R a rr h0 hd hF hm hpr
    have h4 : d < 4 := by omega
    have hsxy := sxy d h0 h4
    obtain ⟨R1, a1, rr1, g1, g2, ⟨t1, g3⟩, g4⟩ := reach_FI hz hne hF (x + sx d) (y + sy d) (by omega) (by omega) (fun q1 q2 D hD hs => hD x y hp (hF.2.2.2.2 D hD hs _ hm) d h0 h4 q1 q2)
    obtain ⟨R2, a2, rr2, k1, k2, ⟨t2, k3⟩, k4⟩ := ih (d + 1) R1 a1 rr1 (by omega) (by omega) g2 (by rw [g3]; exact List.mem_append_left _ hm) (fun e e0 e1 e2 e3 => by
      by_cases hed : e = d
      · subst hed; exact g4 e2 e3
      · rw [g3]; exact List.mem_append_left _ (hpr e e0 (by omega) e2 e3))
    refine ⟨R2, a2, rr2, ?_, k2, ⟨t1 ++ t2, by rw [k3, g3, List.append_assoc]⟩, k4⟩
    have hc : wc_X2_spread_1 [none, some v1, some v2, some new, some old, some i, some x, some y, some d] (floodS σ a rr R.length) = some (true, floodS σ a rr R.length) := by
      simp (disch := omega) only [cs_run, cs_L0, s_ret, s_retz, s_retv, s_seq, s_set, s_inc, s_put, s_ast, s_zst, s_cst, s_ada, s_if, s_ex, s_cv, s_nop, s_brk, x_ite, x_l, x_k, x_f, x_a, x_ro, x_add, x_sub, x_mul, x_div, x_rem, x_neg, x_call, x_max, x_min, x_abs, g_cons, g_nil, y_lt, y_le, y_gt, y_ge, y_eq, y_ne, y_not, y_and, y_or, y_ite, Option.bind_some, Option.bind_none, List.getElem?_cons_zero, List.getElem?_cons_succ, List.getElem?_nil, List.set_cons_zero, List.set_cons_succ, List.cons_append, List.nil_append, List.append_nil, List.replicate, List.length_cons, List.length_nil, Nat.reduceAdd, Nat.reduceSub, Nat.zero_add, Nat.sub_self, if_true, if_false, ite_true, ite_false, reduceIte, reduceCtorEq, decide_true, decide_false, decide_eq_true_eq, Bool.not_true, Bool.not_false, Bool.true_and, Bool.false_and, Bool.and_true, Bool.and_false, Bool.true_or, Bool.false_or, Bool.false_eq_true, Bool.true_eq_false, not_true_eq_false, not_false_eq_true, ne_eq, Int.reduceEq, Int.reduceNe, Int.reduceLT, Int.reduceLE, and_self, and_true, true_and, and_false, false_and, or_true, true_or, or_false, false_or, true_or, Option.map_some, cs_chk_ok, cs_rd_ok, cs_wr_ok, wc_X2_spread_1, h4]
    have hro : (0 ≤ d ∧ d < 4) = True := by simp [h0, h4]
    have e0 : [1, 0, -1, 0].getD d.toNat 0 = sx d := rfl
    have e1 : [0, 1, 0, -1].getD d.toNat 0 = sy d := rfl
    have hb : wb_X2_spread_1 [none, some v1, some v2, some new, some old, some i, some x, some y, some d] (floodS σ a rr R.length) = some (.inl ([none, some v1, some v2, some new, some old, some i, some x, some y, some (d + 1)], floodS σ a1 rr1 R1.length)) := by
      have c1 : cs_InR (x + sx d) := by omega
      have c2 : cs_InR (y + sy d) := by omega
      have c3 : cs_InR (d + 1) := by omega
      simp only [wb_X2_spread_1, cs_run, cs_L0, s_ret, s_retz, s_retv, s_seq, s_set, s_inc, s_put, s_ast, s_zst, s_cst, s_ada, s_if, s_ex, s_cv, s_nop, s_brk, x_ite, x_l, x_k, x_f, x_a, x_ro, x_add, x_sub, x_mul, x_div, x_rem, x_neg, x_call, x_max, x_min, x_abs, g_cons, g_nil, y_lt, y_le, y_gt, y_ge, y_eq, y_ne, y_not, y_and, y_or, y_ite, Option.bind_some, Option.bind_none, List.getElem?_cons_zero, List.getElem?_cons_succ, List.getElem?_nil, List.set_cons_zero, List.set_cons_succ, List.cons_append, List.nil_append, List.append_nil, List.replicate, List.length_cons, List.length_nil, Nat.reduceAdd, Nat.reduceSub, Nat.zero_add, Nat.sub_self, if_true, if_false, ite_true, ite_false, reduceIte, reduceCtorEq, decide_true, decide_false, decide_eq_true_eq, Bool.not_true, Bool.not_false, Bool.true_and, Bool.false_and, Bool.and_true, Bool.and_false, Bool.true_or, Bool.false_or, Bool.false_eq_true, Bool.true_eq_false, not_true_eq_false, not_false_eq_true, ne_eq, Int.reduceEq, Int.reduceNe, Int.reduceLT, Int.reduceLE, and_self, and_true, true_and, and_false, false_and, or_true, true_or, or_false, false_or, true_or, Option.map_some, hro, e0, e1, cs_chk_ok c1, cs_chk_ok c2, cs_chk_ok c3, g1]
    unfold w_X2_spread_1 at k1 ⊢
    rw [s_wh_eq, hc]
    simp only [Option.bind_some, if_true, hb, k1]
/-- what the queue holds when it is through -/
def FloodOK (w h : Int) (a0 : Nat → Int) (old : Int) (s0 : Nat) (R : List Nat) : Prop := R.Nodup ∧ s0 ∈ R ∧ (∀ k ∈ R, k < 192 ∧ (∃ x y, inP w h x y = true ∧ k = ix x y) ∧ a0 k = old) ∧ (∀ D, ClosedF w h a0 old D → D s0 → ∀ k ∈ R, D k) ∧ ClosedF w h a0 old (fun k => k ∈ R)
theorem ix_inj {w h x y x' y' : Int} (hz : szJ w h) (h1 : inP w h x y = true) (h2 : inP w h x' y' = true) (e : ix x y = ix x' y') : x = x' ∧ y = y' := by
  have q1 := inP_iff.mp h1
  have q2 := inP_iff.mp h2
  unfold ix at e
  omega
theorem spread_out {σ : cs_S} {a0 : Nat → Int} {old new : Int} {s0 : Nat} (hz : szJ (σ 1 3) (σ 1 4)) (hne : old ≠ new) (v1 v2 : Int) : ∀ (m : Nat) (i : Int) (R : List Nat) (a rr : Nat → Int) (o6 o7 o8 : Option Int), 0 ≤ i → i ≤ R.length → 192 = i + m → FI (σ 1 3) (σ 1 4) a0 old new s0 R a rr → s0 ∈ R →
    (∀ (j : Nat) (hj : j < R.length), (j : Int) < i → ∀ x y, inP (σ 1 3) (σ 1 4) x y = true → R[j] = ix x y → ∀ e, 0 ≤ e → e < 4 → inP (σ 1 3) (σ 1 4) (x + sx e) (y + sy e) = true → a0 (ix (x + sx e) (y + sy e)) = old → ix (x + sx e) (y + sy e) ∈ R) →
    ∃ R' a' rr' i' q6 q7 q8, w_X2_spread_2 [none, some v1, some v2, some new, some old, some i, o6, o7, o8] (floodS σ a rr R.length) = some (.inl ([none, some v1, some v2, some new, some old, some i', q6, q7, q8], floodS σ a' rr' R'.length)) ∧ (∀ k, a' k = if k ∈ R' then new else a0 k) ∧ FloodOK (σ 1 3) (σ 1 4) a0 old s0 R' := by
  intro m
  induction m with
  | zero =>
    intro i R a rr o6 o7 o8 h0 hi hm hF hs hpr
    have hlen : R.length ≤ 192 := nd_len hF.1 (fun k hk => (hF.2.1 k hk).1)
    have e1 : i = 192 := by omega
    have e2 : R.length = 192 := by omega
    have hn : ¬ i < 192 := by omega
    refine ⟨R, a, rr, i, o6, o7, o8, ?_, hF.2.2.1, hF.1, hs, hF.2.1, hF.2.2.2.2, ?_⟩
    · unfold w_X2_spread_2
      rw [s_wh_eq]
      have f2 := floodS_2 σ a rr R.length
      have : ¬ i < (R.length : Int) := by omega
      simp (disch := omega) only [cs_run, cs_L0, s_ret, s_retz, s_retv, s_seq, s_set, s_inc, s_put, s_ast, s_zst, s_cst, s_ada, s_if, s_ex, s_cv, s_nop, s_brk, x_ite, x_l, x_k, x_f, x_a, x_ro, x_add, x_sub, x_mul, x_div, x_rem, x_neg, x_call, x_max, x_min, x_abs, g_cons, g_nil, y_lt, y_le, y_gt, y_ge, y_eq, y_ne, y_not, y_and, y_or, y_ite, Option.bind_some, Option.bind_none, List.getElem?_cons_zero, List.getElem?_cons_succ, List.getElem?_nil, List.set_cons_zero, List.set_cons_succ, List.cons_append, List.nil_append, List.append_nil, List.replicate, List.length_cons, List.length_nil, Nat.reduceAdd, Nat.reduceSub, Nat.zero_add, Nat.sub_self, if_true, if_false, ite_true, ite_false, reduceIte, reduceCtorEq, decide_true, decide_false, decide_eq_true_eq, Bool.not_true, Bool.not_false, Bool.true_and, Bool.false_and, Bool.and_true, Bool.and_false, Bool.true_or, Bool.false_or, Bool.false_eq_true, Bool.true_eq_false, not_true_eq_false, not_false_eq_true, ne_eq, Int.reduceEq, Int.reduceNe, Int.reduceLT, Int.reduceLE, and_self, and_true, true_and, and_false, false_and, or_true, true_or, or_false, false_or, true_or, Option.map_some, cs_chk_ok, cs_rd_ok, cs_wr_ok, wc_X2_spread_2, f2, this]
    · intro x y hp hm' d d0 d4 g1 g2
      obtain ⟨j, hj, e⟩ := List.getElem_of_mem hm'
      exact hpr j hj (by omega) x y hp e d d0 d4 g1 g2
  | succ m ih =>
    intro i R a rr o6 o7 o8 h0 hi hm hF hs hpr
    have hlen : R.length ≤ 192 := nd_len hF.1 (fun k hk => (hF.2.1 k hk).1)
    have f2 := floodS_2 σ a rr R.length
    by_cases hlt : i < (R.length : Int)
    · have h192 : i < 192 := by omega
      have hjl : i.toNat < R.length := by omega
      obtain ⟨k1, ⟨x, y, hp, hk⟩, k2⟩ := hF.2.1 R[i.toNat] (List.getElem_mem hjl)
      have hq := inP_iff.mp hp
      have hrr := hF.2.2.2.1 i.toNat hjl
      have hmem : ix x y ∈ R := by rw [← hk]; exact List.getElem_mem hjl
      have hval : rr i.toNat = y * 16 + x := by rw [hrr, hk]; unfold ix; omega
      obtain ⟨R1, a1, rr1, g1, g2, ⟨t, g3⟩, g4⟩ := spread_in hz hne v1 v2 i x y hp 4 0 R a rr (by omega) (by omega) hF hmem (fun e e0 e1 => by omega)
      obtain ⟨R2, a2, rr2, i2, q6, q7, q8, r1, r2, r3⟩ := ih (i + 1) R1 a1 rr1 (some x) (some y) (some 4) (by omega) (by rw [g3, List.length_append]; omega) (by omega) g2 (by rw [g3]; exact List.mem_append_left _ hs) (by
        intro j hj hji x' y' hp' hR' e e0 e4 u1 u2
        by_cases hjj : (j : Int) = i
        · have hjj : j = i.toNat := by omega
          subst hjj
          have : R1[i.toNat] = R[i.toNat] := by
            subst g3
            exact List.getElem_append_left hjl
          rw [this, hk] at hR'
          obtain ⟨rfl, rfl⟩ := ix_inj hz hp hp' hR'
          exact g4 e e0 e4 u1 u2
        · have hjR : j < R.length := by omega
          have : R1[j] = R[j] := by
            subst g3
            exact List.getElem_append_left hjR
          rw [this] at hR'
          rw [g3]
          exact List.mem_append_left _ (hpr j hjR (by omega) x' y' hp' hR' e e0 e4 u1 u2))
      refine ⟨R2, a2, rr2, i2, q6, q7, q8, ?_, r2, r3⟩
      have hc : wc_X2_spread_2 [none, some v1, some v2, some new, some old, some i, o6, o7, o8] (floodS σ a rr R.length) = some (true, floodS σ a rr R.length) := by
        simp (disch := omega) only [cs_run, cs_L0, s_ret, s_retz, s_retv, s_seq, s_set, s_inc, s_put, s_ast, s_zst, s_cst, s_ada, s_if, s_ex, s_cv, s_nop, s_brk, x_ite, x_l, x_k, x_f, x_a, x_ro, x_add, x_sub, x_mul, x_div, x_rem, x_neg, x_call, x_max, x_min, x_abs, g_cons, g_nil, y_lt, y_le, y_gt, y_ge, y_eq, y_ne, y_not, y_and, y_or, y_ite, Option.bind_some, Option.bind_none, List.getElem?_cons_zero, List.getElem?_cons_succ, List.getElem?_nil, List.set_cons_zero, List.set_cons_succ, List.cons_append, List.nil_append, List.append_nil, List.replicate, List.length_cons, List.length_nil, Nat.reduceAdd, Nat.reduceSub, Nat.zero_add, Nat.sub_self, if_true, if_false, ite_true, ite_false, reduceIte, reduceCtorEq, decide_true, decide_false, decide_eq_true_eq, Bool.not_true, Bool.not_false, Bool.true_and, Bool.false_and, Bool.and_true, Bool.and_false, Bool.true_or, Bool.false_or, Bool.false_eq_true, Bool.true_eq_false, not_true_eq_false, not_false_eq_true, ne_eq, Int.reduceEq, Int.reduceNe, Int.reduceLT, Int.reduceLE, and_self, and_true, true_and, and_false, false_and, or_true, true_or, or_false, false_or, true_or, Option.map_some, cs_chk_ok, cs_rd_ok, cs_wr_ok, wc_X2_spread_2, f2, hlt, h192]
      have c1 : cs_rd 12 192 i (floodS σ a rr R.length) = some (y * 16 + x, floodS σ a rr R.length) := by
        rw [cs_rd_ok (by omega), floodS_12, hval]
      have m1 : (y * 16 + x) % 16 = x := by omega
      have m2 : (y * 16 + x) / 16 = y := by omega
      have m3 : (0 ≤ y * 16 + x) = True := by simp; omega
      have c3 : cs_InR (i + 1) := by omega
      have hb : wb_X2_spread_2 [none, some v1, some v2, some new, some old, some i, o6, o7, o8] (floodS σ a rr R.length) = some (.inl ([none, some v1, some v2, some new, some old, some (i + 1), some x, some y, some 4], floodS σ a1 rr1 R1.length)) := by
        simp only [wb_X2_spread_2, cs_run, cs_L0, s_ret, s_retz, s_retv, s_seq, s_set, s_inc, s_put, s_ast, s_zst, s_cst, s_ada, s_if, s_ex, s_cv, s_nop, s_brk, x_ite, x_l, x_k, x_f, x_a, x_ro, x_add, x_sub, x_mul, x_div, x_rem, x_neg, x_call, x_max, x_min, x_abs, g_cons, g_nil, y_lt, y_le, y_gt, y_ge, y_eq, y_ne, y_not, y_and, y_or, y_ite, Option.bind_some, Option.bind_none, List.getElem?_cons_zero, List.getElem?_cons_succ, List.getElem?_nil, List.set_cons_zero, List.set_cons_succ, List.cons_append, List.nil_append, List.append_nil, List.replicate, List.length_cons, List.length_nil, Nat.reduceAdd, Nat.reduceSub, Nat.zero_add, Nat.sub_self, if_true, if_false, ite_true, ite_false, reduceIte, reduceCtorEq, decide_true, decide_false, decide_eq_true_eq, Bool.not_true, Bool.not_false, Bool.true_and, Bool.false_and, Bool.and_true, Bool.and_false, Bool.true_or, Bool.false_or, Bool.false_eq_true, Bool.true_eq_false, not_true_eq_false, not_false_eq_true, ne_eq, Int.reduceEq, Int.reduceNe, Int.reduceLT, Int.reduceLE, and_self, and_true, true_and, and_false, false_and, or_true, true_or, or_false, false_or, true_or, Option.map_some, c1, m1, m2, m3, g1, cs_chk_ok c3]
      unfold w_X2_spread_2 at r1 ⊢
      rw [s_wh_eq, hc]
      simp only [Option.bind_some, if_true, hb, r1]
    · refine ⟨R, a, rr, i, o6, o7, o8, ?_, hF.2.2.1, hF.1, hs, hF.2.1, hF.2.2.2.2, ?_⟩
      · unfold w_X2_spread_2
        rw [s_wh_eq]
        simp (disch := omega) only [cs_run, cs_L0, s_ret, s_retz, s_retv, s_seq, s_set, s_inc, s_put, s_ast, s_zst, s_cst, s_ada, s_if, s_ex, s_cv, s_nop, s_brk, x_ite, x_l, x_k, x_f, x_a, x_ro, x_add, x_sub, x_mul, x_div, x_rem, x_neg, x_call, x_max, x_min, x_abs, g_cons, g_nil, y_lt, y_le, y_gt, y_ge, y_eq, y_ne, y_not, y_and, y_or, y_ite, Option.bind_some, Option.bind_none, List.getElem?_cons_zero, List.getElem?_cons_succ, List.getElem?_nil, List.set_cons_zero, List.set_cons_succ, List.cons_append, List.nil_append, List.append_nil, List.replicate, List.length_cons, List.length_nil, Nat.reduceAdd, Nat.reduceSub, Nat.zero_add, Nat.sub_self, if_true, if_false, ite_true, ite_false, reduceIte, reduceCtorEq, decide_true, decide_false, decide_eq_true_eq, Bool.not_true, Bool.not_false, Bool.true_and, Bool.false_and, Bool.and_true, Bool.and_false, Bool.true_or, Bool.false_or, Bool.false_eq_true, Bool.true_eq_false, not_true_eq_false, not_false_eq_true, ne_eq, Int.reduceEq, Int.reduceNe, Int.reduceLT, Int.reduceLE, and_self, and_true, true_and, and_false, false_and, or_true, true_or, or_false, false_or, true_or, Option.map_some, cs_chk_ok, cs_rd_ok, cs_wr_ok, wc_X2_spread_2, f2, hlt]
      · intro x y hp hm' d d0 d4 g1 g2
        obtain ⟨j, hj, e⟩ := List.getElem_of_mem hm'
        exact hpr j hj (by omega) x y hp e d d0 d4 g1 g2
/-- the class's flood: what it answers, what it makes of the levels; places 1 2 and 12 are its own -/
theorem f_floodC (x y v : Int) (σ : cs_S) (hz : szJ (σ 1 3) (σ 1 4)) :
    (inP (σ 1 3) (σ 1 4) x y = true ∧ (0 ≤ v ∧ v ≤ 9) → ∃ (R : List Nat) (rr : Nat → Int) (a : Nat → Int), f_X9_flood [x, y, v] σ = some (some (if σ 11 (ix x y) = v then 0 else (R.length : Int)), cs_set (cs_set (cs_set σ 11 a) 12 rr) 1 (au (σ 1) 2 (if σ 11 (ix x y) = v then 0 else (R.length : Int)))) ∧ (∀ k, a k = if σ 11 (ix x y) ≠ v ∧ k ∈ R then v else σ 11 k) ∧ (σ 11 (ix x y) ≠ v → FloodOK (σ 1 3) (σ 1 4) (σ 11) (σ 11 (ix x y)) (ix x y) R)) ∧
    (¬ (inP (σ 1 3) (σ 1 4) x y = true ∧ (0 ≤ v ∧ v ≤ 9)) → f_X9_flood [x, y, v] σ = some (some (-1003), σ)) := by
  constructor
  · rintro ⟨hp, hv⟩
    have hq := inP_iff.mp hp
    have hat := f_at x y σ hz
    have hhas := f_has x y σ
    simp only [hp, if_true] at hat hhas
    have h0st : cs_up σ 1 2 0 = floodS σ (σ 11) (σ 12) 0 := by
      rw [cs_up_eq]
      unfold floodS
      rw [cs_set_self, cs_set_self]
      rfl
    by_cases hne : σ 11 (ix x y) = v
    · refine ⟨[], σ 12, σ 11, ?_, fun k => by simp [hne], fun h => absurd hne h⟩
      rw [cs_set_self, cs_set_self, if_pos hne]
      have : cs_set σ 1 (au (σ 1) 2 0) = cs_up σ 1 2 0 := (cs_up_eq _ _ _ _).symm
      rw [this]
      have hl := f_isLevel v σ
      simp only [hv, and_self, if_true] at hl
      simp (disch := omega) only [cs_run, cs_L0, s_ret, s_retz, s_retv, s_seq, s_set, s_inc, s_put, s_ast, s_zst, s_cst, s_ada, s_if, s_ex, s_cv, s_nop, s_brk, x_ite, x_l, x_k, x_f, x_a, x_ro, x_add, x_sub, x_mul, x_div, x_rem, x_neg, x_call, x_max, x_min, x_abs, g_cons, g_nil, y_lt, y_le, y_gt, y_ge, y_eq, y_ne, y_not, y_and, y_or, y_ite, Option.bind_some, Option.bind_none, List.getElem?_cons_zero, List.getElem?_cons_succ, List.getElem?_nil, List.set_cons_zero, List.set_cons_succ, List.cons_append, List.nil_append, List.append_nil, List.replicate, List.length_cons, List.length_nil, Nat.reduceAdd, Nat.reduceSub, Nat.zero_add, Nat.sub_self, if_true, if_false, ite_true, ite_false, reduceIte, reduceCtorEq, decide_true, decide_false, decide_eq_true_eq, Bool.not_true, Bool.not_false, Bool.true_and, Bool.false_and, Bool.and_true, Bool.and_false, Bool.true_or, Bool.false_or, Bool.false_eq_true, Bool.true_eq_false, not_true_eq_false, not_false_eq_true, ne_eq, Int.reduceEq, Int.reduceNe, Int.reduceLT, Int.reduceLE, and_self, and_true, true_and, and_false, false_and, or_true, true_or, or_false, false_or, true_or, Option.map_some, cs_chk_ok, cs_rd_ok, cs_wr_ok, f_X9_flood, b_X9_flood, f_X2_spread, b_X2_spread, cs_run, cs_L0, hhas, hat, hl, hne]
    · have hF0 : FI (σ 1 3) (σ 1 4) (σ 11) (σ 11 (ix x y)) v (ix x y) [] (σ 11) (σ 12) := ⟨List.nodup_nil, by simp, by simp, by simp, by simp⟩
      obtain ⟨R1, a1, rr1, g1, g2, -, g4⟩ := reach_FI hz hne hF0 x y (by omega) (by omega) (fun _ _ D _ hs => hs)
      obtain ⟨R2, a2, rr2, i2, q6, q7, q8, r1, r2, r3⟩ := spread_out hz hne x y 192 0 R1 a1 rr1 none none none (by omega) (by omega) (by omega) g2 (g4 hp rfl) (fun j hj hji => by omega)
      refine ⟨R2, rr2, a2, ?_, fun k => by rw [r2 k]; simp [hne], fun _ => r3⟩
      rw [if_neg hne]
      have hfin : cs_set (cs_set (cs_set σ 11 a2) 12 rr2) 1 (au (σ 1) 2 (R2.length : Int)) = floodS σ a2 rr2 R2.length := rfl
      rw [hfin]
      have hl := f_isLevel v σ
      simp only [hv, and_self, if_true] at hl
      have f2 := floodS_2 σ a2 rr2 R2.length
      rw [List.length_nil] at g1
      have hsp : f_X2_spread [x, y, v] σ = some (some (R2.length : Int), floodS σ a2 rr2 R2.length) := by
        simp only [f_X2_spread, b_X2_spread, cs_run, cs_L0, s_ret, s_retz, s_retv, s_seq, s_set, s_inc, s_put, s_ast, s_zst, s_cst, s_ada, s_if, s_ex, s_cv, s_nop, s_brk, x_ite, x_l, x_k, x_f, x_a, x_ro, x_add, x_sub, x_mul, x_div, x_rem, x_neg, x_call, x_max, x_min, x_abs, g_cons, g_nil, y_lt, y_le, y_gt, y_ge, y_eq, y_ne, y_not, y_and, y_or, y_ite, Option.bind_some, Option.bind_none, List.getElem?_cons_zero, List.getElem?_cons_succ, List.getElem?_nil, List.set_cons_zero, List.set_cons_succ, List.cons_append, List.nil_append, List.append_nil, List.replicate, List.length_cons, List.length_nil, Nat.reduceAdd, Nat.reduceSub, Nat.zero_add, Nat.sub_self, if_true, if_false, ite_true, ite_false, reduceIte, reduceCtorEq, decide_true, decide_false, decide_eq_true_eq, Bool.not_true, Bool.not_false, Bool.true_and, Bool.false_and, Bool.and_true, Bool.and_false, Bool.true_or, Bool.false_or, Bool.false_eq_true, Bool.true_eq_false, not_true_eq_false, not_false_eq_true, ne_eq, Int.reduceEq, Int.reduceNe, Int.reduceLT, Int.reduceLE, and_self, and_true, true_and, and_false, false_and, or_true, true_or, or_false, false_or, true_or, Option.map_some, hat, h0st, hne, g1, r1, f2]
      simp only [f_X9_flood, b_X9_flood, cs_run, cs_L0, s_ret, s_retz, s_retv, s_seq, s_set, s_inc, s_put, s_ast, s_zst, s_cst, s_ada, s_if, s_ex, s_cv, s_nop, s_brk, x_ite, x_l, x_k, x_f, x_a, x_ro, x_add, x_sub, x_mul, x_div, x_rem, x_neg, x_call, x_max, x_min, x_abs, g_cons, g_nil, y_lt, y_le, y_gt, y_ge, y_eq, y_ne, y_not, y_and, y_or, y_ite, Option.bind_some, Option.bind_none, List.getElem?_cons_zero, List.getElem?_cons_succ, List.getElem?_nil, List.set_cons_zero, List.set_cons_succ, List.cons_append, List.nil_append, List.append_nil, List.replicate, List.length_cons, List.length_nil, Nat.reduceAdd, Nat.reduceSub, Nat.zero_add, Nat.sub_self, if_true, if_false, ite_true, ite_false, reduceIte, reduceCtorEq, decide_true, decide_false, decide_eq_true_eq, Bool.not_true, Bool.not_false, Bool.true_and, Bool.false_and, Bool.and_true, Bool.and_false, Bool.true_or, Bool.false_or, Bool.false_eq_true, Bool.true_eq_false, not_true_eq_false, not_false_eq_true, ne_eq, Int.reduceEq, Int.reduceNe, Int.reduceLT, Int.reduceLE, and_self, and_true, true_and, and_false, false_and, or_true, true_or, or_false, false_or, true_or, Option.map_some, hhas, hl, hsp]
  · intro h
    cases hp : inP (σ 1 3) (σ 1 4) x y with
    | false =>
      have hhas := f_has x y σ
      simp only [hp] at hhas
      simp (disch := omega) only [cs_run, cs_L0, s_ret, s_retz, s_retv, s_seq, s_set, s_inc, s_put, s_ast, s_zst, s_cst, s_ada, s_if, s_ex, s_cv, s_nop, s_brk, x_ite, x_l, x_k, x_f, x_a, x_ro, x_add, x_sub, x_mul, x_div, x_rem, x_neg, x_call, x_max, x_min, x_abs, g_cons, g_nil, y_lt, y_le, y_gt, y_ge, y_eq, y_ne, y_not, y_and, y_or, y_ite, Option.bind_some, Option.bind_none, List.getElem?_cons_zero, List.getElem?_cons_succ, List.getElem?_nil, List.set_cons_zero, List.set_cons_succ, List.cons_append, List.nil_append, List.append_nil, List.replicate, List.length_cons, List.length_nil, Nat.reduceAdd, Nat.reduceSub, Nat.zero_add, Nat.sub_self, if_true, if_false, ite_true, ite_false, reduceIte, reduceCtorEq, decide_true, decide_false, decide_eq_true_eq, Bool.not_true, Bool.not_false, Bool.true_and, Bool.false_and, Bool.and_true, Bool.and_false, Bool.true_or, Bool.false_or, Bool.false_eq_true, Bool.true_eq_false, not_true_eq_false, not_false_eq_true, ne_eq, Int.reduceEq, Int.reduceNe, Int.reduceLT, Int.reduceLE, and_self, and_true, true_and, and_false, false_and, or_true, true_or, or_false, false_or, true_or, Option.map_some, cs_chk_ok, cs_rd_ok, cs_wr_ok, f_X9_flood, b_X9_flood, cs_run, cs_L0, hhas]
    | true =>
      have hhas := f_has x y σ
      simp only [hp, if_true] at hhas
      have hl := f_isLevel v σ
      rw [if_neg (fun q => h ⟨hp, q⟩)] at hl
      simp (disch := omega) only [cs_run, cs_L0, s_ret, s_retz, s_retv, s_seq, s_set, s_inc, s_put, s_ast, s_zst, s_cst, s_ada, s_if, s_ex, s_cv, s_nop, s_brk, x_ite, x_l, x_k, x_f, x_a, x_ro, x_add, x_sub, x_mul, x_div, x_rem, x_neg, x_call, x_max, x_min, x_abs, g_cons, g_nil, y_lt, y_le, y_gt, y_ge, y_eq, y_ne, y_not, y_and, y_or, y_ite, Option.bind_some, Option.bind_none, List.getElem?_cons_zero, List.getElem?_cons_succ, List.getElem?_nil, List.set_cons_zero, List.set_cons_succ, List.cons_append, List.nil_append, List.append_nil, List.replicate, List.length_cons, List.length_nil, Nat.reduceAdd, Nat.reduceSub, Nat.zero_add, Nat.sub_self, if_true, if_false, ite_true, ite_false, reduceIte, reduceCtorEq, decide_true, decide_false, decide_eq_true_eq, Bool.not_true, Bool.not_false, Bool.true_and, Bool.false_and, Bool.and_true, Bool.and_false, Bool.true_or, Bool.false_or, Bool.false_eq_true, Bool.true_eq_false, not_true_eq_false, not_false_eq_true, ne_eq, Int.reduceEq, Int.reduceNe, Int.reduceLT, Int.reduceLE, and_self, and_true, true_and, and_false, false_and, or_true, true_or, or_false, false_or, true_or, Option.map_some, cs_chk_ok, cs_rd_ok, cs_wr_ok, f_X9_flood, b_X9_flood, cs_run, cs_L0, hhas, hl]
