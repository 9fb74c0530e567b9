/-! deviation -/
def dx2 (σ : cs_S) (a b : Int) : Int := (vX σ b - vX σ a) * (vX σ b - vX σ a) + (vY σ b - vY σ a) * (vY σ b - vY σ a)
def alS (σ : cs_S) (a b v : Int) : Int := (vX σ v - vX σ a) * (vX σ b - vX σ a) + (vY σ v - vY σ a) * (vY σ b - vY σ a)
def farP (σ : cs_S) (a b v : Int) : Int × Int := if alS σ a b v ≤ 0 then (dx2 σ a v, 1) else if dx2 σ a b ≤ alS σ a b v then (dx2 σ b v, 1) else (trS σ a b (vX σ v) (vY σ v) * trS σ a b (vX σ v) (vY σ v), dx2 σ a b)
theorem sq_b {z B : Int} (h : -B ≤ z ∧ z ≤ B) (hB : 0 ≤ B) : 0 ≤ z * z ∧ z * z ≤ B * B := by
  have h1 := mb z z B.toNat B.toNat (by omega) (by omega)
  have h2 : (((B.toNat * B.toNat : Nat)) : Int) = B * B := by rw [Int.natCast_mul]; rw [show ((B.toNat : Nat) : Int) = B by omega]
  rw [h2] at h1
  refine ⟨?_, h1.2⟩
  rcases Int.le_total 0 z with q | q
  · exact Int.mul_nonneg q q
  · exact Int.mul_nonneg_of_nonpos_of_nonpos q q
theorem dx2_b {σ : cs_S} (h : CSo σ) {a b : Int} (ha : 0 ≤ a ∧ a < σ 4 2) (hb : 0 ≤ b ∧ b < σ 4 2) : ((0 ≤ (vX σ b - vX σ a) * (vX σ b - vX σ a) ∧ (vX σ b - vX σ a) * (vX σ b - vX σ a) ≤ 256) ∧ (0 ≤ (vY σ b - vY σ a) * (vY σ b - vY σ a) ∧ (vY σ b - vY σ a) * (vY σ b - vY σ a) ≤ 144)) ∧ 0 ≤ dx2 σ a b ∧ dx2 σ a b ≤ 400 := by
  obtain ⟨a1, a2⟩ := vXY h ha
  obtain ⟨b1, b2⟩ := vXY h hb
  have s1 := sq_b (z := vX σ b - vX σ a) (B := 16) (by omega) (by omega)
  have s2 := sq_b (z := vY σ b - vY σ a) (B := 12) (by omega) (by omega)
  unfold dx2
  omega
theorem al_b {σ : cs_S} (h : CSo σ) {a b v : Int} (ha : 0 ≤ a ∧ a < σ 4 2) (hb : 0 ≤ b ∧ b < σ 4 2) (hv : 0 ≤ v ∧ v < σ 4 2) : (-256 ≤ (vX σ v - vX σ a) * (vX σ b - vX σ a) ∧ (vX σ v - vX σ a) * (vX σ b - vX σ a) ≤ 256) ∧ (-144 ≤ (vY σ v - vY σ a) * (vY σ b - vY σ a) ∧ (vY σ v - vY σ a) * (vY σ b - vY σ a) ≤ 144) := by
  obtain ⟨a1, a2⟩ := vXY h ha
  obtain ⟨b1, b2⟩ := vXY h hb
  obtain ⟨c1, c2⟩ := vXY h hv
  have m1 := mb (vX σ v - vX σ a) (vX σ b - vX σ a) 16 16 (by omega) (by omega)
  have m2 := mb (vY σ v - vY σ a) (vY σ b - vY σ a) 12 12 (by omega) (by omega)
  omega
theorem farP_b {σ : cs_S} (h : CSo σ) {a b v : Int} (ha : 0 ≤ a ∧ a < σ 4 2) (hb : 0 ≤ b ∧ b < σ 4 2) (hv : 0 ≤ v ∧ v < σ 4 2) : (0 ≤ (farP σ a b v).1 ∧ (farP σ a b v).1 ≤ 160000) ∧ (1 ≤ (farP σ a b v).2 ∧ (farP σ a b v).2 ≤ 400) := by
  have d1 := (dx2_b h ha hv).2
  have d2 := (dx2_b h hb hv).2
  have d3 := (dx2_b h ha hb).2
  have t := (f_sideOf h ha hb (vXY h hv).1 (vXY h hv).2).2
  have s := sq_b (z := trS σ a b (vX σ v) (vY σ v)) (B := 400) (by omega) (by omega)
  unfold farP
  split
  · dsimp only; omega
  · split
    · dsimp only; omega
    · dsimp only; omega
def kpG (s p : Int × Int) : Int × Int := if s.1 * p.2 < p.1 * s.2 then p else s
def s9 (σ : cs_S) (s : Int × Int) : cs_S := cs_set σ 9 (au (au (σ 9) 2 s.1) 3 s.2)
theorem s9_v (σ : cs_S) (s : Int × Int) : s9 σ s 9 2 = s.1 ∧ s9 σ s 9 3 = s.2 ∧ ∀ q, q ≠ 9 → s9 σ s q = σ q := by
  unfold s9
  refine ⟨?_, ?_, fun q n => cs_set_ne n⟩
  · rw [cs_set_at, au_ne (by decide), au_at]
  · rw [cs_set_at, au_at]
theorem s9_s9 (σ : cs_S) (s t : Int × Int) : cs_set (s9 σ s) 9 (au (au (s9 σ s 9) 2 t.1) 3 t.2) = s9 σ t := by
  unfold s9
  rw [cs_set_set, cs_set_at]
  congr 1
  funext j
  unfold au
  by_cases q : j = 3
  · simp [q]
  · by_cases q2 : j = 2
    · simp [q2]
    · simp [q, q2]
theorem f_keep {σ : cs_S} {s p : Int × Int} (hs : (0 ≤ s.1 ∧ s.1 ≤ 160000) ∧ (1 ≤ s.2 ∧ s.2 ≤ 400)) (hp : (0 ≤ p.1 ∧ p.1 ≤ 160000) ∧ (1 ≤ p.2 ∧ p.2 ≤ 400)) : f_X0_keepGreater [p.1, p.2] (s9 σ s) = some (none, s9 σ (kpG s p)) := by
  obtain ⟨v2, v3, -⟩ := s9_v σ s
  have m1 := mb p.1 s.2 160000 400 (by omega) (by omega)
  have m2 := mb s.1 p.2 160000 400 (by omega) (by omega)
  have d1 : cs_InR (p.1 * s.2) := by omega
  have d2 : cs_InR (s.1 * p.2) := by omega
  unfold kpG
  by_cases q : s.1 * p.2 < p.1 * s.2
  · have g1 : (s_put 9 2 (x_l 1)) [none, some p.1, some p.2] (s9 σ s) = some (.inl ([none, some p.1, some p.2], cs_set (s9 σ s) 9 (au (s9 σ s 9) 2 p.1))) := by simp only [cs_run, cs_L0, s_ret, s_retz, s_retv, s_seq, s_set, s_inc, s_put, s_ast, s_zst, s_cst, s_ada, s_if, s_ex, s_cv, s_nop, s_brk, x_ite, x_l, x_k, x_f, x_a, x_ro, x_add, x_sub, x_mul, x_div, x_rem, x_neg, x_call, x_max, x_min, x_abs, g_cons, g_nil, y_lt, y_le, y_gt, y_ge, y_eq, y_ne, y_not, y_and, y_or, y_ite, Option.bind_some, Option.bind_none, List.getElem?_cons_zero, List.getElem?_cons_succ, List.getElem?_nil, List.set_cons_zero, List.set_cons_succ, List.cons_append, List.nil_append, List.append_nil, List.replicate, List.length_cons, List.length_nil, Nat.reduceAdd, Nat.reduceSub, Nat.zero_add, Nat.sub_self, if_true, if_false, ite_true, ite_false, reduceIte, reduceCtorEq, decide_true, decide_false, decide_eq_true_eq, Bool.not_true, Bool.not_false, Bool.true_and, Bool.false_and, Bool.and_true, Bool.and_false, Bool.true_or, Bool.false_or, Bool.false_eq_true, Bool.true_eq_false, not_true_eq_false, not_false_eq_true, ne_eq, Int.reduceEq, Int.reduceNe, Int.reduceLT, Int.reduceLE, and_self, and_true, true_and, and_false, false_and, or_true, true_or, or_false, false_or, true_or, Option.map_some, cs_up_eq]
    have g2 : (s_put 9 3 (x_l 2)) [none, some p.1, some p.2] (cs_set (s9 σ s) 9 (au (s9 σ s 9) 2 p.1)) = some (.inl ([none, some p.1, some p.2], cs_set (s9 σ s) 9 (au (au (s9 σ s 9) 2 p.1) 3 p.2))) := by simp only [cs_run, cs_L0, s_ret, s_retz, s_retv, s_seq, s_set, s_inc, s_put, s_ast, s_zst, s_cst, s_ada, s_if, s_ex, s_cv, s_nop, s_brk, x_ite, x_l, x_k, x_f, x_a, x_ro, x_add, x_sub, x_mul, x_div, x_rem, x_neg, x_call, x_max, x_min, x_abs, g_cons, g_nil, y_lt, y_le, y_gt, y_ge, y_eq, y_ne, y_not, y_and, y_or, y_ite, Option.bind_some, Option.bind_none, List.getElem?_cons_zero, List.getElem?_cons_succ, List.getElem?_nil, List.set_cons_zero, List.set_cons_succ, List.cons_append, List.nil_append, List.append_nil, List.replicate, List.length_cons, List.length_nil, Nat.reduceAdd, Nat.reduceSub, Nat.zero_add, Nat.sub_self, if_true, if_false, ite_true, ite_false, reduceIte, reduceCtorEq, decide_true, decide_false, decide_eq_true_eq, Bool.not_true, Bool.not_false, Bool.true_and, Bool.false_and, Bool.and_true, Bool.and_false, Bool.true_or, Bool.false_or, Bool.false_eq_true, Bool.true_eq_false, not_true_eq_false, not_false_eq_true, ne_eq, Int.reduceEq, Int.reduceNe, Int.reduceLT, Int.reduceLE, and_self, and_true, true_and, and_false, false_and, or_true, true_or, or_false, false_or, true_or, Option.map_some, cs_up_eq, cs_set_at, cs_set_set]
    have hc : (y_gt (x_mul (x_l 1) (x_f 9 3)) (x_mul (x_f 9 2) (x_l 2))) [none, some p.1, some p.2] (s9 σ s) = some (true, s9 σ s) := by simp only [cs_run, cs_L0, s_ret, s_retz, s_retv, s_seq, s_set, s_inc, s_put, s_ast, s_zst, s_cst, s_ada, s_if, s_ex, s_cv, s_nop, s_brk, x_ite, x_l, x_k, x_f, x_a, x_ro, x_add, x_sub, x_mul, x_div, x_rem, x_neg, x_call, x_max, x_min, x_abs, g_cons, g_nil, y_lt, y_le, y_gt, y_ge, y_eq, y_ne, y_not, y_and, y_or, y_ite, Option.bind_some, Option.bind_none, List.getElem?_cons_zero, List.getElem?_cons_succ, List.getElem?_nil, List.set_cons_zero, List.set_cons_succ, List.cons_append, List.nil_append, List.append_nil, List.replicate, List.length_cons, List.length_nil, Nat.reduceAdd, Nat.reduceSub, Nat.zero_add, Nat.sub_self, if_true, if_false, ite_true, ite_false, reduceIte, reduceCtorEq, decide_true, decide_false, decide_eq_true_eq, Bool.not_true, Bool.not_false, Bool.true_and, Bool.false_and, Bool.and_true, Bool.and_false, Bool.true_or, Bool.false_or, Bool.false_eq_true, Bool.true_eq_false, not_true_eq_false, not_false_eq_true, ne_eq, Int.reduceEq, Int.reduceNe, Int.reduceLT, Int.reduceLE, and_self, and_true, true_and, and_false, false_and, or_true, true_or, or_false, false_or, true_or, Option.map_some, v2, v3, cs_chk_ok d1, cs_chk_ok d2, q]
    have g3 : (s_if (y_gt (x_mul (x_l 1) (x_f 9 3)) (x_mul (x_f 9 2) (x_l 2))) (s_seq (s_put 9 2 (x_l 1)) (s_put 9 3 (x_l 2))) s_nop) [none, some p.1, some p.2] (s9 σ s) = some (.inl ([none, some p.1, some p.2], s9 σ p)) := by
      rw [sif hc, if_pos rfl, sq_st g1, g2, s9_s9]
    unfold f_X0_keepGreater b_X0_keepGreater cs_run
    simp only [cs_L0, Option.bind_some, Option.bind_none, List.getElem?_cons_zero, List.getElem?_cons_succ, List.getElem?_nil, List.set_cons_zero, List.set_cons_succ, List.cons_append, List.nil_append, List.append_nil, List.replicate, List.length_cons, List.length_nil, Nat.reduceAdd, Nat.reduceSub, Nat.zero_add, Nat.sub_self, if_true, if_false, ite_true, ite_false, reduceIte, reduceCtorEq, decide_true, decide_false, decide_eq_true_eq, Bool.not_true, Bool.not_false, Bool.true_and, Bool.false_and, Bool.and_true, Bool.and_false, Bool.true_or, Bool.false_or, Bool.false_eq_true, Bool.true_eq_false, not_true_eq_false, not_false_eq_true, ne_eq, Int.reduceEq, Int.reduceNe, Int.reduceLT, Int.reduceLE, and_self, and_true, true_and, and_false, false_and, or_true, true_or, or_false, false_or, true_or, Option.map_some]
    rw [sq_st g3, if_pos q]
    simp only [cs_run, cs_L0, s_ret, s_retz, s_retv, s_seq, s_set, s_inc, s_put, s_ast, s_zst, s_cst, s_ada, s_if, s_ex, s_cv, s_nop, s_brk, x_ite, x_l, x_k, x_f, x_a, x_ro, x_add, x_sub, x_mul, x_div, x_rem, x_neg, x_call, x_max, x_min, x_abs, g_cons, g_nil, y_lt, y_le, y_gt, y_ge, y_eq, y_ne, y_not, y_and, y_or, y_ite, Option.bind_some, Option.bind_none, List.getElem?_cons_zero, List.getElem?_cons_succ, List.getElem?_nil, List.set_cons_zero, List.set_cons_succ, List.cons_append, List.nil_append, List.append_nil, List.replicate, List.length_cons, List.length_nil, Nat.reduceAdd, Nat.reduceSub, Nat.zero_add, Nat.sub_self, if_true, if_false, ite_true, ite_false, reduceIte, reduceCtorEq, decide_true, decide_false, decide_eq_true_eq, Bool.not_true, Bool.not_false, Bool.true_and, Bool.false_and, Bool.and_true, Bool.and_false, Bool.true_or, Bool.false_or, Bool.false_eq_true, Bool.true_eq_false, not_true_eq_false, not_false_eq_true, ne_eq, Int.reduceEq, Int.reduceNe, Int.reduceLT, Int.reduceLE, and_self, and_true, true_and, and_false, false_and, or_true, true_or, or_false, false_or, true_or, Option.map_some]
  · rw [if_neg q]
    simp only [f_X0_keepGreater, b_X0_keepGreater, cs_run, cs_L0, s_ret, s_retz, s_retv, s_seq, s_set, s_inc, s_put, s_ast, s_zst, s_cst, s_ada, s_if, s_ex, s_cv, s_nop, s_brk, x_ite, x_l, x_k, x_f, x_a, x_ro, x_add, x_sub, x_mul, x_div, x_rem, x_neg, x_call, x_max, x_min, x_abs, g_cons, g_nil, y_lt, y_le, y_gt, y_ge, y_eq, y_ne, y_not, y_and, y_or, y_ite, Option.bind_some, Option.bind_none, List.getElem?_cons_zero, List.getElem?_cons_succ, List.getElem?_nil, List.set_cons_zero, List.set_cons_succ, List.cons_append, List.nil_append, List.append_nil, List.replicate, List.length_cons, List.length_nil, Nat.reduceAdd, Nat.reduceSub, Nat.zero_add, Nat.sub_self, if_true, if_false, ite_true, ite_false, reduceIte, reduceCtorEq, decide_true, decide_false, decide_eq_true_eq, Bool.not_true, Bool.not_false, Bool.true_and, Bool.false_and, Bool.and_true, Bool.and_false, Bool.true_or, Bool.false_or, Bool.false_eq_true, Bool.true_eq_false, not_true_eq_false, not_false_eq_true, ne_eq, Int.reduceEq, Int.reduceNe, Int.reduceLT, Int.reduceLE, and_self, and_true, true_and, and_false, false_and, or_true, true_or, or_false, false_or, true_or, Option.map_some, v2, v3, cs_chk_ok d1, cs_chk_ok d2, q]
theorem f_measure {σ : cs_S} (h : CSo σ) {a b v : Int} (ha : 0 ≤ a ∧ a < σ 4 2) (hb : 0 ≤ b ∧ b < σ 4 2) (hv : 0 ≤ v ∧ v < σ 4 2) {s : Int × Int} (hs : (0 ≤ s.1 ∧ s.1 ≤ 160000) ∧ (1 ≤ s.2 ∧ s.2 ≤ 400)) : f_X0_measure [v, a, b] (s9 σ s) = some (none, s9 σ (kpG s (farP σ a b v))) := by
  have hbb := h.1
  obtain ⟨-, -, so⟩ := s9_v σ s
  have t21 := so 21 (by decide)
  have t22 := so 22 (by decide)
  obtain ⟨a1, a2⟩ := vXY h ha
  obtain ⟨b1, b2⟩ := vXY h hb
  obtain ⟨v1, v2⟩ := vXY h hv
  obtain ⟨⟨p1, p2⟩, p3⟩ := dx2_b h ha hv
  obtain ⟨⟨q1, q2⟩, q3⟩ := dx2_b h hb hv
  obtain ⟨⟨r1, r2⟩, r3⟩ := dx2_b h ha hb
  obtain ⟨l1, l2⟩ := al_b h ha hb hv
  have hfb := farP_b h ha hb hv
  have hk := f_keep (σ := σ) hs hfb
  have ht := (f_sideOf h ha hb (vXY h hv).1 (vXY h hv).2).2
  have hts : trS σ a b (vX σ v) (vY σ v) = (vX σ b - vX σ a) * (vY σ v - vY σ a) - (vY σ b - vY σ a) * (vX σ v - vX σ a) := rfl
  have m3 := mb (vX σ v - vX σ a) (vY σ b - vY σ a) 16 12 (by omega) (by omega)
  have m4 := mb (vY σ v - vY σ a) (vX σ b - vX σ a) 12 16 (by omega) (by omega)
  have hcr : (vX σ v - vX σ a) * (vY σ b - vY σ a) - (vY σ v - vY σ a) * (vX σ b - vX σ a) = -trS σ a b (vX σ v) (vY σ v) := by rw [hts]; grind
  have hsq : ((vX σ v - vX σ a) * (vY σ b - vY σ a) - (vY σ v - vY σ a) * (vX σ b - vX σ a)) * ((vX σ v - vX σ a) * (vY σ b - vY σ a) - (vY σ v - vY σ a) * (vX σ b - vX σ a)) = trS σ a b (vX σ v) (vY σ v) * trS σ a b (vX σ v) (vY σ v) := by rw [hcr, Int.neg_mul_neg]
  have hsb := sq_b (z := trS σ a b (vX σ v) (vY σ v)) (B := 400) (by omega) (by omega)
  have hrx : vX σ v - vX σ a - (vX σ b - vX σ a) = vX σ v - vX σ b := by omega
  have hry : vY σ v - vY σ a - (vY σ b - vY σ a) = vY σ v - vY σ b := by omega
  have c1 : (0 : Int) ≤ v ∧ v < ((442 : Nat) : Int) := by omega
  have c2 : (0 : Int) ≤ a ∧ a < ((442 : Nat) : Int) := by omega
  have c3 : (0 : Int) ≤ b ∧ b < ((442 : Nat) : Int) := by omega
  have i1 : cs_InR (vX σ b - vX σ a) := by omega
  have i2 : cs_InR (vY σ b - vY σ a) := by omega
  have i3 : cs_InR (vX σ v - vX σ a) := by omega
  have i4 : cs_InR (vY σ v - vY σ a) := by omega
  unfold farP dx2 alS at hk ⊢
  generalize trS σ a b (vX σ v) (vY σ v) = T at *
  generalize hXv : vX σ v = Xv at *
  generalize hYv : vY σ v = Yv at *
  generalize hXa : vX σ a = Xa at *
  generalize hYa : vY σ a = Ya at *
  generalize hXb : vX σ b = Xb at *
  generalize hYb : vY σ b = Yb at *
  unfold vX at hXv hXa hXb
  unfold vY at hYv hYa hYb
  generalize hτ : s9 σ s = τ at *
  have g1 : (s_set 4 (x_sub (x_a 21 442 (x_l 3)) (x_a 21 442 (x_l 2)))) [none, some v, some a, some b, none, none, none, none, none, none, none, none] τ = some (.inl ([none, some v, some a, some b, some (Xb - Xa), none, none, none, none, none, none, none], τ)) := by simp only [cs_run, cs_L0, s_ret, s_retz, s_retv, s_seq, s_set, s_inc, s_put, s_ast, s_zst, s_cst, s_ada, s_if, s_ex, s_cv, s_nop, s_brk, x_ite, x_l, x_k, x_f, x_a, x_ro, x_add, x_sub, x_mul, x_div, x_rem, x_neg, x_call, x_max, x_min, x_abs, g_cons, g_nil, y_lt, y_le, y_gt, y_ge, y_eq, y_ne, y_not, y_and, y_or, y_ite, Option.bind_some, Option.bind_none, List.getElem?_cons_zero, List.getElem?_cons_succ, List.getElem?_nil, List.set_cons_zero, List.set_cons_succ, List.cons_append, List.nil_append, List.append_nil, List.replicate, List.length_cons, List.length_nil, Nat.reduceAdd, Nat.reduceSub, Nat.zero_add, Nat.sub_self, if_true, if_false, ite_true, ite_false, reduceIte, reduceCtorEq, decide_true, decide_false, decide_eq_true_eq, Bool.not_true, Bool.not_false, Bool.true_and, Bool.false_and, Bool.and_true, Bool.and_false, Bool.true_or, Bool.false_or, Bool.false_eq_true, Bool.true_eq_false, not_true_eq_false, not_false_eq_true, ne_eq, Int.reduceEq, Int.reduceNe, Int.reduceLT, Int.reduceLE, and_self, and_true, true_and, and_false, false_and, or_true, true_or, or_false, false_or, true_or, Option.map_some, cs_rd_ok c3, cs_rd_ok c2, t21, hXb, hXa, cs_chk_ok i1]
  have g2 : (s_set 5 (x_sub (x_a 22 442 (x_l 3)) (x_a 22 442 (x_l 2)))) [none, some v, some a, some b, some (Xb - Xa), none, none, none, none, none, none, none] τ = some (.inl ([none, some v, some a, some b, some (Xb - Xa), some (Yb - Ya), none, none, none, none, none, none], τ)) := by simp only [cs_run, cs_L0, s_ret, s_retz, s_retv, s_seq, s_set, s_inc, s_put, s_ast, s_zst, s_cst, s_ada, s_if, s_ex, s_cv, s_nop, s_brk, x_ite, x_l, x_k, x_f, x_a, x_ro, x_add, x_sub, x_mul, x_div, x_rem, x_neg, x_call, x_max, x_min, x_abs, g_cons, g_nil, y_lt, y_le, y_gt, y_ge, y_eq, y_ne, y_not, y_and, y_or, y_ite, Option.bind_some, Option.bind_none, List.getElem?_cons_zero, List.getElem?_cons_succ, List.getElem?_nil, List.set_cons_zero, List.set_cons_succ, List.cons_append, List.nil_append, List.append_nil, List.replicate, List.length_cons, List.length_nil, Nat.reduceAdd, Nat.reduceSub, Nat.zero_add, Nat.sub_self, if_true, if_false, ite_true, ite_false, reduceIte, reduceCtorEq, decide_true, decide_false, decide_eq_true_eq, Bool.not_true, Bool.not_false, Bool.true_and, Bool.false_and, Bool.and_true, Bool.and_false, Bool.true_or, Bool.false_or, Bool.false_eq_true, Bool.true_eq_false, not_true_eq_false, not_false_eq_true, ne_eq, Int.reduceEq, Int.reduceNe, Int.reduceLT, Int.reduceLE, and_self, and_true, true_and, and_false, false_and, or_true, true_or, or_false, false_or, true_or, Option.map_some, cs_rd_ok c3, cs_rd_ok c2, t22, hYb, hYa, cs_chk_ok i2]
  have g3 : (s_set 6 (x_sub (x_a 21 442 (x_l 1)) (x_a 21 442 (x_l 2)))) [none, some v, some a, some b, some (Xb - Xa), some (Yb - Ya), none, none, none, none, none, none] τ = some (.inl ([none, some v, some a, some b, some (Xb - Xa), some (Yb - Ya), some (Xv - Xa), none, none, none, none, none], τ)) := by simp only [cs_run, cs_L0, s_ret, s_retz, s_retv, s_seq, s_set, s_inc, s_put, s_ast, s_zst, s_cst, s_ada, s_if, s_ex, s_cv, s_nop, s_brk, x_ite, x_l, x_k, x_f, x_a, x_ro, x_add, x_sub, x_mul, x_div, x_rem, x_neg, x_call, x_max, x_min, x_abs, g_cons, g_nil, y_lt, y_le, y_gt, y_ge, y_eq, y_ne, y_not, y_and, y_or, y_ite, Option.bind_some, Option.bind_none, List.getElem?_cons_zero, List.getElem?_cons_succ, List.getElem?_nil, List.set_cons_zero, List.set_cons_succ, List.cons_append, List.nil_append, List.append_nil, List.replicate, List.length_cons, List.length_nil, Nat.reduceAdd, Nat.reduceSub, Nat.zero_add, Nat.sub_self, if_true, if_false, ite_true, ite_false, reduceIte, reduceCtorEq, decide_true, decide_false, decide_eq_true_eq, Bool.not_true, Bool.not_false, Bool.true_and, Bool.false_and, Bool.and_true, Bool.and_false, Bool.true_or, Bool.false_or, Bool.false_eq_true, Bool.true_eq_false, not_true_eq_false, not_false_eq_true, ne_eq, Int.reduceEq, Int.reduceNe, Int.reduceLT, Int.reduceLE, and_self, and_true, true_and, and_false, false_and, or_true, true_or, or_false, false_or, true_or, Option.map_some, cs_rd_ok c1, cs_rd_ok c2, t21, hXv, hXa, cs_chk_ok i3]
  have g4 : (s_set 7 (x_sub (x_a 22 442 (x_l 1)) (x_a 22 442 (x_l 2)))) [none, some v, some a, some b, some (Xb - Xa), some (Yb - Ya), some (Xv - Xa), none, none, none, none, none] τ = some (.inl ([none, some v, some a, some b, some (Xb - Xa), some (Yb - Ya), some (Xv - Xa), some (Yv - Ya), none, none, none, none], τ)) := by simp only [cs_run, cs_L0, s_ret, s_retz, s_retv, s_seq, s_set, s_inc, s_put, s_ast, s_zst, s_cst, s_ada, s_if, s_ex, s_cv, s_nop, s_brk, x_ite, x_l, x_k, x_f, x_a, x_ro, x_add, x_sub, x_mul, x_div, x_rem, x_neg, x_call, x_max, x_min, x_abs, g_cons, g_nil, y_lt, y_le, y_gt, y_ge, y_eq, y_ne, y_not, y_and, y_or, y_ite, Option.bind_some, Option.bind_none, List.getElem?_cons_zero, List.getElem?_cons_succ, List.getElem?_nil, List.set_cons_zero, List.set_cons_succ, List.cons_append, List.nil_append, List.append_nil, List.replicate, List.length_cons, List.length_nil, Nat.reduceAdd, Nat.reduceSub, Nat.zero_add, Nat.sub_self, if_true, if_false, ite_true, ite_false, reduceIte, reduceCtorEq, decide_true, decide_false, decide_eq_true_eq, Bool.not_true, Bool.not_false, Bool.true_and, Bool.false_and, Bool.and_true, Bool.and_false, Bool.true_or, Bool.false_or, Bool.false_eq_true, Bool.true_eq_false, not_true_eq_false, not_false_eq_true, ne_eq, Int.reduceEq, Int.reduceNe, Int.reduceLT, Int.reduceLE, and_self, and_true, true_and, and_false, false_and, or_true, true_or, or_false, false_or, true_or, Option.map_some, cs_rd_ok c1, cs_rd_ok c2, t22, hYv, hYa, cs_chk_ok i4]
  have i5 : cs_InR ((Xv - Xa) * (Xb - Xa)) := by omega
  have i6 : cs_InR ((Yv - Ya) * (Yb - Ya)) := by omega
  have i7 : cs_InR ((Xv - Xa) * (Xb - Xa) + (Yv - Ya) * (Yb - Ya)) := by omega
  have i8 : cs_InR ((Xb - Xa) * (Xb - Xa)) := by omega
  have i9 : cs_InR ((Yb - Ya) * (Yb - Ya)) := by omega
  have i10 : cs_InR ((Xb - Xa) * (Xb - Xa) + (Yb - Ya) * (Yb - Ya)) := by omega
  have g5 : (s_set 8 (x_add (x_mul (x_l 6) (x_l 4)) (x_mul (x_l 7) (x_l 5)))) [none, some v, some a, some b, some (Xb - Xa), some (Yb - Ya), some (Xv - Xa), some (Yv - Ya), none, none, none, none] τ = some (.inl ([none, some v, some a, some b, some (Xb - Xa), some (Yb - Ya), some (Xv - Xa), some (Yv - Ya), some ((Xv - Xa) * (Xb - Xa) + (Yv - Ya) * (Yb - Ya)), none, none, none], τ)) := by simp only [cs_run, cs_L0, s_ret, s_retz, s_retv, s_seq, s_set, s_inc, s_put, s_ast, s_zst, s_cst, s_ada, s_if, s_ex, s_cv, s_nop, s_brk, x_ite, x_l, x_k, x_f, x_a, x_ro, x_add, x_sub, x_mul, x_div, x_rem, x_neg, x_call, x_max, x_min, x_abs, g_cons, g_nil, y_lt, y_le, y_gt, y_ge, y_eq, y_ne, y_not, y_and, y_or, y_ite, Option.bind_some, Option.bind_none, List.getElem?_cons_zero, List.getElem?_cons_succ, List.getElem?_nil, List.set_cons_zero, List.set_cons_succ, List.cons_append, List.nil_append, List.append_nil, List.replicate, List.length_cons, List.length_nil, Nat.reduceAdd, Nat.reduceSub, Nat.zero_add, Nat.sub_self, if_true, if_false, ite_true, ite_false, reduceIte, reduceCtorEq, decide_true, decide_false, decide_eq_true_eq, Bool.not_true, Bool.not_false, Bool.true_and, Bool.false_and, Bool.and_true, Bool.and_false, Bool.true_or, Bool.false_or, Bool.false_eq_true, Bool.true_eq_false, not_true_eq_false, not_false_eq_true, ne_eq, Int.reduceEq, Int.reduceNe, Int.reduceLT, Int.reduceLE, and_self, and_true, true_and, and_false, false_and, or_true, true_or, or_false, false_or, true_or, Option.map_some, cs_chk_ok i5, cs_chk_ok i6, cs_chk_ok i7]
  have g6 : ∀ e, (s_set 9 (x_add (x_mul (x_l 4) (x_l 4)) (x_mul (x_l 5) (x_l 5)))) [none, some v, some a, some b, some (Xb - Xa), some (Yb - Ya), some (Xv - Xa), some (Yv - Ya), some e, none, none, none] τ = some (.inl ([none, some v, some a, some b, some (Xb - Xa), some (Yb - Ya), some (Xv - Xa), some (Yv - Ya), some e, some ((Xb - Xa) * (Xb - Xa) + (Yb - Ya) * (Yb - Ya)), none, none], τ)) := fun e => by simp only [cs_run, cs_L0, s_ret, s_retz, s_retv, s_seq, s_set, s_inc, s_put, s_ast, s_zst, s_cst, s_ada, s_if, s_ex, s_cv, s_nop, s_brk, x_ite, x_l, x_k, x_f, x_a, x_ro, x_add, x_sub, x_mul, x_div, x_rem, x_neg, x_call, x_max, x_min, x_abs, g_cons, g_nil, y_lt, y_le, y_gt, y_ge, y_eq, y_ne, y_not, y_and, y_or, y_ite, Option.bind_some, Option.bind_none, List.getElem?_cons_zero, List.getElem?_cons_succ, List.getElem?_nil, List.set_cons_zero, List.set_cons_succ, List.cons_append, List.nil_append, List.append_nil, List.replicate, List.length_cons, List.length_nil, Nat.reduceAdd, Nat.reduceSub, Nat.zero_add, Nat.sub_self, if_true, if_false, ite_true, ite_false, reduceIte, reduceCtorEq, decide_true, decide_false, decide_eq_true_eq, Bool.not_true, Bool.not_false, Bool.true_and, Bool.false_and, Bool.and_true, Bool.and_false, Bool.true_or, Bool.false_or, Bool.false_eq_true, Bool.true_eq_false, not_true_eq_false, not_false_eq_true, ne_eq, Int.reduceEq, Int.reduceNe, Int.reduceLT, Int.reduceLE, and_self, and_true, true_and, and_false, false_and, or_true, true_or, or_false, false_or, true_or, Option.map_some, cs_chk_ok i8, cs_chk_ok i9, cs_chk_ok i10]
  unfold f_X0_measure b_X0_measure cs_run
  simp only [cs_L0, Option.bind_some, Option.bind_none, List.getElem?_cons_zero, List.getElem?_cons_succ, List.getElem?_nil, List.set_cons_zero, List.set_cons_succ, List.cons_append, List.nil_append, List.append_nil, List.replicate, List.length_cons, List.length_nil, Nat.reduceAdd, Nat.reduceSub, Nat.zero_add, Nat.sub_self, if_true, if_false, ite_true, ite_false, reduceIte, reduceCtorEq, decide_true, decide_false, decide_eq_true_eq, Bool.not_true, Bool.not_false, Bool.true_and, Bool.false_and, Bool.and_true, Bool.and_false, Bool.true_or, Bool.false_or, Bool.false_eq_true, Bool.true_eq_false, not_true_eq_false, not_false_eq_true, ne_eq, Int.reduceEq, Int.reduceNe, Int.reduceLT, Int.reduceLE, and_self, and_true, true_and, and_false, false_and, or_true, true_or, or_false, false_or, true_or, Option.map_some]
  rw [sq_st g1, sq_st g2, sq_st g3, sq_st g4, sq_st g5, sq_st (g6 _)]
  generalize (Xv - Xa) * (Xb - Xa) + (Yv - Ya) * (Yb - Ya) = AL at *
  generalize (Xb - Xa) * (Xb - Xa) + (Yb - Ya) * (Yb - Ya) = LN at *
  have j1 : cs_InR ((Xv - Xa) * (Xv - Xa)) := by omega
  have j2 : cs_InR ((Yv - Ya) * (Yv - Ya)) := by omega
  have j3 : cs_InR ((Xv - Xa) * (Xv - Xa) + (Yv - Ya) * (Yv - Ya)) := by omega
  by_cases z1 : AL ≤ 0
  · simp only [if_pos z1] at hk ⊢
    simp only [cs_run, cs_L0, s_ret, s_retz, s_retv, s_seq, s_set, s_inc, s_put, s_ast, s_zst, s_cst, s_ada, s_if, s_ex, s_cv, s_nop, s_brk, x_ite, x_l, x_k, x_f, x_a, x_ro, x_add, x_sub, x_mul, x_div, x_rem, x_neg, x_call, x_max, x_min, x_abs, g_cons, g_nil, y_lt, y_le, y_gt, y_ge, y_eq, y_ne, y_not, y_and, y_or, y_ite, Option.bind_some, Option.bind_none, List.getElem?_cons_zero, List.getElem?_cons_succ, List.getElem?_nil, List.set_cons_zero, List.set_cons_succ, List.cons_append, List.nil_append, List.append_nil, List.replicate, List.length_cons, List.length_nil, Nat.reduceAdd, Nat.reduceSub, Nat.zero_add, Nat.sub_self, if_true, if_false, ite_true, ite_false, reduceIte, reduceCtorEq, decide_true, decide_false, decide_eq_true_eq, Bool.not_true, Bool.not_false, Bool.true_and, Bool.false_and, Bool.and_true, Bool.and_false, Bool.true_or, Bool.false_or, Bool.false_eq_true, Bool.true_eq_false, not_true_eq_false, not_false_eq_true, ne_eq, Int.reduceEq, Int.reduceNe, Int.reduceLT, Int.reduceLE, and_self, and_true, true_and, and_false, false_and, or_true, true_or, or_false, false_or, true_or, Option.map_some, z1, cs_chk_ok j1, cs_chk_ok j2, cs_chk_ok j3, hk]
  · simp only [if_neg z1] at hk ⊢
    by_cases z2 : LN ≤ AL
    · simp only [if_pos z2] at hk ⊢
      have j4 : cs_InR (Xv - Xb) := by omega
      have j5 : cs_InR (Yv - Yb) := by omega
      have j6 : cs_InR ((Xv - Xb) * (Xv - Xb)) := by omega
      have j7 : cs_InR ((Yv - Yb) * (Yv - Yb)) := by omega
      have j8 : cs_InR ((Xv - Xb) * (Xv - Xb) + (Yv - Yb) * (Yv - Yb)) := by omega
      simp only [cs_run, cs_L0, s_ret, s_retz, s_retv, s_seq, s_set, s_inc, s_put, s_ast, s_zst, s_cst, s_ada, s_if, s_ex, s_cv, s_nop, s_brk, x_ite, x_l, x_k, x_f, x_a, x_ro, x_add, x_sub, x_mul, x_div, x_rem, x_neg, x_call, x_max, x_min, x_abs, g_cons, g_nil, y_lt, y_le, y_gt, y_ge, y_eq, y_ne, y_not, y_and, y_or, y_ite, Option.bind_some, Option.bind_none, List.getElem?_cons_zero, List.getElem?_cons_succ, List.getElem?_nil, List.set_cons_zero, List.set_cons_succ, List.cons_append, List.nil_append, List.append_nil, List.replicate, List.length_cons, List.length_nil, Nat.reduceAdd, Nat.reduceSub, Nat.zero_add, Nat.sub_self, if_true, if_false, ite_true, ite_false, reduceIte, reduceCtorEq, decide_true, decide_false, decide_eq_true_eq, Bool.not_true, Bool.not_false, Bool.true_and, Bool.false_and, Bool.and_true, Bool.and_false, Bool.true_or, Bool.false_or, Bool.false_eq_true, Bool.true_eq_false, not_true_eq_false, not_false_eq_true, ne_eq, Int.reduceEq, Int.reduceNe, Int.reduceLT, Int.reduceLE, and_self, and_true, true_and, and_false, false_and, or_true, true_or, or_false, false_or, true_or, Option.map_some, z1, z2, hrx, hry, cs_chk_ok j4, cs_chk_ok j5, cs_chk_ok j6, cs_chk_ok j7, cs_chk_ok j8, hk]
    · simp only [if_neg z2] at hk ⊢
      have j4 : cs_InR ((Xv - Xa) * (Yb - Ya)) := by omega
      have j5 : cs_InR ((Yv - Ya) * (Xb - Xa)) := by omega
      have j6 : cs_InR ((Xv - Xa) * (Yb - Ya) - (Yv - Ya) * (Xb - Xa)) := by rw [hcr]; omega
      have j7 : cs_InR (((Xv - Xa) * (Yb - Ya) - (Yv - Ya) * (Xb - Xa)) * ((Xv - Xa) * (Yb - Ya) - (Yv - Ya) * (Xb - Xa))) := by rw [hsq]; omega
      rw [← hsq] at hk
      rw [← hsq]
      simp only [cs_run, cs_L0, s_ret, s_retz, s_retv, s_seq, s_set, s_inc, s_put, s_ast, s_zst, s_cst, s_ada, s_if, s_ex, s_cv, s_nop, s_brk, x_ite, x_l, x_k, x_f, x_a, x_ro, x_add, x_sub, x_mul, x_div, x_rem, x_neg, x_call, x_max, x_min, x_abs, g_cons, g_nil, y_lt, y_le, y_gt, y_ge, y_eq, y_ne, y_not, y_and, y_or, y_ite, Option.bind_some, Option.bind_none, List.getElem?_cons_zero, List.getElem?_cons_succ, List.getElem?_nil, List.set_cons_zero, List.set_cons_succ, List.cons_append, List.nil_append, List.append_nil, List.replicate, List.length_cons, List.length_nil, Nat.reduceAdd, Nat.reduceSub, Nat.zero_add, Nat.sub_self, if_true, if_false, ite_true, ite_false, reduceIte, reduceCtorEq, decide_true, decide_false, decide_eq_true_eq, Bool.not_true, Bool.not_false, Bool.true_and, Bool.false_and, Bool.and_true, Bool.and_false, Bool.true_or, Bool.false_or, Bool.false_eq_true, Bool.true_eq_false, not_true_eq_false, not_false_eq_true, ne_eq, Int.reduceEq, Int.reduceNe, Int.reduceLT, Int.reduceLE, and_self, and_true, true_and, and_false, false_and, or_true, true_or, or_false, false_or, true_or, Option.map_some, z1, z2, cs_chk_ok j4, cs_chk_ok j5, cs_chk_ok j6, cs_chk_ok j7, hk]
/-! the reference's way -/
def s10 (σ : cs_S) (s : Int × Int) : cs_S := cs_set σ 10 (au (au (σ 10) 24 s.2) 23 s.1)
theorem s10_v (σ : cs_S) (s : Int × Int) : s10 σ s 10 23 = s.1 ∧ s10 σ s 10 24 = s.2 ∧ (∀ q, q ≠ 10 → s10 σ s q = σ q) ∧ ∀ k, k ≠ 23 → k ≠ 24 → s10 σ s 10 k = σ 10 k := by
  unfold s10
  refine ⟨?_, ?_, fun q n => cs_set_ne n, fun k n1 n2 => ?_⟩
  · rw [cs_set_at, au_at]
  · rw [cs_set_at, au_ne (by decide), au_at]
  · rw [cs_set_at, au_ne n1, au_ne n2]
theorem s10_CR {σ : cs_S} (h : CSo σ) (hR : RR σ) (hP : Pos1 σ) (s : Int × Int) : CSo (s10 σ s) ∧ RR (s10 σ s) ∧ Pos1 (s10 σ s) ∧ SameV (s10 σ s) σ := by
  obtain ⟨-, -, so, s1⟩ := s10_v σ s
  have hS : SameV (s10 σ s) σ := ⟨so 15 (by decide), so 20 (by decide), so 21 (by decide), so 22 (by decide), so 23 (by decide)⟩
  refine ⟨(CSoS (so 4 (by decide)) hS).mpr h, ?_, Pos1_S (so 4 (by decide)) hS hP, hS⟩
  exact RR_cg (σ := σ) (by rw [so 4 (by decide)]) (by rw [so 4 (by decide)]) (s1 7 (by decide) (by decide)) (s1 8 (by decide) (by decide)) (so 15 (by decide)) (so 21 (by decide)) (so 22 (by decide)) (so 32 (by decide)) (so 33 (by decide)) (so 37 (by decide)) (so 38 (by decide)) hR (fun u hu => by rw [so 39 (by decide), so 23 (by decide)]; exact (hR.2.1.2 u hu).2.2)
theorem f_squared {σ : cs_S} (h : CSo σ) (hR : RR σ) {a b : Int} (ha : 0 ≤ a ∧ a < σ 4 2) (hb : 0 ≤ b ∧ b < σ 4 2) : f_X10_squared [a, b] σ = some (some (dx2 σ a b), σ) := by
  have hbb := h.1
  obtain ⟨a1, a2⟩ := vXY h ha
  obtain ⟨b1, b2⟩ := vXY h hb
  obtain ⟨⟨p1, p2⟩, p3⟩ := dx2_b h ha hb
  obtain ⟨q1, q2, -⟩ := hR.2.1.2 a.toNat (by omega)
  obtain ⟨q3, q4, -⟩ := hR.2.1.2 b.toNat (by omega)
  have c1 : (0 : Int) ≤ a ∧ a < ((512 : Nat) : Int) := by omega
  have c2 : (0 : Int) ≤ b ∧ b < ((512 : Nat) : Int) := by omega
  unfold dx2
  unfold vX vY at *
  have i1 : cs_InR (σ 21 b.toNat - σ 21 a.toNat) := by omega
  have i2 : cs_InR (σ 22 b.toNat - σ 22 a.toNat) := by omega
  have i3 : cs_InR ((σ 21 b.toNat - σ 21 a.toNat) * (σ 21 b.toNat - σ 21 a.toNat)) := by omega
  have i4 : cs_InR ((σ 22 b.toNat - σ 22 a.toNat) * (σ 22 b.toNat - σ 22 a.toNat)) := by omega
  have i5 : cs_InR ((σ 21 b.toNat - σ 21 a.toNat) * (σ 21 b.toNat - σ 21 a.toNat) + (σ 22 b.toNat - σ 22 a.toNat) * (σ 22 b.toNat - σ 22 a.toNat)) := by omega
  simp only [f_X10_squared, b_X10_squared, cs_run, cs_L0, s_ret, s_retz, s_retv, s_seq, s_set, s_inc, s_put, s_ast, s_zst, s_cst, s_ada, s_if, s_ex, s_cv, s_nop, s_brk, x_ite, x_l, x_k, x_f, x_a, x_ro, x_add, x_sub, x_mul, x_div, x_rem, x_neg, x_call, x_max, x_min, x_abs, g_cons, g_nil, y_lt, y_le, y_gt, y_ge, y_eq, y_ne, y_not, y_and, y_or, y_ite, Option.bind_some, Option.bind_none, List.getElem?_cons_zero, List.getElem?_cons_succ, List.getElem?_nil, List.set_cons_zero, List.set_cons_succ, List.cons_append, List.nil_append, List.append_nil, List.replicate, List.length_cons, List.length_nil, Nat.reduceAdd, Nat.reduceSub, Nat.zero_add, Nat.sub_self, if_true, if_false, ite_true, ite_false, reduceIte, reduceCtorEq, decide_true, decide_false, decide_eq_true_eq, Bool.not_true, Bool.not_false, Bool.true_and, Bool.false_and, Bool.and_true, Bool.and_false, Bool.true_or, Bool.false_or, Bool.false_eq_true, Bool.true_eq_false, not_true_eq_false, not_false_eq_true, ne_eq, Int.reduceEq, Int.reduceNe, Int.reduceLT, Int.reduceLE, and_self, and_true, true_and, and_false, false_and, or_true, true_or, or_false, false_or, true_or, Option.map_some, cs_rd_ok c1, cs_rd_ok c2, q1, q2, q3, q4, cs_chk_ok i1, cs_chk_ok i2, cs_chk_ok i3, cs_chk_ok i4, cs_chk_ok i5]
theorem f_findFar {σ : cs_S} (h : CSo σ) (hR : RR σ) (hP : Pos1 σ) {a b v : Int} (ha : 0 ≤ a ∧ a < σ 4 2) (hb : 0 ≤ b ∧ b < σ 4 2) (hv : 0 ≤ v ∧ v < σ 4 2) : f_X10_findFar [a, b, v] σ = some (none, s10 σ (farP σ a b v)) := by
  have hbb := h.1
  obtain ⟨a1, a2⟩ := vXY h ha
  obtain ⟨b1, b2⟩ := vXY h hb
  obtain ⟨v1, v2⟩ := vXY h hv
  obtain ⟨l1, l2⟩ := al_b h ha hb hv
  have ht := (f_sideOf h ha hb (vXY h hv).1 (vXY h hv).2).2
  have hsb := sq_b (z := trS σ a b (vX σ v) (vY σ v)) (B := 400) (by omega) (by omega)
  obtain ⟨q1, q2, -⟩ := hR.2.1.2 a.toNat (by omega)
  obtain ⟨q3, q4, -⟩ := hR.2.1.2 b.toNat (by omega)
  obtain ⟨q5, q6, -⟩ := hR.2.1.2 v.toNat (by omega)
  have c1 : (0 : Int) ≤ a ∧ a < ((512 : Nat) : Int) := by omega
  have c2 : (0 : Int) ≤ b ∧ b < ((512 : Nat) : Int) := by omega
  have c3 : (0 : Int) ≤ v ∧ v < ((512 : Nat) : Int) := by omega
  have e1 := f_squared h hR ha hb
  obtain ⟨τ, hτ⟩ : ∃ τ, τ = cs_set σ 10 (au (σ 10) 24 1) := ⟨_, rfl⟩
  have to : ∀ q, q ≠ 10 → τ q = σ q := fun q n => by rw [hτ, cs_set_ne n]
  have t10 : τ 10 = au (σ 10) 24 1 := by rw [hτ, cs_set_at]
  have hS : SameV τ σ := ⟨to 15 (by decide), to 20 (by decide), to 21 (by decide), to 22 (by decide), to 23 (by decide)⟩
  have hCt : CSo τ := (CSoS (to 4 (by decide)) hS).mpr h
  have hRt : RR τ := RR_cg (σ := σ) (by rw [to 4 (by decide)]) (by rw [to 4 (by decide)]) (by rw [t10, au_ne (by decide)]) (by rw [t10, au_ne (by decide)]) (to 15 (by decide)) (to 21 (by decide)) (to 22 (by decide)) (to 32 (by decide)) (to 33 (by decide)) (to 37 (by decide)) (to 38 (by decide)) hR (fun u hu => by rw [to 39 (by decide), to 23 (by decide)]; exact (hR.2.1.2 u hu).2.2)
  have t42 : τ 4 2 = σ 4 2 := by rw [to 4 (by decide)]
  have hdx : dx2 τ = dx2 σ := by funext x y; unfold dx2 vX vY; rw [to 21 (by decide), to 22 (by decide)]
  have e2 := f_squared hCt hRt (a := a) (b := v) (by rw [t42]; exact ha) (by rw [t42]; exact hv)
  have e3 := f_squared hCt hRt (a := b) (b := v) (by rw [t42]; exact hb) (by rw [t42]; exact hv)
  rw [hdx] at e2 e3
  have e4 := f_turnR hCt hRt (a := a) (b := b) (p := v) (by rw [t42]; exact ha) (by rw [t42]; exact hb) (by rw [t42]; exact hv)
  have htr : trS τ a b (vX τ v) (vY τ v) = trS σ a b (vX σ v) (vY σ v) := by unfold trS vX vY; rw [to 21 (by decide), to 22 (by decide)]
  rw [htr] at e4
  have i1 : cs_InR (vX σ v - vX σ a) := by omega
  have i2 : cs_InR (vX σ b - vX σ a) := by omega
  have i3 : cs_InR (vY σ v - vY σ a) := by omega
  have i4 : cs_InR (vY σ b - vY σ a) := by omega
  have i5 : cs_InR ((vX σ v - vX σ a) * (vX σ b - vX σ a)) := by omega
  have i6 : cs_InR ((vY σ v - vY σ a) * (vY σ b - vY σ a)) := by omega
  have i7 : cs_InR ((vX σ v - vX σ a) * (vX σ b - vX σ a) + (vY σ v - vY σ a) * (vY σ b - vY σ a)) := by omega
  have g1 : (s_set 4 (x_add (x_mul (x_sub (x_a 37 512 (x_l 3)) (x_a 37 512 (x_l 1))) (x_sub (x_a 37 512 (x_l 2)) (x_a 37 512 (x_l 1)))) (x_mul (x_sub (x_a 38 512 (x_l 3)) (x_a 38 512 (x_l 1))) (x_sub (x_a 38 512 (x_l 2)) (x_a 38 512 (x_l 1)))))) [none, some a, some b, some v, none, none] σ = some (.inl ([none, some a, some b, some v, some (alS σ a b v), none], σ)) := by
    unfold alS
    unfold vX vY at *
    simp only [cs_run, cs_L0, s_ret, s_retz, s_retv, s_seq, s_set, s_inc, s_put, s_ast, s_zst, s_cst, s_ada, s_if, s_ex, s_cv, s_nop, s_brk, x_ite, x_l, x_k, x_f, x_a, x_ro, x_add, x_sub, x_mul, x_div, x_rem, x_neg, x_call, x_max, x_min, x_abs, g_cons, g_nil, y_lt, y_le, y_gt, y_ge, y_eq, y_ne, y_not, y_and, y_or, y_ite, Option.bind_some, Option.bind_none, List.getElem?_cons_zero, List.getElem?_cons_succ, List.getElem?_nil, List.set_cons_zero, List.set_cons_succ, List.cons_append, List.nil_append, List.append_nil, List.replicate, List.length_cons, List.length_nil, Nat.reduceAdd, Nat.reduceSub, Nat.zero_add, Nat.sub_self, if_true, if_false, ite_true, ite_false, reduceIte, reduceCtorEq, decide_true, decide_false, decide_eq_true_eq, Bool.not_true, Bool.not_false, Bool.true_and, Bool.false_and, Bool.and_true, Bool.and_false, Bool.true_or, Bool.false_or, Bool.false_eq_true, Bool.true_eq_false, not_true_eq_false, not_false_eq_true, ne_eq, Int.reduceEq, Int.reduceNe, Int.reduceLT, Int.reduceLE, and_self, and_true, true_and, and_false, false_and, or_true, true_or, or_false, false_or, true_or, Option.map_some, cs_rd_ok c1, cs_rd_ok c2, cs_rd_ok c3, q1, q2, q3, q4, q5, q6, cs_chk_ok i1, cs_chk_ok i2, cs_chk_ok i3, cs_chk_ok i4, cs_chk_ok i5, cs_chk_ok i6, cs_chk_ok i7]
  have g2 : (s_set 5 (x_call f_X10_squared (g_cons (x_l 1) (g_cons (x_l 2) g_nil)))) [none, some a, some b, some v, some (alS σ a b v), none] σ = some (.inl ([none, some a, some b, some v, some (alS σ a b v), some (dx2 σ a b)], σ)) := by simp only [cs_run, cs_L0, s_ret, s_retz, s_retv, s_seq, s_set, s_inc, s_put, s_ast, s_zst, s_cst, s_ada, s_if, s_ex, s_cv, s_nop, s_brk, x_ite, x_l, x_k, x_f, x_a, x_ro, x_add, x_sub, x_mul, x_div, x_rem, x_neg, x_call, x_max, x_min, x_abs, g_cons, g_nil, y_lt, y_le, y_gt, y_ge, y_eq, y_ne, y_not, y_and, y_or, y_ite, Option.bind_some, Option.bind_none, List.getElem?_cons_zero, List.getElem?_cons_succ, List.getElem?_nil, List.set_cons_zero, List.set_cons_succ, List.cons_append, List.nil_append, List.append_nil, List.replicate, List.length_cons, List.length_nil, Nat.reduceAdd, Nat.reduceSub, Nat.zero_add, Nat.sub_self, if_true, if_false, ite_true, ite_false, reduceIte, reduceCtorEq, decide_true, decide_false, decide_eq_true_eq, Bool.not_true, Bool.not_false, Bool.true_and, Bool.false_and, Bool.and_true, Bool.and_false, Bool.true_or, Bool.false_or, Bool.false_eq_true, Bool.true_eq_false, not_true_eq_false, not_false_eq_true, ne_eq, Int.reduceEq, Int.reduceNe, Int.reduceLT, Int.reduceLE, and_self, and_true, true_and, and_false, false_and, or_true, true_or, or_false, false_or, true_or, Option.map_some, e1]
  have g3 : (s_put 10 24 (x_k 1)) [none, some a, some b, some v, some (alS σ a b v), some (dx2 σ a b)] σ = some (.inl ([none, some a, some b, some v, some (alS σ a b v), some (dx2 σ a b)], τ)) := by
    rw [hτ]
    simp only [cs_run, cs_L0, s_ret, s_retz, s_retv, s_seq, s_set, s_inc, s_put, s_ast, s_zst, s_cst, s_ada, s_if, s_ex, s_cv, s_nop, s_brk, x_ite, x_l, x_k, x_f, x_a, x_ro, x_add, x_sub, x_mul, x_div, x_rem, x_neg, x_call, x_max, x_min, x_abs, g_cons, g_nil, y_lt, y_le, y_gt, y_ge, y_eq, y_ne, y_not, y_and, y_or, y_ite, Option.bind_some, Option.bind_none, List.getElem?_cons_zero, List.getElem?_cons_succ, List.getElem?_nil, List.set_cons_zero, List.set_cons_succ, List.cons_append, List.nil_append, List.append_nil, List.replicate, List.length_cons, List.length_nil, Nat.reduceAdd, Nat.reduceSub, Nat.zero_add, Nat.sub_self, if_true, if_false, ite_true, ite_false, reduceIte, reduceCtorEq, decide_true, decide_false, decide_eq_true_eq, Bool.not_true, Bool.not_false, Bool.true_and, Bool.false_and, Bool.and_true, Bool.and_false, Bool.true_or, Bool.false_or, Bool.false_eq_true, Bool.true_eq_false, not_true_eq_false, not_false_eq_true, ne_eq, Int.reduceEq, Int.reduceNe, Int.reduceLT, Int.reduceLE, and_self, and_true, true_and, and_false, false_and, or_true, true_or, or_false, false_or, true_or, Option.map_some, cs_up_eq]
  unfold f_X10_findFar b_X10_findFar cs_run
  simp only [cs_L0, Option.bind_some, Option.bind_none, List.getElem?_cons_zero, List.getElem?_cons_succ, List.getElem?_nil, List.set_cons_zero, List.set_cons_succ, List.cons_append, List.nil_append, List.append_nil, List.replicate, List.length_cons, List.length_nil, Nat.reduceAdd, Nat.reduceSub, Nat.zero_add, Nat.sub_self, if_true, if_false, ite_true, ite_false, reduceIte, reduceCtorEq, decide_true, decide_false, decide_eq_true_eq, Bool.not_true, Bool.not_false, Bool.true_and, Bool.false_and, Bool.and_true, Bool.and_false, Bool.true_or, Bool.false_or, Bool.false_eq_true, Bool.true_eq_false, not_true_eq_false, not_false_eq_true, ne_eq, Int.reduceEq, Int.reduceNe, Int.reduceLT, Int.reduceLE, and_self, and_true, true_and, and_false, false_and, or_true, true_or, or_false, false_or, true_or, Option.map_some]
  rw [sq_st g1, sq_st g2, sq_st g3]
  unfold farP s10
  generalize alS σ a b v = AL at *
  generalize dx2 σ a b = LN at *
  generalize trS σ a b (vX σ v) (vY σ v) = T at *
  have hset : ∀ x, cs_set τ 10 (au (au (σ 10) 24 1) 23 x) = cs_set σ 10 (au (au (σ 10) 24 1) 23 x) := fun x => by rw [hτ, cs_set_set]
  by_cases z1 : AL ≤ 0
  · simp only [if_pos z1]
    simp only [cs_run, cs_L0, s_ret, s_retz, s_retv, s_seq, s_set, s_inc, s_put, s_ast, s_zst, s_cst, s_ada, s_if, s_ex, s_cv, s_nop, s_brk, x_ite, x_l, x_k, x_f, x_a, x_ro, x_add, x_sub, x_mul, x_div, x_rem, x_neg, x_call, x_max, x_min, x_abs, g_cons, g_nil, y_lt, y_le, y_gt, y_ge, y_eq, y_ne, y_not, y_and, y_or, y_ite, Option.bind_some, Option.bind_none, List.getElem?_cons_zero, List.getElem?_cons_succ, List.getElem?_nil, List.set_cons_zero, List.set_cons_succ, List.cons_append, List.nil_append, List.append_nil, List.replicate, List.length_cons, List.length_nil, Nat.reduceAdd, Nat.reduceSub, Nat.zero_add, Nat.sub_self, if_true, if_false, ite_true, ite_false, reduceIte, reduceCtorEq, decide_true, decide_false, decide_eq_true_eq, Bool.not_true, Bool.not_false, Bool.true_and, Bool.false_and, Bool.and_true, Bool.and_false, Bool.true_or, Bool.false_or, Bool.false_eq_true, Bool.true_eq_false, not_true_eq_false, not_false_eq_true, ne_eq, Int.reduceEq, Int.reduceNe, Int.reduceLT, Int.reduceLE, and_self, and_true, true_and, and_false, false_and, or_true, true_or, or_false, false_or, true_or, Option.map_some, z1, e2, cs_up_eq, t10, hset]
  · simp only [if_neg z1]
    by_cases z2 : LN ≤ AL
    · simp only [if_pos z2]
      simp only [cs_run, cs_L0, s_ret, s_retz, s_retv, s_seq, s_set, s_inc, s_put, s_ast, s_zst, s_cst, s_ada, s_if, s_ex, s_cv, s_nop, s_brk, x_ite, x_l, x_k, x_f, x_a, x_ro, x_add, x_sub, x_mul, x_div, x_rem, x_neg, x_call, x_max, x_min, x_abs, g_cons, g_nil, y_lt, y_le, y_gt, y_ge, y_eq, y_ne, y_not, y_and, y_or, y_ite, Option.bind_some, Option.bind_none, List.getElem?_cons_zero, List.getElem?_cons_succ, List.getElem?_nil, List.set_cons_zero, List.set_cons_succ, List.cons_append, List.nil_append, List.append_nil, List.replicate, List.length_cons, List.length_nil, Nat.reduceAdd, Nat.reduceSub, Nat.zero_add, Nat.sub_self, if_true, if_false, ite_true, ite_false, reduceIte, reduceCtorEq, decide_true, decide_false, decide_eq_true_eq, Bool.not_true, Bool.not_false, Bool.true_and, Bool.false_and, Bool.and_true, Bool.and_false, Bool.true_or, Bool.false_or, Bool.false_eq_true, Bool.true_eq_false, not_true_eq_false, not_false_eq_true, ne_eq, Int.reduceEq, Int.reduceNe, Int.reduceLT, Int.reduceLE, and_self, and_true, true_and, and_false, false_and, or_true, true_or, or_false, false_or, true_or, Option.map_some, z1, z2, e3, cs_up_eq, t10, hset]
    · simp only [if_neg z2]
      have j1 : cs_InR (T * T) := by omega
      have hfin : cs_set (cs_set σ 10 (au (au (σ 10) 24 1) 23 (T * T))) 10 (au (cs_set σ 10 (au (au (σ 10) 24 1) 23 (T * T)) 10) 24 LN) = cs_set σ 10 (au (au (σ 10) 24 LN) 23 (T * T)) := by
        rw [cs_set_set, cs_set_at]
        congr 1
        funext j
        unfold au
        by_cases q : j = 24
        · simp [q]
        · by_cases q2 : j = 23
          · simp [q2]
          · simp [q, q2]
      simp only [cs_run, cs_L0, s_ret, s_retz, s_retv, s_seq, s_set, s_inc, s_put, s_ast, s_zst, s_cst, s_ada, s_if, s_ex, s_cv, s_nop, s_brk, x_ite, x_l, x_k, x_f, x_a, x_ro, x_add, x_sub, x_mul, x_div, x_rem, x_neg, x_call, x_max, x_min, x_abs, g_cons, g_nil, y_lt, y_le, y_gt, y_ge, y_eq, y_ne, y_not, y_and, y_or, y_ite, Option.bind_some, Option.bind_none, List.getElem?_cons_zero, List.getElem?_cons_succ, List.getElem?_nil, List.set_cons_zero, List.set_cons_succ, List.cons_append, List.nil_append, List.append_nil, List.replicate, List.length_cons, List.length_nil, Nat.reduceAdd, Nat.reduceSub, Nat.zero_add, Nat.sub_self, if_true, if_false, ite_true, ite_false, reduceIte, reduceCtorEq, decide_true, decide_false, decide_eq_true_eq, Bool.not_true, Bool.not_false, Bool.true_and, Bool.false_and, Bool.and_true, Bool.and_false, Bool.true_or, Bool.false_or, Bool.false_eq_true, Bool.true_eq_false, not_true_eq_false, not_false_eq_true, ne_eq, Int.reduceEq, Int.reduceNe, Int.reduceLT, Int.reduceLE, and_self, and_true, true_and, and_false, false_and, or_true, true_or, or_false, false_or, true_or, Option.map_some, z1, z2, e4, cs_chk_ok j1, cs_up_eq, t10, hset, hfin]
