/-! the number of arrows of a contour -/
def len4 (x y x' y' : Int) : Int := iab (x' - x) + iab (y' - y)
theorem len4_add : AddF len4 := by
  refine ⟨fun x y => by simp [len4, iab], fun x y d k h1 h2 => ?_⟩
  have hk : ((k : Int) + 1) * 1 = k + 1 := by omega
  rcases sxy d h1 h2 with ⟨a, b⟩ | ⟨a, b⟩ | ⟨a, b⟩ | ⟨a, b⟩ <;> rw [a, b] <;> unfold len4 iab <;> simp <;> omega
def wlS (σ : cs_S) (v : Int) : Int := len4 (vX σ v) (vY σ v) (vX σ (nx (fs σ v) (es σ v) v)) (vY σ (nx (fs σ v) (es σ v) v))
theorem iab_b {z : Int} {B : Int} (h : -B ≤ z ∧ z ≤ B) : 0 ≤ iab z ∧ iab z ≤ B := by unfold iab; omega
theorem f_wayLength {σ : cs_S} (h : CSo σ) {v : Int} (hv : 0 ≤ v ∧ v < σ 4 2) : f_X1_wayLength [v] σ = some (some (wlS σ v), σ) ∧ 0 ≤ wlS σ v ∧ wlS σ v ≤ 28 := by
  obtain ⟨h1, h2, h3⟩ := own_in h hv
  have hb := h.1
  have ht := f_tracedAfter h hv
  have hin := nx_in h3
  unfold wlS
  generalize nx (fs σ v) (es σ v) v = u at *
  obtain ⟨a1, a2⟩ := vXY h hv
  obtain ⟨b1, b2⟩ := vXY h (v := u) (by omega)
  unfold len4
  have i1 := iab_b (z := vX σ u - vX σ v) (B := 16) (by omega)
  have i2 := iab_b (z := vY σ u - vY σ v) (B := 12) (by omega)
  refine ⟨?_, by omega, by omega⟩
  unfold vX vY iab at *
  have n1 : (if 0 ≤ σ 21 u.toNat - σ 21 v.toNat then σ 21 u.toNat - σ 21 v.toNat else 0 - (σ 21 u.toNat - σ 21 v.toNat)) = ((σ 21 u.toNat - σ 21 v.toNat).natAbs : Int) := by split <;> omega
  have n2 : (if 0 ≤ σ 22 u.toNat - σ 22 v.toNat then σ 22 u.toNat - σ 22 v.toNat else 0 - (σ 22 u.toNat - σ 22 v.toNat)) = ((σ 22 u.toNat - σ 22 v.toNat).natAbs : Int) := by split <;> omega
  have c1 : (0 : Int) ≤ v ∧ v < ((442 : Nat) : Int) := by omega
  have c2 : (0 : Int) ≤ u ∧ u < ((442 : Nat) : Int) := by omega
  have c3 : cs_InR (σ 21 u.toNat - σ 21 v.toNat) := by omega
  have c4 : cs_InR (σ 22 u.toNat - σ 22 v.toNat) := by omega
  have c5 : cs_InR ((if 0 ≤ σ 21 u.toNat - σ 21 v.toNat then σ 21 u.toNat - σ 21 v.toNat else 0 - (σ 21 u.toNat - σ 21 v.toNat)) + (if 0 ≤ σ 22 u.toNat - σ 22 v.toNat then σ 22 u.toNat - σ 22 v.toNat else 0 - (σ 22 u.toNat - σ 22 v.toNat))) := by rw [n1, n2]; omega
  have c6 : cs_InR (if 0 ≤ σ 21 u.toNat - σ 21 v.toNat then σ 21 u.toNat - σ 21 v.toNat else 0 - (σ 21 u.toNat - σ 21 v.toNat)) := by rw [n1]; omega
  have c7 : cs_InR (if 0 ≤ σ 22 u.toNat - σ 22 v.toNat then σ 22 u.toNat - σ 22 v.toNat else 0 - (σ 22 u.toNat - σ 22 v.toNat)) := by rw [n2]; omega
  rw [← n1, ← n2]
  have d3 : cs_InR (0 - (σ 21 u.toNat - σ 21 v.toNat)) := by omega
  have d4 : cs_InR (0 - (σ 22 u.toNat - σ 22 v.toNat)) := by omega
  simp only [f_X1_wayLength, b_X1_wayLength, cs_run, cs_L0, s_ret, s_retz, s_retv, s_seq, s_set, s_inc, s_put, s_ast, s_zst, s_cst, s_ada, s_if, s_ex, s_cv, s_nop, s_brk, x_ite, x_l, x_k, x_f, x_a, x_ro, x_add, x_sub, x_mul, x_div, x_rem, x_neg, x_call, x_max, x_min, x_abs, g_cons, g_nil, y_lt, y_le, y_gt, y_ge, y_eq, y_ne, y_not, y_and, y_or, y_ite, Option.bind_some, Option.bind_none, List.getElem?_cons_zero, List.getElem?_cons_succ, List.getElem?_nil, List.set_cons_zero, List.set_cons_succ, List.cons_append, List.nil_append, List.append_nil, List.replicate, List.length_cons, List.length_nil, Nat.reduceAdd, Nat.reduceSub, Nat.zero_add, Nat.sub_self, if_true, if_false, ite_true, ite_false, reduceIte, reduceCtorEq, decide_true, decide_false, decide_eq_true_eq, Bool.not_true, Bool.not_false, Bool.true_and, Bool.false_and, Bool.and_true, Bool.and_false, Bool.true_or, Bool.false_or, Bool.false_eq_true, Bool.true_eq_false, not_true_eq_false, not_false_eq_true, ne_eq, Int.reduceEq, Int.reduceNe, Int.reduceLT, Int.reduceLE, and_self, and_true, true_and, and_false, false_and, or_true, true_or, or_false, false_or, true_or, Option.map_some, ht, cs_rd_ok c1, cs_rd_ok c2, cs_chk_ok c3, cs_chk_ok c4, cs_chk_ok c6, cs_chk_ok c7, cs_chk_ok c5, cs_chk_ok d3, cs_chk_ok d4]
def arwS (σ : cs_S) (c : Int) : Int := sm (fun j => wlS σ (σ 15 c.toNat + j)) (σ 15 (c.toNat + 1) - σ 15 c.toNat).toNat
theorem f_arrowCount {σ : cs_S} (h : CSo σ) {c : Int} (hc : 0 ≤ c ∧ c < σ 4 1) : f_X1_arrowCount [c] σ = some (some (arwS σ c), σ) := by
  have hb := h.1
  have hc1 := h.2.1 c.toNat (by omega)
  have e1 : (c + 1).toNat = c.toNat + 1 := by omega
  obtain ⟨hl, -, -⟩ := wh_sum (c := wc_X1_arrowCount_1) (b := wb_X1_arrowCount_1) (fun k a => [none, some c, some a, some k]) σ (wlS σ) (σ 15 c.toNat) (σ 15 (c.toNat + 1)) (by omega)
    (fun k a hk => by simp (disch := omega) only [cs_run, cs_L0, s_ret, s_retz, s_retv, s_seq, s_set, s_inc, s_put, s_ast, s_zst, s_cst, s_ada, s_if, s_ex, s_cv, s_nop, s_brk, x_ite, x_l, x_k, x_f, x_a, x_ro, x_add, x_sub, x_mul, x_div, x_rem, x_neg, x_call, x_max, x_min, x_abs, g_cons, g_nil, y_lt, y_le, y_gt, y_ge, y_eq, y_ne, y_not, y_and, y_or, y_ite, Option.bind_some, Option.bind_none, List.getElem?_cons_zero, List.getElem?_cons_succ, List.getElem?_nil, List.set_cons_zero, List.set_cons_succ, List.cons_append, List.nil_append, List.append_nil, List.replicate, List.length_cons, List.length_nil, Nat.reduceAdd, Nat.reduceSub, Nat.zero_add, Nat.sub_self, if_true, if_false, ite_true, ite_false, reduceIte, reduceCtorEq, decide_true, decide_false, decide_eq_true_eq, Bool.not_true, Bool.not_false, Bool.true_and, Bool.false_and, Bool.and_true, Bool.and_false, Bool.true_or, Bool.false_or, Bool.false_eq_true, Bool.true_eq_false, not_true_eq_false, not_false_eq_true, ne_eq, Int.reduceEq, Int.reduceNe, Int.reduceLT, Int.reduceLE, and_self, and_true, true_and, and_false, false_and, or_true, true_or, or_false, false_or, true_or, Option.map_some, cs_chk_ok, cs_rd_ok, cs_wr_ok, wc_X1_arrowCount_1, e1])
    (fun k h1 h2 => by have := (f_wayLength h (v := k) (by omega)).2; omega)
    (fun k a hk1 hk2 ha1 ha2 => by
      obtain ⟨hf, w1, w2⟩ := f_wayLength h (v := k) (by omega)
      have c2 : cs_InR (k + 1) := by omega
      have c3 : cs_InR (a + wlS σ k) := by omega
      simp only [wb_X1_arrowCount_1, cs_run, cs_L0, s_ret, s_retz, s_retv, s_seq, s_set, s_inc, s_put, s_ast, s_zst, s_cst, s_ada, s_if, s_ex, s_cv, s_nop, s_brk, x_ite, x_l, x_k, x_f, x_a, x_ro, x_add, x_sub, x_mul, x_div, x_rem, x_neg, x_call, x_max, x_min, x_abs, g_cons, g_nil, y_lt, y_le, y_gt, y_ge, y_eq, y_ne, y_not, y_and, y_or, y_ite, Option.bind_some, Option.bind_none, List.getElem?_cons_zero, List.getElem?_cons_succ, List.getElem?_nil, List.set_cons_zero, List.set_cons_succ, List.cons_append, List.nil_append, List.append_nil, List.replicate, List.length_cons, List.length_nil, Nat.reduceAdd, Nat.reduceSub, Nat.zero_add, Nat.sub_self, if_true, if_false, ite_true, ite_false, reduceIte, reduceCtorEq, decide_true, decide_false, decide_eq_true_eq, Bool.not_true, Bool.not_false, Bool.true_and, Bool.false_and, Bool.and_true, Bool.and_false, Bool.true_or, Bool.false_or, Bool.false_eq_true, Bool.true_eq_false, not_true_eq_false, not_false_eq_true, ne_eq, Int.reduceEq, Int.reduceNe, Int.reduceLT, Int.reduceLE, and_self, and_true, true_and, and_false, false_and, or_true, true_or, or_false, false_or, true_or, Option.map_some, hf, cs_chk_ok c2, cs_chk_ok c3])
  unfold arwS
  generalize sm (fun j : Nat => wlS σ (σ 15 c.toNat + j)) (σ 15 (c.toNat + 1) - σ 15 c.toNat).toNat = r at *
  have g1 : (s_set 2 (x_k 0)) [none, some c, none, none] σ = some (.inl ([none, some c, some 0, none], σ)) := by simp only [cs_run, cs_L0, s_ret, s_retz, s_retv, s_seq, s_set, s_inc, s_put, s_ast, s_zst, s_cst, s_ada, s_if, s_ex, s_cv, s_nop, s_brk, x_ite, x_l, x_k, x_f, x_a, x_ro, x_add, x_sub, x_mul, x_div, x_rem, x_neg, x_call, x_max, x_min, x_abs, g_cons, g_nil, y_lt, y_le, y_gt, y_ge, y_eq, y_ne, y_not, y_and, y_or, y_ite, Option.bind_some, Option.bind_none, List.getElem?_cons_zero, List.getElem?_cons_succ, List.getElem?_nil, List.set_cons_zero, List.set_cons_succ, List.cons_append, List.nil_append, List.append_nil, List.replicate, List.length_cons, List.length_nil, Nat.reduceAdd, Nat.reduceSub, Nat.zero_add, Nat.sub_self, if_true, if_false, ite_true, ite_false, reduceIte, reduceCtorEq, decide_true, decide_false, decide_eq_true_eq, Bool.not_true, Bool.not_false, Bool.true_and, Bool.false_and, Bool.and_true, Bool.and_false, Bool.true_or, Bool.false_or, Bool.false_eq_true, Bool.true_eq_false, not_true_eq_false, not_false_eq_true, ne_eq, Int.reduceEq, Int.reduceNe, Int.reduceLT, Int.reduceLE, and_self, and_true, true_and, and_false, false_and, or_true, true_or, or_false, false_or, true_or, Option.map_some]
  have g2 : (s_set 3 (x_a 15 111 (x_l 1))) [none, some c, some 0, none] σ = some (.inl ([none, some c, some 0, some (σ 15 c.toNat)], σ)) := by simp (disch := omega) only [cs_run, cs_L0, s_ret, s_retz, s_retv, s_seq, s_set, s_inc, s_put, s_ast, s_zst, s_cst, s_ada, s_if, s_ex, s_cv, s_nop, s_brk, x_ite, x_l, x_k, x_f, x_a, x_ro, x_add, x_sub, x_mul, x_div, x_rem, x_neg, x_call, x_max, x_min, x_abs, g_cons, g_nil, y_lt, y_le, y_gt, y_ge, y_eq, y_ne, y_not, y_and, y_or, y_ite, Option.bind_some, Option.bind_none, List.getElem?_cons_zero, List.getElem?_cons_succ, List.getElem?_nil, List.set_cons_zero, List.set_cons_succ, List.cons_append, List.nil_append, List.append_nil, List.replicate, List.length_cons, List.length_nil, Nat.reduceAdd, Nat.reduceSub, Nat.zero_add, Nat.sub_self, if_true, if_false, ite_true, ite_false, reduceIte, reduceCtorEq, decide_true, decide_false, decide_eq_true_eq, Bool.not_true, Bool.not_false, Bool.true_and, Bool.false_and, Bool.and_true, Bool.and_false, Bool.true_or, Bool.false_or, Bool.false_eq_true, Bool.true_eq_false, not_true_eq_false, not_false_eq_true, ne_eq, Int.reduceEq, Int.reduceNe, Int.reduceLT, Int.reduceLE, and_self, and_true, true_and, and_false, false_and, or_true, true_or, or_false, false_or, true_or, Option.map_some, cs_chk_ok, cs_rd_ok, cs_wr_ok, cs_up_eq]
  unfold f_X1_arrowCount b_X1_arrowCount cs_run
  simp only [cs_L0, Option.bind_some, Option.bind_none, List.getElem?_cons_zero, List.getElem?_cons_succ, List.getElem?_nil, List.set_cons_zero, List.set_cons_succ, List.cons_append, List.nil_append, List.append_nil, List.replicate, List.length_cons, List.length_nil, Nat.reduceAdd, Nat.reduceSub, Nat.zero_add, Nat.sub_self, if_true, if_false, ite_true, ite_false, reduceIte, reduceCtorEq, decide_true, decide_false, decide_eq_true_eq, Bool.not_true, Bool.not_false, Bool.true_and, Bool.false_and, Bool.and_true, Bool.and_false, Bool.true_or, Bool.false_or, Bool.false_eq_true, Bool.true_eq_false, not_true_eq_false, not_false_eq_true, ne_eq, Int.reduceEq, Int.reduceNe, Int.reduceLT, Int.reduceLE, and_self, and_true, true_and, and_false, false_and, or_true, true_or, or_false, false_or, true_or, Option.map_some]
  rw [sq_st g1, sq_assoc, sq_st g2, w_X1_arrowCount_1, sq_st hl]
  simp only [cs_run, cs_L0, s_ret, s_retz, s_retv, s_seq, s_set, s_inc, s_put, s_ast, s_zst, s_cst, s_ada, s_if, s_ex, s_cv, s_nop, s_brk, x_ite, x_l, x_k, x_f, x_a, x_ro, x_add, x_sub, x_mul, x_div, x_rem, x_neg, x_call, x_max, x_min, x_abs, g_cons, g_nil, y_lt, y_le, y_gt, y_ge, y_eq, y_ne, y_not, y_and, y_or, y_ite, Option.bind_some, Option.bind_none, List.getElem?_cons_zero, List.getElem?_cons_succ, List.getElem?_nil, List.set_cons_zero, List.set_cons_succ, List.cons_append, List.nil_append, List.append_nil, List.replicate, List.length_cons, List.length_nil, Nat.reduceAdd, Nat.reduceSub, Nat.zero_add, Nat.sub_self, if_true, if_false, ite_true, ite_false, reduceIte, reduceCtorEq, decide_true, decide_false, decide_eq_true_eq, Bool.not_true, Bool.not_false, Bool.true_and, Bool.false_and, Bool.and_true, Bool.and_false, Bool.true_or, Bool.false_or, Bool.false_eq_true, Bool.true_eq_false, not_true_eq_false, not_false_eq_true, ne_eq, Int.reduceEq, Int.reduceNe, Int.reduceLT, Int.reduceLE, and_self, and_true, true_and, and_false, false_and, or_true, true_or, or_false, false_or, true_or, Option.map_some]
/-- a sum over the sides of a contour, vertex by vertex -/
theorem csum_sm {σ : cs_S} (h : CSo σ) (hF : Full σ) {c : Nat} (hc : (c : Int) < σ 4 1) (φ : Int → Int → Int → Int → Int) : csum φ (σ 21) (σ 22) (σ 15 c).toNat (σ 15 (c + 1)).toNat = sm (fun j => φ (vX σ (σ 15 c + j)) (vY σ (σ 15 c + j)) (vX σ (nx (fs σ (σ 15 c + j)) (es σ (σ 15 c + j)) (σ 15 c + j))) (vY σ (nx (fs σ (σ 15 c + j)) (es σ (σ 15 c + j)) (σ 15 c + j)))) (σ 15 (c + 1) - σ 15 c).toNat := by
  have h1 := h.2.1 c hc
  have h2 := hF c hc
  have hfs : ∀ j : Nat, (j : Int) < σ 15 (c + 1) - σ 15 c → fs σ (σ 15 c + j) = σ 15 c ∧ es σ (σ 15 c + j) = σ 15 (c + 1) := by
    intro j hj
    have := own_eq h (c := (c : Int)) (u := σ 15 c + j) ⟨by omega, hc⟩ (by simp; omega) (by simp; omega)
    unfold fs es
    rw [this]
    simp
  obtain ⟨m, hm⟩ : ∃ m : Nat, (σ 15 (c + 1) - σ 15 c).toNat = m + 1 := ⟨(σ 15 (c + 1) - σ 15 c).toNat - 1, by omega⟩
  unfold csum vsum
  rw [hm, sm, show (σ 15 (c + 1)).toNat - 1 - (σ 15 c).toNat = m by omega]
  congr 1
  · refine sm_congr (fun j hj => ?_)
    obtain ⟨e1, e2⟩ := hfs j (by omega)
    rw [e1, e2]
    have : nx (σ 15 c) (σ 15 (c + 1)) (σ 15 c + j) = σ 15 c + j + 1 := by unfold nx; rw [if_pos (by omega)]
    rw [this]
    unfold vX vY
    rw [show (σ 15 c + (j : Int)).toNat = (σ 15 c).toNat + j by omega, show (σ 15 c + (j : Int) + 1).toNat = (σ 15 c).toNat + j + 1 by omega]
  · obtain ⟨e1, e2⟩ := hfs m (by omega)
    rw [e1, e2]
    have : nx (σ 15 c) (σ 15 (c + 1)) (σ 15 c + m) = σ 15 c := by unfold nx; rw [if_neg (by omega)]
    rw [this]
    unfold vX vY
    rw [show (σ 15 c + (m : Int)).toNat = (σ 15 (c + 1)).toNat - 1 by omega]
theorem asum_len {ins : Int → Int → Bool} {pt : Int} (hpt : pt = 1 ∨ pt = 3) {s : Arw} (hs : Vld ins s) : ∀ n : Nat, asum ins pt len4 s n = n
  | 0 => rfl
  | n + 1 => by
    have ih := asum_len hpt hs n
    unfold asum at ih ⊢
    rw [sm, ih, itr_succ]
    have hv := (itr_vld hpt hs n).1
    unfold stp len4 iab
    rcases sxy _ hv.1 hv.2 with ⟨a, b⟩ | ⟨a, b⟩ | ⟨a, b⟩ | ⟨a, b⟩ <;> dsimp only <;> rw [a, b] <;> simp <;> omega
/-- a done contour has as many arrows as its sides are long -/
theorem CD_arrows {ins : Int → Int → Bool} {pt : Int} (hpt : pt = 1 ∨ pt = 3) {σ : cs_S} (h : CSo σ) (hF : Full σ) {c : Nat} (hc : (c : Int) < σ 4 1) {s : Arw} {n : Nat} (hd : CD ins pt σ c s n) : (n : Int) = arwS σ c := by
  have := hd.2.2.2 len4 len4_add
  rw [asum_len hpt hd.1.1, csum_sm h hF hc] at this
  rw [this]
  rfl
