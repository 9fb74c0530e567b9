/-! the reference's search for a side, whole; both say the same -/
def SdI (σ : cs_S) (a b u acc : Int) : Prop := (acc = 1 ∨ acc = 0) ∧ (acc = 1 ↔ ∃ w, (0 ≤ w ∧ w < u) ∧ sidB σ a b w = true)
theorem SdI_step {σ : cs_S} {a b u : Int} {s : Int × Option Int} (hu : 0 ≤ u) (h : SdI σ a b u s.1) : SdI σ a b (u + 1) (sdF σ a b u s).1 := by
  obtain ⟨h1, h2⟩ := h
  unfold sdF
  dsimp only
  by_cases q : s.1 ≠ 0 ∨ sidB σ a b u = true
  · rw [if_pos q]
    refine ⟨Or.inl rfl, ⟨fun _ => ?_, fun _ => rfl⟩⟩
    rcases q with q | q
    · obtain ⟨w, w1, w2⟩ := h2.mp (by omega)
      exact ⟨w, by omega, w2⟩
    · exact ⟨u, by omega, q⟩
  · rw [if_neg q]
    refine ⟨Or.inr rfl, ⟨fun z => by omega, ?_⟩⟩
    rintro ⟨w, w1, w2⟩
    exfalso
    by_cases e : w = u
    · subst e; exact q (Or.inr w2)
    · exact q (Or.inl (by have := h2.mpr ⟨w, by omega, w2⟩; omega))
theorem sdR_row {σ : cs_S} (h : CSo σ) (hR : RR σ) (hP : Pos1 σ) {a b c acc : Int} (ha : 0 ≤ a ∧ a < σ 4 2) (hb : 0 ≤ b ∧ b < σ 4 2) (hc : 0 ≤ c ∧ c < σ 4 1) (o5 o6 : Option Int) (hI : SdI σ a b (σ 15 c.toNat) acc) : ∃ acc' p5 p6, wb_X10_isSideBetween_2 [none, some a, some b, some acc, some c, o5, o6] σ = some (.inl ([none, some a, some b, some acc', some (c + 1), p5, p6], σ)) ∧ SdI σ a b (σ 15 (c.toNat + 1)) acc' := by
  have hbb := h.1
  have h1 := h.2.1 c.toNat (by omega)
  have he := f_endOf h hR hc
  obtain ⟨r1, -⟩ := hR.2.2 c.toNat (by omega)
  have hh := wh_for (c := wc_X10_isSideBetween_1) (b := wb_X10_isSideBetween_1) (fun u (s : Int × Option Int) => [none, some a, some b, some s.1, some c, some u, s.2]) (fun _ => σ) (sdF σ a b) (fun u s => (σ 15 c.toNat ≤ u ∧ u ≤ σ 15 (c.toNat + 1)) ∧ SdI σ a b u s.1) (σ 15 (c.toNat + 1))
    (fun u s _ => by simp only [wc_X10_isSideBetween_1, cs_run, cs_L0, s_ret, s_retz, s_retv, s_seq, s_set, s_inc, s_put, s_ast, s_zst, s_cst, s_ada, s_if, s_ex, s_cv, s_nop, s_brk, x_ite, x_l, x_k, x_f, x_a, x_ro, x_add, x_sub, x_mul, x_div, x_rem, x_neg, x_call, x_max, x_min, x_abs, g_cons, g_nil, y_lt, y_le, y_gt, y_ge, y_eq, y_ne, y_not, y_and, y_or, y_ite, Option.bind_some, Option.bind_none, List.getElem?_cons_zero, List.getElem?_cons_succ, List.getElem?_nil, List.set_cons_zero, List.set_cons_succ, List.cons_append, List.nil_append, List.append_nil, List.replicate, List.length_cons, List.length_nil, Nat.reduceAdd, Nat.reduceSub, Nat.zero_add, Nat.sub_self, if_true, if_false, ite_true, ite_false, reduceIte, reduceCtorEq, decide_true, decide_false, decide_eq_true_eq, Bool.not_true, Bool.not_false, Bool.true_and, Bool.false_and, Bool.and_true, Bool.and_false, Bool.true_or, Bool.false_or, Bool.false_eq_true, Bool.true_eq_false, not_true_eq_false, not_false_eq_true, ne_eq, Int.reduceEq, Int.reduceNe, Int.reduceLT, Int.reduceLE, and_self, and_true, true_and, and_false, false_and, or_true, true_or, or_false, false_or, true_or, Option.map_some, he])
    (fun u s hJ hu => ⟨sdR_body h hR hP ha hb hc ⟨hJ.1.1, hu⟩ s.2, by have := hJ.1; omega, SdI_step (by have := hJ.1; omega) hJ.2⟩)
    (σ 15 (c.toNat + 1) - σ 15 c.toNat).toNat (σ 15 c.toNat) (acc, o6) ⟨by omega, hI⟩ (by omega)
  have hl := hh.1
  have hi := hh.2.2
  generalize fd (sdF σ a b) (σ 15 (c.toNat + 1) - σ 15 c.toNat).toNat (σ 15 c.toNat) (acc, o6) = r at *
  dsimp only at hl
  have c1 : (0 : Int) ≤ c ∧ c < ((256 : Nat) : Int) := by omega
  have c2 : cs_InR (c + 1) := by omega
  have g1 : (s_set 5 (x_a 32 256 (x_l 4))) [none, some a, some b, some acc, some c, o5, o6] σ = some (.inl ([none, some a, some b, some acc, some c, some (σ 15 c.toNat), o6], σ)) := by simp only [cs_run, cs_L0, s_ret, s_retz, s_retv, s_seq, s_set, s_inc, s_put, s_ast, s_zst, s_cst, s_ada, s_if, s_ex, s_cv, s_nop, s_brk, x_ite, x_l, x_k, x_f, x_a, x_ro, x_add, x_sub, x_mul, x_div, x_rem, x_neg, x_call, x_max, x_min, x_abs, g_cons, g_nil, y_lt, y_le, y_gt, y_ge, y_eq, y_ne, y_not, y_and, y_or, y_ite, Option.bind_some, Option.bind_none, List.getElem?_cons_zero, List.getElem?_cons_succ, List.getElem?_nil, List.set_cons_zero, List.set_cons_succ, List.cons_append, List.nil_append, List.append_nil, List.replicate, List.length_cons, List.length_nil, Nat.reduceAdd, Nat.reduceSub, Nat.zero_add, Nat.sub_self, if_true, if_false, ite_true, ite_false, reduceIte, reduceCtorEq, decide_true, decide_false, decide_eq_true_eq, Bool.not_true, Bool.not_false, Bool.true_and, Bool.false_and, Bool.and_true, Bool.and_false, Bool.true_or, Bool.false_or, Bool.false_eq_true, Bool.true_eq_false, not_true_eq_false, not_false_eq_true, ne_eq, Int.reduceEq, Int.reduceNe, Int.reduceLT, Int.reduceLE, and_self, and_true, true_and, and_false, false_and, or_true, true_or, or_false, false_or, true_or, Option.map_some, cs_rd_ok c1, r1]
  refine ⟨r.1, some (σ 15 (c.toNat + 1)), r.2, ?_, hi⟩
  rw [wb_X10_isSideBetween_2, sq_assoc, sq_st g1, w_X10_isSideBetween_1, sq_st hl]
  simp only [cs_run, cs_L0, s_ret, s_retz, s_retv, s_seq, s_set, s_inc, s_put, s_ast, s_zst, s_cst, s_ada, s_if, s_ex, s_cv, s_nop, s_brk, x_ite, x_l, x_k, x_f, x_a, x_ro, x_add, x_sub, x_mul, x_div, x_rem, x_neg, x_call, x_max, x_min, x_abs, g_cons, g_nil, y_lt, y_le, y_gt, y_ge, y_eq, y_ne, y_not, y_and, y_or, y_ite, Option.bind_some, Option.bind_none, List.getElem?_cons_zero, List.getElem?_cons_succ, List.getElem?_nil, List.set_cons_zero, List.set_cons_succ, List.cons_append, List.nil_append, List.append_nil, List.replicate, List.length_cons, List.length_nil, Nat.reduceAdd, Nat.reduceSub, Nat.zero_add, Nat.sub_self, if_true, if_false, ite_true, ite_false, reduceIte, reduceCtorEq, decide_true, decide_false, decide_eq_true_eq, Bool.not_true, Bool.not_false, Bool.true_and, Bool.false_and, Bool.and_true, Bool.and_false, Bool.true_or, Bool.false_or, Bool.false_eq_true, Bool.true_eq_false, not_true_eq_false, not_false_eq_true, ne_eq, Int.reduceEq, Int.reduceNe, Int.reduceLT, Int.reduceLE, and_self, and_true, true_and, and_false, false_and, or_true, true_or, or_false, false_or, true_or, Option.map_some, cs_chk_ok c2]
theorem sdR_run {σ : cs_S} (h : CSo σ) (hR : RR σ) (hP : Pos1 σ) {a b : Int} (ha : 0 ≤ a ∧ a < σ 4 2) (hb : 0 ≤ b ∧ b < σ 4 2) : ∀ (n : Nat) (c acc : Int) (o5 o6 : Option Int), 0 ≤ c → σ 4 1 = c + n → 1 ≤ σ 4 1 → SdI σ a b (σ 15 c.toNat) acc → ∃ r : Int, s_seq w_X10_isSideBetween_2 (s_retz (x_l 3)) [none, some a, some b, some acc, some c, o5, o6] σ = some (.inr (.inl (some r, σ))) ∧ SdI σ a b (σ 4 2) r := by
  intro n
  induction n with
  | zero =>
    intro c acc o5 o6 hc hn h1 hI
    have q : ¬ c < σ 10 7 := by rw [hR.1]; omega
    have hcn : wc_X10_isSideBetween_2 [none, some a, some b, some acc, some c, o5, o6] σ = some (false, σ) := by simp only [wc_X10_isSideBetween_2, cs_run, cs_L0, s_ret, s_retz, s_retv, s_seq, s_set, s_inc, s_put, s_ast, s_zst, s_cst, s_ada, s_if, s_ex, s_cv, s_nop, s_brk, x_ite, x_l, x_k, x_f, x_a, x_ro, x_add, x_sub, x_mul, x_div, x_rem, x_neg, x_call, x_max, x_min, x_abs, g_cons, g_nil, y_lt, y_le, y_gt, y_ge, y_eq, y_ne, y_not, y_and, y_or, y_ite, Option.bind_some, Option.bind_none, List.getElem?_cons_zero, List.getElem?_cons_succ, List.getElem?_nil, List.set_cons_zero, List.set_cons_succ, List.cons_append, List.nil_append, List.append_nil, List.replicate, List.length_cons, List.length_nil, Nat.reduceAdd, Nat.reduceSub, Nat.zero_add, Nat.sub_self, if_true, if_false, ite_true, ite_false, reduceIte, reduceCtorEq, decide_true, decide_false, decide_eq_true_eq, Bool.not_true, Bool.not_false, Bool.true_and, Bool.false_and, Bool.and_true, Bool.and_false, Bool.true_or, Bool.false_or, Bool.false_eq_true, Bool.true_eq_false, not_true_eq_false, not_false_eq_true, ne_eq, Int.reduceEq, Int.reduceNe, Int.reduceLT, Int.reduceLE, and_self, and_true, true_and, and_false, false_and, or_true, true_or, or_false, false_or, true_or, Option.map_some, q]
    refine ⟨acc, ?_, ?_⟩
    · rw [w_X10_isSideBetween_2, sq_no hcn]
      rcases hI.1 with rfl | rfl
      · simp only [cs_run, cs_L0, s_ret, s_retz, s_retv, s_seq, s_set, s_inc, s_put, s_ast, s_zst, s_cst, s_ada, s_if, s_ex, s_cv, s_nop, s_brk, x_ite, x_l, x_k, x_f, x_a, x_ro, x_add, x_sub, x_mul, x_div, x_rem, x_neg, x_call, x_max, x_min, x_abs, g_cons, g_nil, y_lt, y_le, y_gt, y_ge, y_eq, y_ne, y_not, y_and, y_or, y_ite, Option.bind_some, Option.bind_none, List.getElem?_cons_zero, List.getElem?_cons_succ, List.getElem?_nil, List.set_cons_zero, List.set_cons_succ, List.cons_append, List.nil_append, List.append_nil, List.replicate, List.length_cons, List.length_nil, Nat.reduceAdd, Nat.reduceSub, Nat.zero_add, Nat.sub_self, if_true, if_false, ite_true, ite_false, reduceIte, reduceCtorEq, decide_true, decide_false, decide_eq_true_eq, Bool.not_true, Bool.not_false, Bool.true_and, Bool.false_and, Bool.and_true, Bool.and_false, Bool.true_or, Bool.false_or, Bool.false_eq_true, Bool.true_eq_false, not_true_eq_false, not_false_eq_true, ne_eq, Int.reduceEq, Int.reduceNe, Int.reduceLT, Int.reduceLE, and_self, and_true, true_and, and_false, false_and, or_true, true_or, or_false, false_or, true_or, Option.map_some]
      · simp only [cs_run, cs_L0, s_ret, s_retz, s_retv, s_seq, s_set, s_inc, s_put, s_ast, s_zst, s_cst, s_ada, s_if, s_ex, s_cv, s_nop, s_brk, x_ite, x_l, x_k, x_f, x_a, x_ro, x_add, x_sub, x_mul, x_div, x_rem, x_neg, x_call, x_max, x_min, x_abs, g_cons, g_nil, y_lt, y_le, y_gt, y_ge, y_eq, y_ne, y_not, y_and, y_or, y_ite, Option.bind_some, Option.bind_none, List.getElem?_cons_zero, List.getElem?_cons_succ, List.getElem?_nil, List.set_cons_zero, List.set_cons_succ, List.cons_append, List.nil_append, List.append_nil, List.replicate, List.length_cons, List.length_nil, Nat.reduceAdd, Nat.reduceSub, Nat.zero_add, Nat.sub_self, if_true, if_false, ite_true, ite_false, reduceIte, reduceCtorEq, decide_true, decide_false, decide_eq_true_eq, Bool.not_true, Bool.not_false, Bool.true_and, Bool.false_and, Bool.and_true, Bool.and_false, Bool.true_or, Bool.false_or, Bool.false_eq_true, Bool.true_eq_false, not_true_eq_false, not_false_eq_true, ne_eq, Int.reduceEq, Int.reduceNe, Int.reduceLT, Int.reduceLE, and_self, and_true, true_and, and_false, false_and, or_true, true_or, or_false, false_or, true_or, Option.map_some]
    · have e : c.toNat = (σ 4 1).toNat := by omega
      rw [e, h.1.2.2.2.2 h1] at hI
      exact hI
  | succ n ih =>
    intro c acc o5 o6 hc hn h1 hI
    have q : c < σ 10 7 := by rw [hR.1]; omega
    have hcn : wc_X10_isSideBetween_2 [none, some a, some b, some acc, some c, o5, o6] σ = some (true, σ) := by simp only [wc_X10_isSideBetween_2, cs_run, cs_L0, s_ret, s_retz, s_retv, s_seq, s_set, s_inc, s_put, s_ast, s_zst, s_cst, s_ada, s_if, s_ex, s_cv, s_nop, s_brk, x_ite, x_l, x_k, x_f, x_a, x_ro, x_add, x_sub, x_mul, x_div, x_rem, x_neg, x_call, x_max, x_min, x_abs, g_cons, g_nil, y_lt, y_le, y_gt, y_ge, y_eq, y_ne, y_not, y_and, y_or, y_ite, Option.bind_some, Option.bind_none, List.getElem?_cons_zero, List.getElem?_cons_succ, List.getElem?_nil, List.set_cons_zero, List.set_cons_succ, List.cons_append, List.nil_append, List.append_nil, List.replicate, List.length_cons, List.length_nil, Nat.reduceAdd, Nat.reduceSub, Nat.zero_add, Nat.sub_self, if_true, if_false, ite_true, ite_false, reduceIte, reduceCtorEq, decide_true, decide_false, decide_eq_true_eq, Bool.not_true, Bool.not_false, Bool.true_and, Bool.false_and, Bool.and_true, Bool.and_false, Bool.true_or, Bool.false_or, Bool.false_eq_true, Bool.true_eq_false, not_true_eq_false, not_false_eq_true, ne_eq, Int.reduceEq, Int.reduceNe, Int.reduceLT, Int.reduceLE, and_self, and_true, true_and, and_false, false_and, or_true, true_or, or_false, false_or, true_or, Option.map_some, q]
    obtain ⟨acc', p5, p6, e, hI'⟩ := sdR_row h hR hP ha hb (c := c) ⟨hc, by omega⟩ o5 o6 hI
    rw [w_X10_isSideBetween_2, sq_go hcn e]
    exact ih (c + 1) acc' p5 p6 (by omega) (by omega) h1 (by rw [show (c + 1).toNat = c.toNat + 1 by omega]; exact hI')
theorem side_same {σ : cs_S} (h : CSo σ) (hR : RR σ) (hP : Pos1 σ) {a b : Int} (ha : 0 ≤ a ∧ a < σ 4 2) (hb : 0 ≤ b ∧ b < σ 4 2) : ∃ r : Int, (r = 1 ∨ r = 0) ∧ f_X5_hasSideBetween [a, b] σ = some (some r, σ) ∧ f_X10_isSideBetween [a, b] σ = some (some r, σ) := by
  have hbb := h.1
  obtain ⟨r1, e1, o1, i1⟩ := f_hasSide h ha hb
  have hn : 1 ≤ σ 4 1 := by
    apply Classical.byContradiction
    intro q
    have := hbb.2.2.1 (by omega)
    omega
  have h0 : SdI σ a b (σ 15 (0 : Int).toNat) 0 := by
    refine ⟨Or.inr rfl, ⟨fun z => by omega, ?_⟩⟩
    rintro ⟨w, w1, -⟩
    have : σ 15 (0 : Int).toNat = 0 := hbb.2.2.2.1 hn
    omega
  obtain ⟨r2, e2, i2⟩ := sdR_run h hR hP ha hb (σ 4 1).toNat 0 0 none none (Int.le_refl 0) (by omega) hn h0
  have g1 : (s_set 3 (x_k 0)) [none, some a, some b, none, none, none, none] σ = some (.inl ([none, some a, some b, some 0, none, none, none], σ)) := by simp only [cs_run, cs_L0, s_ret, s_retz, s_retv, s_seq, s_set, s_inc, s_put, s_ast, s_zst, s_cst, s_ada, s_if, s_ex, s_cv, s_nop, s_brk, x_ite, x_l, x_k, x_f, x_a, x_ro, x_add, x_sub, x_mul, x_div, x_rem, x_neg, x_call, x_max, x_min, x_abs, g_cons, g_nil, y_lt, y_le, y_gt, y_ge, y_eq, y_ne, y_not, y_and, y_or, y_ite, Option.bind_some, Option.bind_none, List.getElem?_cons_zero, List.getElem?_cons_succ, List.getElem?_nil, List.set_cons_zero, List.set_cons_succ, List.cons_append, List.nil_append, List.append_nil, List.replicate, List.length_cons, List.length_nil, Nat.reduceAdd, Nat.reduceSub, Nat.zero_add, Nat.sub_self, if_true, if_false, ite_true, ite_false, reduceIte, reduceCtorEq, decide_true, decide_false, decide_eq_true_eq, Bool.not_true, Bool.not_false, Bool.true_and, Bool.false_and, Bool.and_true, Bool.and_false, Bool.true_or, Bool.false_or, Bool.false_eq_true, Bool.true_eq_false, not_true_eq_false, not_false_eq_true, ne_eq, Int.reduceEq, Int.reduceNe, Int.reduceLT, Int.reduceLE, and_self, and_true, true_and, and_false, false_and, or_true, true_or, or_false, false_or, true_or, Option.map_some]
  have g2 : (s_set 4 (x_k 0)) [none, some a, some b, some 0, none, none, none] σ = some (.inl ([none, some a, some b, some 0, some 0, none, none], σ)) := by simp only [cs_run, cs_L0, s_ret, s_retz, s_retv, s_seq, s_set, s_inc, s_put, s_ast, s_zst, s_cst, s_ada, s_if, s_ex, s_cv, s_nop, s_brk, x_ite, x_l, x_k, x_f, x_a, x_ro, x_add, x_sub, x_mul, x_div, x_rem, x_neg, x_call, x_max, x_min, x_abs, g_cons, g_nil, y_lt, y_le, y_gt, y_ge, y_eq, y_ne, y_not, y_and, y_or, y_ite, Option.bind_some, Option.bind_none, List.getElem?_cons_zero, List.getElem?_cons_succ, List.getElem?_nil, List.set_cons_zero, List.set_cons_succ, List.cons_append, List.nil_append, List.append_nil, List.replicate, List.length_cons, List.length_nil, Nat.reduceAdd, Nat.reduceSub, Nat.zero_add, Nat.sub_self, if_true, if_false, ite_true, ite_false, reduceIte, reduceCtorEq, decide_true, decide_false, decide_eq_true_eq, Bool.not_true, Bool.not_false, Bool.true_and, Bool.false_and, Bool.and_true, Bool.and_false, Bool.true_or, Bool.false_or, Bool.false_eq_true, Bool.true_eq_false, not_true_eq_false, not_false_eq_true, ne_eq, Int.reduceEq, Int.reduceNe, Int.reduceLT, Int.reduceLE, and_self, and_true, true_and, and_false, false_and, or_true, true_or, or_false, false_or, true_or, Option.map_some]
  have eR : f_X10_isSideBetween [a, b] σ = some (some r2, σ) := by
    unfold f_X10_isSideBetween b_X10_isSideBetween cs_run
    simp only [cs_L0, Option.bind_some, Option.bind_none, List.getElem?_cons_zero, List.getElem?_cons_succ, List.getElem?_nil, List.set_cons_zero, List.set_cons_succ, List.cons_append, List.nil_append, List.append_nil, List.replicate, List.length_cons, List.length_nil, Nat.reduceAdd, Nat.reduceSub, Nat.zero_add, Nat.sub_self, if_true, if_false, ite_true, ite_false, reduceIte, reduceCtorEq, decide_true, decide_false, decide_eq_true_eq, Bool.not_true, Bool.not_false, Bool.true_and, Bool.false_and, Bool.and_true, Bool.and_false, Bool.true_or, Bool.false_or, Bool.false_eq_true, Bool.true_eq_false, not_true_eq_false, not_false_eq_true, ne_eq, Int.reduceEq, Int.reduceNe, Int.reduceLT, Int.reduceLE, and_self, and_true, true_and, and_false, false_and, or_true, true_or, or_false, false_or, true_or, Option.map_some]
    rw [sq_st g1, sq_assoc, sq_st g2, e2]
  have key : r1 = 1 ↔ r2 = 1 := by rw [i1, i2.2]
  have o2 := i2.1
  have : r1 = r2 := by omega
  exact ⟨r1, o1, e1, by rw [this]; exact eR⟩
