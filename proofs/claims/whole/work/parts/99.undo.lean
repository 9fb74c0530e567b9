/-! undo -/
def utC (σ : cs_S) (v : Int) : cs_S := turnC (cs_set σ 8 (au (au (σ 8) 1 ((σ 8 1 - 1) % 600)) 2 (σ 8 2 - 1))) v
def utR (σ : cs_S) (v : Int) : cs_S := cs_set (cs_set σ 10 (au (σ 10) 19 (σ 10 19 - 1))) 39 (tg (σ 39) v.toNat)
theorem CPr_cg {σ τ : cs_S} (h4 : τ 4 = σ 4) (h16 : τ 16 = σ 16) (h20 : τ 20 = σ 20) (h21 : τ 21 = σ 21) (h22 : τ 22 = σ 22) (h23 : τ 23 = σ 23) (h24 : τ 24 = σ 24) (h : CPr σ) : CPr τ := (CPr_congr h4 h16 h20 h21 h22 h23 h24).mpr h
theorem SimJ_undo {σ : cs_S} (hJ : SimJ σ) (hs : 0 < σ 8 2) : SimJ (mx cA (utC σ (σ 41 (σ 8 2 - 1).toNat)) (utR σ (σ 41 (σ 8 2 - 1).toNat))) ∧ Kp (mx cA (utC σ (σ 41 (σ 8 2 - 1).toNat)) (utR σ (σ 41 (σ 8 2 - 1).toNat))) σ := by
  obtain ⟨h, h2, hR, ⟨⟨s1, s2⟩, s3, s4, s5⟩, hH⟩ := hJ
  have hv := s5 (σ 8 2 - 1).toNat (by omega)
  have hHv : Hs (okP (σ 15) (σ 4 1)) (σ 41) (σ 8 2 - 1).toNat (tg (σ 23) (σ 41 (σ 8 2 - 1).toNat).toNat) := by
    unfold HiJ at hH
    rw [show (σ 8 2).toNat = (σ 8 2 - 1).toNat + 1 by omega] at hH
    exact hH.2
  generalize hvv : σ 41 (σ 8 2 - 1).toNat = v at *
  obtain ⟨κ, hκ⟩ : ∃ κ, κ = cs_set σ 8 (au (au (σ 8) 1 ((σ 8 1 - 1) % 600)) 2 (σ 8 2 - 1)) := ⟨_, rfl⟩
  have k8 : κ 8 = au (au (σ 8) 1 ((σ 8 1 - 1) % 600)) 2 (σ 8 2 - 1) := by rw [hκ, cs_set_at]
  have ko : ∀ q, q ≠ 8 → κ q = σ q := fun q n => by rw [hκ, cs_set_ne n]
  have hC : CSo κ := (CSo_congr (ko 4 (by decide)) (ko 15 (by decide)) (ko 20 (by decide)) (ko 21 (by decide)) (ko 22 (by decide))).mpr h
  have hC2 : CPr κ := CPr_cg (ko 4 (by decide)) (ko 16 (by decide)) (ko 20 (by decide)) (ko 21 (by decide)) (ko 22 (by decide)) (ko 23 (by decide)) (ko 24 (by decide)) h2
  have hT := turnC_CPr hC hC2 (v := v) (by rw [ko 4 (by decide)]; exact hv)
  have hT0 : CSo (turnC κ v) := turnC_CSo.mpr hC
  have t12 := turnC_12 κ v
  have tv := turnC_v κ v
  unfold utC
  rw [← hκ]
  have at' : ∀ q, cA q = true → mx cA (turnC κ v) (utR σ v) q = turnC κ v q := fun q hq => mx_at hq
  have to : ∀ q, cA q = true → q ≠ 23 → q ≠ 4 → q ≠ 16 → q ≠ 24 → q ≠ 8 → mx cA (turnC κ v) (utR σ v) q = σ q := fun q hq n1 n2 n3 n4 n5 => by rw [mx_at hq, turnC_o ⟨n1, n2, n3, n4⟩, ko q n5]
  have r10 : mx cA (turnC κ v) (utR σ v) 10 = au (σ 10) 19 (σ 10 19 - 1) := by rw [mx_off rfl]; unfold utR; rw [cs_set_ne (by decide), cs_set_at]
  have r39 : mx cA (turnC κ v) (utR σ v) 39 = tg (σ 39) v.toNat := by rw [mx_off rfl]; unfold utR; rw [cs_set_at]
  have ro : ∀ q, cA q = false → q ≠ 10 → q ≠ 39 → mx cA (turnC κ v) (utR σ v) q = σ q := fun q hq n1 n2 => by rw [mx_off hq]; unfold utR; rw [cs_set_ne n2, cs_set_ne n1]
  have c4 := at' 4 rfl
  have c8 := at' 8 rfl
  rw [turnC_o (by decide), k8] at c8
  have c16 := at' 16 rfl
  have c23 := at' 23 rfl
  rw [tv.1, ko 23 (by decide)] at c23
  have c24 := at' 24 rfl
  have o15 := to 15 rfl (by decide) (by decide) (by decide) (by decide) (by decide)
  have o20 := to 20 rfl (by decide) (by decide) (by decide) (by decide) (by decide)
  have o21 := to 21 rfl (by decide) (by decide) (by decide) (by decide) (by decide)
  have o22 := to 22 rfl (by decide) (by decide) (by decide) (by decide) (by decide)
  have o27 := to 27 rfl (by decide) (by decide) (by decide) (by decide) (by decide)
  have o41 := ro 41 rfl (by decide) (by decide)
  rw [ko 4 (by decide)] at t12
  generalize mx cA (turnC κ v) (utR σ v) = ρ at *
  have a1 : ρ 4 1 = σ 4 1 := by rw [c4, t12.1]
  have a2 : ρ 4 2 = σ 4 2 := by rw [c4, t12.2]
  have e82 : ρ 8 2 = σ 8 2 - 1 := by rw [c8, au_at]
  have e81 : ρ 8 1 = (σ 8 1 - 1) % 600 := by rw [c8, au_ne (by decide), au_at]
  refine ⟨⟨(CSo_cg a1 a2 o15 o20 o21 o22).mpr h, ?_, ?_, ⟨⟨?_, ?_⟩, ?_, ?_, ?_⟩, ?_⟩, ?_, ?_, ?_⟩
  · exact CPr_cg (σ := turnC κ v) c4 c16 (by rw [o20, turnC_o (by decide), ko 20 (by decide)]) (by rw [o21, turnC_o (by decide), ko 21 (by decide)]) (by rw [o22, turnC_o (by decide), ko 22 (by decide)]) (by rw [c23, tv.1, ko 23 (by decide)]) c24 hT
  · refine RR_cg (σ := σ) a1 a2 (by rw [r10, au_ne (by decide)]) (by rw [r10, au_ne (by decide)]) o15 o21 o22 (ro 32 rfl (by decide) (by decide)) (ro 33 rfl (by decide) (by decide)) (ro 37 rfl (by decide) (by decide)) (ro 38 rfl (by decide) (by decide)) hR (fun u hu => ?_)
    rw [r39, c23]
    have e1 := (hR.2.1.2 u hu).2.2
    have e2 := (hR.2.1.2 v.toNat (by omega)).2.2
    unfold tg au
    by_cases q : u = v.toNat
    · rw [if_pos q, if_pos q, e2]
    · rw [if_neg q, if_neg q, e1]
  · rw [e81]; exact em_lt _
  · rw [e82]; omega
  · rw [r10, au_at, e82, s3]
  · intro j h0 hj
    rw [e82] at hj ⊢
    rw [e81, o27, o41]
    have := s4 (j + 1) (by omega) (by omega)
    rw [show ((σ 8 1 - 1) % 600 - 1 - j) % 600 = (σ 8 1 - 1 - (j + 1)) % 600 by omega, this]
    congr 1
    omega
  · intro k hk
    rw [e82] at hk
    rw [o41, a2]
    exact s5 k (by omega)
  · unfold HiJ
    rw [o15, a1, o41, c23, e82]
    exact hHv
  · intro q n1 n2 n3 n4 n5 n6 n7 n8 n9 n10 n11
    cases hq : cA q
    · exact ro q hq n8 n9
    · exact to q hq n4 n1 n3 n5 n2
  · intro k hk
    rw [c4, tv.2.1, au_ne hk, ko 4 (by decide)]
  · intro k hk
    rw [r10, au_ne hk]
theorem Two_undo {σ : cs_S} (hJ : SimJ σ) : Two f_X9_undo f_X10_undo [] σ (fun ρ => SimJ ρ ∧ Kp ρ σ) := by
  obtain ⟨h, h2, hR, ⟨⟨s1, s2⟩, s3, s4, s5⟩, hH⟩ := id hJ
  have hb := h.1
  by_cases q : σ 8 2 = 0
  · have q' : σ 10 19 = 0 := by omega
    refine ⟨-1006, σ, σ, ?_, ?_, ?_⟩
    · simp only [f_X9_undo, b_X9_undo, f_X5_takeBack, b_X5_takeBack, f_X6_takeLatest, b_X6_takeLatest, cs_run, cs_L0, s_ret, s_retz, s_retv, s_seq, s_set, s_inc, s_put, s_ast, s_zst, s_cst, s_ada, s_if, s_ex, s_cv, s_nop, s_brk, x_ite, x_l, x_k, x_f, x_a, x_ro, x_add, x_sub, x_mul, x_div, x_rem, x_neg, x_call, x_max, x_min, x_abs, g_cons, g_nil, y_lt, y_le, y_gt, y_ge, y_eq, y_ne, y_not, y_and, y_or, y_ite, Option.bind_some, Option.bind_none, List.getElem?_cons_zero, List.getElem?_cons_succ, List.getElem?_nil, List.set_cons_zero, List.set_cons_succ, List.cons_append, List.nil_append, List.append_nil, List.replicate, List.length_cons, List.length_nil, Nat.reduceAdd, Nat.reduceSub, Nat.zero_add, Nat.sub_self, if_true, if_false, ite_true, ite_false, reduceIte, reduceCtorEq, decide_true, decide_false, decide_eq_true_eq, Bool.not_true, Bool.not_false, Bool.true_and, Bool.false_and, Bool.and_true, Bool.and_false, Bool.true_or, Bool.false_or, Bool.false_eq_true, Bool.true_eq_false, not_true_eq_false, not_false_eq_true, ne_eq, Int.reduceEq, Int.reduceNe, Int.reduceLT, Int.reduceLE, and_self, and_true, true_and, and_false, false_and, or_true, true_or, or_false, false_or, true_or, Option.map_some, q]
    · simp only [f_X10_undo, b_X10_undo, cs_run, cs_L0, s_ret, s_retz, s_retv, s_seq, s_set, s_inc, s_put, s_ast, s_zst, s_cst, s_ada, s_if, s_ex, s_cv, s_nop, s_brk, x_ite, x_l, x_k, x_f, x_a, x_ro, x_add, x_sub, x_mul, x_div, x_rem, x_neg, x_call, x_max, x_min, x_abs, g_cons, g_nil, y_lt, y_le, y_gt, y_ge, y_eq, y_ne, y_not, y_and, y_or, y_ite, Option.bind_some, Option.bind_none, List.getElem?_cons_zero, List.getElem?_cons_succ, List.getElem?_nil, List.set_cons_zero, List.set_cons_succ, List.cons_append, List.nil_append, List.append_nil, List.replicate, List.length_cons, List.length_nil, Nat.reduceAdd, Nat.reduceSub, Nat.zero_add, Nat.sub_self, if_true, if_false, ite_true, ite_false, reduceIte, reduceCtorEq, decide_true, decide_false, decide_eq_true_eq, Bool.not_true, Bool.not_false, Bool.true_and, Bool.false_and, Bool.and_true, Bool.and_false, Bool.true_or, Bool.false_or, Bool.false_eq_true, Bool.true_eq_false, not_true_eq_false, not_false_eq_true, ne_eq, Int.reduceEq, Int.reduceNe, Int.reduceLT, Int.reduceLE, and_self, and_true, true_and, and_false, false_and, or_true, true_or, or_false, false_or, true_or, Option.map_some, q']
    · rw [mx_same]; exact ⟨hJ, Kp_r σ⟩
  · have hv := s5 (σ 8 2 - 1).toNat (by omega)
    have hj := SimJ_undo hJ (by omega)
    have hring := s4 0 (by omega) (by omega)
    rw [show σ 8 1 - 1 - 0 = σ 8 1 - 1 by omega, show σ 8 2 - 1 - 0 = σ 8 2 - 1 by omega] at hring
    refine ⟨σ 8 2 - 1, utC σ (σ 41 (σ 8 2 - 1).toNat), utR σ (σ 41 (σ 8 2 - 1).toNat), ?_, ?_, hj⟩
    · have d1 : cs_InR (σ 8 1 - 1) := by omega
      have d2 : cs_InR (σ 8 2 - 1) := by omega
      have g1 : (s_put 8 1 (x_ite (y_gt (x_f 8 1) (x_k 0)) (x_sub (x_f 8 1) (x_k 1)) (x_k 599))) [none] σ = some (.inl ([none], cs_set σ 8 (au (σ 8) 1 ((σ 8 1 - 1) % 600)))) := by
        by_cases z : 0 < σ 8 1
        · have : (σ 8 1 - 1) % 600 = σ 8 1 - 1 := by omega
          rw [this]
          simp only [cs_run, cs_L0, s_ret, s_retz, s_retv, s_seq, s_set, s_inc, s_put, s_ast, s_zst, s_cst, s_ada, s_if, s_ex, s_cv, s_nop, s_brk, x_ite, x_l, x_k, x_f, x_a, x_ro, x_add, x_sub, x_mul, x_div, x_rem, x_neg, x_call, x_max, x_min, x_abs, g_cons, g_nil, y_lt, y_le, y_gt, y_ge, y_eq, y_ne, y_not, y_and, y_or, y_ite, Option.bind_some, Option.bind_none, List.getElem?_cons_zero, List.getElem?_cons_succ, List.getElem?_nil, List.set_cons_zero, List.set_cons_succ, List.cons_append, List.nil_append, List.append_nil, List.replicate, List.length_cons, List.length_nil, Nat.reduceAdd, Nat.reduceSub, Nat.zero_add, Nat.sub_self, if_true, if_false, ite_true, ite_false, reduceIte, reduceCtorEq, decide_true, decide_false, decide_eq_true_eq, Bool.not_true, Bool.not_false, Bool.true_and, Bool.false_and, Bool.and_true, Bool.and_false, Bool.true_or, Bool.false_or, Bool.false_eq_true, Bool.true_eq_false, not_true_eq_false, not_false_eq_true, ne_eq, Int.reduceEq, Int.reduceNe, Int.reduceLT, Int.reduceLE, and_self, and_true, true_and, and_false, false_and, or_true, true_or, or_false, false_or, true_or, Option.map_some, z, cs_chk_ok d1, cs_up_eq]
        · have : (σ 8 1 - 1) % 600 = 599 := by omega
          rw [this]
          simp only [cs_run, cs_L0, s_ret, s_retz, s_retv, s_seq, s_set, s_inc, s_put, s_ast, s_zst, s_cst, s_ada, s_if, s_ex, s_cv, s_nop, s_brk, x_ite, x_l, x_k, x_f, x_a, x_ro, x_add, x_sub, x_mul, x_div, x_rem, x_neg, x_call, x_max, x_min, x_abs, g_cons, g_nil, y_lt, y_le, y_gt, y_ge, y_eq, y_ne, y_not, y_and, y_or, y_ite, Option.bind_some, Option.bind_none, List.getElem?_cons_zero, List.getElem?_cons_succ, List.getElem?_nil, List.set_cons_zero, List.set_cons_succ, List.cons_append, List.nil_append, List.append_nil, List.replicate, List.length_cons, List.length_nil, Nat.reduceAdd, Nat.reduceSub, Nat.zero_add, Nat.sub_self, if_true, if_false, ite_true, ite_false, reduceIte, reduceCtorEq, decide_true, decide_false, decide_eq_true_eq, Bool.not_true, Bool.not_false, Bool.true_and, Bool.false_and, Bool.and_true, Bool.and_false, Bool.true_or, Bool.false_or, Bool.false_eq_true, Bool.true_eq_false, not_true_eq_false, not_false_eq_true, ne_eq, Int.reduceEq, Int.reduceNe, Int.reduceLT, Int.reduceLE, and_self, and_true, true_and, and_false, false_and, or_true, true_or, or_false, false_or, true_or, Option.map_some, z, cs_up_eq]
      obtain ⟨x, hx⟩ : ∃ x, x = (σ 8 1 - 1) % 600 := ⟨_, rfl⟩
      rw [← hx] at g1 hring
      have k1 : cs_set σ 8 (au (σ 8) 1 x) 8 = au (σ 8) 1 x := cs_set_at _ _ _
      have k2 : au (σ 8) 1 x 2 = σ 8 2 := au_ne (by decide)
      have g2 : (s_put 8 2 (x_sub (x_f 8 2) (x_k 1))) [none] (cs_set σ 8 (au (σ 8) 1 x)) = some (.inl ([none], cs_set σ 8 (au (au (σ 8) 1 x) 2 (σ 8 2 - 1)))) := by
        simp only [cs_run, cs_L0, s_ret, s_retz, s_retv, s_seq, s_set, s_inc, s_put, s_ast, s_zst, s_cst, s_ada, s_if, s_ex, s_cv, s_nop, s_brk, x_ite, x_l, x_k, x_f, x_a, x_ro, x_add, x_sub, x_mul, x_div, x_rem, x_neg, x_call, x_max, x_min, x_abs, g_cons, g_nil, y_lt, y_le, y_gt, y_ge, y_eq, y_ne, y_not, y_and, y_or, y_ite, Option.bind_some, Option.bind_none, List.getElem?_cons_zero, List.getElem?_cons_succ, List.getElem?_nil, List.set_cons_zero, List.set_cons_succ, List.cons_append, List.nil_append, List.append_nil, List.replicate, List.length_cons, List.length_nil, Nat.reduceAdd, Nat.reduceSub, Nat.zero_add, Nat.sub_self, if_true, if_false, ite_true, ite_false, reduceIte, reduceCtorEq, decide_true, decide_false, decide_eq_true_eq, Bool.not_true, Bool.not_false, Bool.true_and, Bool.false_and, Bool.and_true, Bool.and_false, Bool.true_or, Bool.false_or, Bool.false_eq_true, Bool.true_eq_false, not_true_eq_false, not_false_eq_true, ne_eq, Int.reduceEq, Int.reduceNe, Int.reduceLT, Int.reduceLE, and_self, and_true, true_and, and_false, false_and, or_true, true_or, or_false, false_or, true_or, Option.map_some, k1, k2, cs_chk_ok d2, cs_up_eq, cs_set_set]
      obtain ⟨κ, hκ⟩ : ∃ κ, κ = cs_set σ 8 (au (au (σ 8) 1 x) 2 (σ 8 2 - 1)) := ⟨_, rfl⟩
      rw [← hκ] at g2
      have k8 : κ 8 = au (au (σ 8) 1 x) 2 (σ 8 2 - 1) := by rw [hκ, cs_set_at]
      have ko : ∀ q, q ≠ 8 → κ q = σ q := fun q n => by rw [hκ, cs_set_ne n]
      have k81 : κ 8 1 = x := by rw [k8, au_ne (by decide), au_at]
      have k82 : κ 8 2 = σ 8 2 - 1 := by rw [k8, au_at]
      have c1 : (0 : Int) ≤ x ∧ x < ((600 : Nat) : Int) := by omega
      have hl : f_X6_takeLatest [] σ = some (some (σ 41 (σ 8 2 - 1).toNat), κ) := by
        have g0 : (s_if (y_eq (x_f 8 2) (x_k 0)) (s_ret (x_k (-1))) s_nop) [none] σ = some (.inl ([none], σ)) := by simp only [cs_run, cs_L0, s_ret, s_retz, s_retv, s_seq, s_set, s_inc, s_put, s_ast, s_zst, s_cst, s_ada, s_if, s_ex, s_cv, s_nop, s_brk, x_ite, x_l, x_k, x_f, x_a, x_ro, x_add, x_sub, x_mul, x_div, x_rem, x_neg, x_call, x_max, x_min, x_abs, g_cons, g_nil, y_lt, y_le, y_gt, y_ge, y_eq, y_ne, y_not, y_and, y_or, y_ite, Option.bind_some, Option.bind_none, List.getElem?_cons_zero, List.getElem?_cons_succ, List.getElem?_nil, List.set_cons_zero, List.set_cons_succ, List.cons_append, List.nil_append, List.append_nil, List.replicate, List.length_cons, List.length_nil, Nat.reduceAdd, Nat.reduceSub, Nat.zero_add, Nat.sub_self, if_true, if_false, ite_true, ite_false, reduceIte, reduceCtorEq, decide_true, decide_false, decide_eq_true_eq, Bool.not_true, Bool.not_false, Bool.true_and, Bool.false_and, Bool.and_true, Bool.and_false, Bool.true_or, Bool.false_or, Bool.false_eq_true, Bool.true_eq_false, not_true_eq_false, not_false_eq_true, ne_eq, Int.reduceEq, Int.reduceNe, Int.reduceLT, Int.reduceLE, and_self, and_true, true_and, and_false, false_and, or_true, true_or, or_false, false_or, true_or, Option.map_some, q]
        unfold f_X6_takeLatest b_X6_takeLatest
        simp only [cs_run, cs_L0, Option.bind_some, Option.bind_none, List.getElem?_cons_zero, List.getElem?_cons_succ, List.getElem?_nil, List.set_cons_zero, List.set_cons_succ, List.cons_append, List.nil_append, List.append_nil, List.replicate, List.length_cons, List.length_nil, Nat.reduceAdd, Nat.reduceSub, Nat.zero_add, Nat.sub_self, if_true, if_false, ite_true, ite_false, reduceIte, reduceCtorEq, decide_true, decide_false, decide_eq_true_eq, Bool.not_true, Bool.not_false, Bool.true_and, Bool.false_and, Bool.and_true, Bool.and_false, Bool.true_or, Bool.false_or, Bool.false_eq_true, Bool.true_eq_false, not_true_eq_false, not_false_eq_true, ne_eq, Int.reduceEq, Int.reduceNe, Int.reduceLT, Int.reduceLE, and_self, and_true, true_and, and_false, false_and, or_true, true_or, or_false, false_or, true_or, Option.map_some]
        rw [sq_st g0, sq_st g1, sq_st g2]
        have k27 : κ 27 = σ 27 := ko 27 (by decide)
        simp only [cs_run, cs_L0, s_ret, s_retz, s_retv, s_seq, s_set, s_inc, s_put, s_ast, s_zst, s_cst, s_ada, s_if, s_ex, s_cv, s_nop, s_brk, x_ite, x_l, x_k, x_f, x_a, x_ro, x_add, x_sub, x_mul, x_div, x_rem, x_neg, x_call, x_max, x_min, x_abs, g_cons, g_nil, y_lt, y_le, y_gt, y_ge, y_eq, y_ne, y_not, y_and, y_or, y_ite, Option.bind_some, Option.bind_none, List.getElem?_cons_zero, List.getElem?_cons_succ, List.getElem?_nil, List.set_cons_zero, List.set_cons_succ, List.cons_append, List.nil_append, List.append_nil, List.replicate, List.length_cons, List.length_nil, Nat.reduceAdd, Nat.reduceSub, Nat.zero_add, Nat.sub_self, if_true, if_false, ite_true, ite_false, reduceIte, reduceCtorEq, decide_true, decide_false, decide_eq_true_eq, Bool.not_true, Bool.not_false, Bool.true_and, Bool.false_and, Bool.and_true, Bool.and_false, Bool.true_or, Bool.false_or, Bool.false_eq_true, Bool.true_eq_false, not_true_eq_false, not_false_eq_true, ne_eq, Int.reduceEq, Int.reduceNe, Int.reduceLT, Int.reduceLE, and_self, and_true, true_and, and_false, false_and, or_true, true_or, or_false, false_or, true_or, Option.map_some, k81, cs_rd_ok c1, k27, hring]
      have hC : CSo κ := (CSo_congr (ko 4 (by decide)) (ko 15 (by decide)) (ko 20 (by decide)) (ko 21 (by decide)) (ko 22 (by decide))).mpr h
      have hC2 : CPr κ := CPr_cg (ko 4 (by decide)) (ko 16 (by decide)) (ko 20 (by decide)) (ko 21 (by decide)) (ko 22 (by decide)) (ko 23 (by decide)) (ko 24 (by decide)) h2
      have ht := f_turnJ hC hC2 (v := σ 41 (σ 8 2 - 1).toNat) (by rw [ko 4 (by decide)]; exact hv)
      generalize σ 41 (σ 8 2 - 1).toNat = v at *
      have n1 : ¬ v = -1 := by omega
      have hr : turnC κ v 8 2 = σ 8 2 - 1 := by rw [turnC_o (by decide), k82]
      have hut : utC σ v = turnC κ v := by unfold utC; rw [hκ, hx]
      rw [hut]
      simp only [f_X9_undo, b_X9_undo, f_X5_takeBack, b_X5_takeBack, cs_run, cs_L0, s_ret, s_retz, s_retv, s_seq, s_set, s_inc, s_put, s_ast, s_zst, s_cst, s_ada, s_if, s_ex, s_cv, s_nop, s_brk, x_ite, x_l, x_k, x_f, x_a, x_ro, x_add, x_sub, x_mul, x_div, x_rem, x_neg, x_call, x_max, x_min, x_abs, g_cons, g_nil, y_lt, y_le, y_gt, y_ge, y_eq, y_ne, y_not, y_and, y_or, y_ite, Option.bind_some, Option.bind_none, List.getElem?_cons_zero, List.getElem?_cons_succ, List.getElem?_nil, List.set_cons_zero, List.set_cons_succ, List.cons_append, List.nil_append, List.append_nil, List.replicate, List.length_cons, List.length_nil, Nat.reduceAdd, Nat.reduceSub, Nat.zero_add, Nat.sub_self, if_true, if_false, ite_true, ite_false, reduceIte, reduceCtorEq, decide_true, decide_false, decide_eq_true_eq, Bool.not_true, Bool.not_false, Bool.true_and, Bool.false_and, Bool.and_true, Bool.and_false, Bool.true_or, Bool.false_or, Bool.false_eq_true, Bool.true_eq_false, not_true_eq_false, not_false_eq_true, ne_eq, Int.reduceEq, Int.reduceNe, Int.reduceLT, Int.reduceLE, and_self, and_true, true_and, and_false, false_and, or_true, true_or, or_false, false_or, true_or, Option.map_some, hl, n1, ht, hr]
    · rw [← s3] at hv ⊢
      have q' : ¬ σ 10 19 = 0 := by omega
      have d2 : cs_InR (σ 10 19 - 1) := by omega
      have g0 : (s_if (y_eq (x_f 10 19) (x_k 0)) (s_ret (x_k (-1006))) s_nop) [none] σ = some (.inl ([none], σ)) := by simp only [cs_run, cs_L0, s_ret, s_retz, s_retv, s_seq, s_set, s_inc, s_put, s_ast, s_zst, s_cst, s_ada, s_if, s_ex, s_cv, s_nop, s_brk, x_ite, x_l, x_k, x_f, x_a, x_ro, x_add, x_sub, x_mul, x_div, x_rem, x_neg, x_call, x_max, x_min, x_abs, g_cons, g_nil, y_lt, y_le, y_gt, y_ge, y_eq, y_ne, y_not, y_and, y_or, y_ite, Option.bind_some, Option.bind_none, List.getElem?_cons_zero, List.getElem?_cons_succ, List.getElem?_nil, List.set_cons_zero, List.set_cons_succ, List.cons_append, List.nil_append, List.append_nil, List.replicate, List.length_cons, List.length_nil, Nat.reduceAdd, Nat.reduceSub, Nat.zero_add, Nat.sub_self, if_true, if_false, ite_true, ite_false, reduceIte, reduceCtorEq, decide_true, decide_false, decide_eq_true_eq, Bool.not_true, Bool.not_false, Bool.true_and, Bool.false_and, Bool.and_true, Bool.and_false, Bool.true_or, Bool.false_or, Bool.false_eq_true, Bool.true_eq_false, not_true_eq_false, not_false_eq_true, ne_eq, Int.reduceEq, Int.reduceNe, Int.reduceLT, Int.reduceLE, and_self, and_true, true_and, and_false, false_and, or_true, true_or, or_false, false_or, true_or, Option.map_some, q']
      have g1 : (s_put 10 19 (x_sub (x_f 10 19) (x_k 1))) [none] σ = some (.inl ([none], cs_set σ 10 (au (σ 10) 19 (σ 10 19 - 1)))) := by simp only [cs_run, cs_L0, s_ret, s_retz, s_retv, s_seq, s_set, s_inc, s_put, s_ast, s_zst, s_cst, s_ada, s_if, s_ex, s_cv, s_nop, s_brk, x_ite, x_l, x_k, x_f, x_a, x_ro, x_add, x_sub, x_mul, x_div, x_rem, x_neg, x_call, x_max, x_min, x_abs, g_cons, g_nil, y_lt, y_le, y_gt, y_ge, y_eq, y_ne, y_not, y_and, y_or, y_ite, Option.bind_some, Option.bind_none, List.getElem?_cons_zero, List.getElem?_cons_succ, List.getElem?_nil, List.set_cons_zero, List.set_cons_succ, List.cons_append, List.nil_append, List.append_nil, List.replicate, List.length_cons, List.length_nil, Nat.reduceAdd, Nat.reduceSub, Nat.zero_add, Nat.sub_self, if_true, if_false, ite_true, ite_false, reduceIte, reduceCtorEq, decide_true, decide_false, decide_eq_true_eq, Bool.not_true, Bool.not_false, Bool.true_and, Bool.false_and, Bool.and_true, Bool.and_false, Bool.true_or, Bool.false_or, Bool.false_eq_true, Bool.true_eq_false, not_true_eq_false, not_false_eq_true, ne_eq, Int.reduceEq, Int.reduceNe, Int.reduceLT, Int.reduceLE, and_self, and_true, true_and, and_false, false_and, or_true, true_or, or_false, false_or, true_or, Option.map_some, cs_chk_ok d2, cs_up_eq]
      obtain ⟨κ, hκ⟩ : ∃ κ, κ = cs_set σ 10 (au (σ 10) 19 (σ 10 19 - 1)) := ⟨_, rfl⟩
      rw [← hκ] at g1
      have k1 : κ 10 19 = σ 10 19 - 1 := by rw [hκ, cs_set_at, au_at]
      have k41 : κ 41 = σ 41 := by rw [hκ, cs_set_ne (by decide)]
      have k39 : κ 39 = σ 39 := by rw [hκ, cs_set_ne (by decide)]
      have c1 : (0 : Int) ≤ σ 10 19 - 1 ∧ σ 10 19 - 1 < ((600 : Nat) : Int) := by omega
      have hut : utR σ (σ 41 (σ 10 19 - 1).toNat) = cs_set κ 39 (tg (σ 39) (σ 41 (σ 10 19 - 1).toNat).toNat) := by unfold utR; rw [hκ]
      rw [hut]
      have rd : cs_rd 41 600 (κ 10 19) κ = some (σ 41 (σ 10 19 - 1).toNat, κ) := by rw [k1, cs_rd_ok c1, k41]
      generalize σ 41 (σ 10 19 - 1).toNat = v at *
      have c2 : (0 : Int) ≤ v ∧ v < ((512 : Nat) : Int) := by omega
      have g2 : (s_zst 39 512 (x_a 41 600 (x_f 10 19)) (x_ite (y_not (y_ne (x_a 39 512 (x_a 41 600 (x_f 10 19))) (x_k 0))) (x_k 1) (x_k 0))) [none] κ = some (.inl ([none], cs_set κ 39 (tg (σ 39) v.toNat))) := by
        unfold tg
        by_cases z : σ 39 v.toNat = 0
        · simp only [cs_run, cs_L0, s_ret, s_retz, s_retv, s_seq, s_set, s_inc, s_put, s_ast, s_zst, s_cst, s_ada, s_if, s_ex, s_cv, s_nop, s_brk, x_ite, x_l, x_k, x_f, x_a, x_ro, x_add, x_sub, x_mul, x_div, x_rem, x_neg, x_call, x_max, x_min, x_abs, g_cons, g_nil, y_lt, y_le, y_gt, y_ge, y_eq, y_ne, y_not, y_and, y_or, y_ite, Option.bind_some, Option.bind_none, List.getElem?_cons_zero, List.getElem?_cons_succ, List.getElem?_nil, List.set_cons_zero, List.set_cons_succ, List.cons_append, List.nil_append, List.append_nil, List.replicate, List.length_cons, List.length_nil, Nat.reduceAdd, Nat.reduceSub, Nat.zero_add, Nat.sub_self, if_true, if_false, ite_true, ite_false, reduceIte, reduceCtorEq, decide_true, decide_false, decide_eq_true_eq, Bool.not_true, Bool.not_false, Bool.true_and, Bool.false_and, Bool.and_true, Bool.and_false, Bool.true_or, Bool.false_or, Bool.false_eq_true, Bool.true_eq_false, not_true_eq_false, not_false_eq_true, ne_eq, Int.reduceEq, Int.reduceNe, Int.reduceLT, Int.reduceLE, and_self, and_true, true_and, and_false, false_and, or_true, true_or, or_false, false_or, true_or, Option.map_some, rd, cs_rd_ok c2, k39, z, cs_wr_ok c2, cs_up_eq]
        · simp only [cs_run, cs_L0, s_ret, s_retz, s_retv, s_seq, s_set, s_inc, s_put, s_ast, s_zst, s_cst, s_ada, s_if, s_ex, s_cv, s_nop, s_brk, x_ite, x_l, x_k, x_f, x_a, x_ro, x_add, x_sub, x_mul, x_div, x_rem, x_neg, x_call, x_max, x_min, x_abs, g_cons, g_nil, y_lt, y_le, y_gt, y_ge, y_eq, y_ne, y_not, y_and, y_or, y_ite, Option.bind_some, Option.bind_none, List.getElem?_cons_zero, List.getElem?_cons_succ, List.getElem?_nil, List.set_cons_zero, List.set_cons_succ, List.cons_append, List.nil_append, List.append_nil, List.replicate, List.length_cons, List.length_nil, Nat.reduceAdd, Nat.reduceSub, Nat.zero_add, Nat.sub_self, if_true, if_false, ite_true, ite_false, reduceIte, reduceCtorEq, decide_true, decide_false, decide_eq_true_eq, Bool.not_true, Bool.not_false, Bool.true_and, Bool.false_and, Bool.and_true, Bool.and_false, Bool.true_or, Bool.false_or, Bool.false_eq_true, Bool.true_eq_false, not_true_eq_false, not_false_eq_true, ne_eq, Int.reduceEq, Int.reduceNe, Int.reduceLT, Int.reduceLE, and_self, and_true, true_and, and_false, false_and, or_true, true_or, or_false, false_or, true_or, Option.map_some, rd, cs_rd_ok c2, k39, z, cs_wr_ok c2, cs_up_eq]
      unfold f_X10_undo b_X10_undo
      simp only [cs_run, cs_L0, Option.bind_some, Option.bind_none, List.getElem?_cons_zero, List.getElem?_cons_succ, List.getElem?_nil, List.set_cons_zero, List.set_cons_succ, List.cons_append, List.nil_append, List.append_nil, List.replicate, List.length_cons, List.length_nil, Nat.reduceAdd, Nat.reduceSub, Nat.zero_add, Nat.sub_self, if_true, if_false, ite_true, ite_false, reduceIte, reduceCtorEq, decide_true, decide_false, decide_eq_true_eq, Bool.not_true, Bool.not_false, Bool.true_and, Bool.false_and, Bool.and_true, Bool.and_false, Bool.true_or, Bool.false_or, Bool.false_eq_true, Bool.true_eq_false, not_true_eq_false, not_false_eq_true, ne_eq, Int.reduceEq, Int.reduceNe, Int.reduceLT, Int.reduceLE, and_self, and_true, true_and, and_false, false_and, or_true, true_or, or_false, false_or, true_or, Option.map_some]
      rw [sq_st g0, sq_st g1, sq_st g2]
      have k2 : cs_set κ 39 (tg (σ 39) v.toNat) 10 19 = σ 10 19 - 1 := by rw [cs_set_ne (by decide), k1]
      simp only [cs_run, cs_L0, s_ret, s_retz, s_retv, s_seq, s_set, s_inc, s_put, s_ast, s_zst, s_cst, s_ada, s_if, s_ex, s_cv, s_nop, s_brk, x_ite, x_l, x_k, x_f, x_a, x_ro, x_add, x_sub, x_mul, x_div, x_rem, x_neg, x_call, x_max, x_min, x_abs, g_cons, g_nil, y_lt, y_le, y_gt, y_ge, y_eq, y_ne, y_not, y_and, y_or, y_ite, Option.bind_some, Option.bind_none, List.getElem?_cons_zero, List.getElem?_cons_succ, List.getElem?_nil, List.set_cons_zero, List.set_cons_succ, List.cons_append, List.nil_append, List.append_nil, List.replicate, List.length_cons, List.length_nil, Nat.reduceAdd, Nat.reduceSub, Nat.zero_add, Nat.sub_self, if_true, if_false, ite_true, ite_false, reduceIte, reduceCtorEq, decide_true, decide_false, decide_eq_true_eq, Bool.not_true, Bool.not_false, Bool.true_and, Bool.false_and, Bool.and_true, Bool.and_false, Bool.true_or, Bool.false_or, Bool.false_eq_true, Bool.true_eq_false, not_true_eq_false, not_false_eq_true, ne_eq, Int.reduceEq, Int.reduceNe, Int.reduceLT, Int.reduceLE, and_self, and_true, true_and, and_false, false_and, or_true, true_or, or_false, false_or, true_or, Option.map_some, k2]
/-! refine -/
noncomputable def rfR (ρ : cs_S) : Nat → Int × cs_S
  | 0 => (0, ρ)
  | n + 1 => if Pr (rfR ρ n).2 n = false ∧ inB (rfR ρ n).2 n = true then ((rfR ρ n).1 + 1, stJ (rfR ρ n).2 n) else rfR ρ n
theorem rfR_J {σ : cs_S} (hJ : SimJ σ) : ∀ n : Nat, (n : Int) ≤ σ 4 2 → SimJ (rfR σ n).2 ∧ Kp (rfR σ n).2 σ ∧ 0 ≤ (rfR σ n).1 ∧ (rfR σ n).1 ≤ n
  | 0, _ => ⟨hJ, Kp_r σ, by simp [rfR], by simp [rfR]⟩
  | n + 1, hn => by
    obtain ⟨i1, i2, i3, i4⟩ := rfR_J hJ n (by omega)
    have e2 : (rfR σ n).2 4 2 = σ 4 2 := i2.2.1 2 (by decide)
    unfold rfR
    by_cases q : Pr (rfR σ n).2 n = false ∧ inB (rfR σ n).2 n = true
    · rw [if_pos q]
      exact ⟨SimJ_st i1 (by omega) (ok_ins (SimJ_P i1) q.1), Kp_t (Kp_st _ _) i2, by dsimp only; omega, by dsimp only; omega⟩
    · rw [if_neg q]
      exact ⟨i1, i2, i3, by omega⟩
theorem rfR_s {σ : cs_S} {k : Int} (hk : 0 ≤ k) : rfR σ (k + 1).toNat = if Pr (rfR σ k.toNat).2 k = false ∧ inB (rfR σ k.toNat).2 k = true then ((rfR σ k.toNat).1 + 1, stJ (rfR σ k.toNat).2 k) else rfR σ k.toNat := by
  rw [show (k + 1).toNat = k.toNat + 1 by omega, rfR, show ((k.toNat : Nat) : Int) = k by omega]
theorem rfC_body {ρ : cs_S} (hJ : SimJ ρ) {v n : Int} (hv : 0 ≤ v ∧ v < ρ 4 2) (hn : 0 ≤ n ∧ n ≤ 442) : wb_X5_insertAll_1 [none, some n, some v] ρ = some (.inl (if Pr ρ v = false ∧ inB ρ v = true then ([none, some (n + 1), some (v + 1)], mx cA (stJ ρ v) ρ) else ([none, some n, some (v + 1)], ρ))) := by
  obtain ⟨h, h2, hR, hS, hH⟩ := id hJ
  have hP := SimJ_P hJ
  have hb := h.1
  obtain ⟨e1, -⟩ := f_ins h h2 hR hP hv
  have e4 := f_takeStep h h2 hS.1.1 hS.1.2 hv
  rw [stpC_mx] at e4
  have c1 : (0 : Int) ≤ v ∧ v < ((442 : Nat) : Int) := by omega
  have d1 : cs_InR (v + 1) := by omega
  have d2 : cs_InR (n + 1) := by omega
  unfold Pr
  by_cases p : ρ 23 v.toNat = 0
  · cases z : inB ρ v
    · rw [z] at e1
      simp only [wb_X5_insertAll_1, cs_run, cs_L0, s_ret, s_retz, s_retv, s_seq, s_set, s_inc, s_put, s_ast, s_zst, s_cst, s_ada, s_if, s_ex, s_cv, s_nop, s_brk, x_ite, x_l, x_k, x_f, x_a, x_ro, x_add, x_sub, x_mul, x_div, x_rem, x_neg, x_call, x_max, x_min, x_abs, g_cons, g_nil, y_lt, y_le, y_gt, y_ge, y_eq, y_ne, y_not, y_and, y_or, y_ite, Option.bind_some, Option.bind_none, List.getElem?_cons_zero, List.getElem?_cons_succ, List.getElem?_nil, List.set_cons_zero, List.set_cons_succ, List.cons_append, List.nil_append, List.append_nil, List.replicate, List.length_cons, List.length_nil, Nat.reduceAdd, Nat.reduceSub, Nat.zero_add, Nat.sub_self, if_true, if_false, ite_true, ite_false, reduceIte, reduceCtorEq, decide_true, decide_false, decide_eq_true_eq, Bool.not_true, Bool.not_false, Bool.true_and, Bool.false_and, Bool.and_true, Bool.and_false, Bool.true_or, Bool.false_or, Bool.false_eq_true, Bool.true_eq_false, not_true_eq_false, not_false_eq_true, ne_eq, Int.reduceEq, Int.reduceNe, Int.reduceLT, Int.reduceLE, and_self, and_true, true_and, and_false, false_and, or_true, true_or, or_false, false_or, true_or, Option.map_some, cs_rd_ok c1, p, e1, cs_chk_ok d1]
    · rw [z] at e1
      simp only [wb_X5_insertAll_1, cs_run, cs_L0, s_ret, s_retz, s_retv, s_seq, s_set, s_inc, s_put, s_ast, s_zst, s_cst, s_ada, s_if, s_ex, s_cv, s_nop, s_brk, x_ite, x_l, x_k, x_f, x_a, x_ro, x_add, x_sub, x_mul, x_div, x_rem, x_neg, x_call, x_max, x_min, x_abs, g_cons, g_nil, y_lt, y_le, y_gt, y_ge, y_eq, y_ne, y_not, y_and, y_or, y_ite, Option.bind_some, Option.bind_none, List.getElem?_cons_zero, List.getElem?_cons_succ, List.getElem?_nil, List.set_cons_zero, List.set_cons_succ, List.cons_append, List.nil_append, List.append_nil, List.replicate, List.length_cons, List.length_nil, Nat.reduceAdd, Nat.reduceSub, Nat.zero_add, Nat.sub_self, if_true, if_false, ite_true, ite_false, reduceIte, reduceCtorEq, decide_true, decide_false, decide_eq_true_eq, Bool.not_true, Bool.not_false, Bool.true_and, Bool.false_and, Bool.and_true, Bool.and_false, Bool.true_or, Bool.false_or, Bool.false_eq_true, Bool.true_eq_false, not_true_eq_false, not_false_eq_true, ne_eq, Int.reduceEq, Int.reduceNe, Int.reduceLT, Int.reduceLE, and_self, and_true, true_and, and_false, false_and, or_true, true_or, or_false, false_or, true_or, Option.map_some, cs_rd_ok c1, p, e1, e4, cs_chk_ok d1, cs_chk_ok d2]
  · simp only [wb_X5_insertAll_1, cs_run, cs_L0, s_ret, s_retz, s_retv, s_seq, s_set, s_inc, s_put, s_ast, s_zst, s_cst, s_ada, s_if, s_ex, s_cv, s_nop, s_brk, x_ite, x_l, x_k, x_f, x_a, x_ro, x_add, x_sub, x_mul, x_div, x_rem, x_neg, x_call, x_max, x_min, x_abs, g_cons, g_nil, y_lt, y_le, y_gt, y_ge, y_eq, y_ne, y_not, y_and, y_or, y_ite, Option.bind_some, Option.bind_none, List.getElem?_cons_zero, List.getElem?_cons_succ, List.getElem?_nil, List.set_cons_zero, List.set_cons_succ, List.cons_append, List.nil_append, List.append_nil, List.replicate, List.length_cons, List.length_nil, Nat.reduceAdd, Nat.reduceSub, Nat.zero_add, Nat.sub_self, if_true, if_false, ite_true, ite_false, reduceIte, reduceCtorEq, decide_true, decide_false, decide_eq_true_eq, Bool.not_true, Bool.not_false, Bool.true_and, Bool.false_and, Bool.and_true, Bool.and_false, Bool.true_or, Bool.false_or, Bool.false_eq_true, Bool.true_eq_false, not_true_eq_false, not_false_eq_true, ne_eq, Int.reduceEq, Int.reduceNe, Int.reduceLT, Int.reduceLE, and_self, and_true, true_and, and_false, false_and, or_true, true_or, or_false, false_or, true_or, Option.map_some, cs_rd_ok c1, p, cs_chk_ok d1]
theorem rfRf_body {ρ : cs_S} (hJ : SimJ ρ) {c v n : Int} (hv : 0 ≤ v ∧ v < ρ 4 2) (hc : c = ρ 20 v.toNat) (hn : 0 ≤ n ∧ n ≤ 442) : wb_X10_refine_1 [none, some n, some c, some v] ρ = some (.inl (if Pr ρ v = false ∧ inB ρ v = true then ([none, some (n + 1), some c, some (v + 1)], mx rA (stJ ρ v) ρ) else ([none, some n, some c, some (v + 1)], ρ))) := by
  obtain ⟨h, h2, hR, hS, hH⟩ := id hJ
  have hP := SimJ_P hJ
  have hb := h.1
  obtain ⟨-, e1⟩ := f_ins h h2 hR hP hv
  have e4 := f_doStep (σ := ρ) (v := v) (by have := hS.1.2; have := hS.2.1; omega) (by omega)
  rw [stpR_mx] at e4
  rw [← hc] at e1
  have r3 := (hR.2.1.2 v.toNat (by omega)).2.2
  have c1 : (0 : Int) ≤ v ∧ v < ((512 : Nat) : Int) := by omega
  have d1 : cs_InR (v + 1) := by omega
  have d2 : cs_InR (n + 1) := by omega
  unfold Pr
  by_cases p : ρ 23 v.toNat = 0
  · cases z : inB ρ v
    · rw [z] at e1
      simp only [wb_X10_refine_1, cs_run, cs_L0, s_ret, s_retz, s_retv, s_seq, s_set, s_inc, s_put, s_ast, s_zst, s_cst, s_ada, s_if, s_ex, s_cv, s_nop, s_brk, x_ite, x_l, x_k, x_f, x_a, x_ro, x_add, x_sub, x_mul, x_div, x_rem, x_neg, x_call, x_max, x_min, x_abs, g_cons, g_nil, y_lt, y_le, y_gt, y_ge, y_eq, y_ne, y_not, y_and, y_or, y_ite, Option.bind_some, Option.bind_none, List.getElem?_cons_zero, List.getElem?_cons_succ, List.getElem?_nil, List.set_cons_zero, List.set_cons_succ, List.cons_append, List.nil_append, List.append_nil, List.replicate, List.length_cons, List.length_nil, Nat.reduceAdd, Nat.reduceSub, Nat.zero_add, Nat.sub_self, if_true, if_false, ite_true, ite_false, reduceIte, reduceCtorEq, decide_true, decide_false, decide_eq_true_eq, Bool.not_true, Bool.not_false, Bool.true_and, Bool.false_and, Bool.and_true, Bool.and_false, Bool.true_or, Bool.false_or, Bool.false_eq_true, Bool.true_eq_false, not_true_eq_false, not_false_eq_true, ne_eq, Int.reduceEq, Int.reduceNe, Int.reduceLT, Int.reduceLE, and_self, and_true, true_and, and_false, false_and, or_true, true_or, or_false, false_or, true_or, Option.map_some, cs_rd_ok c1, r3, p, e1, cs_chk_ok d1]
    · rw [z] at e1
      simp only [wb_X10_refine_1, cs_run, cs_L0, s_ret, s_retz, s_retv, s_seq, s_set, s_inc, s_put, s_ast, s_zst, s_cst, s_ada, s_if, s_ex, s_cv, s_nop, s_brk, x_ite, x_l, x_k, x_f, x_a, x_ro, x_add, x_sub, x_mul, x_div, x_rem, x_neg, x_call, x_max, x_min, x_abs, g_cons, g_nil, y_lt, y_le, y_gt, y_ge, y_eq, y_ne, y_not, y_and, y_or, y_ite, Option.bind_some, Option.bind_none, List.getElem?_cons_zero, List.getElem?_cons_succ, List.getElem?_nil, List.set_cons_zero, List.set_cons_succ, List.cons_append, List.nil_append, List.append_nil, List.replicate, List.length_cons, List.length_nil, Nat.reduceAdd, Nat.reduceSub, Nat.zero_add, Nat.sub_self, if_true, if_false, ite_true, ite_false, reduceIte, reduceCtorEq, decide_true, decide_false, decide_eq_true_eq, Bool.not_true, Bool.not_false, Bool.true_and, Bool.false_and, Bool.and_true, Bool.and_false, Bool.true_or, Bool.false_or, Bool.false_eq_true, Bool.true_eq_false, not_true_eq_false, not_false_eq_true, ne_eq, Int.reduceEq, Int.reduceNe, Int.reduceLT, Int.reduceLE, and_self, and_true, true_and, and_false, false_and, or_true, true_or, or_false, false_or, true_or, Option.map_some, cs_rd_ok c1, r3, p, e1, e4, cs_chk_ok d1, cs_chk_ok d2]
  · simp only [wb_X10_refine_1, cs_run, cs_L0, s_ret, s_retz, s_retv, s_seq, s_set, s_inc, s_put, s_ast, s_zst, s_cst, s_ada, s_if, s_ex, s_cv, s_nop, s_brk, x_ite, x_l, x_k, x_f, x_a, x_ro, x_add, x_sub, x_mul, x_div, x_rem, x_neg, x_call, x_max, x_min, x_abs, g_cons, g_nil, y_lt, y_le, y_gt, y_ge, y_eq, y_ne, y_not, y_and, y_or, y_ite, Option.bind_some, Option.bind_none, List.getElem?_cons_zero, List.getElem?_cons_succ, List.getElem?_nil, List.set_cons_zero, List.set_cons_succ, List.cons_append, List.nil_append, List.append_nil, List.replicate, List.length_cons, List.length_nil, Nat.reduceAdd, Nat.reduceSub, Nat.zero_add, Nat.sub_self, if_true, if_false, ite_true, ite_false, reduceIte, reduceCtorEq, decide_true, decide_false, decide_eq_true_eq, Bool.not_true, Bool.not_false, Bool.true_and, Bool.false_and, Bool.and_true, Bool.and_false, Bool.true_or, Bool.false_or, Bool.false_eq_true, Bool.true_eq_false, not_true_eq_false, not_false_eq_true, ne_eq, Int.reduceEq, Int.reduceNe, Int.reduceLT, Int.reduceLE, and_self, and_true, true_and, and_false, false_and, or_true, true_or, or_false, false_or, true_or, Option.map_some, cs_rd_ok c1, r3, p, cs_chk_ok d1]
theorem Two_refine {σ : cs_S} (hJ : SimJ σ) : Two f_X9_refine f_X10_refine [] σ (fun ρ => SimJ ρ ∧ Kp ρ σ) := by
  have hb := hJ.1.1
  have hn2 : ((σ 4 2).toNat : Int) = σ 4 2 := by omega
  obtain ⟨j1, j2, -, -⟩ := rfR_J hJ (σ 4 2).toNat (by omega)
  refine ⟨(rfR σ (σ 4 2).toNat).1, mx cA (rfR σ (σ 4 2).toNat).2 σ, mx rA (rfR σ (σ 4 2).toNat).2 σ, ?_, ?_, ?_⟩
  · have hw := wh_up (c := wc_X5_insertAll_1) (b := wb_X5_insertAll_1) (fun k L τ => 0 ≤ k ∧ L = [none, some (rfR σ k.toNat).1, some k] ∧ τ = mx cA (rfR σ k.toNat).2 σ) (fun _ => False) (σ 4 2)
      (fun k L τ hk hQ => by
        obtain ⟨h0, rfl, rfl⟩ := hQ
        have i2 := (rfR_J hJ k.toNat (by omega)).2.1
        have : mx cA (rfR σ k.toNat).2 σ 4 2 = σ 4 2 := by rw [mx_at rfl]; exact i2.2.1 2 (by decide)
        simp only [wc_X5_insertAll_1, cs_run, cs_L0, s_ret, s_retz, s_retv, s_seq, s_set, s_inc, s_put, s_ast, s_zst, s_cst, s_ada, s_if, s_ex, s_cv, s_nop, s_brk, x_ite, x_l, x_k, x_f, x_a, x_ro, x_add, x_sub, x_mul, x_div, x_rem, x_neg, x_call, x_max, x_min, x_abs, g_cons, g_nil, y_lt, y_le, y_gt, y_ge, y_eq, y_ne, y_not, y_and, y_or, y_ite, Option.bind_some, Option.bind_none, List.getElem?_cons_zero, List.getElem?_cons_succ, List.getElem?_nil, List.set_cons_zero, List.set_cons_succ, List.cons_append, List.nil_append, List.append_nil, List.replicate, List.length_cons, List.length_nil, Nat.reduceAdd, Nat.reduceSub, Nat.zero_add, Nat.sub_self, if_true, if_false, ite_true, ite_false, reduceIte, reduceCtorEq, decide_true, decide_false, decide_eq_true_eq, Bool.not_true, Bool.not_false, Bool.true_and, Bool.false_and, Bool.and_true, Bool.and_false, Bool.true_or, Bool.false_or, Bool.false_eq_true, Bool.true_eq_false, not_true_eq_false, not_false_eq_true, ne_eq, Int.reduceEq, Int.reduceNe, Int.reduceLT, Int.reduceLE, and_self, and_true, true_and, and_false, false_and, or_true, true_or, or_false, false_or, true_or, Option.map_some, this])
      (fun k L τ hk hQ => by
        obtain ⟨h0, rfl, rfl⟩ := hQ
        obtain ⟨i1, i2, i3, i4⟩ := rfR_J hJ k.toNat (by omega)
        have e2 : (rfR σ k.toNat).2 4 2 = σ 4 2 := i2.2.1 2 (by decide)
        have hbd := rfC_body i1 (v := k) (n := (rfR σ k.toNat).1) (by omega) (by omega)
        rw [fr_wb_X5_insertAll_1, hbd, rfR_s h0]
        by_cases q : Pr (rfR σ k.toNat).2 k = false ∧ inB (rfR σ k.toNat).2 k = true
        · rw [if_pos q, if_pos q]
          exact Or.inl ⟨_, _, rfl, by omega, rfl, mx_mx _ _ _⟩
        · rw [if_neg q, if_neg q]
          exact Or.inl ⟨_, _, rfl, by omega, rfl, rfl⟩)
      (σ 4 2).toNat 0 [none, some 0, some 0] σ (by omega) ⟨by omega, rfl, (mx_same σ).symm⟩
    have g1 : (s_set 1 (x_k 0)) [none, none, none] σ = some (.inl ([none, some 0, none], σ)) := by simp only [cs_run, cs_L0, s_ret, s_retz, s_retv, s_seq, s_set, s_inc, s_put, s_ast, s_zst, s_cst, s_ada, s_if, s_ex, s_cv, s_nop, s_brk, x_ite, x_l, x_k, x_f, x_a, x_ro, x_add, x_sub, x_mul, x_div, x_rem, x_neg, x_call, x_max, x_min, x_abs, g_cons, g_nil, y_lt, y_le, y_gt, y_ge, y_eq, y_ne, y_not, y_and, y_or, y_ite, Option.bind_some, Option.bind_none, List.getElem?_cons_zero, List.getElem?_cons_succ, List.getElem?_nil, List.set_cons_zero, List.set_cons_succ, List.cons_append, List.nil_append, List.append_nil, List.replicate, List.length_cons, List.length_nil, Nat.reduceAdd, Nat.reduceSub, Nat.zero_add, Nat.sub_self, if_true, if_false, ite_true, ite_false, reduceIte, reduceCtorEq, decide_true, decide_false, decide_eq_true_eq, Bool.not_true, Bool.not_false, Bool.true_and, Bool.false_and, Bool.and_true, Bool.and_false, Bool.true_or, Bool.false_or, Bool.false_eq_true, Bool.true_eq_false, not_true_eq_false, not_false_eq_true, ne_eq, Int.reduceEq, Int.reduceNe, Int.reduceLT, Int.reduceLE, and_self, and_true, true_and, and_false, false_and, or_true, true_or, or_false, false_or, true_or, Option.map_some]
    have g2 : (s_set 2 (x_k 0)) [none, some 0, none] σ = some (.inl ([none, some 0, some 0], σ)) := by simp only [cs_run, cs_L0, s_ret, s_retz, s_retv, s_seq, s_set, s_inc, s_put, s_ast, s_zst, s_cst, s_ada, s_if, s_ex, s_cv, s_nop, s_brk, x_ite, x_l, x_k, x_f, x_a, x_ro, x_add, x_sub, x_mul, x_div, x_rem, x_neg, x_call, x_max, x_min, x_abs, g_cons, g_nil, y_lt, y_le, y_gt, y_ge, y_eq, y_ne, y_not, y_and, y_or, y_ite, Option.bind_some, Option.bind_none, List.getElem?_cons_zero, List.getElem?_cons_succ, List.getElem?_nil, List.set_cons_zero, List.set_cons_succ, List.cons_append, List.nil_append, List.append_nil, List.replicate, List.length_cons, List.length_nil, Nat.reduceAdd, Nat.reduceSub, Nat.zero_add, Nat.sub_self, if_true, if_false, ite_true, ite_false, reduceIte, reduceCtorEq, decide_true, decide_false, decide_eq_true_eq, Bool.not_true, Bool.not_false, Bool.true_and, Bool.false_and, Bool.and_true, Bool.and_false, Bool.true_or, Bool.false_or, Bool.false_eq_true, Bool.true_eq_false, not_true_eq_false, not_false_eq_true, ne_eq, Int.reduceEq, Int.reduceNe, Int.reduceLT, Int.reduceLE, and_self, and_true, true_and, and_false, false_and, or_true, true_or, or_false, false_or, true_or, Option.map_some]
    have hi : f_X5_insertAll [] σ = some (some (rfR σ (σ 4 2).toNat).1, mx cA (rfR σ (σ 4 2).toNat).2 σ) := by
      unfold f_X5_insertAll b_X5_insertAll cs_run
      simp only [cs_L0, Option.bind_some, Option.bind_none, List.getElem?_cons_zero, List.getElem?_cons_succ, List.getElem?_nil, List.set_cons_zero, List.set_cons_succ, List.cons_append, List.nil_append, List.append_nil, List.replicate, List.length_cons, List.length_nil, Nat.reduceAdd, Nat.reduceSub, Nat.zero_add, Nat.sub_self, if_true, if_false, ite_true, ite_false, reduceIte, reduceCtorEq, decide_true, decide_false, decide_eq_true_eq, Bool.not_true, Bool.not_false, Bool.true_and, Bool.false_and, Bool.and_true, Bool.and_false, Bool.true_or, Bool.false_or, Bool.false_eq_true, Bool.true_eq_false, not_true_eq_false, not_false_eq_true, ne_eq, Int.reduceEq, Int.reduceNe, Int.reduceLT, Int.reduceLE, and_self, and_true, true_and, and_false, false_and, or_true, true_or, or_false, false_or, true_or, Option.map_some]
      rw [sq_st g1, sq_assoc, sq_st g2, w_X5_insertAll_1]
      rcases hw with ⟨L', σ', e, -, rfl, rfl⟩ | ⟨r, -, hx⟩
      · rw [sq_st e]
        simp only [cs_run, cs_L0, s_ret, s_retz, s_retv, s_seq, s_set, s_inc, s_put, s_ast, s_zst, s_cst, s_ada, s_if, s_ex, s_cv, s_nop, s_brk, x_ite, x_l, x_k, x_f, x_a, x_ro, x_add, x_sub, x_mul, x_div, x_rem, x_neg, x_call, x_max, x_min, x_abs, g_cons, g_nil, y_lt, y_le, y_gt, y_ge, y_eq, y_ne, y_not, y_and, y_or, y_ite, Option.bind_some, Option.bind_none, List.getElem?_cons_zero, List.getElem?_cons_succ, List.getElem?_nil, List.set_cons_zero, List.set_cons_succ, List.cons_append, List.nil_append, List.append_nil, List.replicate, List.length_cons, List.length_nil, Nat.reduceAdd, Nat.reduceSub, Nat.zero_add, Nat.sub_self, if_true, if_false, ite_true, ite_false, reduceIte, reduceCtorEq, decide_true, decide_false, decide_eq_true_eq, Bool.not_true, Bool.not_false, Bool.true_and, Bool.false_and, Bool.and_true, Bool.and_false, Bool.true_or, Bool.false_or, Bool.false_eq_true, Bool.true_eq_false, not_true_eq_false, not_false_eq_true, ne_eq, Int.reduceEq, Int.reduceNe, Int.reduceLT, Int.reduceLE, and_self, and_true, true_and, and_false, false_and, or_true, true_or, or_false, false_or, true_or, Option.map_some]
      · exact hx.elim
    simp only [f_X9_refine, b_X9_refine, cs_run, cs_L0, s_ret, s_retz, s_retv, s_seq, s_set, s_inc, s_put, s_ast, s_zst, s_cst, s_ada, s_if, s_ex, s_cv, s_nop, s_brk, x_ite, x_l, x_k, x_f, x_a, x_ro, x_add, x_sub, x_mul, x_div, x_rem, x_neg, x_call, x_max, x_min, x_abs, g_cons, g_nil, y_lt, y_le, y_gt, y_ge, y_eq, y_ne, y_not, y_and, y_or, y_ite, Option.bind_some, Option.bind_none, List.getElem?_cons_zero, List.getElem?_cons_succ, List.getElem?_nil, List.set_cons_zero, List.set_cons_succ, List.cons_append, List.nil_append, List.append_nil, List.replicate, List.length_cons, List.length_nil, Nat.reduceAdd, Nat.reduceSub, Nat.zero_add, Nat.sub_self, if_true, if_false, ite_true, ite_false, reduceIte, reduceCtorEq, decide_true, decide_false, decide_eq_true_eq, Bool.not_true, Bool.not_false, Bool.true_and, Bool.false_and, Bool.and_true, Bool.and_false, Bool.true_or, Bool.false_or, Bool.false_eq_true, Bool.true_eq_false, not_true_eq_false, not_false_eq_true, ne_eq, Int.reduceEq, Int.reduceNe, Int.reduceLT, Int.reduceLE, and_self, and_true, true_and, and_false, false_and, or_true, true_or, or_false, false_or, true_or, Option.map_some, hi]
  · obtain ⟨h, h2, hR, hS, hH⟩ := id hJ
    have hw := wh_nest (c1 := wc_X10_refine_1) (c2 := wc_X10_refine_2) (b1 := wb_X10_refine_1) (st := s_set 3 (x_a 32 256 (x_l 2))) (inc := s_inc 2 1) (σ 15) (σ 4 1)
      (fun k L τ => (∃ o3, L = [none, some (rfR σ (if k < σ 4 1 then σ 15 k.toNat else σ 4 2).toNat).1, some k, o3]) ∧ τ = mx rA (rfR σ (if k < σ 4 1 then σ 15 k.toNat else σ 4 2).toNat).2 σ)
      (fun k u L τ => L = [none, some (rfR σ u.toNat).1, some k, some u] ∧ τ = mx rA (rfR σ u.toNat).2 σ)
      (fun _ => False)
      (fun k h0 h1 => (h.2.1 k.toNat (by omega)).2.1)
      (fun k L τ h0 hk hQ => by
        obtain ⟨⟨o3, rfl⟩, rfl⟩ := hQ
        have hm : (if k < σ 4 1 then σ 15 k.toNat else σ 4 2) ≤ σ 4 2 := by
          split
          · have := h.2.1 k.toNat (by omega); omega
          · omega
        have i2 := (rfR_J hJ (if k < σ 4 1 then σ 15 k.toNat else σ 4 2).toNat (by omega)).2.1
        generalize (if k < σ 4 1 then σ 15 k.toNat else σ 4 2).toNat = m at *
        have : mx rA (rfR σ m).2 σ 10 7 = σ 4 1 := by rw [mx_at rfl, i2.2.2 7 (by decide), hR.1]
        simp only [wc_X10_refine_2, cs_run, cs_L0, s_ret, s_retz, s_retv, s_seq, s_set, s_inc, s_put, s_ast, s_zst, s_cst, s_ada, s_if, s_ex, s_cv, s_nop, s_brk, x_ite, x_l, x_k, x_f, x_a, x_ro, x_add, x_sub, x_mul, x_div, x_rem, x_neg, x_call, x_max, x_min, x_abs, g_cons, g_nil, y_lt, y_le, y_gt, y_ge, y_eq, y_ne, y_not, y_and, y_or, y_ite, Option.bind_some, Option.bind_none, List.getElem?_cons_zero, List.getElem?_cons_succ, List.getElem?_nil, List.set_cons_zero, List.set_cons_succ, List.cons_append, List.nil_append, List.append_nil, List.replicate, List.length_cons, List.length_nil, Nat.reduceAdd, Nat.reduceSub, Nat.zero_add, Nat.sub_self, if_true, if_false, ite_true, ite_false, reduceIte, reduceCtorEq, decide_true, decide_false, decide_eq_true_eq, Bool.not_true, Bool.not_false, Bool.true_and, Bool.false_and, Bool.and_true, Bool.and_false, Bool.true_or, Bool.false_or, Bool.false_eq_true, Bool.true_eq_false, not_true_eq_false, not_false_eq_true, ne_eq, Int.reduceEq, Int.reduceNe, Int.reduceLT, Int.reduceLE, and_self, and_true, true_and, and_false, false_and, or_true, true_or, or_false, false_or, true_or, Option.map_some, this])
      (fun k L τ h0 hk hQ => by
        obtain ⟨⟨o3, rfl⟩, rfl⟩ := hQ
        rw [if_pos hk]
        have hk1 := h.2.1 k.toNat (by omega)
        have c1 : (0 : Int) ≤ k ∧ k < ((256 : Nat) : Int) := by omega
        have r1 := (hR.2.2 k.toNat (by omega)).1
        have i2 := (rfR_J hJ (σ 15 k.toNat).toNat (by omega)).2.1
        have : mx rA (rfR σ (σ 15 k.toNat).toNat).2 σ 32 k.toNat = σ 15 k.toNat := by rw [mx_at rfl, i2.1 32 (by decide) (by decide) (by decide) (by decide) (by decide) (by decide) (by decide) (by decide) (by decide) (by decide) (by decide), r1]
        exact ⟨[none, some (rfR σ (σ 15 k.toNat).toNat).1, some k, some (σ 15 k.toNat)], by simp only [cs_run, cs_L0, s_ret, s_retz, s_retv, s_seq, s_set, s_inc, s_put, s_ast, s_zst, s_cst, s_ada, s_if, s_ex, s_cv, s_nop, s_brk, x_ite, x_l, x_k, x_f, x_a, x_ro, x_add, x_sub, x_mul, x_div, x_rem, x_neg, x_call, x_max, x_min, x_abs, g_cons, g_nil, y_lt, y_le, y_gt, y_ge, y_eq, y_ne, y_not, y_and, y_or, y_ite, Option.bind_some, Option.bind_none, List.getElem?_cons_zero, List.getElem?_cons_succ, List.getElem?_nil, List.set_cons_zero, List.set_cons_succ, List.cons_append, List.nil_append, List.append_nil, List.replicate, List.length_cons, List.length_nil, Nat.reduceAdd, Nat.reduceSub, Nat.zero_add, Nat.sub_self, if_true, if_false, ite_true, ite_false, reduceIte, reduceCtorEq, decide_true, decide_false, decide_eq_true_eq, Bool.not_true, Bool.not_false, Bool.true_and, Bool.false_and, Bool.and_true, Bool.and_false, Bool.true_or, Bool.false_or, Bool.false_eq_true, Bool.true_eq_false, not_true_eq_false, not_false_eq_true, ne_eq, Int.reduceEq, Int.reduceNe, Int.reduceLT, Int.reduceLE, and_self, and_true, true_and, and_false, false_and, or_true, true_or, or_false, false_or, true_or, Option.map_some, cs_rd_ok c1, this], rfl, rfl⟩)
      (fun k u L τ h0 hk hu1 hu2 hQ => by
        obtain ⟨rfl, rfl⟩ := hQ
        have hk1 := h.2.1 k.toNat (by omega)
        obtain ⟨i1, i2, -, -⟩ := rfR_J hJ u.toNat (by omega)
        have e15 : (rfR σ u.toNat).2 15 = σ 15 := i2.1 15 (by decide) (by decide) (by decide) (by decide) (by decide) (by decide) (by decide) (by decide) (by decide) (by decide) (by decide)
        have he : f_X10_endOf [k] (mx rA (rfR σ u.toNat).2 σ) = some (some (σ 15 (k.toNat + 1)), mx rA (rfR σ u.toNat).2 σ) := by
          rw [fr_f_X10_endOf, f_endOf i1.1 i1.2.2.1 (c := k) (by rw [i2.2.1 1 (by decide)]; exact ⟨h0, hk⟩), e15]
          rfl
        simp only [wc_X10_refine_1, cs_run, cs_L0, s_ret, s_retz, s_retv, s_seq, s_set, s_inc, s_put, s_ast, s_zst, s_cst, s_ada, s_if, s_ex, s_cv, s_nop, s_brk, x_ite, x_l, x_k, x_f, x_a, x_ro, x_add, x_sub, x_mul, x_div, x_rem, x_neg, x_call, x_max, x_min, x_abs, g_cons, g_nil, y_lt, y_le, y_gt, y_ge, y_eq, y_ne, y_not, y_and, y_or, y_ite, Option.bind_some, Option.bind_none, List.getElem?_cons_zero, List.getElem?_cons_succ, List.getElem?_nil, List.set_cons_zero, List.set_cons_succ, List.cons_append, List.nil_append, List.append_nil, List.replicate, List.length_cons, List.length_nil, Nat.reduceAdd, Nat.reduceSub, Nat.zero_add, Nat.sub_self, if_true, if_false, ite_true, ite_false, reduceIte, reduceCtorEq, decide_true, decide_false, decide_eq_true_eq, Bool.not_true, Bool.not_false, Bool.true_and, Bool.false_and, Bool.and_true, Bool.and_false, Bool.true_or, Bool.false_or, Bool.false_eq_true, Bool.true_eq_false, not_true_eq_false, not_false_eq_true, ne_eq, Int.reduceEq, Int.reduceNe, Int.reduceLT, Int.reduceLE, and_self, and_true, true_and, and_false, false_and, or_true, true_or, or_false, false_or, true_or, Option.map_some, he])
      (fun k u L τ h0 hk hu1 hu2 hQ => by
        obtain ⟨rfl, rfl⟩ := hQ
        have hk1 := h.2.1 k.toNat (by omega)
        obtain ⟨i1, i2, i3, i4⟩ := rfR_J hJ u.toNat (by omega)
        have e2 : (rfR σ u.toNat).2 4 2 = σ 4 2 := i2.2.1 2 (by decide)
        have e20 : (rfR σ u.toNat).2 20 = σ 20 := i2.1 20 (by decide) (by decide) (by decide) (by decide) (by decide) (by decide) (by decide) (by decide) (by decide) (by decide) (by decide)
        have hbd := rfRf_body i1 (c := k) (v := u) (n := (rfR σ u.toNat).1) (by omega) (by rw [e20]; exact (own_eq h ⟨h0, hk⟩ hu1 hu2).symm) (by omega)
        rw [fr_wb_X10_refine_1, hbd, rfR_s (k := u) (by omega)]
        by_cases q : Pr (rfR σ u.toNat).2 u = false ∧ inB (rfR σ u.toNat).2 u = true
        · rw [if_pos q, if_pos q]
          exact Or.inl ⟨_, _, rfl, rfl, mx_mx _ _ _⟩
        · rw [if_neg q, if_neg q]
          exact Or.inl ⟨_, _, rfl, rfl, rfl⟩)
      (fun k L τ h0 hk hQ => by
        obtain ⟨rfl, rfl⟩ := hQ
        have c2 : cs_InR (k + 1) := by omega
        have e : (if k + 1 < σ 4 1 then σ 15 (k + 1).toNat else σ 4 2) = σ 15 (k.toNat + 1) := by
          by_cases q : k + 1 < σ 4 1
          · rw [if_pos q, show (k + 1).toNat = k.toNat + 1 by omega]
          · rw [if_neg q, ← hb.2.2.2.2 (by omega), show k.toNat + 1 = (σ 4 1).toNat by omega]
        rw [e]
        exact ⟨[none, some (rfR σ (σ 15 (k.toNat + 1)).toNat).1, some (k + 1), some (σ 15 (k.toNat + 1))], by simp only [cs_run, cs_L0, s_ret, s_retz, s_retv, s_seq, s_set, s_inc, s_put, s_ast, s_zst, s_cst, s_ada, s_if, s_ex, s_cv, s_nop, s_brk, x_ite, x_l, x_k, x_f, x_a, x_ro, x_add, x_sub, x_mul, x_div, x_rem, x_neg, x_call, x_max, x_min, x_abs, g_cons, g_nil, y_lt, y_le, y_gt, y_ge, y_eq, y_ne, y_not, y_and, y_or, y_ite, Option.bind_some, Option.bind_none, List.getElem?_cons_zero, List.getElem?_cons_succ, List.getElem?_nil, List.set_cons_zero, List.set_cons_succ, List.cons_append, List.nil_append, List.append_nil, List.replicate, List.length_cons, List.length_nil, Nat.reduceAdd, Nat.reduceSub, Nat.zero_add, Nat.sub_self, if_true, if_false, ite_true, ite_false, reduceIte, reduceCtorEq, decide_true, decide_false, decide_eq_true_eq, Bool.not_true, Bool.not_false, Bool.true_and, Bool.false_and, Bool.and_true, Bool.and_false, Bool.true_or, Bool.false_or, Bool.false_eq_true, Bool.true_eq_false, not_true_eq_false, not_false_eq_true, ne_eq, Int.reduceEq, Int.reduceNe, Int.reduceLT, Int.reduceLE, and_self, and_true, true_and, and_false, false_and, or_true, true_or, or_false, false_or, true_or, Option.map_some, cs_chk_ok c2], ⟨_, rfl⟩, rfl⟩)
      (σ 4 1).toNat 0 [none, some 0, some 0, none] σ (by omega) (by omega) (by
        have e : (if 0 < σ 4 1 then σ 15 (0 : Int).toNat else σ 4 2) = 0 := by
          by_cases q : 0 < σ 4 1
          · rw [if_pos q]; exact hb.2.2.2.1 (by omega)
          · rw [if_neg q]; exact hb.2.2.1 (by omega)
        rw [e]
        exact ⟨⟨none, rfl⟩, (mx_same σ).symm⟩)
    have g1 : (s_set 1 (x_k 0)) [none, none, none, none] σ = some (.inl ([none, some 0, none, none], σ)) := by simp only [cs_run, cs_L0, s_ret, s_retz, s_retv, s_seq, s_set, s_inc, s_put, s_ast, s_zst, s_cst, s_ada, s_if, s_ex, s_cv, s_nop, s_brk, x_ite, x_l, x_k, x_f, x_a, x_ro, x_add, x_sub, x_mul, x_div, x_rem, x_neg, x_call, x_max, x_min, x_abs, g_cons, g_nil, y_lt, y_le, y_gt, y_ge, y_eq, y_ne, y_not, y_and, y_or, y_ite, Option.bind_some, Option.bind_none, List.getElem?_cons_zero, List.getElem?_cons_succ, List.getElem?_nil, List.set_cons_zero, List.set_cons_succ, List.cons_append, List.nil_append, List.append_nil, List.replicate, List.length_cons, List.length_nil, Nat.reduceAdd, Nat.reduceSub, Nat.zero_add, Nat.sub_self, if_true, if_false, ite_true, ite_false, reduceIte, reduceCtorEq, decide_true, decide_false, decide_eq_true_eq, Bool.not_true, Bool.not_false, Bool.true_and, Bool.false_and, Bool.and_true, Bool.and_false, Bool.true_or, Bool.false_or, Bool.false_eq_true, Bool.true_eq_false, not_true_eq_false, not_false_eq_true, ne_eq, Int.reduceEq, Int.reduceNe, Int.reduceLT, Int.reduceLE, and_self, and_true, true_and, and_false, false_and, or_true, true_or, or_false, false_or, true_or, Option.map_some]
    have g2 : (s_set 2 (x_k 0)) [none, some 0, none, none] σ = some (.inl ([none, some 0, some 0, none], σ)) := by simp only [cs_run, cs_L0, s_ret, s_retz, s_retv, s_seq, s_set, s_inc, s_put, s_ast, s_zst, s_cst, s_ada, s_if, s_ex, s_cv, s_nop, s_brk, x_ite, x_l, x_k, x_f, x_a, x_ro, x_add, x_sub, x_mul, x_div, x_rem, x_neg, x_call, x_max, x_min, x_abs, g_cons, g_nil, y_lt, y_le, y_gt, y_ge, y_eq, y_ne, y_not, y_and, y_or, y_ite, Option.bind_some, Option.bind_none, List.getElem?_cons_zero, List.getElem?_cons_succ, List.getElem?_nil, List.set_cons_zero, List.set_cons_succ, List.cons_append, List.nil_append, List.append_nil, List.replicate, List.length_cons, List.length_nil, Nat.reduceAdd, Nat.reduceSub, Nat.zero_add, Nat.sub_self, if_true, if_false, ite_true, ite_false, reduceIte, reduceCtorEq, decide_true, decide_false, decide_eq_true_eq, Bool.not_true, Bool.not_false, Bool.true_and, Bool.false_and, Bool.and_true, Bool.and_false, Bool.true_or, Bool.false_or, Bool.false_eq_true, Bool.true_eq_false, not_true_eq_false, not_false_eq_true, ne_eq, Int.reduceEq, Int.reduceNe, Int.reduceLT, Int.reduceLE, and_self, and_true, true_and, and_false, false_and, or_true, true_or, or_false, false_or, true_or, Option.map_some]
    unfold f_X10_refine b_X10_refine cs_run
    simp only [cs_L0, Option.bind_some, Option.bind_none, List.getElem?_cons_zero, List.getElem?_cons_succ, List.getElem?_nil, List.set_cons_zero, List.set_cons_succ, List.cons_append, List.nil_append, List.append_nil, List.replicate, List.length_cons, List.length_nil, Nat.reduceAdd, Nat.reduceSub, Nat.zero_add, Nat.sub_self, if_true, if_false, ite_true, ite_false, reduceIte, reduceCtorEq, decide_true, decide_false, decide_eq_true_eq, Bool.not_true, Bool.not_false, Bool.true_and, Bool.false_and, Bool.and_true, Bool.and_false, Bool.true_or, Bool.false_or, Bool.false_eq_true, Bool.true_eq_false, not_true_eq_false, not_false_eq_true, ne_eq, Int.reduceEq, Int.reduceNe, Int.reduceLT, Int.reduceLE, and_self, and_true, true_and, and_false, false_and, or_true, true_or, or_false, false_or, true_or, Option.map_some]
    rw [sq_st g1, sq_assoc, sq_st g2, w_X10_refine_2, wb_X10_refine_2, w_X10_refine_1]
    rcases hw with ⟨L', σ', e, ⟨o3, rfl⟩, rfl⟩ | ⟨r, -, hx⟩
    · rw [sq_st e, if_neg (by omega)]
      simp only [cs_run, cs_L0, s_ret, s_retz, s_retv, s_seq, s_set, s_inc, s_put, s_ast, s_zst, s_cst, s_ada, s_if, s_ex, s_cv, s_nop, s_brk, x_ite, x_l, x_k, x_f, x_a, x_ro, x_add, x_sub, x_mul, x_div, x_rem, x_neg, x_call, x_max, x_min, x_abs, g_cons, g_nil, y_lt, y_le, y_gt, y_ge, y_eq, y_ne, y_not, y_and, y_or, y_ite, Option.bind_some, Option.bind_none, List.getElem?_cons_zero, List.getElem?_cons_succ, List.getElem?_nil, List.set_cons_zero, List.set_cons_succ, List.cons_append, List.nil_append, List.append_nil, List.replicate, List.length_cons, List.length_nil, Nat.reduceAdd, Nat.reduceSub, Nat.zero_add, Nat.sub_self, if_true, if_false, ite_true, ite_false, reduceIte, reduceCtorEq, decide_true, decide_false, decide_eq_true_eq, Bool.not_true, Bool.not_false, Bool.true_and, Bool.false_and, Bool.and_true, Bool.and_false, Bool.true_or, Bool.false_or, Bool.false_eq_true, Bool.true_eq_false, not_true_eq_false, not_false_eq_true, ne_eq, Int.reduceEq, Int.reduceNe, Int.reduceLT, Int.reduceLE, and_self, and_true, true_and, and_false, false_and, or_true, true_or, or_false, false_or, true_or, Option.map_some]
    · exact hx.elim
  · rw [mx_join]
    exact ⟨j1, j2⟩
