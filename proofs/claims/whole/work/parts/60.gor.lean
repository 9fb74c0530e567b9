/-! one contour, the reference's way: the loop -/
theorem addR_set (τ : cs_S) (x y : Int) : cs_set (cs_set (cs_set (cs_set τ 37 (au (τ 37) (τ 10 8).toNat x)) 38 (au (τ 38) (τ 10 8).toNat y)) 39 (au (τ 39) (τ 10 8).toNat 1)) 10 (au (τ 10) 8 (τ 10 8 + 1)) = addR τ x y := by
  funext p
  unfold addR cs_set
  by_cases p10 : p = 10
  · subst p10; simp
  · by_cases p37 : p = 37
    · subst p37; simp
    · by_cases p38 : p = 38
      · subst p38; simp
      · simp [p10, p37, p38]
theorem markR_set (τ : cs_S) (a : Arw) (c : Nat) : cs_set (cs_set τ 40 (au (τ 40) (cix a.1 a.2.1) (if τ 40 (cix a.1 a.2.1) ≠ 0 ∨ a.2.2 = 0 then 1 else 0))) 35 (au (τ 35) c (τ 35 c + 1)) = markR τ a c := by
  funext p
  unfold markR cs_set
  by_cases p35 : p = 35
  · subst p35; simp
  · by_cases p40 : p = 40
    · subst p40; simp
    · simp [p35, p40]
theorem gr_vtx (τ : cs_S) (x0 y0 rf c x y d b : Int) (hv : 0 ≤ τ 10 8 ∧ τ 10 8 < 512) :
    (s_if (y_ne (x_l 7) (x_l 8)) (s_seq (s_ast 37 512 (x_f 10 8) (x_l 5)) (s_seq (s_ast 38 512 (x_f 10 8) (x_l 6)) (s_seq (s_zst 39 512 (x_f 10 8) (x_k 1)) (s_put 10 8 (x_add (x_f 10 8) (x_k 1)))))) s_nop) [none, some x0, some y0, some rf, some c, some x, some y, some d, some b, some 1] τ = some (.inl ([none, some x0, some y0, some rf, some c, some x, some y, some d, some b, some 1], if d ≠ b then addR τ x y else τ)) := by
  by_cases e : d = b
  · simp only [cs_run, cs_L0, s_ret, s_retz, s_retv, s_seq, s_set, s_inc, s_put, s_ast, s_zst, s_cst, s_ada, s_if, s_ex, s_cv, s_nop, s_brk, x_ite, x_l, x_k, x_f, x_a, x_ro, x_add, x_sub, x_mul, x_div, x_rem, x_neg, x_call, x_max, x_min, x_abs, g_cons, g_nil, y_lt, y_le, y_gt, y_ge, y_eq, y_ne, y_not, y_and, y_or, y_ite, Option.bind_some, Option.bind_none, List.getElem?_cons_zero, List.getElem?_cons_succ, List.getElem?_nil, List.set_cons_zero, List.set_cons_succ, List.cons_append, List.nil_append, List.append_nil, List.replicate, List.length_cons, List.length_nil, Nat.reduceAdd, Nat.reduceSub, Nat.zero_add, Nat.sub_self, if_true, if_false, ite_true, ite_false, reduceIte, reduceCtorEq, decide_true, decide_false, decide_eq_true_eq, Bool.not_true, Bool.not_false, Bool.true_and, Bool.false_and, Bool.and_true, Bool.and_false, Bool.true_or, Bool.false_or, Bool.false_eq_true, Bool.true_eq_false, not_true_eq_false, not_false_eq_true, ne_eq, Int.reduceEq, Int.reduceNe, Int.reduceLT, Int.reduceLE, and_self, and_true, true_and, and_false, false_and, or_true, true_or, or_false, false_or, true_or, Option.map_some, e]
  · rw [if_pos e]
    have hst := addR_set τ x y
    simp (disch := first | omega | decide) only [cs_run, cs_L0, s_ret, s_retz, s_retv, s_seq, s_set, s_inc, s_put, s_ast, s_zst, s_cst, s_ada, s_if, s_ex, s_cv, s_nop, s_brk, x_ite, x_l, x_k, x_f, x_a, x_ro, x_add, x_sub, x_mul, x_div, x_rem, x_neg, x_call, x_max, x_min, x_abs, g_cons, g_nil, y_lt, y_le, y_gt, y_ge, y_eq, y_ne, y_not, y_and, y_or, y_ite, Option.bind_some, Option.bind_none, List.getElem?_cons_zero, List.getElem?_cons_succ, List.getElem?_nil, List.set_cons_zero, List.set_cons_succ, List.cons_append, List.nil_append, List.append_nil, List.replicate, List.length_cons, List.length_nil, Nat.reduceAdd, Nat.reduceSub, Nat.zero_add, Nat.sub_self, if_true, if_false, ite_true, ite_false, reduceIte, reduceCtorEq, decide_true, decide_false, decide_eq_true_eq, Bool.not_true, Bool.not_false, Bool.true_and, Bool.false_and, Bool.and_true, Bool.and_false, Bool.true_or, Bool.false_or, Bool.false_eq_true, Bool.true_eq_false, not_true_eq_false, not_false_eq_true, ne_eq, Int.reduceEq, Int.reduceNe, Int.reduceLT, Int.reduceLE, and_self, and_true, true_and, and_false, false_and, or_true, true_or, or_false, false_or, true_or, Option.map_some, cs_chk_ok, cs_wr_ok, e, cs_up_eq, cs_set_at, cs_set_ne, hst]
theorem gr_m40 (τ : cs_S) (x0 y0 rf c x y d b : Int) (hx : 0 ≤ x ∧ x ≤ 16) (hy : 0 ≤ y ∧ y ≤ 12) :
    (s_zst 40 221 (x_add (x_mul (x_k 17) (x_l 6)) (x_l 5)) (x_ite (y_or (y_ne (x_a 40 221 (x_add (x_mul (x_k 17) (x_l 6)) (x_l 5))) (x_k 0)) (y_eq (x_l 7) (x_k 0))) (x_k 1) (x_k 0))) [none, some x0, some y0, some rf, some c, some x, some y, some d, some b, some 1] τ = some (.inl ([none, some x0, some y0, some rf, some c, some x, some y, some d, some b, some 1], cs_set τ 40 (au (τ 40) (cix x y) (if τ 40 (cix x y) ≠ 0 ∨ d = 0 then 1 else 0)))) := by
  have e1 : (17 * y + x).toNat = cix x y := rfl
  by_cases q1 : τ 40 (cix x y) = 0
  · by_cases q2 : d = 0
    · simp (disch := omega) only [cs_run, cs_L0, s_ret, s_retz, s_retv, s_seq, s_set, s_inc, s_put, s_ast, s_zst, s_cst, s_ada, s_if, s_ex, s_cv, s_nop, s_brk, x_ite, x_l, x_k, x_f, x_a, x_ro, x_add, x_sub, x_mul, x_div, x_rem, x_neg, x_call, x_max, x_min, x_abs, g_cons, g_nil, y_lt, y_le, y_gt, y_ge, y_eq, y_ne, y_not, y_and, y_or, y_ite, Option.bind_some, Option.bind_none, List.getElem?_cons_zero, List.getElem?_cons_succ, List.getElem?_nil, List.set_cons_zero, List.set_cons_succ, List.cons_append, List.nil_append, List.append_nil, List.replicate, List.length_cons, List.length_nil, Nat.reduceAdd, Nat.reduceSub, Nat.zero_add, Nat.sub_self, if_true, if_false, ite_true, ite_false, reduceIte, reduceCtorEq, decide_true, decide_false, decide_eq_true_eq, Bool.not_true, Bool.not_false, Bool.true_and, Bool.false_and, Bool.and_true, Bool.and_false, Bool.true_or, Bool.false_or, Bool.false_eq_true, Bool.true_eq_false, not_true_eq_false, not_false_eq_true, ne_eq, Int.reduceEq, Int.reduceNe, Int.reduceLT, Int.reduceLE, and_self, and_true, true_and, and_false, false_and, or_true, true_or, or_false, false_or, true_or, Option.map_some, cs_chk_ok, cs_rd_ok, cs_wr_ok, cs_up_eq, e1, q1, q2]
    · simp (disch := omega) only [cs_run, cs_L0, s_ret, s_retz, s_retv, s_seq, s_set, s_inc, s_put, s_ast, s_zst, s_cst, s_ada, s_if, s_ex, s_cv, s_nop, s_brk, x_ite, x_l, x_k, x_f, x_a, x_ro, x_add, x_sub, x_mul, x_div, x_rem, x_neg, x_call, x_max, x_min, x_abs, g_cons, g_nil, y_lt, y_le, y_gt, y_ge, y_eq, y_ne, y_not, y_and, y_or, y_ite, Option.bind_some, Option.bind_none, List.getElem?_cons_zero, List.getElem?_cons_succ, List.getElem?_nil, List.set_cons_zero, List.set_cons_succ, List.cons_append, List.nil_append, List.append_nil, List.replicate, List.length_cons, List.length_nil, Nat.reduceAdd, Nat.reduceSub, Nat.zero_add, Nat.sub_self, if_true, if_false, ite_true, ite_false, reduceIte, reduceCtorEq, decide_true, decide_false, decide_eq_true_eq, Bool.not_true, Bool.not_false, Bool.true_and, Bool.false_and, Bool.and_true, Bool.and_false, Bool.true_or, Bool.false_or, Bool.false_eq_true, Bool.true_eq_false, not_true_eq_false, not_false_eq_true, ne_eq, Int.reduceEq, Int.reduceNe, Int.reduceLT, Int.reduceLE, and_self, and_true, true_and, and_false, false_and, or_true, true_or, or_false, false_or, true_or, Option.map_some, cs_chk_ok, cs_rd_ok, cs_wr_ok, cs_up_eq, e1, q1, q2]
  · simp (disch := omega) only [cs_run, cs_L0, s_ret, s_retz, s_retv, s_seq, s_set, s_inc, s_put, s_ast, s_zst, s_cst, s_ada, s_if, s_ex, s_cv, s_nop, s_brk, x_ite, x_l, x_k, x_f, x_a, x_ro, x_add, x_sub, x_mul, x_div, x_rem, x_neg, x_call, x_max, x_min, x_abs, g_cons, g_nil, y_lt, y_le, y_gt, y_ge, y_eq, y_ne, y_not, y_and, y_or, y_ite, Option.bind_some, Option.bind_none, List.getElem?_cons_zero, List.getElem?_cons_succ, List.getElem?_nil, List.set_cons_zero, List.set_cons_succ, List.cons_append, List.nil_append, List.append_nil, List.replicate, List.length_cons, List.length_nil, Nat.reduceAdd, Nat.reduceSub, Nat.zero_add, Nat.sub_self, if_true, if_false, ite_true, ite_false, reduceIte, reduceCtorEq, decide_true, decide_false, decide_eq_true_eq, Bool.not_true, Bool.not_false, Bool.true_and, Bool.false_and, Bool.and_true, Bool.and_false, Bool.true_or, Bool.false_or, Bool.false_eq_true, Bool.true_eq_false, not_true_eq_false, not_false_eq_true, ne_eq, Int.reduceEq, Int.reduceNe, Int.reduceLT, Int.reduceLE, and_self, and_true, true_and, and_false, false_and, or_true, true_or, or_false, false_or, true_or, Option.map_some, cs_chk_ok, cs_rd_ok, cs_wr_ok, cs_up_eq, e1, q1]
theorem gr_m35 (τ : cs_S) (x0 y0 rf x y d b : Int) (c : Nat) (hc : c < 256) (hb : 0 ≤ τ 35 c ∧ τ 35 c ≤ 1000) :
    (s_ada 35 256 (x_l 4) (x_k 1)) [none, some x0, some y0, some rf, some (c : Int), some x, some y, some d, some b, some 1] τ = some (.inl ([none, some x0, some y0, some rf, some (c : Int), some x, some y, some d, some b, some 1], cs_set τ 35 (au (τ 35) c (τ 35 c + 1)))) := by
  have c1 : (0 : Int) ≤ (c : Int) ∧ (c : Int) < ((256 : Nat) : Int) := by omega
  have c2 : cs_InR (τ 35 c + 1) := by omega
  simp only [cs_run, cs_L0, s_ret, s_retz, s_retv, s_seq, s_set, s_inc, s_put, s_ast, s_zst, s_cst, s_ada, s_if, s_ex, s_cv, s_nop, s_brk, x_ite, x_l, x_k, x_f, x_a, x_ro, x_add, x_sub, x_mul, x_div, x_rem, x_neg, x_call, x_max, x_min, x_abs, g_cons, g_nil, y_lt, y_le, y_gt, y_ge, y_eq, y_ne, y_not, y_and, y_or, y_ite, Option.bind_some, Option.bind_none, List.getElem?_cons_zero, List.getElem?_cons_succ, List.getElem?_nil, List.set_cons_zero, List.set_cons_succ, List.cons_append, List.nil_append, List.append_nil, List.replicate, List.length_cons, List.length_nil, Nat.reduceAdd, Nat.reduceSub, Nat.zero_add, Nat.sub_self, if_true, if_false, ite_true, ite_false, reduceIte, reduceCtorEq, decide_true, decide_false, decide_eq_true_eq, Bool.not_true, Bool.not_false, Bool.true_and, Bool.false_and, Bool.and_true, Bool.and_false, Bool.true_or, Bool.false_or, Bool.false_eq_true, Bool.true_eq_false, not_true_eq_false, not_false_eq_true, ne_eq, Int.reduceEq, Int.reduceNe, Int.reduceLT, Int.reduceLE, and_self, and_true, true_and, and_false, false_and, or_true, true_or, or_false, false_or, true_or, Option.map_some, cs_rd_ok c1, cs_wr_ok c1, toNat_s, cs_chk_ok c2, cs_up_eq]
theorem gor_step (σ0 : cs_S) (hz : szJ (σ0 10 0) (σ0 10 1)) (rf pt : Int) (hrp : (rf = 1 ∧ pt = 1) ∨ (rf = 0 ∧ pt = 3)) (l : List Arw) (hl : Ways (insR σ0) pt l) (s : Arw) (hs : Vld (insR σ0) s) (hs0 : s.2.2 = 0) (hsl : s ∉ l) (n : Nat) (he : itr (insR σ0) pt n s = s) (hm : ∀ k : Nat, 1 ≤ k → k < n → itr (insR σ0) pt k s ≠ s) (c : Nat) (hc : c < 256) (m i : Nat) (b : Int) (τ : cs_S) (hni : n = i + (m + 1)) (hT : TR σ0 τ c (l.length + i))
    (next : 1 ≤ m → ∀ (b' : Int) (τ' : cs_S), TR σ0 τ' c (l.length + (i + 1)) → ∃ b'', w_X10_goRound_1 [none, some s.1, some s.2.1, some rf, some (c : Int), some (itr (insR σ0) pt (i + 1) s).1, some (itr (insR σ0) pt (i + 1) s).2.1, some (itr (insR σ0) pt (i + 1) s).2.2, some b', some 1] τ' = some (.inl ([none, some s.1, some s.2.1, some rf, some (c : Int), some s.1, some s.2.1, some 0, some b'', some 0], goR (insR σ0) pt c m (itr (insR σ0) pt (i + 1) s) (decide ((itr (insR σ0) pt (i + 1) s).2.2 ≠ b')) τ'))) :
    ∃ b'', w_X10_goRound_1 [none, some s.1, some s.2.1, some rf, some (c : Int), some (itr (insR σ0) pt i s).1, some (itr (insR σ0) pt i s).2.1, some (itr (insR σ0) pt i s).2.2, some b, some 1] τ = some (.inl ([none, some s.1, some s.2.1, some rf, some (c : Int), some s.1, some s.2.1, some 0, some b'', some 0], goR (insR σ0) pt c (m + 1) (itr (insR σ0) pt i s) (decide ((itr (insR σ0) pt i s).2.2 ≠ b)) τ)) := by
  have hpt : pt = 1 ∨ pt = 3 := by omega
  have hnx : itr (insR σ0) pt (i + 1) s = stp (insR σ0) pt (itr (insR σ0) pt i s) := itr_succ i s
  have hva := itr_vld hpt hs i
  obtain ⟨pn, pv⟩ := ways_prefix (n := i + 1) hpt hl hs hsl (fun k h1 h2 => hm k h1 (by omega))
  have hlen := arw_len hz insD_J pn pv
  rw [List.length_append, wlk_len] at hlen
  generalize hA : itr (insR σ0) pt i s = A at *
  have hin := vld_in insD_J hva
  obtain ⟨⟨T1, T2, T3, T4⟩, T5, T6, T7⟩ := id hT
  obtain ⟨x, y, d⟩ := A
  dsimp only at hin
  have hd := hva.1
  dsimp only at hd ⊢
  have h1 := gr_vtx τ s.1 s.2.1 rf (c : Int) x y d b (by omega)
  obtain ⟨τ1, e1⟩ : ∃ τ1, τ1 = if d ≠ b then addR τ x y else τ := ⟨_, rfl⟩
  rw [← e1] at h1
  have h2 := gr_m40 τ1 s.1 s.2.1 rf (c : Int) x y d b (by omega) (by omega)
  obtain ⟨τ2, e2⟩ : ∃ τ2, τ2 = cs_set τ1 40 (au (τ1 40) (cix x y) (if τ1 40 (cix x y) ≠ 0 ∨ d = 0 then 1 else 0)) := ⟨_, rfl⟩
  rw [← e2] at h2
  have f35 : τ2 35 = τ 35 := by
    rw [e2, cs_set_ne (by decide), e1]
    split
    · exact (addR_v τ x y).2.2.1
    · rfl
  have f35' : τ2 35 = τ1 35 := by rw [e2, cs_set_ne (by decide)]
  have h3 := gr_m35 τ2 s.1 s.2.1 rf (x + sx d) (y + sy d) d b c hc (by rw [f35]; omega)
  obtain ⟨τ3, e3⟩ : ∃ τ3, τ3 = cs_set τ2 35 (au (τ2 35) c (τ2 35 c + 1)) := ⟨_, rfl⟩
  rw [← e3] at h3
  have hst : stR τ (x, y, d) c (decide (d ≠ b)) = τ3 := by
    unfold stR
    rw [← markR_set, e3, f35', e2]
    simp only [decide_eq_true_eq]
    rw [← e1]
  have hT3 : TR σ0 τ3 c (l.length + (i + 1)) := by
    rw [← hst]; exact TR_st hT
  obtain ⟨⟨R1, R2, R3, R4⟩, -⟩ := id hT3
  have hsx := sxy d hd.1 hd.2
  have h4 := f_wayOnR τ3 (by rw [R1, R2]; exact hz) (x + sx d) (y + sy d) d rf pt hrp (by omega) (by omega) hd
  have hIc : insR τ3 = insR σ0 := by unfold insR; rw [R1, R2, R3, R4]
  rw [hIc] at h4
  have hb := gr_glue τ τ1 τ2 τ3 s.1 s.2.1 rf (c : Int) x y d b (x + sx d) (y + sy d) _ _ hd rfl rfl (by omega) (by omega) rfl h1 h2 h3 h4
  have hc1 : ∀ (L1 L2 L3 L4 : Option Int) (τ : cs_S), wc_X10_goRound_1 [none, some s.1, some s.2.1, some rf, some (c : Int), L1, L2, L3, L4, some 1] τ = some (true, τ) := fun _ _ _ _ _ => by simp only [wc_X10_goRound_1, cs_run, cs_L0, s_ret, s_retz, s_retv, s_seq, s_set, s_inc, s_put, s_ast, s_zst, s_cst, s_ada, s_if, s_ex, s_cv, s_nop, s_brk, x_ite, x_l, x_k, x_f, x_a, x_ro, x_add, x_sub, x_mul, x_div, x_rem, x_neg, x_call, x_max, x_min, x_abs, g_cons, g_nil, y_lt, y_le, y_gt, y_ge, y_eq, y_ne, y_not, y_and, y_or, y_ite, Option.bind_some, Option.bind_none, List.getElem?_cons_zero, List.getElem?_cons_succ, List.getElem?_nil, List.set_cons_zero, List.set_cons_succ, List.cons_append, List.nil_append, List.append_nil, List.replicate, List.length_cons, List.length_nil, Nat.reduceAdd, Nat.reduceSub, Nat.zero_add, Nat.sub_self, if_true, if_false, ite_true, ite_false, reduceIte, reduceCtorEq, decide_true, decide_false, decide_eq_true_eq, Bool.not_true, Bool.not_false, Bool.true_and, Bool.false_and, Bool.and_true, Bool.and_false, Bool.true_or, Bool.false_or, Bool.false_eq_true, Bool.true_eq_false, not_true_eq_false, not_false_eq_true, ne_eq, Int.reduceEq, Int.reduceNe, Int.reduceLT, Int.reduceLE, and_self, and_true, true_and, and_false, false_and, or_true, true_or, or_false, false_or, true_or, Option.map_some]
  have hc0 : ∀ (L1 L2 L3 L4 : Option Int) (τ : cs_S), wc_X10_goRound_1 [none, some s.1, some s.2.1, some rf, some (c : Int), L1, L2, L3, L4, some 0] τ = some (false, τ) := fun _ _ _ _ _ => by simp only [wc_X10_goRound_1, cs_run, cs_L0, s_ret, s_retz, s_retv, s_seq, s_set, s_inc, s_put, s_ast, s_zst, s_cst, s_ada, s_if, s_ex, s_cv, s_nop, s_brk, x_ite, x_l, x_k, x_f, x_a, x_ro, x_add, x_sub, x_mul, x_div, x_rem, x_neg, x_call, x_max, x_min, x_abs, g_cons, g_nil, y_lt, y_le, y_gt, y_ge, y_eq, y_ne, y_not, y_and, y_or, y_ite, Option.bind_some, Option.bind_none, List.getElem?_cons_zero, List.getElem?_cons_succ, List.getElem?_nil, List.set_cons_zero, List.set_cons_succ, List.cons_append, List.nil_append, List.append_nil, List.replicate, List.length_cons, List.length_nil, Nat.reduceAdd, Nat.reduceSub, Nat.zero_add, Nat.sub_self, if_true, if_false, ite_true, ite_false, reduceIte, reduceCtorEq, decide_true, decide_false, decide_eq_true_eq, Bool.not_true, Bool.not_false, Bool.true_and, Bool.false_and, Bool.and_true, Bool.and_false, Bool.true_or, Bool.false_or, Bool.false_eq_true, Bool.true_eq_false, not_true_eq_false, not_false_eq_true, ne_eq, Int.reduceEq, Int.reduceNe, Int.reduceLT, Int.reduceLE, and_self, and_true, true_and, and_false, false_and, or_true, true_or, or_false, false_or, true_or, Option.map_some]
  have hbs : stp (insR σ0) pt (x, y, d) = (x + sx d, y + sy d, ndr (insR σ0) pt (x + sx d) (y + sy d) d) := rfl
  by_cases hm0 : m = 0
  · subst hm0
    have hback : stp (insR σ0) pt (x, y, d) = s := by rw [← hnx, show i + 1 = n by omega]; exact he
    rw [hbs] at hback
    have q : x + sx d = s.1 ∧ y + sy d = s.2.1 ∧ ndr (insR σ0) pt (x + sx d) (y + sy d) d = 0 := by
      refine ⟨congrArg (fun u : Arw => u.1) hback, congrArg (fun u : Arw => u.2.1) hback, ?_⟩
      rw [← hs0]
      exact congrArg (fun u : Arw => u.2.2) hback
    rw [if_pos q, q.1, q.2.1] at hb
    have q3 := q.2.2
    rw [q.1, q.2.1] at q3
    rw [q3] at hb
    refine ⟨d, ?_⟩
    rw [goR, hst, goR]
    unfold w_X10_goRound_1
    rw [s_wh_eq, hc1]
    simp only [Option.bind_some, if_true, hb]
    rw [s_wh_eq, hc0]
    rfl
  · have hnb : ¬ (x + sx d = s.1 ∧ y + sy d = s.2.1 ∧ ndr (insR σ0) pt (x + sx d) (y + sy d) d = 0) := by
      rintro ⟨q1, q2, q3⟩
      apply hm (i + 1) (by omega) (by omega)
      rw [hnx, hbs, q1, q2]
      obtain ⟨s1, s2, s3⟩ := s
      dsimp only at *
      rw [← q1, ← q2, q3, hs0]
    rw [if_neg hnb] at hb
    obtain ⟨b'', hnxt⟩ := next (by omega) d τ3 hT3
    rw [hnx] at hnxt
    refine ⟨b'', ?_⟩
    rw [goR, hst]
    dsimp only
    unfold w_X10_goRound_1 at hnxt ⊢
    rw [s_wh_eq, hc1]
    simp only [Option.bind_some, if_true, hb]
    exact hnxt
theorem gor_loop (σ0 : cs_S) (hz : szJ (σ0 10 0) (σ0 10 1)) (rf pt : Int) (hrp : (rf = 1 ∧ pt = 1) ∨ (rf = 0 ∧ pt = 3)) (l : List Arw) (hl : Ways (insR σ0) pt l) (s : Arw) (hs : Vld (insR σ0) s) (hs0 : s.2.2 = 0) (hsl : s ∉ l) (n : Nat) (he : itr (insR σ0) pt n s = s) (hm : ∀ k : Nat, 1 ≤ k → k < n → itr (insR σ0) pt k s ≠ s) (c : Nat) (hc : c < 256) : ∀ (m i : Nat) (b : Int) (τ : cs_S), n = i + (m + 1) → TR σ0 τ c (l.length + i) →
    ∃ b'', w_X10_goRound_1 [none, some s.1, some s.2.1, some rf, some (c : Int), some (itr (insR σ0) pt i s).1, some (itr (insR σ0) pt i s).2.1, some (itr (insR σ0) pt i s).2.2, some b, some 1] τ = some (.inl ([none, some s.1, some s.2.1, some rf, some (c : Int), some s.1, some s.2.1, some 0, some b'', some 0], goR (insR σ0) pt c (m + 1) (itr (insR σ0) pt i s) (decide ((itr (insR σ0) pt i s).2.2 ≠ b)) τ)) := by
  intro m
  induction m with
  | zero =>
    intro i b τ hni hT
    exact gor_step σ0 hz rf pt hrp l hl s hs hs0 hsl n he hm c hc 0 i b τ hni hT (fun h => by omega)
  | succ m ih =>
    intro i b τ hni hT
    exact gor_step σ0 hz rf pt hrp l hl s hs hs0 hsl n he hm c hc (m + 1) i b τ hni hT (fun _ b' τ' hT' => ih (i + 1) b' τ' (by omega) hT')
