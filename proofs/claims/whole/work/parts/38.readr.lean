theorem f_faultR (σ : cs_S) (hz : szJ (σ 10 0) (σ 10 1)) (h0 : 0 ≤ σ 10 4) (hl : σ 10 4 ≤ 200) (hch : ∀ k, 0 ≤ σ 30 k ∧ σ 30 k < 65536) : f_X10_reads [] σ = match rdL (σ 10 0) (σ 10 1) (σ 30) (σ 10 4).toNat 0 (rd0 (σ 31)) with
    | .inl r => some (some r.1, cs_set σ 31 r.2.2.2.2)
    | .inr s' => some (some (if 0 < s'.2.2.1 then σ 10 4 else -1), cs_set σ 31 s'.2.2.2) := by
  have hw : w_X10_reads_1 [none, some 0, none, none, none, none, none] σ = some (.inl ([none, some 192, none, none, none, none, none], cs_set σ 31 (afl (σ 31) 192 0))) := by
    have h := wh_for (c := wc_X10_reads_1) (b := wb_X10_reads_1) (fun k (_ : Nat → Int) => [none, some k, none, none, none, none, none]) (fun a => cs_set σ 31 a) (fun k a => au a k.toNat 0) (fun k a => 0 ≤ k ∧ a = afl (σ 31) k.toNat 0) 192
      (fun k a hI => by simp [wc_X10_reads_1, cs_run, cs_L0, s_ret, s_retz, s_retv, s_seq, s_set, s_inc, s_put, s_ast, s_zst, s_cst, s_ada, s_if, s_ex, s_cv, s_nop, s_brk, x_ite, x_l, x_k, x_f, x_a, x_ro, x_add, x_sub, x_mul, x_div, x_rem, x_neg, x_call, x_max, x_min, x_abs, g_cons, g_nil, y_lt, y_le, y_gt, y_ge, y_eq, y_ne, y_not, y_and, y_or, y_ite])
      (fun k a hI hk => by
        obtain ⟨h0, rfl⟩ := hI
        refine ⟨?_, by omega, ?_⟩
        · simp (disch := (first | omega | simp)) [wb_X10_reads_1, cs_run, cs_L0, s_ret, s_retz, s_retv, s_seq, s_set, s_inc, s_put, s_ast, s_zst, s_cst, s_ada, s_if, s_ex, s_cv, s_nop, s_brk, x_ite, x_l, x_k, x_f, x_a, x_ro, x_add, x_sub, x_mul, x_div, x_rem, x_neg, x_call, x_max, x_min, x_abs, g_cons, g_nil, y_lt, y_le, y_gt, y_ge, y_eq, y_ne, y_not, y_and, y_or, y_ite, cs_wr_ok, cs_chk_ok, cs_up_eq, cs_set_at, cs_set_set]
        · rw [afl_s, show (k + 1).toNat = k.toNat + 1 by omega])
      192 0 (σ 31) ⟨by omega, by simp [afl_0]⟩ (by omega)
    obtain ⟨h1, h2, h3⟩ := h
    rw [cs_set_self] at h1
    unfold w_X10_reads_1
    rw [h1, h3]
    simp
  obtain ⟨q5, q6, hk⟩ := reads_loop σ hz hl hch (σ 10 4).toNat 0 (rd0 (σ 31)) none none (by omega) (by omega) (rd0_I hz)
  cases hr : rdL (σ 10 0) (σ 10 1) (σ 30) (σ 10 4).toNat 0 (rd0 (σ 31)) with
  | inl r =>
    rw [hr] at hk
    dsimp only [rd0] at hk
    simp (disch := omega) only [cs_run, cs_L0, s_ret, s_retz, s_retv, s_seq, s_set, s_inc, s_put, s_ast, s_zst, s_cst, s_ada, s_if, s_ex, s_cv, s_nop, s_brk, x_ite, x_l, x_k, x_f, x_a, x_ro, x_add, x_sub, x_mul, x_div, x_rem, x_neg, x_call, x_max, x_min, x_abs, g_cons, g_nil, y_lt, y_le, y_gt, y_ge, y_eq, y_ne, y_not, y_and, y_or, y_ite, Option.bind_some, Option.bind_none, List.getElem?_cons_zero, List.getElem?_cons_succ, List.getElem?_nil, List.set_cons_zero, List.set_cons_succ, List.cons_append, List.nil_append, List.append_nil, List.replicate, List.length_cons, List.length_nil, Nat.reduceAdd, Nat.reduceSub, Nat.zero_add, Nat.sub_self, if_true, if_false, ite_true, ite_false, reduceIte, reduceCtorEq, decide_true, decide_false, decide_eq_true_eq, Bool.not_true, Bool.not_false, Bool.true_and, Bool.false_and, Bool.and_true, Bool.and_false, Bool.true_or, Bool.false_or, Bool.false_eq_true, Bool.true_eq_false, not_true_eq_false, not_false_eq_true, ne_eq, Int.reduceEq, Int.reduceNe, Int.reduceLT, Int.reduceLE, and_self, and_true, true_and, and_false, false_and, or_true, true_or, or_false, false_or, true_or, Option.map_some, cs_chk_ok, cs_rd_ok, cs_wr_ok, f_X10_reads, b_X10_reads, cs_run, cs_L0, hw, hk]
  | inr s' =>
    rw [hr] at hk
    dsimp only [rd0] at hk
    have k10 : cs_set σ 31 s'.2.2.2 10 = σ 10 := cs_set_ne (by decide)
    by_cases hn : 0 < s'.2.2.1
    · simp (disch := omega) only [cs_run, cs_L0, s_ret, s_retz, s_retv, s_seq, s_set, s_inc, s_put, s_ast, s_zst, s_cst, s_ada, s_if, s_ex, s_cv, s_nop, s_brk, x_ite, x_l, x_k, x_f, x_a, x_ro, x_add, x_sub, x_mul, x_div, x_rem, x_neg, x_call, x_max, x_min, x_abs, g_cons, g_nil, y_lt, y_le, y_gt, y_ge, y_eq, y_ne, y_not, y_and, y_or, y_ite, Option.bind_some, Option.bind_none, List.getElem?_cons_zero, List.getElem?_cons_succ, List.getElem?_nil, List.set_cons_zero, List.set_cons_succ, List.cons_append, List.nil_append, List.append_nil, List.replicate, List.length_cons, List.length_nil, Nat.reduceAdd, Nat.reduceSub, Nat.zero_add, Nat.sub_self, if_true, if_false, ite_true, ite_false, reduceIte, reduceCtorEq, decide_true, decide_false, decide_eq_true_eq, Bool.not_true, Bool.not_false, Bool.true_and, Bool.false_and, Bool.and_true, Bool.and_false, Bool.true_or, Bool.false_or, Bool.false_eq_true, Bool.true_eq_false, not_true_eq_false, not_false_eq_true, ne_eq, Int.reduceEq, Int.reduceNe, Int.reduceLT, Int.reduceLE, and_self, and_true, true_and, and_false, false_and, or_true, true_or, or_false, false_or, true_or, Option.map_some, cs_chk_ok, cs_rd_ok, cs_wr_ok, f_X10_reads, b_X10_reads, cs_run, cs_L0, hw, hk, hn, k10]
    · simp (disch := omega) only [cs_run, cs_L0, s_ret, s_retz, s_retv, s_seq, s_set, s_inc, s_put, s_ast, s_zst, s_cst, s_ada, s_if, s_ex, s_cv, s_nop, s_brk, x_ite, x_l, x_k, x_f, x_a, x_ro, x_add, x_sub, x_mul, x_div, x_rem, x_neg, x_call, x_max, x_min, x_abs, g_cons, g_nil, y_lt, y_le, y_gt, y_ge, y_eq, y_ne, y_not, y_and, y_or, y_ite, Option.bind_some, Option.bind_none, List.getElem?_cons_zero, List.getElem?_cons_succ, List.getElem?_nil, List.set_cons_zero, List.set_cons_succ, List.cons_append, List.nil_append, List.append_nil, List.replicate, List.length_cons, List.length_nil, Nat.reduceAdd, Nat.reduceSub, Nat.zero_add, Nat.sub_self, if_true, if_false, ite_true, ite_false, reduceIte, reduceCtorEq, decide_true, decide_false, decide_eq_true_eq, Bool.not_true, Bool.not_false, Bool.true_and, Bool.false_and, Bool.and_true, Bool.and_false, Bool.true_or, Bool.false_or, Bool.false_eq_true, Bool.true_eq_false, not_true_eq_false, not_false_eq_true, ne_eq, Int.reduceEq, Int.reduceNe, Int.reduceLT, Int.reduceLE, and_self, and_true, true_and, and_false, false_and, or_true, true_or, or_false, false_or, true_or, Option.map_some, cs_chk_ok, cs_rd_ok, cs_wr_ok, f_X10_reads, b_X10_reads, cs_run, cs_L0, hw, hk, hn, k10]
theorem f_readR (σ : cs_S) (hz : szJ (σ 10 0) (σ 10 1)) (h0 : 0 ≤ σ 10 4) (hl : σ 10 4 ≤ 200) (hch : ∀ k, 0 ≤ σ 30 k ∧ σ 30 k < 65536) : match rdL (σ 10 0) (σ 10 1) (σ 30) (σ 10 4).toNat 0 (rd0 (σ 31)) with
    | .inl r => f_X10_readPicture [] σ = some (some (-100 - r.1), cs_set σ 31 r.2.2.2.2)
    | .inr s' => if 0 < s'.2.2.1 then f_X10_readPicture [] σ = some (some (-100 - σ 10 4), cs_set σ 31 s'.2.2.2) else f_X10_readPicture [] σ = some (some (sm (dif (σ 28) s'.2.2.2) 192), dropR (cs_set (cs_set σ 31 s'.2.2.2) 28 (mix (σ 28) s'.2.2.2 192))) := by
  have hf := f_faultR σ hz h0 hl hch
  have hI := rdL_I (ch := σ 30) hz (σ 10 4).toNat 0 (rd0 (σ 31)) (rd0_I hz)
  cases hr : rdL (σ 10 0) (σ 10 1) (σ 30) (σ 10 4).toNat 0 (rd0 (σ 31)) with
  | inl r =>
    rw [hr] at hf hI
    dsimp only at hf hI
    have g : 0 ≤ r.1 := by omega
    simp (disch := omega) only [cs_run, cs_L0, s_ret, s_retz, s_retv, s_seq, s_set, s_inc, s_put, s_ast, s_zst, s_cst, s_ada, s_if, s_ex, s_cv, s_nop, s_brk, x_ite, x_l, x_k, x_f, x_a, x_ro, x_add, x_sub, x_mul, x_div, x_rem, x_neg, x_call, x_max, x_min, x_abs, g_cons, g_nil, y_lt, y_le, y_gt, y_ge, y_eq, y_ne, y_not, y_and, y_or, y_ite, Option.bind_some, Option.bind_none, List.getElem?_cons_zero, List.getElem?_cons_succ, List.getElem?_nil, List.set_cons_zero, List.set_cons_succ, List.cons_append, List.nil_append, List.append_nil, List.replicate, List.length_cons, List.length_nil, Nat.reduceAdd, Nat.reduceSub, Nat.zero_add, Nat.sub_self, if_true, if_false, ite_true, ite_false, reduceIte, reduceCtorEq, decide_true, decide_false, decide_eq_true_eq, Bool.not_true, Bool.not_false, Bool.true_and, Bool.false_and, Bool.and_true, Bool.and_false, Bool.true_or, Bool.false_or, Bool.false_eq_true, Bool.true_eq_false, not_true_eq_false, not_false_eq_true, ne_eq, Int.reduceEq, Int.reduceNe, Int.reduceLT, Int.reduceLE, and_self, and_true, true_and, and_false, false_and, or_true, true_or, or_false, false_or, true_or, Option.map_some, cs_chk_ok, cs_rd_ok, cs_wr_ok, f_X10_readPicture, b_X10_readPicture, cs_run, cs_L0, hf, g]
  | inr s' =>
    rw [hr] at hf hI
    dsimp only at hf hI
    by_cases hn : 0 < s'.2.2.1
    · rw [if_pos hn] at hf
      simp only [if_pos hn]
      have g : 0 ≤ σ 10 4 := by omega
      simp (disch := omega) only [cs_run, cs_L0, s_ret, s_retz, s_retv, s_seq, s_set, s_inc, s_put, s_ast, s_zst, s_cst, s_ada, s_if, s_ex, s_cv, s_nop, s_brk, x_ite, x_l, x_k, x_f, x_a, x_ro, x_add, x_sub, x_mul, x_div, x_rem, x_neg, x_call, x_max, x_min, x_abs, g_cons, g_nil, y_lt, y_le, y_gt, y_ge, y_eq, y_ne, y_not, y_and, y_or, y_ite, Option.bind_some, Option.bind_none, List.getElem?_cons_zero, List.getElem?_cons_succ, List.getElem?_nil, List.set_cons_zero, List.set_cons_succ, List.cons_append, List.nil_append, List.append_nil, List.replicate, List.length_cons, List.length_nil, Nat.reduceAdd, Nat.reduceSub, Nat.zero_add, Nat.sub_self, if_true, if_false, ite_true, ite_false, reduceIte, reduceCtorEq, decide_true, decide_false, decide_eq_true_eq, Bool.not_true, Bool.not_false, Bool.true_and, Bool.false_and, Bool.and_true, Bool.and_false, Bool.true_or, Bool.false_or, Bool.false_eq_true, Bool.true_eq_false, not_true_eq_false, not_false_eq_true, ne_eq, Int.reduceEq, Int.reduceNe, Int.reduceLT, Int.reduceLE, and_self, and_true, true_and, and_false, false_and, or_true, true_or, or_false, false_or, true_or, Option.map_some, cs_chk_ok, cs_rd_ok, cs_wr_ok, f_X10_readPicture, b_X10_readPicture, cs_run, cs_L0, hf, g]
    · rw [if_neg hn] at hf
      simp only [if_neg hn]
      have g : ¬ (0 : Int) ≤ -1 := by omega
      have hw : w_X10_readPicture_1 [none, some (-1), some 0, some 0] (cs_set σ 31 s'.2.2.2) = some (.inl ([none, some (-1), some (sm (dif (σ 28) s'.2.2.2) 192), some 192], cs_set (cs_set σ 31 s'.2.2.2) 28 (mix (σ 28) s'.2.2.2 192))) := by
        have h := wh_for (c := wc_X10_readPicture_1) (b := wb_X10_readPicture_1) (fun k (s : Int × (Nat → Int)) => [none, some (-1), some s.1, some k]) (fun s => cs_set (cs_set σ 31 s'.2.2.2) 28 s.2) (fun k _ => (sm (dif (σ 28) s'.2.2.2) (k.toNat + 1), mix (σ 28) s'.2.2.2 (k.toNat + 1))) (fun k s => 0 ≤ k ∧ s = (sm (dif (σ 28) s'.2.2.2) k.toNat, mix (σ 28) s'.2.2.2 k.toNat)) 192
          (fun k a hI => by simp [wc_X10_readPicture_1, cs_run, cs_L0, s_ret, s_retz, s_retv, s_seq, s_set, s_inc, s_put, s_ast, s_zst, s_cst, s_ada, s_if, s_ex, s_cv, s_nop, s_brk, x_ite, x_l, x_k, x_f, x_a, x_ro, x_add, x_sub, x_mul, x_div, x_rem, x_neg, x_call, x_max, x_min, x_abs, g_cons, g_nil, y_lt, y_le, y_gt, y_ge, y_eq, y_ne, y_not, y_and, y_or, y_ite])
          (fun k a hI hk => by
            obtain ⟨h0, rfl⟩ := hI
            have hs := sm_le (dif_01 (σ 28) s'.2.2.2) k.toNat
            have hd1 := dif_01 (σ 28) s'.2.2.2 k.toNat
            have k31 : ∀ m, cs_set (cs_set σ 31 s'.2.2.2) 28 m 31 = s'.2.2.2 := fun m => by simp [cs_set]
            have hm : mix (σ 28) s'.2.2.2 k.toNat k.toNat = σ 28 k.toNat := by simp [mix]
            refine ⟨?_, by omega, by rw [show (k + 1).toNat = k.toNat + 1 by omega]⟩
            by_cases hc : s'.2.2.2 k.toNat = σ 28 k.toNat
            · have hd : dif (σ 28) s'.2.2.2 k.toNat = 0 := by unfold dif; simp [hc]
              simp (disch := omega) only [cs_run, cs_L0, s_ret, s_retz, s_retv, s_seq, s_set, s_inc, s_put, s_ast, s_zst, s_cst, s_ada, s_if, s_ex, s_cv, s_nop, s_brk, x_ite, x_l, x_k, x_f, x_a, x_ro, x_add, x_sub, x_mul, x_div, x_rem, x_neg, x_call, x_max, x_min, x_abs, g_cons, g_nil, y_lt, y_le, y_gt, y_ge, y_eq, y_ne, y_not, y_and, y_or, y_ite, Option.bind_some, Option.bind_none, List.getElem?_cons_zero, List.getElem?_cons_succ, List.getElem?_nil, List.set_cons_zero, List.set_cons_succ, List.cons_append, List.nil_append, List.append_nil, List.replicate, List.length_cons, List.length_nil, Nat.reduceAdd, Nat.reduceSub, Nat.zero_add, Nat.sub_self, if_true, if_false, ite_true, ite_false, reduceIte, reduceCtorEq, decide_true, decide_false, decide_eq_true_eq, Bool.not_true, Bool.not_false, Bool.true_and, Bool.false_and, Bool.and_true, Bool.and_false, Bool.true_or, Bool.false_or, Bool.false_eq_true, Bool.true_eq_false, not_true_eq_false, not_false_eq_true, ne_eq, Int.reduceEq, Int.reduceNe, Int.reduceLT, Int.reduceLE, and_self, and_true, true_and, and_false, false_and, or_true, true_or, or_false, false_or, true_or, Option.map_some, cs_chk_ok, cs_rd_ok, cs_wr_ok, wb_X10_readPicture_1, k31, cs_set_at, hm, hc, cs_up_eq, cs_set_set]
              rw [← hc, mix_s, sm, hd]
            · have hd : dif (σ 28) s'.2.2.2 k.toNat = 1 := by unfold dif; rw [if_pos (fun q => hc q.symm)]
              simp (disch := omega) only [cs_run, cs_L0, s_ret, s_retz, s_retv, s_seq, s_set, s_inc, s_put, s_ast, s_zst, s_cst, s_ada, s_if, s_ex, s_cv, s_nop, s_brk, x_ite, x_l, x_k, x_f, x_a, x_ro, x_add, x_sub, x_mul, x_div, x_rem, x_neg, x_call, x_max, x_min, x_abs, g_cons, g_nil, y_lt, y_le, y_gt, y_ge, y_eq, y_ne, y_not, y_and, y_or, y_ite, Option.bind_some, Option.bind_none, List.getElem?_cons_zero, List.getElem?_cons_succ, List.getElem?_nil, List.set_cons_zero, List.set_cons_succ, List.cons_append, List.nil_append, List.append_nil, List.replicate, List.length_cons, List.length_nil, Nat.reduceAdd, Nat.reduceSub, Nat.zero_add, Nat.sub_self, if_true, if_false, ite_true, ite_false, reduceIte, reduceCtorEq, decide_true, decide_false, decide_eq_true_eq, Bool.not_true, Bool.not_false, Bool.true_and, Bool.false_and, Bool.and_true, Bool.and_false, Bool.true_or, Bool.false_or, Bool.false_eq_true, Bool.true_eq_false, not_true_eq_false, not_false_eq_true, ne_eq, Int.reduceEq, Int.reduceNe, Int.reduceLT, Int.reduceLE, and_self, and_true, true_and, and_false, false_and, or_true, true_or, or_false, false_or, true_or, Option.map_some, cs_chk_ok, cs_rd_ok, cs_wr_ok, wb_X10_readPicture_1, k31, cs_set_at, hm, hc, cs_up_eq, cs_set_set]
              rw [mix_s, sm, hd])
          192 0 (0, σ 28) ⟨by omega, by simp [mix_0, sm]⟩ (by omega)
        obtain ⟨h1, h2, h3⟩ := h
        have e28 : cs_set (cs_set σ 31 s'.2.2.2) 28 (σ 28) = cs_set σ 31 s'.2.2.2 := by
          have : cs_set σ 31 s'.2.2.2 28 = σ 28 := cs_set_ne (by decide)
          rw [← this, cs_set_self]
        dsimp only at h1
        rw [e28] at h1
        unfold w_X10_readPicture_1
        rw [h1, h3]
        simp
      simp (disch := omega) only [cs_run, cs_L0, s_ret, s_retz, s_retv, s_seq, s_set, s_inc, s_put, s_ast, s_zst, s_cst, s_ada, s_if, s_ex, s_cv, s_nop, s_brk, x_ite, x_l, x_k, x_f, x_a, x_ro, x_add, x_sub, x_mul, x_div, x_rem, x_neg, x_call, x_max, x_min, x_abs, g_cons, g_nil, y_lt, y_le, y_gt, y_ge, y_eq, y_ne, y_not, y_and, y_or, y_ite, Option.bind_some, Option.bind_none, List.getElem?_cons_zero, List.getElem?_cons_succ, List.getElem?_nil, List.set_cons_zero, List.set_cons_succ, List.cons_append, List.nil_append, List.append_nil, List.replicate, List.length_cons, List.length_nil, Nat.reduceAdd, Nat.reduceSub, Nat.zero_add, Nat.sub_self, if_true, if_false, ite_true, ite_false, reduceIte, reduceCtorEq, decide_true, decide_false, decide_eq_true_eq, Bool.not_true, Bool.not_false, Bool.true_and, Bool.false_and, Bool.and_true, Bool.and_false, Bool.true_or, Bool.false_or, Bool.false_eq_true, Bool.true_eq_false, not_true_eq_false, not_false_eq_true, ne_eq, Int.reduceEq, Int.reduceNe, Int.reduceLT, Int.reduceLE, and_self, and_true, true_and, and_false, false_and, or_true, true_or, or_false, false_or, true_or, Option.map_some, cs_chk_ok, cs_rd_ok, cs_wr_ok, f_X10_readPicture, b_X10_readPicture, cs_run, cs_L0, hf, g, hw, f_dropR]
