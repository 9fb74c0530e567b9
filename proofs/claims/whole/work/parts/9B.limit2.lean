/-! limitFor, both the same -/
theorem LI_0 {σ : cs_S} (hJ : CoJ σ) : LI σ σ 0 := ⟨hJ, fun _ _ _ _ _ _ _ => rfl, fun _ _ => rfl, fun j hj => by omega, fun j k _ hk => by omega, fun _ _ => rfl⟩
theorem Two_limitFor {σ : cs_S} (hJ : SimJ σ) (tot : Int) : Two f_X9_limitFor f_X10_limitFor [tot] σ (fun ρ => SimJ ρ ∧ Kp ρ σ) := by
  by_cases q : tot < 0
  · refine ⟨-1003, σ, σ, ?_, ?_, ?_⟩
    · simp only [f_X9_limitFor, b_X9_limitFor, cs_run, cs_L0, s_ret, s_retz, s_retv, s_seq, s_set, s_inc, s_put, s_ast, s_zst, s_cst, s_ada, s_if, s_ex, s_cv, s_nop, s_brk, x_ite, x_l, x_k, x_f, x_a, x_ro, x_add, x_sub, x_mul, x_div, x_rem, x_neg, x_call, x_max, x_min, x_abs, g_cons, g_nil, y_lt, y_le, y_gt, y_ge, y_eq, y_ne, y_not, y_and, y_or, y_ite, Option.bind_some, Option.bind_none, List.getElem?_cons_zero, List.getElem?_cons_succ, List.getElem?_nil, List.set_cons_zero, List.set_cons_succ, List.cons_append, List.nil_append, List.append_nil, List.replicate, List.length_cons, List.length_nil, Nat.reduceAdd, Nat.reduceSub, Nat.zero_add, Nat.sub_self, if_true, if_false, ite_true, ite_false, reduceIte, reduceCtorEq, decide_true, decide_false, decide_eq_true_eq, Bool.not_true, Bool.not_false, Bool.true_and, Bool.false_and, Bool.and_true, Bool.and_false, Bool.true_or, Bool.false_or, Bool.false_eq_true, Bool.true_eq_false, not_true_eq_false, not_false_eq_true, ne_eq, Int.reduceEq, Int.reduceNe, Int.reduceLT, Int.reduceLE, and_self, and_true, true_and, and_false, false_and, or_true, true_or, or_false, false_or, true_or, Option.map_some, q]
    · simp only [f_X10_limitFor, b_X10_limitFor, cs_run, cs_L0, s_ret, s_retz, s_retv, s_seq, s_set, s_inc, s_put, s_ast, s_zst, s_cst, s_ada, s_if, s_ex, s_cv, s_nop, s_brk, x_ite, x_l, x_k, x_f, x_a, x_ro, x_add, x_sub, x_mul, x_div, x_rem, x_neg, x_call, x_max, x_min, x_abs, g_cons, g_nil, y_lt, y_le, y_gt, y_ge, y_eq, y_ne, y_not, y_and, y_or, y_ite, Option.bind_some, Option.bind_none, List.getElem?_cons_zero, List.getElem?_cons_succ, List.getElem?_nil, List.set_cons_zero, List.set_cons_succ, List.cons_append, List.nil_append, List.append_nil, List.replicate, List.length_cons, List.length_nil, Nat.reduceAdd, Nat.reduceSub, Nat.zero_add, Nat.sub_self, if_true, if_false, ite_true, ite_false, reduceIte, reduceCtorEq, decide_true, decide_false, decide_eq_true_eq, Bool.not_true, Bool.not_false, Bool.true_and, Bool.false_and, Bool.and_true, Bool.and_false, Bool.true_or, Bool.false_or, Bool.false_eq_true, Bool.true_eq_false, not_true_eq_false, not_false_eq_true, ne_eq, Int.reduceEq, Int.reduceNe, Int.reduceLT, Int.reduceLE, and_self, and_true, true_and, and_false, false_and, or_true, true_or, or_false, false_or, true_or, Option.map_some, q]
    · rw [mx_same]; exact ⟨hJ, Kp_r σ⟩
  · have ht : 0 ≤ tot := by omega
    obtain ⟨h, h2, hR, hS, hH⟩ := id hJ
    have hb := h.1
    have hn8 : σ 10 8 = σ 4 2 := hR.2.1.1
    have h39 : ∀ u : Nat, (u : Int) < σ 4 2 → σ 39 u = 0 ∨ σ 39 u = 1 := fun u hu => by rw [(hR.2.1.2 u hu).2.2]; exact h2.1 u hu
    -- the copy that the reference makes first
    obtain ⟨ρ, hρ⟩ : ∃ ρ, ρ = cs_set σ 42 (mix (σ 42) (σ 39) (σ 4 2).toNat) := ⟨_, rfl⟩
    have ro : ∀ q, q ≠ 42 → ρ q = σ q := fun q n => by rw [hρ, cs_set_ne n]
    have r42 : ρ 42 = mix (σ 42) (σ 39) (σ 4 2).toNat := by rw [hρ, cs_set_at]
    have hρC : CSo ρ := (CSo_congr (ro 4 (by decide)) (ro 15 (by decide)) (ro 20 (by decide)) (ro 21 (by decide)) (ro 22 (by decide))).mpr h
    have hρP : CPr ρ := CPr_cg (ro 4 (by decide)) (ro 16 (by decide)) (ro 20 (by decide)) (ro 21 (by decide)) (ro 22 (by decide)) (ro 23 (by decide)) (ro 24 (by decide)) h2
    have hρR : RR ρ := RR_cg (σ := σ) (by rw [ro 4 (by decide)]) (by rw [ro 4 (by decide)]) (by rw [ro 10 (by decide)]) (by rw [ro 10 (by decide)]) (ro 15 (by decide)) (ro 21 (by decide)) (ro 22 (by decide)) (ro 32 (by decide)) (ro 33 (by decide)) (ro 37 (by decide)) (ro 38 (by decide)) hR (fun u hu => by rw [ro 39 (by decide), ro 23 (by decide)]; exact (hR.2.1.2 u hu).2.2)
    have hρ1 : Pos1 ρ := by rw [Pos1_ok, ro 15 (by decide), ro 4 (by decide), ro 23 (by decide), ← Pos1_ok]; exact SimJ_P hJ
    have hρJ : CoJ ρ := ⟨hρC, hρP, hρR, hρ1⟩
    have hL := LI_0 hρJ
    have hc := (cnt_b hρC hρP).1
    have eC : mx cA ρ σ = σ := by
      funext q
      cases hq : cA q
      · rw [mx_off hq]
      · rw [mx_at hq]
        exact ro q (fun e => by subst e; exact absurd hq (by decide))
    have eR : mx rA ρ σ = ρ := by
      rw [mx_cr]
      funext q
      cases hq : cA q
      · rw [mx_off hq]
      · rw [mx_at hq]
        exact (ro q (fun e => by subst e; exact absurd hq (by decide))).symm
    have hC := f_leastLimit (σ := σ) ht hL
    rw [eC] at hC
    obtain ⟨o4', hR2⟩ := lr_run ht 442 0 0 ρ none none hL (by omega) (by omega)
    obtain ⟨j1, j2, j3⟩ := lmt_J ht 442 0 0 ρ hL (by omega) (by omega) (by omega) (by omega)
    generalize lmt tot 442 0 0 ρ = r at *
    obtain ⟨lim, n, ρe⟩ := r
    dsimp only at *
    obtain ⟨b1, b2, -, b4⟩ := bk_J j1 n.toNat (by omega)
    have hbk23 : bk ρe n.toNat 23 = σ 23 := by
      funext u
      rw [b4 u (fun k h1 h2 => by omega), ro 23 (by decide)]
    have ke : ∀ q, q ≠ 4 → q ≠ 16 → q ≠ 24 → q ≠ 23 → q ≠ 26 → q ≠ 39 → ρe q = ρ q := j1.2.1
    have ke4 : ∀ k, k ≠ 3 → ρe 4 k = ρ 4 k := j1.2.2.1
    -- the reference's end
    obtain ⟨τ, hτ⟩ : ∃ τ, τ = cs_set (mx rA ρe ρ) 39 (mix (ρe 39) (ρ 42) (σ 4 2).toNat) := ⟨_, rfl⟩
    refine ⟨if tot < ρe 4 3 then -1006 else lim, mx cA (bk ρe n.toNat) σ, τ, ?_, ?_, ?_⟩
    · by_cases z : tot < ρe 4 3
      · rw [if_pos z] at hC ⊢
        simp only [f_X9_limitFor, b_X9_limitFor, cs_run, cs_L0, s_ret, s_retz, s_retv, s_seq, s_set, s_inc, s_put, s_ast, s_zst, s_cst, s_ada, s_if, s_ex, s_cv, s_nop, s_brk, x_ite, x_l, x_k, x_f, x_a, x_ro, x_add, x_sub, x_mul, x_div, x_rem, x_neg, x_call, x_max, x_min, x_abs, g_cons, g_nil, y_lt, y_le, y_gt, y_ge, y_eq, y_ne, y_not, y_and, y_or, y_ite, Option.bind_some, Option.bind_none, List.getElem?_cons_zero, List.getElem?_cons_succ, List.getElem?_nil, List.set_cons_zero, List.set_cons_succ, List.cons_append, List.nil_append, List.append_nil, List.replicate, List.length_cons, List.length_nil, Nat.reduceAdd, Nat.reduceSub, Nat.zero_add, Nat.sub_self, if_true, if_false, ite_true, ite_false, reduceIte, reduceCtorEq, decide_true, decide_false, decide_eq_true_eq, Bool.not_true, Bool.not_false, Bool.true_and, Bool.false_and, Bool.and_true, Bool.and_false, Bool.true_or, Bool.false_or, Bool.false_eq_true, Bool.true_eq_false, not_true_eq_false, not_false_eq_true, ne_eq, Int.reduceEq, Int.reduceNe, Int.reduceLT, Int.reduceLE, and_self, and_true, true_and, and_false, false_and, or_true, true_or, or_false, false_or, true_or, Option.map_some, q, hC]
      · rw [if_neg z] at hC ⊢
        have : ¬ lim = -1 := by omega
        simp only [f_X9_limitFor, b_X9_limitFor, cs_run, cs_L0, s_ret, s_retz, s_retv, s_seq, s_set, s_inc, s_put, s_ast, s_zst, s_cst, s_ada, s_if, s_ex, s_cv, s_nop, s_brk, x_ite, x_l, x_k, x_f, x_a, x_ro, x_add, x_sub, x_mul, x_div, x_rem, x_neg, x_call, x_max, x_min, x_abs, g_cons, g_nil, y_lt, y_le, y_gt, y_ge, y_eq, y_ne, y_not, y_and, y_or, y_ite, Option.bind_some, Option.bind_none, List.getElem?_cons_zero, List.getElem?_cons_succ, List.getElem?_nil, List.set_cons_zero, List.set_cons_succ, List.cons_append, List.nil_append, List.append_nil, List.replicate, List.length_cons, List.length_nil, Nat.reduceAdd, Nat.reduceSub, Nat.zero_add, Nat.sub_self, if_true, if_false, ite_true, ite_false, reduceIte, reduceCtorEq, decide_true, decide_false, decide_eq_true_eq, Bool.not_true, Bool.not_false, Bool.true_and, Bool.false_and, Bool.and_true, Bool.and_false, Bool.true_or, Bool.false_or, Bool.false_eq_true, Bool.true_eq_false, not_true_eq_false, not_false_eq_true, ne_eq, Int.reduceEq, Int.reduceNe, Int.reduceLT, Int.reduceLE, and_self, and_true, true_and, and_false, false_and, or_true, true_or, or_false, false_or, true_or, Option.map_some, q, hC, this]
    · have g0 : (s_if (y_lt (x_l 1) (x_k 0)) (s_ret (x_k (-1003))) s_nop) [none, some tot, none, none, none, none] σ = some (.inl ([none, some tot, none, none, none, none], σ)) := by simp only [cs_run, cs_L0, s_ret, s_retz, s_retv, s_seq, s_set, s_inc, s_put, s_ast, s_zst, s_cst, s_ada, s_if, s_ex, s_cv, s_nop, s_brk, x_ite, x_l, x_k, x_f, x_a, x_ro, x_add, x_sub, x_mul, x_div, x_rem, x_neg, x_call, x_max, x_min, x_abs, g_cons, g_nil, y_lt, y_le, y_gt, y_ge, y_eq, y_ne, y_not, y_and, y_or, y_ite, Option.bind_some, Option.bind_none, List.getElem?_cons_zero, List.getElem?_cons_succ, List.getElem?_nil, List.set_cons_zero, List.set_cons_succ, List.cons_append, List.nil_append, List.append_nil, List.replicate, List.length_cons, List.length_nil, Nat.reduceAdd, Nat.reduceSub, Nat.zero_add, Nat.sub_self, if_true, if_false, ite_true, ite_false, reduceIte, reduceCtorEq, decide_true, decide_false, decide_eq_true_eq, Bool.not_true, Bool.not_false, Bool.true_and, Bool.false_and, Bool.and_true, Bool.and_false, Bool.true_or, Bool.false_or, Bool.false_eq_true, Bool.true_eq_false, not_true_eq_false, not_false_eq_true, ne_eq, Int.reduceEq, Int.reduceNe, Int.reduceLT, Int.reduceLE, and_self, and_true, true_and, and_false, false_and, or_true, true_or, or_false, false_or, true_or, Option.map_some, q]
      have g1 : (s_set 2 (x_k 0)) [none, some tot, none, none, none, none] σ = some (.inl ([none, some tot, some 0, none, none, none], σ)) := by simp only [cs_run, cs_L0, s_ret, s_retz, s_retv, s_seq, s_set, s_inc, s_put, s_ast, s_zst, s_cst, s_ada, s_if, s_ex, s_cv, s_nop, s_brk, x_ite, x_l, x_k, x_f, x_a, x_ro, x_add, x_sub, x_mul, x_div, x_rem, x_neg, x_call, x_max, x_min, x_abs, g_cons, g_nil, y_lt, y_le, y_gt, y_ge, y_eq, y_ne, y_not, y_and, y_or, y_ite, Option.bind_some, Option.bind_none, List.getElem?_cons_zero, List.getElem?_cons_succ, List.getElem?_nil, List.set_cons_zero, List.set_cons_succ, List.cons_append, List.nil_append, List.append_nil, List.replicate, List.length_cons, List.length_nil, Nat.reduceAdd, Nat.reduceSub, Nat.zero_add, Nat.sub_self, if_true, if_false, ite_true, ite_false, reduceIte, reduceCtorEq, decide_true, decide_false, decide_eq_true_eq, Bool.not_true, Bool.not_false, Bool.true_and, Bool.false_and, Bool.and_true, Bool.and_false, Bool.true_or, Bool.false_or, Bool.false_eq_true, Bool.true_eq_false, not_true_eq_false, not_false_eq_true, ne_eq, Int.reduceEq, Int.reduceNe, Int.reduceLT, Int.reduceLE, and_self, and_true, true_and, and_false, false_and, or_true, true_or, or_false, false_or, true_or, Option.map_some]
      have hw1 := wh_up (c := wc_X10_limitFor_1) (b := wb_X10_limitFor_1) (fun k L τ => 0 ≤ k ∧ L = [none, some tot, some k, none, none, none] ∧ τ = cs_set σ 42 (mix (σ 42) (σ 39) k.toNat)) (fun _ => False) (σ 4 2)
        (fun k L τ hk hQ => by
          obtain ⟨h0, rfl, rfl⟩ := hQ
          have : cs_set σ 42 (mix (σ 42) (σ 39) k.toNat) 10 8 = σ 4 2 := by rw [cs_set_ne (by decide), hn8]
          simp only [wc_X10_limitFor_1, cs_run, cs_L0, s_ret, s_retz, s_retv, s_seq, s_set, s_inc, s_put, s_ast, s_zst, s_cst, s_ada, s_if, s_ex, s_cv, s_nop, s_brk, x_ite, x_l, x_k, x_f, x_a, x_ro, x_add, x_sub, x_mul, x_div, x_rem, x_neg, x_call, x_max, x_min, x_abs, g_cons, g_nil, y_lt, y_le, y_gt, y_ge, y_eq, y_ne, y_not, y_and, y_or, y_ite, Option.bind_some, Option.bind_none, List.getElem?_cons_zero, List.getElem?_cons_succ, List.getElem?_nil, List.set_cons_zero, List.set_cons_succ, List.cons_append, List.nil_append, List.append_nil, List.replicate, List.length_cons, List.length_nil, Nat.reduceAdd, Nat.reduceSub, Nat.zero_add, Nat.sub_self, if_true, if_false, ite_true, ite_false, reduceIte, reduceCtorEq, decide_true, decide_false, decide_eq_true_eq, Bool.not_true, Bool.not_false, Bool.true_and, Bool.false_and, Bool.and_true, Bool.and_false, Bool.true_or, Bool.false_or, Bool.false_eq_true, Bool.true_eq_false, not_true_eq_false, not_false_eq_true, ne_eq, Int.reduceEq, Int.reduceNe, Int.reduceLT, Int.reduceLE, and_self, and_true, true_and, and_false, false_and, or_true, true_or, or_false, false_or, true_or, Option.map_some, this])
        (fun k L τ hk hQ => by
          obtain ⟨h0, rfl, rfl⟩ := hQ
          have c1 : (0 : Int) ≤ k ∧ k < ((512 : Nat) : Int) := by omega
          have d2 : cs_InR (k + 1) := by omega
          have v1 : cs_set σ 42 (mix (σ 42) (σ 39) k.toNat) 39 = σ 39 := cs_set_ne (by decide)
          have v01 : σ 39 k.toNat = 0 ∨ σ 39 k.toNat = 1 := h39 k.toNat (by omega)
          refine Or.inl ⟨[none, some tot, some (k + 1), none, none, none], cs_set σ 42 (mix (σ 42) (σ 39) (k + 1).toNat), ?_, by omega, rfl, rfl⟩
          simp only [wb_X10_limitFor_1, cs_run, cs_L0, s_ret, s_retz, s_retv, s_seq, s_set, s_inc, s_put, s_ast, s_zst, s_cst, s_ada, s_if, s_ex, s_cv, s_nop, s_brk, x_ite, x_l, x_k, x_f, x_a, x_ro, x_add, x_sub, x_mul, x_div, x_rem, x_neg, x_call, x_max, x_min, x_abs, g_cons, g_nil, y_lt, y_le, y_gt, y_ge, y_eq, y_ne, y_not, y_and, y_or, y_ite, Option.bind_some, Option.bind_none, List.getElem?_cons_zero, List.getElem?_cons_succ, List.getElem?_nil, List.set_cons_zero, List.set_cons_succ, List.cons_append, List.nil_append, List.append_nil, List.replicate, List.length_cons, List.length_nil, Nat.reduceAdd, Nat.reduceSub, Nat.zero_add, Nat.sub_self, if_true, if_false, ite_true, ite_false, reduceIte, reduceCtorEq, decide_true, decide_false, decide_eq_true_eq, Bool.not_true, Bool.not_false, Bool.true_and, Bool.false_and, Bool.and_true, Bool.and_false, Bool.true_or, Bool.false_or, Bool.false_eq_true, Bool.true_eq_false, not_true_eq_false, not_false_eq_true, ne_eq, Int.reduceEq, Int.reduceNe, Int.reduceLT, Int.reduceLE, and_self, and_true, true_and, and_false, false_and, or_true, true_or, or_false, false_or, true_or, Option.map_some, cs_rd_ok c1, v1, if_pos v01, cs_wr_ok c1, cs_chk_ok d2, cs_up_eq]
          rw [cs_set_at, cs_set_set, mix_s, show (k + 1).toNat = k.toNat + 1 by omega])
        (σ 4 2).toNat 0 [none, some tot, some 0, none, none, none] σ (by omega) ⟨by omega, rfl, by
          have : mix (σ 42) (σ 39) (0 : Int).toNat = σ 42 := mix_0 _ _
          rw [this, cs_set_self]⟩
      have hw1' : w_X10_limitFor_1 [none, some tot, some 0, none, none, none] σ = some (.inl ([none, some tot, some (σ 4 2), none, none, none], ρ)) := by
        rcases hw1 with ⟨L', σ', e, -, rfl, rfl⟩ | ⟨r, -, hx⟩
        · rw [w_X10_limitFor_1, e, hρ]
        · exact hx.elim
      have g2 : (s_set 2 (x_k 0)) [none, some tot, some (σ 4 2), none, none, none] ρ = some (.inl ([none, some tot, some 0, none, none, none], ρ)) := by simp only [cs_run, cs_L0, s_ret, s_retz, s_retv, s_seq, s_set, s_inc, s_put, s_ast, s_zst, s_cst, s_ada, s_if, s_ex, s_cv, s_nop, s_brk, x_ite, x_l, x_k, x_f, x_a, x_ro, x_add, x_sub, x_mul, x_div, x_rem, x_neg, x_call, x_max, x_min, x_abs, g_cons, g_nil, y_lt, y_le, y_gt, y_ge, y_eq, y_ne, y_not, y_and, y_or, y_ite, Option.bind_some, Option.bind_none, List.getElem?_cons_zero, List.getElem?_cons_succ, List.getElem?_nil, List.set_cons_zero, List.set_cons_succ, List.cons_append, List.nil_append, List.append_nil, List.replicate, List.length_cons, List.length_nil, Nat.reduceAdd, Nat.reduceSub, Nat.zero_add, Nat.sub_self, if_true, if_false, ite_true, ite_false, reduceIte, reduceCtorEq, decide_true, decide_false, decide_eq_true_eq, Bool.not_true, Bool.not_false, Bool.true_and, Bool.false_and, Bool.and_true, Bool.and_false, Bool.true_or, Bool.false_or, Bool.false_eq_true, Bool.true_eq_false, not_true_eq_false, not_false_eq_true, ne_eq, Int.reduceEq, Int.reduceNe, Int.reduceLT, Int.reduceLE, and_self, and_true, true_and, and_false, false_and, or_true, true_or, or_false, false_or, true_or, Option.map_some]
      have g3 := lr_set hρJ (tot := tot) (L := [none, some tot, some 0, none, none, none]) rfl ρ
      rw [mx_same] at g3
      have g3' := sset (i := 3) g3
      simp only [List.set_cons_succ, List.set_cons_zero] at g3'
      have eP : f_X10_presentAll [] (mx rA ρe ρ) = some (some (ρe 4 3), mx rA ρe ρ) := by
        rw [fr_f_X10_presentAll, f_presentAll j1.1.1 j1.1.2.1 j1.1.2.2.1]
        rfl
      have g4 : ∀ A : Bool, A = decide (ρe 4 3 ≤ tot) → (s_set 4 (x_ite (y_le (x_call f_X10_presentAll g_nil) (x_l 1)) (x_k 1) (x_k 0))) [none, some tot, some lim, some (-1), o4', none] (mx rA ρe ρ) = some (.inl ([none, some tot, some lim, some (-1), some (if A then 1 else 0), none], mx rA ρe ρ)) := by
        intro A hA
        by_cases z : ρe 4 3 ≤ tot
        · rw [decide_eq_true z] at hA
          subst hA
          simp only [cs_run, cs_L0, s_ret, s_retz, s_retv, s_seq, s_set, s_inc, s_put, s_ast, s_zst, s_cst, s_ada, s_if, s_ex, s_cv, s_nop, s_brk, x_ite, x_l, x_k, x_f, x_a, x_ro, x_add, x_sub, x_mul, x_div, x_rem, x_neg, x_call, x_max, x_min, x_abs, g_cons, g_nil, y_lt, y_le, y_gt, y_ge, y_eq, y_ne, y_not, y_and, y_or, y_ite, Option.bind_some, Option.bind_none, List.getElem?_cons_zero, List.getElem?_cons_succ, List.getElem?_nil, List.set_cons_zero, List.set_cons_succ, List.cons_append, List.nil_append, List.append_nil, List.replicate, List.length_cons, List.length_nil, Nat.reduceAdd, Nat.reduceSub, Nat.zero_add, Nat.sub_self, if_true, if_false, ite_true, ite_false, reduceIte, reduceCtorEq, decide_true, decide_false, decide_eq_true_eq, Bool.not_true, Bool.not_false, Bool.true_and, Bool.false_and, Bool.and_true, Bool.and_false, Bool.true_or, Bool.false_or, Bool.false_eq_true, Bool.true_eq_false, not_true_eq_false, not_false_eq_true, ne_eq, Int.reduceEq, Int.reduceNe, Int.reduceLT, Int.reduceLE, and_self, and_true, true_and, and_false, false_and, or_true, true_or, or_false, false_or, true_or, Option.map_some, eP, z]
        · rw [decide_eq_false z] at hA
          subst hA
          simp only [cs_run, cs_L0, s_ret, s_retz, s_retv, s_seq, s_set, s_inc, s_put, s_ast, s_zst, s_cst, s_ada, s_if, s_ex, s_cv, s_nop, s_brk, x_ite, x_l, x_k, x_f, x_a, x_ro, x_add, x_sub, x_mul, x_div, x_rem, x_neg, x_call, x_max, x_min, x_abs, g_cons, g_nil, y_lt, y_le, y_gt, y_ge, y_eq, y_ne, y_not, y_and, y_or, y_ite, Option.bind_some, Option.bind_none, List.getElem?_cons_zero, List.getElem?_cons_succ, List.getElem?_nil, List.set_cons_zero, List.set_cons_succ, List.cons_append, List.nil_append, List.append_nil, List.replicate, List.length_cons, List.length_nil, Nat.reduceAdd, Nat.reduceSub, Nat.zero_add, Nat.sub_self, if_true, if_false, ite_true, ite_false, reduceIte, reduceCtorEq, decide_true, decide_false, decide_eq_true_eq, Bool.not_true, Bool.not_false, Bool.true_and, Bool.false_and, Bool.and_true, Bool.and_false, Bool.true_or, Bool.false_or, Bool.false_eq_true, Bool.true_eq_false, not_true_eq_false, not_false_eq_true, ne_eq, Int.reduceEq, Int.reduceNe, Int.reduceLT, Int.reduceLE, and_self, and_true, true_and, and_false, false_and, or_true, true_or, or_false, false_or, true_or, Option.map_some, eP, z]
      obtain ⟨A, hA⟩ : ∃ A : Bool, A = decide (ρe 4 3 ≤ tot) := ⟨_, rfl⟩
      have g4' := g4 A hA
      have g5 : (s_set 5 (x_k 0)) [none, some tot, some lim, some (-1), some (if A then 1 else 0), none] (mx rA ρe ρ) = some (.inl ([none, some tot, some lim, some (-1), some (if A then 1 else 0), some 0], mx rA ρe ρ)) := by simp only [cs_run, cs_L0, s_ret, s_retz, s_retv, s_seq, s_set, s_inc, s_put, s_ast, s_zst, s_cst, s_ada, s_if, s_ex, s_cv, s_nop, s_brk, x_ite, x_l, x_k, x_f, x_a, x_ro, x_add, x_sub, x_mul, x_div, x_rem, x_neg, x_call, x_max, x_min, x_abs, g_cons, g_nil, y_lt, y_le, y_gt, y_ge, y_eq, y_ne, y_not, y_and, y_or, y_ite, Option.bind_some, Option.bind_none, List.getElem?_cons_zero, List.getElem?_cons_succ, List.getElem?_nil, List.set_cons_zero, List.set_cons_succ, List.cons_append, List.nil_append, List.append_nil, List.replicate, List.length_cons, List.length_nil, Nat.reduceAdd, Nat.reduceSub, Nat.zero_add, Nat.sub_self, if_true, if_false, ite_true, ite_false, reduceIte, reduceCtorEq, decide_true, decide_false, decide_eq_true_eq, Bool.not_true, Bool.not_false, Bool.true_and, Bool.false_and, Bool.and_true, Bool.and_false, Bool.true_or, Bool.false_or, Bool.false_eq_true, Bool.true_eq_false, not_true_eq_false, not_false_eq_true, ne_eq, Int.reduceEq, Int.reduceNe, Int.reduceLT, Int.reduceLE, and_self, and_true, true_and, and_false, false_and, or_true, true_or, or_false, false_or, true_or, Option.map_some]
      have m10 : mx rA ρe ρ 10 8 = σ 4 2 := by rw [mx_at rfl, ke 10 (by decide) (by decide) (by decide) (by decide) (by decide) (by decide), ro 10 (by decide), hn8]
      have m42 : mx rA ρe ρ 42 = ρ 42 := by rw [mx_at rfl, ke 42 (by decide) (by decide) (by decide) (by decide) (by decide) (by decide)]
      have m39 : mx rA ρe ρ 39 = ρe 39 := mx_at rfl
      generalize mx rA ρe ρ = κ at *
      have hw3 := wh_up (c := wc_X10_limitFor_3) (b := wb_X10_limitFor_3) (fun k L τ => 0 ≤ k ∧ L = [none, some tot, some lim, some (-1), some (if A then 1 else 0), some k] ∧ τ = cs_set κ 39 (mix (ρe 39) (ρ 42) k.toNat)) (fun _ => False) (σ 4 2)
        (fun k L τ hk hQ => by
          obtain ⟨h0, rfl, rfl⟩ := hQ
          have : cs_set κ 39 (mix (ρe 39) (ρ 42) k.toNat) 10 8 = σ 4 2 := by rw [cs_set_ne (by decide), m10]
          simp only [wc_X10_limitFor_3, cs_run, cs_L0, s_ret, s_retz, s_retv, s_seq, s_set, s_inc, s_put, s_ast, s_zst, s_cst, s_ada, s_if, s_ex, s_cv, s_nop, s_brk, x_ite, x_l, x_k, x_f, x_a, x_ro, x_add, x_sub, x_mul, x_div, x_rem, x_neg, x_call, x_max, x_min, x_abs, g_cons, g_nil, y_lt, y_le, y_gt, y_ge, y_eq, y_ne, y_not, y_and, y_or, y_ite, Option.bind_some, Option.bind_none, List.getElem?_cons_zero, List.getElem?_cons_succ, List.getElem?_nil, List.set_cons_zero, List.set_cons_succ, List.cons_append, List.nil_append, List.append_nil, List.replicate, List.length_cons, List.length_nil, Nat.reduceAdd, Nat.reduceSub, Nat.zero_add, Nat.sub_self, if_true, if_false, ite_true, ite_false, reduceIte, reduceCtorEq, decide_true, decide_false, decide_eq_true_eq, Bool.not_true, Bool.not_false, Bool.true_and, Bool.false_and, Bool.and_true, Bool.and_false, Bool.true_or, Bool.false_or, Bool.false_eq_true, Bool.true_eq_false, not_true_eq_false, not_false_eq_true, ne_eq, Int.reduceEq, Int.reduceNe, Int.reduceLT, Int.reduceLE, and_self, and_true, true_and, and_false, false_and, or_true, true_or, or_false, false_or, true_or, Option.map_some, this])
        (fun k L τ hk hQ => by
          obtain ⟨h0, rfl, rfl⟩ := hQ
          have c1 : (0 : Int) ≤ k ∧ k < ((512 : Nat) : Int) := by omega
          have d2 : cs_InR (k + 1) := by omega
          have v1 : cs_set κ 39 (mix (ρe 39) (ρ 42) k.toNat) 42 = ρ 42 := by rw [cs_set_ne (by decide), m42]
          have v01 : ρ 42 k.toNat = 0 ∨ ρ 42 k.toNat = 1 := by
            rw [r42]
            unfold mix
            rw [if_pos (by omega)]
            exact h39 k.toNat (by omega)
          refine Or.inl ⟨[none, some tot, some lim, some (-1), some (if A then 1 else 0), some (k + 1)], cs_set κ 39 (mix (ρe 39) (ρ 42) (k + 1).toNat), ?_, by omega, rfl, rfl⟩
          simp only [wb_X10_limitFor_3, cs_run, cs_L0, s_ret, s_retz, s_retv, s_seq, s_set, s_inc, s_put, s_ast, s_zst, s_cst, s_ada, s_if, s_ex, s_cv, s_nop, s_brk, x_ite, x_l, x_k, x_f, x_a, x_ro, x_add, x_sub, x_mul, x_div, x_rem, x_neg, x_call, x_max, x_min, x_abs, g_cons, g_nil, y_lt, y_le, y_gt, y_ge, y_eq, y_ne, y_not, y_and, y_or, y_ite, Option.bind_some, Option.bind_none, List.getElem?_cons_zero, List.getElem?_cons_succ, List.getElem?_nil, List.set_cons_zero, List.set_cons_succ, List.cons_append, List.nil_append, List.append_nil, List.replicate, List.length_cons, List.length_nil, Nat.reduceAdd, Nat.reduceSub, Nat.zero_add, Nat.sub_self, if_true, if_false, ite_true, ite_false, reduceIte, reduceCtorEq, decide_true, decide_false, decide_eq_true_eq, Bool.not_true, Bool.not_false, Bool.true_and, Bool.false_and, Bool.and_true, Bool.and_false, Bool.true_or, Bool.false_or, Bool.false_eq_true, Bool.true_eq_false, not_true_eq_false, not_false_eq_true, ne_eq, Int.reduceEq, Int.reduceNe, Int.reduceLT, Int.reduceLE, and_self, and_true, true_and, and_false, false_and, or_true, true_or, or_false, false_or, true_or, Option.map_some, cs_rd_ok c1, v1, if_pos v01, cs_wr_ok c1, cs_chk_ok d2, cs_up_eq]
          rw [cs_set_at, cs_set_set, mix_s, show (k + 1).toNat = k.toNat + 1 by omega])
        (σ 4 2).toNat 0 [none, some tot, some lim, some (-1), some (if A then 1 else 0), some 0] κ (by omega) ⟨by omega, rfl, by
          have : mix (ρe 39) (ρ 42) (0 : Int).toNat = κ 39 := by rw [m39]; exact mix_0 _ _
          rw [this, cs_set_self]⟩
      have hw3' : w_X10_limitFor_3 [none, some tot, some lim, some (-1), some (if A then 1 else 0), some 0] κ = some (.inl ([none, some tot, some lim, some (-1), some (if A then 1 else 0), some (σ 4 2)], τ)) := by
        rcases hw3 with ⟨L', σ', e, -, rfl, rfl⟩ | ⟨r, -, hx⟩
        · rw [w_X10_limitFor_3, e, hτ]
        · exact hx.elim
      unfold f_X10_limitFor b_X10_limitFor cs_run
      simp only [cs_L0, Option.bind_some, Option.bind_none, List.getElem?_cons_zero, List.getElem?_cons_succ, List.getElem?_nil, List.set_cons_zero, List.set_cons_succ, List.cons_append, List.nil_append, List.append_nil, List.replicate, List.length_cons, List.length_nil, Nat.reduceAdd, Nat.reduceSub, Nat.zero_add, Nat.sub_self, if_true, if_false, ite_true, ite_false, reduceIte, reduceCtorEq, decide_true, decide_false, decide_eq_true_eq, Bool.not_true, Bool.not_false, Bool.true_and, Bool.false_and, Bool.and_true, Bool.and_false, Bool.true_or, Bool.false_or, Bool.false_eq_true, Bool.true_eq_false, not_true_eq_false, not_false_eq_true, ne_eq, Int.reduceEq, Int.reduceNe, Int.reduceLT, Int.reduceLE, and_self, and_true, true_and, and_false, false_and, or_true, true_or, or_false, false_or, true_or, Option.map_some]
      rw [sq_st g0, sq_assoc, sq_st g1, sq_st hw1', sq_st g2, sq_st g3', sq_st hR2, sq_st g4', sq_assoc, sq_st g5, sq_st hw3']
      by_cases z : tot < ρe 4 3
      · have : A = false := by rw [hA, decide_eq_false (by omega)]
        subst this
        simp only [cs_run, cs_L0, s_ret, s_retz, s_retv, s_seq, s_set, s_inc, s_put, s_ast, s_zst, s_cst, s_ada, s_if, s_ex, s_cv, s_nop, s_brk, x_ite, x_l, x_k, x_f, x_a, x_ro, x_add, x_sub, x_mul, x_div, x_rem, x_neg, x_call, x_max, x_min, x_abs, g_cons, g_nil, y_lt, y_le, y_gt, y_ge, y_eq, y_ne, y_not, y_and, y_or, y_ite, Option.bind_some, Option.bind_none, List.getElem?_cons_zero, List.getElem?_cons_succ, List.getElem?_nil, List.set_cons_zero, List.set_cons_succ, List.cons_append, List.nil_append, List.append_nil, List.replicate, List.length_cons, List.length_nil, Nat.reduceAdd, Nat.reduceSub, Nat.zero_add, Nat.sub_self, if_true, if_false, ite_true, ite_false, reduceIte, reduceCtorEq, decide_true, decide_false, decide_eq_true_eq, Bool.not_true, Bool.not_false, Bool.true_and, Bool.false_and, Bool.and_true, Bool.and_false, Bool.true_or, Bool.false_or, Bool.false_eq_true, Bool.true_eq_false, not_true_eq_false, not_false_eq_true, ne_eq, Int.reduceEq, Int.reduceNe, Int.reduceLT, Int.reduceLE, and_self, and_true, true_and, and_false, false_and, or_true, true_or, or_false, false_or, true_or, Option.map_some, z]
      · have : A = true := by rw [hA, decide_eq_true (by omega)]
        subst this
        simp only [cs_run, cs_L0, s_ret, s_retz, s_retv, s_seq, s_set, s_inc, s_put, s_ast, s_zst, s_cst, s_ada, s_if, s_ex, s_cv, s_nop, s_brk, x_ite, x_l, x_k, x_f, x_a, x_ro, x_add, x_sub, x_mul, x_div, x_rem, x_neg, x_call, x_max, x_min, x_abs, g_cons, g_nil, y_lt, y_le, y_gt, y_ge, y_eq, y_ne, y_not, y_and, y_or, y_ite, Option.bind_some, Option.bind_none, List.getElem?_cons_zero, List.getElem?_cons_succ, List.getElem?_nil, List.set_cons_zero, List.set_cons_succ, List.cons_append, List.nil_append, List.append_nil, List.replicate, List.length_cons, List.length_nil, Nat.reduceAdd, Nat.reduceSub, Nat.zero_add, Nat.sub_self, if_true, if_false, ite_true, ite_false, reduceIte, reduceCtorEq, decide_true, decide_false, decide_eq_true_eq, Bool.not_true, Bool.not_false, Bool.true_and, Bool.false_and, Bool.and_true, Bool.and_false, Bool.true_or, Bool.false_or, Bool.false_eq_true, Bool.true_eq_false, not_true_eq_false, not_false_eq_true, ne_eq, Int.reduceEq, Int.reduceNe, Int.reduceLT, Int.reduceLE, and_self, and_true, true_and, and_false, false_and, or_true, true_or, or_false, false_or, true_or, Option.map_some, z]
    · -- what both have at the end
      have at' : ∀ q, cA q = true → mx cA (mx cA (bk ρe n.toNat) σ) τ q = bk ρe n.toNat q := fun q hq => by rw [mx_at hq, mx_at hq]
      have ro' : ∀ q, cA q = false → q ≠ 39 → mx cA (mx cA (bk ρe n.toNat) σ) τ q = ρ q := fun q hq n9 => by
        have ne : ∀ p, cA p = true → q ≠ p := fun p hp e => by subst e; rw [hq] at hp; exact absurd hp (by decide)
        have hq' : rA q = true := by unfold rA; rw [hq]; rfl
        rw [mx_off hq, hτ, cs_set_ne n9, mx_at hq', ke q (ne 4 rfl) (ne 16 rfl) (ne 24 rfl) (ne 23 rfl) (ne 26 rfl) n9]
      have to : ∀ q, cA q = true → q ≠ 23 → q ≠ 4 → q ≠ 16 → q ≠ 24 → q ≠ 26 → mx cA (mx cA (bk ρe n.toNat) σ) τ q = σ q := fun q hq n1 n2 n3 n4 n5 => by
        have ne : ∀ p, cA p = false → q ≠ p := fun p hp e => by subst e; rw [hq] at hp; exact absurd hp (by decide)
        rw [at' q hq, bk_o _ _ q n1 n2 n3 n4, ke q n2 n3 n4 n1 n5 (ne 39 rfl), ro q (ne 42 rfl)]
      have t39 : mx cA (mx cA (bk ρe n.toNat) σ) τ 39 = mix (ρe 39) (ρ 42) (σ 4 2).toNat := by rw [mx_off rfl, hτ, cs_set_at]
      have c4 := at' 4 rfl
      have c16 := at' 16 rfl
      have c23 := at' 23 rfl
      have c24 := at' 24 rfl
      have w4 : ∀ k, k ≠ 3 → bk ρe n.toNat 4 k = σ 4 k := fun k hk => by rw [bk_4 _ _ k hk, ke4 k hk, ro 4 (by decide)]
      have o20 := to 20 rfl (by decide) (by decide) (by decide) (by decide) (by decide)
      have o15 := to 15 rfl (by decide) (by decide) (by decide) (by decide) (by decide)
      have o21 := to 21 rfl (by decide) (by decide) (by decide) (by decide) (by decide)
      have o22 := to 22 rfl (by decide) (by decide) (by decide) (by decide) (by decide)
      have o8 := to 8 rfl (by decide) (by decide) (by decide) (by decide) (by decide)
      have o27 := to 27 rfl (by decide) (by decide) (by decide) (by decide) (by decide)
      have o10 := (ro' 10 rfl (by decide)).trans (ro 10 (by decide))
      have o41 := (ro' 41 rfl (by decide)).trans (ro 41 (by decide))
      have b20 := bk_o ρe n.toNat 20 (by decide) (by decide) (by decide) (by decide)
      have at20 := at' 20 rfl
      have at21 := at' 21 rfl
      have at22 := at' 22 rfl
      have hz : ∀ q, cA q = false → q ≠ 39 → q ≠ 42 → mx cA (mx cA (bk ρe n.toNat) σ) τ q = σ q := fun q hq n9 n42 => (ro' q hq n9).trans (ro q n42)
      have h32 := hz 32 rfl (by decide) (by decide)
      have h33 := hz 33 rfl (by decide) (by decide)
      have h37 := hz 37 rfl (by decide) (by decide)
      have h38 := hz 38 rfl (by decide) (by decide)
      generalize mx cA (mx cA (bk ρe n.toNat) σ) τ = φ at *
      have a1 : φ 4 1 = σ 4 1 := by rw [c4, w4 1 (by decide)]
      have a2 : φ 4 2 = σ 4 2 := by rw [c4, w4 2 (by decide)]
      refine ⟨⟨(CSo_cg a1 a2 o15 o20 o21 o22).mpr h, CPr_cg c4 c16 at20 at21 at22 c23 c24 b2, ?_, ?_, ?_⟩, ?_, ?_, ?_⟩
      · refine RR_cg (σ := σ) a1 a2 (by rw [o10]) (by rw [o10]) o15 o21 o22 h32 h33 h37 h38 hR (fun u hu => ?_)
        rw [t39, c23, hbk23, r42]
        unfold mix
        rw [if_pos (by omega), if_pos (by omega)]
        exact (hR.2.1.2 u hu).2.2
      · unfold StJ
        rw [o8, o10, o27, o41, a2]
        exact hS
      · unfold HiJ
        rw [o15, a1, o41, o8, c23, hbk23]
        exact hH
      · intro q n1 n2 n3 n4 n5 n6 n7 n8 n9 n10 n11
        cases hq : cA q
        · exact hz q hq n9 n11
        · exact to q hq n4 n1 n3 n5 n6
      · intro k hk
        rw [c4, w4 k hk]
      · intro k hk
        rw [o10]
