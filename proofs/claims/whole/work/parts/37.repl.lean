/-! sums, and the picture that the text tells -/
def sm (D : Nat → Int) : Nat → Int
  | 0 => 0
  | n + 1 => sm D n + D n
theorem sm_flat {D : Nat → Int} {m : Nat} : ∀ (n : Nat), (∀ k, m ≤ k → k < m + n → D k = 0) → sm D (m + n) = sm D m
  | 0, _ => rfl
  | n + 1, h => by
    rw [show m + (n + 1) = (m + n) + 1 by omega, sm, sm_flat n (fun k h1 h2 => h k h1 (by omega)), h (m + n) (by omega) (by omega)]
    omega
theorem sm_le {D : Nat → Int} (h : ∀ k, 0 ≤ D k ∧ D k ≤ 1) : ∀ n : Nat, 0 ≤ sm D n ∧ sm D n ≤ n
  | 0 => by simp [sm]
  | n + 1 => by
    have h1 := sm_le h n
    have h2 := h n
    rw [sm]
    omega
def mix (a b : Nat → Int) (m : Nat) : Nat → Int := fun j => if j < m then b j else a j
theorem mix_0 (a b : Nat → Int) : mix a b 0 = a := by funext j; simp [mix]
theorem mix_s (a b : Nat → Int) (m : Nat) : au (mix a b m) m (b m) = mix a b (m + 1) := by
  funext j; unfold au mix
  by_cases h : j = m
  · subst h; simp
  · by_cases h2 : j < m
    · simp [h, h2, Nat.lt_succ_of_lt h2]
    · have : ¬ j < m + 1 := by omega
      simp [h, h2, this]
theorem mix_flat {a b : Nat → Int} {m : Nat} (n : Nat) (h : ∀ k, m ≤ k → k < m + n → a k = b k) : mix a b (m + n) = mix a b m := by
  funext j; unfold mix
  by_cases h1 : j < m
  · rw [if_pos h1, if_pos (by omega)]
  · rw [if_neg h1]
    by_cases h2 : j < m + n
    · rw [if_pos h2, h j (by omega) h2]
    · rw [if_neg h2]
def dif (a b : Nat → Int) (k : Nat) : Int := if a k ≠ b k then 1 else 0
theorem dif_01 (a b : Nat → Int) (k : Nat) : 0 ≤ dif a b k ∧ dif a b k ≤ 1 := by unfold dif; split <;> omega
theorem AJ_off {w h : Int} {a b : Nat → Int} (ha : AJ w h a) (hb : AJ w h b) {k : Nat} (hk : k < 192) (hn : ¬ (((k % 16 : Nat) : Int) < w ∧ ((k / 16 : Nat) : Int) < h)) : a k = b k := by rw [ha.2 k hk hn, hb.2 k hk hn]
theorem AJ_mix {w h : Int} {a b : Nat → Int} {m : Nat} (ha : AJ w h a) (hb : AJ w h b) : AJ w h (mix a b m) := by
  constructor
  · intro k hk; unfold mix; split
    · exact hb.1 k hk
    · exact ha.1 k hk
  · intro k hk hn; unfold mix; split
    · exact hb.2 k hk hn
    · exact ha.2 k hk hn
theorem f_replaceC (σ : cs_S) (hz : szJ (σ 1 3) (σ 1 4)) (ha : AJ (σ 1 3) (σ 1 4) (σ 11)) (hb : AJ (σ 1 3) (σ 1 4) (σ 14)) : f_X2_replaceBy [] σ = some (some (sm (dif (σ 11) (σ 14)) 192), cs_set σ 11 (mix (σ 11) (σ 14) 192)) := by
  have hin : ∀ (y : Int) (o5 : Option Int), 0 ≤ y → y < σ 1 4 → ∃ q5, w_X2_replaceBy_1 [none, none, some (sm (dif (σ 11) (σ 14)) (y * 16).toNat), some y, some 0, o5] (cs_set σ 11 (mix (σ 11) (σ 14) (y * 16).toNat)) = some (.inl ([none, none, some (sm (dif (σ 11) (σ 14)) ((y + 1) * 16).toNat), some (y), some (σ 1 3), q5], cs_set σ 11 (mix (σ 11) (σ 14) ((y + 1) * 16).toNat))) := by
    intro y o5 h1 h2
    have hh := wh_for (α := Option Int) (c := wc_X2_replaceBy_1) (b := wb_X2_replaceBy_1) (fun k o => [none, none, some (sm (dif (σ 11) (σ 14)) (y * 16 + k).toNat), some y, some k, o]) (fun _ => cs_set σ 11 (mix (σ 11) (σ 14) 0)) (fun k _ => some (y * 16 + k)) (fun _ _ => False) 0 (fun _ _ h => h.elim) (fun _ _ h => h.elim)
    clear hh
    -- by the number of columns left
    have key : ∀ (n : Nat) (k : Int) (o : Option Int), 0 ≤ k → σ 1 3 = k + n → ∃ q5, w_X2_replaceBy_1 [none, none, some (sm (dif (σ 11) (σ 14)) (y * 16 + k).toNat), some y, some k, o] (cs_set σ 11 (mix (σ 11) (σ 14) (y * 16 + k).toNat)) = some (.inl ([none, none, some (sm (dif (σ 11) (σ 14)) (y * 16 + σ 1 3).toNat), some y, some (σ 1 3), q5], cs_set σ 11 (mix (σ 11) (σ 14) (y * 16 + σ 1 3).toNat))) := by
      intro n
      induction n with
      | zero =>
        intro k o hk he
        have he : σ 1 3 = k := by omega
        refine ⟨o, ?_⟩
        unfold w_X2_replaceBy_1
        rw [s_wh_eq, he]
        simp [wc_X2_replaceBy_1, cs_run, cs_L0, s_ret, s_retz, s_retv, s_seq, s_set, s_inc, s_put, s_ast, s_zst, s_cst, s_ada, s_if, s_ex, s_cv, s_nop, s_brk, x_ite, x_l, x_k, x_f, x_a, x_ro, x_add, x_sub, x_mul, x_div, x_rem, x_neg, x_call, x_max, x_min, x_abs, g_cons, g_nil, y_lt, y_le, y_gt, y_ge, y_eq, y_ne, y_not, y_and, y_or, y_ite, cs_set_ne, he]
      | succ n ih =>
        intro k o hk he
        have hlt : k < σ 1 3 := by omega
        obtain ⟨q5, ih⟩ := ih (k + 1) (some (y * 16 + k)) (by omega) (by omega)
        refine ⟨q5, ?_⟩
        have hp : inP (σ 1 3) (σ 1 4) k y = true := inP_iff.mpr (by omega)
        have hs := sm_le (dif_01 (σ 11) (σ 14)) (y * 16 + k).toNat
        have e1 : (y * 16 + k).toNat + 1 = (y * 16 + (k + 1)).toNat := by omega
        have hput := f_put k y (σ 14 (y * 16 + k).toNat) (cs_set σ 11 (mix (σ 11) (σ 14) (y * 16 + k).toNat)) (by simpa [cs_set_ne] using hz)
        have hm : mix (σ 11) (σ 14) (y * 16 + k).toNat (y * 16 + k).toNat = σ 11 (y * 16 + k).toNat := by simp [mix]
        simp only [cs_set_ne (show (1 : Nat) ≠ 11 by decide), cs_set_at, hp, if_true, true_and, cs_set_set, ix, hm, mix_s] at hput
        have hd : (if σ 11 (y * 16 + k).toNat ≠ σ 14 (y * 16 + k).toNat then (1 : Int) else 0) = dif (σ 11) (σ 14) (y * 16 + k).toNat := rfl
        rw [hd] at hput
        have hd1 := dif_01 (σ 11) (σ 14) (y * 16 + k).toNat
        have k14 : ∀ m, cs_set σ 11 m 14 = σ 14 := fun m => cs_set_ne (by decide)
        have k1 : ∀ m, cs_set σ 11 m 1 = σ 1 := fun m => cs_set_ne (by decide)
        have hc : wc_X2_replaceBy_1 [none, none, some (sm (dif (σ 11) (σ 14)) (y * 16 + k).toNat), some y, some k, o] (cs_set σ 11 (mix (σ 11) (σ 14) (y * 16 + k).toNat)) = some (true, cs_set σ 11 (mix (σ 11) (σ 14) (y * 16 + k).toNat)) := by
          simp (disch := omega) only [cs_run, cs_L0, s_ret, s_retz, s_retv, s_seq, s_set, s_inc, s_put, s_ast, s_zst, s_cst, s_ada, s_if, s_ex, s_cv, s_nop, s_brk, x_ite, x_l, x_k, x_f, x_a, x_ro, x_add, x_sub, x_mul, x_div, x_rem, x_neg, x_call, x_max, x_min, x_abs, g_cons, g_nil, y_lt, y_le, y_gt, y_ge, y_eq, y_ne, y_not, y_and, y_or, y_ite, Option.bind_some, Option.bind_none, List.getElem?_cons_zero, List.getElem?_cons_succ, List.getElem?_nil, List.set_cons_zero, List.set_cons_succ, List.cons_append, List.nil_append, List.append_nil, List.replicate, List.length_cons, List.length_nil, Nat.reduceAdd, Nat.reduceSub, Nat.zero_add, Nat.sub_self, if_true, if_false, ite_true, ite_false, reduceIte, reduceCtorEq, decide_true, decide_false, decide_eq_true_eq, Bool.not_true, Bool.not_false, Bool.true_and, Bool.false_and, Bool.and_true, Bool.and_false, Bool.true_or, Bool.false_or, Bool.false_eq_true, Bool.true_eq_false, not_true_eq_false, not_false_eq_true, ne_eq, Int.reduceEq, Int.reduceNe, Int.reduceLT, Int.reduceLE, and_self, and_true, true_and, and_false, false_and, or_true, true_or, or_false, false_or, true_or, Option.map_some, cs_chk_ok, cs_rd_ok, cs_wr_ok, wc_X2_replaceBy_1, k1, hlt]
        have h192 : y * 16 + k < 192 := by omega
        have hbd : wb_X2_replaceBy_1 [none, none, some (sm (dif (σ 11) (σ 14)) (y * 16 + k).toNat), some y, some k, o] (cs_set σ 11 (mix (σ 11) (σ 14) (y * 16 + k).toNat)) = some (.inl ([none, none, some (sm (dif (σ 11) (σ 14)) (y * 16 + (k + 1)).toNat), some y, some (k + 1), some (y * 16 + k)], cs_set σ 11 (mix (σ 11) (σ 14) (y * 16 + (k + 1)).toNat))) := by
          rw [← e1]
          simp (disch := omega) only [cs_run, cs_L0, s_ret, s_retz, s_retv, s_seq, s_set, s_inc, s_put, s_ast, s_zst, s_cst, s_ada, s_if, s_ex, s_cv, s_nop, s_brk, x_ite, x_l, x_k, x_f, x_a, x_ro, x_add, x_sub, x_mul, x_div, x_rem, x_neg, x_call, x_max, x_min, x_abs, g_cons, g_nil, y_lt, y_le, y_gt, y_ge, y_eq, y_ne, y_not, y_and, y_or, y_ite, Option.bind_some, Option.bind_none, List.getElem?_cons_zero, List.getElem?_cons_succ, List.getElem?_nil, List.set_cons_zero, List.set_cons_succ, List.cons_append, List.nil_append, List.append_nil, List.replicate, List.length_cons, List.length_nil, Nat.reduceAdd, Nat.reduceSub, Nat.zero_add, Nat.sub_self, if_true, if_false, ite_true, ite_false, reduceIte, reduceCtorEq, decide_true, decide_false, decide_eq_true_eq, Bool.not_true, Bool.not_false, Bool.true_and, Bool.false_and, Bool.and_true, Bool.and_false, Bool.true_or, Bool.false_or, Bool.false_eq_true, Bool.true_eq_false, not_true_eq_false, not_false_eq_true, ne_eq, Int.reduceEq, Int.reduceNe, Int.reduceLT, Int.reduceLE, and_self, and_true, true_and, and_false, false_and, or_true, true_or, or_false, false_or, true_or, Option.map_some, cs_chk_ok, cs_rd_ok, cs_wr_ok, wb_X2_replaceBy_1, k14, h192, hput, sm]
        unfold w_X2_replaceBy_1 at ih ⊢
        rw [s_wh_eq, hc]
        simp only [Option.bind_some, if_true, hbd, ih]
    obtain ⟨q5, hk⟩ := key (σ 1 3).toNat 0 o5 (by omega) (by omega)
    refine ⟨q5, ?_⟩
    rw [Int.add_zero] at hk
    rw [hk]
    have hoff : ∀ k, (y * 16 + σ 1 3).toNat ≤ k → k < (y * 16 + σ 1 3).toNat + (16 - σ 1 3).toNat → σ 11 k = σ 14 k := fun k g1 g2 => AJ_off ha hb (by omega) (fun q => by omega)
    have e : ((y + 1) * 16).toNat = (y * 16 + σ 1 3).toNat + (16 - σ 1 3).toNat := by omega
    rw [e, sm_flat _ (fun k g1 g2 => by unfold dif; rw [if_neg (by simp [hoff k g1 g2])]), mix_flat _ hoff]
  have key : ∀ (n : Nat) (y : Int) (o4 o5 : Option Int), 0 ≤ y → σ 1 4 = y + n → ∃ q4 q5, w_X2_replaceBy_2 [none, none, some (sm (dif (σ 11) (σ 14)) (y * 16).toNat), some y, o4, o5] (cs_set σ 11 (mix (σ 11) (σ 14) (y * 16).toNat)) = some (.inl ([none, none, some (sm (dif (σ 11) (σ 14)) (σ 1 4 * 16).toNat), some (σ 1 4), q4, q5], cs_set σ 11 (mix (σ 11) (σ 14) (σ 1 4 * 16).toNat))) := by
    have k1 : ∀ m, cs_set σ 11 m 1 = σ 1 := fun m => cs_set_ne (by decide)
    intro n
    induction n with
    | zero =>
      intro y o4 o5 hy he
      have he : σ 1 4 = y := by omega
      refine ⟨o4, o5, ?_⟩
      unfold w_X2_replaceBy_2
      rw [s_wh_eq]
      simp [wc_X2_replaceBy_2, cs_run, cs_L0, s_ret, s_retz, s_retv, s_seq, s_set, s_inc, s_put, s_ast, s_zst, s_cst, s_ada, s_if, s_ex, s_cv, s_nop, s_brk, x_ite, x_l, x_k, x_f, x_a, x_ro, x_add, x_sub, x_mul, x_div, x_rem, x_neg, x_call, x_max, x_min, x_abs, g_cons, g_nil, y_lt, y_le, y_gt, y_ge, y_eq, y_ne, y_not, y_and, y_or, y_ite, k1, he]
    | succ n ih =>
      intro y o4 o5 hy he
      have hlt : y < σ 1 4 := by omega
      obtain ⟨p5, hi⟩ := hin y o5 hy hlt
      obtain ⟨q4, q5, ih⟩ := ih (y + 1) (some (σ 1 3)) p5 (by omega) (by omega)
      refine ⟨q4, q5, ?_⟩
      have hc : wc_X2_replaceBy_2 [none, none, some (sm (dif (σ 11) (σ 14)) (y * 16).toNat), some y, o4, o5] (cs_set σ 11 (mix (σ 11) (σ 14) (y * 16).toNat)) = some (true, cs_set σ 11 (mix (σ 11) (σ 14) (y * 16).toNat)) := by
        simp (disch := omega) only [cs_run, cs_L0, s_ret, s_retz, s_retv, s_seq, s_set, s_inc, s_put, s_ast, s_zst, s_cst, s_ada, s_if, s_ex, s_cv, s_nop, s_brk, x_ite, x_l, x_k, x_f, x_a, x_ro, x_add, x_sub, x_mul, x_div, x_rem, x_neg, x_call, x_max, x_min, x_abs, g_cons, g_nil, y_lt, y_le, y_gt, y_ge, y_eq, y_ne, y_not, y_and, y_or, y_ite, Option.bind_some, Option.bind_none, List.getElem?_cons_zero, List.getElem?_cons_succ, List.getElem?_nil, List.set_cons_zero, List.set_cons_succ, List.cons_append, List.nil_append, List.append_nil, List.replicate, List.length_cons, List.length_nil, Nat.reduceAdd, Nat.reduceSub, Nat.zero_add, Nat.sub_self, if_true, if_false, ite_true, ite_false, reduceIte, reduceCtorEq, decide_true, decide_false, decide_eq_true_eq, Bool.not_true, Bool.not_false, Bool.true_and, Bool.false_and, Bool.and_true, Bool.and_false, Bool.true_or, Bool.false_or, Bool.false_eq_true, Bool.true_eq_false, not_true_eq_false, not_false_eq_true, ne_eq, Int.reduceEq, Int.reduceNe, Int.reduceLT, Int.reduceLE, and_self, and_true, true_and, and_false, false_and, or_true, true_or, or_false, false_or, true_or, Option.map_some, cs_chk_ok, cs_rd_ok, cs_wr_ok, wc_X2_replaceBy_2, k1, hlt]
      have hbd : wb_X2_replaceBy_2 [none, none, some (sm (dif (σ 11) (σ 14)) (y * 16).toNat), some y, o4, o5] (cs_set σ 11 (mix (σ 11) (σ 14) (y * 16).toNat)) = some (.inl ([none, none, some (sm (dif (σ 11) (σ 14)) ((y + 1) * 16).toNat), some (y + 1), some (σ 1 3), p5], cs_set σ 11 (mix (σ 11) (σ 14) ((y + 1) * 16).toNat))) := by
        simp (disch := omega) only [cs_run, cs_L0, s_ret, s_retz, s_retv, s_seq, s_set, s_inc, s_put, s_ast, s_zst, s_cst, s_ada, s_if, s_ex, s_cv, s_nop, s_brk, x_ite, x_l, x_k, x_f, x_a, x_ro, x_add, x_sub, x_mul, x_div, x_rem, x_neg, x_call, x_max, x_min, x_abs, g_cons, g_nil, y_lt, y_le, y_gt, y_ge, y_eq, y_ne, y_not, y_and, y_or, y_ite, Option.bind_some, Option.bind_none, List.getElem?_cons_zero, List.getElem?_cons_succ, List.getElem?_nil, List.set_cons_zero, List.set_cons_succ, List.cons_append, List.nil_append, List.append_nil, List.replicate, List.length_cons, List.length_nil, Nat.reduceAdd, Nat.reduceSub, Nat.zero_add, Nat.sub_self, if_true, if_false, ite_true, ite_false, reduceIte, reduceCtorEq, decide_true, decide_false, decide_eq_true_eq, Bool.not_true, Bool.not_false, Bool.true_and, Bool.false_and, Bool.and_true, Bool.and_false, Bool.true_or, Bool.false_or, Bool.false_eq_true, Bool.true_eq_false, not_true_eq_false, not_false_eq_true, ne_eq, Int.reduceEq, Int.reduceNe, Int.reduceLT, Int.reduceLE, and_self, and_true, true_and, and_false, false_and, or_true, true_or, or_false, false_or, true_or, Option.map_some, cs_chk_ok, cs_rd_ok, cs_wr_ok, wb_X2_replaceBy_2, hi]
      unfold w_X2_replaceBy_2 at ih ⊢
      rw [s_wh_eq, hc]
      simp only [Option.bind_some, if_true, hbd, ih]
  obtain ⟨q4, q5, hk⟩ := key (σ 1 4).toNat 0 none none (by omega) (by omega)
  rw [Int.zero_mul] at hk
  simp only [Int.toNat_zero, sm, mix_0, cs_set_self] at hk
  have hoff : ∀ k, (σ 1 4 * 16).toNat ≤ k → k < (σ 1 4 * 16).toNat + (192 - σ 1 4 * 16).toNat → σ 11 k = σ 14 k := fun k g1 g2 => AJ_off ha hb (by omega) (fun q => by omega)
  have e : 192 = (σ 1 4 * 16).toNat + (192 - σ 1 4 * 16).toNat := by omega
  have e1 : sm (dif (σ 11) (σ 14)) 192 = sm (dif (σ 11) (σ 14)) (σ 1 4 * 16).toNat := by
    rw [e, sm_flat _ (fun k g1 g2 => by unfold dif; rw [if_neg (by simp [hoff k g1 g2])])]
  have e2 : mix (σ 11) (σ 14) 192 = mix (σ 11) (σ 14) (σ 1 4 * 16).toNat := by
    rw [e, mix_flat _ hoff]
  rw [e1, e2]
  simp (disch := omega) only [cs_run, cs_L0, s_ret, s_retz, s_retv, s_seq, s_set, s_inc, s_put, s_ast, s_zst, s_cst, s_ada, s_if, s_ex, s_cv, s_nop, s_brk, x_ite, x_l, x_k, x_f, x_a, x_ro, x_add, x_sub, x_mul, x_div, x_rem, x_neg, x_call, x_max, x_min, x_abs, g_cons, g_nil, y_lt, y_le, y_gt, y_ge, y_eq, y_ne, y_not, y_and, y_or, y_ite, Option.bind_some, Option.bind_none, List.getElem?_cons_zero, List.getElem?_cons_succ, List.getElem?_nil, List.set_cons_zero, List.set_cons_succ, List.cons_append, List.nil_append, List.append_nil, List.replicate, List.length_cons, List.length_nil, Nat.reduceAdd, Nat.reduceSub, Nat.zero_add, Nat.sub_self, if_true, if_false, ite_true, ite_false, reduceIte, reduceCtorEq, decide_true, decide_false, decide_eq_true_eq, Bool.not_true, Bool.not_false, Bool.true_and, Bool.false_and, Bool.and_true, Bool.and_false, Bool.true_or, Bool.false_or, Bool.false_eq_true, Bool.true_eq_false, not_true_eq_false, not_false_eq_true, ne_eq, Int.reduceEq, Int.reduceNe, Int.reduceLT, Int.reduceLE, and_self, and_true, true_and, and_false, false_and, or_true, true_or, or_false, false_or, true_or, Option.map_some, cs_chk_ok, cs_rd_ok, cs_wr_ok, f_X2_replaceBy, b_X2_replaceBy, hk]
theorem f_readC (σ : cs_S) (hz : szJ (σ 1 3) (σ 1 4)) (ha : AJ (σ 1 3) (σ 1 4) (σ 11)) (h0 : 0 ≤ σ 2 1) (hl : σ 2 1 ≤ 200) (hch : ∀ k, 0 ≤ σ 13 k ∧ σ 13 k < 65536) : ∃ s2 : rdT, match rdL (σ 1 3) (σ 1 4) (σ 13) (σ 2 1).toNat 0 (rd0 (σ 14)) with
    | .inl r => f_X9_readPicture [] σ = some (some (-100 - r.1), rdC (rdB σ) s2)
    | .inr s' => if 0 < s'.2.2.1 then f_X9_readPicture [] σ = some (some (-100 - σ 2 1), rdC (rdB σ) s2) else s2 = s' ∧ f_X9_readPicture [] σ = some (some (sm (dif (σ 11) s'.2.2.2) 192), cs_set (dropC (rdC (rdB σ) s')) 11 (mix (σ 11) s'.2.2.2 192)) := by
  have hf := f_faultC σ hz h0 hl hch
  have hI := rdL_I (ch := σ 13) hz (σ 2 1).toNat 0 (rd0 (σ 14)) (rd0_I hz)
  cases hr : rdL (σ 1 3) (σ 1 4) (σ 13) (σ 2 1).toNat 0 (rd0 (σ 14)) with
  | inl r =>
    rw [hr] at hf hI
    dsimp only at hf hI
    refine ⟨r.2, ?_⟩
    have g : ¬ r.1 = -1 := by omega
    simp (disch := omega) only [cs_run, cs_L0, s_ret, s_retz, s_retv, s_seq, s_set, s_inc, s_put, s_ast, s_zst, s_cst, s_ada, s_if, s_ex, s_cv, s_nop, s_brk, x_ite, x_l, x_k, x_f, x_a, x_ro, x_add, x_sub, x_mul, x_div, x_rem, x_neg, x_call, x_max, x_min, x_abs, g_cons, g_nil, y_lt, y_le, y_gt, y_ge, y_eq, y_ne, y_not, y_and, y_or, y_ite, Option.bind_some, Option.bind_none, List.getElem?_cons_zero, List.getElem?_cons_succ, List.getElem?_nil, List.set_cons_zero, List.set_cons_succ, List.cons_append, List.nil_append, List.append_nil, List.replicate, List.length_cons, List.length_nil, Nat.reduceAdd, Nat.reduceSub, Nat.zero_add, Nat.sub_self, if_true, if_false, ite_true, ite_false, reduceIte, reduceCtorEq, decide_true, decide_false, decide_eq_true_eq, Bool.not_true, Bool.not_false, Bool.true_and, Bool.false_and, Bool.and_true, Bool.and_false, Bool.true_or, Bool.false_or, Bool.false_eq_true, Bool.true_eq_false, not_true_eq_false, not_false_eq_true, ne_eq, Int.reduceEq, Int.reduceNe, Int.reduceLT, Int.reduceLE, and_self, and_true, true_and, and_false, false_and, or_true, true_or, or_false, false_or, true_or, Option.map_some, cs_chk_ok, cs_rd_ok, cs_wr_ok, f_X9_readPicture, b_X9_readPicture, cs_run, cs_L0, hf, g]
  | inr s' =>
    rw [hr] at hf hI
    dsimp only at hf hI
    refine ⟨s', ?_⟩
    by_cases hn : 0 < s'.2.2.1
    · rw [if_pos hn] at hf
      simp only [if_pos hn]
      have g : ¬ σ 2 1 = -1 := by omega
      simp (disch := omega) only [cs_run, cs_L0, s_ret, s_retz, s_retv, s_seq, s_set, s_inc, s_put, s_ast, s_zst, s_cst, s_ada, s_if, s_ex, s_cv, s_nop, s_brk, x_ite, x_l, x_k, x_f, x_a, x_ro, x_add, x_sub, x_mul, x_div, x_rem, x_neg, x_call, x_max, x_min, x_abs, g_cons, g_nil, y_lt, y_le, y_gt, y_ge, y_eq, y_ne, y_not, y_and, y_or, y_ite, Option.bind_some, Option.bind_none, List.getElem?_cons_zero, List.getElem?_cons_succ, List.getElem?_nil, List.set_cons_zero, List.set_cons_succ, List.cons_append, List.nil_append, List.append_nil, List.replicate, List.length_cons, List.length_nil, Nat.reduceAdd, Nat.reduceSub, Nat.zero_add, Nat.sub_self, if_true, if_false, ite_true, ite_false, reduceIte, reduceCtorEq, decide_true, decide_false, decide_eq_true_eq, Bool.not_true, Bool.not_false, Bool.true_and, Bool.false_and, Bool.and_true, Bool.and_false, Bool.true_or, Bool.false_or, Bool.false_eq_true, Bool.true_eq_false, not_true_eq_false, not_false_eq_true, ne_eq, Int.reduceEq, Int.reduceNe, Int.reduceLT, Int.reduceLE, and_self, and_true, true_and, and_false, false_and, or_true, true_or, or_false, false_or, true_or, Option.map_some, cs_chk_ok, cs_rd_ok, cs_wr_ok, f_X9_readPicture, b_X9_readPicture, cs_run, cs_L0, hf, g]
    · rw [if_neg hn] at hf
      simp only [if_neg hn, true_and]
      have d1 : dropC (rdC (rdB σ) s') 1 = σ 1 := by simp [dropC, rdC, rdB, cs_set]
      have d11 : dropC (rdC (rdB σ) s') 11 = σ 11 := by simp [dropC, rdC, rdB, cs_set]
      have d14 : dropC (rdC (rdB σ) s') 14 = s'.2.2.2 := by simp [dropC, rdC, rdB, cs_set]
      have hrep := f_replaceC (dropC (rdC (rdB σ) s')) (by rw [d1]; exact hz) (by rw [d1, d11]; exact ha) (by rw [d1, d14]; exact hI.2.2.2)
      rw [d11, d14] at hrep
      simp (disch := omega) only [cs_run, cs_L0, s_ret, s_retz, s_retv, s_seq, s_set, s_inc, s_put, s_ast, s_zst, s_cst, s_ada, s_if, s_ex, s_cv, s_nop, s_brk, x_ite, x_l, x_k, x_f, x_a, x_ro, x_add, x_sub, x_mul, x_div, x_rem, x_neg, x_call, x_max, x_min, x_abs, g_cons, g_nil, y_lt, y_le, y_gt, y_ge, y_eq, y_ne, y_not, y_and, y_or, y_ite, Option.bind_some, Option.bind_none, List.getElem?_cons_zero, List.getElem?_cons_succ, List.getElem?_nil, List.set_cons_zero, List.set_cons_succ, List.cons_append, List.nil_append, List.append_nil, List.replicate, List.length_cons, List.length_nil, Nat.reduceAdd, Nat.reduceSub, Nat.zero_add, Nat.sub_self, if_true, if_false, ite_true, ite_false, reduceIte, reduceCtorEq, decide_true, decide_false, decide_eq_true_eq, Bool.not_true, Bool.not_false, Bool.true_and, Bool.false_and, Bool.and_true, Bool.and_false, Bool.true_or, Bool.false_or, Bool.false_eq_true, Bool.true_eq_false, not_true_eq_false, not_false_eq_true, ne_eq, Int.reduceEq, Int.reduceNe, Int.reduceLT, Int.reduceLE, and_self, and_true, true_and, and_false, false_and, or_true, true_or, or_false, false_or, true_or, Option.map_some, cs_chk_ok, cs_rd_ok, cs_wr_ok, f_X9_readPicture, b_X9_readPicture, cs_run, cs_L0, hf, f_dropC, hrep]
