theorem sweep_loop (σ : cs_S) (hz : szJ (σ 10 0) (σ 10 1)) (x y v old : Int) (s0 : Nat) (hs0 : s0 < 192) (b0 : Nat → Int) (hI0 : RI (σ 10 0) (σ 10 1) (σ 28) old s0 b0) : ∀ (n : Nat) (k m : Int) (b : Nat → Int) (o7 o8 o9 : Option Int), 0 ≤ k → 192 = k + n → (m = 0 ∨ m = 1) → RI (σ 10 0) (σ 10 1) (σ 28) old s0 b → (m = 0 → b = b0 ∧ ∀ j : Int, 0 ≤ j → j < k → hitB (σ 10 0) (σ 10 1) (σ 28) old b0 j = false) → (m = 1 → cntB b0 < cntB b) →
    ∃ m' b' q7 q8 q9, w_X10_flood_2 [none, some x, some y, some v, some old, some m, some k, o7, o8, o9] (cs_set σ 29 b) = some (.inl ([none, some x, some y, some v, some old, some m', some 192, q7, q8, q9], cs_set σ 29 b')) ∧ (m' = 0 ∨ m' = 1) ∧ RI (σ 10 0) (σ 10 1) (σ 28) old s0 b' ∧ (m' = 0 → b' = b0 ∧ ∀ j : Int, 0 ≤ j → j < 192 → hitB (σ 10 0) (σ 10 1) (σ 28) old b0 j = false) ∧ (m' = 1 → cntB b0 < cntB b') := by
  intro n
  induction n with
  | zero =>
    intro k m b o7 o8 o9 h0 hk hm hI h1 h2
    have : k = 192 := by omega
    subst this
    refine ⟨m, b, o7, o8, o9, ?_, hm, hI, h1, h2⟩
    unfold w_X10_flood_2
    rw [s_wh_eq]
    simp (disch := omega) only [cs_run, cs_L0, s_ret, s_retz, s_retv, s_seq, s_set, s_inc, s_put, s_ast, s_zst, s_cst, s_ada, s_if, s_ex, s_cv, s_nop, s_brk, x_ite, x_l, x_k, x_f, x_a, x_ro, x_add, x_sub, x_mul, x_div, x_rem, x_neg, x_call, x_max, x_min, x_abs, g_cons, g_nil, y_lt, y_le, y_gt, y_ge, y_eq, y_ne, y_not, y_and, y_or, y_ite, Option.bind_some, Option.bind_none, List.getElem?_cons_zero, List.getElem?_cons_succ, List.getElem?_nil, List.set_cons_zero, List.set_cons_succ, List.cons_append, List.nil_append, List.append_nil, List.replicate, List.length_cons, List.length_nil, Nat.reduceAdd, Nat.reduceSub, Nat.zero_add, Nat.sub_self, if_true, if_false, ite_true, ite_false, reduceIte, reduceCtorEq, decide_true, decide_false, decide_eq_true_eq, Bool.not_true, Bool.not_false, Bool.true_and, Bool.false_and, Bool.and_true, Bool.and_false, Bool.true_or, Bool.false_or, Bool.false_eq_true, Bool.true_eq_false, not_true_eq_false, not_false_eq_true, ne_eq, Int.reduceEq, Int.reduceNe, Int.reduceLT, Int.reduceLE, and_self, and_true, true_and, and_false, false_and, or_true, true_or, or_false, false_or, true_or, Option.map_some, cs_chk_ok, cs_rd_ok, cs_wr_ok, wc_X10_flood_2]
  | succ n ih =>
    intro k m b o7 o8 o9 h0 hk hm hI h1 h2
    have hlt : k < 192 := by omega
    obtain ⟨p7, p8, p9, hb⟩ := sweep_body σ hz x y v old m k b o7 o8 o9 h0 hlt hI.1 hm
    have hc : wc_X10_flood_2 [none, some x, some y, some v, some old, some m, some k, o7, o8, o9] (cs_set σ 29 b) = some (true, cs_set σ 29 b) := by
      simp (disch := omega) only [cs_run, cs_L0, s_ret, s_retz, s_retv, s_seq, s_set, s_inc, s_put, s_ast, s_zst, s_cst, s_ada, s_if, s_ex, s_cv, s_nop, s_brk, x_ite, x_l, x_k, x_f, x_a, x_ro, x_add, x_sub, x_mul, x_div, x_rem, x_neg, x_call, x_max, x_min, x_abs, g_cons, g_nil, y_lt, y_le, y_gt, y_ge, y_eq, y_ne, y_not, y_and, y_or, y_ite, Option.bind_some, Option.bind_none, List.getElem?_cons_zero, List.getElem?_cons_succ, List.getElem?_nil, List.set_cons_zero, List.set_cons_succ, List.cons_append, List.nil_append, List.append_nil, List.replicate, List.length_cons, List.length_nil, Nat.reduceAdd, Nat.reduceSub, Nat.zero_add, Nat.sub_self, if_true, if_false, ite_true, ite_false, reduceIte, reduceCtorEq, decide_true, decide_false, decide_eq_true_eq, Bool.not_true, Bool.not_false, Bool.true_and, Bool.false_and, Bool.and_true, Bool.and_false, Bool.true_or, Bool.false_or, Bool.false_eq_true, Bool.true_eq_false, not_true_eq_false, not_false_eq_true, ne_eq, Int.reduceEq, Int.reduceNe, Int.reduceLT, Int.reduceLE, and_self, and_true, true_and, and_false, false_and, or_true, true_or, or_false, false_or, true_or, Option.map_some, cs_chk_ok, cs_rd_ok, cs_wr_ok, wc_X10_flood_2, hlt]
    cases hh : hitB (σ 10 0) (σ 10 1) (σ 28) old b k with
    | true =>
      rw [hh] at hb
      simp only [if_true] at hb
      have hb0 : b k.toNat = 0 := by
        simp only [hitB, Bool.and_eq_true, decide_eq_true_eq] at hh
        exact hh.2.1
      have hcnt : cntB (au b k.toNat 1) = cntB b + 1 := by
        unfold cntB
        rw [sm_au hb0, if_pos (by omega)]
      have hge : cntB b0 ≤ cntB b := by
        rcases hm with rfl | rfl
        · rw [(h1 rfl).1]; omega
        · have := h2 rfl; omega
      obtain ⟨m', b', q7, q8, q9, r1, r2⟩ := ih (k + 1) 1 (au b k.toNat 1) p7 p8 p9 (by omega) (by omega) (Or.inr rfl) (hit_RI hz h0 hlt hs0 hI hh) (fun q => by omega) (fun _ => by rw [hcnt]; omega)
      refine ⟨m', b', q7, q8, q9, ?_, r2⟩
      unfold w_X10_flood_2 at r1 ⊢
      rw [s_wh_eq, hc]
      simp only [Option.bind_some, if_true, hb, r1]
    | false =>
      rw [hh] at hb
      simp only [Bool.false_eq_true, if_false] at hb
      obtain ⟨m', b', q7, q8, q9, r1, r2⟩ := ih (k + 1) m b p7 p8 p9 (by omega) (by omega) hm hI (fun q => by
        obtain ⟨e1, e2⟩ := h1 q
        refine ⟨e1, fun j j0 j1 => ?_⟩
        by_cases e : j = k
        · subst e; rw [← e1]; exact hh
        · exact e2 j j0 (by omega)) h2
      refine ⟨m', b', q7, q8, q9, ?_, r2⟩
      unfold w_X10_flood_2 at r1 ⊢
      rw [s_wh_eq, hc]
      simp only [Option.bind_some, if_true, hb, r1]
/-- nothing came to it: the set is closed -/
theorem nohit_closed {w h : Int} {a0 : Nat → Int} {old : Int} {s0 : Nat} {b : Nat → Int} (hz : szJ w h) (hI : RI w h a0 old s0 b) (hn : ∀ j : Int, 0 ≤ j → j < 192 → hitB w h a0 old b j = false) : ClosedF w h a0 old (fun k => k < 192 ∧ b k = 1) := by
  intro x y hp ⟨hk, hb⟩ d d0 d4 hp2 ha
  have q1 := inP_iff.mp hp
  have q2 := inP_iff.mp hp2
  have hs := sxy d d0 d4
  have hl : ix (x + sx d) (y + sy d) < 192 := by unfold ix; omega
  refine ⟨hl, ?_⟩
  rcases hI.1 _ hl with hb0 | hb1
  · exfalso
    have hj := hn ((y + sy d) * 16 + (x + sx d)) (by omega) (by omega)
    have e1 : ((y + sy d) * 16 + (x + sx d)) % 16 = x + sx d := by omega
    have e2 : ((y + sy d) * 16 + (x + sx d)) / 16 = y + sy d := by omega
    have e3 : ((y + sy d) * 16 + (x + sx d)).toNat = ix (x + sx d) (y + sy d) := rfl
    have hr : rchB w h b x y = true := by simp [rchB, hp, hb]
    simp only [hitB, e1, e2, e3, hp2, hb0, ha, decide_true, Bool.true_and, Bool.or_eq_false_iff] at hj
    obtain ⟨j1, j2, j3, j4⟩ := hj
    rcases hs with ⟨s1, s2⟩ | ⟨s1, s2⟩ | ⟨s1, s2⟩ | ⟨s1, s2⟩
    · rw [s1, s2, show x + 1 - 1 = x by omega, show y + 0 = y by omega, hr] at j1; cases j1
    · rw [s1, s2, show x + 0 = x by omega, show y + 1 - 1 = y by omega, hr] at j3; cases j3
    · rw [s1, s2, show x + -1 + 1 = x by omega, show y + 0 = y by omega, hr] at j2; cases j2
    · rw [s1, s2, show x + 0 = x by omega, show y + -1 + 1 = y by omega, hr] at j4; cases j4
  · exact hb1
theorem grow_loop (σ : cs_S) (hz : szJ (σ 10 0) (σ 10 1)) (x y v old : Int) (s0 : Nat) (hs0 : s0 < 192) : ∀ (n : Nat) (b : Nat → Int) (o6 o7 o8 o9 : Option Int), RI (σ 10 0) (σ 10 1) (σ 28) old s0 b → 192 ≤ cntB b + n →
    ∃ b' q6 q7 q8 q9, w_X10_flood_3 [none, some x, some y, some v, some old, some 1, o6, o7, o8, o9] (cs_set σ 29 b) = some (.inl ([none, some x, some y, some v, some old, some 0, q6, q7, q8, q9], cs_set σ 29 b')) ∧ RI (σ 10 0) (σ 10 1) (σ 28) old s0 b' ∧ ClosedF (σ 10 0) (σ 10 1) (σ 28) old (fun k => k < 192 ∧ b' k = 1) := by
  have main : ∀ (b : Nat → Int) (o6 o7 o8 o9 : Option Int), RI (σ 10 0) (σ 10 1) (σ 28) old s0 b → ∃ m' b' q7 q8 q9, wb_X10_flood_3 [none, some x, some y, some v, some old, some 1, o6, o7, o8, o9] (cs_set σ 29 b) = some (.inl ([none, some x, some y, some v, some old, some m', some 192, q7, q8, q9], cs_set σ 29 b')) ∧ (m' = 0 ∨ m' = 1) ∧ RI (σ 10 0) (σ 10 1) (σ 28) old s0 b' ∧ (m' = 0 → b' = b ∧ ∀ j : Int, 0 ≤ j → j < 192 → hitB (σ 10 0) (σ 10 1) (σ 28) old b j = false) ∧ (m' = 1 → cntB b < cntB b') := by
    intro b o6 o7 o8 o9 hI
    obtain ⟨m', b', q7, q8, q9, r1, r2⟩ := sweep_loop σ hz x y v old s0 hs0 b hI 192 0 0 b o7 o8 o9 (by omega) (by omega) (Or.inl rfl) hI (fun _ => ⟨rfl, fun j j0 j1 => by omega⟩) (fun q => by omega)
    exact ⟨m', b', q7, q8, q9, by simp only [wb_X10_flood_3, cs_run, cs_L0, s_ret, s_retz, s_retv, s_seq, s_set, s_inc, s_put, s_ast, s_zst, s_cst, s_ada, s_if, s_ex, s_cv, s_nop, s_brk, x_ite, x_l, x_k, x_f, x_a, x_ro, x_add, x_sub, x_mul, x_div, x_rem, x_neg, x_call, x_max, x_min, x_abs, g_cons, g_nil, y_lt, y_le, y_gt, y_ge, y_eq, y_ne, y_not, y_and, y_or, y_ite, Option.bind_some, Option.bind_none, List.getElem?_cons_zero, List.getElem?_cons_succ, List.getElem?_nil, List.set_cons_zero, List.set_cons_succ, List.cons_append, List.nil_append, List.append_nil, List.replicate, List.length_cons, List.length_nil, Nat.reduceAdd, Nat.reduceSub, Nat.zero_add, Nat.sub_self, if_true, if_false, ite_true, ite_false, reduceIte, reduceCtorEq, decide_true, decide_false, decide_eq_true_eq, Bool.not_true, Bool.not_false, Bool.true_and, Bool.false_and, Bool.and_true, Bool.and_false, Bool.true_or, Bool.false_or, Bool.false_eq_true, Bool.true_eq_false, not_true_eq_false, not_false_eq_true, ne_eq, Int.reduceEq, Int.reduceNe, Int.reduceLT, Int.reduceLE, and_self, and_true, true_and, and_false, false_and, or_true, true_or, or_false, false_or, true_or, Option.map_some, r1], r2⟩
  have fin : ∀ (b : Nat → Int) (q6 q7 q8 q9 : Option Int), w_X10_flood_3 [none, some x, some y, some v, some old, some 0, q6, q7, q8, q9] (cs_set σ 29 b) = some (.inl ([none, some x, some y, some v, some old, some 0, q6, q7, q8, q9], cs_set σ 29 b)) := by
    intro b q6 q7 q8 q9
    unfold w_X10_flood_3
    rw [s_wh_eq]
    simp (disch := omega) only [cs_run, cs_L0, s_ret, s_retz, s_retv, s_seq, s_set, s_inc, s_put, s_ast, s_zst, s_cst, s_ada, s_if, s_ex, s_cv, s_nop, s_brk, x_ite, x_l, x_k, x_f, x_a, x_ro, x_add, x_sub, x_mul, x_div, x_rem, x_neg, x_call, x_max, x_min, x_abs, g_cons, g_nil, y_lt, y_le, y_gt, y_ge, y_eq, y_ne, y_not, y_and, y_or, y_ite, Option.bind_some, Option.bind_none, List.getElem?_cons_zero, List.getElem?_cons_succ, List.getElem?_nil, List.set_cons_zero, List.set_cons_succ, List.cons_append, List.nil_append, List.append_nil, List.replicate, List.length_cons, List.length_nil, Nat.reduceAdd, Nat.reduceSub, Nat.zero_add, Nat.sub_self, if_true, if_false, ite_true, ite_false, reduceIte, reduceCtorEq, decide_true, decide_false, decide_eq_true_eq, Bool.not_true, Bool.not_false, Bool.true_and, Bool.false_and, Bool.and_true, Bool.and_false, Bool.true_or, Bool.false_or, Bool.false_eq_true, Bool.true_eq_false, not_true_eq_false, not_false_eq_true, ne_eq, Int.reduceEq, Int.reduceNe, Int.reduceLT, Int.reduceLE, and_self, and_true, true_and, and_false, false_and, or_true, true_or, or_false, false_or, true_or, Option.map_some, cs_chk_ok, cs_rd_ok, cs_wr_ok, wc_X10_flood_3]
  have hc : ∀ (b : Nat → Int) (q6 q7 q8 q9 : Option Int), wc_X10_flood_3 [none, some x, some y, some v, some old, some 1, q6, q7, q8, q9] (cs_set σ 29 b) = some (true, cs_set σ 29 b) := by
    intro b q6 q7 q8 q9
    simp (disch := omega) only [cs_run, cs_L0, s_ret, s_retz, s_retv, s_seq, s_set, s_inc, s_put, s_ast, s_zst, s_cst, s_ada, s_if, s_ex, s_cv, s_nop, s_brk, x_ite, x_l, x_k, x_f, x_a, x_ro, x_add, x_sub, x_mul, x_div, x_rem, x_neg, x_call, x_max, x_min, x_abs, g_cons, g_nil, y_lt, y_le, y_gt, y_ge, y_eq, y_ne, y_not, y_and, y_or, y_ite, Option.bind_some, Option.bind_none, List.getElem?_cons_zero, List.getElem?_cons_succ, List.getElem?_nil, List.set_cons_zero, List.set_cons_succ, List.cons_append, List.nil_append, List.append_nil, List.replicate, List.length_cons, List.length_nil, Nat.reduceAdd, Nat.reduceSub, Nat.zero_add, Nat.sub_self, if_true, if_false, ite_true, ite_false, reduceIte, reduceCtorEq, decide_true, decide_false, decide_eq_true_eq, Bool.not_true, Bool.not_false, Bool.true_and, Bool.false_and, Bool.and_true, Bool.and_false, Bool.true_or, Bool.false_or, Bool.false_eq_true, Bool.true_eq_false, not_true_eq_false, not_false_eq_true, ne_eq, Int.reduceEq, Int.reduceNe, Int.reduceLT, Int.reduceLE, and_self, and_true, true_and, and_false, false_and, or_true, true_or, or_false, false_or, true_or, Option.map_some, cs_chk_ok, cs_rd_ok, cs_wr_ok, wc_X10_flood_3]
  intro n
  induction n with
  | zero =>
    intro b o6 o7 o8 o9 hI hn
    obtain ⟨m', b', q7, q8, q9, r1, r2, r3, r4, r5⟩ := main b o6 o7 o8 o9 hI
    rcases r2 with rfl | rfl
    · obtain ⟨e1, e2⟩ := r4 rfl
      refine ⟨b', some 192, q7, q8, q9, ?_, r3, by rw [e1]; exact nohit_closed hz hI e2⟩
      have f := fin b' (some 192) q7 q8 q9
      unfold w_X10_flood_3 at f ⊢
      rw [s_wh_eq, hc]
      simp only [Option.bind_some, if_true, r1, f]
    · have := r5 rfl
      have := cntB_in b'
      omega
  | succ n ih =>
    intro b o6 o7 o8 o9 hI hn
    obtain ⟨m', b', q7, q8, q9, r1, r2, r3, r4, r5⟩ := main b o6 o7 o8 o9 hI
    rcases r2 with rfl | rfl
    · obtain ⟨e1, e2⟩ := r4 rfl
      refine ⟨b', some 192, q7, q8, q9, ?_, r3, by rw [e1]; exact nohit_closed hz hI e2⟩
      have f := fin b' (some 192) q7 q8 q9
      unfold w_X10_flood_3 at f ⊢
      rw [s_wh_eq, hc]
      simp only [Option.bind_some, if_true, r1, f]
    · have := r5 rfl
      obtain ⟨b2, p6, p7, p8, p9, k1, k2⟩ := ih b' (some 192) q7 q8 q9 r3 (by omega)
      refine ⟨b2, p6, p7, p8, p9, ?_, k2⟩
      unfold w_X10_flood_3 at k1 ⊢
      rw [s_wh_eq, hc]
      simp only [Option.bind_some, if_true, r1, k1]
def flA (a b : Nat → Int) (v : Int) (m : Nat) : Nat → Int := fun j => if j < m ∧ b j ≠ 0 then v else a j
theorem flood_last (σ : cs_S) (x y v old : Int) (b : Nat → Int) (o8 o9 : Option Int) : ∀ (n : Nat) (k : Int), 0 ≤ k → 192 = k + n →
    w_X10_flood_4 [none, some x, some y, some v, some old, some 0, some (sm (fun j => if b j ≠ 0 ∧ old ≠ v then 1 else 0) k.toNat), some k, o8, o9] (cs_set (cs_set σ 29 b) 28 (flA (σ 28) b v k.toNat)) = some (.inl ([none, some x, some y, some v, some old, some 0, some (sm (fun j => if b j ≠ 0 ∧ old ≠ v then 1 else 0) 192), some 192, o8, o9], cs_set (cs_set σ 29 b) 28 (flA (σ 28) b v 192))) := by
  intro n
  induction n with
  | zero =>
    intro k h0 hk
    have : k = 192 := by omega
    subst this
    unfold w_X10_flood_4
    rw [s_wh_eq]
    rw [show (192 : Int).toNat = 192 from rfl]
    generalize cs_set (cs_set σ 29 b) 28 (flA (σ 28) b v 192) = τ
    simp (disch := omega) only [cs_run, cs_L0, s_ret, s_retz, s_retv, s_seq, s_set, s_inc, s_put, s_ast, s_zst, s_cst, s_ada, s_if, s_ex, s_cv, s_nop, s_brk, x_ite, x_l, x_k, x_f, x_a, x_ro, x_add, x_sub, x_mul, x_div, x_rem, x_neg, x_call, x_max, x_min, x_abs, g_cons, g_nil, y_lt, y_le, y_gt, y_ge, y_eq, y_ne, y_not, y_and, y_or, y_ite, Option.bind_some, Option.bind_none, List.getElem?_cons_zero, List.getElem?_cons_succ, List.getElem?_nil, List.set_cons_zero, List.set_cons_succ, List.cons_append, List.nil_append, List.append_nil, List.replicate, List.length_cons, List.length_nil, Nat.reduceAdd, Nat.reduceSub, Nat.zero_add, Nat.sub_self, if_true, if_false, ite_true, ite_false, reduceIte, reduceCtorEq, decide_true, decide_false, decide_eq_true_eq, Bool.not_true, Bool.not_false, Bool.true_and, Bool.false_and, Bool.and_true, Bool.and_false, Bool.true_or, Bool.false_or, Bool.false_eq_true, Bool.true_eq_false, not_true_eq_false, not_false_eq_true, ne_eq, Int.reduceEq, Int.reduceNe, Int.reduceLT, Int.reduceLE, and_self, and_true, true_and, and_false, false_and, or_true, true_or, or_false, false_or, true_or, Option.map_some, cs_chk_ok, cs_rd_ok, cs_wr_ok, wc_X10_flood_4]
  | succ n ih =>
    intro k h0 hk
    have hlt : k < 192 := by omega
    have ih := ih (k + 1) (by omega) (by omega)
    have hs := sm_le (D := fun j => if b j ≠ 0 ∧ old ≠ v then 1 else 0) (fun j => by split <;> omega) k.toNat
    have k29 : ∀ m, cs_set (cs_set σ 29 b) 28 m 29 = b := fun m => by simp [cs_set]
    have e1 : (k + 1).toNat = k.toNat + 1 := by omega
    have hfl : au (flA (σ 28) b v k.toNat) k.toNat (if b k.toNat ≠ 0 then v else σ 28 k.toNat) = flA (σ 28) b v (k.toNat + 1) := by
      funext j
      unfold au flA
      by_cases e : j = k.toNat
      · subst e
        rw [if_pos rfl]
        by_cases hb : b k.toNat = 0
        · simp [hb]
        · simp [hb]
      · rw [if_neg e]
        have : (j < k.toNat + 1 ∧ b j ≠ 0) ↔ (j < k.toNat ∧ b j ≠ 0) := ⟨fun q => ⟨by omega, q.2⟩, fun q => ⟨by omega, q.2⟩⟩
        by_cases h : j < k.toNat ∧ b j ≠ 0
        · rw [if_pos h, if_pos (this.mpr h)]
        · rw [if_neg h, if_neg (fun q => h (this.mp q))]
    have hat : flA (σ 28) b v k.toNat k.toNat = σ 28 k.toNat := by simp [flA]
    have hc : wc_X10_flood_4 [none, some x, some y, some v, some old, some 0, some (sm (fun j => if b j ≠ 0 ∧ old ≠ v then 1 else 0) k.toNat), some k, o8, o9] (cs_set (cs_set σ 29 b) 28 (flA (σ 28) b v k.toNat)) = some (true, cs_set (cs_set σ 29 b) 28 (flA (σ 28) b v k.toNat)) := by
      simp (disch := omega) only [cs_run, cs_L0, s_ret, s_retz, s_retv, s_seq, s_set, s_inc, s_put, s_ast, s_zst, s_cst, s_ada, s_if, s_ex, s_cv, s_nop, s_brk, x_ite, x_l, x_k, x_f, x_a, x_ro, x_add, x_sub, x_mul, x_div, x_rem, x_neg, x_call, x_max, x_min, x_abs, g_cons, g_nil, y_lt, y_le, y_gt, y_ge, y_eq, y_ne, y_not, y_and, y_or, y_ite, Option.bind_some, Option.bind_none, List.getElem?_cons_zero, List.getElem?_cons_succ, List.getElem?_nil, List.set_cons_zero, List.set_cons_succ, List.cons_append, List.nil_append, List.append_nil, List.replicate, List.length_cons, List.length_nil, Nat.reduceAdd, Nat.reduceSub, Nat.zero_add, Nat.sub_self, if_true, if_false, ite_true, ite_false, reduceIte, reduceCtorEq, decide_true, decide_false, decide_eq_true_eq, Bool.not_true, Bool.not_false, Bool.true_and, Bool.false_and, Bool.and_true, Bool.and_false, Bool.true_or, Bool.false_or, Bool.false_eq_true, Bool.true_eq_false, not_true_eq_false, not_false_eq_true, ne_eq, Int.reduceEq, Int.reduceNe, Int.reduceLT, Int.reduceLE, and_self, and_true, true_and, and_false, false_and, or_true, true_or, or_false, false_or, true_or, Option.map_some, cs_chk_ok, cs_rd_ok, cs_wr_ok, wc_X10_flood_4, hlt]
    have hb : wb_X10_flood_4 [none, some x, some y, some v, some old, some 0, some (sm (fun j => if b j ≠ 0 ∧ old ≠ v then 1 else 0) k.toNat), some k, o8, o9] (cs_set (cs_set σ 29 b) 28 (flA (σ 28) b v k.toNat)) = some (.inl ([none, some x, some y, some v, some old, some 0, some (sm (fun j => if b j ≠ 0 ∧ old ≠ v then 1 else 0) (k + 1).toNat), some (k + 1), o8, o9], cs_set (cs_set σ 29 b) 28 (flA (σ 28) b v (k + 1).toNat))) := by
      rw [e1, sm, ← hfl]
      generalize hS : sm (fun j => if b j ≠ 0 ∧ old ≠ v then 1 else 0) k.toNat = S at hs ⊢
      by_cases hb0 : b k.toNat = 0
      · have z : ¬ (b k.toNat ≠ 0 ∧ old ≠ v) := fun q => q.1 hb0
        have z2 : ¬ b k.toNat ≠ 0 := fun q => q hb0
        simp only [if_neg z, if_neg z2]
        simp (disch := omega) only [cs_run, cs_L0, s_ret, s_retz, s_retv, s_seq, s_set, s_inc, s_put, s_ast, s_zst, s_cst, s_ada, s_if, s_ex, s_cv, s_nop, s_brk, x_ite, x_l, x_k, x_f, x_a, x_ro, x_add, x_sub, x_mul, x_div, x_rem, x_neg, x_call, x_max, x_min, x_abs, g_cons, g_nil, y_lt, y_le, y_gt, y_ge, y_eq, y_ne, y_not, y_and, y_or, y_ite, Option.bind_some, Option.bind_none, List.getElem?_cons_zero, List.getElem?_cons_succ, List.getElem?_nil, List.set_cons_zero, List.set_cons_succ, List.cons_append, List.nil_append, List.append_nil, List.replicate, List.length_cons, List.length_nil, Nat.reduceAdd, Nat.reduceSub, Nat.zero_add, Nat.sub_self, if_true, if_false, ite_true, ite_false, reduceIte, reduceCtorEq, decide_true, decide_false, decide_eq_true_eq, Bool.not_true, Bool.not_false, Bool.true_and, Bool.false_and, Bool.and_true, Bool.and_false, Bool.true_or, Bool.false_or, Bool.false_eq_true, Bool.true_eq_false, not_true_eq_false, not_false_eq_true, ne_eq, Int.reduceEq, Int.reduceNe, Int.reduceLT, Int.reduceLE, and_self, and_true, true_and, and_false, false_and, or_true, true_or, or_false, false_or, true_or, Option.map_some, cs_chk_ok, cs_rd_ok, cs_wr_ok, wb_X10_flood_4, k29, cs_set_at, hb0, hat, cs_up_eq, cs_set_set]
      · by_cases hv : old = v
        · have z : ¬ (b k.toNat ≠ 0 ∧ old ≠ v) := fun q => q.2 hv
          simp only [if_neg z, if_pos hb0]
          simp (disch := omega) only [cs_run, cs_L0, s_ret, s_retz, s_retv, s_seq, s_set, s_inc, s_put, s_ast, s_zst, s_cst, s_ada, s_if, s_ex, s_cv, s_nop, s_brk, x_ite, x_l, x_k, x_f, x_a, x_ro, x_add, x_sub, x_mul, x_div, x_rem, x_neg, x_call, x_max, x_min, x_abs, g_cons, g_nil, y_lt, y_le, y_gt, y_ge, y_eq, y_ne, y_not, y_and, y_or, y_ite, Option.bind_some, Option.bind_none, List.getElem?_cons_zero, List.getElem?_cons_succ, List.getElem?_nil, List.set_cons_zero, List.set_cons_succ, List.cons_append, List.nil_append, List.append_nil, List.replicate, List.length_cons, List.length_nil, Nat.reduceAdd, Nat.reduceSub, Nat.zero_add, Nat.sub_self, if_true, if_false, ite_true, ite_false, reduceIte, reduceCtorEq, decide_true, decide_false, decide_eq_true_eq, Bool.not_true, Bool.not_false, Bool.true_and, Bool.false_and, Bool.and_true, Bool.and_false, Bool.true_or, Bool.false_or, Bool.false_eq_true, Bool.true_eq_false, not_true_eq_false, not_false_eq_true, ne_eq, Int.reduceEq, Int.reduceNe, Int.reduceLT, Int.reduceLE, and_self, and_true, true_and, and_false, false_and, or_true, true_or, or_false, false_or, true_or, Option.map_some, cs_chk_ok, cs_rd_ok, cs_wr_ok, wb_X10_flood_4, k29, cs_set_at, hb0, hv, hat, cs_up_eq, cs_set_set]
        · have z : (b k.toNat ≠ 0 ∧ old ≠ v) := ⟨hb0, hv⟩
          simp only [if_pos z, if_pos hb0]
          simp (disch := omega) only [cs_run, cs_L0, s_ret, s_retz, s_retv, s_seq, s_set, s_inc, s_put, s_ast, s_zst, s_cst, s_ada, s_if, s_ex, s_cv, s_nop, s_brk, x_ite, x_l, x_k, x_f, x_a, x_ro, x_add, x_sub, x_mul, x_div, x_rem, x_neg, x_call, x_max, x_min, x_abs, g_cons, g_nil, y_lt, y_le, y_gt, y_ge, y_eq, y_ne, y_not, y_and, y_or, y_ite, Option.bind_some, Option.bind_none, List.getElem?_cons_zero, List.getElem?_cons_succ, List.getElem?_nil, List.set_cons_zero, List.set_cons_succ, List.cons_append, List.nil_append, List.append_nil, List.replicate, List.length_cons, List.length_nil, Nat.reduceAdd, Nat.reduceSub, Nat.zero_add, Nat.sub_self, if_true, if_false, ite_true, ite_false, reduceIte, reduceCtorEq, decide_true, decide_false, decide_eq_true_eq, Bool.not_true, Bool.not_false, Bool.true_and, Bool.false_and, Bool.and_true, Bool.and_false, Bool.true_or, Bool.false_or, Bool.false_eq_true, Bool.true_eq_false, not_true_eq_false, not_false_eq_true, ne_eq, Int.reduceEq, Int.reduceNe, Int.reduceLT, Int.reduceLE, and_self, and_true, true_and, and_false, false_and, or_true, true_or, or_false, false_or, true_or, Option.map_some, cs_chk_ok, cs_rd_ok, cs_wr_ok, wb_X10_flood_4, k29, cs_set_at, hb0, hv, hat, cs_up_eq, cs_set_set]
    unfold w_X10_flood_4 at ih ⊢
    rw [s_wh_eq, hc]
    simp only [Option.bind_some, if_true, hb, ih]
def floodB (a : Nat → Int) (s0 : Nat) (m : Nat) : Nat → Int := fun j => if j < m then (if j = s0 then 1 else 0) else a j
theorem flood_first (σ : cs_S) (x y v old : Int) (hx : 0 ≤ x ∧ x < 16) (hy : 0 ≤ y ∧ y < 12) : ∀ (n : Nat) (k : Int), 0 ≤ k → 192 = k + n →
    w_X10_flood_1 [none, some x, some y, some v, some old, some k, none, none, none, none] (cs_set σ 29 (floodB (σ 29) (ix x y) k.toNat)) = some (.inl ([none, some x, some y, some v, some old, some 192, none, none, none, none], cs_set σ 29 (floodB (σ 29) (ix x y) 192))) := by
  intro n
  induction n with
  | zero =>
    intro k h0 hk
    have : k = 192 := by omega
    subst this
    unfold w_X10_flood_1
    rw [s_wh_eq]
    rw [show (192 : Int).toNat = 192 from rfl]
    generalize cs_set σ 29 (floodB (σ 29) (ix x y) 192) = τ
    simp (disch := omega) only [cs_run, cs_L0, s_ret, s_retz, s_retv, s_seq, s_set, s_inc, s_put, s_ast, s_zst, s_cst, s_ada, s_if, s_ex, s_cv, s_nop, s_brk, x_ite, x_l, x_k, x_f, x_a, x_ro, x_add, x_sub, x_mul, x_div, x_rem, x_neg, x_call, x_max, x_min, x_abs, g_cons, g_nil, y_lt, y_le, y_gt, y_ge, y_eq, y_ne, y_not, y_and, y_or, y_ite, Option.bind_some, Option.bind_none, List.getElem?_cons_zero, List.getElem?_cons_succ, List.getElem?_nil, List.set_cons_zero, List.set_cons_succ, List.cons_append, List.nil_append, List.append_nil, List.replicate, List.length_cons, List.length_nil, Nat.reduceAdd, Nat.reduceSub, Nat.zero_add, Nat.sub_self, if_true, if_false, ite_true, ite_false, reduceIte, reduceCtorEq, decide_true, decide_false, decide_eq_true_eq, Bool.not_true, Bool.not_false, Bool.true_and, Bool.false_and, Bool.and_true, Bool.and_false, Bool.true_or, Bool.false_or, Bool.false_eq_true, Bool.true_eq_false, not_true_eq_false, not_false_eq_true, ne_eq, Int.reduceEq, Int.reduceNe, Int.reduceLT, Int.reduceLE, and_self, and_true, true_and, and_false, false_and, or_true, true_or, or_false, false_or, true_or, Option.map_some, cs_chk_ok, cs_rd_ok, cs_wr_ok, wc_X10_flood_1]
  | succ n ih =>
    intro k h0 hk
    have hlt : k < 192 := by omega
    have ih := ih (k + 1) (by omega) (by omega)
    have e1 : (k + 1).toNat = k.toNat + 1 := by omega
    have hst : ∀ t : Int, t = (if k.toNat = ix x y then 1 else 0) → au (floodB (σ 29) (ix x y) k.toNat) k.toNat t = floodB (σ 29) (ix x y) (k.toNat + 1) := by
      intro t ht
      subst ht
      funext j
      unfold au floodB
      by_cases e : j = k.toNat
      · subst e; simp
      · rw [if_neg e]
        by_cases h : j < k.toNat
        · have h2 : j < k.toNat + 1 := by omega
          simp only [h, h2, if_true]
        · have h2 : ¬ j < k.toNat + 1 := by omega
          simp only [h, h2, if_false]
    have hc : wc_X10_flood_1 [none, some x, some y, some v, some old, some k, none, none, none, none] (cs_set σ 29 (floodB (σ 29) (ix x y) k.toNat)) = some (true, cs_set σ 29 (floodB (σ 29) (ix x y) k.toNat)) := by
      simp (disch := omega) only [cs_run, cs_L0, s_ret, s_retz, s_retv, s_seq, s_set, s_inc, s_put, s_ast, s_zst, s_cst, s_ada, s_if, s_ex, s_cv, s_nop, s_brk, x_ite, x_l, x_k, x_f, x_a, x_ro, x_add, x_sub, x_mul, x_div, x_rem, x_neg, x_call, x_max, x_min, x_abs, g_cons, g_nil, y_lt, y_le, y_gt, y_ge, y_eq, y_ne, y_not, y_and, y_or, y_ite, Option.bind_some, Option.bind_none, List.getElem?_cons_zero, List.getElem?_cons_succ, List.getElem?_nil, List.set_cons_zero, List.set_cons_succ, List.cons_append, List.nil_append, List.append_nil, List.replicate, List.length_cons, List.length_nil, Nat.reduceAdd, Nat.reduceSub, Nat.zero_add, Nat.sub_self, if_true, if_false, ite_true, ite_false, reduceIte, reduceCtorEq, decide_true, decide_false, decide_eq_true_eq, Bool.not_true, Bool.not_false, Bool.true_and, Bool.false_and, Bool.and_true, Bool.and_false, Bool.true_or, Bool.false_or, Bool.false_eq_true, Bool.true_eq_false, not_true_eq_false, not_false_eq_true, ne_eq, Int.reduceEq, Int.reduceNe, Int.reduceLT, Int.reduceLE, and_self, and_true, true_and, and_false, false_and, or_true, true_or, or_false, false_or, true_or, Option.map_some, cs_chk_ok, cs_rd_ok, cs_wr_ok, wc_X10_flood_1, hlt]
    have hb : wb_X10_flood_1 [none, some x, some y, some v, some old, some k, none, none, none, none] (cs_set σ 29 (floodB (σ 29) (ix x y) k.toNat)) = some (.inl ([none, some x, some y, some v, some old, some (k + 1), none, none, none, none], cs_set σ 29 (floodB (σ 29) (ix x y) (k + 1).toNat))) := by
      rw [e1]
      by_cases hk0 : k = 16 * y + x
      · have := hst 1 (by rw [if_pos (by unfold ix; omega)])
        rw [← this]
        simp (disch := omega) only [cs_run, cs_L0, s_ret, s_retz, s_retv, s_seq, s_set, s_inc, s_put, s_ast, s_zst, s_cst, s_ada, s_if, s_ex, s_cv, s_nop, s_brk, x_ite, x_l, x_k, x_f, x_a, x_ro, x_add, x_sub, x_mul, x_div, x_rem, x_neg, x_call, x_max, x_min, x_abs, g_cons, g_nil, y_lt, y_le, y_gt, y_ge, y_eq, y_ne, y_not, y_and, y_or, y_ite, Option.bind_some, Option.bind_none, List.getElem?_cons_zero, List.getElem?_cons_succ, List.getElem?_nil, List.set_cons_zero, List.set_cons_succ, List.cons_append, List.nil_append, List.append_nil, List.replicate, List.length_cons, List.length_nil, Nat.reduceAdd, Nat.reduceSub, Nat.zero_add, Nat.sub_self, if_true, if_false, ite_true, ite_false, reduceIte, reduceCtorEq, decide_true, decide_false, decide_eq_true_eq, Bool.not_true, Bool.not_false, Bool.true_and, Bool.false_and, Bool.and_true, Bool.and_false, Bool.true_or, Bool.false_or, Bool.false_eq_true, Bool.true_eq_false, not_true_eq_false, not_false_eq_true, ne_eq, Int.reduceEq, Int.reduceNe, Int.reduceLT, Int.reduceLE, and_self, and_true, true_and, and_false, false_and, or_true, true_or, or_false, false_or, true_or, Option.map_some, cs_chk_ok, cs_rd_ok, cs_wr_ok, wb_X10_flood_1, ← hk0, cs_up_eq, cs_set_at, cs_set_set]
      · have := hst 0 (by rw [if_neg (by unfold ix; omega)])
        rw [← this]
        simp (disch := omega) only [cs_run, cs_L0, s_ret, s_retz, s_retv, s_seq, s_set, s_inc, s_put, s_ast, s_zst, s_cst, s_ada, s_if, s_ex, s_cv, s_nop, s_brk, x_ite, x_l, x_k, x_f, x_a, x_ro, x_add, x_sub, x_mul, x_div, x_rem, x_neg, x_call, x_max, x_min, x_abs, g_cons, g_nil, y_lt, y_le, y_gt, y_ge, y_eq, y_ne, y_not, y_and, y_or, y_ite, Option.bind_some, Option.bind_none, List.getElem?_cons_zero, List.getElem?_cons_succ, List.getElem?_nil, List.set_cons_zero, List.set_cons_succ, List.cons_append, List.nil_append, List.append_nil, List.replicate, List.length_cons, List.length_nil, Nat.reduceAdd, Nat.reduceSub, Nat.zero_add, Nat.sub_self, if_true, if_false, ite_true, ite_false, reduceIte, reduceCtorEq, decide_true, decide_false, decide_eq_true_eq, Bool.not_true, Bool.not_false, Bool.true_and, Bool.false_and, Bool.and_true, Bool.and_false, Bool.true_or, Bool.false_or, Bool.false_eq_true, Bool.true_eq_false, not_true_eq_false, not_false_eq_true, ne_eq, Int.reduceEq, Int.reduceNe, Int.reduceLT, Int.reduceLE, and_self, and_true, true_and, and_false, false_and, or_true, true_or, or_false, false_or, true_or, Option.map_some, cs_chk_ok, cs_rd_ok, cs_wr_ok, wb_X10_flood_1, hk0, cs_up_eq, cs_set_at, cs_set_set]
    unfold w_X10_flood_1 at ih ⊢
    rw [s_wh_eq, hc]
    simp only [Option.bind_some, if_true, hb, ih]
theorem f_floodR (x y v : Int) (σ : cs_S) (hz : szJ (σ 10 0) (σ 10 1)) :
    (inP (σ 10 0) (σ 10 1) x y = true ∧ (0 ≤ v ∧ v ≤ 9) → ∃ b : Nat → Int, f_X10_flood [x, y, v] σ = some (some (sm (fun j => if b j ≠ 0 ∧ σ 28 (ix x y) ≠ v then 1 else 0) 192), cs_set (cs_set σ 29 b) 28 (flA (σ 28) b v 192)) ∧ RI (σ 10 0) (σ 10 1) (σ 28) (σ 28 (ix x y)) (ix x y) b ∧ ClosedF (σ 10 0) (σ 10 1) (σ 28) (σ 28 (ix x y)) (fun k => k < 192 ∧ b k = 1)) ∧
    (¬ (inP (σ 10 0) (σ 10 1) x y = true ∧ (0 ≤ v ∧ v ≤ 9)) → f_X10_flood [x, y, v] σ = some (some (-1003), σ)) := by
  constructor
  · rintro ⟨hp, hv⟩
    have hq := inP_iff.mp hp
    have hixl : ix x y < 192 := by unfold ix; omega
    have w1 := flood_first σ x y v (σ 28 (ix x y)) (by omega) (by omega) 192 0 (by omega) (by omega)
    have e0 : cs_set σ 29 (floodB (σ 29) (ix x y) (0 : Int).toNat) = σ := by
      have : floodB (σ 29) (ix x y) (0 : Int).toNat = σ 29 := by funext j; simp [floodB]
      rw [this, cs_set_self]
    rw [e0] at w1
    have hI : RI (σ 10 0) (σ 10 1) (σ 28) (σ 28 (ix x y)) (ix x y) (floodB (σ 29) (ix x y) 192) := by
      refine ⟨fun k hk => ?_, ?_, fun k hk hb => ?_, fun D _ hs k hk hb => ?_⟩
      · unfold floodB; rw [if_pos hk]; split
        · exact Or.inr rfl
        · exact Or.inl rfl
      · unfold floodB; rw [if_pos hixl, if_pos rfl]
      · unfold floodB at hb
        rw [if_pos hk] at hb
        by_cases e : k = ix x y
        · subst e; exact ⟨⟨x, y, hp, rfl⟩, rfl⟩
        · rw [if_neg e] at hb; cases hb
      · unfold floodB at hb
        rw [if_pos hk] at hb
        by_cases e : k = ix x y
        · subst e; exact hs
        · rw [if_neg e] at hb; cases hb
    obtain ⟨b, q6, q7, q8, q9, r1, r2, r3⟩ := grow_loop σ hz x y v (σ 28 (ix x y)) (ix x y) hixl 192 (floodB (σ 29) (ix x y) 192) none none none none hI (by have := cntB_in (floodB (σ 29) (ix x y) 192); omega)
    have w4 := flood_last σ x y v (σ 28 (ix x y)) b q8 q9 192 0 (by omega) (by omega)
    have e4 : cs_set (cs_set σ 29 b) 28 (flA (σ 28) b v (0 : Int).toNat) = cs_set σ 29 b := by
      have : flA (σ 28) b v (0 : Int).toNat = cs_set σ 29 b 28 := by
        rw [cs_set_ne (by decide)]
        funext j; simp [flA]
      rw [this, cs_set_self]
    rw [e4] at w4
    rw [show sm (fun j => if b j ≠ 0 ∧ σ 28 (ix x y) ≠ v then 1 else 0) (0 : Int).toNat = 0 from rfl] at w4
    refine ⟨b, ?_, r2, r3⟩
    have hpix := f_isPixel x y σ hz
    simp only [hp, if_true] at hpix
    have hl := f_isLevelR v σ
    simp only [hv, and_self, if_true] at hl
    generalize cs_set (cs_set σ 29 b) 28 (flA (σ 28) b v 192) = τ3 at w4 ⊢
    generalize cs_set σ 29 b = τ2 at r1 w4
    generalize cs_set σ 29 (floodB (σ 29) (ix x y) 192) = τ1 at w1 r1
    simp (disch := omega) only [cs_run, cs_L0, s_ret, s_retz, s_retv, s_seq, s_set, s_inc, s_put, s_ast, s_zst, s_cst, s_ada, s_if, s_ex, s_cv, s_nop, s_brk, x_ite, x_l, x_k, x_f, x_a, x_ro, x_add, x_sub, x_mul, x_div, x_rem, x_neg, x_call, x_max, x_min, x_abs, g_cons, g_nil, y_lt, y_le, y_gt, y_ge, y_eq, y_ne, y_not, y_and, y_or, y_ite, Option.bind_some, Option.bind_none, List.getElem?_cons_zero, List.getElem?_cons_succ, List.getElem?_nil, List.set_cons_zero, List.set_cons_succ, List.cons_append, List.nil_append, List.append_nil, List.replicate, List.length_cons, List.length_nil, Nat.reduceAdd, Nat.reduceSub, Nat.zero_add, Nat.sub_self, if_true, if_false, ite_true, ite_false, reduceIte, reduceCtorEq, decide_true, decide_false, decide_eq_true_eq, Bool.not_true, Bool.not_false, Bool.true_and, Bool.false_and, Bool.and_true, Bool.and_false, Bool.true_or, Bool.false_or, Bool.false_eq_true, Bool.true_eq_false, not_true_eq_false, not_false_eq_true, ne_eq, Int.reduceEq, Int.reduceNe, Int.reduceLT, Int.reduceLE, and_self, and_true, true_and, and_false, false_and, or_true, true_or, or_false, false_or, true_or, Option.map_some, cs_chk_ok, cs_rd_ok, cs_wr_ok, f_X10_flood, b_X10_flood, cs_run, cs_L0, hpix, hl, ix_comm, w1, r1, w4]
  · intro h
    cases hp : inP (σ 10 0) (σ 10 1) x y with
    | false =>
      have hpix := f_isPixel x y σ hz
      simp only [hp] at hpix
      simp (disch := omega) only [cs_run, cs_L0, s_ret, s_retz, s_retv, s_seq, s_set, s_inc, s_put, s_ast, s_zst, s_cst, s_ada, s_if, s_ex, s_cv, s_nop, s_brk, x_ite, x_l, x_k, x_f, x_a, x_ro, x_add, x_sub, x_mul, x_div, x_rem, x_neg, x_call, x_max, x_min, x_abs, g_cons, g_nil, y_lt, y_le, y_gt, y_ge, y_eq, y_ne, y_not, y_and, y_or, y_ite, Option.bind_some, Option.bind_none, List.getElem?_cons_zero, List.getElem?_cons_succ, List.getElem?_nil, List.set_cons_zero, List.set_cons_succ, List.cons_append, List.nil_append, List.append_nil, List.replicate, List.length_cons, List.length_nil, Nat.reduceAdd, Nat.reduceSub, Nat.zero_add, Nat.sub_self, if_true, if_false, ite_true, ite_false, reduceIte, reduceCtorEq, decide_true, decide_false, decide_eq_true_eq, Bool.not_true, Bool.not_false, Bool.true_and, Bool.false_and, Bool.and_true, Bool.and_false, Bool.true_or, Bool.false_or, Bool.false_eq_true, Bool.true_eq_false, not_true_eq_false, not_false_eq_true, ne_eq, Int.reduceEq, Int.reduceNe, Int.reduceLT, Int.reduceLE, and_self, and_true, true_and, and_false, false_and, or_true, true_or, or_false, false_or, true_or, Option.map_some, cs_chk_ok, cs_rd_ok, cs_wr_ok, f_X10_flood, b_X10_flood, cs_run, cs_L0, hpix]
    | true =>
      have hpix := f_isPixel x y σ hz
      simp only [hp, if_true] at hpix
      have hl := f_isLevelR v σ
      rw [if_neg (fun q => h ⟨hp, q⟩)] at hl
      simp (disch := omega) only [cs_run, cs_L0, s_ret, s_retz, s_retv, s_seq, s_set, s_inc, s_put, s_ast, s_zst, s_cst, s_ada, s_if, s_ex, s_cv, s_nop, s_brk, x_ite, x_l, x_k, x_f, x_a, x_ro, x_add, x_sub, x_mul, x_div, x_rem, x_neg, x_call, x_max, x_min, x_abs, g_cons, g_nil, y_lt, y_le, y_gt, y_ge, y_eq, y_ne, y_not, y_and, y_or, y_ite, Option.bind_some, Option.bind_none, List.getElem?_cons_zero, List.getElem?_cons_succ, List.getElem?_nil, List.set_cons_zero, List.set_cons_succ, List.cons_append, List.nil_append, List.append_nil, List.replicate, List.length_cons, List.length_nil, Nat.reduceAdd, Nat.reduceSub, Nat.zero_add, Nat.sub_self, if_true, if_false, ite_true, ite_false, reduceIte, reduceCtorEq, decide_true, decide_false, decide_eq_true_eq, Bool.not_true, Bool.not_false, Bool.true_and, Bool.false_and, Bool.and_true, Bool.and_false, Bool.true_or, Bool.false_or, Bool.false_eq_true, Bool.true_eq_false, not_true_eq_false, not_false_eq_true, ne_eq, Int.reduceEq, Int.reduceNe, Int.reduceLT, Int.reduceLE, and_self, and_true, true_and, and_false, false_and, or_true, true_or, or_false, false_or, true_or, Option.map_some, cs_chk_ok, cs_rd_ok, cs_wr_ok, f_X10_flood, b_X10_flood, cs_run, cs_L0, hpix, hl]
/-- both fill the same set -/
theorem flood_same {w h : Int} {a0 : Nat → Int} {old : Int} {s0 : Nat} {R : List Nat} {b : Nat → Int} (hs0 : s0 < 192) (hR : FloodOK w h a0 old s0 R) (hb : RI w h a0 old s0 b) (hc : ClosedF w h a0 old (fun k => k < 192 ∧ b k = 1)) : ∀ k, k ∈ R ↔ k < 192 ∧ b k = 1 := by
  obtain ⟨r1, r2, r3, r4, r5⟩ := hR
  intro k
  constructor
  · intro hk
    exact r4 _ hc ⟨hs0, hb.2.1⟩ k hk
  · rintro ⟨h1, h2⟩
    exact hb.2.2.2 _ r5 r2 k h1 h2
theorem sm_filter {b : Nat → Int} : ∀ n : Nat, sm (fun j => if b j ≠ 0 then 1 else 0) n = (((List.range n).filter (fun j => decide (b j ≠ 0))).length : Int)
  | 0 => by simp [sm]
  | n + 1 => by
    rw [sm, sm_filter n, List.range_succ, List.filter_append, List.length_append]
    by_cases h : b n = 0
    · simp [h]
    · simp [h]
theorem flood_count {w h : Int} {a0 : Nat → Int} {old : Int} {s0 : Nat} {R : List Nat} {b : Nat → Int} (hs0 : s0 < 192) (hR : FloodOK w h a0 old s0 R) (hb : RI w h a0 old s0 b) (hc : ClosedF w h a0 old (fun k => k < 192 ∧ b k = 1)) : (R.length : Int) = sm (fun j => if b j ≠ 0 then 1 else 0) 192 := by
  rw [sm_filter]
  have hm := flood_same hs0 hR hb hc
  have hp : R.Perm ((List.range 192).filter (fun j => decide (b j ≠ 0))) := by
    refine (List.perm_ext_iff_of_nodup hR.1 (List.Pairwise.filter _ List.nodup_range)).mpr (fun k => ?_)
    rw [hm k, List.mem_filter, List.mem_range]
    constructor
    · rintro ⟨h1, h2⟩; exact ⟨h1, by simp [h2]⟩
    · rintro ⟨h1, h2⟩
      exact ⟨h1, (hb.1 k h1).resolve_left (by simpa using h2)⟩
  rw [hp.length_eq]
