/-! the next vertex to be removed -/
noncomputable def rmB (σ : cs_S) (v : Int) : Bool := @decide (f_X5_canBeRemoved [v] σ = some (some 1, σ)) (Classical.propDecidable _)
noncomputable def inB (σ : cs_S) (v : Int) : Bool := @decide (f_X5_canBeInserted [v] σ = some (some 1, σ)) (Classical.propDecidable _)
theorem f_rem {σ : cs_S} (h : CSo σ) (h2 : CPr σ) (hR : RR σ) (hP : Pos1 σ) {v : Int} (hv : 0 ≤ v ∧ v < σ 4 2) : f_X5_canBeRemoved [v] σ = some (some (if rmB σ v then 1 else 0), σ) ∧ f_X10_canRemove [σ 20 v.toNat, v] σ = some (some (if rmB σ v then 1 else 0), σ) ∧ (rmB σ v = true → 4 ≤ σ 16 (σ 20 v.toNat).toNat) := by
  obtain ⟨r, z, h4, e1, e2⟩ := rem_same h h2 hR hP hv
  rcases z with rfl | rfl
  · have hb : rmB σ v = true := (@decide_eq_true_iff _ (Classical.propDecidable _)).mpr e1
    rw [hb]
    exact ⟨e1, e2, fun _ => h4 rfl⟩
  · have hb : rmB σ v = false := by
      rw [← Bool.not_eq_true]
      intro q
      have := (@decide_eq_true_iff _ (Classical.propDecidable _)).mp q
      rw [e1] at this
      simp at this
    rw [hb]
    exact ⟨e1, e2, fun q => absurd q (by decide)⟩
theorem f_ins {σ : cs_S} (h : CSo σ) (h2 : CPr σ) (hR : RR σ) (hP : Pos1 σ) {v : Int} (hv : 0 ≤ v ∧ v < σ 4 2) : f_X5_canBeInserted [v] σ = some (some (if inB σ v then 1 else 0), σ) ∧ f_X10_canInsert [σ 20 v.toNat, v] σ = some (some (if inB σ v then 1 else 0), σ) := by
  obtain ⟨r, z, e1, e2⟩ := ins_same h h2 hR hP hv
  rcases z with rfl | rfl
  · have hb : inB σ v = true := (@decide_eq_true_iff _ (Classical.propDecidable _)).mpr e1
    rw [hb]
    exact ⟨e1, e2⟩
  · have hb : inB σ v = false := by
      rw [← Bool.not_eq_true]
      intro q
      have := (@decide_eq_true_iff _ (Classical.propDecidable _)).mp q
      rw [e1] at this
      simp at this
    rw [hb]
    exact ⟨e1, e2⟩
def szV (σ : cs_S) (v : Int) : Int := triS σ (befS σ v) v (aftS σ v)
theorem szV_b {σ : cs_S} (h : CSo σ) {v : Int} (hv : 0 ≤ v ∧ v < σ 4 2) : 0 ≤ szV σ v ∧ szV σ v ≤ 400 := by
  obtain ⟨ra, rb⟩ := own_rng h hv
  exact (f_triSize h rb hv ra).2
noncomputable def nvF (σ : cs_S) (v : Int) (s : Int × Int) : Int × Int := if Pr σ v = true ∧ (s.1 < 0 ∨ szV σ v < s.2) ∧ rmB σ v = true then (v, szV σ v) else s
noncomputable def nvR (σ : cs_S) : Nat → Int × Int
  | 0 => (-1, 0)
  | n + 1 => nvF σ n (nvR σ n)
noncomputable def nvS (σ : cs_S) : Int := (nvR σ (σ 4 2).toNat).1
theorem nvR_J (σ : cs_S) : ∀ n : Nat, (nvR σ n).1 = -1 ∨ ((0 ≤ (nvR σ n).1 ∧ (nvR σ n).1 < n) ∧ Pr σ (nvR σ n).1 = true ∧ rmB σ (nvR σ n).1 = true ∧ (nvR σ n).2 = szV σ (nvR σ n).1)
  | 0 => Or.inl rfl
  | n + 1 => by
    have ih := nvR_J σ n
    unfold nvR nvF
    split
    · rename_i q
      exact Or.inr ⟨by omega, q.1, q.2.2, rfl⟩
    · rcases ih with q | ⟨q, r⟩
      · exact Or.inl q
      · exact Or.inr ⟨by omega, r⟩
theorem nvR_s {σ : cs_S} {k : Int} (hk : 0 ≤ k) : nvR σ (k + 1).toNat = nvF σ k (nvR σ k.toNat) := by
  rw [show (k + 1).toNat = k.toNat + 1 by omega, nvR, show ((k.toNat : Nat) : Int) = k by omega]
def mxi (s : Int × Int) : Int := if s.1 < 0 then 2147483647 else s.2
theorem nv_body {σ : cs_S} (h : CSo σ) (h2 : CPr σ) (hR : RR σ) (hP : Pos1 σ) {v : Int} (hv : 0 ≤ v ∧ v < σ 4 2) (s : Int × Int) (o : Option Int) : ∃ o', wb_X5_nextVertex_1 [none, some s.1, some (mxi s), some v, o] σ = some (.inl ([none, some (nvF σ v s).1, some (mxi (nvF σ v s)), some (v + 1), o'], σ)) := by
  have hb := h.1
  obtain ⟨e1, -, -⟩ := f_rem h h2 hR hP hv
  have e2 := f_triC h hv
  obtain ⟨b1, b2⟩ := szV_b h hv
  have e2' : f_X5_triangleSize [v] σ = some (some (szV σ v), σ) := e2
  have c1 : (0 : Int) ≤ v ∧ v < ((442 : Nat) : Int) := by omega
  have c2 : cs_InR (v + 1) := by omega
  unfold nvF Pr
  generalize szV σ v = z at *
  clear e2
  by_cases p : σ 23 v.toNat = 0
  · exact ⟨o, by simp only [wb_X5_nextVertex_1, cs_run, cs_L0, s_ret, s_retz, s_retv, s_seq, s_set, s_inc, s_put, s_ast, s_zst, s_cst, s_ada, s_if, s_ex, s_cv, s_nop, s_brk, x_ite, x_l, x_k, x_f, x_a, x_ro, x_add, x_sub, x_mul, x_div, x_rem, x_neg, x_call, x_max, x_min, x_abs, g_cons, g_nil, y_lt, y_le, y_gt, y_ge, y_eq, y_ne, y_not, y_and, y_or, y_ite, Option.bind_some, Option.bind_none, List.getElem?_cons_zero, List.getElem?_cons_succ, List.getElem?_nil, List.set_cons_zero, List.set_cons_succ, List.cons_append, List.nil_append, List.append_nil, List.replicate, List.length_cons, List.length_nil, Nat.reduceAdd, Nat.reduceSub, Nat.zero_add, Nat.sub_self, if_true, if_false, ite_true, ite_false, reduceIte, reduceCtorEq, decide_true, decide_false, decide_eq_true_eq, Bool.not_true, Bool.not_false, Bool.true_and, Bool.false_and, Bool.and_true, Bool.and_false, Bool.true_or, Bool.false_or, Bool.false_eq_true, Bool.true_eq_false, not_true_eq_false, not_false_eq_true, ne_eq, Int.reduceEq, Int.reduceNe, Int.reduceLT, Int.reduceLE, and_self, and_true, true_and, and_false, false_and, or_true, true_or, or_false, false_or, true_or, Option.map_some, cs_rd_ok c1, cs_chk_ok c2, p]⟩
  · have hlt : z < mxi s ↔ s.1 < 0 ∨ z < s.2 := by unfold mxi; split <;> omega
    by_cases q : s.1 < 0 ∨ z < s.2
    · have q' := hlt.mpr q
      cases r : rmB σ v
      · rw [r] at e1
        exact ⟨some z, by simp only [wb_X5_nextVertex_1, cs_run, cs_L0, s_ret, s_retz, s_retv, s_seq, s_set, s_inc, s_put, s_ast, s_zst, s_cst, s_ada, s_if, s_ex, s_cv, s_nop, s_brk, x_ite, x_l, x_k, x_f, x_a, x_ro, x_add, x_sub, x_mul, x_div, x_rem, x_neg, x_call, x_max, x_min, x_abs, g_cons, g_nil, y_lt, y_le, y_gt, y_ge, y_eq, y_ne, y_not, y_and, y_or, y_ite, Option.bind_some, Option.bind_none, List.getElem?_cons_zero, List.getElem?_cons_succ, List.getElem?_nil, List.set_cons_zero, List.set_cons_succ, List.cons_append, List.nil_append, List.append_nil, List.replicate, List.length_cons, List.length_nil, Nat.reduceAdd, Nat.reduceSub, Nat.zero_add, Nat.sub_self, if_true, if_false, ite_true, ite_false, reduceIte, reduceCtorEq, decide_true, decide_false, decide_eq_true_eq, Bool.not_true, Bool.not_false, Bool.true_and, Bool.false_and, Bool.and_true, Bool.and_false, Bool.true_or, Bool.false_or, Bool.false_eq_true, Bool.true_eq_false, not_true_eq_false, not_false_eq_true, ne_eq, Int.reduceEq, Int.reduceNe, Int.reduceLT, Int.reduceLE, and_self, and_true, true_and, and_false, false_and, or_true, true_or, or_false, false_or, true_or, Option.map_some, cs_rd_ok c1, cs_chk_ok c2, p, e2', e1, q']⟩
      · rw [r] at e1
        have m : mxi (v, z) = z := by unfold mxi; rw [if_neg (by dsimp only; omega)]
        exact ⟨some z, by simp only [wb_X5_nextVertex_1, cs_run, cs_L0, s_ret, s_retz, s_retv, s_seq, s_set, s_inc, s_put, s_ast, s_zst, s_cst, s_ada, s_if, s_ex, s_cv, s_nop, s_brk, x_ite, x_l, x_k, x_f, x_a, x_ro, x_add, x_sub, x_mul, x_div, x_rem, x_neg, x_call, x_max, x_min, x_abs, g_cons, g_nil, y_lt, y_le, y_gt, y_ge, y_eq, y_ne, y_not, y_and, y_or, y_ite, Option.bind_some, Option.bind_none, List.getElem?_cons_zero, List.getElem?_cons_succ, List.getElem?_nil, List.set_cons_zero, List.set_cons_succ, List.cons_append, List.nil_append, List.append_nil, List.replicate, List.length_cons, List.length_nil, Nat.reduceAdd, Nat.reduceSub, Nat.zero_add, Nat.sub_self, if_true, if_false, ite_true, ite_false, reduceIte, reduceCtorEq, decide_true, decide_false, decide_eq_true_eq, Bool.not_true, Bool.not_false, Bool.true_and, Bool.false_and, Bool.and_true, Bool.and_false, Bool.true_or, Bool.false_or, Bool.false_eq_true, Bool.true_eq_false, not_true_eq_false, not_false_eq_true, ne_eq, Int.reduceEq, Int.reduceNe, Int.reduceLT, Int.reduceLE, and_self, and_true, true_and, and_false, false_and, or_true, true_or, or_false, false_or, true_or, Option.map_some, cs_rd_ok c1, cs_chk_ok c2, p, e2', e1, q', q, m]⟩
    · have q' : ¬ z < mxi s := fun t => q (hlt.mp t)
      exact ⟨some z, by simp only [wb_X5_nextVertex_1, cs_run, cs_L0, s_ret, s_retz, s_retv, s_seq, s_set, s_inc, s_put, s_ast, s_zst, s_cst, s_ada, s_if, s_ex, s_cv, s_nop, s_brk, x_ite, x_l, x_k, x_f, x_a, x_ro, x_add, x_sub, x_mul, x_div, x_rem, x_neg, x_call, x_max, x_min, x_abs, g_cons, g_nil, y_lt, y_le, y_gt, y_ge, y_eq, y_ne, y_not, y_and, y_or, y_ite, Option.bind_some, Option.bind_none, List.getElem?_cons_zero, List.getElem?_cons_succ, List.getElem?_nil, List.set_cons_zero, List.set_cons_succ, List.cons_append, List.nil_append, List.append_nil, List.replicate, List.length_cons, List.length_nil, Nat.reduceAdd, Nat.reduceSub, Nat.zero_add, Nat.sub_self, if_true, if_false, ite_true, ite_false, reduceIte, reduceCtorEq, decide_true, decide_false, decide_eq_true_eq, Bool.not_true, Bool.not_false, Bool.true_and, Bool.false_and, Bool.and_true, Bool.and_false, Bool.true_or, Bool.false_or, Bool.false_eq_true, Bool.true_eq_false, not_true_eq_false, not_false_eq_true, ne_eq, Int.reduceEq, Int.reduceNe, Int.reduceLT, Int.reduceLE, and_self, and_true, true_and, and_false, false_and, or_true, true_or, or_false, false_or, true_or, Option.map_some, cs_rd_ok c1, cs_chk_ok c2, p, e2', q', q]⟩
theorem f_nextV {σ : cs_S} (h : CSo σ) (h2 : CPr σ) (hR : RR σ) (hP : Pos1 σ) : f_X5_nextVertex [] σ = some (some (nvS σ), σ) := by
  have hb := h.1
  have hw := wh_up (c := wc_X5_nextVertex_1) (b := wb_X5_nextVertex_1) (fun k L τ => 0 ≤ k ∧ τ = σ ∧ ∃ o, L = [none, some (nvR σ k.toNat).1, some (mxi (nvR σ k.toNat)), some k, o]) (fun _ => False) (σ 4 2)
    (fun k L τ hk hQ => by
      obtain ⟨h0, rfl, o, rfl⟩ := hQ
      simp only [wc_X5_nextVertex_1, cs_run, cs_L0, s_ret, s_retz, s_retv, s_seq, s_set, s_inc, s_put, s_ast, s_zst, s_cst, s_ada, s_if, s_ex, s_cv, s_nop, s_brk, x_ite, x_l, x_k, x_f, x_a, x_ro, x_add, x_sub, x_mul, x_div, x_rem, x_neg, x_call, x_max, x_min, x_abs, g_cons, g_nil, y_lt, y_le, y_gt, y_ge, y_eq, y_ne, y_not, y_and, y_or, y_ite, Option.bind_some, Option.bind_none, List.getElem?_cons_zero, List.getElem?_cons_succ, List.getElem?_nil, List.set_cons_zero, List.set_cons_succ, List.cons_append, List.nil_append, List.append_nil, List.replicate, List.length_cons, List.length_nil, Nat.reduceAdd, Nat.reduceSub, Nat.zero_add, Nat.sub_self, if_true, if_false, ite_true, ite_false, reduceIte, reduceCtorEq, decide_true, decide_false, decide_eq_true_eq, Bool.not_true, Bool.not_false, Bool.true_and, Bool.false_and, Bool.and_true, Bool.and_false, Bool.true_or, Bool.false_or, Bool.false_eq_true, Bool.true_eq_false, not_true_eq_false, not_false_eq_true, ne_eq, Int.reduceEq, Int.reduceNe, Int.reduceLT, Int.reduceLE, and_self, and_true, true_and, and_false, false_and, or_true, true_or, or_false, false_or, true_or, Option.map_some])
    (fun k L τ hk hQ => by
      obtain ⟨h0, rfl, o, rfl⟩ := hQ
      obtain ⟨o', e⟩ := nv_body h h2 hR hP ⟨h0, hk⟩ (nvR τ k.toNat) o
      refine Or.inl ⟨_, _, e, by omega, rfl, o', ?_⟩
      rw [nvR_s h0])
    (σ 4 2).toNat 0 [none, some (-1), some 2147483647, some 0, none] σ (by omega) ⟨by omega, rfl, none, rfl⟩
  have g1 : (s_set 1 (x_k (-1))) [none, none, none, none, none] σ = some (.inl ([none, some (-1), none, none, none], σ)) := by simp only [cs_run, cs_L0, s_ret, s_retz, s_retv, s_seq, s_set, s_inc, s_put, s_ast, s_zst, s_cst, s_ada, s_if, s_ex, s_cv, s_nop, s_brk, x_ite, x_l, x_k, x_f, x_a, x_ro, x_add, x_sub, x_mul, x_div, x_rem, x_neg, x_call, x_max, x_min, x_abs, g_cons, g_nil, y_lt, y_le, y_gt, y_ge, y_eq, y_ne, y_not, y_and, y_or, y_ite, Option.bind_some, Option.bind_none, List.getElem?_cons_zero, List.getElem?_cons_succ, List.getElem?_nil, List.set_cons_zero, List.set_cons_succ, List.cons_append, List.nil_append, List.append_nil, List.replicate, List.length_cons, List.length_nil, Nat.reduceAdd, Nat.reduceSub, Nat.zero_add, Nat.sub_self, if_true, if_false, ite_true, ite_false, reduceIte, reduceCtorEq, decide_true, decide_false, decide_eq_true_eq, Bool.not_true, Bool.not_false, Bool.true_and, Bool.false_and, Bool.and_true, Bool.and_false, Bool.true_or, Bool.false_or, Bool.false_eq_true, Bool.true_eq_false, not_true_eq_false, not_false_eq_true, ne_eq, Int.reduceEq, Int.reduceNe, Int.reduceLT, Int.reduceLE, and_self, and_true, true_and, and_false, false_and, or_true, true_or, or_false, false_or, true_or, Option.map_some]
  have g2 : (s_set 2 (x_k 2147483647)) [none, some (-1), none, none, none] σ = some (.inl ([none, some (-1), some 2147483647, none, none], σ)) := by simp only [cs_run, cs_L0, s_ret, s_retz, s_retv, s_seq, s_set, s_inc, s_put, s_ast, s_zst, s_cst, s_ada, s_if, s_ex, s_cv, s_nop, s_brk, x_ite, x_l, x_k, x_f, x_a, x_ro, x_add, x_sub, x_mul, x_div, x_rem, x_neg, x_call, x_max, x_min, x_abs, g_cons, g_nil, y_lt, y_le, y_gt, y_ge, y_eq, y_ne, y_not, y_and, y_or, y_ite, Option.bind_some, Option.bind_none, List.getElem?_cons_zero, List.getElem?_cons_succ, List.getElem?_nil, List.set_cons_zero, List.set_cons_succ, List.cons_append, List.nil_append, List.append_nil, List.replicate, List.length_cons, List.length_nil, Nat.reduceAdd, Nat.reduceSub, Nat.zero_add, Nat.sub_self, if_true, if_false, ite_true, ite_false, reduceIte, reduceCtorEq, decide_true, decide_false, decide_eq_true_eq, Bool.not_true, Bool.not_false, Bool.true_and, Bool.false_and, Bool.and_true, Bool.and_false, Bool.true_or, Bool.false_or, Bool.false_eq_true, Bool.true_eq_false, not_true_eq_false, not_false_eq_true, ne_eq, Int.reduceEq, Int.reduceNe, Int.reduceLT, Int.reduceLE, and_self, and_true, true_and, and_false, false_and, or_true, true_or, or_false, false_or, true_or, Option.map_some]
  have g3 : (s_set 3 (x_k 0)) [none, some (-1), some 2147483647, none, none] σ = some (.inl ([none, some (-1), some 2147483647, some 0, none], σ)) := by simp only [cs_run, cs_L0, s_ret, s_retz, s_retv, s_seq, s_set, s_inc, s_put, s_ast, s_zst, s_cst, s_ada, s_if, s_ex, s_cv, s_nop, s_brk, x_ite, x_l, x_k, x_f, x_a, x_ro, x_add, x_sub, x_mul, x_div, x_rem, x_neg, x_call, x_max, x_min, x_abs, g_cons, g_nil, y_lt, y_le, y_gt, y_ge, y_eq, y_ne, y_not, y_and, y_or, y_ite, Option.bind_some, Option.bind_none, List.getElem?_cons_zero, List.getElem?_cons_succ, List.getElem?_nil, List.set_cons_zero, List.set_cons_succ, List.cons_append, List.nil_append, List.append_nil, List.replicate, List.length_cons, List.length_nil, Nat.reduceAdd, Nat.reduceSub, Nat.zero_add, Nat.sub_self, if_true, if_false, ite_true, ite_false, reduceIte, reduceCtorEq, decide_true, decide_false, decide_eq_true_eq, Bool.not_true, Bool.not_false, Bool.true_and, Bool.false_and, Bool.and_true, Bool.and_false, Bool.true_or, Bool.false_or, Bool.false_eq_true, Bool.true_eq_false, not_true_eq_false, not_false_eq_true, ne_eq, Int.reduceEq, Int.reduceNe, Int.reduceLT, Int.reduceLE, and_self, and_true, true_and, and_false, false_and, or_true, true_or, or_false, false_or, true_or, Option.map_some]
  unfold f_X5_nextVertex b_X5_nextVertex cs_run
  simp only [cs_L0, Option.bind_some, Option.bind_none, List.getElem?_cons_zero, List.getElem?_cons_succ, List.getElem?_nil, List.set_cons_zero, List.set_cons_succ, List.cons_append, List.nil_append, List.append_nil, List.replicate, List.length_cons, List.length_nil, Nat.reduceAdd, Nat.reduceSub, Nat.zero_add, Nat.sub_self, if_true, if_false, ite_true, ite_false, reduceIte, reduceCtorEq, decide_true, decide_false, decide_eq_true_eq, Bool.not_true, Bool.not_false, Bool.true_and, Bool.false_and, Bool.and_true, Bool.and_false, Bool.true_or, Bool.false_or, Bool.false_eq_true, Bool.true_eq_false, not_true_eq_false, not_false_eq_true, ne_eq, Int.reduceEq, Int.reduceNe, Int.reduceLT, Int.reduceLE, and_self, and_true, true_and, and_false, false_and, or_true, true_or, or_false, false_or, true_or, Option.map_some]
  rw [sq_st g1, sq_st g2, sq_assoc, sq_st g3, w_X5_nextVertex_1]
  rcases hw with ⟨L', σ', e, -, rfl, o, rfl⟩ | ⟨r, -, hx⟩
  · rw [sq_st e]
    unfold nvS
    simp only [cs_run, cs_L0, s_ret, s_retz, s_retv, s_seq, s_set, s_inc, s_put, s_ast, s_zst, s_cst, s_ada, s_if, s_ex, s_cv, s_nop, s_brk, x_ite, x_l, x_k, x_f, x_a, x_ro, x_add, x_sub, x_mul, x_div, x_rem, x_neg, x_call, x_max, x_min, x_abs, g_cons, g_nil, y_lt, y_le, y_gt, y_ge, y_eq, y_ne, y_not, y_and, y_or, y_ite, Option.bind_some, Option.bind_none, List.getElem?_cons_zero, List.getElem?_cons_succ, List.getElem?_nil, List.set_cons_zero, List.set_cons_succ, List.cons_append, List.nil_append, List.append_nil, List.replicate, List.length_cons, List.length_nil, Nat.reduceAdd, Nat.reduceSub, Nat.zero_add, Nat.sub_self, if_true, if_false, ite_true, ite_false, reduceIte, reduceCtorEq, decide_true, decide_false, decide_eq_true_eq, Bool.not_true, Bool.not_false, Bool.true_and, Bool.false_and, Bool.and_true, Bool.and_false, Bool.true_or, Bool.false_or, Bool.false_eq_true, Bool.true_eq_false, not_true_eq_false, not_false_eq_true, ne_eq, Int.reduceEq, Int.reduceNe, Int.reduceLT, Int.reduceLE, and_self, and_true, true_and, and_false, false_and, or_true, true_or, or_false, false_or, true_or, Option.map_some]
  · exact hx.elim
theorem fn_body {σ : cs_S} (h : CSo σ) (h2 : CPr σ) (hR : RR σ) (hP : Pos1 σ) {c v : Int} (hc : 0 ≤ c ∧ c < σ 4 1) (hv1 : σ 15 c.toNat ≤ v) (hv2 : v < σ 15 (c.toNat + 1)) (s : Int × Int) (o5 o6 : Option Int) : ∃ p5 p6, wb_X10_findNext_1 [none, some s.1, some s.2, some c, some v, o5, o6] σ = some (.inl ([none, some (nvF σ v s).1, some (nvF σ v s).2, some c, some (v + 1), p5, p6], σ)) := by
  have hb := h.1
  have h1 := h.2.1 c.toNat (by omega)
  have hv : 0 ≤ v ∧ v < σ 4 2 := by omega
  have how := own_eq h hc hv1 hv2
  obtain ⟨-, e1, -⟩ := f_rem h h2 hR hP hv
  have e2 := f_triR h hR hP hv
  obtain ⟨b1, b2⟩ := szV_b h hv
  have e2' : f_X10_triangle [σ 20 v.toNat, v] σ = some (some (szV σ v), σ) := e2
  rw [how] at e1 e2'
  have q3 := (hR.2.1.2 v.toNat (by omega)).2.2
  have c1 : (0 : Int) ≤ v ∧ v < ((512 : Nat) : Int) := by omega
  have c2 : cs_InR (v + 1) := by omega
  unfold nvF Pr
  generalize szV σ v = z at *
  clear e2
  by_cases p : σ 23 v.toNat = 0
  · exact ⟨some (-1), some 0, by simp only [wb_X10_findNext_1, cs_run, cs_L0, s_ret, s_retz, s_retv, s_seq, s_set, s_inc, s_put, s_ast, s_zst, s_cst, s_ada, s_if, s_ex, s_cv, s_nop, s_brk, x_ite, x_l, x_k, x_f, x_a, x_ro, x_add, x_sub, x_mul, x_div, x_rem, x_neg, x_call, x_max, x_min, x_abs, g_cons, g_nil, y_lt, y_le, y_gt, y_ge, y_eq, y_ne, y_not, y_and, y_or, y_ite, Option.bind_some, Option.bind_none, List.getElem?_cons_zero, List.getElem?_cons_succ, List.getElem?_nil, List.set_cons_zero, List.set_cons_succ, List.cons_append, List.nil_append, List.append_nil, List.replicate, List.length_cons, List.length_nil, Nat.reduceAdd, Nat.reduceSub, Nat.zero_add, Nat.sub_self, if_true, if_false, ite_true, ite_false, reduceIte, reduceCtorEq, decide_true, decide_false, decide_eq_true_eq, Bool.not_true, Bool.not_false, Bool.true_and, Bool.false_and, Bool.and_true, Bool.and_false, Bool.true_or, Bool.false_or, Bool.false_eq_true, Bool.true_eq_false, not_true_eq_false, not_false_eq_true, ne_eq, Int.reduceEq, Int.reduceNe, Int.reduceLT, Int.reduceLE, and_self, and_true, true_and, and_false, false_and, or_true, true_or, or_false, false_or, true_or, Option.map_some, cs_rd_ok c1, cs_chk_ok c2, q3, p]⟩
  · have b3 : ¬ z < 0 := by omega
    by_cases q : s.1 < 0 ∨ z < s.2
    · have cond : (y_or (y_lt (x_l 1) (x_k 0)) (y_lt (x_l 5) (x_l 2))) [none, some s.1, some s.2, some c, some v, some z, o6] σ = some (true, σ) := by
        by_cases t : s.1 < 0
        · simp only [cs_run, cs_L0, s_ret, s_retz, s_retv, s_seq, s_set, s_inc, s_put, s_ast, s_zst, s_cst, s_ada, s_if, s_ex, s_cv, s_nop, s_brk, x_ite, x_l, x_k, x_f, x_a, x_ro, x_add, x_sub, x_mul, x_div, x_rem, x_neg, x_call, x_max, x_min, x_abs, g_cons, g_nil, y_lt, y_le, y_gt, y_ge, y_eq, y_ne, y_not, y_and, y_or, y_ite, Option.bind_some, Option.bind_none, List.getElem?_cons_zero, List.getElem?_cons_succ, List.getElem?_nil, List.set_cons_zero, List.set_cons_succ, List.cons_append, List.nil_append, List.append_nil, List.replicate, List.length_cons, List.length_nil, Nat.reduceAdd, Nat.reduceSub, Nat.zero_add, Nat.sub_self, if_true, if_false, ite_true, ite_false, reduceIte, reduceCtorEq, decide_true, decide_false, decide_eq_true_eq, Bool.not_true, Bool.not_false, Bool.true_and, Bool.false_and, Bool.and_true, Bool.and_false, Bool.true_or, Bool.false_or, Bool.false_eq_true, Bool.true_eq_false, not_true_eq_false, not_false_eq_true, ne_eq, Int.reduceEq, Int.reduceNe, Int.reduceLT, Int.reduceLE, and_self, and_true, true_and, and_false, false_and, or_true, true_or, or_false, false_or, true_or, Option.map_some, t]
        · have t2 : z < s.2 := by omega
          simp only [cs_run, cs_L0, s_ret, s_retz, s_retv, s_seq, s_set, s_inc, s_put, s_ast, s_zst, s_cst, s_ada, s_if, s_ex, s_cv, s_nop, s_brk, x_ite, x_l, x_k, x_f, x_a, x_ro, x_add, x_sub, x_mul, x_div, x_rem, x_neg, x_call, x_max, x_min, x_abs, g_cons, g_nil, y_lt, y_le, y_gt, y_ge, y_eq, y_ne, y_not, y_and, y_or, y_ite, Option.bind_some, Option.bind_none, List.getElem?_cons_zero, List.getElem?_cons_succ, List.getElem?_nil, List.set_cons_zero, List.set_cons_succ, List.cons_append, List.nil_append, List.append_nil, List.replicate, List.length_cons, List.length_nil, Nat.reduceAdd, Nat.reduceSub, Nat.zero_add, Nat.sub_self, if_true, if_false, ite_true, ite_false, reduceIte, reduceCtorEq, decide_true, decide_false, decide_eq_true_eq, Bool.not_true, Bool.not_false, Bool.true_and, Bool.false_and, Bool.and_true, Bool.and_false, Bool.true_or, Bool.false_or, Bool.false_eq_true, Bool.true_eq_false, not_true_eq_false, not_false_eq_true, ne_eq, Int.reduceEq, Int.reduceNe, Int.reduceLT, Int.reduceLE, and_self, and_true, true_and, and_false, false_and, or_true, true_or, or_false, false_or, true_or, Option.map_some, t, t2]
      cases r : rmB σ v
      · rw [r] at e1
        unfold wb_X10_findNext_1
        generalize y_or (y_lt (x_l 1) (x_k 0)) (y_lt (x_l 5) (x_l 2)) = cc at *
        exact ⟨some z, some 0, by simp only [cs_run, cs_L0, s_ret, s_retz, s_retv, s_seq, s_set, s_inc, s_put, s_ast, s_zst, s_cst, s_ada, s_if, s_ex, s_cv, s_nop, s_brk, x_ite, x_l, x_k, x_f, x_a, x_ro, x_add, x_sub, x_mul, x_div, x_rem, x_neg, x_call, x_max, x_min, x_abs, g_cons, g_nil, y_lt, y_le, y_gt, y_ge, y_eq, y_ne, y_not, y_and, y_or, y_ite, Option.bind_some, Option.bind_none, List.getElem?_cons_zero, List.getElem?_cons_succ, List.getElem?_nil, List.set_cons_zero, List.set_cons_succ, List.cons_append, List.nil_append, List.append_nil, List.replicate, List.length_cons, List.length_nil, Nat.reduceAdd, Nat.reduceSub, Nat.zero_add, Nat.sub_self, if_true, if_false, ite_true, ite_false, reduceIte, reduceCtorEq, decide_true, decide_false, decide_eq_true_eq, Bool.not_true, Bool.not_false, Bool.true_and, Bool.false_and, Bool.and_true, Bool.and_false, Bool.true_or, Bool.false_or, Bool.false_eq_true, Bool.true_eq_false, not_true_eq_false, not_false_eq_true, ne_eq, Int.reduceEq, Int.reduceNe, Int.reduceLT, Int.reduceLE, and_self, and_true, true_and, and_false, false_and, or_true, true_or, or_false, false_or, true_or, Option.map_some, cs_rd_ok c1, cs_chk_ok c2, q3, p, e2', e1, cond, b1]⟩
      · rw [r] at e1
        unfold wb_X10_findNext_1
        generalize y_or (y_lt (x_l 1) (x_k 0)) (y_lt (x_l 5) (x_l 2)) = cc at *
        exact ⟨some z, some 1, by simp only [cs_run, cs_L0, s_ret, s_retz, s_retv, s_seq, s_set, s_inc, s_put, s_ast, s_zst, s_cst, s_ada, s_if, s_ex, s_cv, s_nop, s_brk, x_ite, x_l, x_k, x_f, x_a, x_ro, x_add, x_sub, x_mul, x_div, x_rem, x_neg, x_call, x_max, x_min, x_abs, g_cons, g_nil, y_lt, y_le, y_gt, y_ge, y_eq, y_ne, y_not, y_and, y_or, y_ite, Option.bind_some, Option.bind_none, List.getElem?_cons_zero, List.getElem?_cons_succ, List.getElem?_nil, List.set_cons_zero, List.set_cons_succ, List.cons_append, List.nil_append, List.append_nil, List.replicate, List.length_cons, List.length_nil, Nat.reduceAdd, Nat.reduceSub, Nat.zero_add, Nat.sub_self, if_true, if_false, ite_true, ite_false, reduceIte, reduceCtorEq, decide_true, decide_false, decide_eq_true_eq, Bool.not_true, Bool.not_false, Bool.true_and, Bool.false_and, Bool.and_true, Bool.and_false, Bool.true_or, Bool.false_or, Bool.false_eq_true, Bool.true_eq_false, not_true_eq_false, not_false_eq_true, ne_eq, Int.reduceEq, Int.reduceNe, Int.reduceLT, Int.reduceLE, and_self, and_true, true_and, and_false, false_and, or_true, true_or, or_false, false_or, true_or, Option.map_some, cs_rd_ok c1, cs_chk_ok c2, q3, p, e2', e1, cond, b1, q]⟩
    · have cond : (y_or (y_lt (x_l 1) (x_k 0)) (y_lt (x_l 5) (x_l 2))) [none, some s.1, some s.2, some c, some v, some z, o6] σ = some (false, σ) := by
        have t1 : ¬ s.1 < 0 := fun t => q (Or.inl t)
        have t2 : ¬ z < s.2 := fun t => q (Or.inr t)
        simp only [cs_run, cs_L0, s_ret, s_retz, s_retv, s_seq, s_set, s_inc, s_put, s_ast, s_zst, s_cst, s_ada, s_if, s_ex, s_cv, s_nop, s_brk, x_ite, x_l, x_k, x_f, x_a, x_ro, x_add, x_sub, x_mul, x_div, x_rem, x_neg, x_call, x_max, x_min, x_abs, g_cons, g_nil, y_lt, y_le, y_gt, y_ge, y_eq, y_ne, y_not, y_and, y_or, y_ite, Option.bind_some, Option.bind_none, List.getElem?_cons_zero, List.getElem?_cons_succ, List.getElem?_nil, List.set_cons_zero, List.set_cons_succ, List.cons_append, List.nil_append, List.append_nil, List.replicate, List.length_cons, List.length_nil, Nat.reduceAdd, Nat.reduceSub, Nat.zero_add, Nat.sub_self, if_true, if_false, ite_true, ite_false, reduceIte, reduceCtorEq, decide_true, decide_false, decide_eq_true_eq, Bool.not_true, Bool.not_false, Bool.true_and, Bool.false_and, Bool.and_true, Bool.and_false, Bool.true_or, Bool.false_or, Bool.false_eq_true, Bool.true_eq_false, not_true_eq_false, not_false_eq_true, ne_eq, Int.reduceEq, Int.reduceNe, Int.reduceLT, Int.reduceLE, and_self, and_true, true_and, and_false, false_and, or_true, true_or, or_false, false_or, true_or, Option.map_some, t1, t2]
      unfold wb_X10_findNext_1
      generalize y_or (y_lt (x_l 1) (x_k 0)) (y_lt (x_l 5) (x_l 2)) = cc at *
      exact ⟨some z, some 0, by simp only [cs_run, cs_L0, s_ret, s_retz, s_retv, s_seq, s_set, s_inc, s_put, s_ast, s_zst, s_cst, s_ada, s_if, s_ex, s_cv, s_nop, s_brk, x_ite, x_l, x_k, x_f, x_a, x_ro, x_add, x_sub, x_mul, x_div, x_rem, x_neg, x_call, x_max, x_min, x_abs, g_cons, g_nil, y_lt, y_le, y_gt, y_ge, y_eq, y_ne, y_not, y_and, y_or, y_ite, Option.bind_some, Option.bind_none, List.getElem?_cons_zero, List.getElem?_cons_succ, List.getElem?_nil, List.set_cons_zero, List.set_cons_succ, List.cons_append, List.nil_append, List.append_nil, List.replicate, List.length_cons, List.length_nil, Nat.reduceAdd, Nat.reduceSub, Nat.zero_add, Nat.sub_self, if_true, if_false, ite_true, ite_false, reduceIte, reduceCtorEq, decide_true, decide_false, decide_eq_true_eq, Bool.not_true, Bool.not_false, Bool.true_and, Bool.false_and, Bool.and_true, Bool.and_false, Bool.true_or, Bool.false_or, Bool.false_eq_true, Bool.true_eq_false, not_true_eq_false, not_false_eq_true, ne_eq, Int.reduceEq, Int.reduceNe, Int.reduceLT, Int.reduceLE, and_self, and_true, true_and, and_false, false_and, or_true, true_or, or_false, false_or, true_or, Option.map_some, cs_rd_ok c1, cs_chk_ok c2, q3, p, e2', cond, b1, q]⟩
theorem f_findN {σ : cs_S} (h : CSo σ) (h2 : CPr σ) (hR : RR σ) (hP : Pos1 σ) : f_X10_findNext [] σ = some (some (nvS σ), σ) := by
  have hb := h.1
  have hw := wh_nest (c1 := wc_X10_findNext_1) (c2 := wc_X10_findNext_2) (b1 := wb_X10_findNext_1) (st := s_set 4 (x_a 32 256 (x_l 3))) (inc := s_inc 3 1) (σ 15) (σ 4 1)
    (fun k L τ => τ = σ ∧ ∃ o4 o5 o6, L = [none, some (nvR σ (if k < σ 4 1 then σ 15 k.toNat else σ 4 2).toNat).1, some (nvR σ (if k < σ 4 1 then σ 15 k.toNat else σ 4 2).toNat).2, some k, o4, o5, o6])
    (fun k u L τ => τ = σ ∧ ∃ o5 o6, L = [none, some (nvR σ u.toNat).1, some (nvR σ u.toNat).2, some k, some u, o5, o6])
    (fun _ => False)
    (fun k h0 h1 => (h.2.1 k.toNat (by omega)).2.1)
    (fun k L τ h0 hk hQ => by
      obtain ⟨rfl, o4, o5, o6, rfl⟩ := hQ
      simp only [wc_X10_findNext_2, cs_run, cs_L0, s_ret, s_retz, s_retv, s_seq, s_set, s_inc, s_put, s_ast, s_zst, s_cst, s_ada, s_if, s_ex, s_cv, s_nop, s_brk, x_ite, x_l, x_k, x_f, x_a, x_ro, x_add, x_sub, x_mul, x_div, x_rem, x_neg, x_call, x_max, x_min, x_abs, g_cons, g_nil, y_lt, y_le, y_gt, y_ge, y_eq, y_ne, y_not, y_and, y_or, y_ite, Option.bind_some, Option.bind_none, List.getElem?_cons_zero, List.getElem?_cons_succ, List.getElem?_nil, List.set_cons_zero, List.set_cons_succ, List.cons_append, List.nil_append, List.append_nil, List.replicate, List.length_cons, List.length_nil, Nat.reduceAdd, Nat.reduceSub, Nat.zero_add, Nat.sub_self, if_true, if_false, ite_true, ite_false, reduceIte, reduceCtorEq, decide_true, decide_false, decide_eq_true_eq, Bool.not_true, Bool.not_false, Bool.true_and, Bool.false_and, Bool.and_true, Bool.and_false, Bool.true_or, Bool.false_or, Bool.false_eq_true, Bool.true_eq_false, not_true_eq_false, not_false_eq_true, ne_eq, Int.reduceEq, Int.reduceNe, Int.reduceLT, Int.reduceLE, and_self, and_true, true_and, and_false, false_and, or_true, true_or, or_false, false_or, true_or, Option.map_some, hR.1])
    (fun k L τ h0 hk hQ => by
      obtain ⟨rfl, o4, o5, o6, rfl⟩ := hQ
      have c1 : (0 : Int) ≤ k ∧ k < ((256 : Nat) : Int) := by omega
      have r1 := (hR.2.2 k.toNat (by omega)).1
      rw [if_pos hk]
      exact ⟨[none, some (nvR τ (τ 15 k.toNat).toNat).1, some (nvR τ (τ 15 k.toNat).toNat).2, some k, some (τ 15 k.toNat), o5, o6], by simp only [cs_run, cs_L0, s_ret, s_retz, s_retv, s_seq, s_set, s_inc, s_put, s_ast, s_zst, s_cst, s_ada, s_if, s_ex, s_cv, s_nop, s_brk, x_ite, x_l, x_k, x_f, x_a, x_ro, x_add, x_sub, x_mul, x_div, x_rem, x_neg, x_call, x_max, x_min, x_abs, g_cons, g_nil, y_lt, y_le, y_gt, y_ge, y_eq, y_ne, y_not, y_and, y_or, y_ite, Option.bind_some, Option.bind_none, List.getElem?_cons_zero, List.getElem?_cons_succ, List.getElem?_nil, List.set_cons_zero, List.set_cons_succ, List.cons_append, List.nil_append, List.append_nil, List.replicate, List.length_cons, List.length_nil, Nat.reduceAdd, Nat.reduceSub, Nat.zero_add, Nat.sub_self, if_true, if_false, ite_true, ite_false, reduceIte, reduceCtorEq, decide_true, decide_false, decide_eq_true_eq, Bool.not_true, Bool.not_false, Bool.true_and, Bool.false_and, Bool.and_true, Bool.and_false, Bool.true_or, Bool.false_or, Bool.false_eq_true, Bool.true_eq_false, not_true_eq_false, not_false_eq_true, ne_eq, Int.reduceEq, Int.reduceNe, Int.reduceLT, Int.reduceLE, and_self, and_true, true_and, and_false, false_and, or_true, true_or, or_false, false_or, true_or, Option.map_some, cs_rd_ok c1, r1], rfl, o5, o6, rfl⟩)
    (fun k u L τ h0 hk hu1 hu2 hQ => by
      obtain ⟨rfl, o5, o6, rfl⟩ := hQ
      have he := f_endOf h hR ⟨h0, hk⟩
      simp only [wc_X10_findNext_1, cs_run, cs_L0, s_ret, s_retz, s_retv, s_seq, s_set, s_inc, s_put, s_ast, s_zst, s_cst, s_ada, s_if, s_ex, s_cv, s_nop, s_brk, x_ite, x_l, x_k, x_f, x_a, x_ro, x_add, x_sub, x_mul, x_div, x_rem, x_neg, x_call, x_max, x_min, x_abs, g_cons, g_nil, y_lt, y_le, y_gt, y_ge, y_eq, y_ne, y_not, y_and, y_or, y_ite, Option.bind_some, Option.bind_none, List.getElem?_cons_zero, List.getElem?_cons_succ, List.getElem?_nil, List.set_cons_zero, List.set_cons_succ, List.cons_append, List.nil_append, List.append_nil, List.replicate, List.length_cons, List.length_nil, Nat.reduceAdd, Nat.reduceSub, Nat.zero_add, Nat.sub_self, if_true, if_false, ite_true, ite_false, reduceIte, reduceCtorEq, decide_true, decide_false, decide_eq_true_eq, Bool.not_true, Bool.not_false, Bool.true_and, Bool.false_and, Bool.and_true, Bool.and_false, Bool.true_or, Bool.false_or, Bool.false_eq_true, Bool.true_eq_false, not_true_eq_false, not_false_eq_true, ne_eq, Int.reduceEq, Int.reduceNe, Int.reduceLT, Int.reduceLE, and_self, and_true, true_and, and_false, false_and, or_true, true_or, or_false, false_or, true_or, Option.map_some, he])
    (fun k u L τ h0 hk hu1 hu2 hQ => by
      obtain ⟨rfl, o5, o6, rfl⟩ := hQ
      have h1 := h.2.1 k.toNat (by omega)
      obtain ⟨p5, p6, e⟩ := fn_body h h2 hR hP ⟨h0, hk⟩ hu1 hu2 (nvR τ u.toNat) o5 o6
      refine Or.inl ⟨_, _, e, rfl, p5, p6, ?_⟩
      rw [nvR_s (by omega)])
    (fun k L τ h0 hk hQ => by
      obtain ⟨rfl, o5, o6, rfl⟩ := hQ
      have c2 : cs_InR (k + 1) := by omega
      have e : (if k + 1 < τ 4 1 then τ 15 (k + 1).toNat else τ 4 2) = τ 15 (k.toNat + 1) := by
        by_cases q : k + 1 < τ 4 1
        · rw [if_pos q, show (k + 1).toNat = k.toNat + 1 by omega]
        · rw [if_neg q, ← hb.2.2.2.2 (by omega), show k.toNat + 1 = (τ 4 1).toNat by omega]
      rw [e]
      exact ⟨[none, some (nvR τ (τ 15 (k.toNat + 1)).toNat).1, some (nvR τ (τ 15 (k.toNat + 1)).toNat).2, some (k + 1), some (τ 15 (k.toNat + 1)), o5, o6], by simp only [cs_run, cs_L0, s_ret, s_retz, s_retv, s_seq, s_set, s_inc, s_put, s_ast, s_zst, s_cst, s_ada, s_if, s_ex, s_cv, s_nop, s_brk, x_ite, x_l, x_k, x_f, x_a, x_ro, x_add, x_sub, x_mul, x_div, x_rem, x_neg, x_call, x_max, x_min, x_abs, g_cons, g_nil, y_lt, y_le, y_gt, y_ge, y_eq, y_ne, y_not, y_and, y_or, y_ite, Option.bind_some, Option.bind_none, List.getElem?_cons_zero, List.getElem?_cons_succ, List.getElem?_nil, List.set_cons_zero, List.set_cons_succ, List.cons_append, List.nil_append, List.append_nil, List.replicate, List.length_cons, List.length_nil, Nat.reduceAdd, Nat.reduceSub, Nat.zero_add, Nat.sub_self, if_true, if_false, ite_true, ite_false, reduceIte, reduceCtorEq, decide_true, decide_false, decide_eq_true_eq, Bool.not_true, Bool.not_false, Bool.true_and, Bool.false_and, Bool.and_true, Bool.and_false, Bool.true_or, Bool.false_or, Bool.false_eq_true, Bool.true_eq_false, not_true_eq_false, not_false_eq_true, ne_eq, Int.reduceEq, Int.reduceNe, Int.reduceLT, Int.reduceLE, and_self, and_true, true_and, and_false, false_and, or_true, true_or, or_false, false_or, true_or, Option.map_some, cs_chk_ok c2], rfl, _, o5, o6, rfl⟩)
    (σ 4 1).toNat 0 [none, some (-1), some 0, some 0, none, none, none] σ (by omega) (by omega) ⟨rfl, none, none, none, by
      have e : (if 0 < σ 4 1 then σ 15 (0 : Int).toNat else σ 4 2) = 0 := by
        by_cases q : 0 < σ 4 1
        · rw [if_pos q]; exact hb.2.2.2.1 (by omega)
        · rw [if_neg q]; exact hb.2.2.1 (by omega)
      rw [e]
      rfl⟩
  have g1 : (s_set 1 (x_k (-1))) [none, none, none, none, none, none, none] σ = some (.inl ([none, some (-1), none, none, none, none, none], σ)) := by simp only [cs_run, cs_L0, s_ret, s_retz, s_retv, s_seq, s_set, s_inc, s_put, s_ast, s_zst, s_cst, s_ada, s_if, s_ex, s_cv, s_nop, s_brk, x_ite, x_l, x_k, x_f, x_a, x_ro, x_add, x_sub, x_mul, x_div, x_rem, x_neg, x_call, x_max, x_min, x_abs, g_cons, g_nil, y_lt, y_le, y_gt, y_ge, y_eq, y_ne, y_not, y_and, y_or, y_ite, Option.bind_some, Option.bind_none, List.getElem?_cons_zero, List.getElem?_cons_succ, List.getElem?_nil, List.set_cons_zero, List.set_cons_succ, List.cons_append, List.nil_append, List.append_nil, List.replicate, List.length_cons, List.length_nil, Nat.reduceAdd, Nat.reduceSub, Nat.zero_add, Nat.sub_self, if_true, if_false, ite_true, ite_false, reduceIte, reduceCtorEq, decide_true, decide_false, decide_eq_true_eq, Bool.not_true, Bool.not_false, Bool.true_and, Bool.false_and, Bool.and_true, Bool.and_false, Bool.true_or, Bool.false_or, Bool.false_eq_true, Bool.true_eq_false, not_true_eq_false, not_false_eq_true, ne_eq, Int.reduceEq, Int.reduceNe, Int.reduceLT, Int.reduceLE, and_self, and_true, true_and, and_false, false_and, or_true, true_or, or_false, false_or, true_or, Option.map_some]
  have g2 : (s_set 2 (x_k 0)) [none, some (-1), none, none, none, none, none] σ = some (.inl ([none, some (-1), some 0, none, none, none, none], σ)) := by simp only [cs_run, cs_L0, s_ret, s_retz, s_retv, s_seq, s_set, s_inc, s_put, s_ast, s_zst, s_cst, s_ada, s_if, s_ex, s_cv, s_nop, s_brk, x_ite, x_l, x_k, x_f, x_a, x_ro, x_add, x_sub, x_mul, x_div, x_rem, x_neg, x_call, x_max, x_min, x_abs, g_cons, g_nil, y_lt, y_le, y_gt, y_ge, y_eq, y_ne, y_not, y_and, y_or, y_ite, Option.bind_some, Option.bind_none, List.getElem?_cons_zero, List.getElem?_cons_succ, List.getElem?_nil, List.set_cons_zero, List.set_cons_succ, List.cons_append, List.nil_append, List.append_nil, List.replicate, List.length_cons, List.length_nil, Nat.reduceAdd, Nat.reduceSub, Nat.zero_add, Nat.sub_self, if_true, if_false, ite_true, ite_false, reduceIte, reduceCtorEq, decide_true, decide_false, decide_eq_true_eq, Bool.not_true, Bool.not_false, Bool.true_and, Bool.false_and, Bool.and_true, Bool.and_false, Bool.true_or, Bool.false_or, Bool.false_eq_true, Bool.true_eq_false, not_true_eq_false, not_false_eq_true, ne_eq, Int.reduceEq, Int.reduceNe, Int.reduceLT, Int.reduceLE, and_self, and_true, true_and, and_false, false_and, or_true, true_or, or_false, false_or, true_or, Option.map_some]
  have g3 : (s_set 3 (x_k 0)) [none, some (-1), some 0, none, none, none, none] σ = some (.inl ([none, some (-1), some 0, some 0, none, none, none], σ)) := by simp only [cs_run, cs_L0, s_ret, s_retz, s_retv, s_seq, s_set, s_inc, s_put, s_ast, s_zst, s_cst, s_ada, s_if, s_ex, s_cv, s_nop, s_brk, x_ite, x_l, x_k, x_f, x_a, x_ro, x_add, x_sub, x_mul, x_div, x_rem, x_neg, x_call, x_max, x_min, x_abs, g_cons, g_nil, y_lt, y_le, y_gt, y_ge, y_eq, y_ne, y_not, y_and, y_or, y_ite, Option.bind_some, Option.bind_none, List.getElem?_cons_zero, List.getElem?_cons_succ, List.getElem?_nil, List.set_cons_zero, List.set_cons_succ, List.cons_append, List.nil_append, List.append_nil, List.replicate, List.length_cons, List.length_nil, Nat.reduceAdd, Nat.reduceSub, Nat.zero_add, Nat.sub_self, if_true, if_false, ite_true, ite_false, reduceIte, reduceCtorEq, decide_true, decide_false, decide_eq_true_eq, Bool.not_true, Bool.not_false, Bool.true_and, Bool.false_and, Bool.and_true, Bool.and_false, Bool.true_or, Bool.false_or, Bool.false_eq_true, Bool.true_eq_false, not_true_eq_false, not_false_eq_true, ne_eq, Int.reduceEq, Int.reduceNe, Int.reduceLT, Int.reduceLE, and_self, and_true, true_and, and_false, false_and, or_true, true_or, or_false, false_or, true_or, Option.map_some]
  unfold f_X10_findNext b_X10_findNext cs_run
  simp only [cs_L0, Option.bind_some, Option.bind_none, List.getElem?_cons_zero, List.getElem?_cons_succ, List.getElem?_nil, List.set_cons_zero, List.set_cons_succ, List.cons_append, List.nil_append, List.append_nil, List.replicate, List.length_cons, List.length_nil, Nat.reduceAdd, Nat.reduceSub, Nat.zero_add, Nat.sub_self, if_true, if_false, ite_true, ite_false, reduceIte, reduceCtorEq, decide_true, decide_false, decide_eq_true_eq, Bool.not_true, Bool.not_false, Bool.true_and, Bool.false_and, Bool.and_true, Bool.and_false, Bool.true_or, Bool.false_or, Bool.false_eq_true, Bool.true_eq_false, not_true_eq_false, not_false_eq_true, ne_eq, Int.reduceEq, Int.reduceNe, Int.reduceLT, Int.reduceLE, and_self, and_true, true_and, and_false, false_and, or_true, true_or, or_false, false_or, true_or, Option.map_some]
  rw [sq_st g1, sq_st g2, sq_assoc, sq_st g3, w_X10_findNext_2, wb_X10_findNext_2, w_X10_findNext_1]
  rcases hw with ⟨L', σ', e, rfl, o4, o5, o6, rfl⟩ | ⟨r, -, hx⟩
  · rw [sq_st e, if_neg (by omega)]
    unfold nvS
    simp only [cs_run, cs_L0, s_ret, s_retz, s_retv, s_seq, s_set, s_inc, s_put, s_ast, s_zst, s_cst, s_ada, s_if, s_ex, s_cv, s_nop, s_brk, x_ite, x_l, x_k, x_f, x_a, x_ro, x_add, x_sub, x_mul, x_div, x_rem, x_neg, x_call, x_max, x_min, x_abs, g_cons, g_nil, y_lt, y_le, y_gt, y_ge, y_eq, y_ne, y_not, y_and, y_or, y_ite, Option.bind_some, Option.bind_none, List.getElem?_cons_zero, List.getElem?_cons_succ, List.getElem?_nil, List.set_cons_zero, List.set_cons_succ, List.cons_append, List.nil_append, List.append_nil, List.replicate, List.length_cons, List.length_nil, Nat.reduceAdd, Nat.reduceSub, Nat.zero_add, Nat.sub_self, if_true, if_false, ite_true, ite_false, reduceIte, reduceCtorEq, decide_true, decide_false, decide_eq_true_eq, Bool.not_true, Bool.not_false, Bool.true_and, Bool.false_and, Bool.and_true, Bool.and_false, Bool.true_or, Bool.false_or, Bool.false_eq_true, Bool.true_eq_false, not_true_eq_false, not_false_eq_true, ne_eq, Int.reduceEq, Int.reduceNe, Int.reduceLT, Int.reduceLE, and_self, and_true, true_and, and_false, false_and, or_true, true_or, or_false, false_or, true_or, Option.map_some]
  · exact hx.elim
theorem nvS_J {σ : cs_S} (h : CSo σ) (h2 : CPr σ) (hR : RR σ) (hP : Pos1 σ) : nvS σ = -1 ∨ ((0 ≤ nvS σ ∧ nvS σ < σ 4 2) ∧ Pr σ (nvS σ) = true ∧ 4 ≤ σ 16 (σ 20 (nvS σ).toNat).toNat) := by
  have hb := h.1
  rcases nvR_J σ (σ 4 2).toNat with q | ⟨q1, q2, q3, -⟩
  · exact Or.inl q
  · refine Or.inr ?_
    have q1' : 0 ≤ nvS σ ∧ nvS σ < σ 4 2 := by unfold nvS; omega
    exact ⟨q1', q2, (f_rem h h2 hR hP q1').2.2 q3⟩
/-- the contour of a vertex -/
theorem f_contourAt {σ : cs_S} (h : CSo σ) (hR : RR σ) {v : Int} (hv : 0 ≤ v ∧ v < σ 4 2) : f_X10_contourAt [v] σ = some (some (σ 20 v.toNat), σ) := by
  have hb := h.1
  obtain ⟨w1, w2, w3⟩ := own_in h hv
  have run : ∀ (m : Nat) (c : Int), 0 ≤ c → c + m = σ 20 v.toNat → s_seq w_X10_contourAt_1 (s_ret (x_l 2)) [none, some v, some c] σ = some (.inr (.inl (some (σ 20 v.toNat), σ))) := by
    intro m
    induction m with
    | zero =>
      intro c h0 hm
      have hc : c = σ 20 v.toNat := by omega
      have he := f_endOf h hR (c := c) (by omega)
      have q : ¬ σ 15 (c.toNat + 1) ≤ v := by unfold es at w3; rw [hc]; omega
      have hcn : wc_X10_contourAt_1 [none, some v, some c] σ = some (false, σ) := by simp only [wc_X10_contourAt_1, cs_run, cs_L0, s_ret, s_retz, s_retv, s_seq, s_set, s_inc, s_put, s_ast, s_zst, s_cst, s_ada, s_if, s_ex, s_cv, s_nop, s_brk, x_ite, x_l, x_k, x_f, x_a, x_ro, x_add, x_sub, x_mul, x_div, x_rem, x_neg, x_call, x_max, x_min, x_abs, g_cons, g_nil, y_lt, y_le, y_gt, y_ge, y_eq, y_ne, y_not, y_and, y_or, y_ite, Option.bind_some, Option.bind_none, List.getElem?_cons_zero, List.getElem?_cons_succ, List.getElem?_nil, List.set_cons_zero, List.set_cons_succ, List.cons_append, List.nil_append, List.append_nil, List.replicate, List.length_cons, List.length_nil, Nat.reduceAdd, Nat.reduceSub, Nat.zero_add, Nat.sub_self, if_true, if_false, ite_true, ite_false, reduceIte, reduceCtorEq, decide_true, decide_false, decide_eq_true_eq, Bool.not_true, Bool.not_false, Bool.true_and, Bool.false_and, Bool.and_true, Bool.and_false, Bool.true_or, Bool.false_or, Bool.false_eq_true, Bool.true_eq_false, not_true_eq_false, not_false_eq_true, ne_eq, Int.reduceEq, Int.reduceNe, Int.reduceLT, Int.reduceLE, and_self, and_true, true_and, and_false, false_and, or_true, true_or, or_false, false_or, true_or, Option.map_some, he, q]
      rw [w_X10_contourAt_1, sq_no hcn, hc]
      simp only [cs_run, cs_L0, s_ret, s_retz, s_retv, s_seq, s_set, s_inc, s_put, s_ast, s_zst, s_cst, s_ada, s_if, s_ex, s_cv, s_nop, s_brk, x_ite, x_l, x_k, x_f, x_a, x_ro, x_add, x_sub, x_mul, x_div, x_rem, x_neg, x_call, x_max, x_min, x_abs, g_cons, g_nil, y_lt, y_le, y_gt, y_ge, y_eq, y_ne, y_not, y_and, y_or, y_ite, Option.bind_some, Option.bind_none, List.getElem?_cons_zero, List.getElem?_cons_succ, List.getElem?_nil, List.set_cons_zero, List.set_cons_succ, List.cons_append, List.nil_append, List.append_nil, List.replicate, List.length_cons, List.length_nil, Nat.reduceAdd, Nat.reduceSub, Nat.zero_add, Nat.sub_self, if_true, if_false, ite_true, ite_false, reduceIte, reduceCtorEq, decide_true, decide_false, decide_eq_true_eq, Bool.not_true, Bool.not_false, Bool.true_and, Bool.false_and, Bool.and_true, Bool.and_false, Bool.true_or, Bool.false_or, Bool.false_eq_true, Bool.true_eq_false, not_true_eq_false, not_false_eq_true, ne_eq, Int.reduceEq, Int.reduceNe, Int.reduceLT, Int.reduceLE, and_self, and_true, true_and, and_false, false_and, or_true, true_or, or_false, false_or, true_or, Option.map_some]
    | succ m ih =>
      intro c h0 hm
      have he := f_endOf h hR (c := c) (by omega)
      have q : σ 15 (c.toNat + 1) ≤ v := by
        apply Classical.byContradiction
        intro q
        by_cases q2 : σ 15 c.toNat ≤ v
        · have := own_eq h (c := c) (u := v) (by omega) q2 (by omega); omega
        · have mono : ∀ (j : Nat) (i : Nat), (i : Int) + j ≤ σ 20 v.toNat → σ 15 i ≤ σ 15 (i + j) := by
            intro j
            induction j with
            | zero => intro i _; simp
            | succ j ihj =>
              intro i hi
              have a1 := ihj i (by omega)
              have a2 := h.2.1 (i + j) (by omega)
              rw [show i + (j + 1) = i + j + 1 by omega]
              omega
          have := mono (m + 1) c.toNat (by omega)
          rw [show c.toNat + (m + 1) = (σ 20 v.toNat).toNat by omega] at this
          unfold fs at w3
          omega
      have c2 : cs_InR (c + 1) := by omega
      have hcn : wc_X10_contourAt_1 [none, some v, some c] σ = some (true, σ) := by simp only [wc_X10_contourAt_1, cs_run, cs_L0, s_ret, s_retz, s_retv, s_seq, s_set, s_inc, s_put, s_ast, s_zst, s_cst, s_ada, s_if, s_ex, s_cv, s_nop, s_brk, x_ite, x_l, x_k, x_f, x_a, x_ro, x_add, x_sub, x_mul, x_div, x_rem, x_neg, x_call, x_max, x_min, x_abs, g_cons, g_nil, y_lt, y_le, y_gt, y_ge, y_eq, y_ne, y_not, y_and, y_or, y_ite, Option.bind_some, Option.bind_none, List.getElem?_cons_zero, List.getElem?_cons_succ, List.getElem?_nil, List.set_cons_zero, List.set_cons_succ, List.cons_append, List.nil_append, List.append_nil, List.replicate, List.length_cons, List.length_nil, Nat.reduceAdd, Nat.reduceSub, Nat.zero_add, Nat.sub_self, if_true, if_false, ite_true, ite_false, reduceIte, reduceCtorEq, decide_true, decide_false, decide_eq_true_eq, Bool.not_true, Bool.not_false, Bool.true_and, Bool.false_and, Bool.and_true, Bool.and_false, Bool.true_or, Bool.false_or, Bool.false_eq_true, Bool.true_eq_false, not_true_eq_false, not_false_eq_true, ne_eq, Int.reduceEq, Int.reduceNe, Int.reduceLT, Int.reduceLE, and_self, and_true, true_and, and_false, false_and, or_true, true_or, or_false, false_or, true_or, Option.map_some, he, q]
      have hbd : wb_X10_contourAt_1 [none, some v, some c] σ = some (.inl ([none, some v, some (c + 1)], σ)) := by simp only [wb_X10_contourAt_1, cs_run, cs_L0, s_ret, s_retz, s_retv, s_seq, s_set, s_inc, s_put, s_ast, s_zst, s_cst, s_ada, s_if, s_ex, s_cv, s_nop, s_brk, x_ite, x_l, x_k, x_f, x_a, x_ro, x_add, x_sub, x_mul, x_div, x_rem, x_neg, x_call, x_max, x_min, x_abs, g_cons, g_nil, y_lt, y_le, y_gt, y_ge, y_eq, y_ne, y_not, y_and, y_or, y_ite, Option.bind_some, Option.bind_none, List.getElem?_cons_zero, List.getElem?_cons_succ, List.getElem?_nil, List.set_cons_zero, List.set_cons_succ, List.cons_append, List.nil_append, List.append_nil, List.replicate, List.length_cons, List.length_nil, Nat.reduceAdd, Nat.reduceSub, Nat.zero_add, Nat.sub_self, if_true, if_false, ite_true, ite_false, reduceIte, reduceCtorEq, decide_true, decide_false, decide_eq_true_eq, Bool.not_true, Bool.not_false, Bool.true_and, Bool.false_and, Bool.and_true, Bool.and_false, Bool.true_or, Bool.false_or, Bool.false_eq_true, Bool.true_eq_false, not_true_eq_false, not_false_eq_true, ne_eq, Int.reduceEq, Int.reduceNe, Int.reduceLT, Int.reduceLE, and_self, and_true, true_and, and_false, false_and, or_true, true_or, or_false, false_or, true_or, Option.map_some, cs_chk_ok c2]
      have := ih (c + 1) (by omega) (by omega)
      rw [w_X10_contourAt_1] at this ⊢
      rw [sq_go hcn hbd]
      exact this
  have g1 : (s_set 2 (x_k 0)) [none, some v, none] σ = some (.inl ([none, some v, some 0], σ)) := by simp only [cs_run, cs_L0, s_ret, s_retz, s_retv, s_seq, s_set, s_inc, s_put, s_ast, s_zst, s_cst, s_ada, s_if, s_ex, s_cv, s_nop, s_brk, x_ite, x_l, x_k, x_f, x_a, x_ro, x_add, x_sub, x_mul, x_div, x_rem, x_neg, x_call, x_max, x_min, x_abs, g_cons, g_nil, y_lt, y_le, y_gt, y_ge, y_eq, y_ne, y_not, y_and, y_or, y_ite, Option.bind_some, Option.bind_none, List.getElem?_cons_zero, List.getElem?_cons_succ, List.getElem?_nil, List.set_cons_zero, List.set_cons_succ, List.cons_append, List.nil_append, List.append_nil, List.replicate, List.length_cons, List.length_nil, Nat.reduceAdd, Nat.reduceSub, Nat.zero_add, Nat.sub_self, if_true, if_false, ite_true, ite_false, reduceIte, reduceCtorEq, decide_true, decide_false, decide_eq_true_eq, Bool.not_true, Bool.not_false, Bool.true_and, Bool.false_and, Bool.and_true, Bool.and_false, Bool.true_or, Bool.false_or, Bool.false_eq_true, Bool.true_eq_false, not_true_eq_false, not_false_eq_true, ne_eq, Int.reduceEq, Int.reduceNe, Int.reduceLT, Int.reduceLE, and_self, and_true, true_and, and_false, false_and, or_true, true_or, or_false, false_or, true_or, Option.map_some]
  unfold f_X10_contourAt b_X10_contourAt cs_run
  simp only [cs_L0, Option.bind_some, Option.bind_none, List.getElem?_cons_zero, List.getElem?_cons_succ, List.getElem?_nil, List.set_cons_zero, List.set_cons_succ, List.cons_append, List.nil_append, List.append_nil, List.replicate, List.length_cons, List.length_nil, Nat.reduceAdd, Nat.reduceSub, Nat.zero_add, Nat.sub_self, if_true, if_false, ite_true, ite_false, reduceIte, reduceCtorEq, decide_true, decide_false, decide_eq_true_eq, Bool.not_true, Bool.not_false, Bool.true_and, Bool.false_and, Bool.and_true, Bool.and_false, Bool.true_or, Bool.false_or, Bool.false_eq_true, Bool.true_eq_false, not_true_eq_false, not_false_eq_true, ne_eq, Int.reduceEq, Int.reduceNe, Int.reduceLT, Int.reduceLE, and_self, and_true, true_and, and_false, false_and, or_true, true_or, or_false, false_or, true_or, Option.map_some]
  rw [sq_st g1, run (σ 20 v.toNat).toNat 0 (by omega) (by omega)]
