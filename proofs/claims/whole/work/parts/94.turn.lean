/-! turning a vertex -/
def tg (a : Nat → Int) (v : Nat) : Nat → Int := au a v (if a v ≠ 0 then 0 else 1)
theorem tg_tg {a : Nat → Int} {v : Nat} (h : a v = 0 ∨ a v = 1) : tg (tg a v) v = a := by
  unfold tg
  rw [au_au, au_at]
  rcases h with h | h <;> rw [h] <;> simp <;> exact au_same h
theorem tg_01 {a : Nat → Int} {v u : Nat} (h : a u = 0 ∨ a u = 1) : tg a v u = 0 ∨ tg a v u = 1 := by
  unfold tg au
  split
  · split <;> simp
  · exact h
theorem sm_tg {a : Nat → Int} {W : Nat → Prop} [DecidablePred W] {v n : Nat} (hv : v < n) : sm (fun k => if tg a v k ≠ 0 ∧ W k then 1 else 0) n = sm (fun k => if a k ≠ 0 ∧ W k then 1 else 0) n + (if W v then (if a v ≠ 0 then -1 else 1) else 0) := by
  rw [sm_split hv, sm_split (D := fun k => if a k ≠ 0 ∧ W k then 1 else 0) hv]
  have e : sm (fun k => if k = v then 0 else if tg a v k ≠ 0 ∧ W k then 1 else 0) n = sm (fun k => if k = v then 0 else if a k ≠ 0 ∧ W k then (1 : Int) else 0) n := sm_congr (fun k _ => by
    by_cases q : k = v
    · simp [q]
    · simp only [q, if_false]
      unfold tg
      rw [au_ne q])
  rw [e]
  have e2 : tg a v v = if a v ≠ 0 then 0 else 1 := au_at _ _ _
  rw [e2]
  by_cases q1 : a v = 0 <;> by_cases q2 : W v <;> simp [q1, q2] <;> omega
theorem turnC_v (σ : cs_S) (v : Int) : turnC σ v 23 = tg (σ 23) v.toNat ∧ turnC σ v 4 = au (σ 4) 3 (σ 4 3 + (if σ 23 v.toNat ≠ 0 then -1 else 1)) ∧ turnC σ v 16 = au (σ 16) (σ 20 v.toNat).toNat (σ 16 (σ 20 v.toNat).toNat + (if σ 23 v.toNat ≠ 0 then -1 else 1)) ∧ turnC σ v 24 = au (σ 24) (σ 22 v.toNat * 17 + σ 21 v.toNat).toNat (σ 24 (σ 22 v.toNat * 17 + σ 21 v.toNat).toNat + (if σ 23 v.toNat ≠ 0 then -1 else 1)) := by
  refine ⟨?_, ?_, ?_, ?_⟩ <;> simp [turnC, tg]
theorem turnC_o {σ : cs_S} {v : Int} {q : Nat} (h : q ≠ 23 ∧ q ≠ 4 ∧ q ≠ 16 ∧ q ≠ 24) : turnC σ v q = σ q := by simp [turnC, h]
theorem CSo_cg {σ τ : cs_S} (h1 : τ 4 1 = σ 4 1) (h2 : τ 4 2 = σ 4 2) (h15 : τ 15 = σ 15) (h20 : τ 20 = σ 20) (h21 : τ 21 = σ 21) (h22 : τ 22 = σ 22) : CSo τ ↔ CSo σ := by unfold CSo; rw [h1, h2, h15, h20, h21, h22]
theorem turnC_12 (σ : cs_S) (v : Int) : turnC σ v 4 1 = σ 4 1 ∧ turnC σ v 4 2 = σ 4 2 := by
  rw [(turnC_v σ v).2.1]; exact ⟨au_ne (by decide), au_ne (by decide)⟩
theorem turnC_CSo {σ : cs_S} {v : Int} : CSo (turnC σ v) ↔ CSo σ := CSo_cg (turnC_12 σ v).1 (turnC_12 σ v).2 (turnC_o (by decide)) (turnC_o (by decide)) (turnC_o (by decide)) (turnC_o (by decide))
theorem turnC_CPr {σ : cs_S} (h : CSo σ) (h2 : CPr σ) {v : Int} (hv : 0 ≤ v ∧ v < σ 4 2) : CPr (turnC σ v) := by
  obtain ⟨p1, p2, p3, p4⟩ := h2
  obtain ⟨t23, t4, t16, t24⟩ := turnC_v σ v
  obtain ⟨q1, q2⟩ := turnC_12 σ v
  have o20 : turnC σ v 20 = σ 20 := turnC_o (by decide)
  have o21 : turnC σ v 21 = σ 21 := turnC_o (by decide)
  have o22 : turnC σ v 22 = σ 22 := turnC_o (by decide)
  have hvn : v.toNat < (σ 4 2).toNat := by omega
  obtain ⟨w1, w2, w3⟩ := own_in h hv
  obtain ⟨x1, x2⟩ := h.2.2.2.2 v.toNat (by omega)
  refine ⟨?_, ?_, ?_, ?_⟩
  · intro u hu
    rw [q2] at hu
    rw [t23]
    exact tg_01 (p1 u hu)
  · rw [t4, au_at, p2]
    unfold cAll
    rw [q2, t23]
    have := sm_tg (a := σ 23) (W := fun _ => True) hvn
    simp only [and_true, if_true] at this
    rw [this]
  · intro c hc
    rw [q1] at hc
    unfold cIn
    rw [q2, t23, o20, sm_tg (a := σ 23) (W := fun k => σ 20 k = (c : Int)) hvn, t16]
    have := p3 c hc
    unfold cIn at this
    rw [← this]
    by_cases e : σ 20 v.toNat = (c : Int)
    · rw [if_pos e, e, Int.toNat_natCast, au_at]
    · rw [if_neg e, au_ne (by omega)]; omega
  · intro k hk
    unfold cAt
    rw [q2, t23, o21, o22, sm_tg (a := σ 23) (W := fun j => σ 22 j * 17 + σ 21 j = (k : Int)) hvn, t24]
    have := p4 k hk
    unfold cAt at this
    rw [← this]
    by_cases e : σ 22 v.toNat * 17 + σ 21 v.toNat = (k : Int)
    · rw [if_pos e, e, Int.toNat_natCast, au_at]
    · rw [if_neg e, au_ne (by omega)]; omega
theorem cnt_b {σ : cs_S} (h : CSo σ) (h2 : CPr σ) : (0 ≤ σ 4 3 ∧ σ 4 3 ≤ 442) ∧ (∀ c : Nat, (c : Int) < σ 4 1 → 0 ≤ σ 16 c ∧ σ 16 c ≤ 442) ∧ ∀ k : Nat, k < 221 → 0 ≤ σ 24 k ∧ σ 24 k ≤ 442 := by
  have hb := h.1
  obtain ⟨-, p2, p3, p4⟩ := h2
  refine ⟨?_, fun c hc => ?_, fun k hk => ?_⟩
  · rw [p2]
    have := cnt_le (P := fun v => σ 23 v ≠ 0) (σ 4 2).toNat
    unfold cAll
    omega
  · rw [p3 c hc]
    have := cnt_le (P := fun v => σ 23 v ≠ 0 ∧ σ 20 v = (c : Int)) (σ 4 2).toNat
    unfold cIn
    omega
  · rw [p4 k hk]
    have := cnt_le (P := fun v => σ 23 v ≠ 0 ∧ σ 22 v * 17 + σ 21 v = (k : Int)) (σ 4 2).toNat
    unfold cAt
    omega
theorem f_turnJ {σ : cs_S} (h : CSo σ) (h2 : CPr σ) {v : Int} (hv : 0 ≤ v ∧ v < σ 4 2) : f_X1_turn [v] σ = some (none, turnC σ v) := by
  have hb := h.1
  obtain ⟨w1, -, -⟩ := own_in h hv
  obtain ⟨x1, x2⟩ := h.2.2.2.2 v.toNat (by omega)
  obtain ⟨b1, b2, b3⟩ := cnt_b h h2
  have b2' := b2 (σ 20 v.toNat).toNat (by omega)
  have b3' := b3 (σ 22 v.toNat * 17 + σ 21 v.toNat).toNat (by omega)
  exact f_turn σ v (by omega) (by omega) x1 x2 (by omega) (by omega) (by omega)
/-! the steps -/
def addS (σ : cs_S) (v : Int) : cs_S := cs_set (cs_set σ 27 (au (σ 27) (σ 8 1).toNat v)) 8 (au (au (σ 8) 1 (if σ 8 1 + 1 < 600 then σ 8 1 + 1 else 0)) 2 (if 600 < σ 8 2 + 1 then 600 else σ 8 2 + 1))
theorem f_addS {σ : cs_S} {v : Int} (h1 : 0 ≤ σ 8 1 ∧ σ 8 1 < 600) (h2 : 0 ≤ σ 8 2 ∧ σ 8 2 ≤ 600) : f_X6_add [v] σ = some (none, addS σ v) := by
  have c1 : (0 : Int) ≤ σ 8 1 ∧ σ 8 1 < ((600 : Nat) : Int) := by omega
  have d1 : cs_InR (σ 8 1 + 1) := by omega
  have d2 : cs_InR (σ 8 2 + 1) := by omega
  have g1 : (s_ast 27 600 (x_f 8 1) (x_l 1)) [none, some v] σ = some (.inl ([none, some v], cs_set σ 27 (au (σ 27) (σ 8 1).toNat v))) := by simp only [cs_run, cs_L0, s_ret, s_retz, s_retv, s_seq, s_set, s_inc, s_put, s_ast, s_zst, s_cst, s_ada, s_if, s_ex, s_cv, s_nop, s_brk, x_ite, x_l, x_k, x_f, x_a, x_ro, x_add, x_sub, x_mul, x_div, x_rem, x_neg, x_call, x_max, x_min, x_abs, g_cons, g_nil, y_lt, y_le, y_gt, y_ge, y_eq, y_ne, y_not, y_and, y_or, y_ite, Option.bind_some, Option.bind_none, List.getElem?_cons_zero, List.getElem?_cons_succ, List.getElem?_nil, List.set_cons_zero, List.set_cons_succ, List.cons_append, List.nil_append, List.append_nil, List.replicate, List.length_cons, List.length_nil, Nat.reduceAdd, Nat.reduceSub, Nat.zero_add, Nat.sub_self, if_true, if_false, ite_true, ite_false, reduceIte, reduceCtorEq, decide_true, decide_false, decide_eq_true_eq, Bool.not_true, Bool.not_false, Bool.true_and, Bool.false_and, Bool.and_true, Bool.and_false, Bool.true_or, Bool.false_or, Bool.false_eq_true, Bool.true_eq_false, not_true_eq_false, not_false_eq_true, ne_eq, Int.reduceEq, Int.reduceNe, Int.reduceLT, Int.reduceLE, and_self, and_true, true_and, and_false, false_and, or_true, true_or, or_false, false_or, true_or, Option.map_some, cs_wr_ok c1, cs_up_eq]
  obtain ⟨τ1, e1⟩ : ∃ τ1, τ1 = cs_set σ 27 (au (σ 27) (σ 8 1).toNat v) := ⟨_, rfl⟩
  rw [← e1] at g1
  have k1 : τ1 8 = σ 8 := by rw [e1]; exact cs_set_ne (by decide)
  have g2 : (s_put 8 1 (x_ite (y_lt (x_add (x_f 8 1) (x_k 1)) (x_k 600)) (x_add (x_f 8 1) (x_k 1)) (x_k 0))) [none, some v] τ1 = some (.inl ([none, some v], cs_set τ1 8 (au (σ 8) 1 (if σ 8 1 + 1 < 600 then σ 8 1 + 1 else 0)))) := by
    by_cases q : σ 8 1 + 1 < 600
    · simp only [cs_run, cs_L0, s_ret, s_retz, s_retv, s_seq, s_set, s_inc, s_put, s_ast, s_zst, s_cst, s_ada, s_if, s_ex, s_cv, s_nop, s_brk, x_ite, x_l, x_k, x_f, x_a, x_ro, x_add, x_sub, x_mul, x_div, x_rem, x_neg, x_call, x_max, x_min, x_abs, g_cons, g_nil, y_lt, y_le, y_gt, y_ge, y_eq, y_ne, y_not, y_and, y_or, y_ite, Option.bind_some, Option.bind_none, List.getElem?_cons_zero, List.getElem?_cons_succ, List.getElem?_nil, List.set_cons_zero, List.set_cons_succ, List.cons_append, List.nil_append, List.append_nil, List.replicate, List.length_cons, List.length_nil, Nat.reduceAdd, Nat.reduceSub, Nat.zero_add, Nat.sub_self, if_true, if_false, ite_true, ite_false, reduceIte, reduceCtorEq, decide_true, decide_false, decide_eq_true_eq, Bool.not_true, Bool.not_false, Bool.true_and, Bool.false_and, Bool.and_true, Bool.and_false, Bool.true_or, Bool.false_or, Bool.false_eq_true, Bool.true_eq_false, not_true_eq_false, not_false_eq_true, ne_eq, Int.reduceEq, Int.reduceNe, Int.reduceLT, Int.reduceLE, and_self, and_true, true_and, and_false, false_and, or_true, true_or, or_false, false_or, true_or, Option.map_some, k1, cs_chk_ok d1, q, cs_up_eq]
    · simp only [cs_run, cs_L0, s_ret, s_retz, s_retv, s_seq, s_set, s_inc, s_put, s_ast, s_zst, s_cst, s_ada, s_if, s_ex, s_cv, s_nop, s_brk, x_ite, x_l, x_k, x_f, x_a, x_ro, x_add, x_sub, x_mul, x_div, x_rem, x_neg, x_call, x_max, x_min, x_abs, g_cons, g_nil, y_lt, y_le, y_gt, y_ge, y_eq, y_ne, y_not, y_and, y_or, y_ite, Option.bind_some, Option.bind_none, List.getElem?_cons_zero, List.getElem?_cons_succ, List.getElem?_nil, List.set_cons_zero, List.set_cons_succ, List.cons_append, List.nil_append, List.append_nil, List.replicate, List.length_cons, List.length_nil, Nat.reduceAdd, Nat.reduceSub, Nat.zero_add, Nat.sub_self, if_true, if_false, ite_true, ite_false, reduceIte, reduceCtorEq, decide_true, decide_false, decide_eq_true_eq, Bool.not_true, Bool.not_false, Bool.true_and, Bool.false_and, Bool.and_true, Bool.and_false, Bool.true_or, Bool.false_or, Bool.false_eq_true, Bool.true_eq_false, not_true_eq_false, not_false_eq_true, ne_eq, Int.reduceEq, Int.reduceNe, Int.reduceLT, Int.reduceLE, and_self, and_true, true_and, and_false, false_and, or_true, true_or, or_false, false_or, true_or, Option.map_some, k1, cs_chk_ok d1, q, cs_up_eq]
  obtain ⟨x, ex⟩ : ∃ x, x = if σ 8 1 + 1 < 600 then σ 8 1 + 1 else 0 := ⟨_, rfl⟩
  rw [← ex] at g2
  obtain ⟨τ2, e2⟩ : ∃ τ2, τ2 = cs_set τ1 8 (au (σ 8) 1 x) := ⟨_, rfl⟩
  rw [← e2] at g2
  have k2 : τ2 8 = au (σ 8) 1 x := by rw [e2]; exact cs_set_at _ _ _
  have k3 : au (σ 8) 1 x 2 = σ 8 2 := au_ne (by decide)
  have g3 : (s_put 8 2 (x_min (x_add (x_f 8 2) (x_k 1)) (x_k 600))) [none, some v] τ2 = some (.inl ([none, some v], cs_set τ2 8 (au (au (σ 8) 1 x) 2 (if 600 < σ 8 2 + 1 then 600 else σ 8 2 + 1)))) := by
    simp only [cs_run, cs_L0, s_ret, s_retz, s_retv, s_seq, s_set, s_inc, s_put, s_ast, s_zst, s_cst, s_ada, s_if, s_ex, s_cv, s_nop, s_brk, x_ite, x_l, x_k, x_f, x_a, x_ro, x_add, x_sub, x_mul, x_div, x_rem, x_neg, x_call, x_max, x_min, x_abs, g_cons, g_nil, y_lt, y_le, y_gt, y_ge, y_eq, y_ne, y_not, y_and, y_or, y_ite, Option.bind_some, Option.bind_none, List.getElem?_cons_zero, List.getElem?_cons_succ, List.getElem?_nil, List.set_cons_zero, List.set_cons_succ, List.cons_append, List.nil_append, List.append_nil, List.replicate, List.length_cons, List.length_nil, Nat.reduceAdd, Nat.reduceSub, Nat.zero_add, Nat.sub_self, if_true, if_false, ite_true, ite_false, reduceIte, reduceCtorEq, decide_true, decide_false, decide_eq_true_eq, Bool.not_true, Bool.not_false, Bool.true_and, Bool.false_and, Bool.and_true, Bool.and_false, Bool.true_or, Bool.false_or, Bool.false_eq_true, Bool.true_eq_false, not_true_eq_false, not_false_eq_true, ne_eq, Int.reduceEq, Int.reduceNe, Int.reduceLT, Int.reduceLE, and_self, and_true, true_and, and_false, false_and, or_true, true_or, or_false, false_or, true_or, Option.map_some, k2, k3, cs_chk_ok d2, cs_up_eq]
  unfold f_X6_add b_X6_add cs_run
  simp only [cs_L0, Option.bind_some, Option.bind_none, List.getElem?_cons_zero, List.getElem?_cons_succ, List.getElem?_nil, List.set_cons_zero, List.set_cons_succ, List.cons_append, List.nil_append, List.append_nil, List.replicate, List.length_cons, List.length_nil, Nat.reduceAdd, Nat.reduceSub, Nat.zero_add, Nat.sub_self, if_true, if_false, ite_true, ite_false, reduceIte, reduceCtorEq, decide_true, decide_false, decide_eq_true_eq, Bool.not_true, Bool.not_false, Bool.true_and, Bool.false_and, Bool.and_true, Bool.and_false, Bool.true_or, Bool.false_or, Bool.false_eq_true, Bool.true_eq_false, not_true_eq_false, not_false_eq_true, ne_eq, Int.reduceEq, Int.reduceNe, Int.reduceLT, Int.reduceLE, and_self, and_true, true_and, and_false, false_and, or_true, true_or, or_false, false_or, true_or, Option.map_some]
  rw [sq_st g1, sq_st g2, sq_st g3]
  simp only [cs_run, cs_L0, s_ret, s_retz, s_retv, s_seq, s_set, s_inc, s_put, s_ast, s_zst, s_cst, s_ada, s_if, s_ex, s_cv, s_nop, s_brk, x_ite, x_l, x_k, x_f, x_a, x_ro, x_add, x_sub, x_mul, x_div, x_rem, x_neg, x_call, x_max, x_min, x_abs, g_cons, g_nil, y_lt, y_le, y_gt, y_ge, y_eq, y_ne, y_not, y_and, y_or, y_ite, Option.bind_some, Option.bind_none, List.getElem?_cons_zero, List.getElem?_cons_succ, List.getElem?_nil, List.set_cons_zero, List.set_cons_succ, List.cons_append, List.nil_append, List.append_nil, List.replicate, List.length_cons, List.length_nil, Nat.reduceAdd, Nat.reduceSub, Nat.zero_add, Nat.sub_self, if_true, if_false, ite_true, ite_false, reduceIte, reduceCtorEq, decide_true, decide_false, decide_eq_true_eq, Bool.not_true, Bool.not_false, Bool.true_and, Bool.false_and, Bool.and_true, Bool.and_false, Bool.true_or, Bool.false_or, Bool.false_eq_true, Bool.true_eq_false, not_true_eq_false, not_false_eq_true, ne_eq, Int.reduceEq, Int.reduceNe, Int.reduceLT, Int.reduceLE, and_self, and_true, true_and, and_false, false_and, or_true, true_or, or_false, false_or, true_or, Option.map_some]
  unfold addS
  rw [e2, e1, ex, cs_set_set]
def stpC (σ : cs_S) (v : Int) : cs_S := addS (turnC σ v) v
theorem f_takeStep {σ : cs_S} (h : CSo σ) (h2 : CPr σ) (s1 : 0 ≤ σ 8 1 ∧ σ 8 1 < 600) (s2 : 0 ≤ σ 8 2 ∧ σ 8 2 ≤ 600) {v : Int} (hv : 0 ≤ v ∧ v < σ 4 2) : f_X5_takeStep [v] σ = some (some (szV σ v), stpC σ v) := by
  have e1 : f_X5_triangleSize [v] σ = some (some (szV σ v), σ) := f_triC h hv
  have e2 := f_turnJ h h2 hv
  have k8 : turnC σ v 8 = σ 8 := turnC_o (by decide)
  have e3 := f_addS (σ := turnC σ v) (v := v) (by rw [k8]; exact s1) (by rw [k8]; exact s2)
  simp only [f_X5_takeStep, b_X5_takeStep, cs_run, cs_L0, s_ret, s_retz, s_retv, s_seq, s_set, s_inc, s_put, s_ast, s_zst, s_cst, s_ada, s_if, s_ex, s_cv, s_nop, s_brk, x_ite, x_l, x_k, x_f, x_a, x_ro, x_add, x_sub, x_mul, x_div, x_rem, x_neg, x_call, x_max, x_min, x_abs, g_cons, g_nil, y_lt, y_le, y_gt, y_ge, y_eq, y_ne, y_not, y_and, y_or, y_ite, Option.bind_some, Option.bind_none, List.getElem?_cons_zero, List.getElem?_cons_succ, List.getElem?_nil, List.set_cons_zero, List.set_cons_succ, List.cons_append, List.nil_append, List.append_nil, List.replicate, List.length_cons, List.length_nil, Nat.reduceAdd, Nat.reduceSub, Nat.zero_add, Nat.sub_self, if_true, if_false, ite_true, ite_false, reduceIte, reduceCtorEq, decide_true, decide_false, decide_eq_true_eq, Bool.not_true, Bool.not_false, Bool.true_and, Bool.false_and, Bool.and_true, Bool.and_false, Bool.true_or, Bool.false_or, Bool.false_eq_true, Bool.true_eq_false, not_true_eq_false, not_false_eq_true, ne_eq, Int.reduceEq, Int.reduceNe, Int.reduceLT, Int.reduceLE, and_self, and_true, true_and, and_false, false_and, or_true, true_or, or_false, false_or, true_or, Option.map_some, e1, e2, e3, stpC]
def shf (a : Nat → Int) (m : Nat) : Nat → Int := fun j => if j < m then a (j + 1) else a j
theorem shf_s (a : Nat → Int) (k : Nat) : au (shf a k) k (a (k + 1)) = shf a (k + 1) := by
  funext j
  unfold au shf
  by_cases q : j = k
  · subst q; simp
  · by_cases q2 : j < k
    · simp [q, q2, Nat.lt_succ_of_lt q2]
    · have : ¬ j < k + 1 := by omega
      simp [q, q2, this]
def nst (σ : cs_S) (v : Int) : Nat → Int := if σ 10 19 = 600 then au (shf (σ 41) 599) 599 v else au (σ 41) (σ 10 19).toNat v
def nsz (σ : cs_S) : Int := if σ 10 19 = 600 then 600 else σ 10 19 + 1
def stpR (σ : cs_S) (v : Int) : cs_S := fun q => if q = 41 then nst σ v else if q = 10 then au (σ 10) 19 (nsz σ) else if q = 39 then tg (σ 39) v.toNat else σ q
theorem doStep_tail {σ τ : cs_S} {v : Int} {o : Option Int} (hs : 0 ≤ τ 10 19 ∧ τ 10 19 < 600) (hv : 0 ≤ v ∧ v < 512) (h39 : τ 39 = σ 39) : s_seq (s_ast 41 600 (x_f 10 19) (x_l 1)) (s_seq (s_put 10 19 (x_add (x_f 10 19) (x_k 1))) (s_seq (s_zst 39 512 (x_l 1) (x_ite (y_not (y_ne (x_a 39 512 (x_l 1)) (x_k 0))) (x_k 1) (x_k 0))) s_retv)) [none, some v, o] τ = some (.inr (.inl (none, fun q => if q = 41 then au (τ 41) (τ 10 19).toNat v else if q = 10 then au (τ 10) 19 (τ 10 19 + 1) else if q = 39 then tg (σ 39) v.toNat else τ q))) := by
  have c1 : (0 : Int) ≤ τ 10 19 ∧ τ 10 19 < ((600 : Nat) : Int) := by omega
  have c2 : (0 : Int) ≤ v ∧ v < ((512 : Nat) : Int) := by omega
  have d1 : cs_InR (τ 10 19 + 1) := by omega
  have g1 : (s_ast 41 600 (x_f 10 19) (x_l 1)) [none, some v, o] τ = some (.inl ([none, some v, o], cs_set τ 41 (au (τ 41) (τ 10 19).toNat v))) := by simp only [cs_run, cs_L0, s_ret, s_retz, s_retv, s_seq, s_set, s_inc, s_put, s_ast, s_zst, s_cst, s_ada, s_if, s_ex, s_cv, s_nop, s_brk, x_ite, x_l, x_k, x_f, x_a, x_ro, x_add, x_sub, x_mul, x_div, x_rem, x_neg, x_call, x_max, x_min, x_abs, g_cons, g_nil, y_lt, y_le, y_gt, y_ge, y_eq, y_ne, y_not, y_and, y_or, y_ite, Option.bind_some, Option.bind_none, List.getElem?_cons_zero, List.getElem?_cons_succ, List.getElem?_nil, List.set_cons_zero, List.set_cons_succ, List.cons_append, List.nil_append, List.append_nil, List.replicate, List.length_cons, List.length_nil, Nat.reduceAdd, Nat.reduceSub, Nat.zero_add, Nat.sub_self, if_true, if_false, ite_true, ite_false, reduceIte, reduceCtorEq, decide_true, decide_false, decide_eq_true_eq, Bool.not_true, Bool.not_false, Bool.true_and, Bool.false_and, Bool.and_true, Bool.and_false, Bool.true_or, Bool.false_or, Bool.false_eq_true, Bool.true_eq_false, not_true_eq_false, not_false_eq_true, ne_eq, Int.reduceEq, Int.reduceNe, Int.reduceLT, Int.reduceLE, and_self, and_true, true_and, and_false, false_and, or_true, true_or, or_false, false_or, true_or, Option.map_some, cs_wr_ok c1, cs_up_eq]
  obtain ⟨τ1, e1⟩ : ∃ τ1, τ1 = cs_set τ 41 (au (τ 41) (τ 10 19).toNat v) := ⟨_, rfl⟩
  rw [← e1] at g1
  have k1 : τ1 10 = τ 10 := by rw [e1]; exact cs_set_ne (by decide)
  have k1' : τ1 39 = τ 39 := by rw [e1]; exact cs_set_ne (by decide)
  have g2 : (s_put 10 19 (x_add (x_f 10 19) (x_k 1))) [none, some v, o] τ1 = some (.inl ([none, some v, o], cs_set τ1 10 (au (τ 10) 19 (τ 10 19 + 1)))) := by simp only [cs_run, cs_L0, s_ret, s_retz, s_retv, s_seq, s_set, s_inc, s_put, s_ast, s_zst, s_cst, s_ada, s_if, s_ex, s_cv, s_nop, s_brk, x_ite, x_l, x_k, x_f, x_a, x_ro, x_add, x_sub, x_mul, x_div, x_rem, x_neg, x_call, x_max, x_min, x_abs, g_cons, g_nil, y_lt, y_le, y_gt, y_ge, y_eq, y_ne, y_not, y_and, y_or, y_ite, Option.bind_some, Option.bind_none, List.getElem?_cons_zero, List.getElem?_cons_succ, List.getElem?_nil, List.set_cons_zero, List.set_cons_succ, List.cons_append, List.nil_append, List.append_nil, List.replicate, List.length_cons, List.length_nil, Nat.reduceAdd, Nat.reduceSub, Nat.zero_add, Nat.sub_self, if_true, if_false, ite_true, ite_false, reduceIte, reduceCtorEq, decide_true, decide_false, decide_eq_true_eq, Bool.not_true, Bool.not_false, Bool.true_and, Bool.false_and, Bool.and_true, Bool.and_false, Bool.true_or, Bool.false_or, Bool.false_eq_true, Bool.true_eq_false, not_true_eq_false, not_false_eq_true, ne_eq, Int.reduceEq, Int.reduceNe, Int.reduceLT, Int.reduceLE, and_self, and_true, true_and, and_false, false_and, or_true, true_or, or_false, false_or, true_or, Option.map_some, k1, cs_chk_ok d1, cs_up_eq]
  obtain ⟨τ2, e2⟩ : ∃ τ2, τ2 = cs_set τ1 10 (au (τ 10) 19 (τ 10 19 + 1)) := ⟨_, rfl⟩
  rw [← e2] at g2
  have k2 : τ2 39 = σ 39 := by rw [e2, cs_set_ne (by decide), k1', h39]
  have g3 : (s_zst 39 512 (x_l 1) (x_ite (y_not (y_ne (x_a 39 512 (x_l 1)) (x_k 0))) (x_k 1) (x_k 0))) [none, some v, o] τ2 = some (.inl ([none, some v, o], cs_set τ2 39 (tg (σ 39) v.toNat))) := by
    unfold tg
    by_cases q : σ 39 v.toNat = 0
    · simp only [cs_run, cs_L0, s_ret, s_retz, s_retv, s_seq, s_set, s_inc, s_put, s_ast, s_zst, s_cst, s_ada, s_if, s_ex, s_cv, s_nop, s_brk, x_ite, x_l, x_k, x_f, x_a, x_ro, x_add, x_sub, x_mul, x_div, x_rem, x_neg, x_call, x_max, x_min, x_abs, g_cons, g_nil, y_lt, y_le, y_gt, y_ge, y_eq, y_ne, y_not, y_and, y_or, y_ite, Option.bind_some, Option.bind_none, List.getElem?_cons_zero, List.getElem?_cons_succ, List.getElem?_nil, List.set_cons_zero, List.set_cons_succ, List.cons_append, List.nil_append, List.append_nil, List.replicate, List.length_cons, List.length_nil, Nat.reduceAdd, Nat.reduceSub, Nat.zero_add, Nat.sub_self, if_true, if_false, ite_true, ite_false, reduceIte, reduceCtorEq, decide_true, decide_false, decide_eq_true_eq, Bool.not_true, Bool.not_false, Bool.true_and, Bool.false_and, Bool.and_true, Bool.and_false, Bool.true_or, Bool.false_or, Bool.false_eq_true, Bool.true_eq_false, not_true_eq_false, not_false_eq_true, ne_eq, Int.reduceEq, Int.reduceNe, Int.reduceLT, Int.reduceLE, and_self, and_true, true_and, and_false, false_and, or_true, true_or, or_false, false_or, true_or, Option.map_some, cs_rd_ok c2, k2, q, cs_wr_ok c2, cs_up_eq]
    · simp only [cs_run, cs_L0, s_ret, s_retz, s_retv, s_seq, s_set, s_inc, s_put, s_ast, s_zst, s_cst, s_ada, s_if, s_ex, s_cv, s_nop, s_brk, x_ite, x_l, x_k, x_f, x_a, x_ro, x_add, x_sub, x_mul, x_div, x_rem, x_neg, x_call, x_max, x_min, x_abs, g_cons, g_nil, y_lt, y_le, y_gt, y_ge, y_eq, y_ne, y_not, y_and, y_or, y_ite, Option.bind_some, Option.bind_none, List.getElem?_cons_zero, List.getElem?_cons_succ, List.getElem?_nil, List.set_cons_zero, List.set_cons_succ, List.cons_append, List.nil_append, List.append_nil, List.replicate, List.length_cons, List.length_nil, Nat.reduceAdd, Nat.reduceSub, Nat.zero_add, Nat.sub_self, if_true, if_false, ite_true, ite_false, reduceIte, reduceCtorEq, decide_true, decide_false, decide_eq_true_eq, Bool.not_true, Bool.not_false, Bool.true_and, Bool.false_and, Bool.and_true, Bool.and_false, Bool.true_or, Bool.false_or, Bool.false_eq_true, Bool.true_eq_false, not_true_eq_false, not_false_eq_true, ne_eq, Int.reduceEq, Int.reduceNe, Int.reduceLT, Int.reduceLE, and_self, and_true, true_and, and_false, false_and, or_true, true_or, or_false, false_or, true_or, Option.map_some, cs_rd_ok c2, k2, q, cs_wr_ok c2, cs_up_eq]
  rw [sq_st g1, sq_st g2, sq_st g3]
  simp only [s_retv]
  congr 4
  rw [e2, e1]
  funext q
  unfold cs_set
  by_cases q39 : q = 39
  · subst q39; simp
  · by_cases q10 : q = 10
    · subst q10; simp
    · simp only [q39, q10, if_false]
theorem f_doStep {σ : cs_S} {v : Int} (hs : 0 ≤ σ 10 19 ∧ σ 10 19 ≤ 600) (hv : 0 ≤ v ∧ v < 512) : f_X10_doStep [v] σ = some (none, stpR σ v) := by
  unfold f_X10_doStep b_X10_doStep cs_run
  simp only [cs_L0, Option.bind_some, Option.bind_none, List.getElem?_cons_zero, List.getElem?_cons_succ, List.getElem?_nil, List.set_cons_zero, List.set_cons_succ, List.cons_append, List.nil_append, List.append_nil, List.replicate, List.length_cons, List.length_nil, Nat.reduceAdd, Nat.reduceSub, Nat.zero_add, Nat.sub_self, if_true, if_false, ite_true, ite_false, reduceIte, reduceCtorEq, decide_true, decide_false, decide_eq_true_eq, Bool.not_true, Bool.not_false, Bool.true_and, Bool.false_and, Bool.and_true, Bool.and_false, Bool.true_or, Bool.false_or, Bool.false_eq_true, Bool.true_eq_false, not_true_eq_false, not_false_eq_true, ne_eq, Int.reduceEq, Int.reduceNe, Int.reduceLT, Int.reduceLE, and_self, and_true, true_and, and_false, false_and, or_true, true_or, or_false, false_or, true_or, Option.map_some]
  by_cases q : σ 10 19 = 600
  · have d1 : cs_InR (599 : Int) := by omega
    have e0 : (600 : Int) - 1 = 599 := by omega
    have g1 : (s_put 10 19 (x_sub (x_f 10 19) (x_k 1))) [none, some v, none] σ = some (.inl ([none, some v, none], cs_set σ 10 (au (σ 10) 19 599))) := by simp only [cs_run, cs_L0, s_ret, s_retz, s_retv, s_seq, s_set, s_inc, s_put, s_ast, s_zst, s_cst, s_ada, s_if, s_ex, s_cv, s_nop, s_brk, x_ite, x_l, x_k, x_f, x_a, x_ro, x_add, x_sub, x_mul, x_div, x_rem, x_neg, x_call, x_max, x_min, x_abs, g_cons, g_nil, y_lt, y_le, y_gt, y_ge, y_eq, y_ne, y_not, y_and, y_or, y_ite, Option.bind_some, Option.bind_none, List.getElem?_cons_zero, List.getElem?_cons_succ, List.getElem?_nil, List.set_cons_zero, List.set_cons_succ, List.cons_append, List.nil_append, List.append_nil, List.replicate, List.length_cons, List.length_nil, Nat.reduceAdd, Nat.reduceSub, Nat.zero_add, Nat.sub_self, if_true, if_false, ite_true, ite_false, reduceIte, reduceCtorEq, decide_true, decide_false, decide_eq_true_eq, Bool.not_true, Bool.not_false, Bool.true_and, Bool.false_and, Bool.and_true, Bool.and_false, Bool.true_or, Bool.false_or, Bool.false_eq_true, Bool.true_eq_false, not_true_eq_false, not_false_eq_true, ne_eq, Int.reduceEq, Int.reduceNe, Int.reduceLT, Int.reduceLE, and_self, and_true, true_and, and_false, false_and, or_true, true_or, or_false, false_or, true_or, Option.map_some, q, cs_chk_ok d1, cs_up_eq, e0]
    obtain ⟨τ1, e1⟩ : ∃ τ1, τ1 = cs_set σ 10 (au (σ 10) 19 599) := ⟨_, rfl⟩
    rw [← e1] at g1
    have k1 : τ1 10 19 = 599 := by rw [e1, cs_set_at, au_at]
    have k41 : τ1 41 = σ 41 := by rw [e1, cs_set_ne (by decide)]
    have g2 : (s_set 2 (x_k 0)) [none, some v, none] τ1 = some (.inl ([none, some v, some 0], τ1)) := by simp only [cs_run, cs_L0, s_ret, s_retz, s_retv, s_seq, s_set, s_inc, s_put, s_ast, s_zst, s_cst, s_ada, s_if, s_ex, s_cv, s_nop, s_brk, x_ite, x_l, x_k, x_f, x_a, x_ro, x_add, x_sub, x_mul, x_div, x_rem, x_neg, x_call, x_max, x_min, x_abs, g_cons, g_nil, y_lt, y_le, y_gt, y_ge, y_eq, y_ne, y_not, y_and, y_or, y_ite, Option.bind_some, Option.bind_none, List.getElem?_cons_zero, List.getElem?_cons_succ, List.getElem?_nil, List.set_cons_zero, List.set_cons_succ, List.cons_append, List.nil_append, List.append_nil, List.replicate, List.length_cons, List.length_nil, Nat.reduceAdd, Nat.reduceSub, Nat.zero_add, Nat.sub_self, if_true, if_false, ite_true, ite_false, reduceIte, reduceCtorEq, decide_true, decide_false, decide_eq_true_eq, Bool.not_true, Bool.not_false, Bool.true_and, Bool.false_and, Bool.and_true, Bool.and_false, Bool.true_or, Bool.false_or, Bool.false_eq_true, Bool.true_eq_false, not_true_eq_false, not_false_eq_true, ne_eq, Int.reduceEq, Int.reduceNe, Int.reduceLT, Int.reduceLE, and_self, and_true, true_and, and_false, false_and, or_true, true_or, or_false, false_or, true_or, Option.map_some]
    have hw := wh_up (c := wc_X10_doStep_1) (b := wb_X10_doStep_1) (fun k L τ => 0 ≤ k ∧ L = [none, some v, some k] ∧ τ = cs_set τ1 41 (shf (σ 41) k.toNat)) (fun _ => False) 599
      (fun k L τ hk hQ => by
        obtain ⟨h0, rfl, rfl⟩ := hQ
        have : cs_set τ1 41 (shf (σ 41) k.toNat) 10 19 = 599 := by rw [cs_set_ne (by decide), k1]
        simp only [wc_X10_doStep_1, cs_run, cs_L0, s_ret, s_retz, s_retv, s_seq, s_set, s_inc, s_put, s_ast, s_zst, s_cst, s_ada, s_if, s_ex, s_cv, s_nop, s_brk, x_ite, x_l, x_k, x_f, x_a, x_ro, x_add, x_sub, x_mul, x_div, x_rem, x_neg, x_call, x_max, x_min, x_abs, g_cons, g_nil, y_lt, y_le, y_gt, y_ge, y_eq, y_ne, y_not, y_and, y_or, y_ite, Option.bind_some, Option.bind_none, List.getElem?_cons_zero, List.getElem?_cons_succ, List.getElem?_nil, List.set_cons_zero, List.set_cons_succ, List.cons_append, List.nil_append, List.append_nil, List.replicate, List.length_cons, List.length_nil, Nat.reduceAdd, Nat.reduceSub, Nat.zero_add, Nat.sub_self, if_true, if_false, ite_true, ite_false, reduceIte, reduceCtorEq, decide_true, decide_false, decide_eq_true_eq, Bool.not_true, Bool.not_false, Bool.true_and, Bool.false_and, Bool.and_true, Bool.and_false, Bool.true_or, Bool.false_or, Bool.false_eq_true, Bool.true_eq_false, not_true_eq_false, not_false_eq_true, ne_eq, Int.reduceEq, Int.reduceNe, Int.reduceLT, Int.reduceLE, and_self, and_true, true_and, and_false, false_and, or_true, true_or, or_false, false_or, true_or, Option.map_some, this])
      (fun k L τ hk hQ => by
        obtain ⟨h0, rfl, rfl⟩ := hQ
        have c1 : (0 : Int) ≤ k ∧ k < ((600 : Nat) : Int) := by omega
        have c2 : (0 : Int) ≤ k + 1 ∧ k + 1 < ((600 : Nat) : Int) := by omega
        have d2 : cs_InR (k + 1) := by omega
        have v1 : cs_set τ1 41 (shf (σ 41) k.toNat) 41 (k + 1).toNat = σ 41 (k.toNat + 1) := by
          rw [cs_set_at, show (k + 1).toNat = k.toNat + 1 by omega]
          unfold shf
          rw [if_neg (by omega)]
        refine Or.inl ⟨[none, some v, some (k + 1)], cs_set τ1 41 (shf (σ 41) (k + 1).toNat), ?_, by omega, rfl, rfl⟩
        simp only [wb_X10_doStep_1, cs_run, cs_L0, s_ret, s_retz, s_retv, s_seq, s_set, s_inc, s_put, s_ast, s_zst, s_cst, s_ada, s_if, s_ex, s_cv, s_nop, s_brk, x_ite, x_l, x_k, x_f, x_a, x_ro, x_add, x_sub, x_mul, x_div, x_rem, x_neg, x_call, x_max, x_min, x_abs, g_cons, g_nil, y_lt, y_le, y_gt, y_ge, y_eq, y_ne, y_not, y_and, y_or, y_ite, Option.bind_some, Option.bind_none, List.getElem?_cons_zero, List.getElem?_cons_succ, List.getElem?_nil, List.set_cons_zero, List.set_cons_succ, List.cons_append, List.nil_append, List.append_nil, List.replicate, List.length_cons, List.length_nil, Nat.reduceAdd, Nat.reduceSub, Nat.zero_add, Nat.sub_self, if_true, if_false, ite_true, ite_false, reduceIte, reduceCtorEq, decide_true, decide_false, decide_eq_true_eq, Bool.not_true, Bool.not_false, Bool.true_and, Bool.false_and, Bool.and_true, Bool.and_false, Bool.true_or, Bool.false_or, Bool.false_eq_true, Bool.true_eq_false, not_true_eq_false, not_false_eq_true, ne_eq, Int.reduceEq, Int.reduceNe, Int.reduceLT, Int.reduceLE, and_self, and_true, true_and, and_false, false_and, or_true, true_or, or_false, false_or, true_or, Option.map_some, cs_chk_ok d2, cs_rd_ok c2, cs_wr_ok c1, v1, cs_up_eq]
        rw [cs_set_at, cs_set_set, shf_s, show (k + 1).toNat = k.toNat + 1 by omega])
      599 0 [none, some v, some 0] τ1 (by decide) ⟨by omega, rfl, by
        have : shf (σ 41) (0 : Int).toNat = τ1 41 := by rw [k41]; funext j; simp [shf]
        rw [this, cs_set_self]⟩
    rcases hw with ⟨L', τ2, e, -, rfl, hτ⟩ | ⟨r, -, hx⟩
    · have k2 : τ2 10 = au (σ 10) 19 599 := by rw [hτ, cs_set_ne (by decide), e1, cs_set_at]
      have k2' : τ2 39 = σ 39 := by rw [hτ, cs_set_ne (by decide), e1, cs_set_ne (by decide)]
      have k3 : τ2 41 = shf (σ 41) 599 := by rw [hτ, cs_set_at]; rfl
      have hg : (s_if (y_eq (x_f 10 19) (x_k 600)) (s_seq (s_put 10 19 (x_sub (x_f 10 19) (x_k 1))) (s_seq (s_set 2 (x_k 0)) w_X10_doStep_1)) s_nop) [none, some v, none] σ = some (.inl ([none, some v, some 599], τ2)) := by
        have hc : (y_eq (x_f 10 19) (x_k 600)) [none, some v, none] σ = some (true, σ) := by simp only [cs_run, cs_L0, s_ret, s_retz, s_retv, s_seq, s_set, s_inc, s_put, s_ast, s_zst, s_cst, s_ada, s_if, s_ex, s_cv, s_nop, s_brk, x_ite, x_l, x_k, x_f, x_a, x_ro, x_add, x_sub, x_mul, x_div, x_rem, x_neg, x_call, x_max, x_min, x_abs, g_cons, g_nil, y_lt, y_le, y_gt, y_ge, y_eq, y_ne, y_not, y_and, y_or, y_ite, Option.bind_some, Option.bind_none, List.getElem?_cons_zero, List.getElem?_cons_succ, List.getElem?_nil, List.set_cons_zero, List.set_cons_succ, List.cons_append, List.nil_append, List.append_nil, List.replicate, List.length_cons, List.length_nil, Nat.reduceAdd, Nat.reduceSub, Nat.zero_add, Nat.sub_self, if_true, if_false, ite_true, ite_false, reduceIte, reduceCtorEq, decide_true, decide_false, decide_eq_true_eq, Bool.not_true, Bool.not_false, Bool.true_and, Bool.false_and, Bool.and_true, Bool.and_false, Bool.true_or, Bool.false_or, Bool.false_eq_true, Bool.true_eq_false, not_true_eq_false, not_false_eq_true, ne_eq, Int.reduceEq, Int.reduceNe, Int.reduceLT, Int.reduceLE, and_self, and_true, true_and, and_false, false_and, or_true, true_or, or_false, false_or, true_or, Option.map_some, q]
        rw [sif hc, if_pos rfl, sq_st g1, sq_st g2, w_X10_doStep_1, e]
      rw [sq_st hg, doStep_tail (σ := σ) (by rw [k2, au_at]; omega) hv k2']
      simp only
      congr 2
      funext p
      unfold stpR nst nsz
      rw [k2, k3, au_at, if_pos q, if_pos q, au_au]
      by_cases p41 : p = 41
      · subst p41; simp
      · by_cases p10 : p = 10
        · subst p10; simp
        · by_cases p39 : p = 39
          · subst p39; simp
          · simp only [p41, p10, p39, if_false]
            rw [hτ, cs_set_ne p41, e1, cs_set_ne p10]
    · exact hx.elim
  · have hg : (s_if (y_eq (x_f 10 19) (x_k 600)) (s_seq (s_put 10 19 (x_sub (x_f 10 19) (x_k 1))) (s_seq (s_set 2 (x_k 0)) w_X10_doStep_1)) s_nop) [none, some v, none] σ = some (.inl ([none, some v, none], σ)) := by
      have hc : (y_eq (x_f 10 19) (x_k 600)) [none, some v, none] σ = some (false, σ) := by simp only [cs_run, cs_L0, s_ret, s_retz, s_retv, s_seq, s_set, s_inc, s_put, s_ast, s_zst, s_cst, s_ada, s_if, s_ex, s_cv, s_nop, s_brk, x_ite, x_l, x_k, x_f, x_a, x_ro, x_add, x_sub, x_mul, x_div, x_rem, x_neg, x_call, x_max, x_min, x_abs, g_cons, g_nil, y_lt, y_le, y_gt, y_ge, y_eq, y_ne, y_not, y_and, y_or, y_ite, Option.bind_some, Option.bind_none, List.getElem?_cons_zero, List.getElem?_cons_succ, List.getElem?_nil, List.set_cons_zero, List.set_cons_succ, List.cons_append, List.nil_append, List.append_nil, List.replicate, List.length_cons, List.length_nil, Nat.reduceAdd, Nat.reduceSub, Nat.zero_add, Nat.sub_self, if_true, if_false, ite_true, ite_false, reduceIte, reduceCtorEq, decide_true, decide_false, decide_eq_true_eq, Bool.not_true, Bool.not_false, Bool.true_and, Bool.false_and, Bool.and_true, Bool.and_false, Bool.true_or, Bool.false_or, Bool.false_eq_true, Bool.true_eq_false, not_true_eq_false, not_false_eq_true, ne_eq, Int.reduceEq, Int.reduceNe, Int.reduceLT, Int.reduceLE, and_self, and_true, true_and, and_false, false_and, or_true, true_or, or_false, false_or, true_or, Option.map_some, q]
      rw [sif hc, if_neg (by decide), nop_inl]
    rw [sq_st hg, doStep_tail (σ := σ) (by omega) hv rfl]
    simp only
    congr 2
    funext p
    unfold stpR nst nsz
    rw [if_neg q, if_neg q]
