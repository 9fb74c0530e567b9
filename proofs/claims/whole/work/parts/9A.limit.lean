/-! limitFor: a trial, and all is as it was -/
def CoJ (σ : cs_S) : Prop := CSo σ ∧ CPr σ ∧ RR σ ∧ Pos1 σ
theorem SimJ_Co {σ : cs_S} (h : SimJ σ) : CoJ σ := ⟨h.1, h.2.1, h.2.2.1, SimJ_P h⟩
def tjC (σ : cs_S) (i v : Int) : cs_S := cs_set (turnC σ v) 26 (au (σ 26) i.toNat v)
def tjR (σ : cs_S) (v : Int) : cs_S := cs_set σ 39 (au (σ 39) v.toNat 0)
def tjJ (σ : cs_S) (i v : Int) : cs_S := mx cA (tjC σ i v) (tjR σ v)
theorem tjC_mx (σ : cs_S) (i v : Int) : tjC σ i v = mx cA (tjJ σ i v) σ := by
  unfold tjJ
  rw [mx_mx]
  funext q
  cases hq : cA q
  · rw [mx_off hq]
    have ne : ∀ p, cA p = true → q ≠ p := fun p hp e => by subst e; rw [hq] at hp; exact absurd hp (by decide)
    unfold tjC
    rw [cs_set_ne (ne 26 rfl), turnC_o ⟨ne 23 rfl, ne 4 rfl, ne 16 rfl, ne 24 rfl⟩]
  · rw [mx_at hq]
theorem tjR_mx (σ : cs_S) (i v : Int) : tjR σ v = mx rA (tjJ σ i v) σ := by
  unfold tjJ
  rw [mx_cr]
  funext q
  cases hq : cA q
  · rw [mx_off hq, mx_off hq]
  · rw [mx_at hq]
    have ne : ∀ p, cA p = false → q ≠ p := fun p hp e => by subst e; rw [hq] at hp; exact absurd hp (by decide)
    unfold tjR
    rw [cs_set_ne (ne 39 rfl)]
theorem tj_vals (σ : cs_S) (i v : Int) : (tjJ σ i v 4 = turnC σ v 4 ∧ tjJ σ i v 16 = turnC σ v 16 ∧ tjJ σ i v 24 = turnC σ v 24 ∧ tjJ σ i v 23 = tg (σ 23) v.toNat ∧ tjJ σ i v 26 = au (σ 26) i.toNat v ∧ tjJ σ i v 39 = au (σ 39) v.toNat 0) ∧ ∀ q, q ≠ 4 → q ≠ 16 → q ≠ 24 → q ≠ 23 → q ≠ 26 → q ≠ 39 → tjJ σ i v q = σ q := by
  unfold tjJ
  refine ⟨⟨?_, ?_, ?_, ?_, ?_, ?_⟩, ?_⟩
  · rw [mx_at rfl]; unfold tjC; rw [cs_set_ne (by decide)]
  · rw [mx_at rfl]; unfold tjC; rw [cs_set_ne (by decide)]
  · rw [mx_at rfl]; unfold tjC; rw [cs_set_ne (by decide)]
  · rw [mx_at rfl]; unfold tjC; rw [cs_set_ne (by decide)]; exact (turnC_v σ v).1
  · rw [mx_at rfl]; unfold tjC; rw [cs_set_at]
  · rw [mx_off rfl]; unfold tjR; rw [cs_set_at]
  · intro q n1 n2 n3 n4 n5 n6
    cases hq : cA q
    · rw [mx_off hq]; unfold tjR; rw [cs_set_ne n6]
    · rw [mx_at hq]; unfold tjC; rw [cs_set_ne n5, turnC_o ⟨n4, n1, n2, n3⟩]
/-- the state in a trial: i vertices are tried, a0 was the presence before -/
def LI (S : cs_S) (ρ : cs_S) (i : Int) : Prop := CoJ ρ ∧ (∀ q, q ≠ 4 → q ≠ 16 → q ≠ 24 → q ≠ 23 → q ≠ 26 → q ≠ 39 → ρ q = S q) ∧ (∀ k, k ≠ 3 → ρ 4 k = S 4 k) ∧ (∀ j : Nat, (j : Int) < i → (0 ≤ ρ 26 j ∧ ρ 26 j < S 4 2) ∧ S 23 (ρ 26 j).toNat = 1 ∧ ρ 23 (ρ 26 j).toNat = 0) ∧ (∀ j k : Nat, j < k → (k : Int) < i → ρ 26 j ≠ ρ 26 k) ∧ ∀ u : Nat, (∀ j : Nat, (j : Int) < i → (ρ 26 j).toNat ≠ u) → ρ 23 u = S 23 u
theorem nv_co {ρ : cs_S} (hJ : CoJ ρ) (hn : nvS ρ ≠ -1) : (0 ≤ nvS ρ ∧ nvS ρ < ρ 4 2) ∧ Pr ρ (nvS ρ) = true ∧ 4 ≤ ρ 16 (ρ 20 (nvS ρ).toNat).toNat ∧ 0 < ρ 4 3 := by
  obtain ⟨h, h2, hR, hP⟩ := hJ
  rcases nvS_J h h2 hR hP with q | ⟨q1, q2, q3⟩
  · exact absurd q hn
  · exact ⟨q1, q2, q3, pr_pos h2 q1 q2⟩
theorem LI_step {S ρ : cs_S} {i : Int} (hL : LI S ρ i) (h0 : 0 ≤ i) (hn : nvS ρ ≠ -1) : LI S (tjJ ρ i (nvS ρ)) (i + 1) ∧ (tjJ ρ i (nvS ρ)) 4 3 = ρ 4 3 - 1 := by
  obtain ⟨hJ, hk, hk4, ht, hd, hu⟩ := hL
  obtain ⟨v1, v2, v3, v4⟩ := nv_co hJ hn
  obtain ⟨h, h2, hR, hP⟩ := hJ
  obtain ⟨⟨t4, t16, t24, t23, t26, t39⟩, to⟩ := tj_vals ρ i (nvS ρ)
  generalize nvS ρ = v at *
  have hp : ρ 23 v.toNat ≠ 0 := by simpa [Pr] using v2
  have hp1 : ρ 23 v.toNat = 1 := by
    rcases h2.1 v.toNat (by omega) with q | q
    · exact absurd q hp
    · exact q
  have tg0 : tg (ρ 23) v.toNat = au (ρ 23) v.toNat 0 := by unfold tg; rw [if_pos hp]
  have hok := ok_rem h h2 hP v1 v3
  have hnt : ∀ j : Nat, (j : Int) < i → (ρ 26 j).toNat ≠ v.toNat := by
    intro j hj e
    have := (ht j hj).2.2
    rw [e] at this
    exact hp this
  have hS42 : ρ 4 2 = S 4 2 := hk4 2 (by decide)
  generalize tjJ ρ i v = ρ' at *
  have a1 : ρ' 4 1 = ρ 4 1 := by rw [t4, (turnC_12 ρ v).1]
  have a2 : ρ' 4 2 = ρ 4 2 := by rw [t4, (turnC_12 ρ v).2]
  have o10 := to 10 (by decide) (by decide) (by decide) (by decide) (by decide) (by decide)
  have o15 := to 15 (by decide) (by decide) (by decide) (by decide) (by decide) (by decide)
  have o20 := to 20 (by decide) (by decide) (by decide) (by decide) (by decide) (by decide)
  have o21 := to 21 (by decide) (by decide) (by decide) (by decide) (by decide) (by decide)
  have o22 := to 22 (by decide) (by decide) (by decide) (by decide) (by decide) (by decide)
  refine ⟨⟨⟨(CSo_cg a1 a2 o15 o20 o21 o22).mpr h, ?_, ?_, ?_⟩, ?_, ?_, ?_, ?_, ?_⟩, ?_⟩
  · exact CPr_cg (σ := turnC ρ v) t4 t16 (o20.trans (turnC_o (by decide)).symm) (o21.trans (turnC_o (by decide)).symm) (o22.trans (turnC_o (by decide)).symm) (t23.trans (turnC_v ρ v).1.symm) t24 (turnC_CPr h h2 v1)
  · refine RR_cg (σ := ρ) a1 a2 (by rw [o10]) (by rw [o10]) o15 o21 o22 (to 32 (by decide) (by decide) (by decide) (by decide) (by decide) (by decide)) (to 33 (by decide) (by decide) (by decide) (by decide) (by decide) (by decide)) (to 37 (by decide) (by decide) (by decide) (by decide) (by decide) (by decide)) (to 38 (by decide) (by decide) (by decide) (by decide) (by decide) (by decide)) hR (fun u hu => ?_)
    rw [t39, t23, tg0]
    unfold au
    split
    · rfl
    · exact (hR.2.1.2 u hu).2.2
  · rw [Pos1_ok, o15, a1, t23]; exact hok
  · intro q n1 n2 n3 n4 n5 n6
    rw [to q n1 n2 n3 n4 n5 n6, hk q n1 n2 n3 n4 n5 n6]
  · intro k hk3
    rw [t4, (turnC_v ρ v).2.1, au_ne hk3, hk4 k hk3]
  · intro j hj
    rw [t26, t23, tg0]
    by_cases q : (j : Int) = i
    · have : j = i.toNat := by omega
      rw [this, au_at, au_at]
      refine ⟨by omega, ?_, rfl⟩
      rw [← hu v.toNat (fun j hj => hnt j hj)]
      exact hp1
    · rw [au_ne (by omega)]
      obtain ⟨b1, b2, b3⟩ := ht j (by omega)
      refine ⟨b1, b2, ?_⟩
      unfold au
      split
      · rfl
      · exact b3
  · intro j k hjk hk'
    rw [t26]
    have hjn : j ≠ i.toNat := by omega
    rw [au_ne hjn]
    by_cases q : (k : Int) = i
    · have : k = i.toNat := by omega
      rw [this, au_at]
      intro e
      exact hnt j (by omega) (by rw [e])
    · rw [au_ne (by omega)]
      exact hd j k hjk (by omega)
  · intro u hu'
    rw [t23, tg0]
    have q : u ≠ v.toNat := by
      have := hu' i.toNat (by omega)
      rw [t26, au_at] at this
      exact fun e => this e.symm
    rw [au_ne q]
    refine hu u (fun j hj => ?_)
    have := hu' j (by omega)
    rw [t26, au_ne (by omega)] at this
    exact this
  · rw [t4, (turnC_v ρ v).2.1, au_at, if_pos hp]
    omega
noncomputable def lmt (tot : Int) : Nat → Int → Int → cs_S → Int × Int × cs_S
  | 0, i, lim, ρ => (lim, i, ρ)
  | m + 1, i, lim, ρ => if tot < ρ 4 3 ∧ nvS ρ ≠ -1 then lmt tot m (i + 1) (max lim (szV ρ (nvS ρ))) (tjJ ρ i (nvS ρ)) else (lim, i, ρ)
theorem lmt_J {S : cs_S} {tot : Int} (ht : 0 ≤ tot) : ∀ (m : Nat) (i lim : Int) (ρ : cs_S), LI S ρ i → 0 ≤ i → ρ 4 3 ≤ m → i + ρ 4 3 ≤ 442 → 0 ≤ lim → LI S (lmt tot m i lim ρ).2.2 (lmt tot m i lim ρ).2.1 ∧ (0 ≤ (lmt tot m i lim ρ).2.1 ∧ (lmt tot m i lim ρ).2.1 ≤ 442) ∧ 0 ≤ (lmt tot m i lim ρ).1
  | 0, i, lim, ρ, hL, h0, _, h442, hl => by
    have := (cnt_b hL.1.1 hL.1.2.1).1
    exact ⟨hL, ⟨h0, by unfold lmt; dsimp only; omega⟩, hl⟩
  | m + 1, i, lim, ρ, hL, h0, hm, h442, hl => by
    have hc := (cnt_b hL.1.1 hL.1.2.1).1
    unfold lmt
    by_cases q : tot < ρ 4 3 ∧ nvS ρ ≠ -1
    · rw [if_pos q]
      obtain ⟨s1, s2⟩ := LI_step hL h0 q.2
      exact lmt_J ht m (i + 1) _ _ s1 (by omega) (by omega) (by omega) (by omega)
    · rw [if_neg q]
      exact ⟨hL, ⟨h0, by dsimp only; omega⟩, hl⟩
theorem ll_run {S : cs_S} {tot : Int} (ht : 0 ≤ tot) : ∀ (m : Nat) (i lim : Int) (ρ : cs_S) (o5 : Option Int), LI S ρ i → 0 ≤ i → ρ 4 3 ≤ m → i + ρ 4 3 ≤ 442 → 0 ≤ lim → ∃ o', w_X5_leastLimit_1 [none, some tot, some lim, some i, some i, o5] ρ = some (.inl ([none, some tot, some (if tot < (lmt tot m i lim ρ).2.2 4 3 then -1 else (lmt tot m i lim ρ).1), some (lmt tot m i lim ρ).2.1, some (lmt tot m i lim ρ).2.1, o'], mx cA (lmt tot m i lim ρ).2.2 ρ)) := by
  intro m
  induction m with
  | zero =>
    intro i lim ρ o5 hL h0 hm h442 hl
    have q : ¬ tot < ρ 4 3 := by omega
    have hcn : wc_X5_leastLimit_1 [none, some tot, some lim, some i, some i, o5] ρ = some (false, ρ) := by
      by_cases z : i < 442
      · simp only [wc_X5_leastLimit_1, cs_run, cs_L0, s_ret, s_retz, s_retv, s_seq, s_set, s_inc, s_put, s_ast, s_zst, s_cst, s_ada, s_if, s_ex, s_cv, s_nop, s_brk, x_ite, x_l, x_k, x_f, x_a, x_ro, x_add, x_sub, x_mul, x_div, x_rem, x_neg, x_call, x_max, x_min, x_abs, g_cons, g_nil, y_lt, y_le, y_gt, y_ge, y_eq, y_ne, y_not, y_and, y_or, y_ite, Option.bind_some, Option.bind_none, List.getElem?_cons_zero, List.getElem?_cons_succ, List.getElem?_nil, List.set_cons_zero, List.set_cons_succ, List.cons_append, List.nil_append, List.append_nil, List.replicate, List.length_cons, List.length_nil, Nat.reduceAdd, Nat.reduceSub, Nat.zero_add, Nat.sub_self, if_true, if_false, ite_true, ite_false, reduceIte, reduceCtorEq, decide_true, decide_false, decide_eq_true_eq, Bool.not_true, Bool.not_false, Bool.true_and, Bool.false_and, Bool.and_true, Bool.and_false, Bool.true_or, Bool.false_or, Bool.false_eq_true, Bool.true_eq_false, not_true_eq_false, not_false_eq_true, ne_eq, Int.reduceEq, Int.reduceNe, Int.reduceLT, Int.reduceLE, and_self, and_true, true_and, and_false, false_and, or_true, true_or, or_false, false_or, true_or, Option.map_some, z, q]
      · simp only [wc_X5_leastLimit_1, cs_run, cs_L0, s_ret, s_retz, s_retv, s_seq, s_set, s_inc, s_put, s_ast, s_zst, s_cst, s_ada, s_if, s_ex, s_cv, s_nop, s_brk, x_ite, x_l, x_k, x_f, x_a, x_ro, x_add, x_sub, x_mul, x_div, x_rem, x_neg, x_call, x_max, x_min, x_abs, g_cons, g_nil, y_lt, y_le, y_gt, y_ge, y_eq, y_ne, y_not, y_and, y_or, y_ite, Option.bind_some, Option.bind_none, List.getElem?_cons_zero, List.getElem?_cons_succ, List.getElem?_nil, List.set_cons_zero, List.set_cons_succ, List.cons_append, List.nil_append, List.append_nil, List.replicate, List.length_cons, List.length_nil, Nat.reduceAdd, Nat.reduceSub, Nat.zero_add, Nat.sub_self, if_true, if_false, ite_true, ite_false, reduceIte, reduceCtorEq, decide_true, decide_false, decide_eq_true_eq, Bool.not_true, Bool.not_false, Bool.true_and, Bool.false_and, Bool.and_true, Bool.and_false, Bool.true_or, Bool.false_or, Bool.false_eq_true, Bool.true_eq_false, not_true_eq_false, not_false_eq_true, ne_eq, Int.reduceEq, Int.reduceNe, Int.reduceLT, Int.reduceLE, and_self, and_true, true_and, and_false, false_and, or_true, true_or, or_false, false_or, true_or, Option.map_some, z]
    refine ⟨o5, ?_⟩
    have e : lmt tot 0 i lim ρ = (lim, i, ρ) := rfl
    rw [e, w_X5_leastLimit_1, wh_no hcn]
    simp only [mx_same, if_neg q]
  | succ m ih =>
    intro i lim ρ o5 hL h0 hm h442 hl
    obtain ⟨h, h2, hR, hP⟩ := hL.1
    by_cases q : tot < ρ 4 3
    · have z : i < 442 := by omega
      have hcn : wc_X5_leastLimit_1 [none, some tot, some lim, some i, some i, o5] ρ = some (true, ρ) := by
        simp only [wc_X5_leastLimit_1, cs_run, cs_L0, s_ret, s_retz, s_retv, s_seq, s_set, s_inc, s_put, s_ast, s_zst, s_cst, s_ada, s_if, s_ex, s_cv, s_nop, s_brk, x_ite, x_l, x_k, x_f, x_a, x_ro, x_add, x_sub, x_mul, x_div, x_rem, x_neg, x_call, x_max, x_min, x_abs, g_cons, g_nil, y_lt, y_le, y_gt, y_ge, y_eq, y_ne, y_not, y_and, y_or, y_ite, Option.bind_some, Option.bind_none, List.getElem?_cons_zero, List.getElem?_cons_succ, List.getElem?_nil, List.set_cons_zero, List.set_cons_succ, List.cons_append, List.nil_append, List.append_nil, List.replicate, List.length_cons, List.length_nil, Nat.reduceAdd, Nat.reduceSub, Nat.zero_add, Nat.sub_self, if_true, if_false, ite_true, ite_false, reduceIte, reduceCtorEq, decide_true, decide_false, decide_eq_true_eq, Bool.not_true, Bool.not_false, Bool.true_and, Bool.false_and, Bool.and_true, Bool.and_false, Bool.true_or, Bool.false_or, Bool.false_eq_true, Bool.true_eq_false, not_true_eq_false, not_false_eq_true, ne_eq, Int.reduceEq, Int.reduceNe, Int.reduceLT, Int.reduceLE, and_self, and_true, true_and, and_false, false_and, or_true, true_or, or_false, false_or, true_or, Option.map_some, z, q]
      have e1 := f_nextV h h2 hR hP
      by_cases hv : nvS ρ = -1
      · rw [hv] at e1
        have hbd : wb_X5_leastLimit_1 [none, some tot, some lim, some i, some i, o5] ρ = some (.inr (.inr ([none, some tot, some (-1), some i, some i, some (-1)], ρ))) := by
          simp only [wb_X5_leastLimit_1, cs_run, cs_L0, s_ret, s_retz, s_retv, s_seq, s_set, s_inc, s_put, s_ast, s_zst, s_cst, s_ada, s_if, s_ex, s_cv, s_nop, s_brk, x_ite, x_l, x_k, x_f, x_a, x_ro, x_add, x_sub, x_mul, x_div, x_rem, x_neg, x_call, x_max, x_min, x_abs, g_cons, g_nil, y_lt, y_le, y_gt, y_ge, y_eq, y_ne, y_not, y_and, y_or, y_ite, Option.bind_some, Option.bind_none, List.getElem?_cons_zero, List.getElem?_cons_succ, List.getElem?_nil, List.set_cons_zero, List.set_cons_succ, List.cons_append, List.nil_append, List.append_nil, List.replicate, List.length_cons, List.length_nil, Nat.reduceAdd, Nat.reduceSub, Nat.zero_add, Nat.sub_self, if_true, if_false, ite_true, ite_false, reduceIte, reduceCtorEq, decide_true, decide_false, decide_eq_true_eq, Bool.not_true, Bool.not_false, Bool.true_and, Bool.false_and, Bool.and_true, Bool.and_false, Bool.true_or, Bool.false_or, Bool.false_eq_true, Bool.true_eq_false, not_true_eq_false, not_false_eq_true, ne_eq, Int.reduceEq, Int.reduceNe, Int.reduceLT, Int.reduceLE, and_self, and_true, true_and, and_false, false_and, or_true, true_or, or_false, false_or, true_or, Option.map_some, e1]
        have e : lmt tot (m + 1) i lim ρ = (lim, i, ρ) := by unfold lmt; rw [if_neg (fun t => t.2 hv)]
        refine ⟨some (-1), ?_⟩
        rw [e, w_X5_leastLimit_1, s_wh_eq, hcn]
        simp only [Option.bind_some, if_true, hbd, mx_same, if_pos q]
      · obtain ⟨j1, j2, j3, j4⟩ := nv_co hL.1 hv
        obtain ⟨s1, s2⟩ := LI_step hL h0 hv
        have e2 : f_X5_triangleSize [nvS ρ] ρ = some (some (szV ρ (nvS ρ)), ρ) := f_triC h j1
        have e3 := f_turnJ h h2 j1
        have hsz := szV_b h j1
        have e : lmt tot (m + 1) i lim ρ = lmt tot m (i + 1) (max lim (szV ρ (nvS ρ))) (tjJ ρ i (nvS ρ)) := by
          rw [lmt, if_pos ⟨q, hv⟩]
        rw [e]
        have c1 : (0 : Int) ≤ i ∧ i < ((442 : Nat) : Int) := by omega
        have c2 : cs_InR (i + 1) := by omega
        obtain ⟨o', hi⟩ := ih (i + 1) (max lim (szV ρ (nvS ρ))) (tjJ ρ i (nvS ρ)) (some (nvS ρ)) s1 (by omega) (by omega) (by omega) (by omega)
        have e5 : cs_up (turnC ρ (nvS ρ)) 26 i.toNat (nvS ρ) = mx cA (tjJ ρ i (nvS ρ)) ρ := by
          rw [← tjC_mx, cs_up_eq]
          unfold tjC
          rw [turnC_o (q := 26) (by decide)]
        generalize nvS ρ = v at *
        generalize szV ρ v = z at *
        have hmx : (if lim < z then z else lim) = max lim z := if_mx lim z
        have hbd : wb_X5_leastLimit_1 [none, some tot, some lim, some i, some i, o5] ρ = some (.inl ([none, some tot, some (max lim z), some (i + 1), some (i + 1), some v], mx cA (tjJ ρ i v) ρ)) := by
          simp only [wb_X5_leastLimit_1, cs_run, cs_L0, s_ret, s_retz, s_retv, s_seq, s_set, s_inc, s_put, s_ast, s_zst, s_cst, s_ada, s_if, s_ex, s_cv, s_nop, s_brk, x_ite, x_l, x_k, x_f, x_a, x_ro, x_add, x_sub, x_mul, x_div, x_rem, x_neg, x_call, x_max, x_min, x_abs, g_cons, g_nil, y_lt, y_le, y_gt, y_ge, y_eq, y_ne, y_not, y_and, y_or, y_ite, Option.bind_some, Option.bind_none, List.getElem?_cons_zero, List.getElem?_cons_succ, List.getElem?_nil, List.set_cons_zero, List.set_cons_succ, List.cons_append, List.nil_append, List.append_nil, List.replicate, List.length_cons, List.length_nil, Nat.reduceAdd, Nat.reduceSub, Nat.zero_add, Nat.sub_self, if_true, if_false, ite_true, ite_false, reduceIte, reduceCtorEq, decide_true, decide_false, decide_eq_true_eq, Bool.not_true, Bool.not_false, Bool.true_and, Bool.false_and, Bool.and_true, Bool.and_false, Bool.true_or, Bool.false_or, Bool.false_eq_true, Bool.true_eq_false, not_true_eq_false, not_false_eq_true, ne_eq, Int.reduceEq, Int.reduceNe, Int.reduceLT, Int.reduceLE, and_self, and_true, true_and, and_false, false_and, or_true, true_or, or_false, false_or, true_or, Option.map_some, e1, hv, e2, hmx, e3, cs_wr_ok c1, cs_chk_ok c2, e5]
        refine ⟨o', ?_⟩
        rw [w_X5_leastLimit_1, wh_go hcn hbd, ← w_X5_leastLimit_1, fr_w_X5_leastLimit_1, hi]
        simp only [Option.map_some, frO, mx_mx]
    · have hcn : wc_X5_leastLimit_1 [none, some tot, some lim, some i, some i, o5] ρ = some (false, ρ) := by
        by_cases z : i < 442
        · simp only [wc_X5_leastLimit_1, cs_run, cs_L0, s_ret, s_retz, s_retv, s_seq, s_set, s_inc, s_put, s_ast, s_zst, s_cst, s_ada, s_if, s_ex, s_cv, s_nop, s_brk, x_ite, x_l, x_k, x_f, x_a, x_ro, x_add, x_sub, x_mul, x_div, x_rem, x_neg, x_call, x_max, x_min, x_abs, g_cons, g_nil, y_lt, y_le, y_gt, y_ge, y_eq, y_ne, y_not, y_and, y_or, y_ite, Option.bind_some, Option.bind_none, List.getElem?_cons_zero, List.getElem?_cons_succ, List.getElem?_nil, List.set_cons_zero, List.set_cons_succ, List.cons_append, List.nil_append, List.append_nil, List.replicate, List.length_cons, List.length_nil, Nat.reduceAdd, Nat.reduceSub, Nat.zero_add, Nat.sub_self, if_true, if_false, ite_true, ite_false, reduceIte, reduceCtorEq, decide_true, decide_false, decide_eq_true_eq, Bool.not_true, Bool.not_false, Bool.true_and, Bool.false_and, Bool.and_true, Bool.and_false, Bool.true_or, Bool.false_or, Bool.false_eq_true, Bool.true_eq_false, not_true_eq_false, not_false_eq_true, ne_eq, Int.reduceEq, Int.reduceNe, Int.reduceLT, Int.reduceLE, and_self, and_true, true_and, and_false, false_and, or_true, true_or, or_false, false_or, true_or, Option.map_some, z, q]
        · simp only [wc_X5_leastLimit_1, cs_run, cs_L0, s_ret, s_retz, s_retv, s_seq, s_set, s_inc, s_put, s_ast, s_zst, s_cst, s_ada, s_if, s_ex, s_cv, s_nop, s_brk, x_ite, x_l, x_k, x_f, x_a, x_ro, x_add, x_sub, x_mul, x_div, x_rem, x_neg, x_call, x_max, x_min, x_abs, g_cons, g_nil, y_lt, y_le, y_gt, y_ge, y_eq, y_ne, y_not, y_and, y_or, y_ite, Option.bind_some, Option.bind_none, List.getElem?_cons_zero, List.getElem?_cons_succ, List.getElem?_nil, List.set_cons_zero, List.set_cons_succ, List.cons_append, List.nil_append, List.append_nil, List.replicate, List.length_cons, List.length_nil, Nat.reduceAdd, Nat.reduceSub, Nat.zero_add, Nat.sub_self, if_true, if_false, ite_true, ite_false, reduceIte, reduceCtorEq, decide_true, decide_false, decide_eq_true_eq, Bool.not_true, Bool.not_false, Bool.true_and, Bool.false_and, Bool.and_true, Bool.and_false, Bool.true_or, Bool.false_or, Bool.false_eq_true, Bool.true_eq_false, not_true_eq_false, not_false_eq_true, ne_eq, Int.reduceEq, Int.reduceNe, Int.reduceLT, Int.reduceLE, and_self, and_true, true_and, and_false, false_and, or_true, true_or, or_false, false_or, true_or, Option.map_some, z]
      have e : lmt tot (m + 1) i lim ρ = (lim, i, ρ) := by unfold lmt; rw [if_neg (fun t => q t.1)]
      refine ⟨o5, ?_⟩
      rw [e, w_X5_leastLimit_1, wh_no hcn]
      simp only [mx_same, if_neg q]
/-! all turned back -/
def bk (ρ : cs_S) : Nat → cs_S
  | 0 => ρ
  | j + 1 => turnC (bk ρ j) (ρ 26 j)
theorem bk_o (ρ : cs_S) : ∀ (j q : Nat), q ≠ 23 → q ≠ 4 → q ≠ 16 → q ≠ 24 → bk ρ j q = ρ q
  | 0, _, _, _, _, _ => rfl
  | j + 1, q, n1, n2, n3, n4 => by rw [bk, turnC_o ⟨n1, n2, n3, n4⟩, bk_o ρ j q n1 n2 n3 n4]
theorem bk_4 (ρ : cs_S) : ∀ (j k : Nat), k ≠ 3 → bk ρ j 4 k = ρ 4 k
  | 0, _, _ => rfl
  | j + 1, k, n => by rw [bk, (turnC_v _ _).2.1, au_ne n, bk_4 ρ j k n]
theorem bk_J {S ρ : cs_S} {i : Int} (hL : LI S ρ i) : ∀ j : Nat, (j : Int) ≤ i → CSo (bk ρ j) ∧ CPr (bk ρ j) ∧ (∀ k : Nat, j ≤ k → (k : Int) < i → bk ρ j 23 (ρ 26 k).toNat = 0) ∧ ∀ u : Nat, (∀ k : Nat, j ≤ k → (k : Int) < i → (ρ 26 k).toNat ≠ u) → bk ρ j 23 u = S 23 u := by
  obtain ⟨hJ, hk, hk4, ht, hd, hu⟩ := hL
  intro j
  induction j with
  | zero =>
    intro _
    exact ⟨hJ.1, hJ.2.1, fun k _ hk => (ht k hk).2.2, fun u hx => hu u (fun k hk => hx k (by omega) hk)⟩
  | succ j ih =>
    intro hj
    obtain ⟨i1, i2, i3, i4⟩ := ih (by omega)
    obtain ⟨b1, b2, b3⟩ := ht j (by omega)
    have hvr : 0 ≤ ρ 26 j ∧ ρ 26 j < bk ρ j 4 2 := by rw [bk_4 ρ j 2 (by decide), hk4 2 (by decide)]; exact b1
    have z := i3 j (by omega) (by omega)
    have e23 : bk ρ (j + 1) 23 = au (bk ρ j 23) (ρ 26 j).toNat 1 := by
      rw [bk, (turnC_v _ _).1]
      unfold tg
      rw [z]
      simp
    refine ⟨by rw [bk]; exact turnC_CSo.mpr i1, by rw [bk]; exact turnC_CPr i1 i2 hvr, ?_, ?_⟩
    · intro k h1 h2
      rw [e23]
      have hne : ρ 26 j ≠ ρ 26 k := hd j k (by omega) h2
      have hb2 := (ht k h2).1
      rw [au_ne (by omega)]
      exact i3 k (by omega) h2
    · intro u hx
      rw [e23]
      by_cases q : u = (ρ 26 j).toNat
      · rw [q, au_at, b2]
      · rw [au_ne q]
        refine i4 u (fun k h1 h2 => ?_)
        by_cases e : k = j
        · subst e; exact fun t => q t.symm
        · exact hx k (by omega) h2
theorem f_leastLimit {S ρ σ : cs_S} {tot : Int} (ht : 0 ≤ tot) (hL : LI S ρ 0) : f_X5_leastLimit [tot] (mx cA ρ σ) = some (some (if tot < (lmt tot 442 0 0 ρ).2.2 4 3 then -1 else (lmt tot 442 0 0 ρ).1), mx cA (bk (lmt tot 442 0 0 ρ).2.2 (lmt tot 442 0 0 ρ).2.1.toNat) σ) := by
  have hc := (cnt_b hL.1.1 hL.1.2.1).1
  obtain ⟨o', e1⟩ := ll_run ht 442 0 0 ρ none hL (by omega) (by omega) (by omega) (by omega)
  obtain ⟨j1, j2, j3⟩ := lmt_J ht 442 0 0 ρ hL (by omega) (by omega) (by omega) (by omega)
  generalize lmt tot 442 0 0 ρ = r at *
  obtain ⟨lim, n, ρe⟩ := r
  dsimp only at *
  generalize hA : (if tot < ρe 4 3 then -1 else lim) = ans at *
  have hw := wh_up (c := wc_X5_leastLimit_2) (b := wb_X5_leastLimit_2) (fun k L τ => 0 ≤ k ∧ L = [none, some tot, some ans, some n, some k, o'] ∧ τ = mx cA (bk ρe k.toNat) ρ) (fun _ => False) n
    (fun k L τ hk hQ => by
      obtain ⟨h0, rfl, rfl⟩ := hQ
      simp only [wc_X5_leastLimit_2, cs_run, cs_L0, s_ret, s_retz, s_retv, s_seq, s_set, s_inc, s_put, s_ast, s_zst, s_cst, s_ada, s_if, s_ex, s_cv, s_nop, s_brk, x_ite, x_l, x_k, x_f, x_a, x_ro, x_add, x_sub, x_mul, x_div, x_rem, x_neg, x_call, x_max, x_min, x_abs, g_cons, g_nil, y_lt, y_le, y_gt, y_ge, y_eq, y_ne, y_not, y_and, y_or, y_ite, Option.bind_some, Option.bind_none, List.getElem?_cons_zero, List.getElem?_cons_succ, List.getElem?_nil, List.set_cons_zero, List.set_cons_succ, List.cons_append, List.nil_append, List.append_nil, List.replicate, List.length_cons, List.length_nil, Nat.reduceAdd, Nat.reduceSub, Nat.zero_add, Nat.sub_self, if_true, if_false, ite_true, ite_false, reduceIte, reduceCtorEq, decide_true, decide_false, decide_eq_true_eq, Bool.not_true, Bool.not_false, Bool.true_and, Bool.false_and, Bool.and_true, Bool.and_false, Bool.true_or, Bool.false_or, Bool.false_eq_true, Bool.true_eq_false, not_true_eq_false, not_false_eq_true, ne_eq, Int.reduceEq, Int.reduceNe, Int.reduceLT, Int.reduceLE, and_self, and_true, true_and, and_false, false_and, or_true, true_or, or_false, false_or, true_or, Option.map_some])
    (fun k L τ hk hQ => by
      obtain ⟨h0, rfl, rfl⟩ := hQ
      obtain ⟨b1, b2, -, -⟩ := bk_J j1 k.toNat (by omega)
      have hr := (j1.2.2.2.1 k.toNat (by omega)).1
      have o26 := bk_o ρe k.toNat 26 (by decide) (by decide) (by decide) (by decide)
      have c1 : (0 : Int) ≤ k ∧ k < ((442 : Nat) : Int) := by omega
      have c2 : cs_InR (k + 1) := by omega
      have e3 := f_turnJ b1 b2 (v := ρe 26 k.toNat) (by rw [bk_4 ρe k.toNat 2 (by decide), j1.2.2.1 2 (by decide)]; exact hr)
      have hbd : wb_X5_leastLimit_2 [none, some tot, some ans, some n, some k, o'] (bk ρe k.toNat) = some (.inl ([none, some tot, some ans, some n, some (k + 1), o'], turnC (bk ρe k.toNat) (ρe 26 k.toNat))) := by
        simp only [wb_X5_leastLimit_2, cs_run, cs_L0, s_ret, s_retz, s_retv, s_seq, s_set, s_inc, s_put, s_ast, s_zst, s_cst, s_ada, s_if, s_ex, s_cv, s_nop, s_brk, x_ite, x_l, x_k, x_f, x_a, x_ro, x_add, x_sub, x_mul, x_div, x_rem, x_neg, x_call, x_max, x_min, x_abs, g_cons, g_nil, y_lt, y_le, y_gt, y_ge, y_eq, y_ne, y_not, y_and, y_or, y_ite, Option.bind_some, Option.bind_none, List.getElem?_cons_zero, List.getElem?_cons_succ, List.getElem?_nil, List.set_cons_zero, List.set_cons_succ, List.cons_append, List.nil_append, List.append_nil, List.replicate, List.length_cons, List.length_nil, Nat.reduceAdd, Nat.reduceSub, Nat.zero_add, Nat.sub_self, if_true, if_false, ite_true, ite_false, reduceIte, reduceCtorEq, decide_true, decide_false, decide_eq_true_eq, Bool.not_true, Bool.not_false, Bool.true_and, Bool.false_and, Bool.and_true, Bool.and_false, Bool.true_or, Bool.false_or, Bool.false_eq_true, Bool.true_eq_false, not_true_eq_false, not_false_eq_true, ne_eq, Int.reduceEq, Int.reduceNe, Int.reduceLT, Int.reduceLE, and_self, and_true, true_and, and_false, false_and, or_true, true_or, or_false, false_or, true_or, Option.map_some, cs_rd_ok c1, o26, e3, cs_chk_ok c2]
      refine Or.inl ⟨_, _, by rw [fr_wb_X5_leastLimit_2, hbd]; rfl, by omega, rfl, ?_⟩
      dsimp only
      rw [show (k + 1).toNat = k.toNat + 1 by omega, bk])
    n.toNat 0 [none, some tot, some ans, some n, some 0, o'] (mx cA ρe ρ) (by omega) ⟨by omega, rfl, rfl⟩
  have hrun : f_X5_leastLimit [tot] ρ = some (some ans, mx cA (bk ρe n.toNat) ρ) := by
    have g1 : (s_set 2 (x_k 0)) [none, some tot, none, none, none, none] ρ = some (.inl ([none, some tot, some 0, none, none, none], ρ)) := by simp only [cs_run, cs_L0, s_ret, s_retz, s_retv, s_seq, s_set, s_inc, s_put, s_ast, s_zst, s_cst, s_ada, s_if, s_ex, s_cv, s_nop, s_brk, x_ite, x_l, x_k, x_f, x_a, x_ro, x_add, x_sub, x_mul, x_div, x_rem, x_neg, x_call, x_max, x_min, x_abs, g_cons, g_nil, y_lt, y_le, y_gt, y_ge, y_eq, y_ne, y_not, y_and, y_or, y_ite, Option.bind_some, Option.bind_none, List.getElem?_cons_zero, List.getElem?_cons_succ, List.getElem?_nil, List.set_cons_zero, List.set_cons_succ, List.cons_append, List.nil_append, List.append_nil, List.replicate, List.length_cons, List.length_nil, Nat.reduceAdd, Nat.reduceSub, Nat.zero_add, Nat.sub_self, if_true, if_false, ite_true, ite_false, reduceIte, reduceCtorEq, decide_true, decide_false, decide_eq_true_eq, Bool.not_true, Bool.not_false, Bool.true_and, Bool.false_and, Bool.and_true, Bool.and_false, Bool.true_or, Bool.false_or, Bool.false_eq_true, Bool.true_eq_false, not_true_eq_false, not_false_eq_true, ne_eq, Int.reduceEq, Int.reduceNe, Int.reduceLT, Int.reduceLE, and_self, and_true, true_and, and_false, false_and, or_true, true_or, or_false, false_or, true_or, Option.map_some]
    have g2 : (s_set 3 (x_k 0)) [none, some tot, some 0, none, none, none] ρ = some (.inl ([none, some tot, some 0, some 0, none, none], ρ)) := by simp only [cs_run, cs_L0, s_ret, s_retz, s_retv, s_seq, s_set, s_inc, s_put, s_ast, s_zst, s_cst, s_ada, s_if, s_ex, s_cv, s_nop, s_brk, x_ite, x_l, x_k, x_f, x_a, x_ro, x_add, x_sub, x_mul, x_div, x_rem, x_neg, x_call, x_max, x_min, x_abs, g_cons, g_nil, y_lt, y_le, y_gt, y_ge, y_eq, y_ne, y_not, y_and, y_or, y_ite, Option.bind_some, Option.bind_none, List.getElem?_cons_zero, List.getElem?_cons_succ, List.getElem?_nil, List.set_cons_zero, List.set_cons_succ, List.cons_append, List.nil_append, List.append_nil, List.replicate, List.length_cons, List.length_nil, Nat.reduceAdd, Nat.reduceSub, Nat.zero_add, Nat.sub_self, if_true, if_false, ite_true, ite_false, reduceIte, reduceCtorEq, decide_true, decide_false, decide_eq_true_eq, Bool.not_true, Bool.not_false, Bool.true_and, Bool.false_and, Bool.and_true, Bool.and_false, Bool.true_or, Bool.false_or, Bool.false_eq_true, Bool.true_eq_false, not_true_eq_false, not_false_eq_true, ne_eq, Int.reduceEq, Int.reduceNe, Int.reduceLT, Int.reduceLE, and_self, and_true, true_and, and_false, false_and, or_true, true_or, or_false, false_or, true_or, Option.map_some]
    have g3 : (s_set 4 (x_k 0)) [none, some tot, some 0, some 0, none, none] ρ = some (.inl ([none, some tot, some 0, some 0, some 0, none], ρ)) := by simp only [cs_run, cs_L0, s_ret, s_retz, s_retv, s_seq, s_set, s_inc, s_put, s_ast, s_zst, s_cst, s_ada, s_if, s_ex, s_cv, s_nop, s_brk, x_ite, x_l, x_k, x_f, x_a, x_ro, x_add, x_sub, x_mul, x_div, x_rem, x_neg, x_call, x_max, x_min, x_abs, g_cons, g_nil, y_lt, y_le, y_gt, y_ge, y_eq, y_ne, y_not, y_and, y_or, y_ite, Option.bind_some, Option.bind_none, List.getElem?_cons_zero, List.getElem?_cons_succ, List.getElem?_nil, List.set_cons_zero, List.set_cons_succ, List.cons_append, List.nil_append, List.append_nil, List.replicate, List.length_cons, List.length_nil, Nat.reduceAdd, Nat.reduceSub, Nat.zero_add, Nat.sub_self, if_true, if_false, ite_true, ite_false, reduceIte, reduceCtorEq, decide_true, decide_false, decide_eq_true_eq, Bool.not_true, Bool.not_false, Bool.true_and, Bool.false_and, Bool.and_true, Bool.and_false, Bool.true_or, Bool.false_or, Bool.false_eq_true, Bool.true_eq_false, not_true_eq_false, not_false_eq_true, ne_eq, Int.reduceEq, Int.reduceNe, Int.reduceLT, Int.reduceLE, and_self, and_true, true_and, and_false, false_and, or_true, true_or, or_false, false_or, true_or, Option.map_some]
    have g4 : (s_set 4 (x_k 0)) [none, some tot, some ans, some n, some n, o'] (mx cA ρe ρ) = some (.inl ([none, some tot, some ans, some n, some 0, o'], mx cA ρe ρ)) := by simp only [cs_run, cs_L0, s_ret, s_retz, s_retv, s_seq, s_set, s_inc, s_put, s_ast, s_zst, s_cst, s_ada, s_if, s_ex, s_cv, s_nop, s_brk, x_ite, x_l, x_k, x_f, x_a, x_ro, x_add, x_sub, x_mul, x_div, x_rem, x_neg, x_call, x_max, x_min, x_abs, g_cons, g_nil, y_lt, y_le, y_gt, y_ge, y_eq, y_ne, y_not, y_and, y_or, y_ite, Option.bind_some, Option.bind_none, List.getElem?_cons_zero, List.getElem?_cons_succ, List.getElem?_nil, List.set_cons_zero, List.set_cons_succ, List.cons_append, List.nil_append, List.append_nil, List.replicate, List.length_cons, List.length_nil, Nat.reduceAdd, Nat.reduceSub, Nat.zero_add, Nat.sub_self, if_true, if_false, ite_true, ite_false, reduceIte, reduceCtorEq, decide_true, decide_false, decide_eq_true_eq, Bool.not_true, Bool.not_false, Bool.true_and, Bool.false_and, Bool.and_true, Bool.and_false, Bool.true_or, Bool.false_or, Bool.false_eq_true, Bool.true_eq_false, not_true_eq_false, not_false_eq_true, ne_eq, Int.reduceEq, Int.reduceNe, Int.reduceLT, Int.reduceLE, and_self, and_true, true_and, and_false, false_and, or_true, true_or, or_false, false_or, true_or, Option.map_some]
    unfold f_X5_leastLimit b_X5_leastLimit cs_run
    simp only [cs_L0, Option.bind_some, Option.bind_none, List.getElem?_cons_zero, List.getElem?_cons_succ, List.getElem?_nil, List.set_cons_zero, List.set_cons_succ, List.cons_append, List.nil_append, List.append_nil, List.replicate, List.length_cons, List.length_nil, Nat.reduceAdd, Nat.reduceSub, Nat.zero_add, Nat.sub_self, if_true, if_false, ite_true, ite_false, reduceIte, reduceCtorEq, decide_true, decide_false, decide_eq_true_eq, Bool.not_true, Bool.not_false, Bool.true_and, Bool.false_and, Bool.and_true, Bool.and_false, Bool.true_or, Bool.false_or, Bool.false_eq_true, Bool.true_eq_false, not_true_eq_false, not_false_eq_true, ne_eq, Int.reduceEq, Int.reduceNe, Int.reduceLT, Int.reduceLE, and_self, and_true, true_and, and_false, false_and, or_true, true_or, or_false, false_or, true_or, Option.map_some]
    rw [sq_st g1, sq_st g2, sq_assoc, sq_st g3, sq_st e1, sq_assoc, sq_st g4, w_X5_leastLimit_2]
    rcases hw with ⟨L', σ', e, -, rfl, rfl⟩ | ⟨r, -, hx⟩
    · rw [sq_st e]
      simp only [cs_run, cs_L0, s_ret, s_retz, s_retv, s_seq, s_set, s_inc, s_put, s_ast, s_zst, s_cst, s_ada, s_if, s_ex, s_cv, s_nop, s_brk, x_ite, x_l, x_k, x_f, x_a, x_ro, x_add, x_sub, x_mul, x_div, x_rem, x_neg, x_call, x_max, x_min, x_abs, g_cons, g_nil, y_lt, y_le, y_gt, y_ge, y_eq, y_ne, y_not, y_and, y_or, y_ite, Option.bind_some, Option.bind_none, List.getElem?_cons_zero, List.getElem?_cons_succ, List.getElem?_nil, List.set_cons_zero, List.set_cons_succ, List.cons_append, List.nil_append, List.append_nil, List.replicate, List.length_cons, List.length_nil, Nat.reduceAdd, Nat.reduceSub, Nat.zero_add, Nat.sub_self, if_true, if_false, ite_true, ite_false, reduceIte, reduceCtorEq, decide_true, decide_false, decide_eq_true_eq, Bool.not_true, Bool.not_false, Bool.true_and, Bool.false_and, Bool.and_true, Bool.and_false, Bool.true_or, Bool.false_or, Bool.false_eq_true, Bool.true_eq_false, not_true_eq_false, not_false_eq_true, ne_eq, Int.reduceEq, Int.reduceNe, Int.reduceLT, Int.reduceLE, and_self, and_true, true_and, and_false, false_and, or_true, true_or, or_false, false_or, true_or, Option.map_some]
    · exact hx.elim
  rw [fr_f_X5_leastLimit, hrun]
  simp only [Option.map_some, mx_mx]
/-! the reference's way -/
theorem lr_set {ρ : cs_S} (hJ : CoJ ρ) {tot : Int} {L : cs_L} (hL : L[1]? = some (some tot)) (σ : cs_S) : (x_ite (y_gt (x_call f_X10_presentAll g_nil) (x_l 1)) (x_call f_X10_findNext g_nil) (x_k (-1))) L (mx rA ρ σ) = some (nvT tot (nvS ρ) (ρ 4 3), mx rA ρ σ) := by
  have e4 : f_X10_findNext [] (mx rA ρ σ) = some (some (nvS ρ), mx rA ρ σ) := by
    rw [fr_f_X10_findNext, f_findN hJ.1 hJ.2.1 hJ.2.2.1 hJ.2.2.2]
    rfl
  have e5 : f_X10_presentAll [] (mx rA ρ σ) = some (some (ρ 4 3), mx rA ρ σ) := by
    rw [fr_f_X10_presentAll, f_presentAll hJ.1 hJ.2.1 hJ.2.2.1]
    rfl
  unfold nvT
  by_cases q : tot < ρ 4 3
  · simp only [cs_run, cs_L0, s_ret, s_retz, s_retv, s_seq, s_set, s_inc, s_put, s_ast, s_zst, s_cst, s_ada, s_if, s_ex, s_cv, s_nop, s_brk, x_ite, x_l, x_k, x_f, x_a, x_ro, x_add, x_sub, x_mul, x_div, x_rem, x_neg, x_call, x_max, x_min, x_abs, g_cons, g_nil, y_lt, y_le, y_gt, y_ge, y_eq, y_ne, y_not, y_and, y_or, y_ite, Option.bind_some, Option.bind_none, List.getElem?_cons_zero, List.getElem?_cons_succ, List.getElem?_nil, List.set_cons_zero, List.set_cons_succ, List.cons_append, List.nil_append, List.append_nil, List.replicate, List.length_cons, List.length_nil, Nat.reduceAdd, Nat.reduceSub, Nat.zero_add, Nat.sub_self, if_true, if_false, ite_true, ite_false, reduceIte, reduceCtorEq, decide_true, decide_false, decide_eq_true_eq, Bool.not_true, Bool.not_false, Bool.true_and, Bool.false_and, Bool.and_true, Bool.and_false, Bool.true_or, Bool.false_or, Bool.false_eq_true, Bool.true_eq_false, not_true_eq_false, not_false_eq_true, ne_eq, Int.reduceEq, Int.reduceNe, Int.reduceLT, Int.reduceLE, and_self, and_true, true_and, and_false, false_and, or_true, true_or, or_false, false_or, true_or, Option.map_some, e4, e5, hL, q]
  · simp only [cs_run, cs_L0, s_ret, s_retz, s_retv, s_seq, s_set, s_inc, s_put, s_ast, s_zst, s_cst, s_ada, s_if, s_ex, s_cv, s_nop, s_brk, x_ite, x_l, x_k, x_f, x_a, x_ro, x_add, x_sub, x_mul, x_div, x_rem, x_neg, x_call, x_max, x_min, x_abs, g_cons, g_nil, y_lt, y_le, y_gt, y_ge, y_eq, y_ne, y_not, y_and, y_or, y_ite, Option.bind_some, Option.bind_none, List.getElem?_cons_zero, List.getElem?_cons_succ, List.getElem?_nil, List.set_cons_zero, List.set_cons_succ, List.cons_append, List.nil_append, List.append_nil, List.replicate, List.length_cons, List.length_nil, Nat.reduceAdd, Nat.reduceSub, Nat.zero_add, Nat.sub_self, if_true, if_false, ite_true, ite_false, reduceIte, reduceCtorEq, decide_true, decide_false, decide_eq_true_eq, Bool.not_true, Bool.not_false, Bool.true_and, Bool.false_and, Bool.and_true, Bool.and_false, Bool.true_or, Bool.false_or, Bool.false_eq_true, Bool.true_eq_false, not_true_eq_false, not_false_eq_true, ne_eq, Int.reduceEq, Int.reduceNe, Int.reduceLT, Int.reduceLE, and_self, and_true, true_and, and_false, false_and, or_true, true_or, or_false, false_or, true_or, Option.map_some, e4, e5, hL, q]
theorem lr_run {S : cs_S} {tot : Int} (ht : 0 ≤ tot) : ∀ (m : Nat) (i lim : Int) (ρ : cs_S) (o4 o5 : Option Int), LI S ρ i → 0 ≤ i → ρ 4 3 ≤ m → ∃ o4', w_X10_limitFor_2 [none, some tot, some lim, some (nvT tot (nvS ρ) (ρ 4 3)), o4, o5] ρ = some (.inl ([none, some tot, some (lmt tot m i lim ρ).1, some (-1), o4', o5], mx rA (lmt tot m i lim ρ).2.2 ρ)) := by
  intro m
  induction m with
  | zero =>
    intro i lim ρ o4 o5 hL h0 hm
    have q : nvT tot (nvS ρ) (ρ 4 3) = -1 := by unfold nvT; rw [if_neg (by omega)]
    rw [q]
    have hcn : wc_X10_limitFor_2 [none, some tot, some lim, some (-1), o4, o5] ρ = some (false, ρ) := by simp only [wc_X10_limitFor_2, cs_run, cs_L0, s_ret, s_retz, s_retv, s_seq, s_set, s_inc, s_put, s_ast, s_zst, s_cst, s_ada, s_if, s_ex, s_cv, s_nop, s_brk, x_ite, x_l, x_k, x_f, x_a, x_ro, x_add, x_sub, x_mul, x_div, x_rem, x_neg, x_call, x_max, x_min, x_abs, g_cons, g_nil, y_lt, y_le, y_gt, y_ge, y_eq, y_ne, y_not, y_and, y_or, y_ite, Option.bind_some, Option.bind_none, List.getElem?_cons_zero, List.getElem?_cons_succ, List.getElem?_nil, List.set_cons_zero, List.set_cons_succ, List.cons_append, List.nil_append, List.append_nil, List.replicate, List.length_cons, List.length_nil, Nat.reduceAdd, Nat.reduceSub, Nat.zero_add, Nat.sub_self, if_true, if_false, ite_true, ite_false, reduceIte, reduceCtorEq, decide_true, decide_false, decide_eq_true_eq, Bool.not_true, Bool.not_false, Bool.true_and, Bool.false_and, Bool.and_true, Bool.and_false, Bool.true_or, Bool.false_or, Bool.false_eq_true, Bool.true_eq_false, not_true_eq_false, not_false_eq_true, ne_eq, Int.reduceEq, Int.reduceNe, Int.reduceLT, Int.reduceLE, and_self, and_true, true_and, and_false, false_and, or_true, true_or, or_false, false_or, true_or, Option.map_some, Int.reduceNeg]
    refine ⟨o4, ?_⟩
    rw [w_X10_limitFor_2, wh_no hcn]
    simp only [lmt, mx_same]
  | succ m ih =>
    intro i lim ρ o4 o5 hL h0 hm
    obtain ⟨h, h2, hR, hP⟩ := hL.1
    by_cases q : tot < ρ 4 3 ∧ nvS ρ ≠ -1
    · have hw : nvT tot (nvS ρ) (ρ 4 3) = nvS ρ := if_pos q.1
      rw [hw]
      obtain ⟨j1, j2, j3, j4⟩ := nv_co hL.1 q.2
      obtain ⟨s1, s2⟩ := LI_step hL h0 q.2
      have hv0 : 0 ≤ nvS ρ := j1.1
      have hcn : wc_X10_limitFor_2 [none, some tot, some lim, some (nvS ρ), o4, o5] ρ = some (true, ρ) := by simp only [wc_X10_limitFor_2, cs_run, cs_L0, s_ret, s_retz, s_retv, s_seq, s_set, s_inc, s_put, s_ast, s_zst, s_cst, s_ada, s_if, s_ex, s_cv, s_nop, s_brk, x_ite, x_l, x_k, x_f, x_a, x_ro, x_add, x_sub, x_mul, x_div, x_rem, x_neg, x_call, x_max, x_min, x_abs, g_cons, g_nil, y_lt, y_le, y_gt, y_ge, y_eq, y_ne, y_not, y_and, y_or, y_ite, Option.bind_some, Option.bind_none, List.getElem?_cons_zero, List.getElem?_cons_succ, List.getElem?_nil, List.set_cons_zero, List.set_cons_succ, List.cons_append, List.nil_append, List.append_nil, List.replicate, List.length_cons, List.length_nil, Nat.reduceAdd, Nat.reduceSub, Nat.zero_add, Nat.sub_self, if_true, if_false, ite_true, ite_false, reduceIte, reduceCtorEq, decide_true, decide_false, decide_eq_true_eq, Bool.not_true, Bool.not_false, Bool.true_and, Bool.false_and, Bool.and_true, Bool.and_false, Bool.true_or, Bool.false_or, Bool.false_eq_true, Bool.true_eq_false, not_true_eq_false, not_false_eq_true, ne_eq, Int.reduceEq, Int.reduceNe, Int.reduceLT, Int.reduceLE, and_self, and_true, true_and, and_false, false_and, or_true, true_or, or_false, false_or, true_or, Option.map_some, hv0]
      have e1 := f_contourAt h hR j1
      have e2 : f_X10_triangle [ρ 20 (nvS ρ).toNat, nvS ρ] ρ = some (some (szV ρ (nvS ρ)), ρ) := f_triR h hR hP j1
      have e : lmt tot (m + 1) i lim ρ = lmt tot m (i + 1) (max lim (szV ρ (nvS ρ))) (tjJ ρ i (nvS ρ)) := by
        rw [lmt, if_pos q]
      rw [e]
      have hb := h.1
      have c2 : (0 : Int) ≤ nvS ρ ∧ nvS ρ < ((512 : Nat) : Int) := by omega
      have e5 : cs_up ρ 39 (nvS ρ).toNat 0 = mx rA (tjJ ρ i (nvS ρ)) ρ := by rw [← tjR_mx, cs_up_eq]; rfl
      obtain ⟨o4', hi⟩ := ih (i + 1) (max lim (szV ρ (nvS ρ))) (tjJ ρ i (nvS ρ)) (some (szV ρ (nvS ρ))) o5 s1 (by omega) (by omega)
      generalize nvS ρ = v at *
      generalize szV ρ v = z at *
      have hs := lr_set s1.1 (tot := tot) (L := [none, some tot, some (max lim z), some v, some z, o5]) rfl ρ
      have hmx : (if lim < z then z else lim) = max lim z := if_mx lim z
      have hbd : wb_X10_limitFor_2 [none, some tot, some lim, some v, o4, o5] ρ = some (.inl ([none, some tot, some (max lim z), some (nvT tot (nvS (tjJ ρ i v)) (tjJ ρ i v 4 3)), some z, o5], mx rA (tjJ ρ i v) ρ)) := by
        have g1 : (s_set 4 (x_call f_X10_triangle (g_cons (x_call f_X10_contourAt (g_cons (x_l 3) g_nil)) (g_cons (x_l 3) g_nil)))) [none, some tot, some lim, some v, o4, o5] ρ = some (.inl ([none, some tot, some lim, some v, some z, o5], ρ)) := by simp only [cs_run, cs_L0, s_ret, s_retz, s_retv, s_seq, s_set, s_inc, s_put, s_ast, s_zst, s_cst, s_ada, s_if, s_ex, s_cv, s_nop, s_brk, x_ite, x_l, x_k, x_f, x_a, x_ro, x_add, x_sub, x_mul, x_div, x_rem, x_neg, x_call, x_max, x_min, x_abs, g_cons, g_nil, y_lt, y_le, y_gt, y_ge, y_eq, y_ne, y_not, y_and, y_or, y_ite, Option.bind_some, Option.bind_none, List.getElem?_cons_zero, List.getElem?_cons_succ, List.getElem?_nil, List.set_cons_zero, List.set_cons_succ, List.cons_append, List.nil_append, List.append_nil, List.replicate, List.length_cons, List.length_nil, Nat.reduceAdd, Nat.reduceSub, Nat.zero_add, Nat.sub_self, if_true, if_false, ite_true, ite_false, reduceIte, reduceCtorEq, decide_true, decide_false, decide_eq_true_eq, Bool.not_true, Bool.not_false, Bool.true_and, Bool.false_and, Bool.and_true, Bool.and_false, Bool.true_or, Bool.false_or, Bool.false_eq_true, Bool.true_eq_false, not_true_eq_false, not_false_eq_true, ne_eq, Int.reduceEq, Int.reduceNe, Int.reduceLT, Int.reduceLE, and_self, and_true, true_and, and_false, false_and, or_true, true_or, or_false, false_or, true_or, Option.map_some, e1, e2]
        have g2 : (s_set 2 (x_ite (y_gt (x_l 4) (x_l 2)) (x_l 4) (x_l 2))) [none, some tot, some lim, some v, some z, o5] ρ = some (.inl ([none, some tot, some (max lim z), some v, some z, o5], ρ)) := by
          by_cases t : lim < z
          · rw [if_pos t] at hmx
            rw [← hmx]
            simp only [cs_run, cs_L0, s_ret, s_retz, s_retv, s_seq, s_set, s_inc, s_put, s_ast, s_zst, s_cst, s_ada, s_if, s_ex, s_cv, s_nop, s_brk, x_ite, x_l, x_k, x_f, x_a, x_ro, x_add, x_sub, x_mul, x_div, x_rem, x_neg, x_call, x_max, x_min, x_abs, g_cons, g_nil, y_lt, y_le, y_gt, y_ge, y_eq, y_ne, y_not, y_and, y_or, y_ite, Option.bind_some, Option.bind_none, List.getElem?_cons_zero, List.getElem?_cons_succ, List.getElem?_nil, List.set_cons_zero, List.set_cons_succ, List.cons_append, List.nil_append, List.append_nil, List.replicate, List.length_cons, List.length_nil, Nat.reduceAdd, Nat.reduceSub, Nat.zero_add, Nat.sub_self, if_true, if_false, ite_true, ite_false, reduceIte, reduceCtorEq, decide_true, decide_false, decide_eq_true_eq, Bool.not_true, Bool.not_false, Bool.true_and, Bool.false_and, Bool.and_true, Bool.and_false, Bool.true_or, Bool.false_or, Bool.false_eq_true, Bool.true_eq_false, not_true_eq_false, not_false_eq_true, ne_eq, Int.reduceEq, Int.reduceNe, Int.reduceLT, Int.reduceLE, and_self, and_true, true_and, and_false, false_and, or_true, true_or, or_false, false_or, true_or, Option.map_some, t]
          · rw [if_neg t] at hmx
            rw [← hmx]
            simp only [cs_run, cs_L0, s_ret, s_retz, s_retv, s_seq, s_set, s_inc, s_put, s_ast, s_zst, s_cst, s_ada, s_if, s_ex, s_cv, s_nop, s_brk, x_ite, x_l, x_k, x_f, x_a, x_ro, x_add, x_sub, x_mul, x_div, x_rem, x_neg, x_call, x_max, x_min, x_abs, g_cons, g_nil, y_lt, y_le, y_gt, y_ge, y_eq, y_ne, y_not, y_and, y_or, y_ite, Option.bind_some, Option.bind_none, List.getElem?_cons_zero, List.getElem?_cons_succ, List.getElem?_nil, List.set_cons_zero, List.set_cons_succ, List.cons_append, List.nil_append, List.append_nil, List.replicate, List.length_cons, List.length_nil, Nat.reduceAdd, Nat.reduceSub, Nat.zero_add, Nat.sub_self, if_true, if_false, ite_true, ite_false, reduceIte, reduceCtorEq, decide_true, decide_false, decide_eq_true_eq, Bool.not_true, Bool.not_false, Bool.true_and, Bool.false_and, Bool.and_true, Bool.and_false, Bool.true_or, Bool.false_or, Bool.false_eq_true, Bool.true_eq_false, not_true_eq_false, not_false_eq_true, ne_eq, Int.reduceEq, Int.reduceNe, Int.reduceLT, Int.reduceLE, and_self, and_true, true_and, and_false, false_and, or_true, true_or, or_false, false_or, true_or, Option.map_some, t]
        have g3 : (s_zst 39 512 (x_l 3) (x_k 0)) [none, some tot, some (max lim z), some v, some z, o5] ρ = some (.inl ([none, some tot, some (max lim z), some v, some z, o5], mx rA (tjJ ρ i v) ρ)) := by
          simp only [cs_run, cs_L0, s_ret, s_retz, s_retv, s_seq, s_set, s_inc, s_put, s_ast, s_zst, s_cst, s_ada, s_if, s_ex, s_cv, s_nop, s_brk, x_ite, x_l, x_k, x_f, x_a, x_ro, x_add, x_sub, x_mul, x_div, x_rem, x_neg, x_call, x_max, x_min, x_abs, g_cons, g_nil, y_lt, y_le, y_gt, y_ge, y_eq, y_ne, y_not, y_and, y_or, y_ite, Option.bind_some, Option.bind_none, List.getElem?_cons_zero, List.getElem?_cons_succ, List.getElem?_nil, List.set_cons_zero, List.set_cons_succ, List.cons_append, List.nil_append, List.append_nil, List.replicate, List.length_cons, List.length_nil, Nat.reduceAdd, Nat.reduceSub, Nat.zero_add, Nat.sub_self, if_true, if_false, ite_true, ite_false, reduceIte, reduceCtorEq, decide_true, decide_false, decide_eq_true_eq, Bool.not_true, Bool.not_false, Bool.true_and, Bool.false_and, Bool.and_true, Bool.and_false, Bool.true_or, Bool.false_or, Bool.false_eq_true, Bool.true_eq_false, not_true_eq_false, not_false_eq_true, ne_eq, Int.reduceEq, Int.reduceNe, Int.reduceLT, Int.reduceLE, and_self, and_true, true_and, and_false, false_and, or_true, true_or, or_false, false_or, true_or, Option.map_some, cs_wr_ok c2, e5]
        rw [wb_X10_limitFor_2, sq_st g1, sq_st g2, sq_st g3, sset hs]
        rfl
      refine ⟨o4', ?_⟩
      rw [w_X10_limitFor_2, wh_go hcn hbd, ← w_X10_limitFor_2, fr_w_X10_limitFor_2, hi]
      simp only [Option.map_some, frO, mx_mx]
    · have hw : nvT tot (nvS ρ) (ρ 4 3) = -1 := by
        unfold nvT
        by_cases t : tot < ρ 4 3
        · rw [if_pos t]
          exact Decidable.not_not.mp (fun t2 => q ⟨t, t2⟩)
        · rw [if_neg t]
      rw [hw]
      have hcn : wc_X10_limitFor_2 [none, some tot, some lim, some (-1), o4, o5] ρ = some (false, ρ) := by simp only [wc_X10_limitFor_2, cs_run, cs_L0, s_ret, s_retz, s_retv, s_seq, s_set, s_inc, s_put, s_ast, s_zst, s_cst, s_ada, s_if, s_ex, s_cv, s_nop, s_brk, x_ite, x_l, x_k, x_f, x_a, x_ro, x_add, x_sub, x_mul, x_div, x_rem, x_neg, x_call, x_max, x_min, x_abs, g_cons, g_nil, y_lt, y_le, y_gt, y_ge, y_eq, y_ne, y_not, y_and, y_or, y_ite, Option.bind_some, Option.bind_none, List.getElem?_cons_zero, List.getElem?_cons_succ, List.getElem?_nil, List.set_cons_zero, List.set_cons_succ, List.cons_append, List.nil_append, List.append_nil, List.replicate, List.length_cons, List.length_nil, Nat.reduceAdd, Nat.reduceSub, Nat.zero_add, Nat.sub_self, if_true, if_false, ite_true, ite_false, reduceIte, reduceCtorEq, decide_true, decide_false, decide_eq_true_eq, Bool.not_true, Bool.not_false, Bool.true_and, Bool.false_and, Bool.and_true, Bool.and_false, Bool.true_or, Bool.false_or, Bool.false_eq_true, Bool.true_eq_false, not_true_eq_false, not_false_eq_true, ne_eq, Int.reduceEq, Int.reduceNe, Int.reduceLT, Int.reduceLE, and_self, and_true, true_and, and_false, false_and, or_true, true_or, or_false, false_or, true_or, Option.map_some, Int.reduceNeg]
      have e : lmt tot (m + 1) i lim ρ = (lim, i, ρ) := by unfold lmt; rw [if_neg q]
      refine ⟨o4, ?_⟩
      rw [e, w_X10_limitFor_2, wh_no hcn]
      simp only [mx_same]
