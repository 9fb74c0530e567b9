/-! steps that keep a vertex in every contour -/
theorem ok_rem {σ : cs_S} (h : CSo σ) (h2 : CPr σ) (hP : Pos1 σ) {v : Int} (hv : 0 ≤ v ∧ v < σ 4 2) (h4 : 4 ≤ σ 16 (σ 20 v.toNat).toNat) : okP (σ 15) (σ 4 1) (tg (σ 23) v.toNat) := by
  obtain ⟨w1, w2, w3⟩ := own_in h hv
  intro c hc
  by_cases e : (c : Int) = σ 20 v.toNat
  · have hcn : c = (σ 20 v.toNat).toNat := by omega
    rw [h2.2.2.1 _ (by omega)] at h4
    unfold cIn at h4
    have hvn : v.toNat < (σ 4 2).toNat := by omega
    rw [sm_split hvn] at h4
    have h5 : 0 < sm (fun k => if k = v.toNat then 0 else if σ 23 k ≠ 0 ∧ σ 20 k = (((σ 20 v.toNat).toNat : Nat) : Int) then (1 : Int) else 0) (σ 4 2).toNat := by
      have : (if σ 23 v.toNat ≠ 0 ∧ σ 20 v.toNat = (((σ 20 v.toNat).toNat : Nat) : Int) then (1 : Int) else 0) ≤ 1 := by split <;> omega
      omega
    obtain ⟨k, hk, hk2⟩ := (sm_pos (fun k _ => by split; omega; split <;> omega)).mp h5
    by_cases q : k = v.toNat
    · simp [q] at hk2
    · rw [if_neg q] at hk2
      by_cases q2 : σ 23 k ≠ 0 ∧ σ 20 k = (((σ 20 v.toNat).toNat : Nat) : Int)
      · have hkn := h.2.2.1 k (by omega)
        rw [q2.2, Int.toNat_natCast, ← hcn] at hkn
        refine ⟨k, ⟨hkn.2.1, hkn.2.2⟩, ?_⟩
        rw [Int.toNat_natCast]
        unfold tg
        rw [au_ne q]
        exact q2.1
      · rw [if_neg q2] at hk2; omega
  · obtain ⟨u, hu, hp⟩ := hP c hc
    refine ⟨u, hu, ?_⟩
    have hcc := h.2.1 c hc
    have hq : u.toNat ≠ v.toNat := by
      intro q
      have := own_eq h (c := (c : Int)) (u := u) ⟨by omega, hc⟩ (by simpa using hu.1) (by simpa using hu.2)
      rw [q] at this
      exact e this.symm
    unfold tg
    rw [au_ne hq]
    simpa [Pr] using hp
theorem ok_ins {σ : cs_S} (hP : Pos1 σ) {v : Int} (h0 : Pr σ v = false) : okP (σ 15) (σ 4 1) (tg (σ 23) v.toNat) := by
  intro c hc
  obtain ⟨u, hu, hp⟩ := hP c hc
  refine ⟨u, hu, ?_⟩
  have hz : σ 23 v.toNat = 0 := by simpa [Pr] using h0
  unfold tg au
  split
  · rw [hz]; simp
  · simpa [Pr] using hp
theorem mx_mx {A : Nat → Bool} (a b c : cs_S) : mx A (mx A a b) c = mx A a c := by
  funext q; unfold mx; cases A q <;> simp
theorem mx_same {A : Nat → Bool} (a : cs_S) : mx A a a = a := by
  funext q; unfold mx; cases A q <;> simp
theorem mx_cr (a b : cs_S) : mx rA a b = mx cA b a := by
  funext q; unfold mx rA; cases cA q <;> simp
theorem mx_join (a b c : cs_S) : mx cA (mx cA a b) (mx rA a c) = a := by
  funext q; unfold mx rA; cases cA q <;> simp
def stJ (σ : cs_S) (v : Int) : cs_S := mx cA (stpC σ v) (stpR σ v)
theorem stpC_mx (σ : cs_S) (v : Int) : stpC σ v = mx cA (stJ σ v) σ := by
  unfold stJ
  rw [mx_mx]
  funext q
  cases hq : cA q
  · rw [mx_off hq]
    have ne : ∀ p, cA p = true → q ≠ p := fun p hp e => by subst e; rw [hq] at hp; exact absurd hp (by decide)
    unfold stpC addS
    rw [cs_set_ne (ne 8 rfl), cs_set_ne (ne 27 rfl), turnC_o ⟨ne 23 rfl, ne 4 rfl, ne 16 rfl, ne 24 rfl⟩]
  · rw [mx_at hq]
theorem stpR_mx (σ : cs_S) (v : Int) : stpR σ v = mx rA (stJ σ v) σ := by
  unfold stJ
  rw [mx_cr]
  funext q
  cases hq : cA q
  · rw [mx_off hq, mx_off hq]
  · rw [mx_at hq]
    have ne : ∀ p, cA p = false → q ≠ p := fun p hp e => by subst e; rw [hq] at hp; exact absurd hp (by decide)
    simp [stpR, ne 41 rfl, ne 10 rfl, ne 39 rfl]
/-- nothing but the presence and the steps has changed -/
def Kp (τ σ : cs_S) : Prop := (∀ q, q ≠ 4 → q ≠ 8 → q ≠ 16 → q ≠ 23 → q ≠ 24 → q ≠ 26 → q ≠ 27 → q ≠ 10 → q ≠ 39 → q ≠ 41 → q ≠ 42 → τ q = σ q) ∧ (∀ k, k ≠ 3 → τ 4 k = σ 4 k) ∧ ∀ k, k ≠ 19 → τ 10 k = σ 10 k
theorem Kp_r (σ : cs_S) : Kp σ σ := ⟨fun _ _ _ _ _ _ _ _ _ _ _ _ => rfl, fun _ _ => rfl, fun _ _ => rfl⟩
theorem Kp_t {a b c : cs_S} (h1 : Kp a b) (h2 : Kp b c) : Kp a c := ⟨fun q n1 n2 n3 n4 n5 n6 n7 n8 n9 n10 n11 => (h1.1 q n1 n2 n3 n4 n5 n6 n7 n8 n9 n10 n11).trans (h2.1 q n1 n2 n3 n4 n5 n6 n7 n8 n9 n10 n11), fun k hk => (h1.2.1 k hk).trans (h2.2.1 k hk), fun k hk => (h1.2.2 k hk).trans (h2.2.2 k hk)⟩
theorem Kp_st (σ : cs_S) (v : Int) : Kp (stJ σ v) σ := by
  obtain ⟨⟨a1, a2, a4⟩, oC, oR, ⟨v23, v39, v41, v10⟩, v27, v8, v16, v24⟩ := sj_vals σ v
  unfold stJ
  refine ⟨fun q n1 n2 n3 n4 n5 n6 n7 n8 n9 n10 n11 => ?_, fun k hk => ?_, fun k hk => ?_⟩
  · cases hq : cA q
    · exact oR q hq n10 n8 n9
    · exact oC q hq n4 n1 n3 n5 n2 n7
  · rw [a4, (turnC_v σ v).2.1, au_ne hk]
  · rw [v10, au_ne hk]
theorem SimJ_st {σ : cs_S} (hJ : SimJ σ) {v : Int} (hv : 0 ≤ v ∧ v < σ 4 2) (hok : okP (σ 15) (σ 4 1) (tg (σ 23) v.toNat)) : SimJ (stJ σ v) := SimJ_step hJ hv hok
theorem sq_brk {c : cs_C} {b t : cs_T} {L L' : cs_L} {σ σ1 σ2 : cs_S} (hc : c L σ = some (true, σ1)) (hb : b L σ1 = some (.inr (.inr (L', σ2)))) : s_seq (s_wh c b) t L σ = t L' σ2 := by
  simp only [s_seq, s_wh_eq (c := c) (b := b) (L := L), hc, Option.bind_some, if_true, hb]
/-! removing while it can be done -/
noncomputable def rmv (lim tot : Int) : Nat → cs_S → Int × cs_S
  | 0, ρ => (0, ρ)
  | m + 1, ρ => if tot < ρ 4 3 ∧ nvS ρ ≠ -1 ∧ szV ρ (nvS ρ) ≤ lim then ((rmv lim tot m (stJ ρ (nvS ρ))).1 + 1, (rmv lim tot m (stJ ρ (nvS ρ))).2) else (0, ρ)
theorem st_43 {σ : cs_S} {v : Int} (hp : Pr σ v = true) : (stJ σ v) 4 3 = σ 4 3 - 1 := by
  unfold stJ
  rw [(sj_vals σ v).1.2.2, (turnC_v σ v).2.1, au_at, if_pos (by simpa [Pr] using hp)]
  omega
theorem pr_pos {σ : cs_S} (h2 : CPr σ) {v : Int} (hv : 0 ≤ v ∧ v < σ 4 2) (hp : Pr σ v = true) : 0 < σ 4 3 := by
  rw [h2.2.1]
  unfold cAll
  refine (sm_pos (fun k _ => by split <;> omega)).mpr ⟨v.toNat, by omega, ?_⟩
  rw [if_pos (by simpa [Pr] using hp)]
  decide
theorem nv_step {ρ : cs_S} (hJ : SimJ ρ) (hn : nvS ρ ≠ -1) : (0 ≤ nvS ρ ∧ nvS ρ < ρ 4 2) ∧ Pr ρ (nvS ρ) = true ∧ SimJ (stJ ρ (nvS ρ)) ∧ (stJ ρ (nvS ρ)) 4 3 = ρ 4 3 - 1 ∧ 0 < ρ 4 3 := by
  obtain ⟨h, h2, hR, hS, hH⟩ := id hJ
  have hP := SimJ_P hJ
  rcases nvS_J h h2 hR hP with q | ⟨q1, q2, q3⟩
  · exact absurd q hn
  · exact ⟨q1, q2, SimJ_st hJ q1 (ok_rem h h2 hP q1 q3), st_43 q2, pr_pos h2 q1 q2⟩
theorem rmv_J {lim tot : Int} : ∀ (m : Nat) (ρ : cs_S), SimJ ρ → SimJ (rmv lim tot m ρ).2 ∧ Kp (rmv lim tot m ρ).2 ρ ∧ 0 ≤ (rmv lim tot m ρ).1 ∧ (rmv lim tot m ρ).1 ≤ m
  | 0, ρ, hJ => ⟨hJ, Kp_r ρ, by simp [rmv], by simp [rmv]⟩
  | m + 1, ρ, hJ => by
    unfold rmv
    by_cases q : tot < ρ 4 3 ∧ nvS ρ ≠ -1 ∧ szV ρ (nvS ρ) ≤ lim
    · rw [if_pos q]
      obtain ⟨-, -, j1, -, -⟩ := nv_step hJ q.2.1
      obtain ⟨i1, i2, i3, i4⟩ := rmv_J m (stJ ρ (nvS ρ)) j1
      exact ⟨i1, Kp_t i2 (Kp_st ρ _), by dsimp only; omega, by dsimp only; omega⟩
    · rw [if_neg q]
      exact ⟨hJ, Kp_r ρ, by simp, by simp; omega⟩
theorem rw_run {lim tot : Int} (ht : 0 ≤ tot) : ∀ (m : Nat) (ρ : cs_S) (n i : Int) (o5 : Option Int), SimJ ρ → ρ 4 3 ≤ m → 0 ≤ i → i + ρ 4 3 ≤ 442 → 0 ≤ n → n ≤ i → s_seq w_X5_removeWhile_1 (s_ret (x_l 3)) [none, some lim, some tot, some n, some i, o5] ρ = some (.inr (.inl (some (n + (rmv lim tot m ρ).1), mx cA (rmv lim tot m ρ).2 ρ))) := by
  intro m
  induction m with
  | zero =>
    intro ρ n i o5 hJ hm hi h442 hn hni
    have q : ¬ tot < ρ 4 3 := by omega
    have hcn : wc_X5_removeWhile_1 [none, some lim, some tot, some n, some i, o5] ρ = some (false, ρ) := by
      by_cases z : i < 442
      · simp only [wc_X5_removeWhile_1, cs_run, cs_L0, s_ret, s_retz, s_retv, s_seq, s_set, s_inc, s_put, s_ast, s_zst, s_cst, s_ada, s_if, s_ex, s_cv, s_nop, s_brk, x_ite, x_l, x_k, x_f, x_a, x_ro, x_add, x_sub, x_mul, x_div, x_rem, x_neg, x_call, x_max, x_min, x_abs, g_cons, g_nil, y_lt, y_le, y_gt, y_ge, y_eq, y_ne, y_not, y_and, y_or, y_ite, Option.bind_some, Option.bind_none, List.getElem?_cons_zero, List.getElem?_cons_succ, List.getElem?_nil, List.set_cons_zero, List.set_cons_succ, List.cons_append, List.nil_append, List.append_nil, List.replicate, List.length_cons, List.length_nil, Nat.reduceAdd, Nat.reduceSub, Nat.zero_add, Nat.sub_self, if_true, if_false, ite_true, ite_false, reduceIte, reduceCtorEq, decide_true, decide_false, decide_eq_true_eq, Bool.not_true, Bool.not_false, Bool.true_and, Bool.false_and, Bool.and_true, Bool.and_false, Bool.true_or, Bool.false_or, Bool.false_eq_true, Bool.true_eq_false, not_true_eq_false, not_false_eq_true, ne_eq, Int.reduceEq, Int.reduceNe, Int.reduceLT, Int.reduceLE, and_self, and_true, true_and, and_false, false_and, or_true, true_or, or_false, false_or, true_or, Option.map_some, z, q]
      · simp only [wc_X5_removeWhile_1, cs_run, cs_L0, s_ret, s_retz, s_retv, s_seq, s_set, s_inc, s_put, s_ast, s_zst, s_cst, s_ada, s_if, s_ex, s_cv, s_nop, s_brk, x_ite, x_l, x_k, x_f, x_a, x_ro, x_add, x_sub, x_mul, x_div, x_rem, x_neg, x_call, x_max, x_min, x_abs, g_cons, g_nil, y_lt, y_le, y_gt, y_ge, y_eq, y_ne, y_not, y_and, y_or, y_ite, Option.bind_some, Option.bind_none, List.getElem?_cons_zero, List.getElem?_cons_succ, List.getElem?_nil, List.set_cons_zero, List.set_cons_succ, List.cons_append, List.nil_append, List.append_nil, List.replicate, List.length_cons, List.length_nil, Nat.reduceAdd, Nat.reduceSub, Nat.zero_add, Nat.sub_self, if_true, if_false, ite_true, ite_false, reduceIte, reduceCtorEq, decide_true, decide_false, decide_eq_true_eq, Bool.not_true, Bool.not_false, Bool.true_and, Bool.false_and, Bool.and_true, Bool.and_false, Bool.true_or, Bool.false_or, Bool.false_eq_true, Bool.true_eq_false, not_true_eq_false, not_false_eq_true, ne_eq, Int.reduceEq, Int.reduceNe, Int.reduceLT, Int.reduceLE, and_self, and_true, true_and, and_false, false_and, or_true, true_or, or_false, false_or, true_or, Option.map_some, z]
    rw [w_X5_removeWhile_1, sq_no hcn]
    simp only [cs_run, cs_L0, s_ret, s_retz, s_retv, s_seq, s_set, s_inc, s_put, s_ast, s_zst, s_cst, s_ada, s_if, s_ex, s_cv, s_nop, s_brk, x_ite, x_l, x_k, x_f, x_a, x_ro, x_add, x_sub, x_mul, x_div, x_rem, x_neg, x_call, x_max, x_min, x_abs, g_cons, g_nil, y_lt, y_le, y_gt, y_ge, y_eq, y_ne, y_not, y_and, y_or, y_ite, Option.bind_some, Option.bind_none, List.getElem?_cons_zero, List.getElem?_cons_succ, List.getElem?_nil, List.set_cons_zero, List.set_cons_succ, List.cons_append, List.nil_append, List.append_nil, List.replicate, List.length_cons, List.length_nil, Nat.reduceAdd, Nat.reduceSub, Nat.zero_add, Nat.sub_self, if_true, if_false, ite_true, ite_false, reduceIte, reduceCtorEq, decide_true, decide_false, decide_eq_true_eq, Bool.not_true, Bool.not_false, Bool.true_and, Bool.false_and, Bool.and_true, Bool.and_false, Bool.true_or, Bool.false_or, Bool.false_eq_true, Bool.true_eq_false, not_true_eq_false, not_false_eq_true, ne_eq, Int.reduceEq, Int.reduceNe, Int.reduceLT, Int.reduceLE, and_self, and_true, true_and, and_false, false_and, or_true, true_or, or_false, false_or, true_or, Option.map_some, rmv, mx_same, Int.add_zero]
  | succ m ih =>
    intro ρ n i o5 hJ hm hi h442 hn hni
    obtain ⟨h, h2, hR, hS, hH⟩ := id hJ
    have hP := SimJ_P hJ
    by_cases q : tot < ρ 4 3
    · have z : i < 442 := by omega
      have hcn : wc_X5_removeWhile_1 [none, some lim, some tot, some n, some i, o5] ρ = some (true, ρ) := by
        simp only [wc_X5_removeWhile_1, cs_run, cs_L0, s_ret, s_retz, s_retv, s_seq, s_set, s_inc, s_put, s_ast, s_zst, s_cst, s_ada, s_if, s_ex, s_cv, s_nop, s_brk, x_ite, x_l, x_k, x_f, x_a, x_ro, x_add, x_sub, x_mul, x_div, x_rem, x_neg, x_call, x_max, x_min, x_abs, g_cons, g_nil, y_lt, y_le, y_gt, y_ge, y_eq, y_ne, y_not, y_and, y_or, y_ite, Option.bind_some, Option.bind_none, List.getElem?_cons_zero, List.getElem?_cons_succ, List.getElem?_nil, List.set_cons_zero, List.set_cons_succ, List.cons_append, List.nil_append, List.append_nil, List.replicate, List.length_cons, List.length_nil, Nat.reduceAdd, Nat.reduceSub, Nat.zero_add, Nat.sub_self, if_true, if_false, ite_true, ite_false, reduceIte, reduceCtorEq, decide_true, decide_false, decide_eq_true_eq, Bool.not_true, Bool.not_false, Bool.true_and, Bool.false_and, Bool.and_true, Bool.and_false, Bool.true_or, Bool.false_or, Bool.false_eq_true, Bool.true_eq_false, not_true_eq_false, not_false_eq_true, ne_eq, Int.reduceEq, Int.reduceNe, Int.reduceLT, Int.reduceLE, and_self, and_true, true_and, and_false, false_and, or_true, true_or, or_false, false_or, true_or, Option.map_some, z, q]
      have e1 := f_nextV h h2 hR hP
      by_cases hv : nvS ρ = -1
      · rw [hv] at e1
        have hbd : wb_X5_removeWhile_1 [none, some lim, some tot, some n, some i, o5] ρ = some (.inr (.inr ([none, some lim, some tot, some n, some i, some (-1)], ρ))) := by
          simp only [wb_X5_removeWhile_1, cs_run, cs_L0, s_ret, s_retz, s_retv, s_seq, s_set, s_inc, s_put, s_ast, s_zst, s_cst, s_ada, s_if, s_ex, s_cv, s_nop, s_brk, x_ite, x_l, x_k, x_f, x_a, x_ro, x_add, x_sub, x_mul, x_div, x_rem, x_neg, x_call, x_max, x_min, x_abs, g_cons, g_nil, y_lt, y_le, y_gt, y_ge, y_eq, y_ne, y_not, y_and, y_or, y_ite, Option.bind_some, Option.bind_none, List.getElem?_cons_zero, List.getElem?_cons_succ, List.getElem?_nil, List.set_cons_zero, List.set_cons_succ, List.cons_append, List.nil_append, List.append_nil, List.replicate, List.length_cons, List.length_nil, Nat.reduceAdd, Nat.reduceSub, Nat.zero_add, Nat.sub_self, if_true, if_false, ite_true, ite_false, reduceIte, reduceCtorEq, decide_true, decide_false, decide_eq_true_eq, Bool.not_true, Bool.not_false, Bool.true_and, Bool.false_and, Bool.and_true, Bool.and_false, Bool.true_or, Bool.false_or, Bool.false_eq_true, Bool.true_eq_false, not_true_eq_false, not_false_eq_true, ne_eq, Int.reduceEq, Int.reduceNe, Int.reduceLT, Int.reduceLE, and_self, and_true, true_and, and_false, false_and, or_true, true_or, or_false, false_or, true_or, Option.map_some, e1]
        rw [w_X5_removeWhile_1, sq_brk hcn hbd]
        have e : rmv lim tot (m + 1) ρ = (0, ρ) := by unfold rmv; rw [if_neg (fun t => t.2.1 hv)]
        rw [e]
        simp only [cs_run, cs_L0, s_ret, s_retz, s_retv, s_seq, s_set, s_inc, s_put, s_ast, s_zst, s_cst, s_ada, s_if, s_ex, s_cv, s_nop, s_brk, x_ite, x_l, x_k, x_f, x_a, x_ro, x_add, x_sub, x_mul, x_div, x_rem, x_neg, x_call, x_max, x_min, x_abs, g_cons, g_nil, y_lt, y_le, y_gt, y_ge, y_eq, y_ne, y_not, y_and, y_or, y_ite, Option.bind_some, Option.bind_none, List.getElem?_cons_zero, List.getElem?_cons_succ, List.getElem?_nil, List.set_cons_zero, List.set_cons_succ, List.cons_append, List.nil_append, List.append_nil, List.replicate, List.length_cons, List.length_nil, Nat.reduceAdd, Nat.reduceSub, Nat.zero_add, Nat.sub_self, if_true, if_false, ite_true, ite_false, reduceIte, reduceCtorEq, decide_true, decide_false, decide_eq_true_eq, Bool.not_true, Bool.not_false, Bool.true_and, Bool.false_and, Bool.and_true, Bool.and_false, Bool.true_or, Bool.false_or, Bool.false_eq_true, Bool.true_eq_false, not_true_eq_false, not_false_eq_true, ne_eq, Int.reduceEq, Int.reduceNe, Int.reduceLT, Int.reduceLE, and_self, and_true, true_and, and_false, false_and, or_true, true_or, or_false, false_or, true_or, Option.map_some, mx_same, Int.add_zero]
      · obtain ⟨j1, j2, j3, j4, j5⟩ := nv_step hJ hv
        have e2 : f_X5_triangleSize [nvS ρ] ρ = some (some (szV ρ (nvS ρ)), ρ) := f_triC h j1
        by_cases hl : szV ρ (nvS ρ) ≤ lim
        · have hl' : ¬ lim < szV ρ (nvS ρ) := by omega
          have e3 := f_takeStep h h2 hS.1.1 hS.1.2 j1
          have c1 : cs_InR (n + 1) := by omega
          have c2 : cs_InR (i + 1) := by omega
          have e : rmv lim tot (m + 1) ρ = ((rmv lim tot m (stJ ρ (nvS ρ))).1 + 1, (rmv lim tot m (stJ ρ (nvS ρ))).2) := by
            rw [rmv, if_pos ⟨q, hv, hl⟩]
          rw [e]
          rw [stpC_mx] at e3
          generalize nvS ρ = v at *
          have hbd : wb_X5_removeWhile_1 [none, some lim, some tot, some n, some i, o5] ρ = some (.inl ([none, some lim, some tot, some (n + 1), some (i + 1), some v], mx cA (stJ ρ v) ρ)) := by
            simp only [wb_X5_removeWhile_1, cs_run, cs_L0, s_ret, s_retz, s_retv, s_seq, s_set, s_inc, s_put, s_ast, s_zst, s_cst, s_ada, s_if, s_ex, s_cv, s_nop, s_brk, x_ite, x_l, x_k, x_f, x_a, x_ro, x_add, x_sub, x_mul, x_div, x_rem, x_neg, x_call, x_max, x_min, x_abs, g_cons, g_nil, y_lt, y_le, y_gt, y_ge, y_eq, y_ne, y_not, y_and, y_or, y_ite, Option.bind_some, Option.bind_none, List.getElem?_cons_zero, List.getElem?_cons_succ, List.getElem?_nil, List.set_cons_zero, List.set_cons_succ, List.cons_append, List.nil_append, List.append_nil, List.replicate, List.length_cons, List.length_nil, Nat.reduceAdd, Nat.reduceSub, Nat.zero_add, Nat.sub_self, if_true, if_false, ite_true, ite_false, reduceIte, reduceCtorEq, decide_true, decide_false, decide_eq_true_eq, Bool.not_true, Bool.not_false, Bool.true_and, Bool.false_and, Bool.and_true, Bool.and_false, Bool.true_or, Bool.false_or, Bool.false_eq_true, Bool.true_eq_false, not_true_eq_false, not_false_eq_true, ne_eq, Int.reduceEq, Int.reduceNe, Int.reduceLT, Int.reduceLE, and_self, and_true, true_and, and_false, false_and, or_true, true_or, or_false, false_or, true_or, Option.map_some, e1, hv, e2, hl', e3, cs_chk_ok c1, cs_chk_ok c2]
          have := ih (stJ ρ v) (n + 1) (i + 1) (some v) j3 (by omega) (by omega) (by omega) (by omega) (by omega)
          have hfr : frS cA (s_seq w_X5_removeWhile_1 (s_ret (x_l 3))) := fr_seq fr_w_X5_removeWhile_1 (fr_ret fr_l)
          rw [w_X5_removeWhile_1, sq_go hcn hbd, ← w_X5_removeWhile_1, hfr, this]
          simp only [Option.map_some, frO, mx_mx]
          congr 5
          omega
        · have hl' : lim < szV ρ (nvS ρ) := by omega
          have hbd : wb_X5_removeWhile_1 [none, some lim, some tot, some n, some i, o5] ρ = some (.inr (.inr ([none, some lim, some tot, some n, some i, some (nvS ρ)], ρ))) := by
            simp only [wb_X5_removeWhile_1, cs_run, cs_L0, s_ret, s_retz, s_retv, s_seq, s_set, s_inc, s_put, s_ast, s_zst, s_cst, s_ada, s_if, s_ex, s_cv, s_nop, s_brk, x_ite, x_l, x_k, x_f, x_a, x_ro, x_add, x_sub, x_mul, x_div, x_rem, x_neg, x_call, x_max, x_min, x_abs, g_cons, g_nil, y_lt, y_le, y_gt, y_ge, y_eq, y_ne, y_not, y_and, y_or, y_ite, Option.bind_some, Option.bind_none, List.getElem?_cons_zero, List.getElem?_cons_succ, List.getElem?_nil, List.set_cons_zero, List.set_cons_succ, List.cons_append, List.nil_append, List.append_nil, List.replicate, List.length_cons, List.length_nil, Nat.reduceAdd, Nat.reduceSub, Nat.zero_add, Nat.sub_self, if_true, if_false, ite_true, ite_false, reduceIte, reduceCtorEq, decide_true, decide_false, decide_eq_true_eq, Bool.not_true, Bool.not_false, Bool.true_and, Bool.false_and, Bool.and_true, Bool.and_false, Bool.true_or, Bool.false_or, Bool.false_eq_true, Bool.true_eq_false, not_true_eq_false, not_false_eq_true, ne_eq, Int.reduceEq, Int.reduceNe, Int.reduceLT, Int.reduceLE, and_self, and_true, true_and, and_false, false_and, or_true, true_or, or_false, false_or, true_or, Option.map_some, e1, hv, e2, hl']
          rw [w_X5_removeWhile_1, sq_brk hcn hbd]
          have e : rmv lim tot (m + 1) ρ = (0, ρ) := by unfold rmv; rw [if_neg (fun t => hl t.2.2)]
          rw [e]
          simp only [cs_run, cs_L0, s_ret, s_retz, s_retv, s_seq, s_set, s_inc, s_put, s_ast, s_zst, s_cst, s_ada, s_if, s_ex, s_cv, s_nop, s_brk, x_ite, x_l, x_k, x_f, x_a, x_ro, x_add, x_sub, x_mul, x_div, x_rem, x_neg, x_call, x_max, x_min, x_abs, g_cons, g_nil, y_lt, y_le, y_gt, y_ge, y_eq, y_ne, y_not, y_and, y_or, y_ite, Option.bind_some, Option.bind_none, List.getElem?_cons_zero, List.getElem?_cons_succ, List.getElem?_nil, List.set_cons_zero, List.set_cons_succ, List.cons_append, List.nil_append, List.append_nil, List.replicate, List.length_cons, List.length_nil, Nat.reduceAdd, Nat.reduceSub, Nat.zero_add, Nat.sub_self, if_true, if_false, ite_true, ite_false, reduceIte, reduceCtorEq, decide_true, decide_false, decide_eq_true_eq, Bool.not_true, Bool.not_false, Bool.true_and, Bool.false_and, Bool.and_true, Bool.and_false, Bool.true_or, Bool.false_or, Bool.false_eq_true, Bool.true_eq_false, not_true_eq_false, not_false_eq_true, ne_eq, Int.reduceEq, Int.reduceNe, Int.reduceLT, Int.reduceLE, and_self, and_true, true_and, and_false, false_and, or_true, true_or, or_false, false_or, true_or, Option.map_some, mx_same, Int.add_zero]
    · have hcn : wc_X5_removeWhile_1 [none, some lim, some tot, some n, some i, o5] ρ = some (false, ρ) := by
        by_cases z : i < 442
        · simp only [wc_X5_removeWhile_1, cs_run, cs_L0, s_ret, s_retz, s_retv, s_seq, s_set, s_inc, s_put, s_ast, s_zst, s_cst, s_ada, s_if, s_ex, s_cv, s_nop, s_brk, x_ite, x_l, x_k, x_f, x_a, x_ro, x_add, x_sub, x_mul, x_div, x_rem, x_neg, x_call, x_max, x_min, x_abs, g_cons, g_nil, y_lt, y_le, y_gt, y_ge, y_eq, y_ne, y_not, y_and, y_or, y_ite, Option.bind_some, Option.bind_none, List.getElem?_cons_zero, List.getElem?_cons_succ, List.getElem?_nil, List.set_cons_zero, List.set_cons_succ, List.cons_append, List.nil_append, List.append_nil, List.replicate, List.length_cons, List.length_nil, Nat.reduceAdd, Nat.reduceSub, Nat.zero_add, Nat.sub_self, if_true, if_false, ite_true, ite_false, reduceIte, reduceCtorEq, decide_true, decide_false, decide_eq_true_eq, Bool.not_true, Bool.not_false, Bool.true_and, Bool.false_and, Bool.and_true, Bool.and_false, Bool.true_or, Bool.false_or, Bool.false_eq_true, Bool.true_eq_false, not_true_eq_false, not_false_eq_true, ne_eq, Int.reduceEq, Int.reduceNe, Int.reduceLT, Int.reduceLE, and_self, and_true, true_and, and_false, false_and, or_true, true_or, or_false, false_or, true_or, Option.map_some, z, q]
        · simp only [wc_X5_removeWhile_1, cs_run, cs_L0, s_ret, s_retz, s_retv, s_seq, s_set, s_inc, s_put, s_ast, s_zst, s_cst, s_ada, s_if, s_ex, s_cv, s_nop, s_brk, x_ite, x_l, x_k, x_f, x_a, x_ro, x_add, x_sub, x_mul, x_div, x_rem, x_neg, x_call, x_max, x_min, x_abs, g_cons, g_nil, y_lt, y_le, y_gt, y_ge, y_eq, y_ne, y_not, y_and, y_or, y_ite, Option.bind_some, Option.bind_none, List.getElem?_cons_zero, List.getElem?_cons_succ, List.getElem?_nil, List.set_cons_zero, List.set_cons_succ, List.cons_append, List.nil_append, List.append_nil, List.replicate, List.length_cons, List.length_nil, Nat.reduceAdd, Nat.reduceSub, Nat.zero_add, Nat.sub_self, if_true, if_false, ite_true, ite_false, reduceIte, reduceCtorEq, decide_true, decide_false, decide_eq_true_eq, Bool.not_true, Bool.not_false, Bool.true_and, Bool.false_and, Bool.and_true, Bool.and_false, Bool.true_or, Bool.false_or, Bool.false_eq_true, Bool.true_eq_false, not_true_eq_false, not_false_eq_true, ne_eq, Int.reduceEq, Int.reduceNe, Int.reduceLT, Int.reduceLE, and_self, and_true, true_and, and_false, false_and, or_true, true_or, or_false, false_or, true_or, Option.map_some, z]
      rw [w_X5_removeWhile_1, sq_no hcn]
      have e : rmv lim tot (m + 1) ρ = (0, ρ) := by unfold rmv; rw [if_neg (fun t => q t.1)]
      rw [e]
      simp only [cs_run, cs_L0, s_ret, s_retz, s_retv, s_seq, s_set, s_inc, s_put, s_ast, s_zst, s_cst, s_ada, s_if, s_ex, s_cv, s_nop, s_brk, x_ite, x_l, x_k, x_f, x_a, x_ro, x_add, x_sub, x_mul, x_div, x_rem, x_neg, x_call, x_max, x_min, x_abs, g_cons, g_nil, y_lt, y_le, y_gt, y_ge, y_eq, y_ne, y_not, y_and, y_or, y_ite, Option.bind_some, Option.bind_none, List.getElem?_cons_zero, List.getElem?_cons_succ, List.getElem?_nil, List.set_cons_zero, List.set_cons_succ, List.cons_append, List.nil_append, List.append_nil, List.replicate, List.length_cons, List.length_nil, Nat.reduceAdd, Nat.reduceSub, Nat.zero_add, Nat.sub_self, if_true, if_false, ite_true, ite_false, reduceIte, reduceCtorEq, decide_true, decide_false, decide_eq_true_eq, Bool.not_true, Bool.not_false, Bool.true_and, Bool.false_and, Bool.and_true, Bool.and_false, Bool.true_or, Bool.false_or, Bool.false_eq_true, Bool.true_eq_false, not_true_eq_false, not_false_eq_true, ne_eq, Int.reduceEq, Int.reduceNe, Int.reduceLT, Int.reduceLE, and_self, and_true, true_and, and_false, false_and, or_true, true_or, or_false, false_or, true_or, Option.map_some, mx_same, Int.add_zero]
theorem f_removeWhile {σ : cs_S} (hJ : SimJ σ) {lim tot : Int} (ht : 0 ≤ tot) : f_X5_removeWhile [lim, tot] σ = some (some (rmv lim tot 442 σ).1, mx cA (rmv lim tot 442 σ).2 σ) := by
  have hb := cnt_b hJ.1 hJ.2.1
  have := rw_run (lim := lim) ht 442 σ 0 0 none hJ (by omega) (by omega) (by omega) (by omega) (by omega)
  have g1 : (s_set 3 (x_k 0)) [none, some lim, some tot, none, none, none] σ = some (.inl ([none, some lim, some tot, some 0, none, none], σ)) := by simp only [cs_run, cs_L0, s_ret, s_retz, s_retv, s_seq, s_set, s_inc, s_put, s_ast, s_zst, s_cst, s_ada, s_if, s_ex, s_cv, s_nop, s_brk, x_ite, x_l, x_k, x_f, x_a, x_ro, x_add, x_sub, x_mul, x_div, x_rem, x_neg, x_call, x_max, x_min, x_abs, g_cons, g_nil, y_lt, y_le, y_gt, y_ge, y_eq, y_ne, y_not, y_and, y_or, y_ite, Option.bind_some, Option.bind_none, List.getElem?_cons_zero, List.getElem?_cons_succ, List.getElem?_nil, List.set_cons_zero, List.set_cons_succ, List.cons_append, List.nil_append, List.append_nil, List.replicate, List.length_cons, List.length_nil, Nat.reduceAdd, Nat.reduceSub, Nat.zero_add, Nat.sub_self, if_true, if_false, ite_true, ite_false, reduceIte, reduceCtorEq, decide_true, decide_false, decide_eq_true_eq, Bool.not_true, Bool.not_false, Bool.true_and, Bool.false_and, Bool.and_true, Bool.and_false, Bool.true_or, Bool.false_or, Bool.false_eq_true, Bool.true_eq_false, not_true_eq_false, not_false_eq_true, ne_eq, Int.reduceEq, Int.reduceNe, Int.reduceLT, Int.reduceLE, and_self, and_true, true_and, and_false, false_and, or_true, true_or, or_false, false_or, true_or, Option.map_some]
  have g2 : (s_set 4 (x_k 0)) [none, some lim, some tot, some 0, none, none] σ = some (.inl ([none, some lim, some tot, some 0, some 0, none], σ)) := by simp only [cs_run, cs_L0, s_ret, s_retz, s_retv, s_seq, s_set, s_inc, s_put, s_ast, s_zst, s_cst, s_ada, s_if, s_ex, s_cv, s_nop, s_brk, x_ite, x_l, x_k, x_f, x_a, x_ro, x_add, x_sub, x_mul, x_div, x_rem, x_neg, x_call, x_max, x_min, x_abs, g_cons, g_nil, y_lt, y_le, y_gt, y_ge, y_eq, y_ne, y_not, y_and, y_or, y_ite, Option.bind_some, Option.bind_none, List.getElem?_cons_zero, List.getElem?_cons_succ, List.getElem?_nil, List.set_cons_zero, List.set_cons_succ, List.cons_append, List.nil_append, List.append_nil, List.replicate, List.length_cons, List.length_nil, Nat.reduceAdd, Nat.reduceSub, Nat.zero_add, Nat.sub_self, if_true, if_false, ite_true, ite_false, reduceIte, reduceCtorEq, decide_true, decide_false, decide_eq_true_eq, Bool.not_true, Bool.not_false, Bool.true_and, Bool.false_and, Bool.and_true, Bool.and_false, Bool.true_or, Bool.false_or, Bool.false_eq_true, Bool.true_eq_false, not_true_eq_false, not_false_eq_true, ne_eq, Int.reduceEq, Int.reduceNe, Int.reduceLT, Int.reduceLE, and_self, and_true, true_and, and_false, false_and, or_true, true_or, or_false, false_or, true_or, Option.map_some]
  unfold f_X5_removeWhile b_X5_removeWhile cs_run
  simp only [cs_L0, Option.bind_some, Option.bind_none, List.getElem?_cons_zero, List.getElem?_cons_succ, List.getElem?_nil, List.set_cons_zero, List.set_cons_succ, List.cons_append, List.nil_append, List.append_nil, List.replicate, List.length_cons, List.length_nil, Nat.reduceAdd, Nat.reduceSub, Nat.zero_add, Nat.sub_self, if_true, if_false, ite_true, ite_false, reduceIte, reduceCtorEq, decide_true, decide_false, decide_eq_true_eq, Bool.not_true, Bool.not_false, Bool.true_and, Bool.false_and, Bool.and_true, Bool.and_false, Bool.true_or, Bool.false_or, Bool.false_eq_true, Bool.true_eq_false, not_true_eq_false, not_false_eq_true, ne_eq, Int.reduceEq, Int.reduceNe, Int.reduceLT, Int.reduceLE, and_self, and_true, true_and, and_false, false_and, or_true, true_or, or_false, false_or, true_or, Option.map_some]
  rw [sq_st g1, sq_assoc, sq_st g2, this, Int.zero_add]
