/-! both traces -/
/-- picture and its reference -/
def PicS (σ : cs_S) : Prop := szJ (σ 1 3) (σ 1 4) ∧ σ 10 0 = σ 1 3 ∧ σ 10 1 = σ 1 4 ∧ σ 28 = σ 11
noncomputable def scR (σ : cs_S) (t p : Int) : cs_S := (scanP (insC (trC0 (dropC σ) t p)) p (σ 1 3).toNat (σ 1 4).toNat ((trC0 (dropC σ) t p, []), trR0 (dropR (trC σ t p)) t)).2
noncomputable def trR (σ : cs_S) (t p : Int) : cs_S := paR (arR (scR σ t p))
theorem trR0_v (σ : cs_S) (t : Int) : (trR0 (dropR σ) t 10 0 = σ 10 0 ∧ trR0 (dropR σ) t 10 1 = σ 10 1 ∧ trR0 (dropR σ) t 10 9 = t ∧ trR0 (dropR σ) t 10 7 = 0 ∧ trR0 (dropR σ) t 10 8 = 0) ∧ trR0 (dropR σ) t 28 = σ 28 ∧ trR0 (dropR σ) t 40 = afl (σ 40) 221 0 := by
  simp [trR0, dropR, cs_set, au]
theorem trR0_fr {σ : cs_S} {t : Int} {q : Nat} (h : FrR q) : trR0 (dropR σ) t q = σ q := by
  unfold FrR at h
  unfold trR0 dropR
  rw [cs_set_ne (by omega), cs_set_ne (by omega), cs_set_ne (by omega)]
theorem scR_fr {σ : cs_S} {t p : Int} {q : Nat} (h : FrR q) : scR σ t p q = trC σ t p q := by
  unfold scR
  rw [scanP_fr h]
  exact trR0_fr h
theorem scR_run {σ : cs_S} {t p cn : Int} (hJ : PicS σ) (ht : 1 ≤ t) (hcn : cn = 4 ∨ cn = 8) (hp : p = if cn = 4 then 1 else 3) (a : Option Int) : w_X10_trace_3 [none, a, some cn, some 0, none] (trR0 (dropR (trC σ t p)) t) = some (.inl ([none, a, some cn, some (σ 1 4), some (σ 1 3)], scR σ t p)) ∧ SR (insC (trC0 (dropC σ) t p)) p (trR0 (dropR (trC σ t p)) t) (scC σ t p).1 (scC σ t p).2 (scR σ t p) := by
  obtain ⟨hz, j1, j2, j3⟩ := hJ
  obtain ⟨h1, h2, h3, h4, h5⟩ := SI_start σ t p hz
  obtain ⟨⟨v0, v1, v9, v7, v8⟩, v28, v40⟩ := trR0_v (trC σ t p) t
  have f10 : trC σ t p 10 = σ 10 := trC_fr (Or.inr (Or.inl (by decide)))
  have f28 : trC σ t p 28 = σ 28 := trC_fr (Or.inr (Or.inr (by decide)))
  rw [f10] at v0 v1
  rw [f28] at v28
  have hI : insR (trR0 (dropR (trC σ t p)) t) = insC (trC0 (dropC σ) t p) := by
    unfold insR insC
    rw [v0, v1, v9, v28, h3, h4, h5, j1, j2, j3]
  obtain ⟨rf, hrf⟩ : ∃ rf : Int, rf = if cn = 4 then 1 else 0 := ⟨_, rfl⟩
  have hrp : (rf = 1 ∧ (trC0 (dropC σ) t p) 5 4 = 1) ∨ (rf = 0 ∧ (trC0 (dropC σ) t p) 5 4 = 3) := by
    rw [h2]
    rcases hcn with rfl | rfl
    · left; rw [hrf, hp]; simp
    · right; rw [hrf, hp]; simp
  have hd4 : trC0 (dropC σ) t p 4 2 = 0 := by simp [trC0, dropC, cs_set, au]
  have hstart : IRr (trC0 (dropC σ) t p) (trR0 (dropR (trC σ t p)) t) ((trC0 (dropC σ) t p, []), trR0 (dropR (trC σ t p)) t) := by
    unfold IRr
    dsimp only
    refine ⟨h1, ⟨fun _ _ _ => rfl, rfl⟩, by rw [v7]; rfl, ⟨by rw [v8, hd4], fun v hv => by rw [hd4] at hv; omega⟩, fun c hc => absurd hc (Nat.not_lt_zero c), fun x y hx hy hy2 => ?_⟩
    rw [v40]
    unfold afl
    rw [if_pos (by unfold cix; omega)]
    simp [arws]
  have hs := scanr_all (σ0 := trC0 (dropC σ) t p) (τ0 := trR0 (dropR (trC σ t p)) t) (cn := cn) (by rw [h4]; exact hz) (by rw [h3]; exact ht) hrf hrp hI ⟨by rw [v0, h4, j1], by rw [v1, h4, j2]⟩ a _ hstart
  rw [h2, h4] at hs
  refine ⟨hs.1, ?_⟩
  have := hs.2.2
  rw [scanP_fst, h2] at this
  exact this
/-- what holds of class and reference after the scans -/
theorem scR_J {σ : cs_S} {t p cn : Int} (hJ : PicS σ) (ht : 1 ≤ t) (hcn : cn = 4 ∨ cn = 8) (hp : p = if cn = 4 then 1 else 3) : scR σ t p 4 = (scC σ t p).1 4 ∧ SameV (scR σ t p) (scC σ t p).1 ∧ scR σ t p 18 = arC (scC σ t p).1 18 ∧ CSo (scR σ t p) ∧ Full (scR σ t p) ∧ RR (scR σ t p) ∧ Pos1 (scR σ t p) ∧ ArJ (scR σ t p) := by
  have hp' : p = 1 ∨ p = 3 := by by_cases q : cn = 4 <;> simp [q] at hp <;> omega
  obtain ⟨-, hSI⟩ := SI_trC hJ.1 ht hp' none none
  obtain ⟨-, hSR⟩ := scR_run hJ ht hcn hp none
  have fr : ∀ q, FrR q → scR σ t p q = trC σ t p q := fun q h => scR_fr h
  obtain ⟨a1, a2, -⟩ := arC_v (scC σ t p).1
  obtain ⟨p1, p2, -, -, p5⟩ := paC_v (arC (scC σ t p).1)
  have e4 : scR σ t p 4 = (scC σ t p).1 4 := by rw [fr 4 (by unfold FrR; omega)]; exact p2.trans a2
  have e18 : scR σ t p 18 = arC (scC σ t p).1 18 := by rw [fr 18 (by unfold FrR; omega)]; exact p5
  have eV : SameV (scR σ t p) (scC σ t p).1 := by
    obtain ⟨u1, u2, u3, u4, u5⟩ := p1
    obtain ⟨w1, w2, w3, w4, w5⟩ := a1
    refine ⟨?_, ?_, ?_, ?_, ?_⟩
    · rw [fr 15 (by unfold FrR; omega)]; exact u1.trans w1
    · rw [fr 20 (by unfold FrR; omega)]; exact u2.trans w2
    · rw [fr 21 (by unfold FrR; omega)]; exact u3.trans w3
    · rw [fr 22 (by unfold FrR; omega)]; exact u4.trans w4
    · rw [fr 23 (by unfold FrR; omega)]; exact u5.trans w5
  have hA := arC_A hSI.2.1.1
  obtain ⟨-, ⟨c1, c2, c3, c4⟩, hG, -⟩ := hSI
  obtain ⟨-, r7, hRL, hrow, -⟩ := hSR
  generalize (scC σ t p).1 = κ at *
  generalize (scC σ t p).2 = G at *
  generalize scR σ t p = τ at *
  refine ⟨e4, eV, e18, (CSoS e4 eV).mpr c1, ?_, ?_, ?_, ?_⟩
  · unfold Full; rw [e4, eV.1]; exact c4
  · refine ⟨by rw [r7, e4, hG], ?_, fun c hc => ?_⟩
    · unfold RlC; rw [e4, eV.2.2.1, eV.2.2.2.1, eV.2.2.2.2]; exact hRL
    · rw [e4] at hc
      obtain ⟨y1, y2, -⟩ := hrow c (by omega)
      rw [eV.1]; exact ⟨y1, y2⟩
  · refine Pos1_S e4 eV (fun c hc => ⟨κ 15 c, ⟨Int.le_refl _, c4 c hc⟩, ?_⟩)
    have b := c1.2.1 c hc
    have f := c4 c hc
    have := c3 (κ 15 c).toNat (by omega)
    simp [Pr, this]
  · unfold ArJ; rw [e4, e18]
    unfold ArJ at hA
    rw [(arC_v κ).2.1] at hA
    exact hA
theorem f_traceR {σ : cs_S} {t cn p : Int} (hJ : PicS σ) (ho : okT t cn) (hp : p = if cn = 4 then 1 else 3) : f_X10_trace [t, cn] (trC σ t p) = some (some (trR σ t p 10 7), trR σ t p) := by
  obtain ⟨q1, q2⟩ := ho
  have hw := f_within t 1 9 (trC σ t p)
  rw [if_pos q1] at hw
  have hd := f_dropR (trC σ t p)
  obtain ⟨l3, -⟩ := scR_run hJ q1.1 q2 hp (some t)
  obtain ⟨e4, eV, e18, hC, hF, hR, hP, hA⟩ := scR_J hJ q1.1 q2 hp
  have l4 := loop_arR hC hR hP (some t) (some cn) (some (σ 1 3))
  have hV : SameV (arR (scR σ t p)) (scR σ t p) := set_SameV (by decide)
  have h4 : arR (scR σ t p) 4 = scR σ t p 4 := cs_set_ne (by decide)
  have h18 : arR (scR σ t p) 18 = scR σ t p 18 := cs_set_ne (by decide)
  have hA2 : ArR (arR (scR σ t p)) := by
    intro c hc
    rw [h4] at hc
    rw [h18, e18]
    unfold arR arC
    rw [cs_set_at, cs_set_at, if_pos hc, if_pos (by rw [← e4]; exact hc), SameV_area eV]
  have l5 := loop_paR ((CSoS h4 hV).mpr hC) (by unfold Full; rw [h4, hV.1]; exact hF) (RR_set (Or.inl rfl) hR) (Pos1_S h4 hV hP) (by unfold ArJ; rw [h4, h18]; exact hA) hA2 (some t) (some cn) (some (σ 1 3))
  have l1 := loop_cl40 (cs_set (dropR (trC σ t p)) 10 (au (dropR (trC σ t p) 10) 9 t)) (some t) (some cn) none
  have e40 : cs_set (dropR (trC σ t p)) 10 (au (dropR (trC σ t p) 10) 9 t) 40 = dropR (trC σ t p) 40 := cs_set_ne (by decide)
  rw [e40] at l1
  have l1' : w_X10_trace_1 [none, some t, some cn, some 0, none] (cs_set (dropR (trC σ t p)) 10 (au (dropR (trC σ t p) 10) 9 t)) = some (.inl ([none, some t, some cn, some 221, none], trR0 (dropR (trC σ t p)) t)) := l1
  unfold trR
  generalize trR0 (dropR (trC σ t p)) t = τ0 at *
  generalize dropR (trC σ t p) = δ at *
  generalize trC σ t p = σ1 at *
  generalize paR (arR (scR σ t p)) = ρ2 at *
  generalize arR (scR σ t p) = ρ1 at *
  generalize scR σ t p = ρ at *
  have g0 : (s_if (y_or (y_not (y_ne (x_call f_X10_within (g_cons (x_l 1) (g_cons (x_k 1) (g_cons (x_k 9) g_nil)))) (x_k 0))) (y_and (y_ne (x_l 2) (x_k 4)) (y_ne (x_l 2) (x_k 8)))) (s_ret (x_k (-1003))) s_nop) [none, some t, some cn, none, none] σ1 = some (.inl ([none, some t, some cn, none, none], σ1)) := by
    rcases q2 with rfl | rfl
    · simp only [cs_run, cs_L0, s_ret, s_retz, s_retv, s_seq, s_set, s_inc, s_put, s_ast, s_zst, s_cst, s_ada, s_if, s_ex, s_cv, s_nop, s_brk, x_ite, x_l, x_k, x_f, x_a, x_ro, x_add, x_sub, x_mul, x_div, x_rem, x_neg, x_call, x_max, x_min, x_abs, g_cons, g_nil, y_lt, y_le, y_gt, y_ge, y_eq, y_ne, y_not, y_and, y_or, y_ite, Option.bind_some, Option.bind_none, List.getElem?_cons_zero, List.getElem?_cons_succ, List.getElem?_nil, List.set_cons_zero, List.set_cons_succ, List.cons_append, List.nil_append, List.append_nil, List.replicate, List.length_cons, List.length_nil, Nat.reduceAdd, Nat.reduceSub, Nat.zero_add, Nat.sub_self, if_true, if_false, ite_true, ite_false, reduceIte, reduceCtorEq, decide_true, decide_false, decide_eq_true_eq, Bool.not_true, Bool.not_false, Bool.true_and, Bool.false_and, Bool.and_true, Bool.and_false, Bool.true_or, Bool.false_or, Bool.false_eq_true, Bool.true_eq_false, not_true_eq_false, not_false_eq_true, ne_eq, Int.reduceEq, Int.reduceNe, Int.reduceLT, Int.reduceLE, and_self, and_true, true_and, and_false, false_and, or_true, true_or, or_false, false_or, true_or, Option.map_some, hw]
    · simp only [cs_run, cs_L0, s_ret, s_retz, s_retv, s_seq, s_set, s_inc, s_put, s_ast, s_zst, s_cst, s_ada, s_if, s_ex, s_cv, s_nop, s_brk, x_ite, x_l, x_k, x_f, x_a, x_ro, x_add, x_sub, x_mul, x_div, x_rem, x_neg, x_call, x_max, x_min, x_abs, g_cons, g_nil, y_lt, y_le, y_gt, y_ge, y_eq, y_ne, y_not, y_and, y_or, y_ite, Option.bind_some, Option.bind_none, List.getElem?_cons_zero, List.getElem?_cons_succ, List.getElem?_nil, List.set_cons_zero, List.set_cons_succ, List.cons_append, List.nil_append, List.append_nil, List.replicate, List.length_cons, List.length_nil, Nat.reduceAdd, Nat.reduceSub, Nat.zero_add, Nat.sub_self, if_true, if_false, ite_true, ite_false, reduceIte, reduceCtorEq, decide_true, decide_false, decide_eq_true_eq, Bool.not_true, Bool.not_false, Bool.true_and, Bool.false_and, Bool.and_true, Bool.and_false, Bool.true_or, Bool.false_or, Bool.false_eq_true, Bool.true_eq_false, not_true_eq_false, not_false_eq_true, ne_eq, Int.reduceEq, Int.reduceNe, Int.reduceLT, Int.reduceLE, and_self, and_true, true_and, and_false, false_and, or_true, true_or, or_false, false_or, true_or, Option.map_some, hw]
  have g1 : (s_cv f_X10_noContours g_nil) [none, some t, some cn, none, none] σ1 = some (.inl ([none, some t, some cn, none, none], δ)) := by simp only [cs_run, cs_L0, s_ret, s_retz, s_retv, s_seq, s_set, s_inc, s_put, s_ast, s_zst, s_cst, s_ada, s_if, s_ex, s_cv, s_nop, s_brk, x_ite, x_l, x_k, x_f, x_a, x_ro, x_add, x_sub, x_mul, x_div, x_rem, x_neg, x_call, x_max, x_min, x_abs, g_cons, g_nil, y_lt, y_le, y_gt, y_ge, y_eq, y_ne, y_not, y_and, y_or, y_ite, Option.bind_some, Option.bind_none, List.getElem?_cons_zero, List.getElem?_cons_succ, List.getElem?_nil, List.set_cons_zero, List.set_cons_succ, List.cons_append, List.nil_append, List.append_nil, List.replicate, List.length_cons, List.length_nil, Nat.reduceAdd, Nat.reduceSub, Nat.zero_add, Nat.sub_self, if_true, if_false, ite_true, ite_false, reduceIte, reduceCtorEq, decide_true, decide_false, decide_eq_true_eq, Bool.not_true, Bool.not_false, Bool.true_and, Bool.false_and, Bool.and_true, Bool.and_false, Bool.true_or, Bool.false_or, Bool.false_eq_true, Bool.true_eq_false, not_true_eq_false, not_false_eq_true, ne_eq, Int.reduceEq, Int.reduceNe, Int.reduceLT, Int.reduceLE, and_self, and_true, true_and, and_false, false_and, or_true, true_or, or_false, false_or, true_or, Option.map_some, hd]
  have g2 : (s_put 10 9 (x_l 1)) [none, some t, some cn, none, none] δ = some (.inl ([none, some t, some cn, none, none], cs_set δ 10 (au (δ 10) 9 t))) := by simp only [cs_run, cs_L0, s_ret, s_retz, s_retv, s_seq, s_set, s_inc, s_put, s_ast, s_zst, s_cst, s_ada, s_if, s_ex, s_cv, s_nop, s_brk, x_ite, x_l, x_k, x_f, x_a, x_ro, x_add, x_sub, x_mul, x_div, x_rem, x_neg, x_call, x_max, x_min, x_abs, g_cons, g_nil, y_lt, y_le, y_gt, y_ge, y_eq, y_ne, y_not, y_and, y_or, y_ite, Option.bind_some, Option.bind_none, List.getElem?_cons_zero, List.getElem?_cons_succ, List.getElem?_nil, List.set_cons_zero, List.set_cons_succ, List.cons_append, List.nil_append, List.append_nil, List.replicate, List.length_cons, List.length_nil, Nat.reduceAdd, Nat.reduceSub, Nat.zero_add, Nat.sub_self, if_true, if_false, ite_true, ite_false, reduceIte, reduceCtorEq, decide_true, decide_false, decide_eq_true_eq, Bool.not_true, Bool.not_false, Bool.true_and, Bool.false_and, Bool.and_true, Bool.and_false, Bool.true_or, Bool.false_or, Bool.false_eq_true, Bool.true_eq_false, not_true_eq_false, not_false_eq_true, ne_eq, Int.reduceEq, Int.reduceNe, Int.reduceLT, Int.reduceLE, and_self, and_true, true_and, and_false, false_and, or_true, true_or, or_false, false_or, true_or, Option.map_some, cs_up_eq]
  have q1 : ∀ (l3 l4 : Option Int) (ρ : cs_S), (s_set 3 (x_k 0)) [none, some t, some cn, l3, l4] ρ = some (.inl ([none, some t, some cn, some 0, l4], ρ)) := fun _ _ _ => by simp only [cs_run, cs_L0, s_ret, s_retz, s_retv, s_seq, s_set, s_inc, s_put, s_ast, s_zst, s_cst, s_ada, s_if, s_ex, s_cv, s_nop, s_brk, x_ite, x_l, x_k, x_f, x_a, x_ro, x_add, x_sub, x_mul, x_div, x_rem, x_neg, x_call, x_max, x_min, x_abs, g_cons, g_nil, y_lt, y_le, y_gt, y_ge, y_eq, y_ne, y_not, y_and, y_or, y_ite, Option.bind_some, Option.bind_none, List.getElem?_cons_zero, List.getElem?_cons_succ, List.getElem?_nil, List.set_cons_zero, List.set_cons_succ, List.cons_append, List.nil_append, List.append_nil, List.replicate, List.length_cons, List.length_nil, Nat.reduceAdd, Nat.reduceSub, Nat.zero_add, Nat.sub_self, if_true, if_false, ite_true, ite_false, reduceIte, reduceCtorEq, decide_true, decide_false, decide_eq_true_eq, Bool.not_true, Bool.not_false, Bool.true_and, Bool.false_and, Bool.and_true, Bool.and_false, Bool.true_or, Bool.false_or, Bool.false_eq_true, Bool.true_eq_false, not_true_eq_false, not_false_eq_true, ne_eq, Int.reduceEq, Int.reduceNe, Int.reduceLT, Int.reduceLE, and_self, and_true, true_and, and_false, false_and, or_true, true_or, or_false, false_or, true_or, Option.map_some]
  unfold f_X10_trace b_X10_trace cs_run
  simp only [cs_L0, Option.bind_some, Option.bind_none, List.getElem?_cons_zero, List.getElem?_cons_succ, List.getElem?_nil, List.set_cons_zero, List.set_cons_succ, List.cons_append, List.nil_append, List.append_nil, List.replicate, List.length_cons, List.length_nil, Nat.reduceAdd, Nat.reduceSub, Nat.zero_add, Nat.sub_self, if_true, if_false, ite_true, ite_false, reduceIte, reduceCtorEq, decide_true, decide_false, decide_eq_true_eq, Bool.not_true, Bool.not_false, Bool.true_and, Bool.false_and, Bool.and_true, Bool.and_false, Bool.true_or, Bool.false_or, Bool.false_eq_true, Bool.true_eq_false, not_true_eq_false, not_false_eq_true, ne_eq, Int.reduceEq, Int.reduceNe, Int.reduceLT, Int.reduceLE, and_self, and_true, true_and, and_false, false_and, or_true, true_or, or_false, false_or, true_or, Option.map_some]
  rw [sq_st g0, sq_st g1, sq_st g2, sq_assoc, sq_st (q1 _ _ _), sq_st l1', sq_assoc, sq_st (q1 _ _ _), sq_st l3, sq_assoc, sq_st (q1 _ _ _), sq_st l4, sq_assoc, sq_st (q1 _ _ _), sq_st l5]
  simp only [cs_run, cs_L0, s_ret, s_retz, s_retv, s_seq, s_set, s_inc, s_put, s_ast, s_zst, s_cst, s_ada, s_if, s_ex, s_cv, s_nop, s_brk, x_ite, x_l, x_k, x_f, x_a, x_ro, x_add, x_sub, x_mul, x_div, x_rem, x_neg, x_call, x_max, x_min, x_abs, g_cons, g_nil, y_lt, y_le, y_gt, y_ge, y_eq, y_ne, y_not, y_and, y_or, y_ite, Option.bind_some, Option.bind_none, List.getElem?_cons_zero, List.getElem?_cons_succ, List.getElem?_nil, List.set_cons_zero, List.set_cons_succ, List.cons_append, List.nil_append, List.append_nil, List.replicate, List.length_cons, List.length_nil, Nat.reduceAdd, Nat.reduceSub, Nat.zero_add, Nat.sub_self, if_true, if_false, ite_true, ite_false, reduceIte, reduceCtorEq, decide_true, decide_false, decide_eq_true_eq, Bool.not_true, Bool.not_false, Bool.true_and, Bool.false_and, Bool.and_true, Bool.and_false, Bool.true_or, Bool.false_or, Bool.false_eq_true, Bool.true_eq_false, not_true_eq_false, not_false_eq_true, ne_eq, Int.reduceEq, Int.reduceNe, Int.reduceLT, Int.reduceLE, and_self, and_true, true_and, and_false, false_and, or_true, true_or, or_false, false_or, true_or, Option.map_some]
theorem f_traceRn {σ : cs_S} {t cn : Int} (hn : ¬ okT t cn) : f_X10_trace [t, cn] σ = some (some (-1003), σ) := by
  have hw := f_within t 1 9 σ
  by_cases q1 : 1 ≤ t ∧ t ≤ 9
  · have q2 : ¬ cn = 4 := fun q => hn ⟨q1, Or.inl q⟩
    have q3 : ¬ cn = 8 := fun q => hn ⟨q1, Or.inr q⟩
    rw [if_pos q1] at hw
    simp only [f_X10_trace, b_X10_trace, cs_run, cs_L0, s_ret, s_retz, s_retv, s_seq, s_set, s_inc, s_put, s_ast, s_zst, s_cst, s_ada, s_if, s_ex, s_cv, s_nop, s_brk, x_ite, x_l, x_k, x_f, x_a, x_ro, x_add, x_sub, x_mul, x_div, x_rem, x_neg, x_call, x_max, x_min, x_abs, g_cons, g_nil, y_lt, y_le, y_gt, y_ge, y_eq, y_ne, y_not, y_and, y_or, y_ite, Option.bind_some, Option.bind_none, List.getElem?_cons_zero, List.getElem?_cons_succ, List.getElem?_nil, List.set_cons_zero, List.set_cons_succ, List.cons_append, List.nil_append, List.append_nil, List.replicate, List.length_cons, List.length_nil, Nat.reduceAdd, Nat.reduceSub, Nat.zero_add, Nat.sub_self, if_true, if_false, ite_true, ite_false, reduceIte, reduceCtorEq, decide_true, decide_false, decide_eq_true_eq, Bool.not_true, Bool.not_false, Bool.true_and, Bool.false_and, Bool.and_true, Bool.and_false, Bool.true_or, Bool.false_or, Bool.false_eq_true, Bool.true_eq_false, not_true_eq_false, not_false_eq_true, ne_eq, Int.reduceEq, Int.reduceNe, Int.reduceLT, Int.reduceLE, and_self, and_true, true_and, and_false, false_and, or_true, true_or, or_false, false_or, true_or, Option.map_some, hw, q2, q3]
  · rw [if_neg q1] at hw
    simp only [f_X10_trace, b_X10_trace, cs_run, cs_L0, s_ret, s_retz, s_retv, s_seq, s_set, s_inc, s_put, s_ast, s_zst, s_cst, s_ada, s_if, s_ex, s_cv, s_nop, s_brk, x_ite, x_l, x_k, x_f, x_a, x_ro, x_add, x_sub, x_mul, x_div, x_rem, x_neg, x_call, x_max, x_min, x_abs, g_cons, g_nil, y_lt, y_le, y_gt, y_ge, y_eq, y_ne, y_not, y_and, y_or, y_ite, Option.bind_some, Option.bind_none, List.getElem?_cons_zero, List.getElem?_cons_succ, List.getElem?_nil, List.set_cons_zero, List.set_cons_succ, List.cons_append, List.nil_append, List.append_nil, List.replicate, List.length_cons, List.length_nil, Nat.reduceAdd, Nat.reduceSub, Nat.zero_add, Nat.sub_self, if_true, if_false, ite_true, ite_false, reduceIte, reduceCtorEq, decide_true, decide_false, decide_eq_true_eq, Bool.not_true, Bool.not_false, Bool.true_and, Bool.false_and, Bool.and_true, Bool.and_false, Bool.true_or, Bool.false_or, Bool.false_eq_true, Bool.true_eq_false, not_true_eq_false, not_false_eq_true, ne_eq, Int.reduceEq, Int.reduceNe, Int.reduceLT, Int.reduceLE, and_self, and_true, true_and, and_false, false_and, or_true, true_or, or_false, false_or, true_or, Option.map_some, hw]
