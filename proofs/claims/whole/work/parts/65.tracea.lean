/-! the class's trace, whole -/
theorem fd_au (g : Int → Int) : ∀ (n : Nat) (k : Int) (a : Nat → Int), 0 ≤ k → fd (fun k a => au a k.toNat (g k)) n k a = fun c : Nat => if k ≤ c ∧ (c : Int) < k + n then g c else a c
  | 0, k, a, hk => by
    funext c
    rw [fd, if_neg (by omega)]
  | n + 1, k, a, hk => by
    rw [fd, fd_au g n (k + 1) _ (by omega)]
    funext c
    unfold au
    by_cases e : c = k.toNat
    · rw [if_neg (by omega), if_pos e, if_pos (by omega), show (c : Int) = k by omega]
    · rw [if_neg e]
      by_cases q : k ≤ c ∧ (c : Int) < k + (n + 1 : Nat)
      · rw [if_pos q, if_pos (by omega)]
      · rw [if_neg q, if_neg (by omega)]
def SameV (τ σ : cs_S) : Prop := τ 15 = σ 15 ∧ τ 20 = σ 20 ∧ τ 21 = σ 21 ∧ τ 22 = σ 22 ∧ τ 23 = σ 23
theorem SameV_f {τ σ : cs_S} (h : SameV τ σ) : Pr τ = Pr σ ∧ fs τ = fs σ ∧ es τ = es σ ∧ vX τ = vX σ ∧ vY τ = vY σ := by
  obtain ⟨h15, h20, h21, h22, h23⟩ := h
  refine ⟨?_, ?_, ?_, ?_, ?_⟩ <;> funext v
  · unfold Pr; rw [h23]
  · unfold fs; rw [h15, h20]
  · unfold es; rw [h15, h20]
  · unfold vX; rw [h21]
  · unfold vY; rw [h22]
theorem SameV_aft {τ σ : cs_S} (h : SameV τ σ) : aftS τ = aftS σ ∧ befS τ = befS σ := by
  obtain ⟨p1, p2, p3, p4, p5⟩ := SameV_f h
  constructor <;> funext v
  · unfold aftS; rw [p1, p2, p3]
  · unfold befS; rw [p1, p2, p3]
theorem SameV_area {τ σ : cs_S} (h : SameV τ σ) : areaS τ = areaS σ := by
  obtain ⟨p1, p2, p3, p4, p5⟩ := SameV_f h
  obtain ⟨a1, -⟩ := SameV_aft h
  have : arF τ = arF σ := by funext v s; unfold arF; rw [p1, p4, p5, a1]
  funext c; unfold areaS; rw [this, h.1]
theorem SameV_pip {τ σ : cs_S} (h : SameV τ σ) : pipS τ = pipS σ := by
  obtain ⟨p1, p2, p3, p4, p5⟩ := SameV_f h
  obtain ⟨a1, -⟩ := SameV_aft h
  have hc : crs τ = crs σ := by funext a b px py; unfold crs; rw [p4, p5]
  have : piF τ = piF σ := by funext px py v acc; unfold piF; rw [p1, a1, hc]
  funext c px py; unfold pipS; rw [this, h.1]
theorem SameV_par {τ σ : cs_S} (h : SameV τ σ) (h18 : τ 18 = σ 18) (h4 : τ 4 1 = σ 4 1) : parS τ = parS σ := by
  obtain ⟨p1, p2, p3, p4, p5⟩ := SameV_f h
  have hp := SameV_pip h
  have : paF τ = paF σ := by funext c px py k p; unfold paF; rw [hp, h18]
  funext c; unfold parS ppx ppy; rw [this, h.1, h18, p4, p5, h4]
def CSoS {τ σ : cs_S} (h4 : τ 4 = σ 4) (h : SameV τ σ) : CSo τ ↔ CSo σ := CSo_congr h4 h.1 h.2.1 h.2.2.1 h.2.2.2.1
def arC (σ : cs_S) : cs_S := cs_set σ 18 (fun c : Nat => if (c : Int) < σ 4 1 then areaS σ c else σ 18 c)
def paC (σ : cs_S) : cs_S := cs_set σ 17 (fun c : Nat => if (c : Int) < σ 4 1 then parS σ c else σ 17 c)
theorem set_SameV {σ : cs_S} {p : Nat} {a : Nat → Int} (h : p ≠ 15 ∧ p ≠ 20 ∧ p ≠ 21 ∧ p ≠ 22 ∧ p ≠ 23) : SameV (cs_set σ p a) σ := by
  obtain ⟨h1, h2, h3, h4, h5⟩ := h
  exact ⟨cs_set_ne (Ne.symm h1), cs_set_ne (Ne.symm h2), cs_set_ne (Ne.symm h3), cs_set_ne (Ne.symm h4), cs_set_ne (Ne.symm h5)⟩
theorem loop_ar {σ : cs_S} (h : CSo σ) (a b d : Option Int) : w_X8_traceAll_4 [none, a, b, some 0, d] σ = some (.inl ([none, a, b, some (σ 4 1), d], arC σ)) := by
  have hb := h.1
  have hh := wh_for (c := wc_X8_traceAll_4) (b := wb_X8_traceAll_4) (fun k (_ : Nat → Int) => [none, a, b, some k, d]) (fun s => cs_set σ 18 s) (fun k s => au s k.toNat (areaS σ k)) (fun k _ => 0 ≤ k) (σ 4 1)
    (fun k s hI => by
      have e : cs_set σ 18 s 4 = σ 4 := cs_set_ne (by decide)
      simp only [wc_X8_traceAll_4, cs_run, cs_L0, s_ret, s_retz, s_retv, s_seq, s_set, s_inc, s_put, s_ast, s_zst, s_cst, s_ada, s_if, s_ex, s_cv, s_nop, s_brk, x_ite, x_l, x_k, x_f, x_a, x_ro, x_add, x_sub, x_mul, x_div, x_rem, x_neg, x_call, x_max, x_min, x_abs, g_cons, g_nil, y_lt, y_le, y_gt, y_ge, y_eq, y_ne, y_not, y_and, y_or, y_ite, Option.bind_some, Option.bind_none, List.getElem?_cons_zero, List.getElem?_cons_succ, List.getElem?_nil, List.set_cons_zero, List.set_cons_succ, List.cons_append, List.nil_append, List.append_nil, List.replicate, List.length_cons, List.length_nil, Nat.reduceAdd, Nat.reduceSub, Nat.zero_add, Nat.sub_self, if_true, if_false, ite_true, ite_false, reduceIte, reduceCtorEq, decide_true, decide_false, decide_eq_true_eq, Bool.not_true, Bool.not_false, Bool.true_and, Bool.false_and, Bool.and_true, Bool.and_false, Bool.true_or, Bool.false_or, Bool.false_eq_true, Bool.true_eq_false, not_true_eq_false, not_false_eq_true, ne_eq, Int.reduceEq, Int.reduceNe, Int.reduceLT, Int.reduceLE, and_self, and_true, true_and, and_false, false_and, or_true, true_or, or_false, false_or, true_or, Option.map_some, e])
    (fun k s hI hk => by
      have e : cs_set σ 18 s 4 = σ 4 := cs_set_ne (by decide)
      have hs : SameV (cs_set σ 18 s) σ := set_SameV (by decide)
      have hf := (f_doubledArea ((CSoS e hs).mpr h) (c := k) (by rw [e]; omega)).1
      rw [SameV_area hs] at hf
      have c1 : (0 : Int) ≤ k ∧ k < ((110 : Nat) : Int) := by omega
      have c2 : cs_InR (k + 1) := by omega
      refine ⟨?_, by omega⟩
      simp only [wb_X8_traceAll_4, cs_run, cs_L0, s_ret, s_retz, s_retv, s_seq, s_set, s_inc, s_put, s_ast, s_zst, s_cst, s_ada, s_if, s_ex, s_cv, s_nop, s_brk, x_ite, x_l, x_k, x_f, x_a, x_ro, x_add, x_sub, x_mul, x_div, x_rem, x_neg, x_call, x_max, x_min, x_abs, g_cons, g_nil, y_lt, y_le, y_gt, y_ge, y_eq, y_ne, y_not, y_and, y_or, y_ite, Option.bind_some, Option.bind_none, List.getElem?_cons_zero, List.getElem?_cons_succ, List.getElem?_nil, List.set_cons_zero, List.set_cons_succ, List.cons_append, List.nil_append, List.append_nil, List.replicate, List.length_cons, List.length_nil, Nat.reduceAdd, Nat.reduceSub, Nat.zero_add, Nat.sub_self, if_true, if_false, ite_true, ite_false, reduceIte, reduceCtorEq, decide_true, decide_false, decide_eq_true_eq, Bool.not_true, Bool.not_false, Bool.true_and, Bool.false_and, Bool.and_true, Bool.and_false, Bool.true_or, Bool.false_or, Bool.false_eq_true, Bool.true_eq_false, not_true_eq_false, not_false_eq_true, ne_eq, Int.reduceEq, Int.reduceNe, Int.reduceLT, Int.reduceLE, and_self, and_true, true_and, and_false, false_and, or_true, true_or, or_false, false_or, true_or, Option.map_some, hf, cs_wr_ok c1, cs_up_eq, cs_set_at, cs_set_set, cs_chk_ok c2])
    (σ 4 1).toNat 0 (σ 18) (Int.le_refl 0) (by omega)
  have hl := hh.1
  rw [cs_set_self, fd_au _ _ _ _ (Int.le_refl 0)] at hl
  have e : (fun c : Nat => if (0 : Int) ≤ c ∧ (c : Int) < 0 + ((σ 4 1).toNat : Int) then areaS σ c else σ 18 c) = fun c : Nat => if (c : Int) < σ 4 1 then areaS σ c else σ 18 c := by
    funext c
    by_cases q : (c : Int) < σ 4 1
    · rw [if_pos q, if_pos (by omega)]
    · rw [if_neg q, if_neg (by omega)]
  rw [e] at hl
  exact hl
theorem loop_pa {σ : cs_S} (h : CSo σ) (hF : Full σ) (hA : ArJ σ) (a b d : Option Int) : w_X8_traceAll_5 [none, a, b, some 0, d] σ = some (.inl ([none, a, b, some (σ 4 1), d], paC σ)) := by
  have hb := h.1
  have hh := wh_for (c := wc_X8_traceAll_5) (b := wb_X8_traceAll_5) (fun k (_ : Nat → Int) => [none, a, b, some k, d]) (fun s => cs_set σ 17 s) (fun k s => au s k.toNat (parS σ k)) (fun k _ => 0 ≤ k) (σ 4 1)
    (fun k s hI => by
      have e : cs_set σ 17 s 4 = σ 4 := cs_set_ne (by decide)
      simp only [wc_X8_traceAll_5, cs_run, cs_L0, s_ret, s_retz, s_retv, s_seq, s_set, s_inc, s_put, s_ast, s_zst, s_cst, s_ada, s_if, s_ex, s_cv, s_nop, s_brk, x_ite, x_l, x_k, x_f, x_a, x_ro, x_add, x_sub, x_mul, x_div, x_rem, x_neg, x_call, x_max, x_min, x_abs, g_cons, g_nil, y_lt, y_le, y_gt, y_ge, y_eq, y_ne, y_not, y_and, y_or, y_ite, Option.bind_some, Option.bind_none, List.getElem?_cons_zero, List.getElem?_cons_succ, List.getElem?_nil, List.set_cons_zero, List.set_cons_succ, List.cons_append, List.nil_append, List.append_nil, List.replicate, List.length_cons, List.length_nil, Nat.reduceAdd, Nat.reduceSub, Nat.zero_add, Nat.sub_self, if_true, if_false, ite_true, ite_false, reduceIte, reduceCtorEq, decide_true, decide_false, decide_eq_true_eq, Bool.not_true, Bool.not_false, Bool.true_and, Bool.false_and, Bool.and_true, Bool.and_false, Bool.true_or, Bool.false_or, Bool.false_eq_true, Bool.true_eq_false, not_true_eq_false, not_false_eq_true, ne_eq, Int.reduceEq, Int.reduceNe, Int.reduceLT, Int.reduceLE, and_self, and_true, true_and, and_false, false_and, or_true, true_or, or_false, false_or, true_or, Option.map_some, e])
    (fun k s hI hk => by
      have e : cs_set σ 17 s 4 = σ 4 := cs_set_ne (by decide)
      have e18 : cs_set σ 17 s 18 = σ 18 := cs_set_ne (by decide)
      have hs : SameV (cs_set σ 17 s) σ := set_SameV (by decide)
      have hf := (f_parentOf ((CSoS e hs).mpr h) (c := k) (by unfold Full; rw [e, hs.1]; exact hF) (by unfold ArJ; rw [e, e18]; exact hA) (by rw [e]; omega)).1
      rw [SameV_par hs e18 (by rw [e])] at hf
      have c1 : (0 : Int) ≤ k ∧ k < ((110 : Nat) : Int) := by omega
      have c2 : cs_InR (k + 1) := by omega
      refine ⟨?_, by omega⟩
      simp only [wb_X8_traceAll_5, cs_run, cs_L0, s_ret, s_retz, s_retv, s_seq, s_set, s_inc, s_put, s_ast, s_zst, s_cst, s_ada, s_if, s_ex, s_cv, s_nop, s_brk, x_ite, x_l, x_k, x_f, x_a, x_ro, x_add, x_sub, x_mul, x_div, x_rem, x_neg, x_call, x_max, x_min, x_abs, g_cons, g_nil, y_lt, y_le, y_gt, y_ge, y_eq, y_ne, y_not, y_and, y_or, y_ite, Option.bind_some, Option.bind_none, List.getElem?_cons_zero, List.getElem?_cons_succ, List.getElem?_nil, List.set_cons_zero, List.set_cons_succ, List.cons_append, List.nil_append, List.append_nil, List.replicate, List.length_cons, List.length_nil, Nat.reduceAdd, Nat.reduceSub, Nat.zero_add, Nat.sub_self, if_true, if_false, ite_true, ite_false, reduceIte, reduceCtorEq, decide_true, decide_false, decide_eq_true_eq, Bool.not_true, Bool.not_false, Bool.true_and, Bool.false_and, Bool.and_true, Bool.and_false, Bool.true_or, Bool.false_or, Bool.false_eq_true, Bool.true_eq_false, not_true_eq_false, not_false_eq_true, ne_eq, Int.reduceEq, Int.reduceNe, Int.reduceLT, Int.reduceLE, and_self, and_true, true_and, and_false, false_and, or_true, true_or, or_false, false_or, true_or, Option.map_some, hf, cs_wr_ok c1, cs_up_eq, cs_set_at, cs_set_set, cs_chk_ok c2])
    (σ 4 1).toNat 0 (σ 17) (Int.le_refl 0) (by omega)
  have hl := hh.1
  rw [cs_set_self, fd_au _ _ _ _ (Int.le_refl 0)] at hl
  have e : (fun c : Nat => if (0 : Int) ≤ c ∧ (c : Int) < 0 + ((σ 4 1).toNat : Int) then parS σ c else σ 17 c) = fun c : Nat => if (c : Int) < σ 4 1 then parS σ c else σ 17 c := by
    funext c
    by_cases q : (c : Int) < σ 4 1
    · rw [if_pos q, if_pos (by omega)]
    · rw [if_neg q, if_neg (by omega)]
  rw [e] at hl
  exact hl
theorem loop_cl25 (σ : cs_S) (a b d : Option Int) : w_X8_traceAll_1 [none, a, b, some 0, d] σ = some (.inl ([none, a, b, some 192, d], cs_set σ 25 (afl (σ 25) 192 0))) := by
  have hh := wh_for (c := wc_X8_traceAll_1) (b := wb_X8_traceAll_1) (fun k (_ : Nat → Int) => [none, a, b, some k, d]) (fun s => cs_set σ 25 s) (fun k s => au s k.toNat ((fun _ => 0) k)) (fun k _ => 0 ≤ k) 192
    (fun k s hI => by simp only [wc_X8_traceAll_1, cs_run, cs_L0, s_ret, s_retz, s_retv, s_seq, s_set, s_inc, s_put, s_ast, s_zst, s_cst, s_ada, s_if, s_ex, s_cv, s_nop, s_brk, x_ite, x_l, x_k, x_f, x_a, x_ro, x_add, x_sub, x_mul, x_div, x_rem, x_neg, x_call, x_max, x_min, x_abs, g_cons, g_nil, y_lt, y_le, y_gt, y_ge, y_eq, y_ne, y_not, y_and, y_or, y_ite, Option.bind_some, Option.bind_none, List.getElem?_cons_zero, List.getElem?_cons_succ, List.getElem?_nil, List.set_cons_zero, List.set_cons_succ, List.cons_append, List.nil_append, List.append_nil, List.replicate, List.length_cons, List.length_nil, Nat.reduceAdd, Nat.reduceSub, Nat.zero_add, Nat.sub_self, if_true, if_false, ite_true, ite_false, reduceIte, reduceCtorEq, decide_true, decide_false, decide_eq_true_eq, Bool.not_true, Bool.not_false, Bool.true_and, Bool.false_and, Bool.and_true, Bool.and_false, Bool.true_or, Bool.false_or, Bool.false_eq_true, Bool.true_eq_false, not_true_eq_false, not_false_eq_true, ne_eq, Int.reduceEq, Int.reduceNe, Int.reduceLT, Int.reduceLE, and_self, and_true, true_and, and_false, false_and, or_true, true_or, or_false, false_or, true_or, Option.map_some])
    (fun k s hI hk => by
      have c1 : (0 : Int) ≤ k ∧ k < ((192 : Nat) : Int) := by omega
      have c2 : cs_InR (k + 1) := by omega
      refine ⟨?_, by omega⟩
      simp only [wb_X8_traceAll_1, cs_run, cs_L0, s_ret, s_retz, s_retv, s_seq, s_set, s_inc, s_put, s_ast, s_zst, s_cst, s_ada, s_if, s_ex, s_cv, s_nop, s_brk, x_ite, x_l, x_k, x_f, x_a, x_ro, x_add, x_sub, x_mul, x_div, x_rem, x_neg, x_call, x_max, x_min, x_abs, g_cons, g_nil, y_lt, y_le, y_gt, y_ge, y_eq, y_ne, y_not, y_and, y_or, y_ite, Option.bind_some, Option.bind_none, List.getElem?_cons_zero, List.getElem?_cons_succ, List.getElem?_nil, List.set_cons_zero, List.set_cons_succ, List.cons_append, List.nil_append, List.append_nil, List.replicate, List.length_cons, List.length_nil, Nat.reduceAdd, Nat.reduceSub, Nat.zero_add, Nat.sub_self, if_true, if_false, ite_true, ite_false, reduceIte, reduceCtorEq, decide_true, decide_false, decide_eq_true_eq, Bool.not_true, Bool.not_false, Bool.true_and, Bool.false_and, Bool.and_true, Bool.and_false, Bool.true_or, Bool.false_or, Bool.false_eq_true, Bool.true_eq_false, not_true_eq_false, not_false_eq_true, ne_eq, Int.reduceEq, Int.reduceNe, Int.reduceLT, Int.reduceLE, and_self, and_true, true_and, and_false, false_and, or_true, true_or, or_false, false_or, true_or, Option.map_some, cs_wr_ok c1, cs_up_eq, cs_set_at, cs_set_set, cs_chk_ok c2])
    192 0 (σ 25) (Int.le_refl 0) (by decide)
  have hl := hh.1
  rw [cs_set_self, fd_au _ _ _ _ (Int.le_refl 0)] at hl
  have e : (fun c : Nat => if (0 : Int) ≤ c ∧ (c : Int) < 0 + ((192 : Nat) : Int) then (0 : Int) else σ 25 c) = afl (σ 25) 192 0 := by
    funext c
    unfold afl
    by_cases q : c < 192
    · rw [if_pos q, if_pos (by omega)]
    · rw [if_neg q, if_neg (by omega)]
  rw [e] at hl
  exact hl
def trC0 (σ : cs_S) (t p : Int) : cs_S := cs_set (cs_set (cs_set σ 5 (au (au (σ 5) 3 t) 4 p)) 4 (au (σ 4) 0 t)) 25 (afl (σ 25) 192 0)
theorem SI_start (σ : cs_S) (t p : Int) (hz : szJ (σ 1 3) (σ 1 4)) : SI (trC0 (dropC σ) t p) (trC0 (dropC σ) t p) [] ∧ (trC0 (dropC σ) t p) 5 4 = p ∧ (trC0 (dropC σ) t p) 5 3 = t ∧ (trC0 (dropC σ) t p) 1 = σ 1 ∧ (trC0 (dropC σ) t p) 11 = σ 11 := by
  have d4 : trC0 (dropC σ) t p 4 1 = 0 ∧ trC0 (dropC σ) t p 4 2 = 0 ∧ trC0 (dropC σ) t p 4 3 = 0 := by simp [trC0, dropC, cs_set, au]
  have d24 : trC0 (dropC σ) t p 24 = afl (σ 24) 221 0 := by simp [trC0, dropC, cs_set]
  have d25 : trC0 (dropC σ) t p 25 = afl (σ 25) 192 0 := by simp [trC0, dropC, cs_set]
  have d5 : trC0 (dropC σ) t p 5 4 = p ∧ trC0 (dropC σ) t p 5 3 = t := by simp [trC0, dropC, cs_set, au]
  have d1 : trC0 (dropC σ) t p 1 = σ 1 ∧ trC0 (dropC σ) t p 11 = σ 11 := by simp [trC0, dropC, cs_set]
  refine ⟨?_, d5.1, d5.2, d1.1, d1.2⟩
  generalize trC0 (dropC σ) t p = τ at *
  obtain ⟨e1, e2, e3⟩ := d4
  refine ⟨⟨rfl, rfl, rfl⟩, ⟨⟨⟨by omega, by omega, fun _ => e2, fun q => by omega, fun q => by omega⟩, fun c q => by omega, fun v q => by omega, fun c v q => by omega, fun v q => by omega⟩, ⟨fun v q => by omega, ?_, fun c q => by omega, ?_⟩, fun v q => by omega, fun c q => by omega⟩, by rw [e1]; rfl, ways_nil, fun c g q => by simp at q, ⟨by simp, by rw [e2]; simp⟩, ?_⟩
  · rw [e3]; unfold cAll; rw [e2]; rfl
  · intro k hk; rw [d24]; unfold cAt afl; rw [e2, if_pos hk]; rfl
  · intro x y hxy
    rw [d25]
    unfold afl
    have hxy' := inP_iff.mp hxy
    rw [d1.1] at hxy'
    rw [if_pos (by unfold ix; omega)]; simp [arws]
noncomputable def scC (σ : cs_S) (t p : Int) : cs_S × GL := scanC (insC (trC0 (dropC σ) t p)) p (σ 1 3).toNat (σ 1 4).toNat (trC0 (dropC σ) t p, [])
noncomputable def trC (σ : cs_S) (t p : Int) : cs_S := paC (arC (scC σ t p).1)
theorem SI_trC {σ : cs_S} {t p : Int} (hz : szJ (σ 1 3) (σ 1 4)) (ht : 1 ≤ t) (hp : p = 1 ∨ p = 3) (a b : Option Int) : w_X8_traceAll_3 [none, a, b, some 0, none] (trC0 (dropC σ) t p) = some (.inl ([none, a, b, some (σ 1 4), some (σ 1 3)], (scC σ t p).1)) ∧ SI (trC0 (dropC σ) t p) (scC σ t p).1 (scC σ t p).2 := by
  obtain ⟨h1, h2, h3, h4, h5⟩ := SI_start σ t p hz
  unfold scC
  have hs := scan_all (σ0 := trC0 (dropC σ) t p) (by rw [h4]; exact hz) (by rw [h3]; exact ht) (by rw [h2]; exact hp) a b (trC0 (dropC σ) t p, []) h1
  rw [h2, h4] at hs
  exact hs
theorem arC_v (σ : cs_S) : SameV (arC σ) σ ∧ arC σ 4 = σ 4 ∧ arC σ 16 = σ 16 ∧ arC σ 24 = σ 24 := ⟨set_SameV (by decide), cs_set_ne (by decide), cs_set_ne (by decide), cs_set_ne (by decide)⟩
theorem paC_v (σ : cs_S) : SameV (paC σ) σ ∧ paC σ 4 = σ 4 ∧ paC σ 16 = σ 16 ∧ paC σ 24 = σ 24 ∧ paC σ 18 = σ 18 := ⟨set_SameV (by decide), cs_set_ne (by decide), cs_set_ne (by decide), cs_set_ne (by decide), cs_set_ne (by decide)⟩
theorem arC_A {σ : cs_S} (h : CSo σ) : ArJ (arC σ) := by
  intro c hc
  rw [(arC_v σ).2.1] at hc
  unfold arC
  rw [cs_set_at, if_pos hc]
  exact (f_doubledArea h (c := c) ⟨by omega, hc⟩).2
theorem f_traceAll {σ : cs_S} {t cn p : Int} (hz : szJ (σ 1 3) (σ 1 4)) (ht : 1 ≤ t) (hp : p = if cn = 4 then 1 else 3) : f_X8_traceAll [t, cn] (dropC σ) = some (none, trC σ t p) := by
  have hp' : p = 1 ∨ p = 3 := by by_cases q : cn = 4 <;> simp [q] at hp <;> omega
  obtain ⟨hs1, hs2⟩ := SI_trC hz ht hp' (some t) (some cn)
  have hcs := hs2.2.1.1
  have hfu := hs2.2.1.2.2.2
  have l4 := loop_ar hcs (some t) (some cn) (some (σ 1 3))
  obtain ⟨v1, v2, -⟩ := arC_v (scC σ t p).1
  have l5 := loop_pa ((CSoS v2 v1).mpr hcs) (by unfold Full; rw [v2, v1.1]; exact hfu) (arC_A hcs) (some t) (some cn) (some (σ 1 3))
  unfold trC
  generalize (scC σ t p).1 = κ at *
  have l1 := loop_cl25 (cs_set (cs_set (dropC σ) 5 (au (au (dropC σ 5) 3 t) 4 p)) 4 (au (dropC σ 4) 0 t)) (some t) (some cn) none
  have e25 : cs_set (cs_set (dropC σ) 5 (au (au (dropC σ 5) 3 t) 4 p)) 4 (au (dropC σ 4) 0 t) 25 = dropC σ 25 := by rw [cs_set_ne (by decide), cs_set_ne (by decide)]
  rw [e25] at l1
  have l1' : w_X8_traceAll_1 [none, some t, some cn, some 0, none] (cs_set (cs_set (dropC σ) 5 (au (au (dropC σ 5) 3 t) 4 p)) 4 (au (dropC σ 4) 0 t)) = some (.inl ([none, some t, some cn, some 192, none], trC0 (dropC σ) t p)) := l1
  generalize trC0 (dropC σ) t p = σ0 at *
  generalize dropC σ = δ at *
  have p1 : (s_put 5 3 (x_l 1)) [none, some t, some cn, none, none] δ = some (.inl ([none, some t, some cn, none, none], cs_set δ 5 (au (δ 5) 3 t))) := by simp only [cs_run, cs_L0, s_ret, s_retz, s_retv, s_seq, s_set, s_inc, s_put, s_ast, s_zst, s_cst, s_ada, s_if, s_ex, s_cv, s_nop, s_brk, x_ite, x_l, x_k, x_f, x_a, x_ro, x_add, x_sub, x_mul, x_div, x_rem, x_neg, x_call, x_max, x_min, x_abs, g_cons, g_nil, y_lt, y_le, y_gt, y_ge, y_eq, y_ne, y_not, y_and, y_or, y_ite, Option.bind_some, Option.bind_none, List.getElem?_cons_zero, List.getElem?_cons_succ, List.getElem?_nil, List.set_cons_zero, List.set_cons_succ, List.cons_append, List.nil_append, List.append_nil, List.replicate, List.length_cons, List.length_nil, Nat.reduceAdd, Nat.reduceSub, Nat.zero_add, Nat.sub_self, if_true, if_false, ite_true, ite_false, reduceIte, reduceCtorEq, decide_true, decide_false, decide_eq_true_eq, Bool.not_true, Bool.not_false, Bool.true_and, Bool.false_and, Bool.and_true, Bool.and_false, Bool.true_or, Bool.false_or, Bool.false_eq_true, Bool.true_eq_false, not_true_eq_false, not_false_eq_true, ne_eq, Int.reduceEq, Int.reduceNe, Int.reduceLT, Int.reduceLE, and_self, and_true, true_and, and_false, false_and, or_true, true_or, or_false, false_or, true_or, Option.map_some, cs_up_eq]
  have p2 : (s_put 5 4 (x_ite (y_eq (x_l 2) (x_k 4)) (x_k 1) (x_k 3))) [none, some t, some cn, none, none] (cs_set δ 5 (au (δ 5) 3 t)) = some (.inl ([none, some t, some cn, none, none], cs_set δ 5 (au (au (δ 5) 3 t) 4 p))) := by
    by_cases q : cn = 4
    · rw [if_pos q] at hp
      simp only [cs_run, cs_L0, s_ret, s_retz, s_retv, s_seq, s_set, s_inc, s_put, s_ast, s_zst, s_cst, s_ada, s_if, s_ex, s_cv, s_nop, s_brk, x_ite, x_l, x_k, x_f, x_a, x_ro, x_add, x_sub, x_mul, x_div, x_rem, x_neg, x_call, x_max, x_min, x_abs, g_cons, g_nil, y_lt, y_le, y_gt, y_ge, y_eq, y_ne, y_not, y_and, y_or, y_ite, Option.bind_some, Option.bind_none, List.getElem?_cons_zero, List.getElem?_cons_succ, List.getElem?_nil, List.set_cons_zero, List.set_cons_succ, List.cons_append, List.nil_append, List.append_nil, List.replicate, List.length_cons, List.length_nil, Nat.reduceAdd, Nat.reduceSub, Nat.zero_add, Nat.sub_self, if_true, if_false, ite_true, ite_false, reduceIte, reduceCtorEq, decide_true, decide_false, decide_eq_true_eq, Bool.not_true, Bool.not_false, Bool.true_and, Bool.false_and, Bool.and_true, Bool.and_false, Bool.true_or, Bool.false_or, Bool.false_eq_true, Bool.true_eq_false, not_true_eq_false, not_false_eq_true, ne_eq, Int.reduceEq, Int.reduceNe, Int.reduceLT, Int.reduceLE, and_self, and_true, true_and, and_false, false_and, or_true, true_or, or_false, false_or, true_or, Option.map_some, cs_up_eq, q, hp, cs_set_at, cs_set_set]
    · rw [if_neg q] at hp
      simp only [cs_run, cs_L0, s_ret, s_retz, s_retv, s_seq, s_set, s_inc, s_put, s_ast, s_zst, s_cst, s_ada, s_if, s_ex, s_cv, s_nop, s_brk, x_ite, x_l, x_k, x_f, x_a, x_ro, x_add, x_sub, x_mul, x_div, x_rem, x_neg, x_call, x_max, x_min, x_abs, g_cons, g_nil, y_lt, y_le, y_gt, y_ge, y_eq, y_ne, y_not, y_and, y_or, y_ite, Option.bind_some, Option.bind_none, List.getElem?_cons_zero, List.getElem?_cons_succ, List.getElem?_nil, List.set_cons_zero, List.set_cons_succ, List.cons_append, List.nil_append, List.append_nil, List.replicate, List.length_cons, List.length_nil, Nat.reduceAdd, Nat.reduceSub, Nat.zero_add, Nat.sub_self, if_true, if_false, ite_true, ite_false, reduceIte, reduceCtorEq, decide_true, decide_false, decide_eq_true_eq, Bool.not_true, Bool.not_false, Bool.true_and, Bool.false_and, Bool.and_true, Bool.and_false, Bool.true_or, Bool.false_or, Bool.false_eq_true, Bool.true_eq_false, not_true_eq_false, not_false_eq_true, ne_eq, Int.reduceEq, Int.reduceNe, Int.reduceLT, Int.reduceLE, and_self, and_true, true_and, and_false, false_and, or_true, true_or, or_false, false_or, true_or, Option.map_some, cs_up_eq, q, hp, cs_set_at, cs_set_set]
  have p3 : (s_put 4 0 (x_l 1)) [none, some t, some cn, none, none] (cs_set δ 5 (au (au (δ 5) 3 t) 4 p)) = some (.inl ([none, some t, some cn, none, none], cs_set (cs_set δ 5 (au (au (δ 5) 3 t) 4 p)) 4 (au (δ 4) 0 t))) := by
    have : ∀ m, cs_set δ 5 m 4 = δ 4 := fun m => cs_set_ne (by decide)
    simp only [cs_run, cs_L0, s_ret, s_retz, s_retv, s_seq, s_set, s_inc, s_put, s_ast, s_zst, s_cst, s_ada, s_if, s_ex, s_cv, s_nop, s_brk, x_ite, x_l, x_k, x_f, x_a, x_ro, x_add, x_sub, x_mul, x_div, x_rem, x_neg, x_call, x_max, x_min, x_abs, g_cons, g_nil, y_lt, y_le, y_gt, y_ge, y_eq, y_ne, y_not, y_and, y_or, y_ite, Option.bind_some, Option.bind_none, List.getElem?_cons_zero, List.getElem?_cons_succ, List.getElem?_nil, List.set_cons_zero, List.set_cons_succ, List.cons_append, List.nil_append, List.append_nil, List.replicate, List.length_cons, List.length_nil, Nat.reduceAdd, Nat.reduceSub, Nat.zero_add, Nat.sub_self, if_true, if_false, ite_true, ite_false, reduceIte, reduceCtorEq, decide_true, decide_false, decide_eq_true_eq, Bool.not_true, Bool.not_false, Bool.true_and, Bool.false_and, Bool.and_true, Bool.and_false, Bool.true_or, Bool.false_or, Bool.false_eq_true, Bool.true_eq_false, not_true_eq_false, not_false_eq_true, ne_eq, Int.reduceEq, Int.reduceNe, Int.reduceLT, Int.reduceLE, and_self, and_true, true_and, and_false, false_and, or_true, true_or, or_false, false_or, true_or, Option.map_some, cs_up_eq, this]
  have q1 : ∀ (l3 l4 : Option Int) (ρ : cs_S), (s_set 3 (x_k 0)) [none, some t, some cn, l3, l4] ρ = some (.inl ([none, some t, some cn, some 0, l4], ρ)) := fun _ _ _ => by simp only [cs_run, cs_L0, s_ret, s_retz, s_retv, s_seq, s_set, s_inc, s_put, s_ast, s_zst, s_cst, s_ada, s_if, s_ex, s_cv, s_nop, s_brk, x_ite, x_l, x_k, x_f, x_a, x_ro, x_add, x_sub, x_mul, x_div, x_rem, x_neg, x_call, x_max, x_min, x_abs, g_cons, g_nil, y_lt, y_le, y_gt, y_ge, y_eq, y_ne, y_not, y_and, y_or, y_ite, Option.bind_some, Option.bind_none, List.getElem?_cons_zero, List.getElem?_cons_succ, List.getElem?_nil, List.set_cons_zero, List.set_cons_succ, List.cons_append, List.nil_append, List.append_nil, List.replicate, List.length_cons, List.length_nil, Nat.reduceAdd, Nat.reduceSub, Nat.zero_add, Nat.sub_self, if_true, if_false, ite_true, ite_false, reduceIte, reduceCtorEq, decide_true, decide_false, decide_eq_true_eq, Bool.not_true, Bool.not_false, Bool.true_and, Bool.false_and, Bool.and_true, Bool.and_false, Bool.true_or, Bool.false_or, Bool.false_eq_true, Bool.true_eq_false, not_true_eq_false, not_false_eq_true, ne_eq, Int.reduceEq, Int.reduceNe, Int.reduceLT, Int.reduceLE, and_self, and_true, true_and, and_false, false_and, or_true, true_or, or_false, false_or, true_or, Option.map_some]
  unfold f_X8_traceAll b_X8_traceAll cs_run
  simp only [cs_L0, Option.bind_some, Option.bind_none, List.getElem?_cons_zero, List.getElem?_cons_succ, List.getElem?_nil, List.set_cons_zero, List.set_cons_succ, List.cons_append, List.nil_append, List.append_nil, List.replicate, List.length_cons, List.length_nil, Nat.reduceAdd, Nat.reduceSub, Nat.zero_add, Nat.sub_self, if_true, if_false, ite_true, ite_false, reduceIte, reduceCtorEq, decide_true, decide_false, decide_eq_true_eq, Bool.not_true, Bool.not_false, Bool.true_and, Bool.false_and, Bool.and_true, Bool.and_false, Bool.true_or, Bool.false_or, Bool.false_eq_true, Bool.true_eq_false, not_true_eq_false, not_false_eq_true, ne_eq, Int.reduceEq, Int.reduceNe, Int.reduceLT, Int.reduceLE, and_self, and_true, true_and, and_false, false_and, or_true, true_or, or_false, false_or, true_or, Option.map_some]
  rw [sq_st p1, sq_st p2, sq_st p3, sq_assoc, sq_st (q1 _ _ _), sq_st l1', sq_assoc, sq_st (q1 _ _ _), sq_st hs1, sq_assoc, sq_st (q1 _ _ _), sq_st l4, sq_assoc, sq_st (q1 _ _ _), sq_st l5]
  simp only [s_retv]
def okT (t cn : Int) : Prop := (1 ≤ t ∧ t ≤ 9) ∧ (cn = 4 ∨ cn = 8)
theorem f_traceC {σ : cs_S} {t cn : Int} (hz : szJ (σ 1 3) (σ 1 4)) : (¬ okT t cn → f_X9_trace [t, cn] σ = some (some (-1003), σ)) ∧ (okT t cn → f_X9_trace [t, cn] σ = some (some (trC σ t (if cn = 4 then 1 else 3) 4 1), trC σ t (if cn = 4 then 1 else 3))) := by
  have hw := f_isWithin t 1 9 σ
  constructor
  · intro hn
    by_cases q1 : 1 ≤ t ∧ t ≤ 9
    · have q2 : ¬ cn = 4 := fun q => hn ⟨q1, Or.inl q⟩
      have q3 : ¬ cn = 8 := fun q => hn ⟨q1, Or.inr q⟩
      rw [if_pos q1] at hw
      simp only [f_X9_trace, b_X9_trace, cs_run, cs_L0, s_ret, s_retz, s_retv, s_seq, s_set, s_inc, s_put, s_ast, s_zst, s_cst, s_ada, s_if, s_ex, s_cv, s_nop, s_brk, x_ite, x_l, x_k, x_f, x_a, x_ro, x_add, x_sub, x_mul, x_div, x_rem, x_neg, x_call, x_max, x_min, x_abs, g_cons, g_nil, y_lt, y_le, y_gt, y_ge, y_eq, y_ne, y_not, y_and, y_or, y_ite, Option.bind_some, Option.bind_none, List.getElem?_cons_zero, List.getElem?_cons_succ, List.getElem?_nil, List.set_cons_zero, List.set_cons_succ, List.cons_append, List.nil_append, List.append_nil, List.replicate, List.length_cons, List.length_nil, Nat.reduceAdd, Nat.reduceSub, Nat.zero_add, Nat.sub_self, if_true, if_false, ite_true, ite_false, reduceIte, reduceCtorEq, decide_true, decide_false, decide_eq_true_eq, Bool.not_true, Bool.not_false, Bool.true_and, Bool.false_and, Bool.and_true, Bool.and_false, Bool.true_or, Bool.false_or, Bool.false_eq_true, Bool.true_eq_false, not_true_eq_false, not_false_eq_true, ne_eq, Int.reduceEq, Int.reduceNe, Int.reduceLT, Int.reduceLE, and_self, and_true, true_and, and_false, false_and, or_true, true_or, or_false, false_or, true_or, Option.map_some, hw, q2, q3]
    · rw [if_neg q1] at hw
      simp only [f_X9_trace, b_X9_trace, cs_run, cs_L0, s_ret, s_retz, s_retv, s_seq, s_set, s_inc, s_put, s_ast, s_zst, s_cst, s_ada, s_if, s_ex, s_cv, s_nop, s_brk, x_ite, x_l, x_k, x_f, x_a, x_ro, x_add, x_sub, x_mul, x_div, x_rem, x_neg, x_call, x_max, x_min, x_abs, g_cons, g_nil, y_lt, y_le, y_gt, y_ge, y_eq, y_ne, y_not, y_and, y_or, y_ite, Option.bind_some, Option.bind_none, List.getElem?_cons_zero, List.getElem?_cons_succ, List.getElem?_nil, List.set_cons_zero, List.set_cons_succ, List.cons_append, List.nil_append, List.append_nil, List.replicate, List.length_cons, List.length_nil, Nat.reduceAdd, Nat.reduceSub, Nat.zero_add, Nat.sub_self, if_true, if_false, ite_true, ite_false, reduceIte, reduceCtorEq, decide_true, decide_false, decide_eq_true_eq, Bool.not_true, Bool.not_false, Bool.true_and, Bool.false_and, Bool.and_true, Bool.and_false, Bool.true_or, Bool.false_or, Bool.false_eq_true, Bool.true_eq_false, not_true_eq_false, not_false_eq_true, ne_eq, Int.reduceEq, Int.reduceNe, Int.reduceLT, Int.reduceLE, and_self, and_true, true_and, and_false, false_and, or_true, true_or, or_false, false_or, true_or, Option.map_some, hw]
  · rintro ⟨q1, q2⟩
    rw [if_pos q1] at hw
    have hd := f_dropC σ
    have ha := f_traceAll (cn := cn) hz q1.1 rfl
    generalize trC σ t (if cn = 4 then 1 else 3) = ρ at *
    generalize dropC σ = δ at *
    rcases q2 with rfl | rfl
    · simp only [f_X9_trace, b_X9_trace, cs_run, cs_L0, s_ret, s_retz, s_retv, s_seq, s_set, s_inc, s_put, s_ast, s_zst, s_cst, s_ada, s_if, s_ex, s_cv, s_nop, s_brk, x_ite, x_l, x_k, x_f, x_a, x_ro, x_add, x_sub, x_mul, x_div, x_rem, x_neg, x_call, x_max, x_min, x_abs, g_cons, g_nil, y_lt, y_le, y_gt, y_ge, y_eq, y_ne, y_not, y_and, y_or, y_ite, Option.bind_some, Option.bind_none, List.getElem?_cons_zero, List.getElem?_cons_succ, List.getElem?_nil, List.set_cons_zero, List.set_cons_succ, List.cons_append, List.nil_append, List.append_nil, List.replicate, List.length_cons, List.length_nil, Nat.reduceAdd, Nat.reduceSub, Nat.zero_add, Nat.sub_self, if_true, if_false, ite_true, ite_false, reduceIte, reduceCtorEq, decide_true, decide_false, decide_eq_true_eq, Bool.not_true, Bool.not_false, Bool.true_and, Bool.false_and, Bool.and_true, Bool.and_false, Bool.true_or, Bool.false_or, Bool.false_eq_true, Bool.true_eq_false, not_true_eq_false, not_false_eq_true, ne_eq, Int.reduceEq, Int.reduceNe, Int.reduceLT, Int.reduceLE, and_self, and_true, true_and, and_false, false_and, or_true, true_or, or_false, false_or, true_or, Option.map_some, hw, hd, ha]
    · simp only [f_X9_trace, b_X9_trace, cs_run, cs_L0, s_ret, s_retz, s_retv, s_seq, s_set, s_inc, s_put, s_ast, s_zst, s_cst, s_ada, s_if, s_ex, s_cv, s_nop, s_brk, x_ite, x_l, x_k, x_f, x_a, x_ro, x_add, x_sub, x_mul, x_div, x_rem, x_neg, x_call, x_max, x_min, x_abs, g_cons, g_nil, y_lt, y_le, y_gt, y_ge, y_eq, y_ne, y_not, y_and, y_or, y_ite, Option.bind_some, Option.bind_none, List.getElem?_cons_zero, List.getElem?_cons_succ, List.getElem?_nil, List.set_cons_zero, List.set_cons_succ, List.cons_append, List.nil_append, List.append_nil, List.replicate, List.length_cons, List.length_nil, Nat.reduceAdd, Nat.reduceSub, Nat.zero_add, Nat.sub_self, if_true, if_false, ite_true, ite_false, reduceIte, reduceCtorEq, decide_true, decide_false, decide_eq_true_eq, Bool.not_true, Bool.not_false, Bool.true_and, Bool.false_and, Bool.and_true, Bool.and_false, Bool.true_or, Bool.false_or, Bool.false_eq_true, Bool.true_eq_false, not_true_eq_false, not_false_eq_true, ne_eq, Int.reduceEq, Int.reduceNe, Int.reduceLT, Int.reduceLE, and_self, and_true, true_and, and_false, false_and, or_true, true_or, or_false, false_or, true_or, Option.map_some, hw, hd, ha]
