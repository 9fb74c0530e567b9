/-! which places a trace leaves alone -/
def FrC (q : Nat) : Prop := q ≤ 3 ∨ (9 ≤ q ∧ q ≤ 14) ∨ 26 ≤ q
def FrR (q : Nat) : Prop := q ≤ 9 ∨ (11 ≤ q ∧ q ≤ 31) ∨ 41 ≤ q
theorem addC_fr {σ : cs_S} {x y : Int} {q : Nat} (h : FrC q) : addC σ x y q = σ q := by
  unfold FrC at h
  unfold addC
  rw [if_neg (by omega), if_neg (by omega), if_neg (by omega), if_neg (by omega), if_neg (by omega), if_neg (by omega), if_neg (by omega), if_neg (by omega)]
theorem begC_fr {σ : cs_S} {q : Nat} (h : FrC q) : begC σ q = σ q := by
  unfold FrC at h
  unfold begC
  rw [if_neg (by omega), if_neg (by omega), if_neg (by omega), if_neg (by omega)]
theorem stC_fr {σ : cs_S} {a : Arw} {t : Bool} {q : Nat} (h : FrC q) : stC σ a t q = σ q := by
  have e : ∀ τ : cs_S, markC τ a q = τ q := fun τ => by
    unfold markC
    split
    · exact cs_set_ne (by unfold FrC at h; omega)
    · rfl
  unfold stC
  rw [e]
  cases t
  · rfl
  · exact addC_fr h
theorem goC_fr {ins : Int → Int → Bool} {pt : Int} {q : Nat} (h : FrC q) : ∀ (m : Nat) (a : Arw) (t : Bool) (σ : cs_S), goC ins pt m a t σ q = σ q
  | 0, _, _, _ => rfl
  | m + 1, a, t, σ => by rw [goC, goC_fr h m, stC_fr h]
theorem stepC_fr {ins : Int → Int → Bool} {pt x y : Int} {s : cs_S × GL} {q : Nat} (h : FrC q) : (stepC ins pt y x s).1 q = s.1 q := by
  unfold stepC
  split
  · dsimp only; rw [goC_fr h, begC_fr h]
  · rfl
theorem fd_keep {α β : Type} {F : Int → α → α} (g : α → β) (h : ∀ k a, g (F k a) = g a) : ∀ (n : Nat) (k : Int) (a : α), g (fd F n k a) = g a
  | 0, _, _ => rfl
  | n + 1, k, a => by rw [fd, fd_keep g h n (k + 1) (F k a), h]
theorem scanC_fr {ins : Int → Int → Bool} {pt : Int} {n m : Nat} {s : cs_S × GL} {q : Nat} (h : FrC q) : (scanC ins pt n m s).1 q = s.1 q :=
  fd_keep (fun s : cs_S × GL => s.1 q) (fun _ s => fd_keep (fun s : cs_S × GL => s.1 q) (fun _ _ => stepC_fr h) n 0 s) m 0 s
theorem dropC_fr {σ : cs_S} {q : Nat} (h : FrC q) : dropC σ q = σ q := by
  unfold FrC at h
  unfold dropC
  rw [cs_set_ne (by omega), cs_set_ne (by omega), cs_set_ne (by omega)]
theorem trC_fr {σ : cs_S} {t p : Int} {q : Nat} (h : FrC q) : trC σ t p q = σ q := by
  unfold trC paC arC scC
  have h' := h
  unfold FrC at h'
  rw [cs_set_ne (by omega), cs_set_ne (by omega), scanC_fr h]
  unfold trC0
  dsimp only
  rw [cs_set_ne (by omega), cs_set_ne (by omega), cs_set_ne (by omega), dropC_fr h]
theorem addR_fr {σ : cs_S} {x y : Int} {q : Nat} (h : FrR q) : addR σ x y q = σ q := by
  unfold FrR at h
  unfold addR
  rw [if_neg (by omega), if_neg (by omega), if_neg (by omega), if_neg (by omega)]
theorem stR_fr {σ : cs_S} {a : Arw} {c : Nat} {t : Bool} {q : Nat} (h : FrR q) : stR σ a c t q = σ q := by
  have e : ∀ τ : cs_S, markR τ a c q = τ q := fun τ => by
    unfold FrR at h
    unfold markR
    rw [if_neg (by omega), if_neg (by omega)]
  unfold stR
  rw [e]
  cases t
  · rfl
  · exact addR_fr h
theorem goR_fr {ins : Int → Int → Bool} {pt : Int} {c : Nat} {q : Nat} (h : FrR q) : ∀ (m : Nat) (a : Arw) (t : Bool) (σ : cs_S), goR ins pt c m a t σ q = σ q
  | 0, _, _, _ => rfl
  | m + 1, a, t, σ => by rw [goR, goR_fr h m, stR_fr h]
theorem rndR_fr {ins : Int → Int → Bool} {pt : Int} {s : Arw} {τ : cs_S} {q : Nat} (h : FrR q) : rndR ins pt s τ q = τ q := by
  have h' := h
  unfold FrR at h'
  unfold rndR endR
  rw [cs_set_ne (by omega), cs_set_ne (by omega), goR_fr h]
  unfold begR
  rw [cs_set_ne (by omega), cs_set_ne (by omega)]
theorem stepP_fr {ins : Int → Int → Bool} {pt x y : Int} {s : (cs_S × GL) × cs_S} {q : Nat} (h : FrR q) : (stepP ins pt y x s).2 q = s.2 q := by
  unfold stepP
  dsimp only
  split
  · exact rndR_fr h
  · rfl
theorem scanP_fr {ins : Int → Int → Bool} {pt : Int} {n m : Nat} {s : (cs_S × GL) × cs_S} {q : Nat} (h : FrR q) : (scanP ins pt n m s).2 q = s.2 q :=
  fd_keep (fun s : (cs_S × GL) × cs_S => s.2 q) (fun _ s => fd_keep (fun s : (cs_S × GL) × cs_S => s.2 q) (fun _ _ => stepP_fr h) n 0 s) m 0 s
/-! the reference's trace, whole -/
def arR (σ : cs_S) : cs_S := cs_set σ 34 (fun c : Nat => if (c : Int) < σ 4 1 then areaS σ c else σ 34 c)
def paR (σ : cs_S) : cs_S := cs_set σ 36 (fun c : Nat => if (c : Int) < σ 4 1 then nop (parS σ c) else σ 36 c)
def trR0 (σ : cs_S) (t : Int) : cs_S := cs_set (cs_set σ 10 (au (σ 10) 9 t)) 40 (afl (σ 40) 221 0)
theorem RR_set {σ : cs_S} {p : Nat} {a : Nat → Int} (h : p = 34 ∨ p = 36) (hR : RR σ) : RR (cs_set σ p a) := by
  unfold RR RlC at *
  have e : ∀ q, q ≠ 34 → q ≠ 36 → cs_set σ p a q = σ q := fun q h1 h2 => cs_set_ne (by omega)
  rw [e 10 (by decide) (by decide), e 4 (by decide) (by decide), e 37 (by decide) (by decide), e 38 (by decide) (by decide), e 39 (by decide) (by decide), e 21 (by decide) (by decide), e 22 (by decide) (by decide), e 23 (by decide) (by decide), e 32 (by decide) (by decide), e 33 (by decide) (by decide), e 15 (by decide) (by decide)]
  exact hR
theorem Pos1_S {τ σ : cs_S} (h4 : τ 4 = σ 4) (h : SameV τ σ) (hp : Pos1 σ) : Pos1 τ := by
  unfold Pos1
  rw [h4, h.1, (SameV_f h).1]
  exact hp
theorem loop_arR {σ : cs_S} (h : CSo σ) (hR : RR σ) (hp : Pos1 σ) (a b d : Option Int) : w_X10_trace_4 [none, a, b, some 0, d] σ = some (.inl ([none, a, b, some (σ 4 1), d], arR σ)) := by
  have hb := h.1
  have hh := wh_for (c := wc_X10_trace_4) (b := wb_X10_trace_4) (fun k (_ : Nat → Int) => [none, a, b, some k, d]) (fun s => cs_set σ 34 s) (fun k s => au s k.toNat (areaS σ k)) (fun k _ => 0 ≤ k) (σ 4 1)
    (fun k s hI => by
      have e : cs_set σ 34 s 10 7 = σ 4 1 := by rw [cs_set_ne (by decide)]; exact hR.1
      simp only [wc_X10_trace_4, cs_run, cs_L0, s_ret, s_retz, s_retv, s_seq, s_set, s_inc, s_put, s_ast, s_zst, s_cst, s_ada, s_if, s_ex, s_cv, s_nop, s_brk, x_ite, x_l, x_k, x_f, x_a, x_ro, x_add, x_sub, x_mul, x_div, x_rem, x_neg, x_call, x_max, x_min, x_abs, g_cons, g_nil, y_lt, y_le, y_gt, y_ge, y_eq, y_ne, y_not, y_and, y_or, y_ite, Option.bind_some, Option.bind_none, List.getElem?_cons_zero, List.getElem?_cons_succ, List.getElem?_nil, List.set_cons_zero, List.set_cons_succ, List.cons_append, List.nil_append, List.append_nil, List.replicate, List.length_cons, List.length_nil, Nat.reduceAdd, Nat.reduceSub, Nat.zero_add, Nat.sub_self, if_true, if_false, ite_true, ite_false, reduceIte, reduceCtorEq, decide_true, decide_false, decide_eq_true_eq, Bool.not_true, Bool.not_false, Bool.true_and, Bool.false_and, Bool.and_true, Bool.and_false, Bool.true_or, Bool.false_or, Bool.false_eq_true, Bool.true_eq_false, not_true_eq_false, not_false_eq_true, ne_eq, Int.reduceEq, Int.reduceNe, Int.reduceLT, Int.reduceLE, and_self, and_true, true_and, and_false, false_and, or_true, true_or, or_false, false_or, true_or, Option.map_some, e])
    (fun k s hI hk => by
      have e : cs_set σ 34 s 4 = σ 4 := cs_set_ne (by decide)
      have hs : SameV (cs_set σ 34 s) σ := set_SameV (by decide)
      have hf := f_polygonArea ((CSoS e hs).mpr h) (c := k) (RR_set (Or.inl rfl) hR) (Pos1_S e hs hp) (by rw [e]; omega)
      rw [SameV_area hs] at hf
      have c1 : (0 : Int) ≤ k ∧ k < ((256 : Nat) : Int) := by omega
      have c2 : cs_InR (k + 1) := by omega
      refine ⟨?_, by omega⟩
      simp only [wb_X10_trace_4, cs_run, cs_L0, s_ret, s_retz, s_retv, s_seq, s_set, s_inc, s_put, s_ast, s_zst, s_cst, s_ada, s_if, s_ex, s_cv, s_nop, s_brk, x_ite, x_l, x_k, x_f, x_a, x_ro, x_add, x_sub, x_mul, x_div, x_rem, x_neg, x_call, x_max, x_min, x_abs, g_cons, g_nil, y_lt, y_le, y_gt, y_ge, y_eq, y_ne, y_not, y_and, y_or, y_ite, Option.bind_some, Option.bind_none, List.getElem?_cons_zero, List.getElem?_cons_succ, List.getElem?_nil, List.set_cons_zero, List.set_cons_succ, List.cons_append, List.nil_append, List.append_nil, List.replicate, List.length_cons, List.length_nil, Nat.reduceAdd, Nat.reduceSub, Nat.zero_add, Nat.sub_self, if_true, if_false, ite_true, ite_false, reduceIte, reduceCtorEq, decide_true, decide_false, decide_eq_true_eq, Bool.not_true, Bool.not_false, Bool.true_and, Bool.false_and, Bool.and_true, Bool.and_false, Bool.true_or, Bool.false_or, Bool.false_eq_true, Bool.true_eq_false, not_true_eq_false, not_false_eq_true, ne_eq, Int.reduceEq, Int.reduceNe, Int.reduceLT, Int.reduceLE, and_self, and_true, true_and, and_false, false_and, or_true, true_or, or_false, false_or, true_or, Option.map_some, hf, cs_wr_ok c1, cs_up_eq, cs_set_at, cs_set_set, cs_chk_ok c2])
    (σ 4 1).toNat 0 (σ 34) (Int.le_refl 0) (by omega)
  have hl := hh.1
  rw [cs_set_self, fd_au _ _ _ _ (Int.le_refl 0)] at hl
  have e : (fun c : Nat => if (0 : Int) ≤ c ∧ (c : Int) < 0 + ((σ 4 1).toNat : Int) then areaS σ c else σ 34 c) = fun c : Nat => if (c : Int) < σ 4 1 then areaS σ c else σ 34 c := by
    funext c
    by_cases q : (c : Int) < σ 4 1
    · rw [if_pos q, if_pos (by omega)]
    · rw [if_neg q, if_neg (by omega)]
  rw [e] at hl
  exact hl
theorem loop_paR {σ : cs_S} (h : CSo σ) (hF : Full σ) (hR : RR σ) (hp : Pos1 σ) (hA : ArJ σ) (hA2 : ArR σ) (a b d : Option Int) : w_X10_trace_5 [none, a, b, some 0, d] σ = some (.inl ([none, a, b, some (σ 4 1), d], paR σ)) := by
  have hb := h.1
  have hh := wh_for (c := wc_X10_trace_5) (b := wb_X10_trace_5) (fun k (_ : Nat → Int) => [none, a, b, some k, d]) (fun s => cs_set σ 36 s) (fun k s => au s k.toNat (nop (parS σ k))) (fun k _ => 0 ≤ k) (σ 4 1)
    (fun k s hI => by
      have e : cs_set σ 36 s 10 7 = σ 4 1 := by rw [cs_set_ne (by decide)]; exact hR.1
      simp only [wc_X10_trace_5, cs_run, cs_L0, s_ret, s_retz, s_retv, s_seq, s_set, s_inc, s_put, s_ast, s_zst, s_cst, s_ada, s_if, s_ex, s_cv, s_nop, s_brk, x_ite, x_l, x_k, x_f, x_a, x_ro, x_add, x_sub, x_mul, x_div, x_rem, x_neg, x_call, x_max, x_min, x_abs, g_cons, g_nil, y_lt, y_le, y_gt, y_ge, y_eq, y_ne, y_not, y_and, y_or, y_ite, Option.bind_some, Option.bind_none, List.getElem?_cons_zero, List.getElem?_cons_succ, List.getElem?_nil, List.set_cons_zero, List.set_cons_succ, List.cons_append, List.nil_append, List.append_nil, List.replicate, List.length_cons, List.length_nil, Nat.reduceAdd, Nat.reduceSub, Nat.zero_add, Nat.sub_self, if_true, if_false, ite_true, ite_false, reduceIte, reduceCtorEq, decide_true, decide_false, decide_eq_true_eq, Bool.not_true, Bool.not_false, Bool.true_and, Bool.false_and, Bool.and_true, Bool.and_false, Bool.true_or, Bool.false_or, Bool.false_eq_true, Bool.true_eq_false, not_true_eq_false, not_false_eq_true, ne_eq, Int.reduceEq, Int.reduceNe, Int.reduceLT, Int.reduceLE, and_self, and_true, true_and, and_false, false_and, or_true, true_or, or_false, false_or, true_or, Option.map_some, e])
    (fun k s hI hk => by
      have e : cs_set σ 36 s 4 = σ 4 := cs_set_ne (by decide)
      have e18 : cs_set σ 36 s 18 = σ 18 := cs_set_ne (by decide)
      have e34 : cs_set σ 36 s 34 = σ 34 := cs_set_ne (by decide)
      have hs : SameV (cs_set σ 36 s) σ := set_SameV (by decide)
      have hf := f_findParent ((CSoS e hs).mpr h) (c := k) (by unfold Full; rw [e, hs.1]; exact hF) (RR_set (Or.inr rfl) hR) (Pos1_S e hs hp) (by unfold ArJ; rw [e, e18]; exact hA) (by unfold ArR; rw [e, e18, e34]; exact hA2) (by rw [e]; omega)
      rw [SameV_par hs e18 (by rw [e])] at hf
      have c1 : (0 : Int) ≤ k ∧ k < ((256 : Nat) : Int) := by omega
      have c2 : cs_InR (k + 1) := by omega
      refine ⟨?_, by omega⟩
      simp only [wb_X10_trace_5, cs_run, cs_L0, s_ret, s_retz, s_retv, s_seq, s_set, s_inc, s_put, s_ast, s_zst, s_cst, s_ada, s_if, s_ex, s_cv, s_nop, s_brk, x_ite, x_l, x_k, x_f, x_a, x_ro, x_add, x_sub, x_mul, x_div, x_rem, x_neg, x_call, x_max, x_min, x_abs, g_cons, g_nil, y_lt, y_le, y_gt, y_ge, y_eq, y_ne, y_not, y_and, y_or, y_ite, Option.bind_some, Option.bind_none, List.getElem?_cons_zero, List.getElem?_cons_succ, List.getElem?_nil, List.set_cons_zero, List.set_cons_succ, List.cons_append, List.nil_append, List.append_nil, List.replicate, List.length_cons, List.length_nil, Nat.reduceAdd, Nat.reduceSub, Nat.zero_add, Nat.sub_self, if_true, if_false, ite_true, ite_false, reduceIte, reduceCtorEq, decide_true, decide_false, decide_eq_true_eq, Bool.not_true, Bool.not_false, Bool.true_and, Bool.false_and, Bool.and_true, Bool.and_false, Bool.true_or, Bool.false_or, Bool.false_eq_true, Bool.true_eq_false, not_true_eq_false, not_false_eq_true, ne_eq, Int.reduceEq, Int.reduceNe, Int.reduceLT, Int.reduceLE, and_self, and_true, true_and, and_false, false_and, or_true, true_or, or_false, false_or, true_or, Option.map_some, hf, cs_wr_ok c1, cs_up_eq, cs_set_at, cs_set_set, cs_chk_ok c2])
    (σ 4 1).toNat 0 (σ 36) (Int.le_refl 0) (by omega)
  have hl := hh.1
  rw [cs_set_self, fd_au _ _ _ _ (Int.le_refl 0)] at hl
  have e : (fun c : Nat => if (0 : Int) ≤ c ∧ (c : Int) < 0 + ((σ 4 1).toNat : Int) then nop (parS σ c) else σ 36 c) = fun c : Nat => if (c : Int) < σ 4 1 then nop (parS σ c) else σ 36 c := by
    funext c
    by_cases q : (c : Int) < σ 4 1
    · rw [if_pos q, if_pos (by omega)]
    · rw [if_neg q, if_neg (by omega)]
  rw [e] at hl
  exact hl
theorem loop_cl40 (σ : cs_S) (a b d : Option Int) : w_X10_trace_1 [none, a, b, some 0, d] σ = some (.inl ([none, a, b, some 221, d], cs_set σ 40 (afl (σ 40) 221 0))) := by
  have hh := wh_for (c := wc_X10_trace_1) (b := wb_X10_trace_1) (fun k (_ : Nat → Int) => [none, a, b, some k, d]) (fun s => cs_set σ 40 s) (fun k s => au s k.toNat ((fun _ => 0) k)) (fun k _ => 0 ≤ k) 221
    (fun k s hI => by simp only [wc_X10_trace_1, cs_run, cs_L0, s_ret, s_retz, s_retv, s_seq, s_set, s_inc, s_put, s_ast, s_zst, s_cst, s_ada, s_if, s_ex, s_cv, s_nop, s_brk, x_ite, x_l, x_k, x_f, x_a, x_ro, x_add, x_sub, x_mul, x_div, x_rem, x_neg, x_call, x_max, x_min, x_abs, g_cons, g_nil, y_lt, y_le, y_gt, y_ge, y_eq, y_ne, y_not, y_and, y_or, y_ite, Option.bind_some, Option.bind_none, List.getElem?_cons_zero, List.getElem?_cons_succ, List.getElem?_nil, List.set_cons_zero, List.set_cons_succ, List.cons_append, List.nil_append, List.append_nil, List.replicate, List.length_cons, List.length_nil, Nat.reduceAdd, Nat.reduceSub, Nat.zero_add, Nat.sub_self, if_true, if_false, ite_true, ite_false, reduceIte, reduceCtorEq, decide_true, decide_false, decide_eq_true_eq, Bool.not_true, Bool.not_false, Bool.true_and, Bool.false_and, Bool.and_true, Bool.and_false, Bool.true_or, Bool.false_or, Bool.false_eq_true, Bool.true_eq_false, not_true_eq_false, not_false_eq_true, ne_eq, Int.reduceEq, Int.reduceNe, Int.reduceLT, Int.reduceLE, and_self, and_true, true_and, and_false, false_and, or_true, true_or, or_false, false_or, true_or, Option.map_some])
    (fun k s hI hk => by
      have c1 : (0 : Int) ≤ k ∧ k < ((221 : Nat) : Int) := by omega
      have c2 : cs_InR (k + 1) := by omega
      refine ⟨?_, by omega⟩
      simp only [wb_X10_trace_1, cs_run, cs_L0, s_ret, s_retz, s_retv, s_seq, s_set, s_inc, s_put, s_ast, s_zst, s_cst, s_ada, s_if, s_ex, s_cv, s_nop, s_brk, x_ite, x_l, x_k, x_f, x_a, x_ro, x_add, x_sub, x_mul, x_div, x_rem, x_neg, x_call, x_max, x_min, x_abs, g_cons, g_nil, y_lt, y_le, y_gt, y_ge, y_eq, y_ne, y_not, y_and, y_or, y_ite, Option.bind_some, Option.bind_none, List.getElem?_cons_zero, List.getElem?_cons_succ, List.getElem?_nil, List.set_cons_zero, List.set_cons_succ, List.cons_append, List.nil_append, List.append_nil, List.replicate, List.length_cons, List.length_nil, Nat.reduceAdd, Nat.reduceSub, Nat.zero_add, Nat.sub_self, if_true, if_false, ite_true, ite_false, reduceIte, reduceCtorEq, decide_true, decide_false, decide_eq_true_eq, Bool.not_true, Bool.not_false, Bool.true_and, Bool.false_and, Bool.and_true, Bool.and_false, Bool.true_or, Bool.false_or, Bool.false_eq_true, Bool.true_eq_false, not_true_eq_false, not_false_eq_true, ne_eq, Int.reduceEq, Int.reduceNe, Int.reduceLT, Int.reduceLE, and_self, and_true, true_and, and_false, false_and, or_true, true_or, or_false, false_or, true_or, Option.map_some, cs_wr_ok c1, cs_up_eq, cs_set_at, cs_set_set, cs_chk_ok c2])
    221 0 (σ 40) (Int.le_refl 0) (by decide)
  have hl := hh.1
  rw [cs_set_self, fd_au _ _ _ _ (Int.le_refl 0)] at hl
  have e : (fun c : Nat => if (0 : Int) ≤ c ∧ (c : Int) < 0 + ((221 : Nat) : Int) then (0 : Int) else σ 40 c) = afl (σ 40) 221 0 := by
    funext c
    unfold afl
    by_cases q : c < 221
    · rw [if_pos q, if_pos (by omega)]
    · rw [if_neg q, if_neg (by omega)]
  rw [e] at hl
  exact hl
