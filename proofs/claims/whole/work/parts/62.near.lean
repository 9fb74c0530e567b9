/-! loops, step by step -/
theorem wh_no {c : cs_C} {b : cs_T} {L : cs_L} {σ σ1 : cs_S} (hc : c L σ = some (false, σ1)) : s_wh c b L σ = some (.inl (L, σ1)) := by
  rw [s_wh_eq, hc]; rfl
theorem wh_go {c : cs_C} {b : cs_T} {L L' : cs_L} {σ σ1 σ2 : cs_S} (hc : c L σ = some (true, σ1)) (hb : b L σ1 = some (.inl (L', σ2))) : s_wh c b L σ = s_wh c b L' σ2 := by
  rw [s_wh_eq, hc]; simp only [Option.bind_some, if_true, hb]
theorem wh_ret {c : cs_C} {b : cs_T} {L : cs_L} {σ σ1 : cs_S} {r : Option Int × cs_S} (hc : c L σ = some (true, σ1)) (hb : b L σ1 = some (.inr (.inl r))) : s_wh c b L σ = some (.inr (.inl r)) := by
  rw [s_wh_eq, hc]; simp only [Option.bind_some, if_true, hb]
theorem sq_no {c : cs_C} {b t : cs_T} {L : cs_L} {σ σ1 : cs_S} (hc : c L σ = some (false, σ1)) : s_seq (s_wh c b) t L σ = t L σ1 := by
  simp only [s_seq, wh_no hc, Option.bind_some]
theorem sq_go {c : cs_C} {b t : cs_T} {L L' : cs_L} {σ σ1 σ2 : cs_S} (hc : c L σ = some (true, σ1)) (hb : b L σ1 = some (.inl (L', σ2))) : s_seq (s_wh c b) t L σ = s_seq (s_wh c b) t L' σ2 := by
  simp only [s_seq, wh_go hc hb]
theorem sq_ret {c : cs_C} {b t : cs_T} {L : cs_L} {σ σ1 : cs_S} {r : Option Int × cs_S} (hc : c L σ = some (true, σ1)) (hb : b L σ1 = some (.inr (.inl r))) : s_seq (s_wh c b) t L σ = some (.inr (.inl r)) := by
  simp only [s_seq, wh_ret hc hb, Option.bind_some]
theorem sq_assoc (a b c : cs_T) : s_seq (s_seq a b) c = s_seq a (s_seq b c) := by
  funext L σ
  simp only [s_seq]
  rcases a L σ with _ | (r | r) <;> rfl
theorem sq_st {s t : cs_T} {L L' : cs_L} {σ σ' : cs_S} (h : s L σ = some (.inl (L', σ'))) : s_seq s t L σ = t L' σ' := by
  simp only [s_seq, h, Option.bind_some]
/-! the neighbours of a vertex in its contour -/
def hop (P : Int → Bool) (g : Int → Int) : Nat → Int → Int → Int
  | 0, _, d => d
  | k + 1, u, d => if P (g u) then g u else hop P g k (g u) d
def nx (f e u : Int) : Int := if u + 1 < e then u + 1 else f
def pv (f e u : Int) : Int := if u > f then u - 1 else e - 1
def Pr (σ : cs_S) (v : Int) : Bool := decide (σ 23 v.toNat ≠ 0)
def fs (σ : cs_S) (v : Int) : Int := σ 15 (σ 20 v.toNat).toNat
def es (σ : cs_S) (v : Int) : Int := σ 15 ((σ 20 v.toNat).toNat + 1)
def aftS (σ : cs_S) (v : Int) : Int := hop (Pr σ) (nx (fs σ v) (es σ v)) (es σ v - fs σ v).toNat v v
def befS (σ : cs_S) (v : Int) : Int := hop (Pr σ) (pv (fs σ v) (es σ v)) (es σ v - fs σ v).toNat v v
theorem nx_in {f e u : Int} (h : f ≤ u ∧ u < e) : f ≤ nx f e u ∧ nx f e u < e := by unfold nx; split <;> omega
theorem pv_in {f e u : Int} (h : f ≤ u ∧ u < e) : f ≤ pv f e u ∧ pv f e u < e := by unfold pv; split <;> omega
theorem hop_in {P : Int → Bool} {g : Int → Int} {f e : Int} (hg : ∀ u, f ≤ u ∧ u < e → f ≤ g u ∧ g u < e) : ∀ (k : Nat) (u d : Int), f ≤ u ∧ u < e → f ≤ d ∧ d < e → f ≤ hop P g k u d ∧ hop P g k u d < e
  | 0, _, _, _, hd => hd
  | k + 1, u, d, hu, hd => by
    rw [hop]
    split
    · exact hg u hu
    · exact hop_in hg k (g u) d (hg u hu) hd
def rep (g : Int → Int) : Nat → Int → Int
  | 0, u => u
  | k + 1, u => rep g k (g u)
theorem hop_P {P : Int → Bool} {g : Int → Int} : ∀ (k : Nat) (u d : Int), (∃ j, j < k ∧ P (rep g j (g u)) = true) → P (hop P g k u d) = true
  | 0, _, _, ⟨j, h, _⟩ => by omega
  | k + 1, u, d, ⟨j, h, hp⟩ => by
    rw [hop]
    by_cases c : P (g u) = true
    · rw [if_pos c]; exact c
    · rw [if_neg c]
      cases j with
      | zero => exact absurd hp c
      | succ j => exact hop_P k (g u) d ⟨j, by omega, hp⟩
theorem rep_s (g : Int → Int) : ∀ (k : Nat) (u : Int), rep g (k + 1) u = g (rep g k u)
  | 0, _ => rfl
  | k + 1, u => by rw [rep, rep_s g k (g u), rep]
theorem rep_a (g : Int → Int) : ∀ (i j : Nat) (u : Int), rep g (i + j) u = rep g j (rep g i u)
  | 0, j, u => by rw [Nat.zero_add]; rfl
  | i + 1, j, u => by rw [Nat.add_right_comm, rep, rep_a g i j (g u), rep]
theorem rep_nx {f e : Int} : ∀ (k : Nat) (u : Int), f ≤ u → u + k < e → rep (nx f e) k u = u + k
  | 0, u, _, _ => by simp [rep]
  | k + 1, u, h1, h2 => by
    have : nx f e u = u + 1 := by unfold nx; rw [if_pos (by omega)]
    rw [rep, this, rep_nx k (u + 1) (by omega) (by omega)]; omega
theorem rep_pv {f e : Int} : ∀ (k : Nat) (u : Int), f ≤ u - k → rep (pv f e) k u = u - k
  | 0, u, _ => by simp [rep]
  | k + 1, u, h1 => by
    have : pv f e u = u - 1 := by unfold pv; rw [if_pos (by omega)]
    rw [rep, this, rep_pv k (u - 1) (by omega)]; omega
theorem reach_nx {f e u v : Int} (hu : f ≤ u ∧ u < e) (hv : f ≤ v ∧ v < e) : ∃ j, j < (e - f).toNat ∧ rep (nx f e) j (nx f e v) = u := by
  by_cases c : v < u
  · refine ⟨(u - v - 1).toNat, by omega, ?_⟩
    have : nx f e v = v + 1 := by unfold nx; rw [if_pos (by omega)]
    rw [this, rep_nx _ _ (by omega) (by omega)]; omega
  · by_cases c2 : v + 1 < e
    · have : nx f e v = v + 1 := by unfold nx; rw [if_pos (by omega)]
      refine ⟨(e - 1 - (v + 1)).toNat + ((u - f).toNat + 1), by omega, ?_⟩
      rw [this, rep_a, rep_nx _ (v + 1) (by omega) (by omega), rep]
      have l : nx f e (v + 1 + ((e - 1 - (v + 1)).toNat : Int)) = f := by unfold nx; rw [if_neg (by omega)]
      rw [l, rep_nx _ _ (by omega) (by omega)]; omega
    · have : nx f e v = f := by unfold nx; rw [if_neg (by omega)]
      refine ⟨(u - f).toNat, by omega, ?_⟩
      rw [this, rep_nx _ _ (by omega) (by omega)]; omega
theorem reach_pv {f e u v : Int} (hu : f ≤ u ∧ u < e) (hv : f ≤ v ∧ v < e) : ∃ j, j < (e - f).toNat ∧ rep (pv f e) j (pv f e v) = u := by
  by_cases c : u < v
  · refine ⟨(v - 1 - u).toNat, by omega, ?_⟩
    have : pv f e v = v - 1 := by unfold pv; rw [if_pos (by omega)]
    rw [this, rep_pv _ _ (by omega)]; omega
  · by_cases c2 : f < v
    · have : pv f e v = v - 1 := by unfold pv; rw [if_pos (by omega)]
      refine ⟨(v - 1 - f).toNat + ((e - 1 - u).toNat + 1), by omega, ?_⟩
      rw [this, rep_a, rep_pv _ (v - 1) (by omega), rep]
      have l : pv f e (v - 1 - ((v - 1 - f).toNat : Int)) = e - 1 := by unfold pv; rw [if_neg (by omega)]
      rw [l, rep_pv _ _ (by omega)]; omega
    · have : pv f e v = e - 1 := by unfold pv; rw [if_neg (by omega)]
      refine ⟨(e - 1 - u).toNat, by omega, ?_⟩
      rw [this, rep_pv _ _ (by omega)]; omega
/-- every contour has a vertex that is present -/
def Pos1 (σ : cs_S) : Prop := ∀ c : Nat, (c : Int) < σ 4 1 → ∃ u : Int, (σ 15 c ≤ u ∧ u < σ 15 (c + 1)) ∧ Pr σ u = true
/-- the reference's rows are the class's -/
def RR (σ : cs_S) : Prop := σ 10 7 = σ 4 1 ∧ RlC σ σ ∧ ∀ c : Nat, (c : Int) < σ 4 1 → σ 32 c = σ 15 c ∧ σ 33 c = σ 15 (c + 1) - σ 15 c
theorem own_in {σ : cs_S} (h : CSo σ) {v : Int} (hv : 0 ≤ v ∧ v < σ 4 2) : (0 ≤ σ 20 v.toNat ∧ σ 20 v.toNat < σ 4 1) ∧ (0 ≤ fs σ v ∧ es σ v ≤ σ 4 2) ∧ fs σ v ≤ v ∧ v < es σ v := by
  have h1 := h.2.2.1 v.toNat (by omega)
  have h2 := h.2.1 (σ 20 v.toNat).toNat (by omega)
  unfold fs es
  omega
theorem own_eq {σ : cs_S} (h : CSo σ) {c u : Int} (hc : 0 ≤ c ∧ c < σ 4 1) (h1 : σ 15 c.toNat ≤ u) (h2 : u < σ 15 (c.toNat + 1)) : σ 20 u.toNat = c := by
  have hb := h.2.1 c.toNat (by omega)
  have := h.2.2.2.1 c.toNat u.toNat (by omega) (by omega) (by omega)
  omega
theorem own_same {σ : cs_S} (h : CSo σ) {v u : Int} (hv : 0 ≤ v ∧ v < σ 4 2) (h1 : fs σ v ≤ u) (h2 : u < es σ v) : σ 20 u.toNat = σ 20 v.toNat := own_eq h (own_in h hv).1 h1 h2
theorem f_tracedAfter {σ : cs_S} (h : CSo σ) {v : Int} (hv : 0 ≤ v ∧ v < σ 4 2) : f_X1_tracedAfter [v] σ = some (some (nx (fs σ v) (es σ v) v), σ) := by
  obtain ⟨h1, h2, h3⟩ := own_in h hv
  have hb := h.1
  unfold nx fs es
  generalize hc : σ 20 v.toNat = c at *
  have e1 : (c + 1).toNat = c.toNat + 1 := by omega
  by_cases q : v + 1 < σ 15 (c.toNat + 1)
  · simp (disch := omega) only [cs_run, cs_L0, s_ret, s_retz, s_retv, s_seq, s_set, s_inc, s_put, s_ast, s_zst, s_cst, s_ada, s_if, s_ex, s_cv, s_nop, s_brk, x_ite, x_l, x_k, x_f, x_a, x_ro, x_add, x_sub, x_mul, x_div, x_rem, x_neg, x_call, x_max, x_min, x_abs, g_cons, g_nil, y_lt, y_le, y_gt, y_ge, y_eq, y_ne, y_not, y_and, y_or, y_ite, Option.bind_some, Option.bind_none, List.getElem?_cons_zero, List.getElem?_cons_succ, List.getElem?_nil, List.set_cons_zero, List.set_cons_succ, List.cons_append, List.nil_append, List.append_nil, List.replicate, List.length_cons, List.length_nil, Nat.reduceAdd, Nat.reduceSub, Nat.zero_add, Nat.sub_self, if_true, if_false, ite_true, ite_false, reduceIte, reduceCtorEq, decide_true, decide_false, decide_eq_true_eq, Bool.not_true, Bool.not_false, Bool.true_and, Bool.false_and, Bool.and_true, Bool.and_false, Bool.true_or, Bool.false_or, Bool.false_eq_true, Bool.true_eq_false, not_true_eq_false, not_false_eq_true, ne_eq, Int.reduceEq, Int.reduceNe, Int.reduceLT, Int.reduceLE, and_self, and_true, true_and, and_false, false_and, or_true, true_or, or_false, false_or, true_or, Option.map_some, cs_chk_ok, cs_rd_ok, cs_wr_ok, f_X1_tracedAfter, b_X1_tracedAfter, hc, e1, q]
  · simp (disch := omega) only [cs_run, cs_L0, s_ret, s_retz, s_retv, s_seq, s_set, s_inc, s_put, s_ast, s_zst, s_cst, s_ada, s_if, s_ex, s_cv, s_nop, s_brk, x_ite, x_l, x_k, x_f, x_a, x_ro, x_add, x_sub, x_mul, x_div, x_rem, x_neg, x_call, x_max, x_min, x_abs, g_cons, g_nil, y_lt, y_le, y_gt, y_ge, y_eq, y_ne, y_not, y_and, y_or, y_ite, Option.bind_some, Option.bind_none, List.getElem?_cons_zero, List.getElem?_cons_succ, List.getElem?_nil, List.set_cons_zero, List.set_cons_succ, List.cons_append, List.nil_append, List.append_nil, List.replicate, List.length_cons, List.length_nil, Nat.reduceAdd, Nat.reduceSub, Nat.zero_add, Nat.sub_self, if_true, if_false, ite_true, ite_false, reduceIte, reduceCtorEq, decide_true, decide_false, decide_eq_true_eq, Bool.not_true, Bool.not_false, Bool.true_and, Bool.false_and, Bool.and_true, Bool.and_false, Bool.true_or, Bool.false_or, Bool.false_eq_true, Bool.true_eq_false, not_true_eq_false, not_false_eq_true, ne_eq, Int.reduceEq, Int.reduceNe, Int.reduceLT, Int.reduceLE, and_self, and_true, true_and, and_false, false_and, or_true, true_or, or_false, false_or, true_or, Option.map_some, cs_chk_ok, cs_rd_ok, cs_wr_ok, f_X1_tracedAfter, b_X1_tracedAfter, hc, e1, q]
theorem aft_run {σ : cs_S} (h : CSo σ) {v : Int} (hv : 0 ≤ v ∧ v < σ 4 2) : ∀ (k : Nat) (u : Int), (fs σ v ≤ u ∧ u < es σ v) → fs σ v ≤ es σ v - k → s_seq w_X1_presentAfter_1 (s_ret (x_l 1)) [none, some v, some u, some (es σ v - k)] σ = some (.inr (.inl (some (hop (Pr σ) (nx (fs σ v) (es σ v)) k u v), σ)))
  | 0, u, hu, _ => by
    obtain ⟨h1, h2, h3⟩ := own_in h hv
    have hb := h.1
    have e1 : (σ 20 v.toNat + 1).toNat = (σ 20 v.toNat).toNat + 1 := by omega
    have hc : wc_X1_presentAfter_1 [none, some v, some u, some (es σ v - (0 : Nat))] σ = some (false, σ) := by
      have q : ¬ es σ v - ((0 : Nat) : Int) < σ 15 ((σ 20 v.toNat).toNat + 1) := by unfold es; omega
      simp (disch := omega) only [cs_run, cs_L0, s_ret, s_retz, s_retv, s_seq, s_set, s_inc, s_put, s_ast, s_zst, s_cst, s_ada, s_if, s_ex, s_cv, s_nop, s_brk, x_ite, x_l, x_k, x_f, x_a, x_ro, x_add, x_sub, x_mul, x_div, x_rem, x_neg, x_call, x_max, x_min, x_abs, g_cons, g_nil, y_lt, y_le, y_gt, y_ge, y_eq, y_ne, y_not, y_and, y_or, y_ite, Option.bind_some, Option.bind_none, List.getElem?_cons_zero, List.getElem?_cons_succ, List.getElem?_nil, List.set_cons_zero, List.set_cons_succ, List.cons_append, List.nil_append, List.append_nil, List.replicate, List.length_cons, List.length_nil, Nat.reduceAdd, Nat.reduceSub, Nat.zero_add, Nat.sub_self, if_true, if_false, ite_true, ite_false, reduceIte, reduceCtorEq, decide_true, decide_false, decide_eq_true_eq, Bool.not_true, Bool.not_false, Bool.true_and, Bool.false_and, Bool.and_true, Bool.and_false, Bool.true_or, Bool.false_or, Bool.false_eq_true, Bool.true_eq_false, not_true_eq_false, not_false_eq_true, ne_eq, Int.reduceEq, Int.reduceNe, Int.reduceLT, Int.reduceLE, and_self, and_true, true_and, and_false, false_and, or_true, true_or, or_false, false_or, true_or, Option.map_some, cs_chk_ok, cs_rd_ok, cs_wr_ok, wc_X1_presentAfter_1, e1, q]
    rw [w_X1_presentAfter_1, sq_no hc]
    simp only [cs_run, cs_L0, s_ret, s_retz, s_retv, s_seq, s_set, s_inc, s_put, s_ast, s_zst, s_cst, s_ada, s_if, s_ex, s_cv, s_nop, s_brk, x_ite, x_l, x_k, x_f, x_a, x_ro, x_add, x_sub, x_mul, x_div, x_rem, x_neg, x_call, x_max, x_min, x_abs, g_cons, g_nil, y_lt, y_le, y_gt, y_ge, y_eq, y_ne, y_not, y_and, y_or, y_ite, Option.bind_some, Option.bind_none, List.getElem?_cons_zero, List.getElem?_cons_succ, List.getElem?_nil, List.set_cons_zero, List.set_cons_succ, List.cons_append, List.nil_append, List.append_nil, List.replicate, List.length_cons, List.length_nil, Nat.reduceAdd, Nat.reduceSub, Nat.zero_add, Nat.sub_self, if_true, if_false, ite_true, ite_false, reduceIte, reduceCtorEq, decide_true, decide_false, decide_eq_true_eq, Bool.not_true, Bool.not_false, Bool.true_and, Bool.false_and, Bool.and_true, Bool.and_false, Bool.true_or, Bool.false_or, Bool.false_eq_true, Bool.true_eq_false, not_true_eq_false, not_false_eq_true, ne_eq, Int.reduceEq, Int.reduceNe, Int.reduceLT, Int.reduceLE, and_self, and_true, true_and, and_false, false_and, or_true, true_or, or_false, false_or, true_or, Option.map_some, hop]
  | k + 1, u, hu, hk => by
    obtain ⟨h1, h2, h3⟩ := own_in h hv
    have hb := h.1
    have e1 : (σ 20 v.toNat + 1).toNat = (σ 20 v.toNat).toNat + 1 := by omega
    have hc : wc_X1_presentAfter_1 [none, some v, some u, some (es σ v - ((k + 1 : Nat) : Int))] σ = some (true, σ) := by
      have q : es σ v - ((k + 1 : Nat) : Int) < σ 15 ((σ 20 v.toNat).toNat + 1) := by unfold es; omega
      simp (disch := omega) only [cs_run, cs_L0, s_ret, s_retz, s_retv, s_seq, s_set, s_inc, s_put, s_ast, s_zst, s_cst, s_ada, s_if, s_ex, s_cv, s_nop, s_brk, x_ite, x_l, x_k, x_f, x_a, x_ro, x_add, x_sub, x_mul, x_div, x_rem, x_neg, x_call, x_max, x_min, x_abs, g_cons, g_nil, y_lt, y_le, y_gt, y_ge, y_eq, y_ne, y_not, y_and, y_or, y_ite, Option.bind_some, Option.bind_none, List.getElem?_cons_zero, List.getElem?_cons_succ, List.getElem?_nil, List.set_cons_zero, List.set_cons_succ, List.cons_append, List.nil_append, List.append_nil, List.replicate, List.length_cons, List.length_nil, Nat.reduceAdd, Nat.reduceSub, Nat.zero_add, Nat.sub_self, if_true, if_false, ite_true, ite_false, reduceIte, reduceCtorEq, decide_true, decide_false, decide_eq_true_eq, Bool.not_true, Bool.not_false, Bool.true_and, Bool.false_and, Bool.and_true, Bool.and_false, Bool.true_or, Bool.false_or, Bool.false_eq_true, Bool.true_eq_false, not_true_eq_false, not_false_eq_true, ne_eq, Int.reduceEq, Int.reduceNe, Int.reduceLT, Int.reduceLE, and_self, and_true, true_and, and_false, false_and, or_true, true_or, or_false, false_or, true_or, Option.map_some, cs_chk_ok, cs_rd_ok, cs_wr_ok, wc_X1_presentAfter_1, e1, q]
    have ht := f_tracedAfter h (v := u) (by omega)
    have hfu : fs σ u = fs σ v := by unfold fs; rw [own_same h hv hu.1 hu.2]
    have heu : es σ u = es σ v := by unfold es; rw [own_same h hv hu.1 hu.2]
    rw [hfu, heu] at ht
    have hin := nx_in hu
    rw [hop]
    generalize hw : nx (fs σ v) (es σ v) u = w at *
    have i1 : es σ v - ((k + 1 : Nat) : Int) + 1 = es σ v - k := by omega
    by_cases p : σ 23 w.toNat = 0
    · have hP : Pr σ w = false := by simp [Pr, p]
      have hbd : wb_X1_presentAfter_1 [none, some v, some u, some (es σ v - ((k + 1 : Nat) : Int))] σ = some (.inl ([none, some v, some w, some (es σ v - k)], σ)) := by
        simp (disch := omega) only [cs_run, cs_L0, s_ret, s_retz, s_retv, s_seq, s_set, s_inc, s_put, s_ast, s_zst, s_cst, s_ada, s_if, s_ex, s_cv, s_nop, s_brk, x_ite, x_l, x_k, x_f, x_a, x_ro, x_add, x_sub, x_mul, x_div, x_rem, x_neg, x_call, x_max, x_min, x_abs, g_cons, g_nil, y_lt, y_le, y_gt, y_ge, y_eq, y_ne, y_not, y_and, y_or, y_ite, Option.bind_some, Option.bind_none, List.getElem?_cons_zero, List.getElem?_cons_succ, List.getElem?_nil, List.set_cons_zero, List.set_cons_succ, List.cons_append, List.nil_append, List.append_nil, List.replicate, List.length_cons, List.length_nil, Nat.reduceAdd, Nat.reduceSub, Nat.zero_add, Nat.sub_self, if_true, if_false, ite_true, ite_false, reduceIte, reduceCtorEq, decide_true, decide_false, decide_eq_true_eq, Bool.not_true, Bool.not_false, Bool.true_and, Bool.false_and, Bool.and_true, Bool.and_false, Bool.true_or, Bool.false_or, Bool.false_eq_true, Bool.true_eq_false, not_true_eq_false, not_false_eq_true, ne_eq, Int.reduceEq, Int.reduceNe, Int.reduceLT, Int.reduceLE, and_self, and_true, true_and, and_false, false_and, or_true, true_or, or_false, false_or, true_or, Option.map_some, cs_chk_ok, cs_rd_ok, cs_wr_ok, wb_X1_presentAfter_1, ht, p, i1]
      rw [w_X1_presentAfter_1, sq_go hc hbd, hP, if_neg (by decide)]
      exact aft_run h hv k w hin (by omega)
    · have hP : Pr σ w = true := by simp [Pr, p]
      have hbd : wb_X1_presentAfter_1 [none, some v, some u, some (es σ v - ((k + 1 : Nat) : Int))] σ = some (.inr (.inl (some w, σ))) := by
        simp (disch := omega) only [cs_run, cs_L0, s_ret, s_retz, s_retv, s_seq, s_set, s_inc, s_put, s_ast, s_zst, s_cst, s_ada, s_if, s_ex, s_cv, s_nop, s_brk, x_ite, x_l, x_k, x_f, x_a, x_ro, x_add, x_sub, x_mul, x_div, x_rem, x_neg, x_call, x_max, x_min, x_abs, g_cons, g_nil, y_lt, y_le, y_gt, y_ge, y_eq, y_ne, y_not, y_and, y_or, y_ite, Option.bind_some, Option.bind_none, List.getElem?_cons_zero, List.getElem?_cons_succ, List.getElem?_nil, List.set_cons_zero, List.set_cons_succ, List.cons_append, List.nil_append, List.append_nil, List.replicate, List.length_cons, List.length_nil, Nat.reduceAdd, Nat.reduceSub, Nat.zero_add, Nat.sub_self, if_true, if_false, ite_true, ite_false, reduceIte, reduceCtorEq, decide_true, decide_false, decide_eq_true_eq, Bool.not_true, Bool.not_false, Bool.true_and, Bool.false_and, Bool.and_true, Bool.and_false, Bool.true_or, Bool.false_or, Bool.false_eq_true, Bool.true_eq_false, not_true_eq_false, not_false_eq_true, ne_eq, Int.reduceEq, Int.reduceNe, Int.reduceLT, Int.reduceLE, and_self, and_true, true_and, and_false, false_and, or_true, true_or, or_false, false_or, true_or, Option.map_some, cs_chk_ok, cs_rd_ok, cs_wr_ok, wb_X1_presentAfter_1, ht, p]
      rw [w_X1_presentAfter_1, sq_ret hc hbd, hP, if_pos rfl]
theorem f_presentAfter {σ : cs_S} (h : CSo σ) {v : Int} (hv : 0 ≤ v ∧ v < σ 4 2) : f_X1_presentAfter [v] σ = some (some (aftS σ v), σ) := by
  obtain ⟨h1, h2, h3⟩ := own_in h hv
  have hb := h.1
  have hr := aft_run h hv (es σ v - fs σ v).toNat v h3 (by omega)
  rw [show es σ v - ((es σ v - fs σ v).toNat : Int) = σ 15 (σ 20 v.toNat).toNat by unfold fs at *; omega] at hr
  unfold aftS
  generalize hop (Pr σ) (nx (fs σ v) (es σ v)) (es σ v - fs σ v).toNat v v = r at *
  have g1 : (s_set 2 (x_l 1)) [none, some v, none, none] σ = some (.inl ([none, some v, some v, none], σ)) := by simp only [cs_run, cs_L0, s_ret, s_retz, s_retv, s_seq, s_set, s_inc, s_put, s_ast, s_zst, s_cst, s_ada, s_if, s_ex, s_cv, s_nop, s_brk, x_ite, x_l, x_k, x_f, x_a, x_ro, x_add, x_sub, x_mul, x_div, x_rem, x_neg, x_call, x_max, x_min, x_abs, g_cons, g_nil, y_lt, y_le, y_gt, y_ge, y_eq, y_ne, y_not, y_and, y_or, y_ite, Option.bind_some, Option.bind_none, List.getElem?_cons_zero, List.getElem?_cons_succ, List.getElem?_nil, List.set_cons_zero, List.set_cons_succ, List.cons_append, List.nil_append, List.append_nil, List.replicate, List.length_cons, List.length_nil, Nat.reduceAdd, Nat.reduceSub, Nat.zero_add, Nat.sub_self, if_true, if_false, ite_true, ite_false, reduceIte, reduceCtorEq, decide_true, decide_false, decide_eq_true_eq, Bool.not_true, Bool.not_false, Bool.true_and, Bool.false_and, Bool.and_true, Bool.and_false, Bool.true_or, Bool.false_or, Bool.false_eq_true, Bool.true_eq_false, not_true_eq_false, not_false_eq_true, ne_eq, Int.reduceEq, Int.reduceNe, Int.reduceLT, Int.reduceLE, and_self, and_true, true_and, and_false, false_and, or_true, true_or, or_false, false_or, true_or, Option.map_some]
  have g2 : (s_set 3 (x_a 15 111 (x_a 20 442 (x_l 1)))) [none, some v, some v, none] σ = some (.inl ([none, some v, some v, some (σ 15 (σ 20 v.toNat).toNat)], σ)) := by simp (disch := omega) only [cs_run, cs_L0, s_ret, s_retz, s_retv, s_seq, s_set, s_inc, s_put, s_ast, s_zst, s_cst, s_ada, s_if, s_ex, s_cv, s_nop, s_brk, x_ite, x_l, x_k, x_f, x_a, x_ro, x_add, x_sub, x_mul, x_div, x_rem, x_neg, x_call, x_max, x_min, x_abs, g_cons, g_nil, y_lt, y_le, y_gt, y_ge, y_eq, y_ne, y_not, y_and, y_or, y_ite, Option.bind_some, Option.bind_none, List.getElem?_cons_zero, List.getElem?_cons_succ, List.getElem?_nil, List.set_cons_zero, List.set_cons_succ, List.cons_append, List.nil_append, List.append_nil, List.replicate, List.length_cons, List.length_nil, Nat.reduceAdd, Nat.reduceSub, Nat.zero_add, Nat.sub_self, if_true, if_false, ite_true, ite_false, reduceIte, reduceCtorEq, decide_true, decide_false, decide_eq_true_eq, Bool.not_true, Bool.not_false, Bool.true_and, Bool.false_and, Bool.and_true, Bool.and_false, Bool.true_or, Bool.false_or, Bool.false_eq_true, Bool.true_eq_false, not_true_eq_false, not_false_eq_true, ne_eq, Int.reduceEq, Int.reduceNe, Int.reduceLT, Int.reduceLE, and_self, and_true, true_and, and_false, false_and, or_true, true_or, or_false, false_or, true_or, Option.map_some, cs_chk_ok, cs_rd_ok, cs_wr_ok, cs_up_eq]
  unfold f_X1_presentAfter b_X1_presentAfter cs_run
  simp only [cs_L0, Option.bind_some, Option.bind_none, List.getElem?_cons_zero, List.getElem?_cons_succ, List.getElem?_nil, List.set_cons_zero, List.set_cons_succ, List.cons_append, List.nil_append, List.append_nil, List.replicate, List.length_cons, List.length_nil, Nat.reduceAdd, Nat.reduceSub, Nat.zero_add, Nat.sub_self, if_true, if_false, ite_true, ite_false, reduceIte, reduceCtorEq, decide_true, decide_false, decide_eq_true_eq, Bool.not_true, Bool.not_false, Bool.true_and, Bool.false_and, Bool.and_true, Bool.and_false, Bool.true_or, Bool.false_or, Bool.false_eq_true, Bool.true_eq_false, not_true_eq_false, not_false_eq_true, ne_eq, Int.reduceEq, Int.reduceNe, Int.reduceLT, Int.reduceLE, and_self, and_true, true_and, and_false, false_and, or_true, true_or, or_false, false_or, true_or, Option.map_some]
  rw [sq_st g1, sq_assoc, sq_st g2, hr]
theorem aftS_in {σ : cs_S} (h : CSo σ) {v : Int} (hv : 0 ≤ v ∧ v < σ 4 2) : fs σ v ≤ aftS σ v ∧ aftS σ v < es σ v := hop_in (fun _ => nx_in) _ _ _ (own_in h hv).2.2 (own_in h hv).2.2
theorem befS_in {σ : cs_S} (h : CSo σ) {v : Int} (hv : 0 ≤ v ∧ v < σ 4 2) : fs σ v ≤ befS σ v ∧ befS σ v < es σ v := hop_in (fun _ => pv_in) _ _ _ (own_in h hv).2.2 (own_in h hv).2.2
theorem bef_run {σ : cs_S} (h : CSo σ) {v : Int} (hv : 0 ≤ v ∧ v < σ 4 2) : ∀ (k : Nat) (u : Int), (fs σ v ≤ u ∧ u < es σ v) → fs σ v ≤ es σ v - k → s_seq w_X1_presentBefore_1 (s_ret (x_l 1)) [none, some v, some (fs σ v), some (es σ v), some u, some (es σ v - k)] σ = some (.inr (.inl (some (hop (Pr σ) (pv (fs σ v) (es σ v)) k u v), σ)))
  | 0, u, hu, _ => by
    have hc : wc_X1_presentBefore_1 [none, some v, some (fs σ v), some (es σ v), some u, some (es σ v - (0 : Nat))] σ = some (false, σ) := by
      have q : ¬ es σ v - ((0 : Nat) : Int) < es σ v := by omega
      simp only [wc_X1_presentBefore_1, cs_run, cs_L0, s_ret, s_retz, s_retv, s_seq, s_set, s_inc, s_put, s_ast, s_zst, s_cst, s_ada, s_if, s_ex, s_cv, s_nop, s_brk, x_ite, x_l, x_k, x_f, x_a, x_ro, x_add, x_sub, x_mul, x_div, x_rem, x_neg, x_call, x_max, x_min, x_abs, g_cons, g_nil, y_lt, y_le, y_gt, y_ge, y_eq, y_ne, y_not, y_and, y_or, y_ite, Option.bind_some, Option.bind_none, List.getElem?_cons_zero, List.getElem?_cons_succ, List.getElem?_nil, List.set_cons_zero, List.set_cons_succ, List.cons_append, List.nil_append, List.append_nil, List.replicate, List.length_cons, List.length_nil, Nat.reduceAdd, Nat.reduceSub, Nat.zero_add, Nat.sub_self, if_true, if_false, ite_true, ite_false, reduceIte, reduceCtorEq, decide_true, decide_false, decide_eq_true_eq, Bool.not_true, Bool.not_false, Bool.true_and, Bool.false_and, Bool.and_true, Bool.and_false, Bool.true_or, Bool.false_or, Bool.false_eq_true, Bool.true_eq_false, not_true_eq_false, not_false_eq_true, ne_eq, Int.reduceEq, Int.reduceNe, Int.reduceLT, Int.reduceLE, and_self, and_true, true_and, and_false, false_and, or_true, true_or, or_false, false_or, true_or, Option.map_some, q]
    rw [w_X1_presentBefore_1, sq_no hc]
    simp only [cs_run, cs_L0, s_ret, s_retz, s_retv, s_seq, s_set, s_inc, s_put, s_ast, s_zst, s_cst, s_ada, s_if, s_ex, s_cv, s_nop, s_brk, x_ite, x_l, x_k, x_f, x_a, x_ro, x_add, x_sub, x_mul, x_div, x_rem, x_neg, x_call, x_max, x_min, x_abs, g_cons, g_nil, y_lt, y_le, y_gt, y_ge, y_eq, y_ne, y_not, y_and, y_or, y_ite, Option.bind_some, Option.bind_none, List.getElem?_cons_zero, List.getElem?_cons_succ, List.getElem?_nil, List.set_cons_zero, List.set_cons_succ, List.cons_append, List.nil_append, List.append_nil, List.replicate, List.length_cons, List.length_nil, Nat.reduceAdd, Nat.reduceSub, Nat.zero_add, Nat.sub_self, if_true, if_false, ite_true, ite_false, reduceIte, reduceCtorEq, decide_true, decide_false, decide_eq_true_eq, Bool.not_true, Bool.not_false, Bool.true_and, Bool.false_and, Bool.and_true, Bool.and_false, Bool.true_or, Bool.false_or, Bool.false_eq_true, Bool.true_eq_false, not_true_eq_false, not_false_eq_true, ne_eq, Int.reduceEq, Int.reduceNe, Int.reduceLT, Int.reduceLE, and_self, and_true, true_and, and_false, false_and, or_true, true_or, or_false, false_or, true_or, Option.map_some, hop]
  | k + 1, u, hu, hk => by
    obtain ⟨h1, h2, h3⟩ := own_in h hv
    have hb := h.1
    have hc : wc_X1_presentBefore_1 [none, some v, some (fs σ v), some (es σ v), some u, some (es σ v - ((k + 1 : Nat) : Int))] σ = some (true, σ) := by
      have q : es σ v - ((k + 1 : Nat) : Int) < es σ v := by omega
      simp only [wc_X1_presentBefore_1, cs_run, cs_L0, s_ret, s_retz, s_retv, s_seq, s_set, s_inc, s_put, s_ast, s_zst, s_cst, s_ada, s_if, s_ex, s_cv, s_nop, s_brk, x_ite, x_l, x_k, x_f, x_a, x_ro, x_add, x_sub, x_mul, x_div, x_rem, x_neg, x_call, x_max, x_min, x_abs, g_cons, g_nil, y_lt, y_le, y_gt, y_ge, y_eq, y_ne, y_not, y_and, y_or, y_ite, Option.bind_some, Option.bind_none, List.getElem?_cons_zero, List.getElem?_cons_succ, List.getElem?_nil, List.set_cons_zero, List.set_cons_succ, List.cons_append, List.nil_append, List.append_nil, List.replicate, List.length_cons, List.length_nil, Nat.reduceAdd, Nat.reduceSub, Nat.zero_add, Nat.sub_self, if_true, if_false, ite_true, ite_false, reduceIte, reduceCtorEq, decide_true, decide_false, decide_eq_true_eq, Bool.not_true, Bool.not_false, Bool.true_and, Bool.false_and, Bool.and_true, Bool.and_false, Bool.true_or, Bool.false_or, Bool.false_eq_true, Bool.true_eq_false, not_true_eq_false, not_false_eq_true, ne_eq, Int.reduceEq, Int.reduceNe, Int.reduceLT, Int.reduceLE, and_self, and_true, true_and, and_false, false_and, or_true, true_or, or_false, false_or, true_or, Option.map_some, q]
    have hin := pv_in hu
    rw [hop]
    have i1 : es σ v - ((k + 1 : Nat) : Int) + 1 = es σ v - k := by omega
    generalize hf : fs σ v = f at *
    generalize he : es σ v = e at *
    have hset : (s_set 4 (x_ite (y_gt (x_l 4) (x_l 2)) (x_sub (x_l 4) (x_k 1)) (x_sub (x_l 3) (x_k 1)))) [none, some v, some f, some e, some u, some (e - ((k + 1 : Nat) : Int))] σ = some (.inl ([none, some v, some f, some e, some (pv f e u), some (e - ((k + 1 : Nat) : Int))], σ)) := by
      unfold pv
      by_cases q : u > f
      · have q' : f < u := q
        simp (disch := omega) only [cs_run, cs_L0, s_ret, s_retz, s_retv, s_seq, s_set, s_inc, s_put, s_ast, s_zst, s_cst, s_ada, s_if, s_ex, s_cv, s_nop, s_brk, x_ite, x_l, x_k, x_f, x_a, x_ro, x_add, x_sub, x_mul, x_div, x_rem, x_neg, x_call, x_max, x_min, x_abs, g_cons, g_nil, y_lt, y_le, y_gt, y_ge, y_eq, y_ne, y_not, y_and, y_or, y_ite, Option.bind_some, Option.bind_none, List.getElem?_cons_zero, List.getElem?_cons_succ, List.getElem?_nil, List.set_cons_zero, List.set_cons_succ, List.cons_append, List.nil_append, List.append_nil, List.replicate, List.length_cons, List.length_nil, Nat.reduceAdd, Nat.reduceSub, Nat.zero_add, Nat.sub_self, if_true, if_false, ite_true, ite_false, reduceIte, reduceCtorEq, decide_true, decide_false, decide_eq_true_eq, Bool.not_true, Bool.not_false, Bool.true_and, Bool.false_and, Bool.and_true, Bool.and_false, Bool.true_or, Bool.false_or, Bool.false_eq_true, Bool.true_eq_false, not_true_eq_false, not_false_eq_true, ne_eq, Int.reduceEq, Int.reduceNe, Int.reduceLT, Int.reduceLE, and_self, and_true, true_and, and_false, false_and, or_true, true_or, or_false, false_or, true_or, Option.map_some, cs_chk_ok, cs_rd_ok, cs_wr_ok, q, q']
      · have q' : ¬ f < u := q
        simp (disch := omega) only [cs_run, cs_L0, s_ret, s_retz, s_retv, s_seq, s_set, s_inc, s_put, s_ast, s_zst, s_cst, s_ada, s_if, s_ex, s_cv, s_nop, s_brk, x_ite, x_l, x_k, x_f, x_a, x_ro, x_add, x_sub, x_mul, x_div, x_rem, x_neg, x_call, x_max, x_min, x_abs, g_cons, g_nil, y_lt, y_le, y_gt, y_ge, y_eq, y_ne, y_not, y_and, y_or, y_ite, Option.bind_some, Option.bind_none, List.getElem?_cons_zero, List.getElem?_cons_succ, List.getElem?_nil, List.set_cons_zero, List.set_cons_succ, List.cons_append, List.nil_append, List.append_nil, List.replicate, List.length_cons, List.length_nil, Nat.reduceAdd, Nat.reduceSub, Nat.zero_add, Nat.sub_self, if_true, if_false, ite_true, ite_false, reduceIte, reduceCtorEq, decide_true, decide_false, decide_eq_true_eq, Bool.not_true, Bool.not_false, Bool.true_and, Bool.false_and, Bool.and_true, Bool.and_false, Bool.true_or, Bool.false_or, Bool.false_eq_true, Bool.true_eq_false, not_true_eq_false, not_false_eq_true, ne_eq, Int.reduceEq, Int.reduceNe, Int.reduceLT, Int.reduceLE, and_self, and_true, true_and, and_false, false_and, or_true, true_or, or_false, false_or, true_or, Option.map_some, cs_chk_ok, cs_rd_ok, cs_wr_ok, q, q']
    generalize hw : pv f e u = w at *
    by_cases p : σ 23 w.toNat = 0
    · have hP : Pr σ w = false := by simp [Pr, p]
      have hbd : wb_X1_presentBefore_1 [none, some v, some f, some e, some u, some (e - ((k + 1 : Nat) : Int))] σ = some (.inl ([none, some v, some f, some e, some w, some (e - k)], σ)) := by
        rw [wb_X1_presentBefore_1, sq_assoc, sq_st hset]
        simp (disch := omega) only [cs_run, cs_L0, s_ret, s_retz, s_retv, s_seq, s_set, s_inc, s_put, s_ast, s_zst, s_cst, s_ada, s_if, s_ex, s_cv, s_nop, s_brk, x_ite, x_l, x_k, x_f, x_a, x_ro, x_add, x_sub, x_mul, x_div, x_rem, x_neg, x_call, x_max, x_min, x_abs, g_cons, g_nil, y_lt, y_le, y_gt, y_ge, y_eq, y_ne, y_not, y_and, y_or, y_ite, Option.bind_some, Option.bind_none, List.getElem?_cons_zero, List.getElem?_cons_succ, List.getElem?_nil, List.set_cons_zero, List.set_cons_succ, List.cons_append, List.nil_append, List.append_nil, List.replicate, List.length_cons, List.length_nil, Nat.reduceAdd, Nat.reduceSub, Nat.zero_add, Nat.sub_self, if_true, if_false, ite_true, ite_false, reduceIte, reduceCtorEq, decide_true, decide_false, decide_eq_true_eq, Bool.not_true, Bool.not_false, Bool.true_and, Bool.false_and, Bool.and_true, Bool.and_false, Bool.true_or, Bool.false_or, Bool.false_eq_true, Bool.true_eq_false, not_true_eq_false, not_false_eq_true, ne_eq, Int.reduceEq, Int.reduceNe, Int.reduceLT, Int.reduceLE, and_self, and_true, true_and, and_false, false_and, or_true, true_or, or_false, false_or, true_or, Option.map_some, cs_chk_ok, cs_rd_ok, cs_wr_ok, p, i1]
      have ih := bef_run h hv k w (by rw [hf, he]; exact hin) (by rw [hf, he]; omega)
      rw [hf, he] at ih
      rw [w_X1_presentBefore_1, sq_go hc hbd, hP, if_neg (by decide)]
      exact ih
    · have hP : Pr σ w = true := by simp [Pr, p]
      have hbd : wb_X1_presentBefore_1 [none, some v, some f, some e, some u, some (e - ((k + 1 : Nat) : Int))] σ = some (.inr (.inl (some w, σ))) := by
        rw [wb_X1_presentBefore_1, sq_assoc, sq_st hset]
        simp (disch := omega) only [cs_run, cs_L0, s_ret, s_retz, s_retv, s_seq, s_set, s_inc, s_put, s_ast, s_zst, s_cst, s_ada, s_if, s_ex, s_cv, s_nop, s_brk, x_ite, x_l, x_k, x_f, x_a, x_ro, x_add, x_sub, x_mul, x_div, x_rem, x_neg, x_call, x_max, x_min, x_abs, g_cons, g_nil, y_lt, y_le, y_gt, y_ge, y_eq, y_ne, y_not, y_and, y_or, y_ite, Option.bind_some, Option.bind_none, List.getElem?_cons_zero, List.getElem?_cons_succ, List.getElem?_nil, List.set_cons_zero, List.set_cons_succ, List.cons_append, List.nil_append, List.append_nil, List.replicate, List.length_cons, List.length_nil, Nat.reduceAdd, Nat.reduceSub, Nat.zero_add, Nat.sub_self, if_true, if_false, ite_true, ite_false, reduceIte, reduceCtorEq, decide_true, decide_false, decide_eq_true_eq, Bool.not_true, Bool.not_false, Bool.true_and, Bool.false_and, Bool.and_true, Bool.and_false, Bool.true_or, Bool.false_or, Bool.false_eq_true, Bool.true_eq_false, not_true_eq_false, not_false_eq_true, ne_eq, Int.reduceEq, Int.reduceNe, Int.reduceLT, Int.reduceLE, and_self, and_true, true_and, and_false, false_and, or_true, true_or, or_false, false_or, true_or, Option.map_some, cs_chk_ok, cs_rd_ok, cs_wr_ok, p]
      rw [w_X1_presentBefore_1, sq_ret hc hbd, hP, if_pos rfl]
theorem f_presentBefore {σ : cs_S} (h : CSo σ) {v : Int} (hv : 0 ≤ v ∧ v < σ 4 2) : f_X1_presentBefore [v] σ = some (some (befS σ v), σ) := by
  obtain ⟨h1, h2, h3⟩ := own_in h hv
  have hb := h.1
  have hr := bef_run h hv (es σ v - fs σ v).toNat v h3 (by omega)
  rw [show es σ v - ((es σ v - fs σ v).toNat : Int) = fs σ v by omega] at hr
  unfold befS
  generalize hop (Pr σ) (pv (fs σ v) (es σ v)) (es σ v - fs σ v).toNat v v = r at *
  have e1 : (σ 20 v.toNat + 1).toNat = (σ 20 v.toNat).toNat + 1 := by omega
  have g1 : (s_set 2 (x_a 15 111 (x_a 20 442 (x_l 1)))) [none, some v, none, none, none, none] σ = some (.inl ([none, some v, some (fs σ v), none, none, none], σ)) := by unfold fs; simp (disch := omega) only [cs_run, cs_L0, s_ret, s_retz, s_retv, s_seq, s_set, s_inc, s_put, s_ast, s_zst, s_cst, s_ada, s_if, s_ex, s_cv, s_nop, s_brk, x_ite, x_l, x_k, x_f, x_a, x_ro, x_add, x_sub, x_mul, x_div, x_rem, x_neg, x_call, x_max, x_min, x_abs, g_cons, g_nil, y_lt, y_le, y_gt, y_ge, y_eq, y_ne, y_not, y_and, y_or, y_ite, Option.bind_some, Option.bind_none, List.getElem?_cons_zero, List.getElem?_cons_succ, List.getElem?_nil, List.set_cons_zero, List.set_cons_succ, List.cons_append, List.nil_append, List.append_nil, List.replicate, List.length_cons, List.length_nil, Nat.reduceAdd, Nat.reduceSub, Nat.zero_add, Nat.sub_self, if_true, if_false, ite_true, ite_false, reduceIte, reduceCtorEq, decide_true, decide_false, decide_eq_true_eq, Bool.not_true, Bool.not_false, Bool.true_and, Bool.false_and, Bool.and_true, Bool.and_false, Bool.true_or, Bool.false_or, Bool.false_eq_true, Bool.true_eq_false, not_true_eq_false, not_false_eq_true, ne_eq, Int.reduceEq, Int.reduceNe, Int.reduceLT, Int.reduceLE, and_self, and_true, true_and, and_false, false_and, or_true, true_or, or_false, false_or, true_or, Option.map_some, cs_chk_ok, cs_rd_ok, cs_wr_ok, cs_up_eq]
  have g2 : (s_set 3 (x_a 15 111 (x_add (x_a 20 442 (x_l 1)) (x_k 1)))) [none, some v, some (fs σ v), none, none, none] σ = some (.inl ([none, some v, some (fs σ v), some (es σ v), none, none], σ)) := by unfold es; simp (disch := omega) only [cs_run, cs_L0, s_ret, s_retz, s_retv, s_seq, s_set, s_inc, s_put, s_ast, s_zst, s_cst, s_ada, s_if, s_ex, s_cv, s_nop, s_brk, x_ite, x_l, x_k, x_f, x_a, x_ro, x_add, x_sub, x_mul, x_div, x_rem, x_neg, x_call, x_max, x_min, x_abs, g_cons, g_nil, y_lt, y_le, y_gt, y_ge, y_eq, y_ne, y_not, y_and, y_or, y_ite, Option.bind_some, Option.bind_none, List.getElem?_cons_zero, List.getElem?_cons_succ, List.getElem?_nil, List.set_cons_zero, List.set_cons_succ, List.cons_append, List.nil_append, List.append_nil, List.replicate, List.length_cons, List.length_nil, Nat.reduceAdd, Nat.reduceSub, Nat.zero_add, Nat.sub_self, if_true, if_false, ite_true, ite_false, reduceIte, reduceCtorEq, decide_true, decide_false, decide_eq_true_eq, Bool.not_true, Bool.not_false, Bool.true_and, Bool.false_and, Bool.and_true, Bool.and_false, Bool.true_or, Bool.false_or, Bool.false_eq_true, Bool.true_eq_false, not_true_eq_false, not_false_eq_true, ne_eq, Int.reduceEq, Int.reduceNe, Int.reduceLT, Int.reduceLE, and_self, and_true, true_and, and_false, false_and, or_true, true_or, or_false, false_or, true_or, Option.map_some, cs_chk_ok, cs_rd_ok, cs_wr_ok, e1]
  have g3 : (s_set 4 (x_l 1)) [none, some v, some (fs σ v), some (es σ v), none, none] σ = some (.inl ([none, some v, some (fs σ v), some (es σ v), some v, none], σ)) := by simp only [cs_run, cs_L0, s_ret, s_retz, s_retv, s_seq, s_set, s_inc, s_put, s_ast, s_zst, s_cst, s_ada, s_if, s_ex, s_cv, s_nop, s_brk, x_ite, x_l, x_k, x_f, x_a, x_ro, x_add, x_sub, x_mul, x_div, x_rem, x_neg, x_call, x_max, x_min, x_abs, g_cons, g_nil, y_lt, y_le, y_gt, y_ge, y_eq, y_ne, y_not, y_and, y_or, y_ite, Option.bind_some, Option.bind_none, List.getElem?_cons_zero, List.getElem?_cons_succ, List.getElem?_nil, List.set_cons_zero, List.set_cons_succ, List.cons_append, List.nil_append, List.append_nil, List.replicate, List.length_cons, List.length_nil, Nat.reduceAdd, Nat.reduceSub, Nat.zero_add, Nat.sub_self, if_true, if_false, ite_true, ite_false, reduceIte, reduceCtorEq, decide_true, decide_false, decide_eq_true_eq, Bool.not_true, Bool.not_false, Bool.true_and, Bool.false_and, Bool.and_true, Bool.and_false, Bool.true_or, Bool.false_or, Bool.false_eq_true, Bool.true_eq_false, not_true_eq_false, not_false_eq_true, ne_eq, Int.reduceEq, Int.reduceNe, Int.reduceLT, Int.reduceLE, and_self, and_true, true_and, and_false, false_and, or_true, true_or, or_false, false_or, true_or, Option.map_some]
  have g4 : (s_set 5 (x_l 2)) [none, some v, some (fs σ v), some (es σ v), some v, none] σ = some (.inl ([none, some v, some (fs σ v), some (es σ v), some v, some (fs σ v)], σ)) := by simp only [cs_run, cs_L0, s_ret, s_retz, s_retv, s_seq, s_set, s_inc, s_put, s_ast, s_zst, s_cst, s_ada, s_if, s_ex, s_cv, s_nop, s_brk, x_ite, x_l, x_k, x_f, x_a, x_ro, x_add, x_sub, x_mul, x_div, x_rem, x_neg, x_call, x_max, x_min, x_abs, g_cons, g_nil, y_lt, y_le, y_gt, y_ge, y_eq, y_ne, y_not, y_and, y_or, y_ite, Option.bind_some, Option.bind_none, List.getElem?_cons_zero, List.getElem?_cons_succ, List.getElem?_nil, List.set_cons_zero, List.set_cons_succ, List.cons_append, List.nil_append, List.append_nil, List.replicate, List.length_cons, List.length_nil, Nat.reduceAdd, Nat.reduceSub, Nat.zero_add, Nat.sub_self, if_true, if_false, ite_true, ite_false, reduceIte, reduceCtorEq, decide_true, decide_false, decide_eq_true_eq, Bool.not_true, Bool.not_false, Bool.true_and, Bool.false_and, Bool.and_true, Bool.and_false, Bool.true_or, Bool.false_or, Bool.false_eq_true, Bool.true_eq_false, not_true_eq_false, not_false_eq_true, ne_eq, Int.reduceEq, Int.reduceNe, Int.reduceLT, Int.reduceLE, and_self, and_true, true_and, and_false, false_and, or_true, true_or, or_false, false_or, true_or, Option.map_some]
  unfold f_X1_presentBefore b_X1_presentBefore cs_run
  simp only [cs_L0, Option.bind_some, Option.bind_none, List.getElem?_cons_zero, List.getElem?_cons_succ, List.getElem?_nil, List.set_cons_zero, List.set_cons_succ, List.cons_append, List.nil_append, List.append_nil, List.replicate, List.length_cons, List.length_nil, Nat.reduceAdd, Nat.reduceSub, Nat.zero_add, Nat.sub_self, if_true, if_false, ite_true, ite_false, reduceIte, reduceCtorEq, decide_true, decide_false, decide_eq_true_eq, Bool.not_true, Bool.not_false, Bool.true_and, Bool.false_and, Bool.and_true, Bool.and_false, Bool.true_or, Bool.false_or, Bool.false_eq_true, Bool.true_eq_false, not_true_eq_false, not_false_eq_true, ne_eq, Int.reduceEq, Int.reduceNe, Int.reduceLT, Int.reduceLE, and_self, and_true, true_and, and_false, false_and, or_true, true_or, or_false, false_or, true_or, Option.map_some]
  rw [sq_st g1, sq_st g2, sq_st g3, sq_assoc, sq_st g4, hr]
/-! the reference's neighbours -/
theorem f_endOf {σ : cs_S} (h : CSo σ) (hR : RR σ) {c : Int} (hc : 0 ≤ c ∧ c < σ 4 1) : f_X10_endOf [c] σ = some (some (σ 15 (c.toNat + 1)), σ) := by
  have hb := h.1
  have h1 := h.2.1 c.toNat (by omega)
  obtain ⟨r1, r2⟩ := hR.2.2 c.toNat (by omega)
  have e : σ 15 c.toNat + (σ 15 (c.toNat + 1) - σ 15 c.toNat) = σ 15 (c.toNat + 1) := by omega
  simp (disch := omega) only [cs_run, cs_L0, s_ret, s_retz, s_retv, s_seq, s_set, s_inc, s_put, s_ast, s_zst, s_cst, s_ada, s_if, s_ex, s_cv, s_nop, s_brk, x_ite, x_l, x_k, x_f, x_a, x_ro, x_add, x_sub, x_mul, x_div, x_rem, x_neg, x_call, x_max, x_min, x_abs, g_cons, g_nil, y_lt, y_le, y_gt, y_ge, y_eq, y_ne, y_not, y_and, y_or, y_ite, Option.bind_some, Option.bind_none, List.getElem?_cons_zero, List.getElem?_cons_succ, List.getElem?_nil, List.set_cons_zero, List.set_cons_succ, List.cons_append, List.nil_append, List.append_nil, List.replicate, List.length_cons, List.length_nil, Nat.reduceAdd, Nat.reduceSub, Nat.zero_add, Nat.sub_self, if_true, if_false, ite_true, ite_false, reduceIte, reduceCtorEq, decide_true, decide_false, decide_eq_true_eq, Bool.not_true, Bool.not_false, Bool.true_and, Bool.false_and, Bool.and_true, Bool.and_false, Bool.true_or, Bool.false_or, Bool.false_eq_true, Bool.true_eq_false, not_true_eq_false, not_false_eq_true, ne_eq, Int.reduceEq, Int.reduceNe, Int.reduceLT, Int.reduceLE, and_self, and_true, true_and, and_false, false_and, or_true, true_or, or_false, false_or, true_or, Option.map_some, cs_chk_ok, cs_rd_ok, cs_wr_ok, f_X10_endOf, b_X10_endOf, r1, r2, e]
theorem f_following {σ : cs_S} (h : CSo σ) (hR : RR σ) {c v : Int} (hc : 0 ≤ c ∧ c < σ 4 1) (hv : σ 15 c.toNat ≤ v ∧ v < σ 15 (c.toNat + 1)) : f_X10_following [c, v] σ = some (some (nx (σ 15 c.toNat) (σ 15 (c.toNat + 1)) v), σ) := by
  have hb := h.1
  have h1 := h.2.1 c.toNat (by omega)
  obtain ⟨r1, r2⟩ := hR.2.2 c.toNat (by omega)
  have he := f_endOf h hR hc
  unfold nx
  by_cases q : v + 1 < σ 15 (c.toNat + 1)
  · have q' : ¬ v + 1 = σ 15 (c.toNat + 1) := by omega
    simp (disch := omega) only [cs_run, cs_L0, s_ret, s_retz, s_retv, s_seq, s_set, s_inc, s_put, s_ast, s_zst, s_cst, s_ada, s_if, s_ex, s_cv, s_nop, s_brk, x_ite, x_l, x_k, x_f, x_a, x_ro, x_add, x_sub, x_mul, x_div, x_rem, x_neg, x_call, x_max, x_min, x_abs, g_cons, g_nil, y_lt, y_le, y_gt, y_ge, y_eq, y_ne, y_not, y_and, y_or, y_ite, Option.bind_some, Option.bind_none, List.getElem?_cons_zero, List.getElem?_cons_succ, List.getElem?_nil, List.set_cons_zero, List.set_cons_succ, List.cons_append, List.nil_append, List.append_nil, List.replicate, List.length_cons, List.length_nil, Nat.reduceAdd, Nat.reduceSub, Nat.zero_add, Nat.sub_self, if_true, if_false, ite_true, ite_false, reduceIte, reduceCtorEq, decide_true, decide_false, decide_eq_true_eq, Bool.not_true, Bool.not_false, Bool.true_and, Bool.false_and, Bool.and_true, Bool.and_false, Bool.true_or, Bool.false_or, Bool.false_eq_true, Bool.true_eq_false, not_true_eq_false, not_false_eq_true, ne_eq, Int.reduceEq, Int.reduceNe, Int.reduceLT, Int.reduceLE, and_self, and_true, true_and, and_false, false_and, or_true, true_or, or_false, false_or, true_or, Option.map_some, cs_chk_ok, cs_rd_ok, cs_wr_ok, f_X10_following, b_X10_following, he, r1, q, q']
  · have q' : v + 1 = σ 15 (c.toNat + 1) := by omega
    have q2 : ¬ σ 15 (c.toNat + 1) < σ 15 (c.toNat + 1) := by omega
    simp (disch := omega) only [cs_run, cs_L0, s_ret, s_retz, s_retv, s_seq, s_set, s_inc, s_put, s_ast, s_zst, s_cst, s_ada, s_if, s_ex, s_cv, s_nop, s_brk, x_ite, x_l, x_k, x_f, x_a, x_ro, x_add, x_sub, x_mul, x_div, x_rem, x_neg, x_call, x_max, x_min, x_abs, g_cons, g_nil, y_lt, y_le, y_gt, y_ge, y_eq, y_ne, y_not, y_and, y_or, y_ite, Option.bind_some, Option.bind_none, List.getElem?_cons_zero, List.getElem?_cons_succ, List.getElem?_nil, List.set_cons_zero, List.set_cons_succ, List.cons_append, List.nil_append, List.append_nil, List.replicate, List.length_cons, List.length_nil, Nat.reduceAdd, Nat.reduceSub, Nat.zero_add, Nat.sub_self, if_true, if_false, ite_true, ite_false, reduceIte, reduceCtorEq, decide_true, decide_false, decide_eq_true_eq, Bool.not_true, Bool.not_false, Bool.true_and, Bool.false_and, Bool.and_true, Bool.and_false, Bool.true_or, Bool.false_or, Bool.false_eq_true, Bool.true_eq_false, not_true_eq_false, not_false_eq_true, ne_eq, Int.reduceEq, Int.reduceNe, Int.reduceLT, Int.reduceLE, and_self, and_true, true_and, and_false, false_and, or_true, true_or, or_false, false_or, true_or, Option.map_some, cs_chk_ok, cs_rd_ok, cs_wr_ok, f_X10_following, b_X10_following, he, r1, q', q2]
theorem afr_run {σ : cs_S} (h : CSo σ) (hR : RR σ) {c v : Int} (hc : 0 ≤ c ∧ c < σ 4 1) : ∀ (k : Nat) (u d : Int), (σ 15 c.toNat ≤ u ∧ u < σ 15 (c.toNat + 1)) → (∃ j, j < k + 1 ∧ Pr σ (rep (nx (σ 15 c.toNat) (σ 15 (c.toNat + 1))) j u) = true) → s_seq w_X10_after_1 (s_ret (x_l 3)) [none, some c, some v, some u] σ = some (.inr (.inl (some (if Pr σ u then u else hop (Pr σ) (nx (σ 15 c.toNat) (σ 15 (c.toNat + 1))) k u d), σ))) := by
  intro k
  induction k with
  | zero =>
    intro u d hu hj
    obtain ⟨j, hj1, hj2⟩ := hj
    have : j = 0 := by omega
    subst this
    have hP : Pr σ u = true := hj2
    have hb := h.1
    have h1 := h.2.1 c.toNat (by omega)
    have r3 := (hR.2.1.2 u.toNat (by omega)).2.2
    have p : σ 23 u.toNat ≠ 0 := by simpa [Pr] using hP
    have hcn : wc_X10_after_1 [none, some c, some v, some u] σ = some (false, σ) := by simp (disch := omega) only [cs_run, cs_L0, s_ret, s_retz, s_retv, s_seq, s_set, s_inc, s_put, s_ast, s_zst, s_cst, s_ada, s_if, s_ex, s_cv, s_nop, s_brk, x_ite, x_l, x_k, x_f, x_a, x_ro, x_add, x_sub, x_mul, x_div, x_rem, x_neg, x_call, x_max, x_min, x_abs, g_cons, g_nil, y_lt, y_le, y_gt, y_ge, y_eq, y_ne, y_not, y_and, y_or, y_ite, Option.bind_some, Option.bind_none, List.getElem?_cons_zero, List.getElem?_cons_succ, List.getElem?_nil, List.set_cons_zero, List.set_cons_succ, List.cons_append, List.nil_append, List.append_nil, List.replicate, List.length_cons, List.length_nil, Nat.reduceAdd, Nat.reduceSub, Nat.zero_add, Nat.sub_self, if_true, if_false, ite_true, ite_false, reduceIte, reduceCtorEq, decide_true, decide_false, decide_eq_true_eq, Bool.not_true, Bool.not_false, Bool.true_and, Bool.false_and, Bool.and_true, Bool.and_false, Bool.true_or, Bool.false_or, Bool.false_eq_true, Bool.true_eq_false, not_true_eq_false, not_false_eq_true, ne_eq, Int.reduceEq, Int.reduceNe, Int.reduceLT, Int.reduceLE, and_self, and_true, true_and, and_false, false_and, or_true, true_or, or_false, false_or, true_or, Option.map_some, cs_chk_ok, cs_rd_ok, cs_wr_ok, wc_X10_after_1, r3, p]
    rw [w_X10_after_1, sq_no hcn, hP, if_pos rfl]
    simp only [cs_run, cs_L0, s_ret, s_retz, s_retv, s_seq, s_set, s_inc, s_put, s_ast, s_zst, s_cst, s_ada, s_if, s_ex, s_cv, s_nop, s_brk, x_ite, x_l, x_k, x_f, x_a, x_ro, x_add, x_sub, x_mul, x_div, x_rem, x_neg, x_call, x_max, x_min, x_abs, g_cons, g_nil, y_lt, y_le, y_gt, y_ge, y_eq, y_ne, y_not, y_and, y_or, y_ite, Option.bind_some, Option.bind_none, List.getElem?_cons_zero, List.getElem?_cons_succ, List.getElem?_nil, List.set_cons_zero, List.set_cons_succ, List.cons_append, List.nil_append, List.append_nil, List.replicate, List.length_cons, List.length_nil, Nat.reduceAdd, Nat.reduceSub, Nat.zero_add, Nat.sub_self, if_true, if_false, ite_true, ite_false, reduceIte, reduceCtorEq, decide_true, decide_false, decide_eq_true_eq, Bool.not_true, Bool.not_false, Bool.true_and, Bool.false_and, Bool.and_true, Bool.and_false, Bool.true_or, Bool.false_or, Bool.false_eq_true, Bool.true_eq_false, not_true_eq_false, not_false_eq_true, ne_eq, Int.reduceEq, Int.reduceNe, Int.reduceLT, Int.reduceLE, and_self, and_true, true_and, and_false, false_and, or_true, true_or, or_false, false_or, true_or, Option.map_some]
  | succ k ih =>
    intro u d hu hj
    obtain ⟨j, hj1, hj2⟩ := hj
    have hb := h.1
    have h1 := h.2.1 c.toNat (by omega)
    have r3 := (hR.2.1.2 u.toNat (by omega)).2.2
    by_cases p : σ 23 u.toNat = 0
    · have hP : Pr σ u = false := by simp [Pr, p]
      have hcn : wc_X10_after_1 [none, some c, some v, some u] σ = some (true, σ) := by simp (disch := omega) only [cs_run, cs_L0, s_ret, s_retz, s_retv, s_seq, s_set, s_inc, s_put, s_ast, s_zst, s_cst, s_ada, s_if, s_ex, s_cv, s_nop, s_brk, x_ite, x_l, x_k, x_f, x_a, x_ro, x_add, x_sub, x_mul, x_div, x_rem, x_neg, x_call, x_max, x_min, x_abs, g_cons, g_nil, y_lt, y_le, y_gt, y_ge, y_eq, y_ne, y_not, y_and, y_or, y_ite, Option.bind_some, Option.bind_none, List.getElem?_cons_zero, List.getElem?_cons_succ, List.getElem?_nil, List.set_cons_zero, List.set_cons_succ, List.cons_append, List.nil_append, List.append_nil, List.replicate, List.length_cons, List.length_nil, Nat.reduceAdd, Nat.reduceSub, Nat.zero_add, Nat.sub_self, if_true, if_false, ite_true, ite_false, reduceIte, reduceCtorEq, decide_true, decide_false, decide_eq_true_eq, Bool.not_true, Bool.not_false, Bool.true_and, Bool.false_and, Bool.and_true, Bool.and_false, Bool.true_or, Bool.false_or, Bool.false_eq_true, Bool.true_eq_false, not_true_eq_false, not_false_eq_true, ne_eq, Int.reduceEq, Int.reduceNe, Int.reduceLT, Int.reduceLE, and_self, and_true, true_and, and_false, false_and, or_true, true_or, or_false, false_or, true_or, Option.map_some, cs_chk_ok, cs_rd_ok, cs_wr_ok, wc_X10_after_1, r3, p]
      have hf := f_following h hR hc hu
      have hbd : wb_X10_after_1 [none, some c, some v, some u] σ = some (.inl ([none, some c, some v, some (nx (σ 15 c.toNat) (σ 15 (c.toNat + 1)) u)], σ)) := by
        simp only [wb_X10_after_1, cs_run, cs_L0, s_ret, s_retz, s_retv, s_seq, s_set, s_inc, s_put, s_ast, s_zst, s_cst, s_ada, s_if, s_ex, s_cv, s_nop, s_brk, x_ite, x_l, x_k, x_f, x_a, x_ro, x_add, x_sub, x_mul, x_div, x_rem, x_neg, x_call, x_max, x_min, x_abs, g_cons, g_nil, y_lt, y_le, y_gt, y_ge, y_eq, y_ne, y_not, y_and, y_or, y_ite, Option.bind_some, Option.bind_none, List.getElem?_cons_zero, List.getElem?_cons_succ, List.getElem?_nil, List.set_cons_zero, List.set_cons_succ, List.cons_append, List.nil_append, List.append_nil, List.replicate, List.length_cons, List.length_nil, Nat.reduceAdd, Nat.reduceSub, Nat.zero_add, Nat.sub_self, if_true, if_false, ite_true, ite_false, reduceIte, reduceCtorEq, decide_true, decide_false, decide_eq_true_eq, Bool.not_true, Bool.not_false, Bool.true_and, Bool.false_and, Bool.and_true, Bool.and_false, Bool.true_or, Bool.false_or, Bool.false_eq_true, Bool.true_eq_false, not_true_eq_false, not_false_eq_true, ne_eq, Int.reduceEq, Int.reduceNe, Int.reduceLT, Int.reduceLE, and_self, and_true, true_and, and_false, false_and, or_true, true_or, or_false, false_or, true_or, Option.map_some, hf]
      rw [w_X10_after_1, sq_go hcn hbd, hP, if_neg (by decide), hop]
      refine ih _ d (nx_in hu) ?_
      cases j with
      | zero => rw [rep, hP] at hj2; exact absurd hj2 (by decide)
      | succ j => exact ⟨j, by omega, hj2⟩
    · have hP : Pr σ u = true := by simp [Pr, p]
      have hcn : wc_X10_after_1 [none, some c, some v, some u] σ = some (false, σ) := by simp (disch := omega) only [cs_run, cs_L0, s_ret, s_retz, s_retv, s_seq, s_set, s_inc, s_put, s_ast, s_zst, s_cst, s_ada, s_if, s_ex, s_cv, s_nop, s_brk, x_ite, x_l, x_k, x_f, x_a, x_ro, x_add, x_sub, x_mul, x_div, x_rem, x_neg, x_call, x_max, x_min, x_abs, g_cons, g_nil, y_lt, y_le, y_gt, y_ge, y_eq, y_ne, y_not, y_and, y_or, y_ite, Option.bind_some, Option.bind_none, List.getElem?_cons_zero, List.getElem?_cons_succ, List.getElem?_nil, List.set_cons_zero, List.set_cons_succ, List.cons_append, List.nil_append, List.append_nil, List.replicate, List.length_cons, List.length_nil, Nat.reduceAdd, Nat.reduceSub, Nat.zero_add, Nat.sub_self, if_true, if_false, ite_true, ite_false, reduceIte, reduceCtorEq, decide_true, decide_false, decide_eq_true_eq, Bool.not_true, Bool.not_false, Bool.true_and, Bool.false_and, Bool.and_true, Bool.and_false, Bool.true_or, Bool.false_or, Bool.false_eq_true, Bool.true_eq_false, not_true_eq_false, not_false_eq_true, ne_eq, Int.reduceEq, Int.reduceNe, Int.reduceLT, Int.reduceLE, and_self, and_true, true_and, and_false, false_and, or_true, true_or, or_false, false_or, true_or, Option.map_some, cs_chk_ok, cs_rd_ok, cs_wr_ok, wc_X10_after_1, r3, p]
      rw [w_X10_after_1, sq_no hcn, hP, if_pos rfl]
      simp only [cs_run, cs_L0, s_ret, s_retz, s_retv, s_seq, s_set, s_inc, s_put, s_ast, s_zst, s_cst, s_ada, s_if, s_ex, s_cv, s_nop, s_brk, x_ite, x_l, x_k, x_f, x_a, x_ro, x_add, x_sub, x_mul, x_div, x_rem, x_neg, x_call, x_max, x_min, x_abs, g_cons, g_nil, y_lt, y_le, y_gt, y_ge, y_eq, y_ne, y_not, y_and, y_or, y_ite, Option.bind_some, Option.bind_none, List.getElem?_cons_zero, List.getElem?_cons_succ, List.getElem?_nil, List.set_cons_zero, List.set_cons_succ, List.cons_append, List.nil_append, List.append_nil, List.replicate, List.length_cons, List.length_nil, Nat.reduceAdd, Nat.reduceSub, Nat.zero_add, Nat.sub_self, if_true, if_false, ite_true, ite_false, reduceIte, reduceCtorEq, decide_true, decide_false, decide_eq_true_eq, Bool.not_true, Bool.not_false, Bool.true_and, Bool.false_and, Bool.and_true, Bool.and_false, Bool.true_or, Bool.false_or, Bool.false_eq_true, Bool.true_eq_false, not_true_eq_false, not_false_eq_true, ne_eq, Int.reduceEq, Int.reduceNe, Int.reduceLT, Int.reduceLE, and_self, and_true, true_and, and_false, false_and, or_true, true_or, or_false, false_or, true_or, Option.map_some]
theorem f_after {σ : cs_S} (h : CSo σ) (hR : RR σ) (hp : Pos1 σ) {c v : Int} (hv : 0 ≤ v ∧ v < σ 4 2) (hc : c = σ 20 v.toNat) : f_X10_after [c, v] σ = some (some (aftS σ v), σ) := by
  obtain ⟨h1, h2, h3⟩ := own_in h hv
  rw [← hc] at h1
  obtain ⟨u, hu, hPu⟩ := hp c.toNat (by omega)
  have ef : fs σ v = σ 15 c.toNat := by unfold fs; rw [← hc]
  have ee : es σ v = σ 15 (c.toNat + 1) := by unfold es; rw [← hc]
  rw [ef, ee] at h3
  have hf := f_following h hR h1 h3
  obtain ⟨j, hj, hrep⟩ := reach_nx hu h3
  have hr := afr_run h hR (v := v) h1 ((σ 15 (c.toNat + 1) - σ 15 c.toNat).toNat - 1) (nx (σ 15 c.toNat) (σ 15 (c.toNat + 1)) v) v (nx_in h3) ⟨j, by omega, by rw [hrep]; exact hPu⟩
  have hk : (σ 15 (c.toNat + 1) - σ 15 c.toNat).toNat = (σ 15 (c.toNat + 1) - σ 15 c.toNat).toNat - 1 + 1 := by omega
  unfold aftS
  rw [ef, ee, hk, hop]
  have g1 : (s_set 3 (x_call f_X10_following (g_cons (x_l 1) (g_cons (x_l 2) g_nil)))) [none, some c, some v, none] σ = some (.inl ([none, some c, some v, some (nx (σ 15 c.toNat) (σ 15 (c.toNat + 1)) v)], σ)) := by simp only [cs_run, cs_L0, s_ret, s_retz, s_retv, s_seq, s_set, s_inc, s_put, s_ast, s_zst, s_cst, s_ada, s_if, s_ex, s_cv, s_nop, s_brk, x_ite, x_l, x_k, x_f, x_a, x_ro, x_add, x_sub, x_mul, x_div, x_rem, x_neg, x_call, x_max, x_min, x_abs, g_cons, g_nil, y_lt, y_le, y_gt, y_ge, y_eq, y_ne, y_not, y_and, y_or, y_ite, Option.bind_some, Option.bind_none, List.getElem?_cons_zero, List.getElem?_cons_succ, List.getElem?_nil, List.set_cons_zero, List.set_cons_succ, List.cons_append, List.nil_append, List.append_nil, List.replicate, List.length_cons, List.length_nil, Nat.reduceAdd, Nat.reduceSub, Nat.zero_add, Nat.sub_self, if_true, if_false, ite_true, ite_false, reduceIte, reduceCtorEq, decide_true, decide_false, decide_eq_true_eq, Bool.not_true, Bool.not_false, Bool.true_and, Bool.false_and, Bool.and_true, Bool.and_false, Bool.true_or, Bool.false_or, Bool.false_eq_true, Bool.true_eq_false, not_true_eq_false, not_false_eq_true, ne_eq, Int.reduceEq, Int.reduceNe, Int.reduceLT, Int.reduceLE, and_self, and_true, true_and, and_false, false_and, or_true, true_or, or_false, false_or, true_or, Option.map_some, hf]
  unfold f_X10_after b_X10_after cs_run
  simp only [cs_L0, Option.bind_some, Option.bind_none, List.getElem?_cons_zero, List.getElem?_cons_succ, List.getElem?_nil, List.set_cons_zero, List.set_cons_succ, List.cons_append, List.nil_append, List.append_nil, List.replicate, List.length_cons, List.length_nil, Nat.reduceAdd, Nat.reduceSub, Nat.zero_add, Nat.sub_self, if_true, if_false, ite_true, ite_false, reduceIte, reduceCtorEq, decide_true, decide_false, decide_eq_true_eq, Bool.not_true, Bool.not_false, Bool.true_and, Bool.false_and, Bool.and_true, Bool.and_false, Bool.true_or, Bool.false_or, Bool.false_eq_true, Bool.true_eq_false, not_true_eq_false, not_false_eq_true, ne_eq, Int.reduceEq, Int.reduceNe, Int.reduceLT, Int.reduceLE, and_self, and_true, true_and, and_false, false_and, or_true, true_or, or_false, false_or, true_or, Option.map_some]
  rw [sq_st g1, hr]
theorem ahr_run {σ : cs_S} (h : CSo σ) (hR : RR σ) {c v : Int} (hc : 0 ≤ c ∧ c < σ 4 1) : ∀ (k : Nat) (u d : Int), (σ 15 c.toNat ≤ u ∧ u < σ 15 (c.toNat + 1)) → (∃ j, j < k ∧ Pr σ (rep (pv (σ 15 c.toNat) (σ 15 (c.toNat + 1))) j (pv (σ 15 c.toNat) (σ 15 (c.toNat + 1)) u)) = true) → s_seq w_X10_ahead_1 (s_ret (x_l 3)) [none, some c, some v, some u, some 1] σ = some (.inr (.inl (some (hop (Pr σ) (pv (σ 15 c.toNat) (σ 15 (c.toNat + 1))) k u d), σ))) := by
  intro k
  induction k with
  | zero => intro u d hu hj; obtain ⟨j, hj1, -⟩ := hj; omega
  | succ k ih =>
    intro u d hu hj
    obtain ⟨j, hj1, hj2⟩ := hj
    have hb := h.1
    have h1 := h.2.1 c.toNat (by omega)
    obtain ⟨r1, r2⟩ := hR.2.2 c.toNat (by omega)
    have hin := pv_in hu
    have he := f_endOf h hR hc
    have hcn : wc_X10_ahead_1 [none, some c, some v, some u, some 1] σ = some (true, σ) := by simp only [wc_X10_ahead_1, cs_run, cs_L0, s_ret, s_retz, s_retv, s_seq, s_set, s_inc, s_put, s_ast, s_zst, s_cst, s_ada, s_if, s_ex, s_cv, s_nop, s_brk, x_ite, x_l, x_k, x_f, x_a, x_ro, x_add, x_sub, x_mul, x_div, x_rem, x_neg, x_call, x_max, x_min, x_abs, g_cons, g_nil, y_lt, y_le, y_gt, y_ge, y_eq, y_ne, y_not, y_and, y_or, y_ite, Option.bind_some, Option.bind_none, List.getElem?_cons_zero, List.getElem?_cons_succ, List.getElem?_nil, List.set_cons_zero, List.set_cons_succ, List.cons_append, List.nil_append, List.append_nil, List.replicate, List.length_cons, List.length_nil, Nat.reduceAdd, Nat.reduceSub, Nat.zero_add, Nat.sub_self, if_true, if_false, ite_true, ite_false, reduceIte, reduceCtorEq, decide_true, decide_false, decide_eq_true_eq, Bool.not_true, Bool.not_false, Bool.true_and, Bool.false_and, Bool.and_true, Bool.and_false, Bool.true_or, Bool.false_or, Bool.false_eq_true, Bool.true_eq_false, not_true_eq_false, not_false_eq_true, ne_eq, Int.reduceEq, Int.reduceNe, Int.reduceLT, Int.reduceLE, and_self, and_true, true_and, and_false, false_and, or_true, true_or, or_false, false_or, true_or, Option.map_some]
    have hset : (s_set 3 (x_ite (y_eq (x_l 3) (x_a 32 256 (x_l 1))) (x_sub (x_call f_X10_endOf (g_cons (x_l 1) g_nil)) (x_k 1)) (x_sub (x_l 3) (x_k 1)))) [none, some c, some v, some u, some 1] σ = some (.inl ([none, some c, some v, some (pv (σ 15 c.toNat) (σ 15 (c.toNat + 1)) u), some 1], σ)) := by
      unfold pv
      by_cases q : u = σ 15 c.toNat
      · have q' : ¬ u > σ 15 c.toNat := by omega
        have q2 : ¬ σ 15 c.toNat > σ 15 c.toNat := by omega
        simp (disch := omega) only [cs_run, cs_L0, s_ret, s_retz, s_retv, s_seq, s_set, s_inc, s_put, s_ast, s_zst, s_cst, s_ada, s_if, s_ex, s_cv, s_nop, s_brk, x_ite, x_l, x_k, x_f, x_a, x_ro, x_add, x_sub, x_mul, x_div, x_rem, x_neg, x_call, x_max, x_min, x_abs, g_cons, g_nil, y_lt, y_le, y_gt, y_ge, y_eq, y_ne, y_not, y_and, y_or, y_ite, Option.bind_some, Option.bind_none, List.getElem?_cons_zero, List.getElem?_cons_succ, List.getElem?_nil, List.set_cons_zero, List.set_cons_succ, List.cons_append, List.nil_append, List.append_nil, List.replicate, List.length_cons, List.length_nil, Nat.reduceAdd, Nat.reduceSub, Nat.zero_add, Nat.sub_self, if_true, if_false, ite_true, ite_false, reduceIte, reduceCtorEq, decide_true, decide_false, decide_eq_true_eq, Bool.not_true, Bool.not_false, Bool.true_and, Bool.false_and, Bool.and_true, Bool.and_false, Bool.true_or, Bool.false_or, Bool.false_eq_true, Bool.true_eq_false, not_true_eq_false, not_false_eq_true, ne_eq, Int.reduceEq, Int.reduceNe, Int.reduceLT, Int.reduceLE, and_self, and_true, true_and, and_false, false_and, or_true, true_or, or_false, false_or, true_or, Option.map_some, cs_chk_ok, cs_rd_ok, cs_wr_ok, r1, he, q, q2]
      · have q' : u > σ 15 c.toNat := by omega
        simp (disch := omega) only [cs_run, cs_L0, s_ret, s_retz, s_retv, s_seq, s_set, s_inc, s_put, s_ast, s_zst, s_cst, s_ada, s_if, s_ex, s_cv, s_nop, s_brk, x_ite, x_l, x_k, x_f, x_a, x_ro, x_add, x_sub, x_mul, x_div, x_rem, x_neg, x_call, x_max, x_min, x_abs, g_cons, g_nil, y_lt, y_le, y_gt, y_ge, y_eq, y_ne, y_not, y_and, y_or, y_ite, Option.bind_some, Option.bind_none, List.getElem?_cons_zero, List.getElem?_cons_succ, List.getElem?_nil, List.set_cons_zero, List.set_cons_succ, List.cons_append, List.nil_append, List.append_nil, List.replicate, List.length_cons, List.length_nil, Nat.reduceAdd, Nat.reduceSub, Nat.zero_add, Nat.sub_self, if_true, if_false, ite_true, ite_false, reduceIte, reduceCtorEq, decide_true, decide_false, decide_eq_true_eq, Bool.not_true, Bool.not_false, Bool.true_and, Bool.false_and, Bool.and_true, Bool.and_false, Bool.true_or, Bool.false_or, Bool.false_eq_true, Bool.true_eq_false, not_true_eq_false, not_false_eq_true, ne_eq, Int.reduceEq, Int.reduceNe, Int.reduceLT, Int.reduceLE, and_self, and_true, true_and, and_false, false_and, or_true, true_or, or_false, false_or, true_or, Option.map_some, cs_chk_ok, cs_rd_ok, cs_wr_ok, r1, he, q, q']
    rw [hop]
    generalize hw : pv (σ 15 c.toNat) (σ 15 (c.toNat + 1)) u = w at *
    have r3 := (hR.2.1.2 w.toNat (by omega)).2.2
    by_cases p : σ 23 w.toNat = 0
    · have hP : Pr σ w = false := by simp [Pr, p]
      have hbd : wb_X10_ahead_1 [none, some c, some v, some u, some 1] σ = some (.inl ([none, some c, some v, some w, some 1], σ)) := by
        rw [wb_X10_ahead_1, sq_st hset]
        simp (disch := omega) only [cs_run, cs_L0, s_ret, s_retz, s_retv, s_seq, s_set, s_inc, s_put, s_ast, s_zst, s_cst, s_ada, s_if, s_ex, s_cv, s_nop, s_brk, x_ite, x_l, x_k, x_f, x_a, x_ro, x_add, x_sub, x_mul, x_div, x_rem, x_neg, x_call, x_max, x_min, x_abs, g_cons, g_nil, y_lt, y_le, y_gt, y_ge, y_eq, y_ne, y_not, y_and, y_or, y_ite, Option.bind_some, Option.bind_none, List.getElem?_cons_zero, List.getElem?_cons_succ, List.getElem?_nil, List.set_cons_zero, List.set_cons_succ, List.cons_append, List.nil_append, List.append_nil, List.replicate, List.length_cons, List.length_nil, Nat.reduceAdd, Nat.reduceSub, Nat.zero_add, Nat.sub_self, if_true, if_false, ite_true, ite_false, reduceIte, reduceCtorEq, decide_true, decide_false, decide_eq_true_eq, Bool.not_true, Bool.not_false, Bool.true_and, Bool.false_and, Bool.and_true, Bool.and_false, Bool.true_or, Bool.false_or, Bool.false_eq_true, Bool.true_eq_false, not_true_eq_false, not_false_eq_true, ne_eq, Int.reduceEq, Int.reduceNe, Int.reduceLT, Int.reduceLE, and_self, and_true, true_and, and_false, false_and, or_true, true_or, or_false, false_or, true_or, Option.map_some, cs_chk_ok, cs_rd_ok, cs_wr_ok, r3, p]
      rw [w_X10_ahead_1, sq_go hcn hbd, hP, if_neg (by decide)]
      refine ih w d hin ?_
      cases j with
      | zero => rw [rep, hP] at hj2; exact absurd hj2 (by decide)
      | succ j => exact ⟨j, by omega, hj2⟩
    · have hP : Pr σ w = true := by simp [Pr, p]
      have hbd : wb_X10_ahead_1 [none, some c, some v, some u, some 1] σ = some (.inl ([none, some c, some v, some w, some 0], σ)) := by
        rw [wb_X10_ahead_1, sq_st hset]
        simp (disch := omega) only [cs_run, cs_L0, s_ret, s_retz, s_retv, s_seq, s_set, s_inc, s_put, s_ast, s_zst, s_cst, s_ada, s_if, s_ex, s_cv, s_nop, s_brk, x_ite, x_l, x_k, x_f, x_a, x_ro, x_add, x_sub, x_mul, x_div, x_rem, x_neg, x_call, x_max, x_min, x_abs, g_cons, g_nil, y_lt, y_le, y_gt, y_ge, y_eq, y_ne, y_not, y_and, y_or, y_ite, Option.bind_some, Option.bind_none, List.getElem?_cons_zero, List.getElem?_cons_succ, List.getElem?_nil, List.set_cons_zero, List.set_cons_succ, List.cons_append, List.nil_append, List.append_nil, List.replicate, List.length_cons, List.length_nil, Nat.reduceAdd, Nat.reduceSub, Nat.zero_add, Nat.sub_self, if_true, if_false, ite_true, ite_false, reduceIte, reduceCtorEq, decide_true, decide_false, decide_eq_true_eq, Bool.not_true, Bool.not_false, Bool.true_and, Bool.false_and, Bool.and_true, Bool.and_false, Bool.true_or, Bool.false_or, Bool.false_eq_true, Bool.true_eq_false, not_true_eq_false, not_false_eq_true, ne_eq, Int.reduceEq, Int.reduceNe, Int.reduceLT, Int.reduceLE, and_self, and_true, true_and, and_false, false_and, or_true, true_or, or_false, false_or, true_or, Option.map_some, cs_chk_ok, cs_rd_ok, cs_wr_ok, r3, p]
      have hcn0 : wc_X10_ahead_1 [none, some c, some v, some w, some 0] σ = some (false, σ) := by simp only [wc_X10_ahead_1, cs_run, cs_L0, s_ret, s_retz, s_retv, s_seq, s_set, s_inc, s_put, s_ast, s_zst, s_cst, s_ada, s_if, s_ex, s_cv, s_nop, s_brk, x_ite, x_l, x_k, x_f, x_a, x_ro, x_add, x_sub, x_mul, x_div, x_rem, x_neg, x_call, x_max, x_min, x_abs, g_cons, g_nil, y_lt, y_le, y_gt, y_ge, y_eq, y_ne, y_not, y_and, y_or, y_ite, Option.bind_some, Option.bind_none, List.getElem?_cons_zero, List.getElem?_cons_succ, List.getElem?_nil, List.set_cons_zero, List.set_cons_succ, List.cons_append, List.nil_append, List.append_nil, List.replicate, List.length_cons, List.length_nil, Nat.reduceAdd, Nat.reduceSub, Nat.zero_add, Nat.sub_self, if_true, if_false, ite_true, ite_false, reduceIte, reduceCtorEq, decide_true, decide_false, decide_eq_true_eq, Bool.not_true, Bool.not_false, Bool.true_and, Bool.false_and, Bool.and_true, Bool.and_false, Bool.true_or, Bool.false_or, Bool.false_eq_true, Bool.true_eq_false, not_true_eq_false, not_false_eq_true, ne_eq, Int.reduceEq, Int.reduceNe, Int.reduceLT, Int.reduceLE, and_self, and_true, true_and, and_false, false_and, or_true, true_or, or_false, false_or, true_or, Option.map_some]
      rw [w_X10_ahead_1, sq_go hcn hbd, sq_no hcn0, hP, if_pos rfl]
      simp only [cs_run, cs_L0, s_ret, s_retz, s_retv, s_seq, s_set, s_inc, s_put, s_ast, s_zst, s_cst, s_ada, s_if, s_ex, s_cv, s_nop, s_brk, x_ite, x_l, x_k, x_f, x_a, x_ro, x_add, x_sub, x_mul, x_div, x_rem, x_neg, x_call, x_max, x_min, x_abs, g_cons, g_nil, y_lt, y_le, y_gt, y_ge, y_eq, y_ne, y_not, y_and, y_or, y_ite, Option.bind_some, Option.bind_none, List.getElem?_cons_zero, List.getElem?_cons_succ, List.getElem?_nil, List.set_cons_zero, List.set_cons_succ, List.cons_append, List.nil_append, List.append_nil, List.replicate, List.length_cons, List.length_nil, Nat.reduceAdd, Nat.reduceSub, Nat.zero_add, Nat.sub_self, if_true, if_false, ite_true, ite_false, reduceIte, reduceCtorEq, decide_true, decide_false, decide_eq_true_eq, Bool.not_true, Bool.not_false, Bool.true_and, Bool.false_and, Bool.and_true, Bool.and_false, Bool.true_or, Bool.false_or, Bool.false_eq_true, Bool.true_eq_false, not_true_eq_false, not_false_eq_true, ne_eq, Int.reduceEq, Int.reduceNe, Int.reduceLT, Int.reduceLE, and_self, and_true, true_and, and_false, false_and, or_true, true_or, or_false, false_or, true_or, Option.map_some]
theorem f_ahead {σ : cs_S} (h : CSo σ) (hR : RR σ) (hp : Pos1 σ) {c v : Int} (hv : 0 ≤ v ∧ v < σ 4 2) (hc : c = σ 20 v.toNat) : f_X10_ahead [c, v] σ = some (some (befS σ v), σ) := by
  obtain ⟨h1, h2, h3⟩ := own_in h hv
  rw [← hc] at h1
  obtain ⟨u, hu, hPu⟩ := hp c.toNat (by omega)
  have ef : fs σ v = σ 15 c.toNat := by unfold fs; rw [← hc]
  have ee : es σ v = σ 15 (c.toNat + 1) := by unfold es; rw [← hc]
  rw [ef, ee] at h3
  obtain ⟨j, hj, hrep⟩ := reach_pv hu h3
  have hr := ahr_run h hR (v := v) h1 (σ 15 (c.toNat + 1) - σ 15 c.toNat).toNat v v h3 ⟨j, by omega, by rw [hrep]; exact hPu⟩
  unfold befS
  rw [ef, ee]
  have g1 : (s_set 3 (x_l 2)) [none, some c, some v, none, none] σ = some (.inl ([none, some c, some v, some v, none], σ)) := by simp only [cs_run, cs_L0, s_ret, s_retz, s_retv, s_seq, s_set, s_inc, s_put, s_ast, s_zst, s_cst, s_ada, s_if, s_ex, s_cv, s_nop, s_brk, x_ite, x_l, x_k, x_f, x_a, x_ro, x_add, x_sub, x_mul, x_div, x_rem, x_neg, x_call, x_max, x_min, x_abs, g_cons, g_nil, y_lt, y_le, y_gt, y_ge, y_eq, y_ne, y_not, y_and, y_or, y_ite, Option.bind_some, Option.bind_none, List.getElem?_cons_zero, List.getElem?_cons_succ, List.getElem?_nil, List.set_cons_zero, List.set_cons_succ, List.cons_append, List.nil_append, List.append_nil, List.replicate, List.length_cons, List.length_nil, Nat.reduceAdd, Nat.reduceSub, Nat.zero_add, Nat.sub_self, if_true, if_false, ite_true, ite_false, reduceIte, reduceCtorEq, decide_true, decide_false, decide_eq_true_eq, Bool.not_true, Bool.not_false, Bool.true_and, Bool.false_and, Bool.and_true, Bool.and_false, Bool.true_or, Bool.false_or, Bool.false_eq_true, Bool.true_eq_false, not_true_eq_false, not_false_eq_true, ne_eq, Int.reduceEq, Int.reduceNe, Int.reduceLT, Int.reduceLE, and_self, and_true, true_and, and_false, false_and, or_true, true_or, or_false, false_or, true_or, Option.map_some]
  have g2 : (s_set 4 (x_k 1)) [none, some c, some v, some v, none] σ = some (.inl ([none, some c, some v, some v, some 1], σ)) := by simp only [cs_run, cs_L0, s_ret, s_retz, s_retv, s_seq, s_set, s_inc, s_put, s_ast, s_zst, s_cst, s_ada, s_if, s_ex, s_cv, s_nop, s_brk, x_ite, x_l, x_k, x_f, x_a, x_ro, x_add, x_sub, x_mul, x_div, x_rem, x_neg, x_call, x_max, x_min, x_abs, g_cons, g_nil, y_lt, y_le, y_gt, y_ge, y_eq, y_ne, y_not, y_and, y_or, y_ite, Option.bind_some, Option.bind_none, List.getElem?_cons_zero, List.getElem?_cons_succ, List.getElem?_nil, List.set_cons_zero, List.set_cons_succ, List.cons_append, List.nil_append, List.append_nil, List.replicate, List.length_cons, List.length_nil, Nat.reduceAdd, Nat.reduceSub, Nat.zero_add, Nat.sub_self, if_true, if_false, ite_true, ite_false, reduceIte, reduceCtorEq, decide_true, decide_false, decide_eq_true_eq, Bool.not_true, Bool.not_false, Bool.true_and, Bool.false_and, Bool.and_true, Bool.and_false, Bool.true_or, Bool.false_or, Bool.false_eq_true, Bool.true_eq_false, not_true_eq_false, not_false_eq_true, ne_eq, Int.reduceEq, Int.reduceNe, Int.reduceLT, Int.reduceLE, and_self, and_true, true_and, and_false, false_and, or_true, true_or, or_false, false_or, true_or, Option.map_some]
  unfold f_X10_ahead b_X10_ahead cs_run
  simp only [cs_L0, Option.bind_some, Option.bind_none, List.getElem?_cons_zero, List.getElem?_cons_succ, List.getElem?_nil, List.set_cons_zero, List.set_cons_succ, List.cons_append, List.nil_append, List.append_nil, List.replicate, List.length_cons, List.length_nil, Nat.reduceAdd, Nat.reduceSub, Nat.zero_add, Nat.sub_self, if_true, if_false, ite_true, ite_false, reduceIte, reduceCtorEq, decide_true, decide_false, decide_eq_true_eq, Bool.not_true, Bool.not_false, Bool.true_and, Bool.false_and, Bool.and_true, Bool.and_false, Bool.true_or, Bool.false_or, Bool.false_eq_true, Bool.true_eq_false, not_true_eq_false, not_false_eq_true, ne_eq, Int.reduceEq, Int.reduceNe, Int.reduceLT, Int.reduceLE, and_self, and_true, true_and, and_false, false_and, or_true, true_or, or_false, false_or, true_or, Option.map_some]
  rw [sq_st g1, sq_st g2, hr]
theorem aftS_P {σ : cs_S} (h : CSo σ) (hp : Pos1 σ) {v : Int} (hv : 0 ≤ v ∧ v < σ 4 2) : Pr σ (aftS σ v) = true := by
  obtain ⟨h1, h2, h3⟩ := own_in h hv
  obtain ⟨u, hu, hPu⟩ := hp (σ 20 v.toNat).toNat (by omega)
  obtain ⟨j, hj, hrep⟩ := reach_nx hu h3
  exact hop_P _ _ _ ⟨j, hj, (congrArg (Pr σ) hrep).trans hPu⟩
theorem befS_P {σ : cs_S} (h : CSo σ) (hp : Pos1 σ) {v : Int} (hv : 0 ≤ v ∧ v < σ 4 2) : Pr σ (befS σ v) = true := by
  obtain ⟨h1, h2, h3⟩ := own_in h hv
  obtain ⟨u, hu, hPu⟩ := hp (σ 20 v.toNat).toNat (by omega)
  obtain ⟨j, hj, hrep⟩ := reach_pv hu h3
  exact hop_P _ _ _ ⟨j, hj, (congrArg (Pr σ) hrep).trans hPu⟩
