/-! all contours, the reference's way, beside the class's -/
def RlC (σ τ : cs_S) : Prop := τ 10 8 = σ 4 2 ∧ ∀ v : Nat, (v : Int) < σ 4 2 → τ 37 v = σ 21 v ∧ τ 38 v = σ 22 v ∧ τ 39 v = σ 23 v
theorem markR_v (τ : cs_S) (a : Arw) (c : Nat) : markR τ a c 10 = τ 10 ∧ markR τ a c 28 = τ 28 ∧ markR τ a c 32 = τ 32 ∧ markR τ a c 33 = τ 33 ∧ markR τ a c 37 = τ 37 ∧ markR τ a c 38 = τ 38 ∧ markR τ a c 39 = τ 39 ∧ markR τ a c 35 = au (τ 35) c (τ 35 c + 1) ∧ markR τ a c 40 = au (τ 40) (cix a.1 a.2.1) (if τ 40 (cix a.1 a.2.1) ≠ 0 ∨ a.2.2 = 0 then 1 else 0) := by simp [markR]
theorem addR_w (τ : cs_S) (x y : Int) : addR τ x y 32 = τ 32 ∧ addR τ x y 33 = τ 33 := by simp [addR]
theorem RlC_st {σ τ : cs_S} {a : Arw} {c : Nat} {t : Bool} (hv : 0 ≤ σ 4 2) (h : RlC σ τ) : RlC (stC σ a t) (stR τ a c t) := by
  unfold stC stR RlC
  obtain ⟨v4, -, -, -, v21, v22, v23, -⟩ := markC_v (if t then addC σ a.1 a.2.1 else σ) a
  obtain ⟨m10, -, -, -, m37, m38, m39, -⟩ := markR_v (if t then addR τ a.1 a.2.1 else τ) a c
  rw [v4, v21, v22, v23, m10, m37, m38, m39]
  cases t
  · exact h
  · simp only [if_true]
    obtain ⟨-, -, -, w1, w2, -, -, -, -⟩ := addC_v σ a.1 a.2.1
    obtain ⟨w15, -, w21, w22, w23⟩ := addC_v2 σ a.1 a.2.1
    obtain ⟨r10, -, -, -, r37, r38, r39⟩ := addR_v τ a.1 a.2.1
    rw [w2, w21, w22, w23, r10, r37, r38, r39, au_at, h.1]
    refine ⟨rfl, fun v hv' => ?_⟩
    unfold au
    by_cases e : v = (σ 4 2).toNat
    · simp [e]
    · rw [if_neg e, if_neg e, if_neg e, if_neg e, if_neg e, if_neg e]
      exact h.2 v (by omega)
theorem RlC_go (ins : Int → Int → Bool) (pt : Int) (c : Nat) : ∀ (m : Nat) (a : Arw) (t : Bool) (σ τ : cs_S), 0 ≤ σ 4 2 → RlC σ τ → RlC (goC ins pt m a t σ) (goR ins pt c m a t τ)
  | 0, _, _, _, _, _, h => h
  | m + 1, a, t, σ, τ, hv, h => by
    rw [goC, goR]
    have := (stC_low σ a t hv).2.1
    exact RlC_go ins pt c m _ _ _ _ (by omega) (RlC_st hv h)
theorem stR_v (τ : cs_S) (a : Arw) (c : Nat) (t : Bool) : (∀ k, k ≠ 8 → stR τ a c t 10 k = τ 10 k) ∧ stR τ a c t 28 = τ 28 ∧ stR τ a c t 32 = τ 32 ∧ stR τ a c t 33 = τ 33 ∧ stR τ a c t 35 = au (τ 35) c (τ 35 c + 1) ∧ stR τ a c t 40 = au (τ 40) (cix a.1 a.2.1) (if τ 40 (cix a.1 a.2.1) ≠ 0 ∨ a.2.2 = 0 then 1 else 0) := by
  unfold stR
  obtain ⟨m10, m28, m32, m33, -, -, -, m35, m40⟩ := markR_v (if t then addR τ a.1 a.2.1 else τ) a c
  rw [m10, m28, m32, m33, m35, m40]
  cases t
  · simp
  · simp only [if_true]
    obtain ⟨r10, r28, r35, r40, -, -, -⟩ := addR_v τ a.1 a.2.1
    obtain ⟨r32, r33⟩ := addR_w τ a.1 a.2.1
    rw [r10, r28, r32, r33, r35, r40]
    exact ⟨fun k hk => au_ne hk, rfl, rfl, rfl, rfl, rfl⟩
theorem goR_v (ins : Int → Int → Bool) (pt : Int) (c : Nat) : ∀ (m : Nat) (a : Arw) (t : Bool) (τ : cs_S), (∀ k, k ≠ 8 → goR ins pt c m a t τ 10 k = τ 10 k) ∧ goR ins pt c m a t τ 28 = τ 28 ∧ goR ins pt c m a t τ 32 = τ 32 ∧ goR ins pt c m a t τ 33 = τ 33 ∧ goR ins pt c m a t τ 35 = au (τ 35) c (τ 35 c + m)
  | 0, _, _, τ => by
    refine ⟨fun _ _ => rfl, rfl, rfl, rfl, ?_⟩
    rw [goR, au_same]; simp
  | m + 1, a, t, τ => by
    obtain ⟨h1, h2, h3, h4, h5⟩ := goR_v ins pt c m (stp ins pt a) (decide ((stp ins pt a).2.2 ≠ a.2.2)) (stR τ a c t)
    obtain ⟨g1, g2, g3, g4, g5, -⟩ := stR_v τ a c t
    rw [goR]
    refine ⟨fun k hk => (h1 k hk).trans (g1 k hk), h2.trans g2, h3.trans g3, h4.trans g4, ?_⟩
    rw [h5, g5, au_au, au_at]
    congr 1
    omega
theorem cix_inj {x y x' y' : Int} (h1 : 0 ≤ x ∧ x ≤ 16) (h2 : 0 ≤ y) (h3 : 0 ≤ x' ∧ x' ≤ 16) (h4 : 0 ≤ y') (h : cix x y = cix x' y') : x = x' ∧ y = y' := by
  unfold cix at h; omega
theorem goR_40 {ins : Int → Int → Bool} {pt : Int} (c : Nat) : ∀ (m : Nat) (a : Arw) (t : Bool) (τ : cs_S), (∀ j : Nat, j < m → (0 ≤ (itr ins pt j a).1 ∧ (itr ins pt j a).1 ≤ 16) ∧ 0 ≤ (itr ins pt j a).2.1) → ∀ x y, 0 ≤ x ∧ x ≤ 16 → 0 ≤ y → ((goR ins pt c m a t τ) 40 (cix x y) ≠ 0 ↔ τ 40 (cix x y) ≠ 0 ∨ ∃ j : Nat, j < m ∧ itr ins pt j a = (x, y, 0))
  | 0, a, t, τ, _, x, y, _, _ => by simp [goR]
  | m + 1, a, t, τ, hj, x, y, hx, hy => by
    rw [goR, goR_40 c m (stp ins pt a) _ (stR τ a c t) (fun j hjm => hj (j + 1) (by omega)) x y hx hy, (stR_v τ a c t).2.2.2.2.2]
    have hpa := hj 0 (by omega)
    have hpa' : (0 ≤ a.1 ∧ a.1 ≤ 16) ∧ 0 ≤ a.2.1 := hpa
    have hfirst : (au (τ 40) (cix a.1 a.2.1) (if τ 40 (cix a.1 a.2.1) ≠ 0 ∨ a.2.2 = 0 then 1 else 0)) (cix x y) ≠ 0 ↔ τ 40 (cix x y) ≠ 0 ∨ a = (x, y, 0) := by
      obtain ⟨a1, a2, a3⟩ := a
      dsimp only at hpa' ⊢
      unfold au
      by_cases e : cix x y = cix a1 a2
      · obtain ⟨e1, e2⟩ := cix_inj hx hy hpa'.1 hpa'.2 e
        subst e1; subst e2
        rw [if_pos rfl]
        by_cases q : τ 40 (cix x y) ≠ 0
        · rw [if_pos (Or.inl q)]; exact ⟨fun _ => Or.inl q, fun _ => by decide⟩
        · by_cases q2 : a3 = 0
          · rw [if_pos (Or.inr q2)]; exact ⟨fun _ => Or.inr (by rw [q2]), fun _ => by decide⟩
          · rw [if_neg (by rintro (u | u); exact q u; exact q2 u)]
            constructor
            · intro u; exact absurd rfl u
            · rintro (u | u)
              · exact absurd u q
              · exact absurd (congrArg (fun u : Arw => u.2.2) u) q2
      · rw [if_neg e]
        constructor
        · exact Or.inl
        · rintro (q | q)
          · exact q
          · have e1 : a1 = x := congrArg (fun u : Arw => u.1) q
            have e2 : a2 = y := congrArg (fun u : Arw => u.2.1) q
            rw [e1, e2] at e; exact absurd rfl e
    rw [hfirst]
    constructor
    · rintro ((q | q) | ⟨j, q1, q2⟩)
      · exact Or.inl q
      · exact Or.inr ⟨0, by omega, q⟩
      · exact Or.inr ⟨j + 1, by omega, q2⟩
    · rintro (q | ⟨j, q1, q2⟩)
      · exact Or.inl (Or.inl q)
      · cases j with
        | zero => exact Or.inl (Or.inr q2)
        | succ j => exact Or.inr ⟨j, by omega, q2⟩
def begR (τ : cs_S) : cs_S := cs_set (cs_set τ 32 (au (τ 32) (τ 10 7).toNat (τ 10 8))) 35 (au (τ 35) (τ 10 7).toNat 0)
def endR (τ : cs_S) : cs_S := cs_set (cs_set τ 33 (au (τ 33) (τ 10 7).toNat (τ 10 8 - τ 32 (τ 10 7).toNat))) 10 (au (τ 10) 7 (τ 10 7 + 1))
noncomputable def rndR (ins : Int → Int → Bool) (pt : Int) (s : Arw) (τ : cs_S) : cs_S := endR (goR ins pt (τ 10 7).toNat (perd ins pt s) s true (begR τ))
theorem begR_v (τ : cs_S) : begR τ 10 = τ 10 ∧ begR τ 28 = τ 28 ∧ begR τ 32 = au (τ 32) (τ 10 7).toNat (τ 10 8) ∧ begR τ 33 = τ 33 ∧ begR τ 35 = au (τ 35) (τ 10 7).toNat 0 ∧ begR τ 37 = τ 37 ∧ begR τ 38 = τ 38 ∧ begR τ 39 = τ 39 ∧ begR τ 40 = τ 40 := by simp [begR, cs_set]
theorem endR_v (τ : cs_S) : endR τ 10 = au (τ 10) 7 (τ 10 7 + 1) ∧ endR τ 28 = τ 28 ∧ endR τ 32 = τ 32 ∧ endR τ 33 = au (τ 33) (τ 10 7).toNat (τ 10 8 - τ 32 (τ 10 7).toNat) ∧ endR τ 35 = τ 35 ∧ endR τ 37 = τ 37 ∧ endR τ 38 = τ 38 ∧ endR τ 39 = τ 39 ∧ endR τ 40 = τ 40 := by simp [endR, cs_set]
/-- the reference's state between two contours, beside the class's -/
def SR (ins : Int → Int → Bool) (pt : Int) (τ0 σ : cs_S) (G : GL) (τ : cs_S) : Prop :=
  ((∀ k, k ≠ 7 → k ≠ 8 → τ 10 k = τ0 10 k) ∧ τ 28 = τ0 28) ∧ τ 10 7 = G.length ∧ RlC σ τ ∧
  (∀ c : Nat, c < G.length → τ 32 c = σ 15 c ∧ τ 33 c = σ 15 (c + 1) - σ 15 c ∧ ∃ g, G[c]? = some g ∧ τ 35 c = g.2) ∧
  ∀ x y, 0 ≤ x ∧ x ≤ 16 → 0 ≤ y → y ≤ 12 → (τ 40 (cix x y) ≠ 0 ↔ (x, y, 0) ∈ arws ins pt G)
theorem rnd_glue (τ τ1 τ2 τ3 τ4 τ5 : cs_S) (x y rf c b : Int) (hc : τ 10 7 = c)
    (h1 : (s_ast 32 256 (x_l 4) (x_f 10 8)) [none, some x, some y, some rf, some c, none, none, none, none, none] τ = some (.inl ([none, some x, some y, some rf, some c, none, none, none, none, none], τ1)))
    (h2 : (s_ast 35 256 (x_l 4) (x_k 0)) [none, some x, some y, some rf, some c, none, none, none, none, none] τ1 = some (.inl ([none, some x, some y, some rf, some c, none, none, none, none, none], τ2)))
    (h3 : w_X10_goRound_1 [none, some x, some y, some rf, some c, some x, some y, some 0, some (-1), some 1] τ2 = some (.inl ([none, some x, some y, some rf, some c, some x, some y, some 0, some b, some 0], τ3)))
    (h4 : (s_ast 33 256 (x_l 4) (x_sub (x_f 10 8) (x_a 32 256 (x_l 4)))) [none, some x, some y, some rf, some c, some x, some y, some 0, some b, some 0] τ3 = some (.inl ([none, some x, some y, some rf, some c, some x, some y, some 0, some b, some 0], τ4)))
    (h5 : (s_put 10 7 (x_add (x_f 10 7) (x_k 1))) [none, some x, some y, some rf, some c, some x, some y, some 0, some b, some 0] τ4 = some (.inl ([none, some x, some y, some rf, some c, some x, some y, some 0, some b, some 0], τ5))) : f_X10_goRound [x, y, rf] τ = some (none, τ5) := by
  have g1 : (s_set 4 (x_f 10 7)) [none, some x, some y, some rf, none, none, none, none, none, none] τ = some (.inl ([none, some x, some y, some rf, some c, none, none, none, none, none], τ)) := by simp only [cs_run, cs_L0, s_ret, s_retz, s_retv, s_seq, s_set, s_inc, s_put, s_ast, s_zst, s_cst, s_ada, s_if, s_ex, s_cv, s_nop, s_brk, x_ite, x_l, x_k, x_f, x_a, x_ro, x_add, x_sub, x_mul, x_div, x_rem, x_neg, x_call, x_max, x_min, x_abs, g_cons, g_nil, y_lt, y_le, y_gt, y_ge, y_eq, y_ne, y_not, y_and, y_or, y_ite, Option.bind_some, Option.bind_none, List.getElem?_cons_zero, List.getElem?_cons_succ, List.getElem?_nil, List.set_cons_zero, List.set_cons_succ, List.cons_append, List.nil_append, List.append_nil, List.replicate, List.length_cons, List.length_nil, Nat.reduceAdd, Nat.reduceSub, Nat.zero_add, Nat.sub_self, if_true, if_false, ite_true, ite_false, reduceIte, reduceCtorEq, decide_true, decide_false, decide_eq_true_eq, Bool.not_true, Bool.not_false, Bool.true_and, Bool.false_and, Bool.and_true, Bool.and_false, Bool.true_or, Bool.false_or, Bool.false_eq_true, Bool.true_eq_false, not_true_eq_false, not_false_eq_true, ne_eq, Int.reduceEq, Int.reduceNe, Int.reduceLT, Int.reduceLE, and_self, and_true, true_and, and_false, false_and, or_true, true_or, or_false, false_or, true_or, Option.map_some, hc]
  have g2 : (s_set 5 (x_l 1)) [none, some x, some y, some rf, some c, none, none, none, none, none] τ2 = some (.inl ([none, some x, some y, some rf, some c, some x, none, none, none, none], τ2)) := by simp only [cs_run, cs_L0, s_ret, s_retz, s_retv, s_seq, s_set, s_inc, s_put, s_ast, s_zst, s_cst, s_ada, s_if, s_ex, s_cv, s_nop, s_brk, x_ite, x_l, x_k, x_f, x_a, x_ro, x_add, x_sub, x_mul, x_div, x_rem, x_neg, x_call, x_max, x_min, x_abs, g_cons, g_nil, y_lt, y_le, y_gt, y_ge, y_eq, y_ne, y_not, y_and, y_or, y_ite, Option.bind_some, Option.bind_none, List.getElem?_cons_zero, List.getElem?_cons_succ, List.getElem?_nil, List.set_cons_zero, List.set_cons_succ, List.cons_append, List.nil_append, List.append_nil, List.replicate, List.length_cons, List.length_nil, Nat.reduceAdd, Nat.reduceSub, Nat.zero_add, Nat.sub_self, if_true, if_false, ite_true, ite_false, reduceIte, reduceCtorEq, decide_true, decide_false, decide_eq_true_eq, Bool.not_true, Bool.not_false, Bool.true_and, Bool.false_and, Bool.and_true, Bool.and_false, Bool.true_or, Bool.false_or, Bool.false_eq_true, Bool.true_eq_false, not_true_eq_false, not_false_eq_true, ne_eq, Int.reduceEq, Int.reduceNe, Int.reduceLT, Int.reduceLE, and_self, and_true, true_and, and_false, false_and, or_true, true_or, or_false, false_or, true_or, Option.map_some]
  have g3 : (s_set 6 (x_l 2)) [none, some x, some y, some rf, some c, some x, none, none, none, none] τ2 = some (.inl ([none, some x, some y, some rf, some c, some x, some y, none, none, none], τ2)) := by simp only [cs_run, cs_L0, s_ret, s_retz, s_retv, s_seq, s_set, s_inc, s_put, s_ast, s_zst, s_cst, s_ada, s_if, s_ex, s_cv, s_nop, s_brk, x_ite, x_l, x_k, x_f, x_a, x_ro, x_add, x_sub, x_mul, x_div, x_rem, x_neg, x_call, x_max, x_min, x_abs, g_cons, g_nil, y_lt, y_le, y_gt, y_ge, y_eq, y_ne, y_not, y_and, y_or, y_ite, Option.bind_some, Option.bind_none, List.getElem?_cons_zero, List.getElem?_cons_succ, List.getElem?_nil, List.set_cons_zero, List.set_cons_succ, List.cons_append, List.nil_append, List.append_nil, List.replicate, List.length_cons, List.length_nil, Nat.reduceAdd, Nat.reduceSub, Nat.zero_add, Nat.sub_self, if_true, if_false, ite_true, ite_false, reduceIte, reduceCtorEq, decide_true, decide_false, decide_eq_true_eq, Bool.not_true, Bool.not_false, Bool.true_and, Bool.false_and, Bool.and_true, Bool.and_false, Bool.true_or, Bool.false_or, Bool.false_eq_true, Bool.true_eq_false, not_true_eq_false, not_false_eq_true, ne_eq, Int.reduceEq, Int.reduceNe, Int.reduceLT, Int.reduceLE, and_self, and_true, true_and, and_false, false_and, or_true, true_or, or_false, false_or, true_or, Option.map_some]
  have g4 : (s_set 7 (x_k 0)) [none, some x, some y, some rf, some c, some x, some y, none, none, none] τ2 = some (.inl ([none, some x, some y, some rf, some c, some x, some y, some 0, none, none], τ2)) := by simp only [cs_run, cs_L0, s_ret, s_retz, s_retv, s_seq, s_set, s_inc, s_put, s_ast, s_zst, s_cst, s_ada, s_if, s_ex, s_cv, s_nop, s_brk, x_ite, x_l, x_k, x_f, x_a, x_ro, x_add, x_sub, x_mul, x_div, x_rem, x_neg, x_call, x_max, x_min, x_abs, g_cons, g_nil, y_lt, y_le, y_gt, y_ge, y_eq, y_ne, y_not, y_and, y_or, y_ite, Option.bind_some, Option.bind_none, List.getElem?_cons_zero, List.getElem?_cons_succ, List.getElem?_nil, List.set_cons_zero, List.set_cons_succ, List.cons_append, List.nil_append, List.append_nil, List.replicate, List.length_cons, List.length_nil, Nat.reduceAdd, Nat.reduceSub, Nat.zero_add, Nat.sub_self, if_true, if_false, ite_true, ite_false, reduceIte, reduceCtorEq, decide_true, decide_false, decide_eq_true_eq, Bool.not_true, Bool.not_false, Bool.true_and, Bool.false_and, Bool.and_true, Bool.and_false, Bool.true_or, Bool.false_or, Bool.false_eq_true, Bool.true_eq_false, not_true_eq_false, not_false_eq_true, ne_eq, Int.reduceEq, Int.reduceNe, Int.reduceLT, Int.reduceLE, and_self, and_true, true_and, and_false, false_and, or_true, true_or, or_false, false_or, true_or, Option.map_some]
  have g5 : (s_set 8 (x_k (-1))) [none, some x, some y, some rf, some c, some x, some y, some 0, none, none] τ2 = some (.inl ([none, some x, some y, some rf, some c, some x, some y, some 0, some (-1), none], τ2)) := by simp only [cs_run, cs_L0, s_ret, s_retz, s_retv, s_seq, s_set, s_inc, s_put, s_ast, s_zst, s_cst, s_ada, s_if, s_ex, s_cv, s_nop, s_brk, x_ite, x_l, x_k, x_f, x_a, x_ro, x_add, x_sub, x_mul, x_div, x_rem, x_neg, x_call, x_max, x_min, x_abs, g_cons, g_nil, y_lt, y_le, y_gt, y_ge, y_eq, y_ne, y_not, y_and, y_or, y_ite, Option.bind_some, Option.bind_none, List.getElem?_cons_zero, List.getElem?_cons_succ, List.getElem?_nil, List.set_cons_zero, List.set_cons_succ, List.cons_append, List.nil_append, List.append_nil, List.replicate, List.length_cons, List.length_nil, Nat.reduceAdd, Nat.reduceSub, Nat.zero_add, Nat.sub_self, if_true, if_false, ite_true, ite_false, reduceIte, reduceCtorEq, decide_true, decide_false, decide_eq_true_eq, Bool.not_true, Bool.not_false, Bool.true_and, Bool.false_and, Bool.and_true, Bool.and_false, Bool.true_or, Bool.false_or, Bool.false_eq_true, Bool.true_eq_false, not_true_eq_false, not_false_eq_true, ne_eq, Int.reduceEq, Int.reduceNe, Int.reduceLT, Int.reduceLE, and_self, and_true, true_and, and_false, false_and, or_true, true_or, or_false, false_or, true_or, Option.map_some]
  have g6 : (s_set 9 (x_k 1)) [none, some x, some y, some rf, some c, some x, some y, some 0, some (-1), none] τ2 = some (.inl ([none, some x, some y, some rf, some c, some x, some y, some 0, some (-1), some 1], τ2)) := by simp only [cs_run, cs_L0, s_ret, s_retz, s_retv, s_seq, s_set, s_inc, s_put, s_ast, s_zst, s_cst, s_ada, s_if, s_ex, s_cv, s_nop, s_brk, x_ite, x_l, x_k, x_f, x_a, x_ro, x_add, x_sub, x_mul, x_div, x_rem, x_neg, x_call, x_max, x_min, x_abs, g_cons, g_nil, y_lt, y_le, y_gt, y_ge, y_eq, y_ne, y_not, y_and, y_or, y_ite, Option.bind_some, Option.bind_none, List.getElem?_cons_zero, List.getElem?_cons_succ, List.getElem?_nil, List.set_cons_zero, List.set_cons_succ, List.cons_append, List.nil_append, List.append_nil, List.replicate, List.length_cons, List.length_nil, Nat.reduceAdd, Nat.reduceSub, Nat.zero_add, Nat.sub_self, if_true, if_false, ite_true, ite_false, reduceIte, reduceCtorEq, decide_true, decide_false, decide_eq_true_eq, Bool.not_true, Bool.not_false, Bool.true_and, Bool.false_and, Bool.and_true, Bool.and_false, Bool.true_or, Bool.false_or, Bool.false_eq_true, Bool.true_eq_false, not_true_eq_false, not_false_eq_true, ne_eq, Int.reduceEq, Int.reduceNe, Int.reduceLT, Int.reduceLE, and_self, and_true, true_and, and_false, false_and, or_true, true_or, or_false, false_or, true_or, Option.map_some]
  unfold f_X10_goRound b_X10_goRound cs_run
  simp only [cs_L0, Option.bind_some, Option.bind_none, List.getElem?_cons_zero, List.getElem?_cons_succ, List.getElem?_nil, List.set_cons_zero, List.set_cons_succ, List.cons_append, List.nil_append, List.append_nil, List.replicate, List.length_cons, List.length_nil, Nat.reduceAdd, Nat.reduceSub, Nat.zero_add, Nat.sub_self, if_true, if_false, ite_true, ite_false, reduceIte, reduceCtorEq, decide_true, decide_false, decide_eq_true_eq, Bool.not_true, Bool.not_false, Bool.true_and, Bool.false_and, Bool.and_true, Bool.and_false, Bool.true_or, Bool.false_or, Bool.false_eq_true, Bool.true_eq_false, not_true_eq_false, not_false_eq_true, ne_eq, Int.reduceEq, Int.reduceNe, Int.reduceLT, Int.reduceLE, and_self, and_true, true_and, and_false, false_and, or_true, true_or, or_false, false_or, true_or, Option.map_some]
  simp only [s_seq, g1, h1, h2, g2, g3, g4, g5, g6, h3, h4, h5, s_retv, Option.bind_some]
theorem SR_more {σ0 σ τ0 τ : cs_S} {G : GL} {rf : Int} (hz : szJ (σ0 1 3) (σ0 1 4)) (ht : 1 ≤ σ0 5 3) (hrp : (rf = 1 ∧ σ0 5 4 = 1) ∨ (rf = 0 ∧ σ0 5 4 = 3)) (hI : insR τ0 = insC σ0) (hz0 : τ0 10 0 = σ0 1 3 ∧ τ0 10 1 = σ0 1 4) (h : SI σ0 σ G) (hR : SR (insC σ0) (σ0 5 4) τ0 σ G τ) (s : Arw) (hs : Vld (insC σ0) s) (hs0 : s.2.2 = 0) (hsl : s ∉ arws (insC σ0) (σ0 5 4) G) :
    f_X10_goRound [s.1, s.2.1, rf] τ = some (none, rndR (insC σ0) (σ0 5 4) s τ) ∧ SR (insC σ0) (σ0 5 4) τ0 (goC (insC σ0) (σ0 5 4) (perd (insC σ0) (σ0 5 4) s) s true (begC σ)) (G ++ [(s, perd (insC σ0) (σ0 5 4) s)]) (rndR (insC σ0) (σ0 5 4) s τ) := by
  have hpt : σ0 5 4 = 1 ∨ σ0 5 4 = 3 := by omega
  obtain ⟨-, hmore⟩ := SI_more hz ht hpt h s hs hs0 hsl
  obtain ⟨⟨s1, s5, s11⟩, ⟨c1, c2, c3, c4⟩, hG, hW, hD, ⟨l1, l2⟩, hp⟩ := id h
  obtain ⟨⟨r10, r28⟩, r7, hRL, hrow, hgone⟩ := id hR
  obtain ⟨hper, hn4, hn⟩ := perd_ok hpt hz insD_J hs
  unfold rndR
  generalize hne : perd (insC σ0) (σ0 5 4) s = n at *
  have hW' := ways_add hpt hW hs hsl hper.1 hper.2.1 hper.2.2
  have hlen := arw_len hz insD_J hW'.1 hW'.2.1
  rw [List.length_append, wlk_len] at hlen
  have hc : G.length < 110 := by omega
  have a2 := c1.1.2.1
  obtain ⟨v1, v2, v3, v15, v16, v20, v21, v22, v23, v24⟩ := begC_v σ
  obtain ⟨u10, u28, u32, u33, u35, u37, u38, u39, u40⟩ := begR_v τ
  have cc : (τ 10 7).toNat = G.length := by rw [r7]; simp
  obtain ⟨m, rfl⟩ : ∃ m, n = m + 1 := ⟨n - 1, by omega⟩
  have hRLb : RlC (begC σ) (begR τ) := by
    unfold RlC
    rw [v2, v21, v22, v23, u10, u37, u38, u39]
    exact hRL
  have hIn : insR τ = insC σ0 := by rw [← hI]; unfold insR; rw [r10 0 (by decide) (by decide), r10 1 (by decide) (by decide), r10 9 (by decide) (by decide), r28]
  have hInb : insR (begR τ) = insC σ0 := by rw [← hIn]; unfold insR; rw [u10, u28]
  have hzb : szJ (begR τ 10 0) (begR τ 10 1) := by rw [u10, r10 0 (by decide) (by decide), r10 1 (by decide) (by decide), hz0.1, hz0.2]; exact hz
  rw [cc]
  have hT : TR (begR τ) (begR τ) G.length ((arws (insC σ0) (σ0 5 4) G).length + 0) := by
    refine ⟨⟨rfl, rfl, rfl, rfl⟩, by rw [u10]; exact r7, ?_, ?_⟩
    · rw [u10, hRL.1]; omega
    · rw [u35, cc, au_at]; omega
  have hloop := gor_loop (begR τ) hzb rf (σ0 5 4) hrp (arws (insC σ0) (σ0 5 4) G) (by rw [hInb]; exact hW) s (by rw [hInb]; exact hs) hs0 hsl (m + 1) (by rw [hInb]; exact hper.2.1) (by rw [hInb]; exact hper.2.2) G.length (by omega) m 0 (-1) (begR τ) (by omega) hT
  rw [hInb] at hloop
  obtain ⟨b, hloop⟩ := hloop
  rw [show itr (insC σ0) (σ0 5 4) 0 s = s from rfl, hs0, show (decide ((0 : Int) ≠ -1)) = true from rfl] at hloop
  have hRLg := RlC_go (insC σ0) (σ0 5 4) G.length (m + 1) s true (begC σ) (begR τ) (by rw [v2]; omega) hRLb
  obtain ⟨k10, k28, k32, k33, k35⟩ := goR_v (insC σ0) (σ0 5 4) G.length (m + 1) s true (begR τ)
  have k40 := goR_40 (ins := insC σ0) (pt := σ0 5 4) G.length (m + 1) s true (begR τ) (fun j _ => by
    have := vld_in (insD_J (w := σ0 1 3) (h := σ0 1 4)) (itr_vld hpt hs j)
    omega)
  generalize goR (insC σ0) (σ0 5 4) G.length (m + 1) s true (begR τ) = ρ at *
  have hlow := goC_low (insC σ0) (σ0 5 4) (m + 1) s true (begC σ) (by rw [v2]; omega)
  generalize goC (insC σ0) (σ0 5 4) (m + 1) s true (begC σ) = κ at *
  obtain ⟨⟨-, -, -⟩, ⟨d1, d2, d3, d4⟩, dG, -, -, -, -⟩ := hmore
  rw [List.length_append] at dG
  have e2 := d1.1.2.1
  have e15 := d1.1.2.2.2.2 (by omega)
  rw [show (κ 4 1).toNat = G.length + 1 by rw [dG]; simp] at e15
  have q7 : ρ 10 7 = (G.length : Int) := by rw [k10 7 (by decide), u10]; exact r7
  have q7' : (ρ 10 7).toNat = G.length := by rw [q7]; simp
  have q32 : ρ 32 G.length = σ 4 2 := by rw [k32, u32, cc, au_at]; exact hRL.1
  constructor
  · have p1 : (s_ast 32 256 (x_l 4) (x_f 10 8)) [none, some s.1, some s.2.1, some rf, some (G.length : Int), none, none, none, none, none] τ = some (.inl ([none, some s.1, some s.2.1, some rf, some (G.length : Int), none, none, none, none, none], cs_set τ 32 (au (τ 32) (τ 10 7).toNat (τ 10 8)))) := by
      rw [cc]
      have c1 : (0 : Int) ≤ (G.length : Int) ∧ (G.length : Int) < ((256 : Nat) : Int) := by omega
      simp only [cs_run, cs_L0, s_ret, s_retz, s_retv, s_seq, s_set, s_inc, s_put, s_ast, s_zst, s_cst, s_ada, s_if, s_ex, s_cv, s_nop, s_brk, x_ite, x_l, x_k, x_f, x_a, x_ro, x_add, x_sub, x_mul, x_div, x_rem, x_neg, x_call, x_max, x_min, x_abs, g_cons, g_nil, y_lt, y_le, y_gt, y_ge, y_eq, y_ne, y_not, y_and, y_or, y_ite, Option.bind_some, Option.bind_none, List.getElem?_cons_zero, List.getElem?_cons_succ, List.getElem?_nil, List.set_cons_zero, List.set_cons_succ, List.cons_append, List.nil_append, List.append_nil, List.replicate, List.length_cons, List.length_nil, Nat.reduceAdd, Nat.reduceSub, Nat.zero_add, Nat.sub_self, if_true, if_false, ite_true, ite_false, reduceIte, reduceCtorEq, decide_true, decide_false, decide_eq_true_eq, Bool.not_true, Bool.not_false, Bool.true_and, Bool.false_and, Bool.and_true, Bool.and_false, Bool.true_or, Bool.false_or, Bool.false_eq_true, Bool.true_eq_false, not_true_eq_false, not_false_eq_true, ne_eq, Int.reduceEq, Int.reduceNe, Int.reduceLT, Int.reduceLE, and_self, and_true, true_and, and_false, false_and, or_true, true_or, or_false, false_or, true_or, Option.map_some, cs_wr_ok c1, toNat_s, cs_up_eq]
    have p2 : (s_ast 35 256 (x_l 4) (x_k 0)) [none, some s.1, some s.2.1, some rf, some (G.length : Int), none, none, none, none, none] (cs_set τ 32 (au (τ 32) (τ 10 7).toNat (τ 10 8))) = some (.inl ([none, some s.1, some s.2.1, some rf, some (G.length : Int), none, none, none, none, none], begR τ)) := by
      have c1 : (0 : Int) ≤ (G.length : Int) ∧ (G.length : Int) < ((256 : Nat) : Int) := by omega
      unfold begR
      rw [cc]
      have : ∀ m, cs_set τ 32 m 35 = τ 35 := fun m => cs_set_ne (by decide)
      simp only [cs_run, cs_L0, s_ret, s_retz, s_retv, s_seq, s_set, s_inc, s_put, s_ast, s_zst, s_cst, s_ada, s_if, s_ex, s_cv, s_nop, s_brk, x_ite, x_l, x_k, x_f, x_a, x_ro, x_add, x_sub, x_mul, x_div, x_rem, x_neg, x_call, x_max, x_min, x_abs, g_cons, g_nil, y_lt, y_le, y_gt, y_ge, y_eq, y_ne, y_not, y_and, y_or, y_ite, Option.bind_some, Option.bind_none, List.getElem?_cons_zero, List.getElem?_cons_succ, List.getElem?_nil, List.set_cons_zero, List.set_cons_succ, List.cons_append, List.nil_append, List.append_nil, List.replicate, List.length_cons, List.length_nil, Nat.reduceAdd, Nat.reduceSub, Nat.zero_add, Nat.sub_self, if_true, if_false, ite_true, ite_false, reduceIte, reduceCtorEq, decide_true, decide_false, decide_eq_true_eq, Bool.not_true, Bool.not_false, Bool.true_and, Bool.false_and, Bool.and_true, Bool.and_false, Bool.true_or, Bool.false_or, Bool.false_eq_true, Bool.true_eq_false, not_true_eq_false, not_false_eq_true, ne_eq, Int.reduceEq, Int.reduceNe, Int.reduceLT, Int.reduceLE, and_self, and_true, true_and, and_false, false_and, or_true, true_or, or_false, false_or, true_or, Option.map_some, cs_wr_ok c1, toNat_s, cs_up_eq, this]
    have p4 : (s_ast 33 256 (x_l 4) (x_sub (x_f 10 8) (x_a 32 256 (x_l 4)))) [none, some s.1, some s.2.1, some rf, some (G.length : Int), some s.1, some s.2.1, some 0, some b, some 0] ρ = some (.inl ([none, some s.1, some s.2.1, some rf, some (G.length : Int), some s.1, some s.2.1, some 0, some b, some 0], cs_set ρ 33 (au (ρ 33) (ρ 10 7).toNat (ρ 10 8 - ρ 32 (ρ 10 7).toNat)))) := by
      have c1 : (0 : Int) ≤ (G.length : Int) ∧ (G.length : Int) < ((256 : Nat) : Int) := by omega
      have c2 : cs_InR (ρ 10 8 - ρ 32 G.length) := by rw [q32, hRLg.1]; omega
      rw [q7']
      simp only [cs_run, cs_L0, s_ret, s_retz, s_retv, s_seq, s_set, s_inc, s_put, s_ast, s_zst, s_cst, s_ada, s_if, s_ex, s_cv, s_nop, s_brk, x_ite, x_l, x_k, x_f, x_a, x_ro, x_add, x_sub, x_mul, x_div, x_rem, x_neg, x_call, x_max, x_min, x_abs, g_cons, g_nil, y_lt, y_le, y_gt, y_ge, y_eq, y_ne, y_not, y_and, y_or, y_ite, Option.bind_some, Option.bind_none, List.getElem?_cons_zero, List.getElem?_cons_succ, List.getElem?_nil, List.set_cons_zero, List.set_cons_succ, List.cons_append, List.nil_append, List.append_nil, List.replicate, List.length_cons, List.length_nil, Nat.reduceAdd, Nat.reduceSub, Nat.zero_add, Nat.sub_self, if_true, if_false, ite_true, ite_false, reduceIte, reduceCtorEq, decide_true, decide_false, decide_eq_true_eq, Bool.not_true, Bool.not_false, Bool.true_and, Bool.false_and, Bool.and_true, Bool.and_false, Bool.true_or, Bool.false_or, Bool.false_eq_true, Bool.true_eq_false, not_true_eq_false, not_false_eq_true, ne_eq, Int.reduceEq, Int.reduceNe, Int.reduceLT, Int.reduceLE, and_self, and_true, true_and, and_false, false_and, or_true, true_or, or_false, false_or, true_or, Option.map_some, cs_rd_ok c1, cs_wr_ok c1, toNat_s, cs_chk_ok c2, cs_up_eq]
    have p5 : (s_put 10 7 (x_add (x_f 10 7) (x_k 1))) [none, some s.1, some s.2.1, some rf, some (G.length : Int), some s.1, some s.2.1, some 0, some b, some 0] (cs_set ρ 33 (au (ρ 33) (ρ 10 7).toNat (ρ 10 8 - ρ 32 (ρ 10 7).toNat))) = some (.inl ([none, some s.1, some s.2.1, some rf, some (G.length : Int), some s.1, some s.2.1, some 0, some b, some 0], endR ρ)) := by
      have : ∀ m, cs_set ρ 33 m 10 = ρ 10 := fun m => cs_set_ne (by decide)
      have c2 : cs_InR (ρ 10 7 + 1) := by rw [q7]; omega
      unfold endR
      simp only [cs_run, cs_L0, s_ret, s_retz, s_retv, s_seq, s_set, s_inc, s_put, s_ast, s_zst, s_cst, s_ada, s_if, s_ex, s_cv, s_nop, s_brk, x_ite, x_l, x_k, x_f, x_a, x_ro, x_add, x_sub, x_mul, x_div, x_rem, x_neg, x_call, x_max, x_min, x_abs, g_cons, g_nil, y_lt, y_le, y_gt, y_ge, y_eq, y_ne, y_not, y_and, y_or, y_ite, Option.bind_some, Option.bind_none, List.getElem?_cons_zero, List.getElem?_cons_succ, List.getElem?_nil, List.set_cons_zero, List.set_cons_succ, List.cons_append, List.nil_append, List.append_nil, List.replicate, List.length_cons, List.length_nil, Nat.reduceAdd, Nat.reduceSub, Nat.zero_add, Nat.sub_self, if_true, if_false, ite_true, ite_false, reduceIte, reduceCtorEq, decide_true, decide_false, decide_eq_true_eq, Bool.not_true, Bool.not_false, Bool.true_and, Bool.false_and, Bool.and_true, Bool.and_false, Bool.true_or, Bool.false_or, Bool.false_eq_true, Bool.true_eq_false, not_true_eq_false, not_false_eq_true, ne_eq, Int.reduceEq, Int.reduceNe, Int.reduceLT, Int.reduceLE, and_self, and_true, true_and, and_false, false_and, or_true, true_or, or_false, false_or, true_or, Option.map_some, this, cs_chk_ok c2, cs_up_eq]
    exact rnd_glue τ _ (begR τ) ρ _ (endR ρ) s.1 s.2.1 rf (G.length : Int) b r7 p1 p2 hloop p4 p5
  · obtain ⟨n10, n28, n32, n33, n35, n37, n38, n39, n40⟩ := endR_v ρ
    obtain ⟨w1, w2, w3, w4⟩ := hlow
    rw [v1] at w1 w4
    have old15 : ∀ c : Nat, c ≤ G.length → 1 ≤ σ 4 1 → κ 15 c = σ 15 c := by
      intro c hc1 hc2
      rw [w4 c (by omega), v15]
      by_cases e : (c : Int) < σ 4 1
      · rw [au_ne (by omega), au_ne (by omega)]
      · have : c = (σ 4 1).toNat := by omega
        subst this
        rw [au_ne (by omega), au_at, c1.1.2.2.2.2 hc2]
    have new15 : κ 15 G.length = σ 4 2 := by
      rw [w4 _ (by omega), v15, au_ne (by omega), show (σ 4 1).toNat = G.length by omega, au_at]
    refine ⟨⟨fun k hk7 hk8 => ?_, ?_⟩, ?_, ?_, ?_, ?_⟩
    · rw [n10, au_ne hk7, k10 k hk8, u10]; exact r10 k hk7 hk8
    · rw [n28, k28, u28]; exact r28
    · rw [n10, au_at, q7, List.length_append]; simp
    · unfold RlC
      rw [n10, n37, n38, n39, au_ne (by decide)]
      exact hRLg
    · intro c hc'
      rw [List.length_append] at hc'
      have hc'' : c < G.length + 1 := hc'
      rw [n32, n33, n35, q7', k32, k33, k35, u32, u33, u35, cc, hRLg.1]
      by_cases e : c < G.length
      · obtain ⟨y1, y2, g, y3, y4⟩ := hrow c e
        rw [au_ne (by omega), au_ne (by omega), au_ne (by omega), au_ne (by omega), old15 c (by omega) (by omega), old15 (c + 1) (by omega) (by omega)]
        exact ⟨y1, y2, g, by rw [List.getElem?_append_left e]; exact y3, y4⟩
      · have : c = G.length := by omega
        subst this
        rw [au_at, au_at, au_at, au_at, new15, e15]
        refine ⟨hRL.1, by rw [hRL.1], (s, m + 1), by rw [List.getElem?_append_right (by omega)]; simp, ?_⟩
        simp
    · intro x y hx hy hy'
      rw [n40, k40 x y hx hy, u40, hgone x y hx hy hy', arws_app, List.mem_append]
      constructor
      · rintro (q | ⟨j, q1, q2⟩)
        · exact Or.inl q
        · exact Or.inr (wlk_mem.mpr ⟨j, q1, q2.symm⟩)
      · rintro (q | q)
        · exact Or.inl q
        · obtain ⟨j, q1, q2⟩ := wlk_mem.mp q
          exact Or.inr ⟨j, q1, q2.symm⟩
noncomputable def stepP (ins : Int → Int → Bool) (pt y x : Int) (s : (cs_S × GL) × cs_S) : (cs_S × GL) × cs_S := (stepC ins pt y x s.1, if arr ins x y 0 = true ∧ (x, y, 0) ∉ arws ins pt s.1.2 then rndR ins pt (x, y, 0) s.2 else s.2)
noncomputable def rowP (ins : Int → Int → Bool) (pt : Int) (n : Nat) (y : Int) (s : (cs_S × GL) × cs_S) : (cs_S × GL) × cs_S := fd (stepP ins pt y) n 0 s
noncomputable def scanP (ins : Int → Int → Bool) (pt : Int) (n m : Nat) (s : (cs_S × GL) × cs_S) : (cs_S × GL) × cs_S := fd (rowP ins pt n) m 0 s
theorem fd_fst {α β : Type} {F : Int → α → α} {H : Int → α × β → α × β} (h : ∀ k s, (H k s).1 = F k s.1) : ∀ (n : Nat) (k : Int) (s : α × β), (fd H n k s).1 = fd F n k s.1
  | 0, _, _ => rfl
  | n + 1, k, s => by rw [fd, fd, fd_fst h n (k + 1) (H k s), h]
theorem rowP_fst (ins : Int → Int → Bool) (pt : Int) (n : Nat) (y : Int) (s : (cs_S × GL) × cs_S) : (rowP ins pt n y s).1 = rowC ins pt n y s.1 := fd_fst (fun _ _ => rfl) n 0 s
theorem scanP_fst (ins : Int → Int → Bool) (pt : Int) (n m : Nat) (s : (cs_S × GL) × cs_S) : (scanP ins pt n m s).1 = scanC ins pt n m s.1 := fd_fst (F := rowC ins pt n) (H := rowP ins pt n) (fun y s => rowP_fst ins pt n y s) m 0 s
def IRr (σ0 τ0 : cs_S) (s : (cs_S × GL) × cs_S) : Prop := SI σ0 s.1.1 s.1.2 ∧ SR (insC σ0) (σ0 5 4) τ0 s.1.1 s.1.2 s.2
theorem scanr_step {σ0 τ0 : cs_S} {cn rf : Int} (hz : szJ (σ0 1 3) (σ0 1 4)) (ht : 1 ≤ σ0 5 3) (hrf : rf = if cn = 4 then 1 else 0) (hrp : (rf = 1 ∧ σ0 5 4 = 1) ∨ (rf = 0 ∧ σ0 5 4 = 3)) (hI : insR τ0 = insC σ0) (hz0 : τ0 10 0 = σ0 1 3 ∧ τ0 10 1 = σ0 1 4) (a : Option Int) (x y : Int) (hx : 0 ≤ x ∧ x < σ0 1 3) (hy : 0 ≤ y ∧ y < σ0 1 4) (s : (cs_S × GL) × cs_S) (h : IRr σ0 τ0 s) :
    wb_X10_trace_2 [none, a, some cn, some y, some x] s.2 = some (.inl ([none, a, some cn, some y, some (x + 1)], (stepP (insC σ0) (σ0 5 4) y x s).2)) ∧ IRr σ0 τ0 (stepP (insC σ0) (σ0 5 4) y x s) := by
  have hpt : σ0 5 4 = 1 ∨ σ0 5 4 = 3 := by omega
  obtain ⟨⟨σ, G⟩, τ⟩ := s
  obtain ⟨hSI, hSR⟩ := h
  dsimp only at hSI hSR ⊢
  obtain ⟨-, hSI'⟩ := scan_step hz ht hpt none none x y hx hy (σ, G) hSI
  obtain ⟨⟨r10, r28⟩, r7, hRL, hrow, hgone⟩ := id hSR
  have hIn : insR τ = insC σ0 := by rw [← hI]; unfold insR; rw [r10 0 (by decide) (by decide), r10 1 (by decide) (by decide), r10 9 (by decide) (by decide), r28]
  have ha := f_isArrowR τ (by rw [r10 0 (by decide) (by decide), r10 1 (by decide) (by decide), hz0.1, hz0.2]; exact hz) x y 0 (by omega) (by omega) (by omega)
  rw [hIn] at ha
  have c3 : cs_InR (x + 1) := by omega
  have hg := hgone x y (by omega) (by omega) (by omega)
  have e1 : (17 * y + x).toNat = cix x y := rfl
  unfold IRr stepP stepC at *
  dsimp only at hSI' ⊢
  cases hc : arr (insC σ0) x y 0 with
  | false =>
    rw [hc] at ha
    simp only [Bool.false_eq_true, if_false] at ha
    rw [if_neg (by simp), if_neg (by simp)]
    refine ⟨?_, hSI, hSR⟩
    simp only [wb_X10_trace_2, cs_run, cs_L0, s_ret, s_retz, s_retv, s_seq, s_set, s_inc, s_put, s_ast, s_zst, s_cst, s_ada, s_if, s_ex, s_cv, s_nop, s_brk, x_ite, x_l, x_k, x_f, x_a, x_ro, x_add, x_sub, x_mul, x_div, x_rem, x_neg, x_call, x_max, x_min, x_abs, g_cons, g_nil, y_lt, y_le, y_gt, y_ge, y_eq, y_ne, y_not, y_and, y_or, y_ite, Option.bind_some, Option.bind_none, List.getElem?_cons_zero, List.getElem?_cons_succ, List.getElem?_nil, List.set_cons_zero, List.set_cons_succ, List.cons_append, List.nil_append, List.append_nil, List.replicate, List.length_cons, List.length_nil, Nat.reduceAdd, Nat.reduceSub, Nat.zero_add, Nat.sub_self, if_true, if_false, ite_true, ite_false, reduceIte, reduceCtorEq, decide_true, decide_false, decide_eq_true_eq, Bool.not_true, Bool.not_false, Bool.true_and, Bool.false_and, Bool.and_true, Bool.and_false, Bool.true_or, Bool.false_or, Bool.false_eq_true, Bool.true_eq_false, not_true_eq_false, not_false_eq_true, ne_eq, Int.reduceEq, Int.reduceNe, Int.reduceLT, Int.reduceLE, and_self, and_true, true_and, and_false, false_and, or_true, true_or, or_false, false_or, true_or, Option.map_some, ha, cs_chk_ok c3]
  | true =>
    rw [hc] at ha hSI'
    simp only [if_true] at ha
    by_cases hm : (x, y, 0) ∈ arws (insC σ0) (σ0 5 4) G
    · have h40 := hg.mpr hm
      rw [if_neg (fun q => q.2 hm), if_neg (fun q => q.2 hm)]
      refine ⟨?_, hSI, hSR⟩
      simp (disch := omega) only [cs_run, cs_L0, s_ret, s_retz, s_retv, s_seq, s_set, s_inc, s_put, s_ast, s_zst, s_cst, s_ada, s_if, s_ex, s_cv, s_nop, s_brk, x_ite, x_l, x_k, x_f, x_a, x_ro, x_add, x_sub, x_mul, x_div, x_rem, x_neg, x_call, x_max, x_min, x_abs, g_cons, g_nil, y_lt, y_le, y_gt, y_ge, y_eq, y_ne, y_not, y_and, y_or, y_ite, Option.bind_some, Option.bind_none, List.getElem?_cons_zero, List.getElem?_cons_succ, List.getElem?_nil, List.set_cons_zero, List.set_cons_succ, List.cons_append, List.nil_append, List.append_nil, List.replicate, List.length_cons, List.length_nil, Nat.reduceAdd, Nat.reduceSub, Nat.zero_add, Nat.sub_self, if_true, if_false, ite_true, ite_false, reduceIte, reduceCtorEq, decide_true, decide_false, decide_eq_true_eq, Bool.not_true, Bool.not_false, Bool.true_and, Bool.false_and, Bool.and_true, Bool.and_false, Bool.true_or, Bool.false_or, Bool.false_eq_true, Bool.true_eq_false, not_true_eq_false, not_false_eq_true, ne_eq, Int.reduceEq, Int.reduceNe, Int.reduceLT, Int.reduceLE, and_self, and_true, true_and, and_false, false_and, or_true, true_or, or_false, false_or, true_or, Option.map_some, cs_chk_ok, cs_rd_ok, cs_wr_ok, wb_X10_trace_2, ha, e1, h40]
    · have h40 : τ 40 (cix x y) = 0 := Decidable.byContradiction (fun q => hm (hg.mp q))
      rw [if_pos ⟨rfl, hm⟩] at hSI'
      rw [if_pos ⟨rfl, hm⟩, if_pos ⟨rfl, hm⟩]
      obtain ⟨r1, r2⟩ := SR_more hz ht hrp hI hz0 hSI hSR (x, y, 0) ⟨by simp, hc⟩ rfl hm
      refine ⟨?_, hSI', r2⟩
      dsimp only at r1
      generalize rndR (insC σ0) (σ0 5 4) (x, y, 0) τ = ρ at r1 ⊢
      by_cases q : cn = 4
      · rw [if_pos q] at hrf
        subst hrf
        simp (disch := omega) only [cs_run, cs_L0, s_ret, s_retz, s_retv, s_seq, s_set, s_inc, s_put, s_ast, s_zst, s_cst, s_ada, s_if, s_ex, s_cv, s_nop, s_brk, x_ite, x_l, x_k, x_f, x_a, x_ro, x_add, x_sub, x_mul, x_div, x_rem, x_neg, x_call, x_max, x_min, x_abs, g_cons, g_nil, y_lt, y_le, y_gt, y_ge, y_eq, y_ne, y_not, y_and, y_or, y_ite, Option.bind_some, Option.bind_none, List.getElem?_cons_zero, List.getElem?_cons_succ, List.getElem?_nil, List.set_cons_zero, List.set_cons_succ, List.cons_append, List.nil_append, List.append_nil, List.replicate, List.length_cons, List.length_nil, Nat.reduceAdd, Nat.reduceSub, Nat.zero_add, Nat.sub_self, if_true, if_false, ite_true, ite_false, reduceIte, reduceCtorEq, decide_true, decide_false, decide_eq_true_eq, Bool.not_true, Bool.not_false, Bool.true_and, Bool.false_and, Bool.and_true, Bool.and_false, Bool.true_or, Bool.false_or, Bool.false_eq_true, Bool.true_eq_false, not_true_eq_false, not_false_eq_true, ne_eq, Int.reduceEq, Int.reduceNe, Int.reduceLT, Int.reduceLE, and_self, and_true, true_and, and_false, false_and, or_true, true_or, or_false, false_or, true_or, Option.map_some, cs_chk_ok, cs_rd_ok, cs_wr_ok, wb_X10_trace_2, ha, e1, h40, q, r1]
      · rw [if_neg q] at hrf
        subst hrf
        simp (disch := omega) only [cs_run, cs_L0, s_ret, s_retz, s_retv, s_seq, s_set, s_inc, s_put, s_ast, s_zst, s_cst, s_ada, s_if, s_ex, s_cv, s_nop, s_brk, x_ite, x_l, x_k, x_f, x_a, x_ro, x_add, x_sub, x_mul, x_div, x_rem, x_neg, x_call, x_max, x_min, x_abs, g_cons, g_nil, y_lt, y_le, y_gt, y_ge, y_eq, y_ne, y_not, y_and, y_or, y_ite, Option.bind_some, Option.bind_none, List.getElem?_cons_zero, List.getElem?_cons_succ, List.getElem?_nil, List.set_cons_zero, List.set_cons_succ, List.cons_append, List.nil_append, List.append_nil, List.replicate, List.length_cons, List.length_nil, Nat.reduceAdd, Nat.reduceSub, Nat.zero_add, Nat.sub_self, if_true, if_false, ite_true, ite_false, reduceIte, reduceCtorEq, decide_true, decide_false, decide_eq_true_eq, Bool.not_true, Bool.not_false, Bool.true_and, Bool.false_and, Bool.and_true, Bool.and_false, Bool.true_or, Bool.false_or, Bool.false_eq_true, Bool.true_eq_false, not_true_eq_false, not_false_eq_true, ne_eq, Int.reduceEq, Int.reduceNe, Int.reduceLT, Int.reduceLE, and_self, and_true, true_and, and_false, false_and, or_true, true_or, or_false, false_or, true_or, Option.map_some, cs_chk_ok, cs_rd_ok, cs_wr_ok, wb_X10_trace_2, ha, e1, h40, q, r1]
theorem scanr_row {σ0 τ0 : cs_S} {cn rf : Int} (hz : szJ (σ0 1 3) (σ0 1 4)) (ht : 1 ≤ σ0 5 3) (hrf : rf = if cn = 4 then 1 else 0) (hrp : (rf = 1 ∧ σ0 5 4 = 1) ∨ (rf = 0 ∧ σ0 5 4 = 3)) (hI : insR τ0 = insC σ0) (hz0 : τ0 10 0 = σ0 1 3 ∧ τ0 10 1 = σ0 1 4) (a : Option Int) (y : Int) (hy : 0 ≤ y ∧ y < σ0 1 4) (s : (cs_S × GL) × cs_S) (h : IRr σ0 τ0 s) :
    w_X10_trace_2 [none, a, some cn, some y, some 0] s.2 = some (.inl ([none, a, some cn, some y, some (σ0 1 3)], (rowP (insC σ0) (σ0 5 4) (σ0 1 3).toNat y s).2)) ∧ IRr σ0 τ0 (rowP (insC σ0) (σ0 5 4) (σ0 1 3).toNat y s) := by
  have hh := wh_for (c := wc_X10_trace_2) (b := wb_X10_trace_2) (fun x (_ : (cs_S × GL) × cs_S) => [none, a, some cn, some y, some x]) (fun s => s.2) (stepP (insC σ0) (σ0 5 4) y) (fun x s => 0 ≤ x ∧ IRr σ0 τ0 s) (σ0 1 3)
    (fun x s hI => by
      obtain ⟨h0, h1⟩ := hI
      simp only [wc_X10_trace_2, cs_run, cs_L0, s_ret, s_retz, s_retv, s_seq, s_set, s_inc, s_put, s_ast, s_zst, s_cst, s_ada, s_if, s_ex, s_cv, s_nop, s_brk, x_ite, x_l, x_k, x_f, x_a, x_ro, x_add, x_sub, x_mul, x_div, x_rem, x_neg, x_call, x_max, x_min, x_abs, g_cons, g_nil, y_lt, y_le, y_gt, y_ge, y_eq, y_ne, y_not, y_and, y_or, y_ite, Option.bind_some, Option.bind_none, List.getElem?_cons_zero, List.getElem?_cons_succ, List.getElem?_nil, List.set_cons_zero, List.set_cons_succ, List.cons_append, List.nil_append, List.append_nil, List.replicate, List.length_cons, List.length_nil, Nat.reduceAdd, Nat.reduceSub, Nat.zero_add, Nat.sub_self, if_true, if_false, ite_true, ite_false, reduceIte, reduceCtorEq, decide_true, decide_false, decide_eq_true_eq, Bool.not_true, Bool.not_false, Bool.true_and, Bool.false_and, Bool.and_true, Bool.and_false, Bool.true_or, Bool.false_or, Bool.false_eq_true, Bool.true_eq_false, not_true_eq_false, not_false_eq_true, ne_eq, Int.reduceEq, Int.reduceNe, Int.reduceLT, Int.reduceLE, and_self, and_true, true_and, and_false, false_and, or_true, true_or, or_false, false_or, true_or, Option.map_some, h1.2.1.1 0 (by decide) (by decide), hz0.1])
    (fun x s hI' hx => by
      obtain ⟨h0, h1⟩ := hI'
      obtain ⟨r1, r2⟩ := scanr_step hz ht hrf hrp hI hz0 a x y ⟨h0, hx⟩ hy s h1
      exact ⟨r1, by omega, r2⟩)
    (σ0 1 3).toNat 0 s ⟨by omega, h⟩ (by omega)
  exact ⟨hh.1, hh.2.2⟩
theorem scanr_all {σ0 τ0 : cs_S} {cn rf : Int} (hz : szJ (σ0 1 3) (σ0 1 4)) (ht : 1 ≤ σ0 5 3) (hrf : rf = if cn = 4 then 1 else 0) (hrp : (rf = 1 ∧ σ0 5 4 = 1) ∨ (rf = 0 ∧ σ0 5 4 = 3)) (hI : insR τ0 = insC σ0) (hz0 : τ0 10 0 = σ0 1 3 ∧ τ0 10 1 = σ0 1 4) (a : Option Int) (s : (cs_S × GL) × cs_S) (h : IRr σ0 τ0 s) :
    w_X10_trace_3 [none, a, some cn, some 0, none] s.2 = some (.inl ([none, a, some cn, some (σ0 1 4), some (σ0 1 3)], (scanP (insC σ0) (σ0 5 4) (σ0 1 3).toNat (σ0 1 4).toNat s).2)) ∧ IRr σ0 τ0 (scanP (insC σ0) (σ0 5 4) (σ0 1 3).toNat (σ0 1 4).toNat s) := by
  have hh := wh_for (c := wc_X10_trace_3) (b := wb_X10_trace_3) (fun y (_ : (cs_S × GL) × cs_S) => if y = 0 then [none, a, some cn, some y, none] else [none, a, some cn, some y, some (σ0 1 3)]) (fun s => s.2) (rowP (insC σ0) (σ0 5 4) (σ0 1 3).toNat) (fun y s => 0 ≤ y ∧ IRr σ0 τ0 s) (σ0 1 4)
    (fun y s hI => by
      obtain ⟨h0, h1⟩ := hI
      have h1' := h1.2.1.1 1 (by decide) (by decide)
      rw [hz0.2] at h1'
      by_cases e : y = 0
      · simp only [wc_X10_trace_3, cs_run, cs_L0, s_ret, s_retz, s_retv, s_seq, s_set, s_inc, s_put, s_ast, s_zst, s_cst, s_ada, s_if, s_ex, s_cv, s_nop, s_brk, x_ite, x_l, x_k, x_f, x_a, x_ro, x_add, x_sub, x_mul, x_div, x_rem, x_neg, x_call, x_max, x_min, x_abs, g_cons, g_nil, y_lt, y_le, y_gt, y_ge, y_eq, y_ne, y_not, y_and, y_or, y_ite, Option.bind_some, Option.bind_none, List.getElem?_cons_zero, List.getElem?_cons_succ, List.getElem?_nil, List.set_cons_zero, List.set_cons_succ, List.cons_append, List.nil_append, List.append_nil, List.replicate, List.length_cons, List.length_nil, Nat.reduceAdd, Nat.reduceSub, Nat.zero_add, Nat.sub_self, if_true, if_false, ite_true, ite_false, reduceIte, reduceCtorEq, decide_true, decide_false, decide_eq_true_eq, Bool.not_true, Bool.not_false, Bool.true_and, Bool.false_and, Bool.and_true, Bool.and_false, Bool.true_or, Bool.false_or, Bool.false_eq_true, Bool.true_eq_false, not_true_eq_false, not_false_eq_true, ne_eq, Int.reduceEq, Int.reduceNe, Int.reduceLT, Int.reduceLE, and_self, and_true, true_and, and_false, false_and, or_true, true_or, or_false, false_or, true_or, Option.map_some, h1', e]
      · simp only [wc_X10_trace_3, cs_run, cs_L0, s_ret, s_retz, s_retv, s_seq, s_set, s_inc, s_put, s_ast, s_zst, s_cst, s_ada, s_if, s_ex, s_cv, s_nop, s_brk, x_ite, x_l, x_k, x_f, x_a, x_ro, x_add, x_sub, x_mul, x_div, x_rem, x_neg, x_call, x_max, x_min, x_abs, g_cons, g_nil, y_lt, y_le, y_gt, y_ge, y_eq, y_ne, y_not, y_and, y_or, y_ite, Option.bind_some, Option.bind_none, List.getElem?_cons_zero, List.getElem?_cons_succ, List.getElem?_nil, List.set_cons_zero, List.set_cons_succ, List.cons_append, List.nil_append, List.append_nil, List.replicate, List.length_cons, List.length_nil, Nat.reduceAdd, Nat.reduceSub, Nat.zero_add, Nat.sub_self, if_true, if_false, ite_true, ite_false, reduceIte, reduceCtorEq, decide_true, decide_false, decide_eq_true_eq, Bool.not_true, Bool.not_false, Bool.true_and, Bool.false_and, Bool.and_true, Bool.and_false, Bool.true_or, Bool.false_or, Bool.false_eq_true, Bool.true_eq_false, not_true_eq_false, not_false_eq_true, ne_eq, Int.reduceEq, Int.reduceNe, Int.reduceLT, Int.reduceLE, and_self, and_true, true_and, and_false, false_and, or_true, true_or, or_false, false_or, true_or, Option.map_some, h1', e])
    (fun y s hI' hy => by
      obtain ⟨h0, h1⟩ := hI'
      obtain ⟨r1, r2⟩ := scanr_row hz ht hrf hrp hI hz0 a y ⟨h0, hy⟩ s h1
      have c3 : cs_InR (y + 1) := by omega
      have ne : ¬ y + 1 = 0 := by omega
      refine ⟨?_, by omega, r2⟩
      rw [if_neg ne]
      by_cases e : y = 0
      · rw [if_pos e]
        simp only [wb_X10_trace_3, cs_run, cs_L0, s_ret, s_retz, s_retv, s_seq, s_set, s_inc, s_put, s_ast, s_zst, s_cst, s_ada, s_if, s_ex, s_cv, s_nop, s_brk, x_ite, x_l, x_k, x_f, x_a, x_ro, x_add, x_sub, x_mul, x_div, x_rem, x_neg, x_call, x_max, x_min, x_abs, g_cons, g_nil, y_lt, y_le, y_gt, y_ge, y_eq, y_ne, y_not, y_and, y_or, y_ite, Option.bind_some, Option.bind_none, List.getElem?_cons_zero, List.getElem?_cons_succ, List.getElem?_nil, List.set_cons_zero, List.set_cons_succ, List.cons_append, List.nil_append, List.append_nil, List.replicate, List.length_cons, List.length_nil, Nat.reduceAdd, Nat.reduceSub, Nat.zero_add, Nat.sub_self, if_true, if_false, ite_true, ite_false, reduceIte, reduceCtorEq, decide_true, decide_false, decide_eq_true_eq, Bool.not_true, Bool.not_false, Bool.true_and, Bool.false_and, Bool.and_true, Bool.and_false, Bool.true_or, Bool.false_or, Bool.false_eq_true, Bool.true_eq_false, not_true_eq_false, not_false_eq_true, ne_eq, Int.reduceEq, Int.reduceNe, Int.reduceLT, Int.reduceLE, and_self, and_true, true_and, and_false, false_and, or_true, true_or, or_false, false_or, true_or, Option.map_some, r1, cs_chk_ok c3]
      · rw [if_neg e]
        simp only [wb_X10_trace_3, cs_run, cs_L0, s_ret, s_retz, s_retv, s_seq, s_set, s_inc, s_put, s_ast, s_zst, s_cst, s_ada, s_if, s_ex, s_cv, s_nop, s_brk, x_ite, x_l, x_k, x_f, x_a, x_ro, x_add, x_sub, x_mul, x_div, x_rem, x_neg, x_call, x_max, x_min, x_abs, g_cons, g_nil, y_lt, y_le, y_gt, y_ge, y_eq, y_ne, y_not, y_and, y_or, y_ite, Option.bind_some, Option.bind_none, List.getElem?_cons_zero, List.getElem?_cons_succ, List.getElem?_nil, List.set_cons_zero, List.set_cons_succ, List.cons_append, List.nil_append, List.append_nil, List.replicate, List.length_cons, List.length_nil, Nat.reduceAdd, Nat.reduceSub, Nat.zero_add, Nat.sub_self, if_true, if_false, ite_true, ite_false, reduceIte, reduceCtorEq, decide_true, decide_false, decide_eq_true_eq, Bool.not_true, Bool.not_false, Bool.true_and, Bool.false_and, Bool.and_true, Bool.and_false, Bool.true_or, Bool.false_or, Bool.false_eq_true, Bool.true_eq_false, not_true_eq_false, not_false_eq_true, ne_eq, Int.reduceEq, Int.reduceNe, Int.reduceLT, Int.reduceLE, and_self, and_true, true_and, and_false, false_and, or_true, true_or, or_false, false_or, true_or, Option.map_some, r1, cs_chk_ok c3])
    (σ0 1 4).toNat 0 s ⟨by omega, h⟩ (by omega)
  have ne : ¬ σ0 1 4 = 0 := by omega
  have h1 := hh.1
  simp only [if_true, if_neg ne] at h1
  exact ⟨h1, hh.2.2⟩
