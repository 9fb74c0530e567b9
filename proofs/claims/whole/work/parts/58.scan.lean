/-! all contours, the class's way -/
abbrev GL : Type := List (Arw × Nat)
def arws (ins : Int → Int → Bool) (pt : Int) (G : GL) : List Arw := G.flatMap (fun g => wlk ins pt g.2 g.1)
theorem arws_app (ins : Int → Int → Bool) (pt : Int) (G : GL) (g : Arw × Nat) : arws ins pt (G ++ [g]) = arws ins pt G ++ wlk ins pt g.2 g.1 := by simp [arws, List.flatMap_append]
/-- the state between two contours; G: first arrow and number of arrows of each -/
def SI (σ0 σ : cs_S) (G : GL) : Prop :=
  (σ 1 = σ0 1 ∧ σ 5 = σ0 5 ∧ σ 11 = σ0 11) ∧ (CSo σ ∧ CPr σ ∧ Whole1 σ ∧ Full σ) ∧ σ 4 1 = G.length ∧ Ways (insC σ0) (σ0 5 4) (arws (insC σ0) (σ0 5 4) G) ∧
  (∀ (c : Nat) (g : Arw × Nat), G[c]? = some g → CD (insC σ0) (σ0 5 4) σ c g.1 g.2) ∧ (4 * G.length ≤ (arws (insC σ0) (σ0 5 4) G).length ∧ σ 4 2 ≤ (arws (insC σ0) (σ0 5 4) G).length) ∧
  ∀ x y, inP (σ0 1 3) (σ0 1 4) x y = true → (σ 25 (ix x y) ≠ 0 ↔ (x, y, 0) ∈ arws (insC σ0) (σ0 5 4) G)
theorem begC_25 (σ : cs_S) : begC σ 25 = σ 25 ∧ begC σ 1 = σ 1 ∧ begC σ 5 = σ 5 ∧ begC σ 11 = σ 11 := by simp [begC]
theorem cnt_le {P : Nat → Prop} [DecidablePred P] (n : Nat) : 0 ≤ sm (fun v => if P v then 1 else 0) n ∧ sm (fun v => if P v then 1 else 0) n ≤ n := sm_le (fun k => by split <;> omega) n
theorem SI_beg {σ0 σ : cs_S} {G : GL} (h : SI σ0 σ G) (hc : σ 4 1 < 110) : CSo (begC σ) ∧ CPr (begC σ) ∧ Whole1 (begC σ) ∧ TB σ0 (begC σ) (arws (insC σ0) (σ0 5 4) G).length := by
  obtain ⟨⟨s1, s5, s11⟩, ⟨c1, c2, c3, c4⟩, hG, hW, hD, ⟨l1, l2⟩, hp⟩ := h
  obtain ⟨b1, b2⟩ := begC_CS c1 c2 hc
  obtain ⟨v1, v2, v3, v15, v16, v20, v21, v22, v23, v24⟩ := begC_v σ
  obtain ⟨u25, u1, u5, u11⟩ := begC_25 σ
  have a1 := c1.1.1
  have a2 := c1.1.2.1
  refine ⟨b1, b2, ?_, ⟨u1.trans s1, u5.trans s5, u11.trans s11⟩, by rw [v1]; omega, by rw [v2]; omega, ?_, ?_, ?_⟩
  · intro v hv; rw [v2] at hv; rw [v23]; exact c3 v hv
  · rw [v3, v2, c2.2.1]
    have := cnt_le (P := fun v => σ 23 v ≠ 0) (σ 4 2).toNat
    unfold cAll
    omega
  · rw [v1, v2, v16, show σ 4 1 + 1 - 1 = σ 4 1 by omega, au_at]; omega
  · intro k hk
    rw [v24, v2, c2.2.2.2 k hk]
    have := cnt_le (P := fun v => σ 23 v ≠ 0 ∧ σ 22 v * 17 + σ 21 v = (k : Int)) (σ 4 2).toNat
    unfold cAt
    omega
/-- one contour more -/
theorem SI_more {σ0 σ : cs_S} {G : GL} (hz : szJ (σ0 1 3) (σ0 1 4)) (ht : 1 ≤ σ0 5 3) (hpt : σ0 5 4 = 1 ∨ σ0 5 4 = 3) (h : SI σ0 σ G) (s : Arw) (hs : Vld (insC σ0) s) (hs0 : s.2.2 = 0) (hsl : s ∉ arws (insC σ0) (σ0 5 4) G) :
    f_X8_traceFrom [s.1, s.2.1] σ = some (none, goC (insC σ0) (σ0 5 4) (perd (insC σ0) (σ0 5 4) s) s true (begC σ)) ∧ SI σ0 (goC (insC σ0) (σ0 5 4) (perd (insC σ0) (σ0 5 4) s) s true (begC σ)) (G ++ [(s, perd (insC σ0) (σ0 5 4) s)]) := by
  obtain ⟨⟨s1, s5, s11⟩, ⟨c1, c2, c3, c4⟩, hG, hW, hD, ⟨l1, l2⟩, hp⟩ := id h
  obtain ⟨hper, hn4, hn⟩ := perd_ok hpt hz insD_J hs
  generalize hne : perd (insC σ0) (σ0 5 4) s = n at *
  have hW' := ways_add hpt hW hs hsl hper.1 hper.2.1 hper.2.2
  have hlen := arw_len hz insD_J hW'.1 hW'.2.1
  rw [List.length_append, wlk_len] at hlen
  have hc : σ 4 1 < 110 := by omega
  have a1 := c1.1.1
  have a2 := c1.1.2.1
  obtain ⟨b1, b2, b3, hT⟩ := SI_beg h hc
  obtain ⟨v1, v2, v3, v15, v16, v20, v21, v22, v23, v24⟩ := begC_v σ
  obtain ⟨u25, u1, u5, u11⟩ := begC_25 σ
  have hin := vld_in insD_J hs
  obtain ⟨m, rfl⟩ : ∃ m, n = m + 1 := ⟨n - 1, by omega⟩
  -- the program
  have hbeg := f_begC σ (by omega) hc
  have hloop := trace_loop σ0 hz ht hpt _ hW s hs hs0 hsl (m + 1) hn hper.2.1 hper.2.2 m 0 true none (begC σ) (by omega) hT
  have hprog : f_X8_traceFrom [s.1, s.2.1] σ = some (none, goC (insC σ0) (σ0 5 4) (m + 1) s true (begC σ)) := by
    rw [show itr (insC σ0) (σ0 5 4) 0 s = s from rfl, hs0] at hloop
    generalize goC (insC σ0) (σ0 5 4) (m + 1) s true (begC σ) = τ at hloop ⊢
    generalize begC σ = τ0 at hloop hbeg
    have hloop' : w_X8_traceFrom_1 [none, some s.1, some s.2.1, some s.1, some s.2.1, some 0, some 1, some 0, none] τ0 = some (.inr (.inl (none, τ))) := hloop
    simp only [f_X8_traceFrom, b_X8_traceFrom, cs_run, cs_L0, s_ret, s_retz, s_retv, s_seq, s_set, s_inc, s_put, s_ast, s_zst, s_cst, s_ada, s_if, s_ex, s_cv, s_nop, s_brk, x_ite, x_l, x_k, x_f, x_a, x_ro, x_add, x_sub, x_mul, x_div, x_rem, x_neg, x_call, x_max, x_min, x_abs, g_cons, g_nil, y_lt, y_le, y_gt, y_ge, y_eq, y_ne, y_not, y_and, y_or, y_ite, Option.bind_some, Option.bind_none, List.getElem?_cons_zero, List.getElem?_cons_succ, List.getElem?_nil, List.set_cons_zero, List.set_cons_succ, List.cons_append, List.nil_append, List.append_nil, List.replicate, List.length_cons, List.length_nil, Nat.reduceAdd, Nat.reduceSub, Nat.zero_add, Nat.sub_self, if_true, if_false, ite_true, ite_false, reduceIte, reduceCtorEq, decide_true, decide_false, decide_eq_true_eq, Bool.not_true, Bool.not_false, Bool.true_and, Bool.false_and, Bool.and_true, Bool.and_false, Bool.true_or, Bool.false_or, Bool.false_eq_true, Bool.true_eq_false, not_true_eq_false, not_false_eq_true, ne_eq, Int.reduceEq, Int.reduceNe, Int.reduceLT, Int.reduceLE, and_self, and_true, true_and, and_false, false_and, or_true, true_or, or_false, false_or, true_or, Option.map_some, hbeg, hloop']
  refine ⟨hprog, ?_⟩
  -- the first step, then the rest
  have hGf : GI (insC σ0) (σ0 5 4) (stC (begC σ) s true) s (σ 4 2).toNat 1 := by
    have := GI_first (ins := insC σ0) (pt := σ0 5 4) (σ := begC σ) (s := s) b1 b2 b3 (by rw [v1]; omega) (by rw [v2]; omega) (by rw [v1, v2, v15, show (σ 4 1 + 1 - 1).toNat = (σ 4 1).toNat by omega, au_ne (by omega), au_at]) hs.1 (by omega) (by omega)
    rw [v2] at this
    exact this
  have hTf := TB_st (a := s) (t := true) hT
  obtain ⟨hGn, hTn⟩ := goC_run hz hpt hW hs hsl (n := m + 1) hper.2.2 (σ 4 2).toNat m 1 (decide ((stp (insC σ0) (σ0 5 4) s).2.2 ≠ s.2.2)) (stC (begC σ) s true) (by omega) hGf hTf (fun j hj => by
    have : j = 0 := by omega
    subst this
    rfl)
  have hgo : goC (insC σ0) (σ0 5 4) m (itr (insC σ0) (σ0 5 4) 1 s) (decide ((stp (insC σ0) (σ0 5 4) s).2.2 ≠ s.2.2)) (stC (begC σ) s true) = goC (insC σ0) (σ0 5 4) (m + 1) s true (begC σ) := rfl
  rw [hgo] at hGn hTn
  have hlow := goC_low (insC σ0) (σ0 5 4) (m + 1) s true (begC σ) (by rw [v2]; omega)
  have h25 := goC_25 (ins := insC σ0) (pt := σ0 5 4) hz (m + 1) s true (begC σ) (fun j hj h0 => by
    have := (itr_vld hpt hs j).2
    rw [h0] at this
    simp only [arr, if_true, insC, insD, Bool.and_eq_true] at this
    exact this.1.1)
  generalize goC (insC σ0) (σ0 5 4) (m + 1) s true (begC σ) = τ at *
  obtain ⟨d1, d2⟩ := GI_done (n := m + 1) (by rw [show 1 + m = m + 1 by omega] at hGn; exact hGn) hs hs0 hper
  obtain ⟨⟨g1, g2, g3⟩, -⟩ := hGn
  obtain ⟨w1, w2, w3, w4⟩ := hlow
  rw [v1] at w1 w4
  rw [v2] at w2 w3
  have cn' : (τ 4 1 - 1).toNat = (σ 4 1).toNat := by rw [w1]; omega
  rw [cn'] at d1 d2
  have old15 : ∀ c : Nat, (c : Int) ≤ σ 4 1 → 1 ≤ σ 4 1 → τ 15 c = σ 15 c := by
    intro c hc1 hc2
    rw [w4 c (by omega), v15]
    by_cases e : (c : Int) < σ 4 1
    · rw [au_ne (by omega), au_ne (by omega)]
    · have : c = (σ 4 1).toNat := by omega
      subst this
      rw [au_ne (by omega), au_at, c1.1.2.2.2.2 hc2]
  refine ⟨⟨hTn.1.1, hTn.1.2.1, hTn.1.2.2⟩, ⟨g1, g2, g3, ?_⟩, ?_, ?_, ?_, ⟨?_, ?_⟩, ?_⟩
  · intro c hc1
    rw [w1] at hc1
    by_cases e : (c : Int) < σ 4 1
    · rw [old15 c (by omega) (by omega), old15 (c + 1) (by omega) (by omega)]; exact c4 c e
    · have : c = (σ 4 1).toNat := by omega
      subst this
      omega
  · rw [w1, List.length_append, hG]; simp
  · rw [arws_app]; exact hW'
  · intro c g hg
    by_cases e : c < G.length
    · rw [List.getElem?_append_left e] at hg
      have hcd := hD c g hg
      have hb := c1.2.1 c (by omega)
      have hfull := c4 c (by omega)
      refine CD_keep hcd (by omega) ⟨old15 c (by omega) (by omega), old15 (c + 1) (by omega) (by omega)⟩ (fun v hv => ?_)
      have := w3 v (by omega)
      rw [this.1, this.2, v21, v22]
      exact ⟨rfl, rfl⟩
    · rw [List.getElem?_append_right (by omega)] at hg
      have hz0 : c - G.length = 0 := by
        have := (List.getElem?_eq_some_iff.mp hg).1
        simp at this
        exact this
      rw [hz0] at hg
      simp at hg
      subst hg
      have : c = (σ 4 1).toNat := by omega
      subst this
      exact d1
  · rw [List.length_append, arws_app, List.length_append, wlk_len]; simp; omega
  · rw [arws_app, List.length_append, wlk_len]
    have := hTn.2.2.1
    omega
  · intro x y hxy
    rw [h25 x y hxy, u25, hp x y hxy, arws_app, List.mem_append]
    constructor
    · rintro (q | ⟨j, q1, q2⟩)
      · exact Or.inl q
      · exact Or.inr (wlk_mem.mpr ⟨j, q1, q2.symm⟩)
    · rintro (q | q)
      · exact Or.inl q
      · obtain ⟨j, q1, q2⟩ := wlk_mem.mp q
        exact Or.inr ⟨j, q1, q2.symm⟩
noncomputable def stepC (ins : Int → Int → Bool) (pt y x : Int) (s : cs_S × GL) : cs_S × GL := if arr ins x y 0 = true ∧ (x, y, 0) ∉ arws ins pt s.2 then (goC ins pt (perd ins pt (x, y, 0)) (x, y, 0) true (begC s.1), s.2 ++ [((x, y, 0), perd ins pt (x, y, 0))]) else s
noncomputable def rowC (ins : Int → Int → Bool) (pt : Int) (n : Nat) (y : Int) (s : cs_S × GL) : cs_S × GL := fd (stepC ins pt y) n 0 s
theorem scan_step {σ0 : cs_S} (hz : szJ (σ0 1 3) (σ0 1 4)) (ht : 1 ≤ σ0 5 3) (hpt : σ0 5 4 = 1 ∨ σ0 5 4 = 3) (a b : Option Int) (x y : Int) (hx : 0 ≤ x ∧ x < σ0 1 3) (hy : 0 ≤ y ∧ y < σ0 1 4) (s : cs_S × GL) (h : SI σ0 s.1 s.2) :
    wb_X8_traceAll_2 [none, a, b, some y, some x] s.1 = some (.inl ([none, a, b, some y, some (x + 1)], (stepC (insC σ0) (σ0 5 4) y x s).1)) ∧ SI σ0 (stepC (insC σ0) (σ0 5 4) y x s).1 (stepC (insC σ0) (σ0 5 4) y x s).2 := by
  obtain ⟨σ, G⟩ := s
  dsimp only at h ⊢
  obtain ⟨⟨s1, s5, s11⟩, -, -, -, -, -, hp⟩ := id h
  have hI : insC σ = insC σ0 := by unfold insC; rw [s1, s5, s11]
  have hin : inP (σ0 1 3) (σ0 1 4) x y = true := inP_iff.mpr (by omega)
  have ha := f_hasArrow σ (by rw [s1]; exact hz) (by rw [s5]; exact ht) x y 0 (by omega) (by omega) (by omega)
  rw [hI] at ha
  have hpa := f_isPassed σ (by rw [s1]; exact hz) x y (by rw [s1]; exact hin)
  have c3 : cs_InR (x + 1) := by omega
  unfold stepC
  dsimp only
  cases hc : arr (insC σ0) x y 0 with
  | false =>
    rw [hc] at ha
    simp only [Bool.false_eq_true, if_false] at ha
    rw [if_neg (by simp)]
    refine ⟨?_, h⟩
    simp only [wb_X8_traceAll_2, cs_run, cs_L0, s_ret, s_retz, s_retv, s_seq, s_set, s_inc, s_put, s_ast, s_zst, s_cst, s_ada, s_if, s_ex, s_cv, s_nop, s_brk, x_ite, x_l, x_k, x_f, x_a, x_ro, x_add, x_sub, x_mul, x_div, x_rem, x_neg, x_call, x_max, x_min, x_abs, g_cons, g_nil, y_lt, y_le, y_gt, y_ge, y_eq, y_ne, y_not, y_and, y_or, y_ite, Option.bind_some, Option.bind_none, List.getElem?_cons_zero, List.getElem?_cons_succ, List.getElem?_nil, List.set_cons_zero, List.set_cons_succ, List.cons_append, List.nil_append, List.append_nil, List.replicate, List.length_cons, List.length_nil, Nat.reduceAdd, Nat.reduceSub, Nat.zero_add, Nat.sub_self, if_true, if_false, ite_true, ite_false, reduceIte, reduceCtorEq, decide_true, decide_false, decide_eq_true_eq, Bool.not_true, Bool.not_false, Bool.true_and, Bool.false_and, Bool.and_true, Bool.and_false, Bool.true_or, Bool.false_or, Bool.false_eq_true, Bool.true_eq_false, not_true_eq_false, not_false_eq_true, ne_eq, Int.reduceEq, Int.reduceNe, Int.reduceLT, Int.reduceLE, and_self, and_true, true_and, and_false, false_and, or_true, true_or, or_false, false_or, true_or, Option.map_some, ha, cs_chk_ok c3]
  | true =>
    rw [hc] at ha
    simp only [if_true] at ha
    by_cases hm : (x, y, 0) ∈ arws (insC σ0) (σ0 5 4) G
    · have h25 := (hp x y hin).mpr hm
      rw [if_pos h25] at hpa
      rw [if_neg (fun q => q.2 hm)]
      refine ⟨?_, h⟩
      simp only [wb_X8_traceAll_2, cs_run, cs_L0, s_ret, s_retz, s_retv, s_seq, s_set, s_inc, s_put, s_ast, s_zst, s_cst, s_ada, s_if, s_ex, s_cv, s_nop, s_brk, x_ite, x_l, x_k, x_f, x_a, x_ro, x_add, x_sub, x_mul, x_div, x_rem, x_neg, x_call, x_max, x_min, x_abs, g_cons, g_nil, y_lt, y_le, y_gt, y_ge, y_eq, y_ne, y_not, y_and, y_or, y_ite, Option.bind_some, Option.bind_none, List.getElem?_cons_zero, List.getElem?_cons_succ, List.getElem?_nil, List.set_cons_zero, List.set_cons_succ, List.cons_append, List.nil_append, List.append_nil, List.replicate, List.length_cons, List.length_nil, Nat.reduceAdd, Nat.reduceSub, Nat.zero_add, Nat.sub_self, if_true, if_false, ite_true, ite_false, reduceIte, reduceCtorEq, decide_true, decide_false, decide_eq_true_eq, Bool.not_true, Bool.not_false, Bool.true_and, Bool.false_and, Bool.and_true, Bool.and_false, Bool.true_or, Bool.false_or, Bool.false_eq_true, Bool.true_eq_false, not_true_eq_false, not_false_eq_true, ne_eq, Int.reduceEq, Int.reduceNe, Int.reduceLT, Int.reduceLE, and_self, and_true, true_and, and_false, false_and, or_true, true_or, or_false, false_or, true_or, Option.map_some, ha, hpa, cs_chk_ok c3]
    · have h25 : ¬ σ 25 (ix x y) ≠ 0 := fun q => hm ((hp x y hin).mp q)
      rw [if_neg h25] at hpa
      rw [if_pos ⟨rfl, hm⟩]
      obtain ⟨r1, r2⟩ := SI_more hz ht hpt h (x, y, 0) ⟨by simp, hc⟩ rfl hm
      dsimp only at r1 r2 ⊢
      refine ⟨?_, r2⟩
      generalize goC (insC σ0) (σ0 5 4) (perd (insC σ0) (σ0 5 4) (x, y, 0)) (x, y, 0) true (begC σ) = τ at r1 ⊢
      simp only [wb_X8_traceAll_2, cs_run, cs_L0, s_ret, s_retz, s_retv, s_seq, s_set, s_inc, s_put, s_ast, s_zst, s_cst, s_ada, s_if, s_ex, s_cv, s_nop, s_brk, x_ite, x_l, x_k, x_f, x_a, x_ro, x_add, x_sub, x_mul, x_div, x_rem, x_neg, x_call, x_max, x_min, x_abs, g_cons, g_nil, y_lt, y_le, y_gt, y_ge, y_eq, y_ne, y_not, y_and, y_or, y_ite, Option.bind_some, Option.bind_none, List.getElem?_cons_zero, List.getElem?_cons_succ, List.getElem?_nil, List.set_cons_zero, List.set_cons_succ, List.cons_append, List.nil_append, List.append_nil, List.replicate, List.length_cons, List.length_nil, Nat.reduceAdd, Nat.reduceSub, Nat.zero_add, Nat.sub_self, if_true, if_false, ite_true, ite_false, reduceIte, reduceCtorEq, decide_true, decide_false, decide_eq_true_eq, Bool.not_true, Bool.not_false, Bool.true_and, Bool.false_and, Bool.and_true, Bool.and_false, Bool.true_or, Bool.false_or, Bool.false_eq_true, Bool.true_eq_false, not_true_eq_false, not_false_eq_true, ne_eq, Int.reduceEq, Int.reduceNe, Int.reduceLT, Int.reduceLE, and_self, and_true, true_and, and_false, false_and, or_true, true_or, or_false, false_or, true_or, Option.map_some, ha, hpa, r1, cs_chk_ok c3]
theorem scan_row {σ0 : cs_S} (hz : szJ (σ0 1 3) (σ0 1 4)) (ht : 1 ≤ σ0 5 3) (hpt : σ0 5 4 = 1 ∨ σ0 5 4 = 3) (a b : Option Int) (y : Int) (hy : 0 ≤ y ∧ y < σ0 1 4) (s : cs_S × GL) (h : SI σ0 s.1 s.2) :
    w_X8_traceAll_2 [none, a, b, some y, some 0] s.1 = some (.inl ([none, a, b, some y, some (σ0 1 3)], (rowC (insC σ0) (σ0 5 4) (σ0 1 3).toNat y s).1)) ∧ SI σ0 (rowC (insC σ0) (σ0 5 4) (σ0 1 3).toNat y s).1 (rowC (insC σ0) (σ0 5 4) (σ0 1 3).toNat y s).2 := by
  have hh := wh_for (c := wc_X8_traceAll_2) (b := wb_X8_traceAll_2) (fun x (_ : cs_S × GL) => [none, a, b, some y, some x]) (fun s => s.1) (stepC (insC σ0) (σ0 5 4) y) (fun x s => 0 ≤ x ∧ SI σ0 s.1 s.2) (σ0 1 3)
    (fun x s hI => by
      obtain ⟨h0, h1⟩ := hI
      simp only [wc_X8_traceAll_2, cs_run, cs_L0, s_ret, s_retz, s_retv, s_seq, s_set, s_inc, s_put, s_ast, s_zst, s_cst, s_ada, s_if, s_ex, s_cv, s_nop, s_brk, x_ite, x_l, x_k, x_f, x_a, x_ro, x_add, x_sub, x_mul, x_div, x_rem, x_neg, x_call, x_max, x_min, x_abs, g_cons, g_nil, y_lt, y_le, y_gt, y_ge, y_eq, y_ne, y_not, y_and, y_or, y_ite, Option.bind_some, Option.bind_none, List.getElem?_cons_zero, List.getElem?_cons_succ, List.getElem?_nil, List.set_cons_zero, List.set_cons_succ, List.cons_append, List.nil_append, List.append_nil, List.replicate, List.length_cons, List.length_nil, Nat.reduceAdd, Nat.reduceSub, Nat.zero_add, Nat.sub_self, if_true, if_false, ite_true, ite_false, reduceIte, reduceCtorEq, decide_true, decide_false, decide_eq_true_eq, Bool.not_true, Bool.not_false, Bool.true_and, Bool.false_and, Bool.and_true, Bool.and_false, Bool.true_or, Bool.false_or, Bool.false_eq_true, Bool.true_eq_false, not_true_eq_false, not_false_eq_true, ne_eq, Int.reduceEq, Int.reduceNe, Int.reduceLT, Int.reduceLE, and_self, and_true, true_and, and_false, false_and, or_true, true_or, or_false, false_or, true_or, Option.map_some, h1.1.1])
    (fun x s hI hx => by
      obtain ⟨h0, h1⟩ := hI
      obtain ⟨r1, r2⟩ := scan_step hz ht hpt a b x y ⟨h0, hx⟩ hy s h1
      exact ⟨r1, by omega, r2⟩)
    (σ0 1 3).toNat 0 s ⟨by omega, h⟩ (by omega)
  exact ⟨hh.1, hh.2.2⟩
noncomputable def scanC (ins : Int → Int → Bool) (pt : Int) (n m : Nat) (s : cs_S × GL) : cs_S × GL := fd (rowC ins pt n) m 0 s
theorem scan_all {σ0 : cs_S} (hz : szJ (σ0 1 3) (σ0 1 4)) (ht : 1 ≤ σ0 5 3) (hpt : σ0 5 4 = 1 ∨ σ0 5 4 = 3) (a b : Option Int) (s : cs_S × GL) (h : SI σ0 s.1 s.2) :
    w_X8_traceAll_3 [none, a, b, some 0, none] s.1 = some (.inl ([none, a, b, some (σ0 1 4), some (σ0 1 3)], (scanC (insC σ0) (σ0 5 4) (σ0 1 3).toNat (σ0 1 4).toNat s).1)) ∧ SI σ0 (scanC (insC σ0) (σ0 5 4) (σ0 1 3).toNat (σ0 1 4).toNat s).1 (scanC (insC σ0) (σ0 5 4) (σ0 1 3).toNat (σ0 1 4).toNat s).2 := by
  have hh := wh_for (c := wc_X8_traceAll_3) (b := wb_X8_traceAll_3) (fun y (_ : cs_S × GL) => if y = 0 then [none, a, b, some y, none] else [none, a, b, some y, some (σ0 1 3)]) (fun s => s.1) (rowC (insC σ0) (σ0 5 4) (σ0 1 3).toNat) (fun y s => 0 ≤ y ∧ SI σ0 s.1 s.2) (σ0 1 4)
    (fun y s hI => by
      obtain ⟨h0, h1⟩ := hI
      by_cases e : y = 0
      · simp only [wc_X8_traceAll_3, cs_run, cs_L0, s_ret, s_retz, s_retv, s_seq, s_set, s_inc, s_put, s_ast, s_zst, s_cst, s_ada, s_if, s_ex, s_cv, s_nop, s_brk, x_ite, x_l, x_k, x_f, x_a, x_ro, x_add, x_sub, x_mul, x_div, x_rem, x_neg, x_call, x_max, x_min, x_abs, g_cons, g_nil, y_lt, y_le, y_gt, y_ge, y_eq, y_ne, y_not, y_and, y_or, y_ite, Option.bind_some, Option.bind_none, List.getElem?_cons_zero, List.getElem?_cons_succ, List.getElem?_nil, List.set_cons_zero, List.set_cons_succ, List.cons_append, List.nil_append, List.append_nil, List.replicate, List.length_cons, List.length_nil, Nat.reduceAdd, Nat.reduceSub, Nat.zero_add, Nat.sub_self, if_true, if_false, ite_true, ite_false, reduceIte, reduceCtorEq, decide_true, decide_false, decide_eq_true_eq, Bool.not_true, Bool.not_false, Bool.true_and, Bool.false_and, Bool.and_true, Bool.and_false, Bool.true_or, Bool.false_or, Bool.false_eq_true, Bool.true_eq_false, not_true_eq_false, not_false_eq_true, ne_eq, Int.reduceEq, Int.reduceNe, Int.reduceLT, Int.reduceLE, and_self, and_true, true_and, and_false, false_and, or_true, true_or, or_false, false_or, true_or, Option.map_some, h1.1.1, e]
      · simp only [wc_X8_traceAll_3, cs_run, cs_L0, s_ret, s_retz, s_retv, s_seq, s_set, s_inc, s_put, s_ast, s_zst, s_cst, s_ada, s_if, s_ex, s_cv, s_nop, s_brk, x_ite, x_l, x_k, x_f, x_a, x_ro, x_add, x_sub, x_mul, x_div, x_rem, x_neg, x_call, x_max, x_min, x_abs, g_cons, g_nil, y_lt, y_le, y_gt, y_ge, y_eq, y_ne, y_not, y_and, y_or, y_ite, Option.bind_some, Option.bind_none, List.getElem?_cons_zero, List.getElem?_cons_succ, List.getElem?_nil, List.set_cons_zero, List.set_cons_succ, List.cons_append, List.nil_append, List.append_nil, List.replicate, List.length_cons, List.length_nil, Nat.reduceAdd, Nat.reduceSub, Nat.zero_add, Nat.sub_self, if_true, if_false, ite_true, ite_false, reduceIte, reduceCtorEq, decide_true, decide_false, decide_eq_true_eq, Bool.not_true, Bool.not_false, Bool.true_and, Bool.false_and, Bool.and_true, Bool.and_false, Bool.true_or, Bool.false_or, Bool.false_eq_true, Bool.true_eq_false, not_true_eq_false, not_false_eq_true, ne_eq, Int.reduceEq, Int.reduceNe, Int.reduceLT, Int.reduceLE, and_self, and_true, true_and, and_false, false_and, or_true, true_or, or_false, false_or, true_or, Option.map_some, h1.1.1, e])
    (fun y s hI hy => by
      obtain ⟨h0, h1⟩ := hI
      obtain ⟨r1, r2⟩ := scan_row hz ht hpt a b y ⟨h0, hy⟩ s h1
      have c3 : cs_InR (y + 1) := by omega
      have ne : ¬ y + 1 = 0 := by omega
      refine ⟨?_, by omega, r2⟩
      rw [if_neg ne]
      by_cases e : y = 0
      · rw [if_pos e]
        simp only [wb_X8_traceAll_3, cs_run, cs_L0, s_ret, s_retz, s_retv, s_seq, s_set, s_inc, s_put, s_ast, s_zst, s_cst, s_ada, s_if, s_ex, s_cv, s_nop, s_brk, x_ite, x_l, x_k, x_f, x_a, x_ro, x_add, x_sub, x_mul, x_div, x_rem, x_neg, x_call, x_max, x_min, x_abs, g_cons, g_nil, y_lt, y_le, y_gt, y_ge, y_eq, y_ne, y_not, y_and, y_or, y_ite, Option.bind_some, Option.bind_none, List.getElem?_cons_zero, List.getElem?_cons_succ, List.getElem?_nil, List.set_cons_zero, List.set_cons_succ, List.cons_append, List.nil_append, List.append_nil, List.replicate, List.length_cons, List.length_nil, Nat.reduceAdd, Nat.reduceSub, Nat.zero_add, Nat.sub_self, if_true, if_false, ite_true, ite_false, reduceIte, reduceCtorEq, decide_true, decide_false, decide_eq_true_eq, Bool.not_true, Bool.not_false, Bool.true_and, Bool.false_and, Bool.and_true, Bool.and_false, Bool.true_or, Bool.false_or, Bool.false_eq_true, Bool.true_eq_false, not_true_eq_false, not_false_eq_true, ne_eq, Int.reduceEq, Int.reduceNe, Int.reduceLT, Int.reduceLE, and_self, and_true, true_and, and_false, false_and, or_true, true_or, or_false, false_or, true_or, Option.map_some, r1, cs_chk_ok c3]
      · rw [if_neg e]
        simp only [wb_X8_traceAll_3, cs_run, cs_L0, s_ret, s_retz, s_retv, s_seq, s_set, s_inc, s_put, s_ast, s_zst, s_cst, s_ada, s_if, s_ex, s_cv, s_nop, s_brk, x_ite, x_l, x_k, x_f, x_a, x_ro, x_add, x_sub, x_mul, x_div, x_rem, x_neg, x_call, x_max, x_min, x_abs, g_cons, g_nil, y_lt, y_le, y_gt, y_ge, y_eq, y_ne, y_not, y_and, y_or, y_ite, Option.bind_some, Option.bind_none, List.getElem?_cons_zero, List.getElem?_cons_succ, List.getElem?_nil, List.set_cons_zero, List.set_cons_succ, List.cons_append, List.nil_append, List.append_nil, List.replicate, List.length_cons, List.length_nil, Nat.reduceAdd, Nat.reduceSub, Nat.zero_add, Nat.sub_self, if_true, if_false, ite_true, ite_false, reduceIte, reduceCtorEq, decide_true, decide_false, decide_eq_true_eq, Bool.not_true, Bool.not_false, Bool.true_and, Bool.false_and, Bool.and_true, Bool.and_false, Bool.true_or, Bool.false_or, Bool.false_eq_true, Bool.true_eq_false, not_true_eq_false, not_false_eq_true, ne_eq, Int.reduceEq, Int.reduceNe, Int.reduceLT, Int.reduceLE, and_self, and_true, true_and, and_false, false_and, or_true, true_or, or_false, false_or, true_or, Option.map_some, r1, cs_chk_ok c3])
    (σ0 1 4).toNat 0 s ⟨by omega, h⟩ (by omega)
  have ne : ¬ σ0 1 4 = 0 := by omega
  have h1 := hh.1
  simp only [if_true, if_neg ne] at h1
  exact ⟨h1, hh.2.2⟩
