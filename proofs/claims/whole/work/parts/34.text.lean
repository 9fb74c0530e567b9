/-! the text -/
theorem f_typeC (c : Int) (σ : cs_S) (h0 : 0 ≤ σ 2 1) (h2 : σ 2 1 ≤ 200) (hc : 0 ≤ c ∧ c < 65536) : f_X9_type [c] σ = if σ 2 1 = 200 then some (some (-1005), σ) else some (some (σ 2 1 + 1), cs_set (cs_set σ 13 (au (σ 13) (σ 2 1).toNat c)) 2 (au (σ 2) 1 (σ 2 1 + 1))) := by
  by_cases h : σ 2 1 = 200
  · rw [if_pos h]
    simp [f_X9_type, b_X9_type, f_X7_append, b_X7_append, cs_run, cs_L0, s_ret, s_retz, s_retv, s_seq, s_set, s_inc, s_put, s_ast, s_zst, s_cst, s_ada, s_if, s_ex, s_cv, s_nop, s_brk, x_ite, x_l, x_k, x_f, x_a, x_ro, x_add, x_sub, x_mul, x_div, x_rem, x_neg, x_call, x_max, x_min, x_abs, g_cons, g_nil, y_lt, y_le, y_gt, y_ge, y_eq, y_ne, y_not, y_and, y_or, y_ite, h]
  · have h3 : ¬ 200 ≤ σ 2 1 := by omega
    have hr : σ 2 1 < 200 := by omega
    rw [if_neg h]
    simp (disch := (first | omega | simp)) [f_X9_type, b_X9_type, f_X7_append, b_X7_append, cs_run, cs_L0, s_ret, s_retz, s_retv, s_seq, s_set, s_inc, s_put, s_ast, s_zst, s_cst, s_ada, s_if, s_ex, s_cv, s_nop, s_brk, x_ite, x_l, x_k, x_f, x_a, x_ro, x_add, x_sub, x_mul, x_div, x_rem, x_neg, x_call, x_max, x_min, x_abs, g_cons, g_nil, y_lt, y_le, y_gt, y_ge, y_eq, y_ne, y_not, y_and, y_or, y_ite, h3, hc, cs_wr_ok, cs_chk_ok, cs_up_eq, cs_set_ne, cs_set_at, au_at]
theorem f_typeR (c : Int) (σ : cs_S) (h0 : 0 ≤ σ 10 4) (h2 : σ 10 4 ≤ 200) (hc : 0 ≤ c ∧ c < 65536) : f_X10_type [c] σ = if σ 10 4 = 200 then some (some (-1005), σ) else some (some (σ 10 4 + 1), cs_set (cs_set σ 30 (au (σ 30) (σ 10 4).toNat c)) 10 (au (σ 10) 4 (σ 10 4 + 1))) := by
  by_cases h : σ 10 4 = 200
  · rw [if_pos h]
    simp [f_X10_type, b_X10_type, cs_run, cs_L0, s_ret, s_retz, s_retv, s_seq, s_set, s_inc, s_put, s_ast, s_zst, s_cst, s_ada, s_if, s_ex, s_cv, s_nop, s_brk, x_ite, x_l, x_k, x_f, x_a, x_ro, x_add, x_sub, x_mul, x_div, x_rem, x_neg, x_call, x_max, x_min, x_abs, g_cons, g_nil, y_lt, y_le, y_gt, y_ge, y_eq, y_ne, y_not, y_and, y_or, y_ite, h]
  · have hr : σ 10 4 < 200 := by omega
    rw [if_neg h]
    simp (disch := (first | omega | simp)) [f_X10_type, b_X10_type, cs_run, cs_L0, s_ret, s_retz, s_retv, s_seq, s_set, s_inc, s_put, s_ast, s_zst, s_cst, s_ada, s_if, s_ex, s_cv, s_nop, s_brk, x_ite, x_l, x_k, x_f, x_a, x_ro, x_add, x_sub, x_mul, x_div, x_rem, x_neg, x_call, x_max, x_min, x_abs, g_cons, g_nil, y_lt, y_le, y_gt, y_ge, y_eq, y_ne, y_not, y_and, y_or, y_ite, h, hc, cs_wr_ok, cs_chk_ok, cs_up_eq, cs_set_ne, cs_set_at, au_at]
theorem f_clearC (σ : cs_S) : f_X9_clearText [] σ = some (some (σ 2 1), cs_set σ 2 (au (σ 2) 1 0)) := by
  simp [f_X9_clearText, b_X9_clearText, cs_run, cs_L0, s_ret, s_retz, s_retv, s_seq, s_set, s_inc, s_put, s_ast, s_zst, s_cst, s_ada, s_if, s_ex, s_cv, s_nop, s_brk, x_ite, x_l, x_k, x_f, x_a, x_ro, x_add, x_sub, x_mul, x_div, x_rem, x_neg, x_call, x_max, x_min, x_abs, g_cons, g_nil, y_lt, y_le, y_gt, y_ge, y_eq, y_ne, y_not, y_and, y_or, y_ite, cs_up_eq]
theorem f_clearR (σ : cs_S) : f_X10_clearText [] σ = some (some (σ 10 4), cs_set σ 10 (au (σ 10) 4 0)) := by
  simp [f_X10_clearText, b_X10_clearText, cs_run, cs_L0, s_ret, s_retz, s_retv, s_seq, s_set, s_inc, s_put, s_ast, s_zst, s_cst, s_ada, s_if, s_ex, s_cv, s_nop, s_brk, x_ite, x_l, x_k, x_f, x_a, x_ro, x_add, x_sub, x_mul, x_div, x_rem, x_neg, x_call, x_max, x_min, x_abs, g_cons, g_nil, y_lt, y_le, y_gt, y_ge, y_eq, y_ne, y_not, y_and, y_or, y_ite, cs_up_eq]
/-! reading a text: the state is y, x, the number, the levels -/
def arun (a : Nat → Int) (k n : Nat) (v : Int) : Nat → Int := fun j => if k ≤ j ∧ j < k + n then v else a j
theorem arun_0 (a : Nat → Int) (k : Nat) (v : Int) : arun a k 0 v = a := by
  funext j; unfold arun; rw [if_neg (by omega)]
theorem arun_s (a : Nat → Int) (k n : Nat) (v : Int) : au (arun a k n v) (k + n) v = arun a k (n + 1) v := by
  funext j; unfold au arun
  by_cases h : j = k + n
  · rw [if_pos h, if_pos (by omega)]
  · rw [if_neg h]
    by_cases h2 : k ≤ j ∧ j < k + n
    · rw [if_pos h2, if_pos (by omega)]
    · rw [if_neg h2, if_neg (by omega)]
abbrev rdT : Type := Int × Int × Int × (Nat → Int)
def rdLen (n : Int) : Int := if n < 1 then 1 else n
def rdS (w h c : Int) (s : rdT) : Option rdT :=
  if c = 47 then (if 0 < s.2.2.1 ∨ h ≤ s.1 + 1 then none else some (s.1 + 1, 0, s.2.2.1, s.2.2.2))
  else if 48 ≤ c ∧ c ≤ 57 then (if 1 ≤ 10 * s.2.2.1 + (c - 48) ∧ 10 * s.2.2.1 + (c - 48) ≤ w - s.2.1 then some (s.1, s.2.1, 10 * s.2.2.1 + (c - 48), s.2.2.2) else none)
  else if 97 ≤ c ∧ c ≤ 106 then (if rdLen s.2.2.1 ≤ w - s.2.1 then some (s.1, s.2.1 + rdLen s.2.2.1, 0, arun s.2.2.2 (ix s.2.1 s.1) (rdLen s.2.2.1).toNat (c - 97)) else none)
  else none
def rdI (w h : Int) (s : rdT) : Prop := (0 ≤ s.1 ∧ s.1 < h) ∧ (0 ≤ s.2.1 ∧ s.2.1 ≤ w) ∧ (0 ≤ s.2.2.1 ∧ s.2.2.1 ≤ w - s.2.1) ∧ AJ w h s.2.2.2
theorem rdLen_1 {n : Int} : 1 ≤ rdLen n := by unfold rdLen; split <;> omega
theorem rdS_I {w h c : Int} {s s' : rdT} (hz : szJ w h) (hI : rdI w h s) (hs : rdS w h c s = some s') : rdI w h s' := by
  obtain ⟨y, x, n, a⟩ := s
  obtain ⟨h1, h2, h3, h4⟩ := hI
  dsimp only at h1 h2 h3 h4
  unfold rdS at hs
  dsimp only at hs
  split at hs
  · split at hs
    · cases hs
    · cases hs
      exact ⟨by dsimp only; omega, by dsimp only; omega, by dsimp only; omega, h4⟩
  · split at hs
    · split at hs
      · cases hs
        exact ⟨by dsimp only; omega, by dsimp only; omega, by dsimp only; omega, h4⟩
      · cases hs
    · split at hs
      · split at hs
        · cases hs
          have hl := rdLen_1 (n := n)
          refine ⟨by dsimp only; omega, by dsimp only; omega, by dsimp only; omega, ?_⟩
          constructor
          · intro k hk
            dsimp only
            unfold arun
            split
            · omega
            · exact h4.1 k hk
          · intro k hk hn
            dsimp only
            unfold arun
            rw [if_neg, h4.2 k hk hn]
            rintro ⟨q1, q2⟩
            apply hn
            unfold ix at q1 q2
            constructor <;> omega
        · cases hs
      · cases hs
def rdL (w h : Int) (ch : Nat → Int) : Nat → Int → rdT → (Int × rdT) ⊕ rdT
  | 0, _, s => .inr s
  | n + 1, i, s => match rdS w h (ch i.toNat) s with
    | none => .inl (i, s)
    | some s' => rdL w h ch n (i + 1) s'
/-- the reader at a state -/
def rdC (σ : cs_S) (s : rdT) : cs_S := cs_set (cs_set σ 3 (au (au (au (σ 3) 3 s.1) 4 s.2.1) 5 s.2.2.1)) 14 s.2.2.2
theorem f_acceptsC (c : Int) (σ : cs_S) (s : rdT) (hz : szJ (σ 3 1) (σ 3 2)) (hc : 0 ≤ c ∧ c < 65536) (hI : rdI (σ 3 1) (σ 3 2) s) : f_X4_accepts [c] (rdC σ s) = match rdS (σ 3 1) (σ 3 2) c s with
    | none => some (some 0, rdC σ s)
    | some s' => some (some 1, rdC σ s') := by
  obtain ⟨y, x, n, a⟩ := s
  obtain ⟨h1, h2, h3, h4⟩ := hI
  dsimp only at h1 h2 h3 h4
  have e1 : rdC σ (y, x, n, a) 3 1 = σ 3 1 := by simp [rdC, cs_set, au]
  have e2 : rdC σ (y, x, n, a) 3 2 = σ 3 2 := by simp [rdC, cs_set, au]
  have e3 : rdC σ (y, x, n, a) 3 3 = y := by simp [rdC, cs_set, au]
  have e4 : rdC σ (y, x, n, a) 3 4 = x := by simp [rdC, cs_set, au]
  have e5 : rdC σ (y, x, n, a) 3 5 = n := by simp [rdC, cs_set, au]
  have e6 : rdC σ (y, x, n, a) 14 = a := by simp [rdC, cs_set]
  unfold rdS
  dsimp only
  by_cases c1 : c = 47
  · rw [if_pos c1]
    by_cases g : 0 < n ∨ σ 3 2 ≤ y + 1
    · rw [if_pos g]
      rcases g with g | g
      · simp (disch := (first | omega | simp)) [f_X4_accepts, b_X4_accepts, f_X4_acceptsRowEnd, b_X4_acceptsRowEnd, cs_run, cs_L0, s_ret, s_retz, s_retv, s_seq, s_set, s_inc, s_put, s_ast, s_zst, s_cst, s_ada, s_if, s_ex, s_cv, s_nop, s_brk, x_ite, x_l, x_k, x_f, x_a, x_ro, x_add, x_sub, x_mul, x_div, x_rem, x_neg, x_call, x_max, x_min, x_abs, g_cons, g_nil, y_lt, y_le, y_gt, y_ge, y_eq, y_ne, y_not, y_and, y_or, y_ite, c1, e1, e2, e3, e4, e5, g, cs_chk_ok]
      · by_cases g2 : 0 < n
        · simp (disch := (first | omega | simp)) [f_X4_accepts, b_X4_accepts, f_X4_acceptsRowEnd, b_X4_acceptsRowEnd, cs_run, cs_L0, s_ret, s_retz, s_retv, s_seq, s_set, s_inc, s_put, s_ast, s_zst, s_cst, s_ada, s_if, s_ex, s_cv, s_nop, s_brk, x_ite, x_l, x_k, x_f, x_a, x_ro, x_add, x_sub, x_mul, x_div, x_rem, x_neg, x_call, x_max, x_min, x_abs, g_cons, g_nil, y_lt, y_le, y_gt, y_ge, y_eq, y_ne, y_not, y_and, y_or, y_ite, c1, e1, e2, e3, e4, e5, g2, cs_chk_ok]
        · simp (disch := (first | omega | simp)) [f_X4_accepts, b_X4_accepts, f_X4_acceptsRowEnd, b_X4_acceptsRowEnd, cs_run, cs_L0, s_ret, s_retz, s_retv, s_seq, s_set, s_inc, s_put, s_ast, s_zst, s_cst, s_ada, s_if, s_ex, s_cv, s_nop, s_brk, x_ite, x_l, x_k, x_f, x_a, x_ro, x_add, x_sub, x_mul, x_div, x_rem, x_neg, x_call, x_max, x_min, x_abs, g_cons, g_nil, y_lt, y_le, y_gt, y_ge, y_eq, y_ne, y_not, y_and, y_or, y_ite, c1, e1, e2, e3, e4, e5, g, g2, cs_chk_ok]
    · rw [if_neg g]
      have g1 : ¬ 0 < n := fun q => g (Or.inl q)
      have g2 : ¬ σ 3 2 ≤ y + 1 := fun q => g (Or.inr q)
      have hst : cs_up (cs_up (rdC σ (y, x, n, a)) 3 3 (y + 1)) 3 4 0 = rdC σ (y + 1, 0, n, a) := by
        funext q j
        simp only [cs_up, rdC, cs_set, au]
        by_cases hq : q = 3
        · subst hq
          by_cases j3 : j = 3
          · subst j3; simp [au]
          · by_cases j4 : j = 4
            · subst j4; simp [au]
            · simp [au, j3, j4]
        · simp [hq]
      simp (disch := (first | omega | simp)) [f_X4_accepts, b_X4_accepts, f_X4_acceptsRowEnd, b_X4_acceptsRowEnd, cs_run, cs_L0, s_ret, s_retz, s_retv, s_seq, s_set, s_inc, s_put, s_ast, s_zst, s_cst, s_ada, s_if, s_ex, s_cv, s_nop, s_brk, x_ite, x_l, x_k, x_f, x_a, x_ro, x_add, x_sub, x_mul, x_div, x_rem, x_neg, x_call, x_max, x_min, x_abs, g_cons, g_nil, y_lt, y_le, y_gt, y_ge, y_eq, y_ne, y_not, y_and, y_or, y_ite, c1, e1, e2, e3, e4, e5, g1, g2, cs_chk_ok, hst]
  · rw [if_neg c1]
    by_cases c2 : 48 ≤ c ∧ c ≤ 57
    · rw [if_pos c2]
      by_cases g : 1 ≤ 10 * n + (c - 48) ∧ 10 * n + (c - 48) ≤ σ 3 1 - x
      · rw [if_pos g]
        have hst : cs_up (rdC σ (y, x, n, a)) 3 5 (10 * n + (c - 48)) = rdC σ (y, x, 10 * n + (c - 48), a) := by
          funext q j
          simp only [cs_up, rdC, cs_set, au]
          by_cases hq : q = 3
          · subst hq
            by_cases j5 : j = 5
            · subst j5; simp [au]
            · simp [au, j5]
          · simp [hq]
        simp (disch := (first | omega | simp)) [f_X4_accepts, b_X4_accepts, f_X4_acceptsDigit, b_X4_acceptsDigit, f_isWithin, cs_run, cs_L0, s_ret, s_retz, s_retv, s_seq, s_set, s_inc, s_put, s_ast, s_zst, s_cst, s_ada, s_if, s_ex, s_cv, s_nop, s_brk, x_ite, x_l, x_k, x_f, x_a, x_ro, x_add, x_sub, x_mul, x_div, x_rem, x_neg, x_call, x_max, x_min, x_abs, g_cons, g_nil, y_lt, y_le, y_gt, y_ge, y_eq, y_ne, y_not, y_and, y_or, y_ite, c1, c2, e1, e2, e3, e4, e5, g, cs_chk_ok, hst]
      · rw [if_neg g]
        simp (disch := (first | omega | simp)) [f_X4_accepts, b_X4_accepts, f_X4_acceptsDigit, b_X4_acceptsDigit, f_isWithin, cs_run, cs_L0, s_ret, s_retz, s_retv, s_seq, s_set, s_inc, s_put, s_ast, s_zst, s_cst, s_ada, s_if, s_ex, s_cv, s_nop, s_brk, x_ite, x_l, x_k, x_f, x_a, x_ro, x_add, x_sub, x_mul, x_div, x_rem, x_neg, x_call, x_max, x_min, x_abs, g_cons, g_nil, y_lt, y_le, y_gt, y_ge, y_eq, y_ne, y_not, y_and, y_or, y_ite, c1, c2, e1, e2, e3, e4, e5, g, cs_chk_ok]
    · rw [if_neg c2]
      by_cases c3 : 97 ≤ c ∧ c ≤ 106
      · rw [if_pos c3]
        have hmax : (if n < 1 then 1 else n) = rdLen n := rfl
        have d1 : 48 ≤ c := by omega
        have d2 : ¬ c ≤ 57 := by omega
        have hl := rdLen_1 (n := n)
        by_cases g : rdLen n ≤ σ 3 1 - x
        · rw [if_pos g]
          have g' : ¬ σ 3 1 - x < rdLen n := by omega
          have hw : w_X4_acceptsRun_1 [none, some (c - 97), some (rdLen n), some (y * 16 + x), some (y * 16 + x)] (rdC σ (y, x, n, a)) = some (.inl ([none, some (c - 97), some (rdLen n), some (y * 16 + x), some (y * 16 + x + rdLen n)], rdC σ (y, x, n, arun a (ix x y) (rdLen n).toNat (c - 97)))) := by
            have hh := wh_for (c := wc_X4_acceptsRun_1) (b := wb_X4_acceptsRun_1) (fun k (_ : Nat → Int) => [none, some (c - 97), some (rdLen n), some (y * 16 + x), some k]) (fun b => rdC σ (y, x, n, b)) (fun k b => au b k.toNat (c - 97)) (fun k b => y * 16 + x ≤ k ∧ k ≤ y * 16 + x + rdLen n ∧ b = arun a (ix x y) (k - (y * 16 + x)).toNat (c - 97)) (y * 16 + x + rdLen n)
              (fun k b hI => by
                obtain ⟨q1, q2, q3⟩ := hI
                by_cases q : k < y * 16 + x + rdLen n
                · have : k < 192 := by omega
                  simp (disch := (first | omega | simp)) [wc_X4_acceptsRun_1, cs_run, cs_L0, s_ret, s_retz, s_retv, s_seq, s_set, s_inc, s_put, s_ast, s_zst, s_cst, s_ada, s_if, s_ex, s_cv, s_nop, s_brk, x_ite, x_l, x_k, x_f, x_a, x_ro, x_add, x_sub, x_mul, x_div, x_rem, x_neg, x_call, x_max, x_min, x_abs, g_cons, g_nil, y_lt, y_le, y_gt, y_ge, y_eq, y_ne, y_not, y_and, y_or, y_ite, cs_chk_ok, q, this]
                · simp (disch := (first | omega | simp)) [wc_X4_acceptsRun_1, cs_run, cs_L0, s_ret, s_retz, s_retv, s_seq, s_set, s_inc, s_put, s_ast, s_zst, s_cst, s_ada, s_if, s_ex, s_cv, s_nop, s_brk, x_ite, x_l, x_k, x_f, x_a, x_ro, x_add, x_sub, x_mul, x_div, x_rem, x_neg, x_call, x_max, x_min, x_abs, g_cons, g_nil, y_lt, y_le, y_gt, y_ge, y_eq, y_ne, y_not, y_and, y_or, y_ite, cs_chk_ok, q])
              (fun k b hI hk => by
                obtain ⟨q1, q2, rfl⟩ := hI
                have hst : ∀ (b : Nat → Int) (j : Nat) (v : Int), cs_up (rdC σ (y, x, n, b)) 14 j v = rdC σ (y, x, n, au b j v) := by
                  intro b j v
                  simp [cs_up_eq, rdC, cs_set_at, cs_set_set]
                refine ⟨?_, by omega, by omega, ?_⟩
                · simp (disch := (first | omega | simp)) [wb_X4_acceptsRun_1, cs_run, cs_L0, s_ret, s_retz, s_retv, s_seq, s_set, s_inc, s_put, s_ast, s_zst, s_cst, s_ada, s_if, s_ex, s_cv, s_nop, s_brk, x_ite, x_l, x_k, x_f, x_a, x_ro, x_add, x_sub, x_mul, x_div, x_rem, x_neg, x_call, x_max, x_min, x_abs, g_cons, g_nil, y_lt, y_le, y_gt, y_ge, y_eq, y_ne, y_not, y_and, y_or, y_ite, cs_chk_ok, cs_wr_ok, hst]
                · have : k.toNat = ix x y + (k - (y * 16 + x)).toNat := by unfold ix; omega
                  rw [this, arun_s]
                  congr 1
                  omega)
              (rdLen n).toNat (y * 16 + x) a ⟨by omega, by omega, by simp [arun_0]⟩ (by omega)
            obtain ⟨r1, -, -, r4⟩ := hh
            unfold w_X4_acceptsRun_1
            rw [r1, r4, show y * 16 + x + rdLen n - (y * 16 + x) = rdLen n by omega]
          have hst : cs_up (cs_up (rdC σ (y, x, n, arun a (ix x y) (rdLen n).toNat (c - 97))) 3 4 (x + rdLen n)) 3 5 0 = rdC σ (y, x + rdLen n, 0, arun a (ix x y) (rdLen n).toNat (c - 97)) := by
            funext q j
            simp only [cs_up, rdC, cs_set, au]
            by_cases hq : q = 3
            · subst hq
              by_cases j5 : j = 5
              · subst j5; simp [au]
              · by_cases j4 : j = 4
                · subst j4; simp [au]
                · simp [au, j5, j4]
            · simp [hq]
          have f4 : ∀ b, rdC σ (y, x, n, b) 3 4 = x := by intro b; simp [rdC, cs_set, au]
          simp (disch := (first | omega | simp)) [f_X4_accepts, b_X4_accepts, f_X4_acceptsRun, b_X4_acceptsRun, cs_run, cs_L0, s_ret, s_retz, s_retv, s_seq, s_set, s_inc, s_put, s_ast, s_zst, s_cst, s_ada, s_if, s_ex, s_cv, s_nop, s_brk, x_ite, x_l, x_k, x_f, x_a, x_ro, x_add, x_sub, x_mul, x_div, x_rem, x_neg, x_call, x_max, x_min, x_abs, g_cons, g_nil, y_lt, y_le, y_gt, y_ge, y_eq, y_ne, y_not, y_and, y_or, y_ite, c1, d1, d2, c3, e1, e2, e3, e4, e5, hmax, g', cs_chk_ok, hw, f4, hst]
        · rw [if_neg g]
          have g' : σ 3 1 - x < rdLen n := by omega
          simp (disch := (first | omega | simp)) [f_X4_accepts, b_X4_accepts, f_X4_acceptsRun, b_X4_acceptsRun, cs_run, cs_L0, s_ret, s_retz, s_retv, s_seq, s_set, s_inc, s_put, s_ast, s_zst, s_cst, s_ada, s_if, s_ex, s_cv, s_nop, s_brk, x_ite, x_l, x_k, x_f, x_a, x_ro, x_add, x_sub, x_mul, x_div, x_rem, x_neg, x_call, x_max, x_min, x_abs, g_cons, g_nil, y_lt, y_le, y_gt, y_ge, y_eq, y_ne, y_not, y_and, y_or, y_ite, c1, d1, d2, c3, e1, e2, e3, e4, e5, hmax, g', cs_chk_ok]
      · rw [if_neg c3]
        by_cases c4 : 97 ≤ c
        · have c5 : ¬ c ≤ 106 := fun q => c3 ⟨c4, q⟩
          have d1 : 48 ≤ c := by omega
          have d2 : ¬ c ≤ 57 := by omega
          simp [f_X4_accepts, b_X4_accepts, cs_run, cs_L0, s_ret, s_retz, s_retv, s_seq, s_set, s_inc, s_put, s_ast, s_zst, s_cst, s_ada, s_if, s_ex, s_cv, s_nop, s_brk, x_ite, x_l, x_k, x_f, x_a, x_ro, x_add, x_sub, x_mul, x_div, x_rem, x_neg, x_call, x_max, x_min, x_abs, g_cons, g_nil, y_lt, y_le, y_gt, y_ge, y_eq, y_ne, y_not, y_and, y_or, y_ite, c1, d1, d2, c4, c5]
        · by_cases d1 : 48 ≤ c
          · have d2 : ¬ c ≤ 57 := fun q => c2 ⟨d1, q⟩
            simp [f_X4_accepts, b_X4_accepts, cs_run, cs_L0, s_ret, s_retz, s_retv, s_seq, s_set, s_inc, s_put, s_ast, s_zst, s_cst, s_ada, s_if, s_ex, s_cv, s_nop, s_brk, x_ite, x_l, x_k, x_f, x_a, x_ro, x_add, x_sub, x_mul, x_div, x_rem, x_neg, x_call, x_max, x_min, x_abs, g_cons, g_nil, y_lt, y_le, y_gt, y_ge, y_eq, y_ne, y_not, y_and, y_or, y_ite, c1, d1, d2, c4]
          · simp [f_X4_accepts, b_X4_accepts, cs_run, cs_L0, s_ret, s_retz, s_retv, s_seq, s_set, s_inc, s_put, s_ast, s_zst, s_cst, s_ada, s_if, s_ex, s_cv, s_nop, s_brk, x_ite, x_l, x_k, x_f, x_a, x_ro, x_add, x_sub, x_mul, x_div, x_rem, x_neg, x_call, x_max, x_min, x_abs, g_cons, g_nil, y_lt, y_le, y_gt, y_ge, y_eq, y_ne, y_not, y_and, y_or, y_ite, c1, d1, c4]
