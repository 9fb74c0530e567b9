/-! the levels: in range, 0 beyond the picture -/
def AJ (w h : Int) (a : Nat → Int) : Prop := (∀ k, k < 192 → 0 ≤ a k ∧ a k ≤ 9) ∧ ∀ k, k < 192 → ¬ (((k % 16 : Nat) : Int) < w ∧ ((k / 16 : Nat) : Int) < h) → a k = 0
theorem AJ_au {w h x y v : Int} {a : Nat → Int} (hz : szJ w h) (ha : AJ w h a) (hx : inP w h x y = true) (hv : 0 ≤ v ∧ v ≤ 9) : AJ w h (au a (ix x y) v) := by
  have hq := inP_iff.mp hx
  constructor
  · intro k hk
    unfold au
    by_cases e : k = ix x y
    · rw [if_pos e]; exact hv
    · rw [if_neg e]; exact ha.1 k hk
  · intro k hk hn
    unfold au
    by_cases e : k = ix x y
    · exfalso
      apply hn
      unfold ix at e
      have e2 : (k : Int) = y * 16 + x := by omega
      constructor <;> omega
    · rw [if_neg e]; exact ha.2 k hk hn
theorem AJ_zero {w h : Int} {a : Nat → Int} : AJ w h (afl a 192 0) := by
  constructor
  · intro k hk; simp [afl, hk]
  · intro k hk _; simp [afl, hk]
/-- a row of a rectangle -/
def rowF (v row : Int) (k : Int) (s : Int × (Nat → Int)) : Int × (Nat → Int) := (s.1 + (if s.2 (ix k row) ≠ v then 1 else 0), au s.2 (ix k row) v)
def rectF (x w v : Int) (row : Int) (s : Int × (Nat → Int)) : Int × (Nat → Int) := fd (rowF v row) w.toNat x s
theorem rowF_J {W H v row x : Int} {n : Nat} {s : Int × (Nat → Int)} (hz : szJ W H) (hs : AJ W H s.2) (h0 : 0 ≤ x) (h1 : x + n ≤ W) (h2 : 0 ≤ row ∧ row < H) (hv : 0 ≤ v ∧ v ≤ 9) : AJ W H (fd (rowF v row) n x s).2 ∧ s.1 ≤ (fd (rowF v row) n x s).1 ∧ (fd (rowF v row) n x s).1 ≤ s.1 + n := by
  have h := fd_inv (F := rowF v row) (fun k t => AJ W H t.2 ∧ s.1 ≤ t.1 ∧ t.1 ≤ s.1 + (k - x)) (n := n) (k := x) (a := s) ⟨hs, by omega, by omega⟩ (by
    intro i a g1 g2 ⟨g3, g4, g5⟩
    refine ⟨AJ_au hz g3 (inP_iff.mpr (by omega)) hv, ?_, ?_⟩
    · unfold rowF; dsimp only; split <;> omega
    · unfold rowF; dsimp only; split <;> omega)
  exact ⟨h.1, h.2.1, by omega⟩
theorem f_rectC (x y w h v : Int) (σ : cs_S) (hz : szJ (σ 1 3) (σ 1 4)) (ha : AJ (σ 1 3) (σ 1 4) (σ 11)) (hx : 0 ≤ x ∧ 1 ≤ w ∧ x + w ≤ σ 1 3) (hy : 0 ≤ y ∧ 1 ≤ h ∧ y + h ≤ σ 1 4) (hv : 0 ≤ v ∧ v ≤ 9) :
    f_X2_putRectangle [x, y, w, h, v] σ = some (some (fd (rectF x w v) h.toNat y (0, σ 11)).1, cs_set σ 11 (fd (rectF x w v) h.toNat y (0, σ 11)).2) ∧ AJ (σ 1 3) (σ 1 4) (fd (rectF x w v) h.toNat y (0, σ 11)).2 := by
  have hin : ∀ (row n : Int) (a : Nat → Int) (c : Option Int), 0 ≤ row → row < σ 1 4 → 0 ≤ n → n ≤ 100000 → AJ (σ 1 3) (σ 1 4) a → w_X2_putRectangle_1 [none, some x, some y, some w, some h, some v, some n, some row, some x] (cs_set σ 11 a) = some (.inl ([none, some x, some y, some w, some h, some v, some (rectF x w v row (n, a)).1, some row, some (x + w)], cs_set σ 11 (rectF x w v row (n, a)).2)) := by
    intro row n a c h1 h2 h3 h4 h5
    have hh := wh_for (c := wc_X2_putRectangle_1) (b := wb_X2_putRectangle_1) (fun k (s : Int × (Nat → Int)) => [none, some x, some y, some w, some h, some v, some s.1, some row, some k]) (fun s => cs_set σ 11 s.2) (rowF v row) (fun k s => x ≤ k ∧ 0 ≤ s.1 ∧ s.1 ≤ 100000 + (k - x) ∧ AJ (σ 1 3) (σ 1 4) s.2) (x + w)
      (fun k s hI => by simp (disch := (first | omega | simp)) [wc_X2_putRectangle_1, cs_run, cs_L0, s_ret, s_retz, s_retv, s_seq, s_set, s_inc, s_put, s_ast, s_zst, s_cst, s_ada, s_if, s_ex, s_cv, s_nop, s_brk, x_ite, x_l, x_k, x_f, x_a, x_ro, x_add, x_sub, x_mul, x_div, x_rem, x_neg, x_call, x_max, x_min, x_abs, g_cons, g_nil, y_lt, y_le, y_gt, y_ge, y_eq, y_ne, y_not, y_and, y_or, y_ite, cs_chk_ok])
      (fun k s hI hk => by
        obtain ⟨g1, g2, g3, g4⟩ := hI
        have hp : inP (σ 1 3) (σ 1 4) k row = true := inP_iff.mpr (by omega)
        refine ⟨?_, by omega, ?_, ?_, AJ_au hz g4 hp hv⟩
        · have hput := f_put k row v (cs_set σ 11 s.2) (by simpa [cs_set_ne] using hz)
          simp only [cs_set_ne (show (1 : Nat) ≠ 11 by decide), cs_set_at, hp, if_true, true_and, cs_set_set] at hput
          by_cases hc : s.2 (ix k row) = v
          · simp (disch := (first | omega | simp)) [wb_X2_putRectangle_1, cs_run, cs_L0, s_ret, s_retz, s_retv, s_seq, s_set, s_inc, s_put, s_ast, s_zst, s_cst, s_ada, s_if, s_ex, s_cv, s_nop, s_brk, x_ite, x_l, x_k, x_f, x_a, x_ro, x_add, x_sub, x_mul, x_div, x_rem, x_neg, x_call, x_max, x_min, x_abs, g_cons, g_nil, y_lt, y_le, y_gt, y_ge, y_eq, y_ne, y_not, y_and, y_or, y_ite, hput, cs_chk_ok, rowF, hc]
          · simp (disch := (first | omega | simp)) [wb_X2_putRectangle_1, cs_run, cs_L0, s_ret, s_retz, s_retv, s_seq, s_set, s_inc, s_put, s_ast, s_zst, s_cst, s_ada, s_if, s_ex, s_cv, s_nop, s_brk, x_ite, x_l, x_k, x_f, x_a, x_ro, x_add, x_sub, x_mul, x_div, x_rem, x_neg, x_call, x_max, x_min, x_abs, g_cons, g_nil, y_lt, y_le, y_gt, y_ge, y_eq, y_ne, y_not, y_and, y_or, y_ite, hput, cs_chk_ok, rowF, hc]
        · unfold rowF; dsimp only; split <;> omega
        · unfold rowF; dsimp only; split <;> omega)
      w.toNat x (n, a) ⟨by omega, h3, by dsimp only; omega, h5⟩ (by omega)
    exact hh.1
  have hh := wh_for (c := wc_X2_putRectangle_2) (b := wb_X2_putRectangle_2) (fun k (s : Int × (Nat → Int)) => if k = y then [none, some x, some y, some w, some h, some v, some s.1, some k, none] else [none, some x, some y, some w, some h, some v, some s.1, some k, some (x + w)]) (fun s => cs_set σ 11 s.2) (rectF x w v) (fun k s => y ≤ k ∧ 0 ≤ s.1 ∧ s.1 ≤ 16 * (k - y) ∧ AJ (σ 1 3) (σ 1 4) s.2) (y + h)
    (fun k s hI => by
      by_cases e : k = y
      · simp (disch := (first | omega | simp)) [wc_X2_putRectangle_2, cs_run, cs_L0, s_ret, s_retz, s_retv, s_seq, s_set, s_inc, s_put, s_ast, s_zst, s_cst, s_ada, s_if, s_ex, s_cv, s_nop, s_brk, x_ite, x_l, x_k, x_f, x_a, x_ro, x_add, x_sub, x_mul, x_div, x_rem, x_neg, x_call, x_max, x_min, x_abs, g_cons, g_nil, y_lt, y_le, y_gt, y_ge, y_eq, y_ne, y_not, y_and, y_or, y_ite, cs_chk_ok, e]
      · simp (disch := (first | omega | simp)) [wc_X2_putRectangle_2, cs_run, cs_L0, s_ret, s_retz, s_retv, s_seq, s_set, s_inc, s_put, s_ast, s_zst, s_cst, s_ada, s_if, s_ex, s_cv, s_nop, s_brk, x_ite, x_l, x_k, x_f, x_a, x_ro, x_add, x_sub, x_mul, x_div, x_rem, x_neg, x_call, x_max, x_min, x_abs, g_cons, g_nil, y_lt, y_le, y_gt, y_ge, y_eq, y_ne, y_not, y_and, y_or, y_ite, cs_chk_ok, e])
    (fun k s hI hk => by
      obtain ⟨g1, g2, g3, g4⟩ := hI
      have hr := rowF_J (v := v) (row := k) (x := x) (n := w.toNat) (s := s) hz g4 (by omega) (by omega) (by omega) hv
      have hi := hin k s.1 s.2 none (by omega) (by omega) g2 (by omega) g4
      refine ⟨?_, by omega, ?_, ?_, hr.1⟩
      · have ne : k + 1 ≠ y := by omega
        by_cases e : k = y
        · subst e
          simp (disch := (first | omega | simp)) [wb_X2_putRectangle_2, cs_run, cs_L0, s_ret, s_retz, s_retv, s_seq, s_set, s_inc, s_put, s_ast, s_zst, s_cst, s_ada, s_if, s_ex, s_cv, s_nop, s_brk, x_ite, x_l, x_k, x_f, x_a, x_ro, x_add, x_sub, x_mul, x_div, x_rem, x_neg, x_call, x_max, x_min, x_abs, g_cons, g_nil, y_lt, y_le, y_gt, y_ge, y_eq, y_ne, y_not, y_and, y_or, y_ite, hi, cs_chk_ok, ne]
        · simp (disch := (first | omega | simp)) [wb_X2_putRectangle_2, cs_run, cs_L0, s_ret, s_retz, s_retv, s_seq, s_set, s_inc, s_put, s_ast, s_zst, s_cst, s_ada, s_if, s_ex, s_cv, s_nop, s_brk, x_ite, x_l, x_k, x_f, x_a, x_ro, x_add, x_sub, x_mul, x_div, x_rem, x_neg, x_call, x_max, x_min, x_abs, g_cons, g_nil, y_lt, y_le, y_gt, y_ge, y_eq, y_ne, y_not, y_and, y_or, y_ite, hi, cs_chk_ok, e, ne]
      · have := hr.2.1; unfold rectF; omega
      · have := hr.2.2; unfold rectF; omega)
    h.toNat y (0, σ 11) ⟨by omega, by dsimp only; omega, by dsimp only; omega, ha⟩ (by omega)
  obtain ⟨h1, h2⟩ := hh
  have ne : ¬ y + h = y := by omega
  simp only [if_true, if_neg ne, cs_set_self] at h1
  refine ⟨?_, h2.2.2.2⟩
  have h1' : w_X2_putRectangle_2 [none, some x, some y, some w, some h, some v, some 0, some y, none] σ = _ := h1
  simp [f_X2_putRectangle, b_X2_putRectangle, cs_run, cs_L0, s_ret, s_retz, s_retv, s_seq, s_set, s_inc, s_put, s_ast, s_zst, s_cst, s_ada, s_if, s_ex, s_cv, s_nop, s_brk, x_ite, x_l, x_k, x_f, x_a, x_ro, x_add, x_sub, x_mul, x_div, x_rem, x_neg, x_call, x_max, x_min, x_abs, g_cons, g_nil, y_lt, y_le, y_gt, y_ge, y_eq, y_ne, y_not, y_and, y_or, y_ite, h1']
theorem f_fillC (x y w h v : Int) (σ : cs_S) (hz : szJ (σ 1 3) (σ 1 4)) (ha : AJ (σ 1 3) (σ 1 4) (σ 11)) : 
    (∃ hc : (0 ≤ v ∧ v ≤ 9) ∧ inP (σ 1 3) (σ 1 4) x y = true ∧ (1 ≤ w ∧ w ≤ σ 1 3 - x) ∧ (1 ≤ h ∧ h ≤ σ 1 4 - y), f_X9_fill [x, y, w, h, v] σ = some (some (fd (rectF x w v) h.toNat y (0, σ 11)).1, cs_set σ 11 (fd (rectF x w v) h.toNat y (0, σ 11)).2) ∧ AJ (σ 1 3) (σ 1 4) (fd (rectF x w v) h.toNat y (0, σ 11)).2) ∨
    (¬ ((0 ≤ v ∧ v ≤ 9) ∧ inP (σ 1 3) (σ 1 4) x y = true ∧ (1 ≤ w ∧ w ≤ σ 1 3 - x) ∧ (1 ≤ h ∧ h ≤ σ 1 4 - y)) ∧ f_X9_fill [x, y, w, h, v] σ = some (some (-1003), σ)) := by
  by_cases hv : 0 ≤ v ∧ v ≤ 9
  · cases hp : inP (σ 1 3) (σ 1 4) x y
    case false =>
      refine Or.inr ⟨fun q => by simp at q, ?_⟩
      simp [f_X9_fill, b_X9_fill, f_X2_hasRectangle, b_X2_hasRectangle, f_isLevel, f_has, cs_run, cs_L0, s_ret, s_retz, s_retv, s_seq, s_set, s_inc, s_put, s_ast, s_zst, s_cst, s_ada, s_if, s_ex, s_cv, s_nop, s_brk, x_ite, x_l, x_k, x_f, x_a, x_ro, x_add, x_sub, x_mul, x_div, x_rem, x_neg, x_call, x_max, x_min, x_abs, g_cons, g_nil, y_lt, y_le, y_gt, y_ge, y_eq, y_ne, y_not, y_and, y_or, y_ite, hv, hp]
    case true =>
      have hq := inP_iff.mp hp
      by_cases h1 : 1 ≤ w ∧ w ≤ σ 1 3 - x
      · by_cases h2 : 1 ≤ h ∧ h ≤ σ 1 4 - y
        · obtain ⟨r1, r2⟩ := f_rectC x y w h v σ hz ha (by omega) (by omega) hv
          refine Or.inl ⟨⟨hv, rfl, h1, h2⟩, ?_, r2⟩
          simp (disch := (first | omega | simp)) [f_X9_fill, b_X9_fill, f_X2_hasRectangle, b_X2_hasRectangle, f_isLevel, f_has, f_isWithin, cs_run, cs_L0, s_ret, s_retz, s_retv, s_seq, s_set, s_inc, s_put, s_ast, s_zst, s_cst, s_ada, s_if, s_ex, s_cv, s_nop, s_brk, x_ite, x_l, x_k, x_f, x_a, x_ro, x_add, x_sub, x_mul, x_div, x_rem, x_neg, x_call, x_max, x_min, x_abs, g_cons, g_nil, y_lt, y_le, y_gt, y_ge, y_eq, y_ne, y_not, y_and, y_or, y_ite, hv, hp, h1, h2, r1, cs_chk_ok]
        · refine Or.inr ⟨fun q => h2 q.2.2.2, ?_⟩
          simp (disch := (first | omega | simp)) [f_X9_fill, b_X9_fill, f_X2_hasRectangle, b_X2_hasRectangle, f_isLevel, f_has, f_isWithin, cs_run, cs_L0, s_ret, s_retz, s_retv, s_seq, s_set, s_inc, s_put, s_ast, s_zst, s_cst, s_ada, s_if, s_ex, s_cv, s_nop, s_brk, x_ite, x_l, x_k, x_f, x_a, x_ro, x_add, x_sub, x_mul, x_div, x_rem, x_neg, x_call, x_max, x_min, x_abs, g_cons, g_nil, y_lt, y_le, y_gt, y_ge, y_eq, y_ne, y_not, y_and, y_or, y_ite, hv, hp, h1, h2, cs_chk_ok]
      · refine Or.inr ⟨fun q => h1 q.2.2.1, ?_⟩
        simp (disch := (first | omega | simp)) [f_X9_fill, b_X9_fill, f_X2_hasRectangle, b_X2_hasRectangle, f_isLevel, f_has, f_isWithin, cs_run, cs_L0, s_ret, s_retz, s_retv, s_seq, s_set, s_inc, s_put, s_ast, s_zst, s_cst, s_ada, s_if, s_ex, s_cv, s_nop, s_brk, x_ite, x_l, x_k, x_f, x_a, x_ro, x_add, x_sub, x_mul, x_div, x_rem, x_neg, x_call, x_max, x_min, x_abs, g_cons, g_nil, y_lt, y_le, y_gt, y_ge, y_eq, y_ne, y_not, y_and, y_or, y_ite, hv, hp, h1, cs_chk_ok]
  · refine Or.inr ⟨fun q => hv q.1, ?_⟩
    simp [f_X9_fill, b_X9_fill, f_isLevel, cs_run, cs_L0, s_ret, s_retz, s_retv, s_seq, s_set, s_inc, s_put, s_ast, s_zst, s_cst, s_ada, s_if, s_ex, s_cv, s_nop, s_brk, x_ite, x_l, x_k, x_f, x_a, x_ro, x_add, x_sub, x_mul, x_div, x_rem, x_neg, x_call, x_max, x_min, x_abs, g_cons, g_nil, y_lt, y_le, y_gt, y_ge, y_eq, y_ne, y_not, y_and, y_or, y_ite, hv]
theorem f_rectR (x y w h v : Int) (σ : cs_S) (hz : szJ (σ 10 0) (σ 10 1)) (ha : AJ (σ 10 0) (σ 10 1) (σ 28)) (hx : 0 ≤ x ∧ 1 ≤ w ∧ x + w ≤ σ 10 0) (hy : 0 ≤ y ∧ 1 ≤ h ∧ y + h ≤ σ 10 1) (hv : 0 ≤ v ∧ v ≤ 9) :
    w_X10_fill_2 [none, some x, some y, some w, some h, some v, some 0, some y, none] σ = some (.inl ([none, some x, some y, some w, some h, some v, some (fd (rectF x w v) h.toNat y (0, σ 28)).1, some (y + h), some (x + w)], cs_set σ 28 (fd (rectF x w v) h.toNat y (0, σ 28)).2)) ∧ AJ (σ 10 0) (σ 10 1) (fd (rectF x w v) h.toNat y (0, σ 28)).2 := by
  have hin : ∀ (row n : Int) (a : Nat → Int) (c : Option Int), 0 ≤ row → row < σ 10 1 → 0 ≤ n → n ≤ 100000 → AJ (σ 10 0) (σ 10 1) a → w_X10_fill_1 [none, some x, some y, some w, some h, some v, some n, some row, some x] (cs_set σ 28 a) = some (.inl ([none, some x, some y, some w, some h, some v, some (rectF x w v row (n, a)).1, some row, some (x + w)], cs_set σ 28 (rectF x w v row (n, a)).2)) := by
    intro row n a c h1 h2 h3 h4 h5
    have hh := wh_for (c := wc_X10_fill_1) (b := wb_X10_fill_1) (fun k (s : Int × (Nat → Int)) => [none, some x, some y, some w, some h, some v, some s.1, some row, some k]) (fun s => cs_set σ 28 s.2) (rowF v row) (fun k s => x ≤ k ∧ 0 ≤ s.1 ∧ s.1 ≤ 100000 + (k - x) ∧ AJ (σ 10 0) (σ 10 1) s.2) (x + w)
      (fun k s hI => by simp (disch := (first | omega | simp)) [wc_X10_fill_1, cs_run, cs_L0, s_ret, s_retz, s_retv, s_seq, s_set, s_inc, s_put, s_ast, s_zst, s_cst, s_ada, s_if, s_ex, s_cv, s_nop, s_brk, x_ite, x_l, x_k, x_f, x_a, x_ro, x_add, x_sub, x_mul, x_div, x_rem, x_neg, x_call, x_max, x_min, x_abs, g_cons, g_nil, y_lt, y_le, y_gt, y_ge, y_eq, y_ne, y_not, y_and, y_or, y_ite, cs_chk_ok])
      (fun k s hI hk => by
        obtain ⟨g1, g2, g3, g4⟩ := hI
        have hp : inP (σ 10 0) (σ 10 1) k row = true := inP_iff.mpr (by omega)
        refine ⟨?_, by omega, ?_, ?_, AJ_au hz g4 hp hv⟩
        · have hput := f_setR k row v (cs_set σ 28 s.2) (by simpa [cs_set_ne] using hz)
          rw [if_pos ⟨by simpa [cs_set_ne] using hp, hv⟩] at hput
          simp only [cs_set_at, cs_set_set] at hput
          by_cases hc : s.2 (ix k row) = v
          · simp (disch := (first | omega | simp)) [wb_X10_fill_1, cs_run, cs_L0, s_ret, s_retz, s_retv, s_seq, s_set, s_inc, s_put, s_ast, s_zst, s_cst, s_ada, s_if, s_ex, s_cv, s_nop, s_brk, x_ite, x_l, x_k, x_f, x_a, x_ro, x_add, x_sub, x_mul, x_div, x_rem, x_neg, x_call, x_max, x_min, x_abs, g_cons, g_nil, y_lt, y_le, y_gt, y_ge, y_eq, y_ne, y_not, y_and, y_or, y_ite, hput, cs_chk_ok, rowF, hc]
          · simp (disch := (first | omega | simp)) [wb_X10_fill_1, cs_run, cs_L0, s_ret, s_retz, s_retv, s_seq, s_set, s_inc, s_put, s_ast, s_zst, s_cst, s_ada, s_if, s_ex, s_cv, s_nop, s_brk, x_ite, x_l, x_k, x_f, x_a, x_ro, x_add, x_sub, x_mul, x_div, x_rem, x_neg, x_call, x_max, x_min, x_abs, g_cons, g_nil, y_lt, y_le, y_gt, y_ge, y_eq, y_ne, y_not, y_and, y_or, y_ite, hput, cs_chk_ok, rowF, hc]
        · unfold rowF; dsimp only; split <;> omega
        · unfold rowF; dsimp only; split <;> omega)
      w.toNat x (n, a) ⟨by omega, h3, by dsimp only; omega, h5⟩ (by omega)
    exact hh.1
  have hh := wh_for (c := wc_X10_fill_2) (b := wb_X10_fill_2) (fun k (s : Int × (Nat → Int)) => if k = y then [none, some x, some y, some w, some h, some v, some s.1, some k, none] else [none, some x, some y, some w, some h, some v, some s.1, some k, some (x + w)]) (fun s => cs_set σ 28 s.2) (rectF x w v) (fun k s => y ≤ k ∧ 0 ≤ s.1 ∧ s.1 ≤ 16 * (k - y) ∧ AJ (σ 10 0) (σ 10 1) s.2) (y + h)
    (fun k s hI => by
      by_cases e : k = y
      · simp (disch := (first | omega | simp)) [wc_X10_fill_2, cs_run, cs_L0, s_ret, s_retz, s_retv, s_seq, s_set, s_inc, s_put, s_ast, s_zst, s_cst, s_ada, s_if, s_ex, s_cv, s_nop, s_brk, x_ite, x_l, x_k, x_f, x_a, x_ro, x_add, x_sub, x_mul, x_div, x_rem, x_neg, x_call, x_max, x_min, x_abs, g_cons, g_nil, y_lt, y_le, y_gt, y_ge, y_eq, y_ne, y_not, y_and, y_or, y_ite, cs_chk_ok, e]
      · simp (disch := (first | omega | simp)) [wc_X10_fill_2, cs_run, cs_L0, s_ret, s_retz, s_retv, s_seq, s_set, s_inc, s_put, s_ast, s_zst, s_cst, s_ada, s_if, s_ex, s_cv, s_nop, s_brk, x_ite, x_l, x_k, x_f, x_a, x_ro, x_add, x_sub, x_mul, x_div, x_rem, x_neg, x_call, x_max, x_min, x_abs, g_cons, g_nil, y_lt, y_le, y_gt, y_ge, y_eq, y_ne, y_not, y_and, y_or, y_ite, cs_chk_ok, e])
    (fun k s hI hk => by
      obtain ⟨g1, g2, g3, g4⟩ := hI
      have hr := rowF_J (v := v) (row := k) (x := x) (n := w.toNat) (s := s) hz g4 (by omega) (by omega) (by omega) hv
      have hi := hin k s.1 s.2 none (by omega) (by omega) g2 (by omega) g4
      refine ⟨?_, by omega, ?_, ?_, hr.1⟩
      · have ne : k + 1 ≠ y := by omega
        by_cases e : k = y
        · subst e
          simp (disch := (first | omega | simp)) [wb_X10_fill_2, cs_run, cs_L0, s_ret, s_retz, s_retv, s_seq, s_set, s_inc, s_put, s_ast, s_zst, s_cst, s_ada, s_if, s_ex, s_cv, s_nop, s_brk, x_ite, x_l, x_k, x_f, x_a, x_ro, x_add, x_sub, x_mul, x_div, x_rem, x_neg, x_call, x_max, x_min, x_abs, g_cons, g_nil, y_lt, y_le, y_gt, y_ge, y_eq, y_ne, y_not, y_and, y_or, y_ite, hi, cs_chk_ok, ne]
        · simp (disch := (first | omega | simp)) [wb_X10_fill_2, cs_run, cs_L0, s_ret, s_retz, s_retv, s_seq, s_set, s_inc, s_put, s_ast, s_zst, s_cst, s_ada, s_if, s_ex, s_cv, s_nop, s_brk, x_ite, x_l, x_k, x_f, x_a, x_ro, x_add, x_sub, x_mul, x_div, x_rem, x_neg, x_call, x_max, x_min, x_abs, g_cons, g_nil, y_lt, y_le, y_gt, y_ge, y_eq, y_ne, y_not, y_and, y_or, y_ite, hi, cs_chk_ok, e, ne]
      · have := hr.2.1; unfold rectF; omega
      · have := hr.2.2; unfold rectF; omega)
    h.toNat y (0, σ 28) ⟨by omega, by dsimp only; omega, by dsimp only; omega, ha⟩ (by omega)
  obtain ⟨h1, h2⟩ := hh
  have ne : ¬ y + h = y := by omega
  simp only [if_true, if_neg ne, cs_set_self] at h1
  exact ⟨h1, h2.2.2.2⟩
theorem f_fillR (x y w h v : Int) (σ : cs_S) (hz : szJ (σ 10 0) (σ 10 1)) (ha : AJ (σ 10 0) (σ 10 1) (σ 28)) : 
    (((0 ≤ v ∧ v ≤ 9) ∧ inP (σ 10 0) (σ 10 1) x y = true ∧ (1 ≤ w ∧ w ≤ σ 10 0 - x) ∧ (1 ≤ h ∧ h ≤ σ 10 1 - y)) → f_X10_fill [x, y, w, h, v] σ = some (some (fd (rectF x w v) h.toNat y (0, σ 28)).1, cs_set σ 28 (fd (rectF x w v) h.toNat y (0, σ 28)).2)) ∧
    (¬ ((0 ≤ v ∧ v ≤ 9) ∧ inP (σ 10 0) (σ 10 1) x y = true ∧ (1 ≤ w ∧ w ≤ σ 10 0 - x) ∧ (1 ≤ h ∧ h ≤ σ 10 1 - y)) → f_X10_fill [x, y, w, h, v] σ = some (some (-1003), σ)) := by
  constructor
  · rintro ⟨hv, hp, h1, h2⟩
    have hq := inP_iff.mp hp
    have r1 := (f_rectR x y w h v σ hz ha (by omega) (by omega) hv).1
    simp (disch := (first | omega | simp)) [f_X10_fill, b_X10_fill, f_isLevelR, f_isPixel x y σ hz, f_within, cs_run, cs_L0, s_ret, s_retz, s_retv, s_seq, s_set, s_inc, s_put, s_ast, s_zst, s_cst, s_ada, s_if, s_ex, s_cv, s_nop, s_brk, x_ite, x_l, x_k, x_f, x_a, x_ro, x_add, x_sub, x_mul, x_div, x_rem, x_neg, x_call, x_max, x_min, x_abs, g_cons, g_nil, y_lt, y_le, y_gt, y_ge, y_eq, y_ne, y_not, y_and, y_or, y_ite, hv, hp, h1, h2, r1, cs_chk_ok]
  · intro hn
    by_cases hv : 0 ≤ v ∧ v ≤ 9
    · cases hp : inP (σ 10 0) (σ 10 1) x y
      case false => simp [f_X10_fill, b_X10_fill, f_isLevelR, f_isPixel x y σ hz, cs_run, cs_L0, s_ret, s_retz, s_retv, s_seq, s_set, s_inc, s_put, s_ast, s_zst, s_cst, s_ada, s_if, s_ex, s_cv, s_nop, s_brk, x_ite, x_l, x_k, x_f, x_a, x_ro, x_add, x_sub, x_mul, x_div, x_rem, x_neg, x_call, x_max, x_min, x_abs, g_cons, g_nil, y_lt, y_le, y_gt, y_ge, y_eq, y_ne, y_not, y_and, y_or, y_ite, hv, hp]
      case true =>
        have hq := inP_iff.mp hp
        by_cases h1 : 1 ≤ w ∧ w ≤ σ 10 0 - x
        · by_cases h2 : 1 ≤ h ∧ h ≤ σ 10 1 - y
          · exact absurd ⟨hv, hp, h1, h2⟩ hn
          · simp (disch := (first | omega | simp)) [f_X10_fill, b_X10_fill, f_isLevelR, f_isPixel x y σ hz, f_within, cs_run, cs_L0, s_ret, s_retz, s_retv, s_seq, s_set, s_inc, s_put, s_ast, s_zst, s_cst, s_ada, s_if, s_ex, s_cv, s_nop, s_brk, x_ite, x_l, x_k, x_f, x_a, x_ro, x_add, x_sub, x_mul, x_div, x_rem, x_neg, x_call, x_max, x_min, x_abs, g_cons, g_nil, y_lt, y_le, y_gt, y_ge, y_eq, y_ne, y_not, y_and, y_or, y_ite, hv, hp, h1, h2, cs_chk_ok]
        · simp (disch := (first | omega | simp)) [f_X10_fill, b_X10_fill, f_isLevelR, f_isPixel x y σ hz, f_within, cs_run, cs_L0, s_ret, s_retz, s_retv, s_seq, s_set, s_inc, s_put, s_ast, s_zst, s_cst, s_ada, s_if, s_ex, s_cv, s_nop, s_brk, x_ite, x_l, x_k, x_f, x_a, x_ro, x_add, x_sub, x_mul, x_div, x_rem, x_neg, x_call, x_max, x_min, x_abs, g_cons, g_nil, y_lt, y_le, y_gt, y_ge, y_eq, y_ne, y_not, y_and, y_or, y_ite, hv, hp, h1, cs_chk_ok]
    · simp [f_X10_fill, b_X10_fill, f_isLevelR, cs_run, cs_L0, s_ret, s_retz, s_retv, s_seq, s_set, s_inc, s_put, s_ast, s_zst, s_cst, s_ada, s_if, s_ex, s_cv, s_nop, s_brk, x_ite, x_l, x_k, x_f, x_a, x_ro, x_add, x_sub, x_mul, x_div, x_rem, x_neg, x_call, x_max, x_min, x_abs, g_cons, g_nil, y_lt, y_le, y_gt, y_ge, y_eq, y_ne, y_not, y_and, y_or, y_ite, hv]
