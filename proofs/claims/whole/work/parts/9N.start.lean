/-! Picture.start over the three cells of a picture, as the constructor calls it -/
abbrev sh1 : cs_Sh := [.inl (2, [some 1, some 2, none, none, none]), .inr (.int, 192), .inr (.int, 192)]
abbrev m_fillI : cs_M := ((RJ7, yJ7_fill_53178, cJ7_fill_53178, 4, none), (0, [some 1, none], sh1))
noncomputable def wc_fillI : cs_C := (y_lt (x_l 2) (x_l 3))
noncomputable def wb_fillI : cs_T := (s_seq (s_ast 1 192 (x_l 2) (x_l 1)) (s_inc 2 1))
noncomputable def w_fillI : cs_T := s_wh wc_fillI wb_fillI
noncomputable def b_fillI : cs_T := (s_seq (s_seq (s_seq (s_set 2 (x_k 0)) (s_set 3 (x_k 192))) w_fillI) s_retv)
noncomputable def f_fillI : cs_F := cs_run [some 1, none] 4 b_fillI
theorem c_fillI : cs_Con m_fillI f_fillI := cs_con (M := m_fillI) (s0 := b_fillI) (pN := 0) (pB := 0) (S_seq (S_seq (S_seq (S_set_n (E_iconst (z := 0) dJ7_fill_53178_0) dJ7_fill_53178_1) (S_set_n (E_alen (R_load (q := 1) dJ7_fill_53178_2) dJ7_fill_53178_3) dJ7_fill_53178_4)) (S_wh (C_ige_n (E_iload_n dJ7_fill_53178_5) (E_iload_n dJ7_fill_53178_6) dJ7_fill_53178_7) (S_seq (S_ast (R_load (q := 1) dJ7_fill_53178_10) (E_iload_n dJ7_fill_53178_11) (E_iload_n dJ7_fill_53178_12) dJ7_fill_53178_13) (S_inc dJ7_fill_53178_14)) dJ7_fill_53178_17)) (S_retv dJ7_fill_53178_20))
abbrev m_startI : cs_M := ((RX2, yX2_start, cX2_start, 3, none), (1, [some 0, none, none], sh1))
theorem lk_startI : cs_LS m_startI m_fillI 25 := ⟨k_stat_J7_fill_53178, ⟨k_code_J7_fill_53178, k_ini_J7, ⟨by decide +kernel, by decide +kernel, by decide +kernel⟩, ⟨by decide, by decide⟩, rfl, Or.inl (cs_gt_of 347 (by decide +kernel) (by decide +kernel))⟩⟩
noncomputable def b_startI : cs_T := (s_seq (s_put 0 3 (x_l 1)) (s_seq (s_put 0 4 (x_l 2)) (s_seq (s_cv f_fillI (g_cons (x_k 0) g_nil)) s_retv)))
noncomputable def f_startI : cs_F := cs_run [some 0, none, none] 3 b_startI
theorem c_startI : cs_Con m_startI f_startI := cs_con (M := m_startI) (s0 := b_startI) (pN := 0) (pB := 0) (S_seq (S_put (R_load (q := 0) dX2_start_0) (E_iload_n dX2_start_1) cd_X2 fl_X2_18 tyX2_ok nmX2 dX2_start_2) (S_seq (S_put (R_load (q := 0) dX2_start_5) (E_iload_n dX2_start_6) cd_X2 fl_X2_22 tyX2_ok nmX2 dX2_start_7) (S_seq (S_callS c_fillI lk_startI (G_ref (R_get (R_load (q := 0) dX2_start_10) cd_X2 fl_X2_9 dX2_start_11) (G_int (E_iconst (z := 0) dX2_start_14) G_nil)) dX2_start_15) (S_retv dX2_start_18))))
theorem f_fillIe (v : Int) (σ : cs_S) : f_fillI [v] σ = some (none, cs_set σ 1 (afl (σ 1) 192 v)) := by
  have hw : w_fillI [none, some v, some 0, some 192] σ = some (.inl ([none, some v, some 192, some 192], cs_set σ 1 (afl (σ 1) 192 v))) := by
    have h := wh_for (c := wc_fillI) (b := wb_fillI) (fun k (_ : Nat → Int) => [none, some v, some k, some 192]) (fun a => cs_set σ 1 a) (fun k a => au a k.toNat v) (fun k a => 0 ≤ k ∧ a = afl (σ 1) k.toNat v) 192
      (fun k a hI => by simp [wc_fillI, cs_run, cs_L0, s_ret, s_retz, s_retv, s_seq, s_set, s_inc, s_put, s_ast, s_zst, s_cst, s_ada, s_if, s_ex, s_cv, s_nop, s_brk, x_ite, x_l, x_k, x_f, x_a, x_ro, x_add, x_sub, x_mul, x_div, x_rem, x_neg, x_call, x_max, x_min, x_abs, g_cons, g_nil, y_lt, y_le, y_gt, y_ge, y_eq, y_ne, y_not, y_and, y_or, y_ite])
      (fun k a hI hk => by
        obtain ⟨h0, rfl⟩ := hI
        refine ⟨?_, by omega, ?_⟩
        · simp (disch := (first | omega | simp)) [wb_fillI, cs_run, cs_L0, s_ret, s_retz, s_retv, s_seq, s_set, s_inc, s_put, s_ast, s_zst, s_cst, s_ada, s_if, s_ex, s_cv, s_nop, s_brk, x_ite, x_l, x_k, x_f, x_a, x_ro, x_add, x_sub, x_mul, x_div, x_rem, x_neg, x_call, x_max, x_min, x_abs, g_cons, g_nil, y_lt, y_le, y_gt, y_ge, y_eq, y_ne, y_not, y_and, y_or, y_ite, cs_wr_ok, cs_chk_ok, cs_up_eq, cs_set_at, cs_set_set]
        · rw [afl_s, show (k + 1).toNat = k.toNat + 1 by omega])
      192 0 (σ 1) ⟨by omega, by simp [afl_0]⟩ (by omega)
    obtain ⟨h1, h2, h3⟩ := h
    rw [cs_set_self] at h1
    unfold w_fillI
    rw [h1, h3]
    simp
  simp [f_fillI, b_fillI, cs_run, cs_L0, s_ret, s_retz, s_retv, s_seq, s_set, s_inc, s_put, s_ast, s_zst, s_cst, s_ada, s_if, s_ex, s_cv, s_nop, s_brk, x_ite, x_l, x_k, x_f, x_a, x_ro, x_add, x_sub, x_mul, x_div, x_rem, x_neg, x_call, x_max, x_min, x_abs, g_cons, g_nil, y_lt, y_le, y_gt, y_ge, y_eq, y_ne, y_not, y_and, y_or, y_ite, hw]
def z0 : cs_S := fun _ _ => 0
def z8 : cs_S := fun p k => if p = 0 ∧ (k = 3 ∨ k = 4) then 8 else 0
theorem f_startIe : f_startI [8, 8] z0 = some (none, z8) := by
  have h : f_startI [8, 8] z0 = some (none, cs_set (cs_set z0 0 (au (au (z0 0) 3 8) 4 8)) 1 (afl (z0 1) 192 0)) := by
    simp [f_startI, b_startI, cs_run, cs_L0, s_ret, s_retz, s_retv, s_seq, s_set, s_inc, s_put, s_ast, s_zst, s_cst, s_ada, s_if, s_ex, s_cv, s_nop, s_brk, x_ite, x_l, x_k, x_f, x_a, x_ro, x_add, x_sub, x_mul, x_div, x_rem, x_neg, x_call, x_max, x_min, x_abs, g_cons, g_nil, y_lt, y_le, y_gt, y_ge, y_eq, y_ne, y_not, y_and, y_or, y_ite, f_fillIe, cs_up_eq, cs_set_at, cs_set_set, cs_set_ne]
  rw [h]
  congr 2
  funext p k
  unfold z8 cs_set au afl z0
  by_cases h1 : p = 1
  · subst h1; simp
  · by_cases h0 : p = 0
    · subst h0
      by_cases h3 : k = 3
      · subst h3; simp
      · by_cases h4 : k = 4
        · subst h4; simp
        · simp [h3, h4]
    · simp [h0, h1]
theorem cs_inj_of {sh : cs_Sh} {adr : Nat → Nat} {ac : FieldType → ClassId} {σ : cs_S} {A : Nat → Prop} (h : va_D A (cs_wl sh adr ac σ)) : ∀ i j, i < sh.length → j < sh.length → adr i = adr j → i = j := fun i j hi hj e => h.1 i j _ _ (cs_wl_at (List.getElem?_eq_getElem hi)) (cs_wl_at (List.getElem?_eq_getElem hj)) e
theorem cs_mem_of {sh : cs_Sh} {adr : Nat → Nat} {ac : FieldType → ClassId} {σ : cs_S} {A : Nat → Prop} (h : va_D A (cs_wl sh adr ac σ)) : ∀ i, i < sh.length → A (adr i) := fun i hi => h.2 i _ (cs_wl_at (List.getElem?_eq_getElem hi))
abbrev wP (ac : FieldType → ClassId) (qp ql qr : Nat) (z : Int) : va_W := [(qp, .inr (2, [.ref ql, .ref qr, .int (cs_q 0), .int (cs_q z), .int (cs_q z)])), (ql, .inl (ac .int, 192, .inl (fun _ => cs_q 0))), (qr, .inl (ac .int, 192, .inl (fun _ => cs_q 0)))]
theorem k_linkS : Cond.methodLink RX9 62 yX2_start ∈ cs_gt := cs_gt_of 343 (by decide +kernel) (by decide +kernel)
theorem z_wl (sh : cs_Sh) (adr : Nat → Nat) (ac : FieldType → ClassId) (σ : cs_S) : cs_wl sh adr ac σ = sh.mapIdx (fun p e => (adr p, cs_ce adr ac (σ p) e)) := rfl
theorem U_start {cc : ByteArray} {nL d mc ms : Nat} {Y : cs_Y} {ls : Array Slot} {pc : Nat} {ws wr : va_W} {cells slots : Nat} {qp ql qr : Nat} (hY : cs_OkI RX9 cc nL d mc ms Y) (hn : ls.size = nL) (hd' : 2 ≤ d) (isC isR : List Nat) (hC1 : isC.filterMap (fun i => ws[i]?) = wP (cs_ac Y) qp ql qr 0) (hC2 : isC.map (fun i => ws[i]?) = (wP (cs_ac Y) qp ql qr 0).map some) (hCn : va_nd isC = true) (hR : isR.map (fun i => ws[i]?) = wr.map some) (hnd : va_nd isR = true) (hdis : ∀ i ∈ isR, i ∉ isC) (hcs : cells ≤ mc ∧ slots ≤ ms) (hd : decode cc pc = .ok (.invokevirtual 62, 3)) (kk : cs_U Y ls (pc + 3) [] (wr ++ wP (cs_ac Y) qp ql qr 8) cells slots) : cs_U Y ls pc [.int (cs_q 8), .int (cs_q 8), .ref qp] ws cells slots := by
  obtain ⟨⟨p, l, e, R⟩, ⟨s, m, args, below⟩, ⟨meth, c⟩, Q, ⟨adr, ac, D, A⟩⟩ := Y
  obtain ⟨⟨hx, hb, hml, ho⟩, ⟨ht, hN, hK⟩, ⟨hR1, hR2, hR3, hR4⟩, hA, hro⟩ := hY
  intro H locs h1 h2 h3
  have hPc : va_P D cs_cl (wP ac qp ql qr 0) H := h1.sub isC hC1
  have hDc : va_D A (wP ac qp ql qr 0) := h2.sub isC hCn hC2
  have hFc := va_free (wc := wP ac qp ql qr 0) h2 h3 hA isC hC2
  obtain ⟨ad, had⟩ : ∃ ad : Nat → Nat, ad = fun k => if k = 0 then qp else if k = 1 then ql else if k = 2 then qr else adr k := ⟨_, rfl⟩
  have e0 : cs_wl sh1 ad ac z0 = wP ac qp ql qr 0 := by subst had; rfl
  have e8 : cs_wl sh1 ad ac z8 = wP ac qp ql qr 8 := by subst had; rfl
  have hA1 : ∀ q, cs_A 3 ad H.size q ↔ va_A (wP ac qp ql qr 0) H.size q := fun q => by rw [← e0]; exact (cs_wl_A (sh := sh1) (adr := ad) (ac := ac) (σ := z0) (sz := H.size) (q := q)).symm
  have hi : ∀ i j, i < sh1.length → j < sh1.length → ad i = ad j → i = j := cs_inj_of (ac := ac) (σ := z0) (A := A) (by rw [e0]; exact hDc)
  have hro2 : cs_RO ad A s s.heap := by
    intro r hr
    have h5 : ad r.2.1 = adr r.2.1 := by
      subst had
      rcases List.mem_cons.mp hr with rfl | hr
      · rfl
      rcases List.mem_cons.mp hr with rfl | hr
      · rfl
      rcases List.mem_cons.mp hr with rfl | hr
      · rfl
      rcases List.mem_cons.mp hr with rfl | hr
      · rfl
      cases hr
    have h6 := hro r hr
    rw [← h5] at h6
    exact h6
  have hM := (c_startI [8, 8] z0 none z8 (List.forall_mem_cons.mpr ⟨⟨by decide, by decide⟩, List.forall_mem_cons.mpr ⟨⟨by decide, by decide⟩, fun _ h => absurd h List.not_mem_nil⟩⟩) (fun _ _ => show cs_InR 0 from ⟨by decide, by decide⟩) f_startIe).2.2 l ad ac D H.size
  have hpre : ∀ U : State, U.heap = H → s.WarmedH U.vm → cs_Pre m_startI ad ac D z0 H.size U := fun U hU hW => ⟨by rw [hU], by rw [hU]; show va_P D cs_cl (cs_wl sh1 ad ac z0) H; rw [e0]; exact hPc, va_K.moved hW.alike hK, cs_NW_warm hW hN, by rw [hU]; exact cs_RO_move hW.alike hro2 h3 (fun q h => hFc q ((hA1 q).mp h)), hi⟩
  have had0 : ad 0 = qp := by subst had; rfl
  have hstk : ([.int (cs_q 8), .int (cs_q 8), .ref qp] : List Value) = [.int (cs_q 8), .int (cs_q 8)].reverse ++ .ref (ad 0) :: [] := by rw [had0]; rfl
  rw [hstk]
  refine va_callv (va_runV (As := [.int (cs_q 8), .int (cs_q 8)]) (rest := []) ⟨hx, hb, hml, ho, ht⟩ hM ⟨callB_of (n := 2) ht (cs_goodIn k_code_X2_start) rfl rfl rfl (ht _ k_ini_X2) (ht _ k_linkS) ⟨by decide +kernel, by decide +kernel, by decide +kernel⟩ ⟨by show 1 + 1 ≤ R.frames; omega, by show 8 + (3 + 11) + 39 * 1 ≤ R.locals; omega⟩, ht _ k_inst_X2_start, ht _ k_sel_X2_start⟩ ⟨cs_blind, by rw [had0]; exact va_recv hK hPc cd_X2.1 (q0 := 0) rfl, fun U hU hW => ⟨rfl, hpre U hU hW⟩⟩ rfl rfl hn rfl (lv_room (Nat.le_of_ble_eq_true rfl)) hd ⟨by omega, by omega⟩) h3 (fun q _ h => hFc q ((hA1 q).mp h)) (fun q h => hFc q ((hA1 q).mp h)) (fun u t H1 locs1 g1 _ _ g4 _ g6 g7 => ?_)
  have g4' : va_P D cs_cl (cs_wl sh1 ad ac z8) t.heap := g4
  rw [e8, g1] at g4'
  have hD1 : va_D (va_A (wP ac qp ql qr 0) H.size) (wP ac qp ql qr 8) := by
    rw [← e8]
    exact cs_wl_D hi (fun i hi' => (hA1 _).mp (Or.inl ⟨i, hi', rfl⟩))
  obtain ⟨hP9, hD9⟩ := va_join (wr := wr) (w1 := wP ac qp ql qr 8) h1 h2 isC isR hC2 hR hnd hdis (fun q a b => g6 q a (fun h => b ((hA1 q).mp h))) hFc g4' hD1
  exact kk H1 locs1 hP9 hD9 g7
