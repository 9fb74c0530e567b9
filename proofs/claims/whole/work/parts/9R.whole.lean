theorem law_end {p : Program} {l : Launch} {e : Env} {s : State} {m : MethodId} {below : List Frame} {meth : Method} {c : Code} {b : Nat} {adr : Nat → Nat} {ac : FieldType → ClassId} {D : va_G} (hx : p.tables.exec = Jvm.exec) (hb : c.code = code) (hr : meth.sig.returnType = ret) (hlocks : meth.locks = false) (L : cs_L) (σ : cs_S) : cs_V m_law ((p, l, e, room_1), (s, m, #[Value.ref b], below), (meth, c), (44, 11599, lw_Z below #[Value.ref b] s), (adr, ac, D, fun q => s.heap.size ≤ q)) 909 L [.inl 1] σ := by
  intro ls H locs h1 h2 h3
  have h := lw_ret (p := p) (l := l) (e := e) (s := s) (m := m) (below := below) (meth := meth) (c := c) (b := b) (H := H) (ls := ls) hx hb hr hlocks dL_law_909
  have h1' : cs_q 1 = 1 := by decide +kernel
  rw [← h1'] at h
  exact va_forget h3.2.2 h
/-- from the entry, for every script of at most 3072 ints, the law comes to its end with true -/
theorem whole_start {p : Program} {e : Env} {s : State} {m : MethodId} {below : List Frame} {meth : Method} {c : Code} (l : Launch) (hflags : l.flags = flags0) {b L : Nat} {xs : Nat → Int32} (hL : L ≤ 3072) (C0 : lw_At p s m meth c b L xs) : W p l e room_1 s m #[Value.ref b] below meth c s.heap [] 0 0 (lw_Z below #[Value.ref b] s) (entryFrame m ([Value.ref b] : List Value).toArray 4) := by
  obtain ⟨hx, hb, hr, hml, hown, hts, hX, hbl, hlocks, hgv⟩ := id C0
  have ht : ∀ w ∈ cs_gt, w.before #[Value.ref b] s = true := fun w hw => hts w (List.mem_filter.mp hw).1
  have hN : cs_NW s := st_NW hts
  obtain ⟨D, ac, hK⟩ := st_K ht
  obtain ⟨t0, t1, t2, t3, hro⟩ := st_RO hts hgv
  have hY : cs_OkI RL cL_law 4 10 44 11599 ((p, l, e, room_1), (s, m, #[Value.ref b], below), (meth, c), lw_Z below #[Value.ref b] s, ((fun k => [t0, t1, t2, t3].getD (k - 100) 0), ac, D, fun q => s.heap.size ≤ q)) := ⟨⟨hx, hb, hml, hown⟩, ⟨ht, hN, hK⟩, ⟨by decide, by decide, by decide, by decide⟩, fun _ h => h, hro _ rfl rfl rfl rfl⟩
  rw [lg_entry_eq]
  have hl := lv_entry ([.ref b]) (n := 4) (Nat.le_of_ble_eq_true rfl)
  generalize (lg_sl ([.ref b]) ++ List.replicate (4 - (lg_sl ([.ref b])).length) Slot.unset).toArray = ls at hl ⊢
  have hl : lv_has ls 4 [(0, .ref b)] := hl
  suffices hU : cs_U ((p, l, e, room_1), (s, m, #[Value.ref b], below), (meth, c), lw_Z below #[Value.ref b] s, ((fun k => [t0, t1, t2, t3].getD (k - 100) 0), ac, D, fun q => s.heap.size ≤ q)) ls 0 [] [] 0 0 from hU s.heap [] (fun k q h => by simp at h) ⟨fun i j p q h => by simp at h, fun k q h => by simp at h⟩ va_S.rf
  refine U_new (ty := tyX9) hY cd_X9 tyX9_ok kc_L_7 kn_X9 k_ini_X9 dv_X9 (by decide) (by decide) dL_law_0 (fun qa => ?_)
  refine U_eq (ws' := v0_X9 qa) rfl ?_
  refine U_dup hY dL_law_3 ?_
  refine U_init (y := yX9_init) (cc' := cX9_init) (As := []) (a := qa) (st := [.ref qa]) (w0 := v0_X9 qa) (wr := []) (w1 := v1_X9 qa) hY (i_X9 qa) hl.1 li_L_9 rfl (by decide) (by decide) [0] [] rfl rfl rfl rfl rfl (by decide) ⟨by decide, by decide⟩ (Nat.le_of_ble_eq_true rfl) dL_law_4 (fun u => ?_)
  refine U_eq (ws' := v1_X9 qa ac u) rfl ?_
  intro H locs h1 h2 h3
  refine lv_astore_n (lv' := [(1, .ref qa), (0, .ref b)]) hx hb dL_law_7 rfl hl (by decide) rfl (fun ls hl => ?_)
  suffices hU : cs_U ((p, l, e, room_1), (s, m, #[Value.ref b], below), (meth, c), lw_Z below #[Value.ref b] s, ((fun k => [t0, t1, t2, t3].getD (k - 100) 0), ac, D, fun q => s.heap.size ≤ q)) ls 8 [] (v1_X9 qa ac u) 27 4601 from hU H locs h1 h2 h3
  refine U_new (ty := tyX10) hY cd_X10 tyX10_ok kc_L_10 kn_X10 k_ini_X10 dv_X10 (by decide) (by decide) dL_law_8 (fun qb => ?_)
  refine U_eq (ws' := v1_X9 qa ac u ++ v0_X10 qb) rfl ?_
  refine U_dup hY dL_law_11 ?_
  refine U_init (y := yX10_init) (cc' := cX10_init) (As := []) (a := qb) (st := [.ref qb]) (w0 := v0_X10 qb) (wr := v1_X9 qa ac u) (w1 := v1_X10 qb) hY (i_X10 qb) hl.1 li_L_12 rfl (by decide) (by decide) [27] (List.range 27) rfl rfl rfl rfl (by decide) (by decide) ⟨by decide, by decide⟩ (Nat.le_of_ble_eq_true rfl) dL_law_12 (fun v => ?_)
  intro H locs h1 h2 h3
  refine lv_astore_n (lv' := [(2, .ref qb), (1, .ref qa), (0, .ref b)]) hx hb dL_law_15 rfl hl (by decide) rfl (fun ls hl => ?_)
  refine lv_iconst (v := cs_q 0) hx hb dL_law_16 rfl ?_
  refine lv_istore_n (lv' := [(3, .int (cs_q 0)), (2, .ref qb), (1, .ref qa), (0, .ref b)]) hx hb dL_law_17 rfl hl (by decide) rfl (fun ls hl => ?_)
  have hPJ : va_P D cs_cl (cs_wl cs_sh0 (adrJ qa qb u v [t0, t1, t2, t3, b]) ac zJ) H := PJ [t0, t1, t2, t3, b] h1
  have hDJ : va_D (fun q => s.heap.size ≤ q) (cs_wl cs_sh0 (adrJ qa qb u v [t0, t1, t2, t3, b]) ac zJ) := DJ [t0, t1, t2, t3, b] h2
  have hXo : cs_Ok m_law ((p, l, e, room_1), (s, m, #[Value.ref b], below), (meth, c), (44, 11599, lw_Z below #[Value.ref b] s), (adrJ qa qb u v [t0, t1, t2, t3, b], ac, D, fun q => s.heap.size ≤ q)) := ⟨⟨hx, hb, hml, hr, hlocks, hown⟩, ⟨ht, hN, hK⟩, ⟨by decide, by decide, by decide, by decide⟩, cs_inj_of hDJ, cs_mem_of hDJ, fun _ h => h, hro _ rfl rfl rfl rfl⟩
  have hs : cs_Scr ((p, l, e, room_1), (s, m, #[Value.ref b], below), (meth, c), (44, 11599, lw_Z below #[Value.ref b] s), (adrJ qa qb u v [t0, t1, t2, t3, b], ac, D, fun q => s.heap.size ≤ q)) L xs := ⟨hX, hbl, Nat.not_le.mpr hbl⟩
  refine law_loop hXo hs hL (law_end hx hb hr hlocks) (L + 7) 0 zJ (Int.le_refl 0) (by omega) (by omega) zJ_in zJ_JJ ls H locs ⟨hl.1, hl.2.1, fun i z hi => ?_, fun r hr' => ?_⟩ hPJ h3
  · have hi4 : i < 4 := (List.getElem?_eq_some_iff.mp hi).1
    rcases (show i = 0 ∨ i = 1 ∨ i = 2 ∨ i = 3 by omega) with rfl | rfl | rfl | rfl
    · cases hi
    · cases hi
    · cases hi
    · have hz : (0 : Int) = z := Option.some.inj (Option.some.inj hi)
      subst hz
      exact hl.2.2 (3, .int (cs_q 0)) (List.mem_of_getElem? (i := 0) rfl)
  · have hr' : r ∈ [((0 : Nat), (104 : Nat)), (1, 0), (2, 10)] := hr'
    rcases List.mem_cons.mp hr' with rfl | hr'
    · exact hl.2.2 (0, .ref b) (List.mem_of_getElem? (i := 3) rfl)
    rcases List.mem_cons.mp hr' with rfl | hr'
    · exact hl.2.2 (1, .ref qa) (List.mem_of_getElem? (i := 2) rfl)
    rcases List.mem_cons.mp hr' with rfl | hr'
    · exact hl.2.2 (2, .ref qb) (List.mem_of_getElem? (i := 1) rfl)
    cases hr'
