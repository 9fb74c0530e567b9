/-! the start: what the Statement gives, the classes, the static arrays, the first store -/
theorem dv_X9 : ∀ j, j < 7 → defaultValue (tyX9 j) = vp_V [.null, .null, .null, .null, .null, .null, .null] j := fun j hj => by
  rcases (show j = 0 ∨ j = 1 ∨ j = 2 ∨ j = 3 ∨ j = 4 ∨ j = 5 ∨ j = 6 by omega) with rfl | rfl | rfl | rfl | rfl | rfl | rfl
  · exact rfl
  · exact rfl
  · exact rfl
  · exact rfl
  · exact rfl
  · exact rfl
  · exact rfl
theorem dv_X10 : ∀ j, j < 25 → defaultValue (tyX10 j) = vp_V [.int (cs_q 0), .int (cs_q 0), .null, .null, .int (cs_q 0), .null, .null, .int (cs_q 0), .int (cs_q 0), .int (cs_q 0), .null, .null, .null, .null, .null, .null, .null, .null, .null, .int (cs_q 0), .null, .null, .null, .int (cs_q 0), .int (cs_q 0)] j := fun j hj => by
  rcases (show j = 0 ∨ j = 1 ∨ j = 2 ∨ j = 3 ∨ j = 4 ∨ j = 5 ∨ j = 6 ∨ j = 7 ∨ j = 8 ∨ j = 9 ∨ j = 10 ∨ j = 11 ∨ j = 12 ∨ j = 13 ∨ j = 14 ∨ j = 15 ∨ j = 16 ∨ j = 17 ∨ j = 18 ∨ j = 19 ∨ j = 20 ∨ j = 21 ∨ j = 22 ∨ j = 23 ∨ j = 24 by omega) with rfl | rfl | rfl | rfl | rfl | rfl | rfl | rfl | rfl | rfl | rfl | rfl | rfl | rfl | rfl | rfl | rfl | rfl | rfl | rfl | rfl | rfl | rfl | rfl | rfl
  · exact dv_int
  · exact dv_int
  · exact rfl
  · exact rfl
  · exact dv_int
  · exact rfl
  · exact rfl
  · exact dv_int
  · exact dv_int
  · exact dv_int
  · exact rfl
  · exact rfl
  · exact rfl
  · exact rfl
  · exact rfl
  · exact rfl
  · exact rfl
  · exact rfl
  · exact rfl
  · exact dv_int
  · exact rfl
  · exact rfl
  · exact rfl
  · exact dv_int
  · exact dv_int
theorem st_NW {s : State} {args : Array Value} (hts : ∀ w ∈ lw_tbl, w.before args s = true) : cs_NW s := by
  intro w hw
  have h2 : cs_isNest w = true := (List.mem_filter.mp hw).2
  refine va_Nw.of (A := args) ?_ (hts w (List.mem_filter.mp hw).1)
  cases w <;> first | rfl | cases h2
theorem kn_X9 : Cond.instantiable RX9 7 ∈ cs_gt := cs_gt_of 88 (by decide +kernel) (by decide +kernel)
theorem kn_X10 : Cond.instantiable RX10 25 ∈ cs_gt := cs_gt_of 866 (by decide +kernel) (by decide +kernel)
theorem kc_L_7 : Cond.classLink RL 7 RX9 ∈ cs_gt := cs_gt_of 87 (by decide +kernel) (by decide +kernel)
theorem kc_L_10 : Cond.classLink RL 10 RX10 ∈ cs_gt := cs_gt_of 865 (by decide +kernel) (by decide +kernel)
theorem k_code_X9_init : Cond.code yX9_init cX9_init 1 none ∈ cs_gt := cs_gt_of 91 (by decide +kernel) (by decide +kernel)
theorem k_code_X10_init : Cond.code yX10_init cX10_init 1 none ∈ cs_gt := cs_gt_of 869 (by decide +kernel) (by decide +kernel)
theorem k_inst_X9_init : Cond.instanceMethod yX9_init ∈ cs_gt := cs_gt_of 90 (by decide +kernel) (by decide +kernel)
theorem k_inst_X10_init : Cond.instanceMethod yX10_init ∈ cs_gt := cs_gt_of 868 (by decide +kernel) (by decide +kernel)
theorem li_L_9 : cs_LI RL yX9_init cX9_init 1 9 0 := ⟨k_code_X9_init, k_ini_X9, k_inst_X9_init, rfl, ⟨by decide +kernel, by decide +kernel, by decide +kernel⟩, Or.inl (cs_gt_of 89 (by decide +kernel) (by decide +kernel))⟩
theorem li_L_12 : cs_LI RL yX10_init cX10_init 1 12 0 := ⟨k_code_X10_init, k_ini_X10, k_inst_X10_init, rfl, ⟨by decide +kernel, by decide +kernel, by decide +kernel⟩, Or.inl (cs_gt_of 867 (by decide +kernel) (by decide +kernel))⟩
theorem st_cl {s : State} {args : Array Value} (ht : ∀ w ∈ cs_gt, w.before args s = true) (k : Nat) (q : vw_C) (hq : cs_cl[k]? = some q) : ∃ (cC : ClassId) (iS : Nat → Nat), u_Kn s q.1 q.2.1 q.2.2 cC iS := by
  have hk : k < 11 := (List.getElem?_eq_some_iff.mp hq).1
  rcases (show k = 0 ∨ k = 1 ∨ k = 2 ∨ k = 3 ∨ k = 4 ∨ k = 5 ∨ k = 6 ∨ k = 7 ∨ k = 8 ∨ k = 9 ∨ k = 10 by omega) with rfl | rfl | rfl | rfl | rfl | rfl | rfl | rfl | rfl | rfl | rfl
  · obtain rfl := Option.some.inj hq; exact u_known ht cd_X0.2 (ht _ kn_X0)
  · obtain rfl := Option.some.inj hq; exact u_known ht cd_X1.2 (ht _ kn_X1)
  · obtain rfl := Option.some.inj hq; exact u_known ht cd_X2.2 (ht _ kn_X2)
  · obtain rfl := Option.some.inj hq; exact u_known ht cd_X3.2 (ht _ kn_X3)
  · obtain rfl := Option.some.inj hq; exact u_known ht cd_X4.2 (ht _ kn_X4)
  · obtain rfl := Option.some.inj hq; exact u_known ht cd_X5.2 (ht _ kn_X5)
  · obtain rfl := Option.some.inj hq; exact u_known ht cd_X6.2 (ht _ kn_X6)
  · obtain rfl := Option.some.inj hq; exact u_known ht cd_X7.2 (ht _ kn_X7)
  · obtain rfl := Option.some.inj hq; exact u_known ht cd_X8.2 (ht _ kn_X8)
  · obtain rfl := Option.some.inj hq; exact u_known ht cd_X9.2 (ht _ kn_X9)
  · obtain rfl := Option.some.inj hq; exact u_known ht cd_X10.2 (ht _ kn_X10)
theorem st_ar {s : State} {args : Array Value} {ty : FieldType} (h : (Cond.arrayClass ty).before args s = true) : ∃ c : ClassId, ArrOfT s c ty ∧ s.vm.findClass ("[" ++ ty.toString) = some c := by
  obtain ⟨c, k, comp, h1, h2, h3⟩ := Cond.arrayClass_spec h
  exact ⟨c, fun n z => ⟨fun k h => (by cases h), k, h2, comp, h3⟩, h1⟩
theorem st_K {s : State} {args : Array Value} (ht : ∀ w ∈ cs_gt, w.before args s = true) : ∃ (D : va_G) (ac : FieldType → ClassId), va_K D cs_cl (cs_tys ac) s := by
  have h2 : ∀ k : Nat, ∃ c : ClassId × (Nat → Nat), ∀ q : vw_C, cs_cl[k]? = some q → u_Kn s q.1 q.2.1 q.2.2 c.1 c.2 := fun k => by
    cases hc : cs_cl[k]? with
    | none => exact ⟨(0, fun _ => 0), fun q h => by cases h⟩
    | some q =>
      obtain ⟨a, b, h⟩ := st_cl ht k q hc
      exact ⟨(a, b), fun q' h' => by cases h'; exact h⟩
  obtain ⟨c1, a1, b1⟩ := st_ar (ht _ k_ai)
  obtain ⟨c2, a2, b2⟩ := st_ar (ht _ k_az)
  obtain ⟨c3, a3, b3⟩ := st_ar (ht _ k_ac)
  refine ⟨(fun k => (Classical.choose (h2 k)).1, fun k => (Classical.choose (h2 k)).2), fun ty => match ty with | .boolean => c2 | .char => c3 | _ => c1, fun c q hq => Classical.choose_spec (h2 c) q hq, fun k q hk => ?_⟩
  have hl : k < 3 := (List.getElem?_eq_some_iff.mp hk).1
  rcases (show k = 0 ∨ k = 1 ∨ k = 2 by omega) with rfl | rfl | rfl
  · obtain rfl := Option.some.inj hk; exact ⟨a1, b1⟩
  · obtain rfl := Option.some.inj hk; exact ⟨a2, b2⟩
  · obtain rfl := Option.some.inj hk; exact ⟨a3, b3⟩
abbrev ro_t (n : String) : Term := .static "ContourSimplifier" n "[I"
def ro_in (n : String) (f : Nat → Int) : Prop := Cond.arrayOf (ro_t n) .int ∈ flatC (Jvm.Cond.and given_1 narrow_1) ∧ Cond.eq (.length (ro_t n)) (.int (Int32.ofNat 4)) ∈ flatC (Jvm.Cond.and given_1 narrow_1) ∧ (∀ j, j < 4 → Cond.eq (.elem (ro_t n) (.int (Int32.ofNat j))) (.int (cs_q (f j))) ∈ flatC (Jvm.Cond.and given_1 narrow_1)) ∧ Cond.laysStatic "ContourSimplifier" n "[I" ∈ lw_tbl
theorem roS_1 : ro_in "STEP_X" (fun j => [1, 0, -1, 0].getD j 0) := ⟨by decide +kernel, by decide +kernel, by decide +kernel, List.mem_of_getElem? (i := 440) (by decide +kernel)⟩
theorem roS_2 : ro_in "STEP_Y" (fun j => [0, 1, 0, -1].getD j 0) := ⟨by decide +kernel, by decide +kernel, by decide +kernel, List.mem_of_getElem? (i := 442) (by decide +kernel)⟩
theorem roS_3 : ro_in "HAND_X" (fun j => [0, -1, -1, 0].getD j 0) := ⟨by decide +kernel, by decide +kernel, by decide +kernel, List.mem_of_getElem? (i := 509) (by decide +kernel)⟩
theorem roS_4 : ro_in "HAND_Y" (fun j => [0, 0, -1, -1].getD j 0) := ⟨by decide +kernel, by decide +kernel, by decide +kernel, List.mem_of_getElem? (i := 511) (by decide +kernel)⟩
theorem st_ro {s : State} {args : Array Value} (hts : ∀ w ∈ lw_tbl, w.before args s = true) (hgv : (Jvm.Cond.and given_1 narrow_1).before args s = true) {n : String} {f : Nat → Int} (hin : ro_in n f) : ∃ t : Nat, va_Z "ContourSimplifier" n "[I" (.ref t) (fun q => s.heap.size ≤ q) s s.heap ∧ va_T .int t 4 (fun j => .int (cs_q (f j))) (fun q => s.heap.size ≤ q) s s.heap ∧ t < s.heap.size ∧ ¬ s.heap.size ≤ t := by
  obtain ⟨h1, h2, h3, h4⟩ := hin
  have hs := flat_of_before _ hgv
  obtain ⟨t, e, T⟩ := va_Tof (tm := ro_t n) (ty := .int) (N := 4) (f := fun j => .int (cs_q (f j))) (A := fun q => s.heap.size ≤ q) (by decide) (hs _ h1) (va_eqt (hs _ h2)) (fun j hj => va_eqt (hs _ (h3 j hj))) (fun a h => Nat.not_le.mpr h)
  exact ⟨t, va_Zof (hts _ h4) (hts _ (List.mem_of_getElem? (i := 74) (by decide +kernel))) e (fun a h => Nat.not_le.mpr h), T, Nat.not_le.mp T.out, T.out⟩
theorem st_RO {s : State} {args : Array Value} (hts : ∀ w ∈ lw_tbl, w.before args s = true) (hgv : (Jvm.Cond.and given_1 narrow_1).before args s = true) : ∃ t0 t1 t2 t3 : Nat, ∀ adr : Nat → Nat, adr 100 = t0 → adr 101 = t1 → adr 102 = t2 → adr 103 = t3 → cs_RO adr (fun q => s.heap.size ≤ q) s s.heap := by
  obtain ⟨t0, g0⟩ := st_ro hts hgv roS_1
  obtain ⟨t1, g1⟩ := st_ro hts hgv roS_2
  obtain ⟨t2, g2⟩ := st_ro hts hgv roS_3
  obtain ⟨t3, g3⟩ := st_ro hts hgv roS_4
  refine ⟨t0, t1, t2, t3, fun adr h0 h1 h2 h3 r hr => ?_⟩
  subst h0; subst h1; subst h2; subst h3
  rcases List.mem_cons.mp hr with rfl | hr
  · exact g0
  rcases List.mem_cons.mp hr with rfl | hr
  · exact g1
  rcases List.mem_cons.mp hr with rfl | hr
  · exact g2
  rcases List.mem_cons.mp hr with rfl | hr
  · exact g3
  cases hr
/-! the first store -/
def zJ : cs_S := fun p => if p = 1 then (fun k => if k = 3 ∨ k = 4 then 8 else 0) else if p = 10 then (fun k => if k = 0 ∨ k = 1 then 8 else 0) else fun _ => 0
theorem zJ_in : cs_InS zJ := by
  intro p k
  unfold zJ
  by_cases h1 : p = 1
  · rw [if_pos h1]
    show cs_InR (if k = 3 ∨ k = 4 then 8 else 0)
    split <;> omega
  · rw [if_neg h1]
    by_cases h2 : p = 10
    · rw [if_pos h2]
      show cs_InR (if k = 0 ∨ k = 1 then 8 else 0)
      split <;> omega
    · rw [if_neg h2]
      show cs_InR 0
      omega
theorem zJ_JJ : JJ zJ := JJ_emp ⟨⟨⟨by decide, by decide, by decide, by decide⟩, rfl, rfl, rfl⟩, fun k _ => ⟨Int.le_refl 0, show (0 : Int) ≤ 9 by decide⟩, fun k _ _ => rfl⟩ ⟨⟨by decide, by decide⟩, rfl, rfl, fun k => ⟨Int.le_refl 0, show (0 : Int) < 65536 by decide⟩⟩ rfl rfl rfl rfl (fun k _ => rfl) rfl rfl rfl rfl rfl rfl
def adrJ (qa qb : Nat) (u v : Nat → Nat) (t : List Nat) : Nat → Nat := fun k => if k < 100 then [qa, u 23, u 0, u 2, u 4, u 15, u 17, u 21, u 18, u 22, qb, u 24, u 25, u 1, u 3, u 5, u 6, u 7, u 8, u 9, u 10, u 11, u 12, u 13, u 14, u 16, u 20, u 19, v 0, v 1, v 2, v 3, v 4, v 5, v 6, v 7, v 8, v 9, v 10, v 11, v 12, v 13, v 14, v 15].getD k 0 else t.getD (k - 100) 0
abbrev isJ : List Nat := [0, 24, 1, 3, 5, 16, 18, 22, 19, 23, 27, 25, 26, 2, 4, 6, 7, 8, 9, 10, 11, 12, 13, 14, 15, 17, 21, 20, 28, 29, 30, 31, 32, 33, 34, 35, 36, 37, 38, 39, 40, 41, 42, 43]
/-- the first world, by its cells -/
def wJ (qa qb : Nat) (ac : FieldType → ClassId) (u v : Nat → Nat) : va_W := v1_X9 qa ac u ++ v1_X10 qb ac v
theorem fs_J (qa qb : Nat) (u v : Nat → Nat) (t : List Nat) : ([.int (cs_q 8), .int (cs_q 8), .ref (v 0), .ref (v 1), .int (cs_q 0), .ref (v 2), .ref (v 3), .int (cs_q 0), .int (cs_q 0), .int (cs_q 0), .ref (v 4), .ref (v 5), .ref (v 6), .ref (v 7), .ref (v 8), .ref (v 9), .ref (v 10), .ref (v 11), .ref (v 12), .int (cs_q 0), .ref (v 13), .ref (v 14), .ref (v 15), .int (cs_q 0), .int (cs_q 0)] : List Value) = ([none, none, some 28, some 29, none, some 30, some 31, none, none, none, some 32, some 33, some 34, some 35, some 36, some 37, some 38, some 39, some 40, none, some 41, some 42, some 43, none, none] : List (Option Nat)).mapIdx (cs_fv (adrJ qa qb u v t) (zJ 10)) := by
  apply List.ext_getElem?
  intro i
  rw [List.getElem?_mapIdx]
  by_cases h : i < 25
  · rcases (show i = 0 ∨ i = 1 ∨ i = 2 ∨ i = 3 ∨ i = 4 ∨ i = 5 ∨ i = 6 ∨ i = 7 ∨ i = 8 ∨ i = 9 ∨ i = 10 ∨ i = 11 ∨ i = 12 ∨ i = 13 ∨ i = 14 ∨ i = 15 ∨ i = 16 ∨ i = 17 ∨ i = 18 ∨ i = 19 ∨ i = 20 ∨ i = 21 ∨ i = 22 ∨ i = 23 ∨ i = 24 by omega) with rfl | rfl | rfl | rfl | rfl | rfl | rfl | rfl | rfl | rfl | rfl | rfl | rfl | rfl | rfl | rfl | rfl | rfl | rfl | rfl | rfl | rfl | rfl | rfl | rfl <;> rfl
  · rw [List.getElem?_eq_none (by show 25 ≤ i; omega), List.getElem?_eq_none (by show 25 ≤ i; omega)]
    rfl
theorem tJ_0 (qa qb : Nat) (u v : Nat → Nat) (t : List Nat) (ac : FieldType → ClassId) : (wJ qa qb ac u v)[0]? = (cs_wl cs_sh0 (adrJ qa qb u v t) ac zJ)[0]? := Eq.trans (b := some (adrJ qa qb u v t 0, cs_ce (adrJ qa qb u v t) ac (zJ 0) (.inl (9, [some 1, some 2, some 3, some 4, some 5, some 6, some 9])))) rfl (cs_wl_at (sh := cs_sh0) (adr := adrJ qa qb u v t) (ac := ac) (σ := zJ) (p := 0) (e := .inl (9, [some 1, some 2, some 3, some 4, some 5, some 6, some 9])) rfl).symm
theorem tJ_1 (qa qb : Nat) (u v : Nat → Nat) (t : List Nat) (ac : FieldType → ClassId) : (wJ qa qb ac u v)[24]? = (cs_wl cs_sh0 (adrJ qa qb u v t) ac zJ)[1]? := Eq.trans (b := some (adrJ qa qb u v t 1, cs_ce (adrJ qa qb u v t) ac (zJ 1) (.inl (2, [some 11, some 12, none, none, none])))) rfl (cs_wl_at (sh := cs_sh0) (adr := adrJ qa qb u v t) (ac := ac) (σ := zJ) (p := 1) (e := .inl (2, [some 11, some 12, none, none, none])) rfl).symm
theorem tJ_2 (qa qb : Nat) (u v : Nat → Nat) (t : List Nat) (ac : FieldType → ClassId) : (wJ qa qb ac u v)[1]? = (cs_wl cs_sh0 (adrJ qa qb u v t) ac zJ)[2]? := Eq.trans (b := some (adrJ qa qb u v t 2, cs_ce (adrJ qa qb u v t) ac (zJ 2) (.inl (7, [some 13, none])))) rfl (cs_wl_at (sh := cs_sh0) (adr := adrJ qa qb u v t) (ac := ac) (σ := zJ) (p := 2) (e := .inl (7, [some 13, none])) rfl).symm
theorem tJ_3 (qa qb : Nat) (u v : Nat → Nat) (t : List Nat) (ac : FieldType → ClassId) : (wJ qa qb ac u v)[3]? = (cs_wl cs_sh0 (adrJ qa qb u v t) ac zJ)[3]? := Eq.trans (b := some (adrJ qa qb u v t 3, cs_ce (adrJ qa qb u v t) ac (zJ 3) (.inl (4, [some 14, none, none, none, none, none])))) rfl (cs_wl_at (sh := cs_sh0) (adr := adrJ qa qb u v t) (ac := ac) (σ := zJ) (p := 3) (e := .inl (4, [some 14, none, none, none, none, none])) rfl).symm
theorem tJ_4 (qa qb : Nat) (u v : Nat → Nat) (t : List Nat) (ac : FieldType → ClassId) : (wJ qa qb ac u v)[5]? = (cs_wl cs_sh0 (adrJ qa qb u v t) ac zJ)[4]? := Eq.trans (b := some (adrJ qa qb u v t 4, cs_ce (adrJ qa qb u v t) ac (zJ 4) (.inl (1, [none, none, none, none, some 15, some 16, some 17, some 18, some 19, some 20, some 21, some 22, some 23, some 24])))) rfl (cs_wl_at (sh := cs_sh0) (adr := adrJ qa qb u v t) (ac := ac) (σ := zJ) (p := 4) (e := .inl (1, [none, none, none, none, some 15, some 16, some 17, some 18, some 19, some 20, some 21, some 22, some 23, some 24])) rfl).symm
theorem tJ_5 (qa qb : Nat) (u v : Nat → Nat) (t : List Nat) (ac : FieldType → ClassId) : (wJ qa qb ac u v)[16]? = (cs_wl cs_sh0 (adrJ qa qb u v t) ac zJ)[5]? := Eq.trans (b := some (adrJ qa qb u v t 5, cs_ce (adrJ qa qb u v t) ac (zJ 5) (.inl (8, [some 1, some 4, some 25, none, none])))) rfl (cs_wl_at (sh := cs_sh0) (adr := adrJ qa qb u v t) (ac := ac) (σ := zJ) (p := 5) (e := .inl (8, [some 1, some 4, some 25, none, none])) rfl).symm
theorem tJ_6 (qa qb : Nat) (u v : Nat → Nat) (t : List Nat) (ac : FieldType → ClassId) : (wJ qa qb ac u v)[18]? = (cs_wl cs_sh0 (adrJ qa qb u v t) ac zJ)[6]? := Eq.trans (b := some (adrJ qa qb u v t 6, cs_ce (adrJ qa qb u v t) ac (zJ 6) (.inl (5, [some 4, some 7, some 8, some 26])))) rfl (cs_wl_at (sh := cs_sh0) (adr := adrJ qa qb u v t) (ac := ac) (σ := zJ) (p := 6) (e := .inl (5, [some 4, some 7, some 8, some 26])) rfl).symm
theorem tJ_7 (qa qb : Nat) (u v : Nat → Nat) (t : List Nat) (ac : FieldType → ClassId) : (wJ qa qb ac u v)[22]? = (cs_wl cs_sh0 (adrJ qa qb u v t) ac zJ)[7]? := Eq.trans (b := some (adrJ qa qb u v t 7, cs_ce (adrJ qa qb u v t) ac (zJ 7) (.inl (3, [some 4])))) rfl (cs_wl_at (sh := cs_sh0) (adr := adrJ qa qb u v t) (ac := ac) (σ := zJ) (p := 7) (e := .inl (3, [some 4])) rfl).symm
theorem tJ_8 (qa qb : Nat) (u v : Nat → Nat) (t : List Nat) (ac : FieldType → ClassId) : (wJ qa qb ac u v)[19]? = (cs_wl cs_sh0 (adrJ qa qb u v t) ac zJ)[8]? := Eq.trans (b := some (adrJ qa qb u v t 8, cs_ce (adrJ qa qb u v t) ac (zJ 8) (.inl (6, [some 27, none, none])))) rfl (cs_wl_at (sh := cs_sh0) (adr := adrJ qa qb u v t) (ac := ac) (σ := zJ) (p := 8) (e := .inl (6, [some 27, none, none])) rfl).symm
theorem tJ_9 (qa qb : Nat) (u v : Nat → Nat) (t : List Nat) (ac : FieldType → ClassId) : (wJ qa qb ac u v)[23]? = (cs_wl cs_sh0 (adrJ qa qb u v t) ac zJ)[9]? := Eq.trans (b := some (adrJ qa qb u v t 9, cs_ce (adrJ qa qb u v t) ac (zJ 9) (.inl (0, [some 1, some 4, none, none])))) rfl (cs_wl_at (sh := cs_sh0) (adr := adrJ qa qb u v t) (ac := ac) (σ := zJ) (p := 9) (e := .inl (0, [some 1, some 4, none, none])) rfl).symm
theorem tJ_10 (qa qb : Nat) (u v : Nat → Nat) (t : List Nat) (ac : FieldType → ClassId) : (wJ qa qb ac u v)[27]? = (cs_wl cs_sh0 (adrJ qa qb u v t) ac zJ)[10]? := by
  have h1 : (wJ qa qb ac u v)[27]? = some (qb, (Sum.inr (10, [.int (cs_q 8), .int (cs_q 8), .ref (v 0), .ref (v 1), .int (cs_q 0), .ref (v 2), .ref (v 3), .int (cs_q 0), .int (cs_q 0), .int (cs_q 0), .ref (v 4), .ref (v 5), .ref (v 6), .ref (v 7), .ref (v 8), .ref (v 9), .ref (v 10), .ref (v 11), .ref (v 12), .int (cs_q 0), .ref (v 13), .ref (v 14), .ref (v 15), .int (cs_q 0), .int (cs_q 0)]) : va_E)) := rfl
  have h2 : (cs_wl cs_sh0 (adrJ qa qb u v t) ac zJ)[10]? = some (qb, (Sum.inr (10, ([none, none, some 28, some 29, none, some 30, some 31, none, none, none, some 32, some 33, some 34, some 35, some 36, some 37, some 38, some 39, some 40, none, some 41, some 42, some 43, none, none] : List (Option Nat)).mapIdx (cs_fv (adrJ qa qb u v t) (zJ 10))) : va_E)) := cs_wl_at (sh := cs_sh0) (adr := adrJ qa qb u v t) (ac := ac) (σ := zJ) (p := 10) (e := .inl (10, [none, none, some 28, some 29, none, some 30, some 31, none, none, none, some 32, some 33, some 34, some 35, some 36, some 37, some 38, some 39, some 40, none, some 41, some 42, some 43, none, none])) rfl
  rw [h1, h2, ← fs_J]
theorem tJ_11 (qa qb : Nat) (u v : Nat → Nat) (t : List Nat) (ac : FieldType → ClassId) : (wJ qa qb ac u v)[25]? = (cs_wl cs_sh0 (adrJ qa qb u v t) ac zJ)[11]? := Eq.trans (b := some (adrJ qa qb u v t 11, cs_ce (adrJ qa qb u v t) ac (zJ 11) (.inr (.int, 192)))) rfl (cs_wl_at (sh := cs_sh0) (adr := adrJ qa qb u v t) (ac := ac) (σ := zJ) (p := 11) (e := .inr (.int, 192)) rfl).symm
theorem tJ_12 (qa qb : Nat) (u v : Nat → Nat) (t : List Nat) (ac : FieldType → ClassId) : (wJ qa qb ac u v)[26]? = (cs_wl cs_sh0 (adrJ qa qb u v t) ac zJ)[12]? := Eq.trans (b := some (adrJ qa qb u v t 12, cs_ce (adrJ qa qb u v t) ac (zJ 12) (.inr (.int, 192)))) rfl (cs_wl_at (sh := cs_sh0) (adr := adrJ qa qb u v t) (ac := ac) (σ := zJ) (p := 12) (e := .inr (.int, 192)) rfl).symm
theorem tJ_13 (qa qb : Nat) (u v : Nat → Nat) (t : List Nat) (ac : FieldType → ClassId) : (wJ qa qb ac u v)[2]? = (cs_wl cs_sh0 (adrJ qa qb u v t) ac zJ)[13]? := Eq.trans (b := some (adrJ qa qb u v t 13, cs_ce (adrJ qa qb u v t) ac (zJ 13) (.inr (.char, 200)))) rfl (cs_wl_at (sh := cs_sh0) (adr := adrJ qa qb u v t) (ac := ac) (σ := zJ) (p := 13) (e := .inr (.char, 200)) rfl).symm
theorem tJ_14 (qa qb : Nat) (u v : Nat → Nat) (t : List Nat) (ac : FieldType → ClassId) : (wJ qa qb ac u v)[4]? = (cs_wl cs_sh0 (adrJ qa qb u v t) ac zJ)[14]? := Eq.trans (b := some (adrJ qa qb u v t 14, cs_ce (adrJ qa qb u v t) ac (zJ 14) (.inr (.int, 192)))) rfl (cs_wl_at (sh := cs_sh0) (adr := adrJ qa qb u v t) (ac := ac) (σ := zJ) (p := 14) (e := .inr (.int, 192)) rfl).symm
theorem tJ_15 (qa qb : Nat) (u v : Nat → Nat) (t : List Nat) (ac : FieldType → ClassId) : (wJ qa qb ac u v)[6]? = (cs_wl cs_sh0 (adrJ qa qb u v t) ac zJ)[15]? := Eq.trans (b := some (adrJ qa qb u v t 15, cs_ce (adrJ qa qb u v t) ac (zJ 15) (.inr (.int, 111)))) rfl (cs_wl_at (sh := cs_sh0) (adr := adrJ qa qb u v t) (ac := ac) (σ := zJ) (p := 15) (e := .inr (.int, 111)) rfl).symm
theorem tJ_16 (qa qb : Nat) (u v : Nat → Nat) (t : List Nat) (ac : FieldType → ClassId) : (wJ qa qb ac u v)[7]? = (cs_wl cs_sh0 (adrJ qa qb u v t) ac zJ)[16]? := Eq.trans (b := some (adrJ qa qb u v t 16, cs_ce (adrJ qa qb u v t) ac (zJ 16) (.inr (.int, 110)))) rfl (cs_wl_at (sh := cs_sh0) (adr := adrJ qa qb u v t) (ac := ac) (σ := zJ) (p := 16) (e := .inr (.int, 110)) rfl).symm
theorem tJ_17 (qa qb : Nat) (u v : Nat → Nat) (t : List Nat) (ac : FieldType → ClassId) : (wJ qa qb ac u v)[8]? = (cs_wl cs_sh0 (adrJ qa qb u v t) ac zJ)[17]? := Eq.trans (b := some (adrJ qa qb u v t 17, cs_ce (adrJ qa qb u v t) ac (zJ 17) (.inr (.int, 110)))) rfl (cs_wl_at (sh := cs_sh0) (adr := adrJ qa qb u v t) (ac := ac) (σ := zJ) (p := 17) (e := .inr (.int, 110)) rfl).symm
theorem tJ_18 (qa qb : Nat) (u v : Nat → Nat) (t : List Nat) (ac : FieldType → ClassId) : (wJ qa qb ac u v)[9]? = (cs_wl cs_sh0 (adrJ qa qb u v t) ac zJ)[18]? := Eq.trans (b := some (adrJ qa qb u v t 18, cs_ce (adrJ qa qb u v t) ac (zJ 18) (.inr (.int, 110)))) rfl (cs_wl_at (sh := cs_sh0) (adr := adrJ qa qb u v t) (ac := ac) (σ := zJ) (p := 18) (e := .inr (.int, 110)) rfl).symm
theorem tJ_19 (qa qb : Nat) (u v : Nat → Nat) (t : List Nat) (ac : FieldType → ClassId) : (wJ qa qb ac u v)[10]? = (cs_wl cs_sh0 (adrJ qa qb u v t) ac zJ)[19]? := Eq.trans (b := some (adrJ qa qb u v t 19, cs_ce (adrJ qa qb u v t) ac (zJ 19) (.inr (.int, 110)))) rfl (cs_wl_at (sh := cs_sh0) (adr := adrJ qa qb u v t) (ac := ac) (σ := zJ) (p := 19) (e := .inr (.int, 110)) rfl).symm
theorem tJ_20 (qa qb : Nat) (u v : Nat → Nat) (t : List Nat) (ac : FieldType → ClassId) : (wJ qa qb ac u v)[11]? = (cs_wl cs_sh0 (adrJ qa qb u v t) ac zJ)[20]? := Eq.trans (b := some (adrJ qa qb u v t 20, cs_ce (adrJ qa qb u v t) ac (zJ 20) (.inr (.int, 442)))) rfl (cs_wl_at (sh := cs_sh0) (adr := adrJ qa qb u v t) (ac := ac) (σ := zJ) (p := 20) (e := .inr (.int, 442)) rfl).symm
theorem tJ_21 (qa qb : Nat) (u v : Nat → Nat) (t : List Nat) (ac : FieldType → ClassId) : (wJ qa qb ac u v)[12]? = (cs_wl cs_sh0 (adrJ qa qb u v t) ac zJ)[21]? := Eq.trans (b := some (adrJ qa qb u v t 21, cs_ce (adrJ qa qb u v t) ac (zJ 21) (.inr (.int, 442)))) rfl (cs_wl_at (sh := cs_sh0) (adr := adrJ qa qb u v t) (ac := ac) (σ := zJ) (p := 21) (e := .inr (.int, 442)) rfl).symm
theorem tJ_22 (qa qb : Nat) (u v : Nat → Nat) (t : List Nat) (ac : FieldType → ClassId) : (wJ qa qb ac u v)[13]? = (cs_wl cs_sh0 (adrJ qa qb u v t) ac zJ)[22]? := Eq.trans (b := some (adrJ qa qb u v t 22, cs_ce (adrJ qa qb u v t) ac (zJ 22) (.inr (.int, 442)))) rfl (cs_wl_at (sh := cs_sh0) (adr := adrJ qa qb u v t) (ac := ac) (σ := zJ) (p := 22) (e := .inr (.int, 442)) rfl).symm
theorem tJ_23 (qa qb : Nat) (u v : Nat → Nat) (t : List Nat) (ac : FieldType → ClassId) : (wJ qa qb ac u v)[14]? = (cs_wl cs_sh0 (adrJ qa qb u v t) ac zJ)[23]? := Eq.trans (b := some (adrJ qa qb u v t 23, cs_ce (adrJ qa qb u v t) ac (zJ 23) (.inr (.boolean, 442)))) rfl (cs_wl_at (sh := cs_sh0) (adr := adrJ qa qb u v t) (ac := ac) (σ := zJ) (p := 23) (e := .inr (.boolean, 442)) rfl).symm
theorem tJ_24 (qa qb : Nat) (u v : Nat → Nat) (t : List Nat) (ac : FieldType → ClassId) : (wJ qa qb ac u v)[15]? = (cs_wl cs_sh0 (adrJ qa qb u v t) ac zJ)[24]? := Eq.trans (b := some (adrJ qa qb u v t 24, cs_ce (adrJ qa qb u v t) ac (zJ 24) (.inr (.int, 221)))) rfl (cs_wl_at (sh := cs_sh0) (adr := adrJ qa qb u v t) (ac := ac) (σ := zJ) (p := 24) (e := .inr (.int, 221)) rfl).symm
theorem tJ_25 (qa qb : Nat) (u v : Nat → Nat) (t : List Nat) (ac : FieldType → ClassId) : (wJ qa qb ac u v)[17]? = (cs_wl cs_sh0 (adrJ qa qb u v t) ac zJ)[25]? := Eq.trans (b := some (adrJ qa qb u v t 25, cs_ce (adrJ qa qb u v t) ac (zJ 25) (.inr (.boolean, 192)))) rfl (cs_wl_at (sh := cs_sh0) (adr := adrJ qa qb u v t) (ac := ac) (σ := zJ) (p := 25) (e := .inr (.boolean, 192)) rfl).symm
theorem tJ_26 (qa qb : Nat) (u v : Nat → Nat) (t : List Nat) (ac : FieldType → ClassId) : (wJ qa qb ac u v)[21]? = (cs_wl cs_sh0 (adrJ qa qb u v t) ac zJ)[26]? := Eq.trans (b := some (adrJ qa qb u v t 26, cs_ce (adrJ qa qb u v t) ac (zJ 26) (.inr (.int, 442)))) rfl (cs_wl_at (sh := cs_sh0) (adr := adrJ qa qb u v t) (ac := ac) (σ := zJ) (p := 26) (e := .inr (.int, 442)) rfl).symm
theorem tJ_27 (qa qb : Nat) (u v : Nat → Nat) (t : List Nat) (ac : FieldType → ClassId) : (wJ qa qb ac u v)[20]? = (cs_wl cs_sh0 (adrJ qa qb u v t) ac zJ)[27]? := Eq.trans (b := some (adrJ qa qb u v t 27, cs_ce (adrJ qa qb u v t) ac (zJ 27) (.inr (.int, 600)))) rfl (cs_wl_at (sh := cs_sh0) (adr := adrJ qa qb u v t) (ac := ac) (σ := zJ) (p := 27) (e := .inr (.int, 600)) rfl).symm
theorem tJ_28 (qa qb : Nat) (u v : Nat → Nat) (t : List Nat) (ac : FieldType → ClassId) : (wJ qa qb ac u v)[28]? = (cs_wl cs_sh0 (adrJ qa qb u v t) ac zJ)[28]? := Eq.trans (b := some (adrJ qa qb u v t 28, cs_ce (adrJ qa qb u v t) ac (zJ 28) (.inr (.int, 192)))) rfl (cs_wl_at (sh := cs_sh0) (adr := adrJ qa qb u v t) (ac := ac) (σ := zJ) (p := 28) (e := .inr (.int, 192)) rfl).symm
theorem tJ_29 (qa qb : Nat) (u v : Nat → Nat) (t : List Nat) (ac : FieldType → ClassId) : (wJ qa qb ac u v)[29]? = (cs_wl cs_sh0 (adrJ qa qb u v t) ac zJ)[29]? := Eq.trans (b := some (adrJ qa qb u v t 29, cs_ce (adrJ qa qb u v t) ac (zJ 29) (.inr (.boolean, 192)))) rfl (cs_wl_at (sh := cs_sh0) (adr := adrJ qa qb u v t) (ac := ac) (σ := zJ) (p := 29) (e := .inr (.boolean, 192)) rfl).symm
theorem tJ_30 (qa qb : Nat) (u v : Nat → Nat) (t : List Nat) (ac : FieldType → ClassId) : (wJ qa qb ac u v)[30]? = (cs_wl cs_sh0 (adrJ qa qb u v t) ac zJ)[30]? := Eq.trans (b := some (adrJ qa qb u v t 30, cs_ce (adrJ qa qb u v t) ac (zJ 30) (.inr (.char, 200)))) rfl (cs_wl_at (sh := cs_sh0) (adr := adrJ qa qb u v t) (ac := ac) (σ := zJ) (p := 30) (e := .inr (.char, 200)) rfl).symm
theorem tJ_31 (qa qb : Nat) (u v : Nat → Nat) (t : List Nat) (ac : FieldType → ClassId) : (wJ qa qb ac u v)[31]? = (cs_wl cs_sh0 (adrJ qa qb u v t) ac zJ)[31]? := Eq.trans (b := some (adrJ qa qb u v t 31, cs_ce (adrJ qa qb u v t) ac (zJ 31) (.inr (.int, 192)))) rfl (cs_wl_at (sh := cs_sh0) (adr := adrJ qa qb u v t) (ac := ac) (σ := zJ) (p := 31) (e := .inr (.int, 192)) rfl).symm
theorem tJ_32 (qa qb : Nat) (u v : Nat → Nat) (t : List Nat) (ac : FieldType → ClassId) : (wJ qa qb ac u v)[32]? = (cs_wl cs_sh0 (adrJ qa qb u v t) ac zJ)[32]? := Eq.trans (b := some (adrJ qa qb u v t 32, cs_ce (adrJ qa qb u v t) ac (zJ 32) (.inr (.int, 256)))) rfl (cs_wl_at (sh := cs_sh0) (adr := adrJ qa qb u v t) (ac := ac) (σ := zJ) (p := 32) (e := .inr (.int, 256)) rfl).symm
theorem tJ_33 (qa qb : Nat) (u v : Nat → Nat) (t : List Nat) (ac : FieldType → ClassId) : (wJ qa qb ac u v)[33]? = (cs_wl cs_sh0 (adrJ qa qb u v t) ac zJ)[33]? := Eq.trans (b := some (adrJ qa qb u v t 33, cs_ce (adrJ qa qb u v t) ac (zJ 33) (.inr (.int, 256)))) rfl (cs_wl_at (sh := cs_sh0) (adr := adrJ qa qb u v t) (ac := ac) (σ := zJ) (p := 33) (e := .inr (.int, 256)) rfl).symm
theorem tJ_34 (qa qb : Nat) (u v : Nat → Nat) (t : List Nat) (ac : FieldType → ClassId) : (wJ qa qb ac u v)[34]? = (cs_wl cs_sh0 (adrJ qa qb u v t) ac zJ)[34]? := Eq.trans (b := some (adrJ qa qb u v t 34, cs_ce (adrJ qa qb u v t) ac (zJ 34) (.inr (.int, 256)))) rfl (cs_wl_at (sh := cs_sh0) (adr := adrJ qa qb u v t) (ac := ac) (σ := zJ) (p := 34) (e := .inr (.int, 256)) rfl).symm
theorem tJ_35 (qa qb : Nat) (u v : Nat → Nat) (t : List Nat) (ac : FieldType → ClassId) : (wJ qa qb ac u v)[35]? = (cs_wl cs_sh0 (adrJ qa qb u v t) ac zJ)[35]? := Eq.trans (b := some (adrJ qa qb u v t 35, cs_ce (adrJ qa qb u v t) ac (zJ 35) (.inr (.int, 256)))) rfl (cs_wl_at (sh := cs_sh0) (adr := adrJ qa qb u v t) (ac := ac) (σ := zJ) (p := 35) (e := .inr (.int, 256)) rfl).symm
theorem tJ_36 (qa qb : Nat) (u v : Nat → Nat) (t : List Nat) (ac : FieldType → ClassId) : (wJ qa qb ac u v)[36]? = (cs_wl cs_sh0 (adrJ qa qb u v t) ac zJ)[36]? := Eq.trans (b := some (adrJ qa qb u v t 36, cs_ce (adrJ qa qb u v t) ac (zJ 36) (.inr (.int, 256)))) rfl (cs_wl_at (sh := cs_sh0) (adr := adrJ qa qb u v t) (ac := ac) (σ := zJ) (p := 36) (e := .inr (.int, 256)) rfl).symm
theorem tJ_37 (qa qb : Nat) (u v : Nat → Nat) (t : List Nat) (ac : FieldType → ClassId) : (wJ qa qb ac u v)[37]? = (cs_wl cs_sh0 (adrJ qa qb u v t) ac zJ)[37]? := Eq.trans (b := some (adrJ qa qb u v t 37, cs_ce (adrJ qa qb u v t) ac (zJ 37) (.inr (.int, 512)))) rfl (cs_wl_at (sh := cs_sh0) (adr := adrJ qa qb u v t) (ac := ac) (σ := zJ) (p := 37) (e := .inr (.int, 512)) rfl).symm
theorem tJ_38 (qa qb : Nat) (u v : Nat → Nat) (t : List Nat) (ac : FieldType → ClassId) : (wJ qa qb ac u v)[38]? = (cs_wl cs_sh0 (adrJ qa qb u v t) ac zJ)[38]? := Eq.trans (b := some (adrJ qa qb u v t 38, cs_ce (adrJ qa qb u v t) ac (zJ 38) (.inr (.int, 512)))) rfl (cs_wl_at (sh := cs_sh0) (adr := adrJ qa qb u v t) (ac := ac) (σ := zJ) (p := 38) (e := .inr (.int, 512)) rfl).symm
theorem tJ_39 (qa qb : Nat) (u v : Nat → Nat) (t : List Nat) (ac : FieldType → ClassId) : (wJ qa qb ac u v)[39]? = (cs_wl cs_sh0 (adrJ qa qb u v t) ac zJ)[39]? := Eq.trans (b := some (adrJ qa qb u v t 39, cs_ce (adrJ qa qb u v t) ac (zJ 39) (.inr (.boolean, 512)))) rfl (cs_wl_at (sh := cs_sh0) (adr := adrJ qa qb u v t) (ac := ac) (σ := zJ) (p := 39) (e := .inr (.boolean, 512)) rfl).symm
theorem tJ_40 (qa qb : Nat) (u v : Nat → Nat) (t : List Nat) (ac : FieldType → ClassId) : (wJ qa qb ac u v)[40]? = (cs_wl cs_sh0 (adrJ qa qb u v t) ac zJ)[40]? := Eq.trans (b := some (adrJ qa qb u v t 40, cs_ce (adrJ qa qb u v t) ac (zJ 40) (.inr (.boolean, 221)))) rfl (cs_wl_at (sh := cs_sh0) (adr := adrJ qa qb u v t) (ac := ac) (σ := zJ) (p := 40) (e := .inr (.boolean, 221)) rfl).symm
theorem tJ_41 (qa qb : Nat) (u v : Nat → Nat) (t : List Nat) (ac : FieldType → ClassId) : (wJ qa qb ac u v)[41]? = (cs_wl cs_sh0 (adrJ qa qb u v t) ac zJ)[41]? := Eq.trans (b := some (adrJ qa qb u v t 41, cs_ce (adrJ qa qb u v t) ac (zJ 41) (.inr (.int, 600)))) rfl (cs_wl_at (sh := cs_sh0) (adr := adrJ qa qb u v t) (ac := ac) (σ := zJ) (p := 41) (e := .inr (.int, 600)) rfl).symm
theorem tJ_42 (qa qb : Nat) (u v : Nat → Nat) (t : List Nat) (ac : FieldType → ClassId) : (wJ qa qb ac u v)[42]? = (cs_wl cs_sh0 (adrJ qa qb u v t) ac zJ)[42]? := Eq.trans (b := some (adrJ qa qb u v t 42, cs_ce (adrJ qa qb u v t) ac (zJ 42) (.inr (.boolean, 512)))) rfl (cs_wl_at (sh := cs_sh0) (adr := adrJ qa qb u v t) (ac := ac) (σ := zJ) (p := 42) (e := .inr (.boolean, 512)) rfl).symm
theorem tJ_43 (qa qb : Nat) (u v : Nat → Nat) (t : List Nat) (ac : FieldType → ClassId) : (wJ qa qb ac u v)[43]? = (cs_wl cs_sh0 (adrJ qa qb u v t) ac zJ)[43]? := Eq.trans (b := some (adrJ qa qb u v t 43, cs_ce (adrJ qa qb u v t) ac (zJ 43) (.inr (.int, 2048)))) rfl (cs_wl_at (sh := cs_sh0) (adr := adrJ qa qb u v t) (ac := ac) (σ := zJ) (p := 43) (e := .inr (.int, 2048)) rfl).symm
theorem tJ (qa qb : Nat) (u v : Nat → Nat) (t : List Nat) (ac : FieldType → ClassId) (k : Nat) (q : Nat × va_E) (hq : (cs_wl cs_sh0 (adrJ qa qb u v t) ac zJ)[k]? = some q) : ∃ i, isJ[k]? = some i ∧ (wJ qa qb ac u v)[i]? = some q := by
  have hk : k < 44 := by
    have h := (List.getElem?_eq_some_iff.mp hq).1
    rw [cs_wl_len] at h
    exact h
  rcases (show k = 0 ∨ k = 1 ∨ k = 2 ∨ k = 3 ∨ k = 4 ∨ k = 5 ∨ k = 6 ∨ k = 7 ∨ k = 8 ∨ k = 9 ∨ k = 10 ∨ k = 11 ∨ k = 12 ∨ k = 13 ∨ k = 14 ∨ k = 15 ∨ k = 16 ∨ k = 17 ∨ k = 18 ∨ k = 19 ∨ k = 20 ∨ k = 21 ∨ k = 22 ∨ k = 23 ∨ k = 24 ∨ k = 25 ∨ k = 26 ∨ k = 27 ∨ k = 28 ∨ k = 29 ∨ k = 30 ∨ k = 31 ∨ k = 32 ∨ k = 33 ∨ k = 34 ∨ k = 35 ∨ k = 36 ∨ k = 37 ∨ k = 38 ∨ k = 39 ∨ k = 40 ∨ k = 41 ∨ k = 42 ∨ k = 43 by omega) with rfl | rfl | rfl | rfl | rfl | rfl | rfl | rfl | rfl | rfl | rfl | rfl | rfl | rfl | rfl | rfl | rfl | rfl | rfl | rfl | rfl | rfl | rfl | rfl | rfl | rfl | rfl | rfl | rfl | rfl | rfl | rfl | rfl | rfl | rfl | rfl | rfl | rfl | rfl | rfl | rfl | rfl | rfl | rfl
  · exact ⟨0, rfl, (tJ_0 qa qb u v t ac).trans hq⟩
  · exact ⟨24, rfl, (tJ_1 qa qb u v t ac).trans hq⟩
  · exact ⟨1, rfl, (tJ_2 qa qb u v t ac).trans hq⟩
  · exact ⟨3, rfl, (tJ_3 qa qb u v t ac).trans hq⟩
  · exact ⟨5, rfl, (tJ_4 qa qb u v t ac).trans hq⟩
  · exact ⟨16, rfl, (tJ_5 qa qb u v t ac).trans hq⟩
  · exact ⟨18, rfl, (tJ_6 qa qb u v t ac).trans hq⟩
  · exact ⟨22, rfl, (tJ_7 qa qb u v t ac).trans hq⟩
  · exact ⟨19, rfl, (tJ_8 qa qb u v t ac).trans hq⟩
  · exact ⟨23, rfl, (tJ_9 qa qb u v t ac).trans hq⟩
  · exact ⟨27, rfl, (tJ_10 qa qb u v t ac).trans hq⟩
  · exact ⟨25, rfl, (tJ_11 qa qb u v t ac).trans hq⟩
  · exact ⟨26, rfl, (tJ_12 qa qb u v t ac).trans hq⟩
  · exact ⟨2, rfl, (tJ_13 qa qb u v t ac).trans hq⟩
  · exact ⟨4, rfl, (tJ_14 qa qb u v t ac).trans hq⟩
  · exact ⟨6, rfl, (tJ_15 qa qb u v t ac).trans hq⟩
  · exact ⟨7, rfl, (tJ_16 qa qb u v t ac).trans hq⟩
  · exact ⟨8, rfl, (tJ_17 qa qb u v t ac).trans hq⟩
  · exact ⟨9, rfl, (tJ_18 qa qb u v t ac).trans hq⟩
  · exact ⟨10, rfl, (tJ_19 qa qb u v t ac).trans hq⟩
  · exact ⟨11, rfl, (tJ_20 qa qb u v t ac).trans hq⟩
  · exact ⟨12, rfl, (tJ_21 qa qb u v t ac).trans hq⟩
  · exact ⟨13, rfl, (tJ_22 qa qb u v t ac).trans hq⟩
  · exact ⟨14, rfl, (tJ_23 qa qb u v t ac).trans hq⟩
  · exact ⟨15, rfl, (tJ_24 qa qb u v t ac).trans hq⟩
  · exact ⟨17, rfl, (tJ_25 qa qb u v t ac).trans hq⟩
  · exact ⟨21, rfl, (tJ_26 qa qb u v t ac).trans hq⟩
  · exact ⟨20, rfl, (tJ_27 qa qb u v t ac).trans hq⟩
  · exact ⟨28, rfl, (tJ_28 qa qb u v t ac).trans hq⟩
  · exact ⟨29, rfl, (tJ_29 qa qb u v t ac).trans hq⟩
  · exact ⟨30, rfl, (tJ_30 qa qb u v t ac).trans hq⟩
  · exact ⟨31, rfl, (tJ_31 qa qb u v t ac).trans hq⟩
  · exact ⟨32, rfl, (tJ_32 qa qb u v t ac).trans hq⟩
  · exact ⟨33, rfl, (tJ_33 qa qb u v t ac).trans hq⟩
  · exact ⟨34, rfl, (tJ_34 qa qb u v t ac).trans hq⟩
  · exact ⟨35, rfl, (tJ_35 qa qb u v t ac).trans hq⟩
  · exact ⟨36, rfl, (tJ_36 qa qb u v t ac).trans hq⟩
  · exact ⟨37, rfl, (tJ_37 qa qb u v t ac).trans hq⟩
  · exact ⟨38, rfl, (tJ_38 qa qb u v t ac).trans hq⟩
  · exact ⟨39, rfl, (tJ_39 qa qb u v t ac).trans hq⟩
  · exact ⟨40, rfl, (tJ_40 qa qb u v t ac).trans hq⟩
  · exact ⟨41, rfl, (tJ_41 qa qb u v t ac).trans hq⟩
  · exact ⟨42, rfl, (tJ_42 qa qb u v t ac).trans hq⟩
  · exact ⟨43, rfl, (tJ_43 qa qb u v t ac).trans hq⟩
theorem isJ_inj : ∀ a, a < 44 → ∀ b, b < 44 → isJ[a]? = isJ[b]? → a = b := by decide +kernel
theorem PJ {qa qb : Nat} {u v : Nat → Nat} {ac : FieldType → ClassId} {D : va_G} {H : Heap} (t : List Nat) (h : va_P D cs_cl (wJ qa qb ac u v) H) : va_P D cs_cl (cs_wl cs_sh0 (adrJ qa qb u v t) ac zJ) H := by
  intro k q hq
  obtain ⟨i, -, hi⟩ := tJ qa qb u v t ac k q hq
  exact h i q hi
theorem DJ {qa qb : Nat} {u v : Nat → Nat} {ac : FieldType → ClassId} {A : Nat → Prop} (t : List Nat) (h : va_D A (wJ qa qb ac u v)) : va_D A (cs_wl cs_sh0 (adrJ qa qb u v t) ac zJ) := by
  refine ⟨fun a b x y ha hb e => ?_, fun k q hq => ?_⟩
  · obtain ⟨i, i1, i2⟩ := tJ qa qb u v t ac a x ha
    obtain ⟨j, j1, j2⟩ := tJ qa qb u v t ac b y hb
    have hij := h.1 i j x y i2 j2 e
    subst hij
    exact isJ_inj a (List.getElem?_eq_some_iff.mp i1).1 b (List.getElem?_eq_some_iff.mp j1).1 (i1.trans j1.symm)
  · obtain ⟨i, -, hi⟩ := tJ qa qb u v t ac k q hq
    exact h.2 i q hi
