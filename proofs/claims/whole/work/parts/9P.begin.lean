/-! the start: what the Statement gives, the classes, the static arrays, the first store -/
theorem dv_X9 : ∀ j, j < 7 → defaultValue (tyX9 j) = vp_V [.null, .null, .null, .null, .null, .null, .null] j := fun j hj => by
  rcases (show j = 0 ∨ j = 1 ∨ j = 2 ∨ j = 3 ∨ j = 4 ∨ j = 5 ∨ j = 6 by omega) with rfl | rfl | rfl | rfl | rfl | rfl | rfl
  · exact rfl
  · exact rfl
  · exact rfl
  · exact rfl
  · exact rfl
  · exact rfl
  · exact rfl
theorem dv_X10 : ∀ j, j < 25 → defaultValue (tyX10 j) = vp_V [.int (cs_q 0), .int (cs_q 0), .null, .null, .int (cs_q 0), .null, .null, .int (cs_q 0), .int (cs_q 0), .int (cs_q 0), .null, .null, .null, .null, .null, .null, .null, .null, .null, .int (cs_q 0), .null, .null, .null, .int (cs_q 0), .int (cs_q 0)] j := fun j hj => by
  rcases (show j = 0 ∨ j = 1 ∨ j = 2 ∨ j = 3 ∨ j = 4 ∨ j = 5 ∨ j = 6 ∨ j = 7 ∨ j = 8 ∨ j = 9 ∨ j = 10 ∨ j = 11 ∨ j = 12 ∨ j = 13 ∨ j = 14 ∨ j = 15 ∨ j = 16 ∨ j = 17 ∨ j = 18 ∨ j = 19 ∨ j = 20 ∨ j = 21 ∨ j = 22 ∨ j = 23 ∨ j = 24 by omega) with rfl | rfl | rfl | rfl | rfl | rfl | rfl | rfl | rfl | rfl | rfl | rfl | rfl | rfl | rfl | rfl | rfl | rfl | rfl | rfl | rfl | rfl | rfl | rfl | rfl
  · exact dv_int
  · exact dv_int
  · exact rfl
  · exact rfl
  · exact dv_int
  · exact rfl
  · exact rfl
  · exact dv_int
  · exact dv_int
  · exact dv_int
  · exact rfl
  · exact rfl
  · exact rfl
  · exact rfl
  · exact rfl
  · exact rfl
  · exact rfl
  · exact rfl
  · exact rfl
  · exact dv_int
  · exact rfl
  · exact rfl
  · exact rfl
  · exact dv_int
  · exact dv_int
theorem st_NW {s : State} {args : Array Value} (hts : ∀ w ∈ lw_tbl, w.before args s = true) : cs_NW s := by
  intro w hw
  have h2 : cs_isNest w = true := (List.mem_filter.mp hw).2
  refine va_Nw.of (A := args) ?_ (hts w (List.mem_filter.mp hw).1)
  cases w <;> first | rfl | cases h2
theorem kn_X9 : Cond.instantiable RX9 7 ∈ cs_gt := cs_gt_of 88 (by decide +kernel) (by decide +kernel)
theorem kn_X10 : Cond.instantiable RX10 25 ∈ cs_gt := cs_gt_of 866 (by decide +kernel) (by decide +kernel)
theorem kc_L_7 : Cond.classLink RL 7 RX9 ∈ cs_gt := cs_gt_of 87 (by decide +kernel) (by decide +kernel)
theorem kc_L_10 : Cond.classLink RL 10 RX10 ∈ cs_gt := cs_gt_of 865 (by decide +kernel) (by decide +kernel)
theorem k_code_X9_init : Cond.code yX9_init cX9_init 1 none ∈ cs_gt := cs_gt_of 91 (by decide +kernel) (by decide +kernel)
theorem k_code_X10_init : Cond.code yX10_init cX10_init 1 none ∈ cs_gt := cs_gt_of 869 (by decide +kernel) (by decide +kernel)
theorem k_inst_X9_init : Cond.instanceMethod yX9_init ∈ cs_gt := cs_gt_of 90 (by decide +kernel) (by decide +kernel)
theorem k_inst_X10_init : Cond.instanceMethod yX10_init ∈ cs_gt := cs_gt_of 868 (by decide +kernel) (by decide +kernel)
theorem li_L_9 : cs_LI RL yX9_init cX9_init 1 9 0 := ⟨k_code_X9_init, k_ini_X9, k_inst_X9_init, rfl, ⟨by decide +kernel, by decide +kernel, by decide +kernel⟩, Or.inl (cs_gt_of 89 (by decide +kernel) (by decide +kernel))⟩
theorem li_L_12 : cs_LI RL yX10_init cX10_init 1 12 0 := ⟨k_code_X10_init, k_ini_X10, k_inst_X10_init, rfl, ⟨by decide +kernel, by decide +kernel, by decide +kernel⟩, Or.inl (cs_gt_of 867 (by decide +kernel) (by decide +kernel))⟩
theorem st_cl {s : State} {args : Array Value} (ht : ∀ w ∈ cs_gt, w.before args s = true) (k : Nat) (q : vw_C) (hq : cs_cl[k]? = some q) : ∃ (cC : ClassId) (iS : Nat → Nat), u_Kn s q.1 q.2.1 q.2.2 cC iS := by
  have hk : k < 11 := (List.getElem?_eq_some_iff.mp hq).1
  rcases (show k = 0 ∨ k = 1 ∨ k = 2 ∨ k = 3 ∨ k = 4 ∨ k = 5 ∨ k = 6 ∨ k = 7 ∨ k = 8 ∨ k = 9 ∨ k = 10 by omega) with rfl | rfl | rfl | rfl | rfl | rfl | rfl | rfl | rfl | rfl | rfl
  · obtain rfl := Option.some.inj hq; exact u_known ht cd_X0.2 (ht _ kn_X0)
  · obtain rfl := Option.some.inj hq; exact u_known ht cd_X1.2 (ht _ kn_X1)
  · obtain rfl := Option.some.inj hq; exact u_known ht cd_X2.2 (ht _ kn_X2)
  · obtain rfl := Option.some.inj hq; exact u_known ht cd_X3.2 (ht _ kn_X3)
  · obtain rfl := Option.some.inj hq; exact u_known ht cd_X4.2 (ht _ kn_X4)
  · obtain rfl := Option.some.inj hq; exact u_known ht cd_X5.2 (ht _ kn_X5)
  · obtain rfl := Option.some.inj hq; exact u_known ht cd_X6.2 (ht _ kn_X6)
  · obtain rfl := Option.some.inj hq; exact u_known ht cd_X7.2 (ht _ kn_X7)
  · obtain rfl := Option.some.inj hq; exact u_known ht cd_X8.2 (ht _ kn_X8)
  · obtain rfl := Option.some.inj hq; exact u_known ht cd_X9.2 (ht _ kn_X9)
  · obtain rfl := Option.some.inj hq; exact u_known ht cd_X10.2 (ht _ kn_X10)
theorem st_ar {s : State} {args : Array Value} {ty : FieldType} (h : (Cond.arrayClass ty).before args s = true) : ∃ c : ClassId, ArrOfT s c ty ∧ s.vm.findClass ("[" ++ ty.toString) = some c := by
  obtain ⟨c, k, comp, h1, h2, h3⟩ := Cond.arrayClass_spec h
  exact ⟨c, fun n z => ⟨fun k h => (by cases h), k, h2, comp, h3⟩, h1⟩
theorem st_K {s : State} {args : Array Value} (ht : ∀ w ∈ cs_gt, w.before args s = true) : ∃ (D : va_G) (ac : FieldType → ClassId), va_K D cs_cl (cs_tys ac) s := by
  have h2 : ∀ k, ∃ c : ClassId × (Nat → Nat), ∀ q, cs_cl[k]? = some q → u_Kn s q.1 q.2.1 q.2.2 c.1 c.2 := fun k => by
    cases hc : cs_cl[k]? with
    | none => exact ⟨(0, fun _ => 0), fun q h => by cases h⟩
    | some q =>
      obtain ⟨a, b, h⟩ := st_cl ht k q hc
      exact ⟨(a, b), fun q' h' => by cases h'; exact h⟩
  obtain ⟨c1, a1, b1⟩ := st_ar (ht _ k_ai)
  obtain ⟨c2, a2, b2⟩ := st_ar (ht _ k_az)
  obtain ⟨c3, a3, b3⟩ := st_ar (ht _ k_ac)
  refine ⟨(fun k => (Classical.choose (h2 k)).1, fun k => (Classical.choose (h2 k)).2), fun ty => match ty with | .boolean => c2 | .char => c3 | _ => c1, fun c q hq => Classical.choose_spec (h2 c) q hq, fun k q hk => ?_⟩
  have hl : k < 3 := (List.getElem?_eq_some_iff.mp hk).1
  rcases (show k = 0 ∨ k = 1 ∨ k = 2 by omega) with rfl | rfl | rfl
  · obtain rfl := Option.some.inj hk; exact ⟨a1, b1⟩
  · obtain rfl := Option.some.inj hk; exact ⟨a2, b2⟩
  · obtain rfl := Option.some.inj hk; exact ⟨a3, b3⟩
abbrev ro_t (n : String) : Term := .static "ContourSimplifier" n "[I"
def ro_in (n : String) (f : Nat → Int) : Prop := Cond.arrayOf (ro_t n) .int ∈ flatC (Jvm.Cond.and given_1 narrow_1) ∧ Cond.eq (.length (ro_t n)) (.int (Int32.ofNat 4)) ∈ flatC (Jvm.Cond.and given_1 narrow_1) ∧ (∀ j, j < 4 → Cond.eq (.elem (ro_t n) (.int (Int32.ofNat j))) (.int (cs_q (f j))) ∈ flatC (Jvm.Cond.and given_1 narrow_1)) ∧ Cond.laysStatic "ContourSimplifier" n "[I" ∈ lw_tbl
theorem ro_1 : ro_in "STEP_X" (fun j => [1, 0, -1, 0].getD j 0) := ⟨by decide +kernel, by decide +kernel, by decide +kernel, List.mem_of_getElem? (i := 440) (by decide +kernel)⟩
theorem ro_2 : ro_in "STEP_Y" (fun j => [0, 1, 0, -1].getD j 0) := ⟨by decide +kernel, by decide +kernel, by decide +kernel, List.mem_of_getElem? (i := 442) (by decide +kernel)⟩
theorem ro_3 : ro_in "HAND_X" (fun j => [0, -1, -1, 0].getD j 0) := ⟨by decide +kernel, by decide +kernel, by decide +kernel, List.mem_of_getElem? (i := 509) (by decide +kernel)⟩
theorem ro_4 : ro_in "HAND_Y" (fun j => [0, 0, -1, -1].getD j 0) := ⟨by decide +kernel, by decide +kernel, by decide +kernel, List.mem_of_getElem? (i := 511) (by decide +kernel)⟩
theorem st_ro {s : State} {args : Array Value} (hts : ∀ w ∈ lw_tbl, w.before args s = true) (hgv : (Jvm.Cond.and given_1 narrow_1).before args s = true) {n : String} {f : Nat → Int} (hin : ro_in n f) : ∃ t : Nat, va_Z "ContourSimplifier" n "[I" (.ref t) (fun q => s.heap.size ≤ q) s s.heap ∧ va_T .int t 4 (fun j => .int (cs_q (f j))) (fun q => s.heap.size ≤ q) s s.heap ∧ t < s.heap.size ∧ ¬ s.heap.size ≤ t := by
  obtain ⟨h1, h2, h3, h4⟩ := hin
  have hs := flat_of_before _ hgv
  obtain ⟨t, e, T⟩ := va_Tof (tm := ro_t n) (ty := .int) (N := 4) (f := fun j => .int (cs_q (f j))) (A := fun q => s.heap.size ≤ q) (by decide) (hs _ h1) (va_eqt (hs _ h2)) (fun j hj => va_eqt (hs _ (h3 j hj))) (fun a h => Nat.not_le.mpr h)
  exact ⟨t, va_Zof (hts _ h4) (hts _ (List.mem_of_getElem? (i := 74) (by decide +kernel))) e (fun a h => Nat.not_le.mpr h), T, Nat.not_le.mp T.out, T.out⟩
theorem st_RO {s : State} {args : Array Value} (hts : ∀ w ∈ lw_tbl, w.before args s = true) (hgv : (Jvm.Cond.and given_1 narrow_1).before args s = true) : ∃ t0 t1 t2 t3 : Nat, ∀ adr : Nat → Nat, adr 100 = t0 → adr 101 = t1 → adr 102 = t2 → adr 103 = t3 → cs_RO adr (fun q => s.heap.size ≤ q) s s.heap := by
  obtain ⟨t0, g0⟩ := st_ro hts hgv ro_1
  obtain ⟨t1, g1⟩ := st_ro hts hgv ro_2
  obtain ⟨t2, g2⟩ := st_ro hts hgv ro_3
  obtain ⟨t3, g3⟩ := st_ro hts hgv ro_4
  refine ⟨t0, t1, t2, t3, fun adr h0 h1 h2 h3 r hr => ?_⟩
  subst h0; subst h1; subst h2; subst h3
  rcases List.mem_cons.mp hr with rfl | hr
  · exact g0
  rcases List.mem_cons.mp hr with rfl | hr
  · exact g1
  rcases List.mem_cons.mp hr with rfl | hr
  · exact g2
  rcases List.mem_cons.mp hr with rfl | hr
  · exact g3
  cases hr
/-! the first store -/
def zJ : cs_S := fun p => if p = 1 then (fun k => if k = 3 ∨ k = 4 then 8 else 0) else if p = 10 then (fun k => if k = 0 ∨ k = 1 then 8 else 0) else fun _ => 0
theorem zJ_in : cs_InS zJ := by
  intro p k
  unfold zJ
  by_cases h1 : p = 1
  · rw [if_pos h1]
    show cs_InR (if k = 3 ∨ k = 4 then 8 else 0)
    split <;> omega
  · rw [if_neg h1]
    by_cases h2 : p = 10
    · rw [if_pos h2]
      show cs_InR (if k = 0 ∨ k = 1 then 8 else 0)
      split <;> omega
    · rw [if_neg h2]
      show cs_InR 0
      omega
theorem zJ_JJ : JJ zJ := JJ_emp ⟨⟨⟨by decide, by decide, by decide, by decide⟩, rfl, rfl, rfl⟩, fun k _ => ⟨Int.le_refl 0, show (0 : Int) ≤ 9 by decide⟩, fun k _ _ => rfl⟩ ⟨⟨by decide, by decide⟩, rfl, rfl, fun k => ⟨Int.le_refl 0, show (0 : Int) < 65536 by decide⟩⟩ rfl rfl rfl rfl (fun k _ => rfl) rfl rfl rfl rfl rfl rfl
def adrJ (qa qb : Nat) (u v : Nat → Nat) (t : List Nat) : Nat → Nat := fun k => if k < 100 then [qa, u 23, u 0, u 2, u 4, u 15, u 17, u 21, u 18, u 22, qb, u 24, u 25, u 1, u 3, u 5, u 6, u 7, u 8, u 9, u 10, u 11, u 12, u 13, u 14, u 16, u 20, u 19, v 0, v 1, v 2, v 3, v 4, v 5, v 6, v 7, v 8, v 9, v 10, v 11, v 12, v 13, v 14, v 15].getD k 0 else t.getD (k - 100) 0
abbrev isJ : List Nat := [0, 24, 1, 3, 5, 16, 18, 22, 19, 23, 27, 25, 26, 2, 4, 6, 7, 8, 9, 10, 11, 12, 13, 14, 15, 17, 21, 20, 28, 29, 30, 31, 32, 33, 34, 35, 36, 37, 38, 39, 40, 41, 42, 43]
set_option maxRecDepth 100000 in
theorem wl_J1 (qa qb : Nat) (u v : Nat → Nat) (t : List Nat) (ac : FieldType → ClassId) : isJ.filterMap (fun i => (v1_X9 qa ac u ++ v1_X10 qb ac v)[i]?) = cs_wl cs_sh0 (adrJ qa qb u v t) ac zJ := rfl
set_option maxRecDepth 100000 in
theorem wl_J2 (qa qb : Nat) (u v : Nat → Nat) (t : List Nat) (ac : FieldType → ClassId) : isJ.map (fun i => (v1_X9 qa ac u ++ v1_X10 qb ac v)[i]?) = (cs_wl cs_sh0 (adrJ qa qb u v t) ac zJ).map some := rfl
