/-! the law's loop: rows of the script, links, cases, the switch, the loop -/
abbrev m_law : cs_M := ((RL, yL_law, cL_law, 4, some .boolean), (10, [some 104, some 0, some 10], cs_sh0))
def cs_Scr (X : cs_X) (len : Nat) (xs : Nat → Int32) : Prop := match X with
  | (_, (s, _, _, _), _, _, (adr, _, _, A)) => va_X (adr 104) len xs s s.heap ∧ adr 104 < s.heap.size ∧ ¬ A (adr 104)
section LW
variable {M : cs_M} {X : cs_X} {pc : Nat} {L : cs_L} {st : List (Int ⊕ Nat)} {σ : cs_S}
theorem cs_V_sld {len : Nat} {xs : Nat → Int32} {i : Int} (hX : cs_Ok M X) (hs : cs_Scr X len xs) (h0 : 0 ≤ i) (h1' : i < len) (hr : cs_InR i) (hd : decode (cs_cc M) pc = .ok (.iaload, 1)) (kk : cs_V M X (pc + 1) L (.inl (xs i.toNat).toInt :: st) σ) : cs_V M X pc L (.inl i :: .inr 104 :: st) σ := by
  obtain ⟨⟨p0, l, e, R⟩, ⟨s, m, args, below⟩, ⟨meth, c⟩, ⟨cells, slots, Q⟩, ⟨adr, ac, D, A⟩⟩ := X
  obtain ⟨⟨hx, hb, -⟩, -⟩ := hX
  obtain ⟨g2, g3, g4⟩ := hs
  intro ls H locs h1 h2 h3
  have h := kk ls H locs h1 h2 h3
  simp only [List.map_cons, cs_cv, cs_qS] at h
  refine va_sld hx hb g2 g3 g4 h3 (cs_q_in h0 h1' hr) hd ?_
  rw [cs_q_nat h0 hr]
  exact h
theorem cs_V_slen {len : Nat} {xs : Nat → Int32} (hX : cs_Ok M X) (hs : cs_Scr X len xs) (hn : len < 2147483648) (hd : decode (cs_cc M) pc = .ok (.arraylength, 1)) (kk : cs_V M X (pc + 1) L (.inl (len : Int) :: st) σ) : cs_V M X pc L (.inr 104 :: st) σ := by
  obtain ⟨⟨p0, l, e, R⟩, ⟨s, m, args, below⟩, ⟨meth, c⟩, ⟨cells, slots, Q⟩, ⟨adr, ac, D, A⟩⟩ := X
  obtain ⟨⟨hx, hb, -⟩, -⟩ := hX
  obtain ⟨g2, g3, g4⟩ := hs
  intro ls H locs h1 h2 h3
  have h2' : Int32.ofNat len = cs_q (len : Int) := Int32.toInt_inj.mp (by rw [cs_qT (by omega)]; exact nI_toInt (by omega))
  have h := kk ls H locs h1 h2 h3
  simp only [List.map_cons, cs_cv, ← h2'] at h
  exact va_slen hx hb g2 g3 g4 h3 hd h
theorem cs_V_iand {a b : Int} (hX : cs_Ok M X) (hd : decode (cs_cc M) pc = .ok (.iand, 1)) (k : cs_V M X (pc + 1) L (.inl (cs_q a &&& cs_q b).toInt :: st) σ) : cs_V M X pc L (.inl b :: .inl a :: st) σ := by
  obtain ⟨⟨p, l, e, R⟩, ⟨s, m, args, below⟩, ⟨meth, c⟩, ⟨cells, slots, Q⟩, ⟨adr, ac, D, A⟩⟩ := X
  obtain ⟨⟨hx, hb, -⟩, -⟩ := hX
  intro ls H locs h1 h2 h3
  have h := k ls H locs h1 h2 h3
  simp only [List.map_cons, cs_cv, cs_qS] at h
  exact lv_iand hx hb hd h
def chr (a : Int) : Int := (((cs_q a).toUInt32 % 65536).toInt32).toInt
theorem chr_rng (a : Int) : 0 ≤ chr a ∧ chr a < 65536 := by
  unfold chr
  generalize (cs_q a).toUInt32 = u
  have h : (u % 65536).toNat < 65536 := by rw [UInt32.toNat_mod]; exact Nat.mod_lt _ (by decide)
  generalize u % 65536 = w at h
  have h2 : w.toInt32.toInt = (w.toNat : Int) := by
    show w.toBitVec.toInt = _
    rw [BitVec.toInt_eq_toNat_of_lt (by show 2 * w.toNat < 2 ^ 32; omega)]
    rfl
  omega
theorem cs_V_i2c {a : Int} (hX : cs_Ok M X) (hd : decode (cs_cc M) pc = .ok (.i2c, 1)) (k : cs_V M X (pc + 1) L (.inl (chr a) :: st) σ) : cs_V M X pc L (.inl a :: st) σ := by
  obtain ⟨⟨p, l, e, R⟩, ⟨s, m, args, below⟩, ⟨meth, c⟩, ⟨cells, slots, Q⟩, ⟨adr, ac, D, A⟩⟩ := X
  obtain ⟨⟨hx, hb, -⟩, -⟩ := hX
  intro ls H locs h1 h2 h3
  have h := k ls H locs h1 h2 h3
  simp only [List.map_cons, cs_cv, chr, cs_qS] at h
  exact lv_i2c hx hb hd rfl h
abbrev lL (i : Int) : cs_L := [none, none, none, some i]
theorem law_arg {len : Nat} {xs : Nat → Int32} {i j : Int} (hX : cs_Ok m_law X) (hs : cs_Scr X len xs) (hi : 0 ≤ i ∧ i + 6 ≤ len ∧ len ≤ 3072) (hj : 0 ≤ j ∧ j ≤ 5) (d0 : decode cL_law pc = .ok (.aload_n 0, 1)) (d1 : decode cL_law (pc + 1) = .ok (.iload_n 3, 1)) (d2 : decode cL_law (pc + 2) = .ok (.iconst j, 1)) (d3 : decode cL_law (pc + 3) = .ok (.iadd, 1)) (d4 : decode cL_law (pc + 4) = .ok (.iaload, 1)) (k : cs_V m_law X (pc + 5) (lL i) (.inl (xs (i + j).toNat).toInt :: st) σ) : cs_V m_law X pc (lL i) st σ := by
  refine cs_V_aload_n (i := 0) (q := 104) hX d0 rfl (by decide) ?_
  refine cs_V_iload_n (i := 3) (z := i) hX d1 rfl rfl ?_
  refine cs_V_iconst (z := j) hX d2 rfl ?_
  refine cs_V_iadd hX d3 ?_
  exact cs_V_sld hX hs (by omega) (by omega) (by omega) d4 k
end LW
theorem lk_law_13_X9_reset : cs_LV m_law m_X9_reset 13 := ⟨_, _, _, _, _, _, rfl, rfl, rfl, k_inst_X9_reset, k_sel_X9_reset, ⟨k_code_X9_reset, k_ini_X9, ⟨by decide +kernel, by decide +kernel, by decide +kernel⟩, ⟨by decide, by decide⟩, rfl, Or.inl (cs_gt_of 372 (by decide +kernel) (by decide +kernel))⟩⟩
theorem lk_law_17_X10_reset : cs_LV m_law m_X10_reset 17 := ⟨_, _, _, _, _, _, rfl, rfl, rfl, k_inst_X10_reset, k_sel_X10_reset, ⟨k_code_X10_reset, k_ini_X10, ⟨by decide +kernel, by decide +kernel, by decide +kernel⟩, ⟨by decide, by decide⟩, rfl, Or.inl (cs_gt_of 947 (by decide +kernel) (by decide +kernel))⟩⟩
theorem lk_law_18_X9_set : cs_LV m_law m_X9_set 18 := ⟨_, _, _, _, _, _, rfl, rfl, rfl, k_inst_X9_set, k_sel_X9_set, ⟨k_code_X9_set, k_ini_X9, ⟨by decide +kernel, by decide +kernel, by decide +kernel⟩, ⟨by decide, by decide⟩, rfl, Or.inl (cs_gt_of 392 (by decide +kernel) (by decide +kernel))⟩⟩
theorem lk_law_22_X10_set : cs_LV m_law m_X10_set 22 := ⟨_, _, _, _, _, _, rfl, rfl, rfl, k_inst_X10_set, k_sel_X10_set, ⟨k_code_X10_set, k_ini_X10, ⟨by decide +kernel, by decide +kernel, by decide +kernel⟩, ⟨by decide, by decide⟩, rfl, Or.inl (cs_gt_of 958 (by decide +kernel) (by decide +kernel))⟩⟩
theorem lk_law_23_X9_fill : cs_LV m_law m_X9_fill 23 := ⟨_, _, _, _, _, _, rfl, rfl, rfl, k_inst_X9_fill, k_sel_X9_fill, ⟨k_code_X9_fill, k_ini_X9, ⟨by decide +kernel, by decide +kernel, by decide +kernel⟩, ⟨by decide, by decide⟩, rfl, Or.inl (cs_gt_of 413 (by decide +kernel) (by decide +kernel))⟩⟩
theorem lk_law_27_X10_fill : cs_LV m_law m_X10_fill 27 := ⟨_, _, _, _, _, _, rfl, rfl, rfl, k_inst_X10_fill, k_sel_X10_fill, ⟨k_code_X10_fill, k_ini_X10, ⟨by decide +kernel, by decide +kernel, by decide +kernel⟩, ⟨by decide, by decide⟩, rfl, Or.inl (cs_gt_of 969 (by decide +kernel) (by decide +kernel))⟩⟩
theorem lk_law_28_X9_flood : cs_LV m_law m_X9_flood 28 := ⟨_, _, _, _, _, _, rfl, rfl, rfl, k_inst_X9_flood, k_sel_X9_flood, ⟨k_code_X9_flood, k_ini_X9, ⟨by decide +kernel, by decide +kernel, by decide +kernel⟩, ⟨by decide, by decide⟩, rfl, Or.inl (cs_gt_of 427 (by decide +kernel) (by decide +kernel))⟩⟩
theorem lk_law_31_X10_flood : cs_LV m_law m_X10_flood 31 := ⟨_, _, _, _, _, _, rfl, rfl, rfl, k_inst_X10_flood, k_sel_X10_flood, ⟨k_code_X10_flood, k_ini_X10, ⟨by decide +kernel, by decide +kernel, by decide +kernel⟩, ⟨by decide, by decide⟩, rfl, Or.inl (cs_gt_of 974 (by decide +kernel) (by decide +kernel))⟩⟩
theorem lk_law_32_X9_level : cs_LV m_law m_X9_level 32 := ⟨_, _, _, _, _, _, rfl, rfl, rfl, k_inst_X9_level, k_sel_X9_level, ⟨k_code_X9_level, k_ini_X9, ⟨by decide +kernel, by decide +kernel, by decide +kernel⟩, ⟨by decide, by decide⟩, rfl, Or.inl (cs_gt_of 443 (by decide +kernel) (by decide +kernel))⟩⟩
theorem lk_law_35_X10_level : cs_LV m_law m_X10_level 35 := ⟨_, _, _, _, _, _, rfl, rfl, rfl, k_inst_X10_level, k_sel_X10_level, ⟨k_code_X10_level, k_ini_X10, ⟨by decide +kernel, by decide +kernel, by decide +kernel⟩, ⟨by decide, by decide⟩, rfl, Or.inl (cs_gt_of 982 (by decide +kernel) (by decide +kernel))⟩⟩
theorem lk_law_36_X9_type : cs_LV m_law m_X9_type 36 := ⟨_, _, _, _, _, _, rfl, rfl, rfl, k_inst_X9_type, k_sel_X9_type, ⟨k_code_X9_type, k_ini_X9, ⟨by decide +kernel, by decide +kernel, by decide +kernel⟩, ⟨by decide, by decide⟩, rfl, Or.inl (cs_gt_of 447 (by decide +kernel) (by decide +kernel))⟩⟩
theorem lk_law_40_X10_type : cs_LV m_law m_X10_type 40 := ⟨_, _, _, _, _, _, rfl, rfl, rfl, k_inst_X10_type, k_sel_X10_type, ⟨k_code_X10_type, k_ini_X10, ⟨by decide +kernel, by decide +kernel, by decide +kernel⟩, ⟨by decide, by decide⟩, rfl, Or.inl (cs_gt_of 986 (by decide +kernel) (by decide +kernel))⟩⟩
theorem lk_law_41_X9_clearText : cs_LV m_law m_X9_clearText 41 := ⟨_, _, _, _, _, _, rfl, rfl, rfl, k_inst_X9_clearText, k_sel_X9_clearText, ⟨k_code_X9_clearText, k_ini_X9, ⟨by decide +kernel, by decide +kernel, by decide +kernel⟩, ⟨by decide, by decide⟩, rfl, Or.inl (cs_gt_of 455 (by decide +kernel) (by decide +kernel))⟩⟩
theorem lk_law_45_X10_clearText : cs_LV m_law m_X10_clearText 45 := ⟨_, _, _, _, _, _, rfl, rfl, rfl, k_inst_X10_clearText, k_sel_X10_clearText, ⟨k_code_X10_clearText, k_ini_X10, ⟨by decide +kernel, by decide +kernel, by decide +kernel⟩, ⟨by decide, by decide⟩, rfl, Or.inl (cs_gt_of 990 (by decide +kernel) (by decide +kernel))⟩⟩
theorem lk_law_46_X9_readPicture : cs_LV m_law m_X9_readPicture 46 := ⟨_, _, _, _, _, _, rfl, rfl, rfl, k_inst_X9_readPicture, k_sel_X9_readPicture, ⟨k_code_X9_readPicture, k_ini_X9, ⟨by decide +kernel, by decide +kernel, by decide +kernel⟩, ⟨by decide, by decide⟩, rfl, Or.inl (cs_gt_of 459 (by decide +kernel) (by decide +kernel))⟩⟩
theorem lk_law_49_X10_readPicture : cs_LV m_law m_X10_readPicture 49 := ⟨_, _, _, _, _, _, rfl, rfl, rfl, k_inst_X10_readPicture, k_sel_X10_readPicture, ⟨k_code_X10_readPicture, k_ini_X10, ⟨by decide +kernel, by decide +kernel, by decide +kernel⟩, ⟨by decide, by decide⟩, rfl, Or.inl (cs_gt_of 994 (by decide +kernel) (by decide +kernel))⟩⟩
theorem lk_law_50_X9_trace : cs_LV m_law m_X9_trace 50 := ⟨_, _, _, _, _, _, rfl, rfl, rfl, k_inst_X9_trace, k_sel_X9_trace, ⟨k_code_X9_trace, k_ini_X9, ⟨by decide +kernel, by decide +kernel, by decide +kernel⟩, ⟨by decide, by decide⟩, rfl, Or.inl (cs_gt_of 496 (by decide +kernel) (by decide +kernel))⟩⟩
theorem lk_law_53_X10_trace : cs_LV m_law m_X10_trace 53 := ⟨_, _, _, _, _, _, rfl, rfl, rfl, k_inst_X10_trace, k_sel_X10_trace, ⟨k_code_X10_trace, k_ini_X10, ⟨by decide +kernel, by decide +kernel, by decide +kernel⟩, ⟨by decide, by decide⟩, rfl, Or.inl (cs_gt_of 1002 (by decide +kernel) (by decide +kernel))⟩⟩
theorem lk_law_54_X9_count : cs_LV m_law m_X9_count 54 := ⟨_, _, _, _, _, _, rfl, rfl, rfl, k_inst_X9_count, k_sel_X9_count, ⟨k_code_X9_count, k_ini_X9, ⟨by decide +kernel, by decide +kernel, by decide +kernel⟩, ⟨by decide, by decide⟩, rfl, Or.inl (cs_gt_of 576 (by decide +kernel) (by decide +kernel))⟩⟩
theorem lk_law_58_X10_count : cs_LV m_law m_X10_count 58 := ⟨_, _, _, _, _, _, rfl, rfl, rfl, k_inst_X10_count, k_sel_X10_count, ⟨k_code_X10_count, k_ini_X10, ⟨by decide +kernel, by decide +kernel, by decide +kernel⟩, ⟨by decide, by decide⟩, rfl, Or.inl (cs_gt_of 1181 (by decide +kernel) (by decide +kernel))⟩⟩
theorem lk_law_59_X9_contour : cs_LV m_law m_X9_contour 59 := ⟨_, _, _, _, _, _, rfl, rfl, rfl, k_inst_X9_contour, k_sel_X9_contour, ⟨k_code_X9_contour, k_ini_X9, ⟨by decide +kernel, by decide +kernel, by decide +kernel⟩, ⟨by decide, by decide⟩, rfl, Or.inl (cs_gt_of 585 (by decide +kernel) (by decide +kernel))⟩⟩
theorem lk_law_62_X10_contour : cs_LV m_law m_X10_contour 62 := ⟨_, _, _, _, _, _, rfl, rfl, rfl, k_inst_X10_contour, k_sel_X10_contour, ⟨k_code_X10_contour, k_ini_X10, ⟨by decide +kernel, by decide +kernel, by decide +kernel⟩, ⟨by decide, by decide⟩, rfl, Or.inl (cs_gt_of 1189 (by decide +kernel) (by decide +kernel))⟩⟩
theorem lk_law_63_X9_vertex : cs_LV m_law m_X9_vertex 63 := ⟨_, _, _, _, _, _, rfl, rfl, rfl, k_inst_X9_vertex, k_sel_X9_vertex, ⟨k_code_X9_vertex, k_ini_X9, ⟨by decide +kernel, by decide +kernel, by decide +kernel⟩, ⟨by decide, by decide⟩, rfl, Or.inl (cs_gt_of 618 (by decide +kernel) (by decide +kernel))⟩⟩
theorem lk_law_66_X10_vertex : cs_LV m_law m_X10_vertex 66 := ⟨_, _, _, _, _, _, rfl, rfl, rfl, k_inst_X10_vertex, k_sel_X10_vertex, ⟨k_code_X10_vertex, k_ini_X10, ⟨by decide +kernel, by decide +kernel, by decide +kernel⟩, ⟨by decide, by decide⟩, rfl, Or.inl (cs_gt_of 1201 (by decide +kernel) (by decide +kernel))⟩⟩
theorem lk_law_67_X9_bySize : cs_LV m_law m_X9_bySize 67 := ⟨_, _, _, _, _, _, rfl, rfl, rfl, k_inst_X9_bySize, k_sel_X9_bySize, ⟨k_code_X9_bySize, k_ini_X9, ⟨by decide +kernel, by decide +kernel, by decide +kernel⟩, ⟨by decide, by decide⟩, rfl, Or.inl (cs_gt_of 709 (by decide +kernel) (by decide +kernel))⟩⟩
theorem lk_law_70_X10_bySize : cs_LV m_law m_X10_bySize 70 := ⟨_, _, _, _, _, _, rfl, rfl, rfl, k_inst_X10_bySize, k_sel_X10_bySize, ⟨k_code_X10_bySize, k_ini_X10, ⟨by decide +kernel, by decide +kernel, by decide +kernel⟩, ⟨by decide, by decide⟩, rfl, Or.inl (cs_gt_of 1205 (by decide +kernel) (by decide +kernel))⟩⟩
theorem lk_law_71_X9_chainCode : cs_LV m_law m_X9_chainCode 71 := ⟨_, _, _, _, _, _, rfl, rfl, rfl, k_inst_X9_chainCode, k_sel_X9_chainCode, ⟨k_code_X9_chainCode, k_ini_X9, ⟨by decide +kernel, by decide +kernel, by decide +kernel⟩, ⟨by decide, by decide⟩, rfl, Or.inl (cs_gt_of 722 (by decide +kernel) (by decide +kernel))⟩⟩
theorem lk_law_74_X10_chainCode : cs_LV m_law m_X10_chainCode 74 := ⟨_, _, _, _, _, _, rfl, rfl, rfl, k_inst_X10_chainCode, k_sel_X10_chainCode, ⟨k_code_X10_chainCode, k_ini_X10, ⟨by decide +kernel, by decide +kernel, by decide +kernel⟩, ⟨by decide, by decide⟩, rfl, Or.inl (cs_gt_of 1209 (by decide +kernel) (by decide +kernel))⟩⟩
theorem lk_law_75_X9_next : cs_LV m_law m_X9_next 75 := ⟨_, _, _, _, _, _, rfl, rfl, rfl, k_inst_X9_next, k_sel_X9_next, ⟨k_code_X9_next, k_ini_X9, ⟨by decide +kernel, by decide +kernel, by decide +kernel⟩, ⟨by decide, by decide⟩, rfl, Or.inl (cs_gt_of 746 (by decide +kernel) (by decide +kernel))⟩⟩
theorem lk_law_78_X10_next : cs_LV m_law m_X10_next 78 := ⟨_, _, _, _, _, _, rfl, rfl, rfl, k_inst_X10_next, k_sel_X10_next, ⟨k_code_X10_next, k_ini_X10, ⟨by decide +kernel, by decide +kernel, by decide +kernel⟩, ⟨by decide, by decide⟩, rfl, Or.inl (cs_gt_of 1059 (by decide +kernel) (by decide +kernel))⟩⟩
theorem lk_law_79_X9_remove : cs_LV m_law m_X9_remove 79 := ⟨_, _, _, _, _, _, rfl, rfl, rfl, k_inst_X9_remove, k_sel_X9_remove, ⟨k_code_X9_remove, k_ini_X9, ⟨by decide +kernel, by decide +kernel, by decide +kernel⟩, ⟨by decide, by decide⟩, rfl, Or.inl (cs_gt_of 756 (by decide +kernel) (by decide +kernel))⟩⟩
theorem lk_law_82_X10_remove : cs_LV m_law m_X10_remove 82 := ⟨_, _, _, _, _, _, rfl, rfl, rfl, k_inst_X10_remove, k_sel_X10_remove, ⟨k_code_X10_remove, k_ini_X10, ⟨by decide +kernel, by decide +kernel, by decide +kernel⟩, ⟨by decide, by decide⟩, rfl, Or.inl (cs_gt_of 1114 (by decide +kernel) (by decide +kernel))⟩⟩
theorem lk_law_83_X9_insert : cs_LV m_law m_X9_insert 83 := ⟨_, _, _, _, _, _, rfl, rfl, rfl, k_inst_X9_insert, k_sel_X9_insert, ⟨k_code_X9_insert, k_ini_X9, ⟨by decide +kernel, by decide +kernel, by decide +kernel⟩, ⟨by decide, by decide⟩, rfl, Or.inl (cs_gt_of 771 (by decide +kernel) (by decide +kernel))⟩⟩
theorem lk_law_86_X10_insert : cs_LV m_law m_X10_insert 86 := ⟨_, _, _, _, _, _, rfl, rfl, rfl, k_inst_X10_insert, k_sel_X10_insert, ⟨k_code_X10_insert, k_ini_X10, ⟨by decide +kernel, by decide +kernel, by decide +kernel⟩, ⟨by decide, by decide⟩, rfl, Or.inl (cs_gt_of 1130 (by decide +kernel) (by decide +kernel))⟩⟩
theorem lk_law_87_X9_simplify : cs_LV m_law m_X9_simplify 87 := ⟨_, _, _, _, _, _, rfl, rfl, rfl, k_inst_X9_simplify, k_sel_X9_simplify, ⟨k_code_X9_simplify, k_ini_X9, ⟨by decide +kernel, by decide +kernel, by decide +kernel⟩, ⟨by decide, by decide⟩, rfl, Or.inl (cs_gt_of 776 (by decide +kernel) (by decide +kernel))⟩⟩
theorem lk_law_90_X10_simplify : cs_LV m_law m_X10_simplify 90 := ⟨_, _, _, _, _, _, rfl, rfl, rfl, k_inst_X10_simplify, k_sel_X10_simplify, ⟨k_code_X10_simplify, k_ini_X10, ⟨by decide +kernel, by decide +kernel, by decide +kernel⟩, ⟨by decide, by decide⟩, rfl, Or.inl (cs_gt_of 1157 (by decide +kernel) (by decide +kernel))⟩⟩
theorem lk_law_91_X9_reduce : cs_LV m_law m_X9_reduce 91 := ⟨_, _, _, _, _, _, rfl, rfl, rfl, k_inst_X9_reduce, k_sel_X9_reduce, ⟨k_code_X9_reduce, k_ini_X9, ⟨by decide +kernel, by decide +kernel, by decide +kernel⟩, ⟨by decide, by decide⟩, rfl, Or.inl (cs_gt_of 786 (by decide +kernel) (by decide +kernel))⟩⟩
theorem lk_law_94_X10_reduce : cs_LV m_law m_X10_reduce 94 := ⟨_, _, _, _, _, _, rfl, rfl, rfl, k_inst_X10_reduce, k_sel_X10_reduce, ⟨k_code_X10_reduce, k_ini_X10, ⟨by decide +kernel, by decide +kernel, by decide +kernel⟩, ⟨by decide, by decide⟩, rfl, Or.inl (cs_gt_of 1161 (by decide +kernel) (by decide +kernel))⟩⟩
theorem lk_law_95_X9_limitFor : cs_LV m_law m_X9_limitFor 95 := ⟨_, _, _, _, _, _, rfl, rfl, rfl, k_inst_X9_limitFor, k_sel_X9_limitFor, ⟨k_code_X9_limitFor, k_ini_X9, ⟨by decide +kernel, by decide +kernel, by decide +kernel⟩, ⟨by decide, by decide⟩, rfl, Or.inl (cs_gt_of 791 (by decide +kernel) (by decide +kernel))⟩⟩
theorem lk_law_98_X10_limitFor : cs_LV m_law m_X10_limitFor 98 := ⟨_, _, _, _, _, _, rfl, rfl, rfl, k_inst_X10_limitFor, k_sel_X10_limitFor, ⟨k_code_X10_limitFor, k_ini_X10, ⟨by decide +kernel, by decide +kernel, by decide +kernel⟩, ⟨by decide, by decide⟩, rfl, Or.inl (cs_gt_of 1169 (by decide +kernel) (by decide +kernel))⟩⟩
theorem lk_law_99_X9_undo : cs_LV m_law m_X9_undo 99 := ⟨_, _, _, _, _, _, rfl, rfl, rfl, k_inst_X9_undo, k_sel_X9_undo, ⟨k_code_X9_undo, k_ini_X9, ⟨by decide +kernel, by decide +kernel, by decide +kernel⟩, ⟨by decide, by decide⟩, rfl, Or.inl (cs_gt_of 800 (by decide +kernel) (by decide +kernel))⟩⟩
theorem lk_law_102_X10_undo : cs_LV m_law m_X10_undo 102 := ⟨_, _, _, _, _, _, rfl, rfl, rfl, k_inst_X10_undo, k_sel_X10_undo, ⟨k_code_X10_undo, k_ini_X10, ⟨by decide +kernel, by decide +kernel, by decide +kernel⟩, ⟨by decide, by decide⟩, rfl, Or.inl (cs_gt_of 1173 (by decide +kernel) (by decide +kernel))⟩⟩
theorem lk_law_103_X9_refine : cs_LV m_law m_X9_refine 103 := ⟨_, _, _, _, _, _, rfl, rfl, rfl, k_inst_X9_refine, k_sel_X9_refine, ⟨k_code_X9_refine, k_ini_X9, ⟨by decide +kernel, by decide +kernel, by decide +kernel⟩, ⟨by decide, by decide⟩, rfl, Or.inl (cs_gt_of 812 (by decide +kernel) (by decide +kernel))⟩⟩
theorem lk_law_106_X10_refine : cs_LV m_law m_X10_refine 106 := ⟨_, _, _, _, _, _, rfl, rfl, rfl, k_inst_X10_refine, k_sel_X10_refine, ⟨k_code_X10_refine, k_ini_X10, ⟨by decide +kernel, by decide +kernel, by decide +kernel⟩, ⟨by decide, by decide⟩, rfl, Or.inl (cs_gt_of 1177 (by decide +kernel) (by decide +kernel))⟩⟩
theorem lk_law_107_X9_covers : cs_LV m_law m_X9_covers 107 := ⟨_, _, _, _, _, _, rfl, rfl, rfl, k_inst_X9_covers, k_sel_X9_covers, ⟨k_code_X9_covers, k_ini_X9, ⟨by decide +kernel, by decide +kernel, by decide +kernel⟩, ⟨by decide, by decide⟩, rfl, Or.inl (cs_gt_of 820 (by decide +kernel) (by decide +kernel))⟩⟩
theorem lk_law_110_X10_covers : cs_LV m_law m_X10_covers 110 := ⟨_, _, _, _, _, _, rfl, rfl, rfl, k_inst_X10_covers, k_sel_X10_covers, ⟨k_code_X10_covers, k_ini_X10, ⟨by decide +kernel, by decide +kernel, by decide +kernel⟩, ⟨by decide, by decide⟩, rfl, Or.inl (cs_gt_of 1213 (by decide +kernel) (by decide +kernel))⟩⟩
theorem lk_law_111_X9_isCovered : cs_LV m_law m_X9_isCovered 111 := ⟨_, _, _, _, _, _, rfl, rfl, rfl, k_inst_X9_isCovered, k_sel_X9_isCovered, ⟨k_code_X9_isCovered, k_ini_X9, ⟨by decide +kernel, by decide +kernel, by decide +kernel⟩, ⟨by decide, by decide⟩, rfl, Or.inl (cs_gt_of 825 (by decide +kernel) (by decide +kernel))⟩⟩
theorem lk_law_114_X10_isCovered : cs_LV m_law m_X10_isCovered 114 := ⟨_, _, _, _, _, _, rfl, rfl, rfl, k_inst_X10_isCovered, k_sel_X10_isCovered, ⟨k_code_X10_isCovered, k_ini_X10, ⟨by decide +kernel, by decide +kernel, by decide +kernel⟩, ⟨by decide, by decide⟩, rfl, Or.inl (cs_gt_of 1220 (by decide +kernel) (by decide +kernel))⟩⟩
theorem lk_law_115_X9_misfit : cs_LV m_law m_X9_misfit 115 := ⟨_, _, _, _, _, _, rfl, rfl, rfl, k_inst_X9_misfit, k_sel_X9_misfit, ⟨k_code_X9_misfit, k_ini_X9, ⟨by decide +kernel, by decide +kernel, by decide +kernel⟩, ⟨by decide, by decide⟩, rfl, Or.inl (cs_gt_of 834 (by decide +kernel) (by decide +kernel))⟩⟩
theorem lk_law_118_X10_misfit : cs_LV m_law m_X10_misfit 118 := ⟨_, _, _, _, _, _, rfl, rfl, rfl, k_inst_X10_misfit, k_sel_X10_misfit, ⟨k_code_X10_misfit, k_ini_X10, ⟨by decide +kernel, by decide +kernel, by decide +kernel⟩, ⟨by decide, by decide⟩, rfl, Or.inl (cs_gt_of 1228 (by decide +kernel) (by decide +kernel))⟩⟩
theorem lk_law_119_X9_deviation : cs_LV m_law m_X9_deviation 119 := ⟨_, _, _, _, _, _, rfl, rfl, rfl, k_inst_X9_deviation, k_sel_X9_deviation, ⟨k_code_X9_deviation, k_ini_X9, ⟨by decide +kernel, by decide +kernel, by decide +kernel⟩, ⟨by decide, by decide⟩, rfl, Or.inl (cs_gt_of 844 (by decide +kernel) (by decide +kernel))⟩⟩
theorem lk_law_122_X10_deviation : cs_LV m_law m_X10_deviation 122 := ⟨_, _, _, _, _, _, rfl, rfl, rfl, k_inst_X10_deviation, k_sel_X10_deviation, ⟨k_code_X10_deviation, k_ini_X10, ⟨by decide +kernel, by decide +kernel, by decide +kernel⟩, ⟨by decide, by decide⟩, rfl, Or.inl (cs_gt_of 1232 (by decide +kernel) (by decide +kernel))⟩⟩
section LW
variable {X : cs_X} {σ : cs_S} {len : Nat} {xs : Nat → Int32} {i : Int}
theorem law_c0 (hX : cs_Ok m_law X) (hs : cs_Scr X len xs) (hi : 0 ≤ i ∧ i + 6 ≤ len ∧ len ≤ 3072) (hS : cs_InS σ) (hJ : JJ σ) (k : ∀ σ2, cs_InS σ2 → JJ σ2 → cs_V m_law X 902 (lL i) [] σ2) : cs_V m_law X 152 (lL i) [] σ := by
  obtain ⟨r, σ1, σ2, e1, e2, hJ2⟩ := Sq_reset hJ ((xs (i + 1).toNat).toInt) ((xs (i + 2).toNat).toInt)
  have hz : ∀ z ∈ ([(xs (i + 1).toNat).toInt, (xs (i + 2).toNat).toInt] : List Int), cs_InR z := List.forall_mem_cons.mpr ⟨cs_inR _, List.forall_mem_cons.mpr ⟨cs_inR _, fun _ h => absurd h List.not_mem_nil⟩⟩
  have g1 := c_X9_reset _ σ _ σ1 hz hS e1
  have g2 := c_X10_reset _ σ1 _ σ2 hz g1.2.1 e2
  refine cs_V_aload_n (i := 1) (q := 0) hX dL_law_152 rfl (by decide) ?_
  refine law_arg (j := 1) hX hs hi (by decide) dL_law_153 dL_law_154 dL_law_155 dL_law_156 dL_law_157 ?_
  refine law_arg (j := 2) hX hs hi (by decide) dL_law_158 dL_law_159 dL_law_160 dL_law_161 dL_law_162 ?_
  refine cs_V_callV (Mc := m_X9_reset) (zs := [(xs (i + 1).toNat).toInt, (xs (i + 2).toNat).toInt]) (st := []) c_X9_reset hX lk_law_13_X9_reset hz hS e1 (Nat.le_of_ble_eq_true rfl) dL_law_163 ?_
  refine cs_V_aload_n (i := 2) (q := 10) hX dL_law_166 rfl (by decide) ?_
  refine law_arg (j := 1) hX hs hi (by decide) dL_law_167 dL_law_168 dL_law_169 dL_law_170 dL_law_171 ?_
  refine law_arg (j := 2) hX hs hi (by decide) dL_law_172 dL_law_173 dL_law_174 dL_law_175 dL_law_176 ?_
  refine cs_V_callV (Mc := m_X10_reset) (zs := [(xs (i + 1).toNat).toInt, (xs (i + 2).toNat).toInt]) (st := [.inl r]) c_X10_reset hX lk_law_17_X10_reset hz g1.2.1 e2 (Nat.le_of_ble_eq_true rfl) dL_law_177 ?_
  exact cs_V_icmp_eq (tgt := 902) hX dL_law_180 (by decide) (g1.1 r rfl) (g1.1 r rfl) (fun _ => k σ2 g2.2.1 hJ2) (fun h => absurd rfl h)
theorem law_c1 (hX : cs_Ok m_law X) (hs : cs_Scr X len xs) (hi : 0 ≤ i ∧ i + 6 ≤ len ∧ len ≤ 3072) (hS : cs_InS σ) (hJ : JJ σ) (k : ∀ σ2, cs_InS σ2 → JJ σ2 → cs_V m_law X 902 (lL i) [] σ2) : cs_V m_law X 185 (lL i) [] σ := by
  obtain ⟨r, σ1, σ2, e1, e2, hJ2⟩ := Sq_set hJ ((xs (i + 1).toNat).toInt) ((xs (i + 2).toNat).toInt) ((xs (i + 3).toNat).toInt)
  have hz : ∀ z ∈ ([(xs (i + 1).toNat).toInt, (xs (i + 2).toNat).toInt, (xs (i + 3).toNat).toInt] : List Int), cs_InR z := List.forall_mem_cons.mpr ⟨cs_inR _, List.forall_mem_cons.mpr ⟨cs_inR _, List.forall_mem_cons.mpr ⟨cs_inR _, fun _ h => absurd h List.not_mem_nil⟩⟩⟩
  have g1 := c_X9_set _ σ _ σ1 hz hS e1
  have g2 := c_X10_set _ σ1 _ σ2 hz g1.2.1 e2
  refine cs_V_aload_n (i := 1) (q := 0) hX dL_law_185 rfl (by decide) ?_
  refine law_arg (j := 1) hX hs hi (by decide) dL_law_186 dL_law_187 dL_law_188 dL_law_189 dL_law_190 ?_
  refine law_arg (j := 2) hX hs hi (by decide) dL_law_191 dL_law_192 dL_law_193 dL_law_194 dL_law_195 ?_
  refine law_arg (j := 3) hX hs hi (by decide) dL_law_196 dL_law_197 dL_law_198 dL_law_199 dL_law_200 ?_
  refine cs_V_callV (Mc := m_X9_set) (zs := [(xs (i + 1).toNat).toInt, (xs (i + 2).toNat).toInt, (xs (i + 3).toNat).toInt]) (st := []) c_X9_set hX lk_law_18_X9_set hz hS e1 (Nat.le_of_ble_eq_true rfl) dL_law_201 ?_
  refine cs_V_aload_n (i := 2) (q := 10) hX dL_law_204 rfl (by decide) ?_
  refine law_arg (j := 1) hX hs hi (by decide) dL_law_205 dL_law_206 dL_law_207 dL_law_208 dL_law_209 ?_
  refine law_arg (j := 2) hX hs hi (by decide) dL_law_210 dL_law_211 dL_law_212 dL_law_213 dL_law_214 ?_
  refine law_arg (j := 3) hX hs hi (by decide) dL_law_215 dL_law_216 dL_law_217 dL_law_218 dL_law_219 ?_
  refine cs_V_callV (Mc := m_X10_set) (zs := [(xs (i + 1).toNat).toInt, (xs (i + 2).toNat).toInt, (xs (i + 3).toNat).toInt]) (st := [.inl r]) c_X10_set hX lk_law_22_X10_set hz g1.2.1 e2 (Nat.le_of_ble_eq_true rfl) dL_law_220 ?_
  exact cs_V_icmp_eq (tgt := 902) hX dL_law_223 (by decide) (g1.1 r rfl) (g1.1 r rfl) (fun _ => k σ2 g2.2.1 hJ2) (fun h => absurd rfl h)
theorem law_c2 (hX : cs_Ok m_law X) (hs : cs_Scr X len xs) (hi : 0 ≤ i ∧ i + 6 ≤ len ∧ len ≤ 3072) (hS : cs_InS σ) (hJ : JJ σ) (k : ∀ σ2, cs_InS σ2 → JJ σ2 → cs_V m_law X 902 (lL i) [] σ2) : cs_V m_law X 228 (lL i) [] σ := by
  obtain ⟨r, σ1, σ2, e1, e2, hJ2⟩ := Sq_fill hJ ((xs (i + 1).toNat).toInt) ((xs (i + 2).toNat).toInt) ((xs (i + 3).toNat).toInt) ((xs (i + 4).toNat).toInt) ((xs (i + 5).toNat).toInt)
  have hz : ∀ z ∈ ([(xs (i + 1).toNat).toInt, (xs (i + 2).toNat).toInt, (xs (i + 3).toNat).toInt, (xs (i + 4).toNat).toInt, (xs (i + 5).toNat).toInt] : List Int), cs_InR z := List.forall_mem_cons.mpr ⟨cs_inR _, List.forall_mem_cons.mpr ⟨cs_inR _, List.forall_mem_cons.mpr ⟨cs_inR _, List.forall_mem_cons.mpr ⟨cs_inR _, List.forall_mem_cons.mpr ⟨cs_inR _, fun _ h => absurd h List.not_mem_nil⟩⟩⟩⟩⟩
  have g1 := c_X9_fill _ σ _ σ1 hz hS e1
  have g2 := c_X10_fill _ σ1 _ σ2 hz g1.2.1 e2
  refine cs_V_aload_n (i := 1) (q := 0) hX dL_law_228 rfl (by decide) ?_
  refine law_arg (j := 1) hX hs hi (by decide) dL_law_229 dL_law_230 dL_law_231 dL_law_232 dL_law_233 ?_
  refine law_arg (j := 2) hX hs hi (by decide) dL_law_234 dL_law_235 dL_law_236 dL_law_237 dL_law_238 ?_
  refine law_arg (j := 3) hX hs hi (by decide) dL_law_239 dL_law_240 dL_law_241 dL_law_242 dL_law_243 ?_
  refine law_arg (j := 4) hX hs hi (by decide) dL_law_244 dL_law_245 dL_law_246 dL_law_247 dL_law_248 ?_
  refine law_arg (j := 5) hX hs hi (by decide) dL_law_249 dL_law_250 dL_law_251 dL_law_252 dL_law_253 ?_
  refine cs_V_callV (Mc := m_X9_fill) (zs := [(xs (i + 1).toNat).toInt, (xs (i + 2).toNat).toInt, (xs (i + 3).toNat).toInt, (xs (i + 4).toNat).toInt, (xs (i + 5).toNat).toInt]) (st := []) c_X9_fill hX lk_law_23_X9_fill hz hS e1 (Nat.le_of_ble_eq_true rfl) dL_law_254 ?_
  refine cs_V_aload_n (i := 2) (q := 10) hX dL_law_257 rfl (by decide) ?_
  refine law_arg (j := 1) hX hs hi (by decide) dL_law_258 dL_law_259 dL_law_260 dL_law_261 dL_law_262 ?_
  refine law_arg (j := 2) hX hs hi (by decide) dL_law_263 dL_law_264 dL_law_265 dL_law_266 dL_law_267 ?_
  refine law_arg (j := 3) hX hs hi (by decide) dL_law_268 dL_law_269 dL_law_270 dL_law_271 dL_law_272 ?_
  refine law_arg (j := 4) hX hs hi (by decide) dL_law_273 dL_law_274 dL_law_275 dL_law_276 dL_law_277 ?_
  refine law_arg (j := 5) hX hs hi (by decide) dL_law_278 dL_law_279 dL_law_280 dL_law_281 dL_law_282 ?_
  refine cs_V_callV (Mc := m_X10_fill) (zs := [(xs (i + 1).toNat).toInt, (xs (i + 2).toNat).toInt, (xs (i + 3).toNat).toInt, (xs (i + 4).toNat).toInt, (xs (i + 5).toNat).toInt]) (st := [.inl r]) c_X10_fill hX lk_law_27_X10_fill hz g1.2.1 e2 (Nat.le_of_ble_eq_true rfl) dL_law_283 ?_
  exact cs_V_icmp_eq (tgt := 902) hX dL_law_286 (by decide) (g1.1 r rfl) (g1.1 r rfl) (fun _ => k σ2 g2.2.1 hJ2) (fun h => absurd rfl h)
theorem law_c3 (hX : cs_Ok m_law X) (hs : cs_Scr X len xs) (hi : 0 ≤ i ∧ i + 6 ≤ len ∧ len ≤ 3072) (hS : cs_InS σ) (hJ : JJ σ) (k : ∀ σ2, cs_InS σ2 → JJ σ2 → cs_V m_law X 902 (lL i) [] σ2) : cs_V m_law X 291 (lL i) [] σ := by
  obtain ⟨r, σ1, σ2, e1, e2, hJ2⟩ := Sq_flood hJ ((xs (i + 1).toNat).toInt) ((xs (i + 2).toNat).toInt) ((xs (i + 3).toNat).toInt)
  have hz : ∀ z ∈ ([(xs (i + 1).toNat).toInt, (xs (i + 2).toNat).toInt, (xs (i + 3).toNat).toInt] : List Int), cs_InR z := List.forall_mem_cons.mpr ⟨cs_inR _, List.forall_mem_cons.mpr ⟨cs_inR _, List.forall_mem_cons.mpr ⟨cs_inR _, fun _ h => absurd h List.not_mem_nil⟩⟩⟩
  have g1 := c_X9_flood _ σ _ σ1 hz hS e1
  have g2 := c_X10_flood _ σ1 _ σ2 hz g1.2.1 e2
  refine cs_V_aload_n (i := 1) (q := 0) hX dL_law_291 rfl (by decide) ?_
  refine law_arg (j := 1) hX hs hi (by decide) dL_law_292 dL_law_293 dL_law_294 dL_law_295 dL_law_296 ?_
  refine law_arg (j := 2) hX hs hi (by decide) dL_law_297 dL_law_298 dL_law_299 dL_law_300 dL_law_301 ?_
  refine law_arg (j := 3) hX hs hi (by decide) dL_law_302 dL_law_303 dL_law_304 dL_law_305 dL_law_306 ?_
  refine cs_V_callV (Mc := m_X9_flood) (zs := [(xs (i + 1).toNat).toInt, (xs (i + 2).toNat).toInt, (xs (i + 3).toNat).toInt]) (st := []) c_X9_flood hX lk_law_28_X9_flood hz hS e1 (Nat.le_of_ble_eq_true rfl) dL_law_307 ?_
  refine cs_V_aload_n (i := 2) (q := 10) hX dL_law_310 rfl (by decide) ?_
  refine law_arg (j := 1) hX hs hi (by decide) dL_law_311 dL_law_312 dL_law_313 dL_law_314 dL_law_315 ?_
  refine law_arg (j := 2) hX hs hi (by decide) dL_law_316 dL_law_317 dL_law_318 dL_law_319 dL_law_320 ?_
  refine law_arg (j := 3) hX hs hi (by decide) dL_law_321 dL_law_322 dL_law_323 dL_law_324 dL_law_325 ?_
  refine cs_V_callV (Mc := m_X10_flood) (zs := [(xs (i + 1).toNat).toInt, (xs (i + 2).toNat).toInt, (xs (i + 3).toNat).toInt]) (st := [.inl r]) c_X10_flood hX lk_law_31_X10_flood hz g1.2.1 e2 (Nat.le_of_ble_eq_true rfl) dL_law_326 ?_
  exact cs_V_icmp_eq (tgt := 902) hX dL_law_329 (by decide) (g1.1 r rfl) (g1.1 r rfl) (fun _ => k σ2 g2.2.1 hJ2) (fun h => absurd rfl h)
theorem law_c4 (hX : cs_Ok m_law X) (hs : cs_Scr X len xs) (hi : 0 ≤ i ∧ i + 6 ≤ len ∧ len ≤ 3072) (hS : cs_InS σ) (hJ : JJ σ) (k : ∀ σ2, cs_InS σ2 → JJ σ2 → cs_V m_law X 902 (lL i) [] σ2) : cs_V m_law X 334 (lL i) [] σ := by
  obtain ⟨r, σ1, σ2, e1, e2, hJ2⟩ := Sq_level hJ ((xs (i + 1).toNat).toInt) ((xs (i + 2).toNat).toInt)
  have hz : ∀ z ∈ ([(xs (i + 1).toNat).toInt, (xs (i + 2).toNat).toInt] : List Int), cs_InR z := List.forall_mem_cons.mpr ⟨cs_inR _, List.forall_mem_cons.mpr ⟨cs_inR _, fun _ h => absurd h List.not_mem_nil⟩⟩
  have g1 := c_X9_level _ σ _ σ1 hz hS e1
  have g2 := c_X10_level _ σ1 _ σ2 hz g1.2.1 e2
  refine cs_V_aload_n (i := 1) (q := 0) hX dL_law_334 rfl (by decide) ?_
  refine law_arg (j := 1) hX hs hi (by decide) dL_law_335 dL_law_336 dL_law_337 dL_law_338 dL_law_339 ?_
  refine law_arg (j := 2) hX hs hi (by decide) dL_law_340 dL_law_341 dL_law_342 dL_law_343 dL_law_344 ?_
  refine cs_V_callV (Mc := m_X9_level) (zs := [(xs (i + 1).toNat).toInt, (xs (i + 2).toNat).toInt]) (st := []) c_X9_level hX lk_law_32_X9_level hz hS e1 (Nat.le_of_ble_eq_true rfl) dL_law_345 ?_
  refine cs_V_aload_n (i := 2) (q := 10) hX dL_law_348 rfl (by decide) ?_
  refine law_arg (j := 1) hX hs hi (by decide) dL_law_349 dL_law_350 dL_law_351 dL_law_352 dL_law_353 ?_
  refine law_arg (j := 2) hX hs hi (by decide) dL_law_354 dL_law_355 dL_law_356 dL_law_357 dL_law_358 ?_
  refine cs_V_callV (Mc := m_X10_level) (zs := [(xs (i + 1).toNat).toInt, (xs (i + 2).toNat).toInt]) (st := [.inl r]) c_X10_level hX lk_law_35_X10_level hz g1.2.1 e2 (Nat.le_of_ble_eq_true rfl) dL_law_359 ?_
  exact cs_V_icmp_eq (tgt := 902) hX dL_law_362 (by decide) (g1.1 r rfl) (g1.1 r rfl) (fun _ => k σ2 g2.2.1 hJ2) (fun h => absurd rfl h)
theorem law_c5 (hX : cs_Ok m_law X) (hs : cs_Scr X len xs) (hi : 0 ≤ i ∧ i + 6 ≤ len ∧ len ≤ 3072) (hS : cs_InS σ) (hJ : JJ σ) (k : ∀ σ2, cs_InS σ2 → JJ σ2 → cs_V m_law X 902 (lL i) [] σ2) : cs_V m_law X 367 (lL i) [] σ := by
  obtain ⟨r, σ1, σ2, e1, e2, hJ2⟩ := Sq_type hJ (chr (xs (i + 1).toNat).toInt) (chr_rng _)
  have hz : ∀ z ∈ ([(chr (xs (i + 1).toNat).toInt)] : List Int), cs_InR z := fun z h => by
    have := chr_rng (xs (i + 1).toNat).toInt
    rw [List.mem_singleton.mp h]
    exact ⟨by omega, by omega⟩
  have g1 := c_X9_type _ σ _ σ1 hz hS e1
  have g2 := c_X10_type _ σ1 _ σ2 hz g1.2.1 e2
  refine cs_V_aload_n (i := 1) (q := 0) hX dL_law_367 rfl (by decide) ?_
  refine law_arg (j := 1) hX hs hi (by decide) dL_law_368 dL_law_369 dL_law_370 dL_law_371 dL_law_372 ?_
  refine cs_V_i2c hX dL_law_373 ?_
  refine cs_V_callV (Mc := m_X9_type) (zs := [(chr (xs (i + 1).toNat).toInt)]) (st := []) c_X9_type hX lk_law_36_X9_type hz hS e1 (Nat.le_of_ble_eq_true rfl) dL_law_374 ?_
  refine cs_V_aload_n (i := 2) (q := 10) hX dL_law_377 rfl (by decide) ?_
  refine law_arg (j := 1) hX hs hi (by decide) dL_law_378 dL_law_379 dL_law_380 dL_law_381 dL_law_382 ?_
  refine cs_V_i2c hX dL_law_383 ?_
  refine cs_V_callV (Mc := m_X10_type) (zs := [(chr (xs (i + 1).toNat).toInt)]) (st := [.inl r]) c_X10_type hX lk_law_40_X10_type hz g1.2.1 e2 (Nat.le_of_ble_eq_true rfl) dL_law_384 ?_
  exact cs_V_icmp_eq (tgt := 902) hX dL_law_387 (by decide) (g1.1 r rfl) (g1.1 r rfl) (fun _ => k σ2 g2.2.1 hJ2) (fun h => absurd rfl h)
theorem law_c6 (hX : cs_Ok m_law X) (hs : cs_Scr X len xs) (hi : 0 ≤ i ∧ i + 6 ≤ len ∧ len ≤ 3072) (hS : cs_InS σ) (hJ : JJ σ) (k : ∀ σ2, cs_InS σ2 → JJ σ2 → cs_V m_law X 902 (lL i) [] σ2) : cs_V m_law X 392 (lL i) [] σ := by
  obtain ⟨r, σ1, σ2, e1, e2, hJ2⟩ := Sq_clear hJ 
  have hz : ∀ z ∈ ([] : List Int), cs_InR z := fun _ h => absurd h List.not_mem_nil
  have g1 := c_X9_clearText _ σ _ σ1 hz hS e1
  have g2 := c_X10_clearText _ σ1 _ σ2 hz g1.2.1 e2
  refine cs_V_aload_n (i := 1) (q := 0) hX dL_law_392 rfl (by decide) ?_
  refine cs_V_callV (Mc := m_X9_clearText) (zs := []) (st := []) c_X9_clearText hX lk_law_41_X9_clearText hz hS e1 (Nat.le_of_ble_eq_true rfl) dL_law_393 ?_
  refine cs_V_aload_n (i := 2) (q := 10) hX dL_law_396 rfl (by decide) ?_
  refine cs_V_callV (Mc := m_X10_clearText) (zs := []) (st := [.inl r]) c_X10_clearText hX lk_law_45_X10_clearText hz g1.2.1 e2 (Nat.le_of_ble_eq_true rfl) dL_law_397 ?_
  exact cs_V_icmp_eq (tgt := 902) hX dL_law_400 (by decide) (g1.1 r rfl) (g1.1 r rfl) (fun _ => k σ2 g2.2.1 hJ2) (fun h => absurd rfl h)
theorem law_c7 (hX : cs_Ok m_law X) (hs : cs_Scr X len xs) (hi : 0 ≤ i ∧ i + 6 ≤ len ∧ len ≤ 3072) (hS : cs_InS σ) (hJ : JJ σ) (k : ∀ σ2, cs_InS σ2 → JJ σ2 → cs_V m_law X 902 (lL i) [] σ2) : cs_V m_law X 405 (lL i) [] σ := by
  obtain ⟨r, σ1, σ2, e1, e2, hJ2⟩ := Sq_read hJ 
  have hz : ∀ z ∈ ([] : List Int), cs_InR z := fun _ h => absurd h List.not_mem_nil
  have g1 := c_X9_readPicture _ σ _ σ1 hz hS e1
  have g2 := c_X10_readPicture _ σ1 _ σ2 hz g1.2.1 e2
  refine cs_V_aload_n (i := 1) (q := 0) hX dL_law_405 rfl (by decide) ?_
  refine cs_V_callV (Mc := m_X9_readPicture) (zs := []) (st := []) c_X9_readPicture hX lk_law_46_X9_readPicture hz hS e1 (Nat.le_of_ble_eq_true rfl) dL_law_406 ?_
  refine cs_V_aload_n (i := 2) (q := 10) hX dL_law_409 rfl (by decide) ?_
  refine cs_V_callV (Mc := m_X10_readPicture) (zs := []) (st := [.inl r]) c_X10_readPicture hX lk_law_49_X10_readPicture hz g1.2.1 e2 (Nat.le_of_ble_eq_true rfl) dL_law_410 ?_
  exact cs_V_icmp_eq (tgt := 902) hX dL_law_413 (by decide) (g1.1 r rfl) (g1.1 r rfl) (fun _ => k σ2 g2.2.1 hJ2) (fun h => absurd rfl h)
theorem law_c8 (hX : cs_Ok m_law X) (hs : cs_Scr X len xs) (hi : 0 ≤ i ∧ i + 6 ≤ len ∧ len ≤ 3072) (hS : cs_InS σ) (hJ : JJ σ) (k : ∀ σ2, cs_InS σ2 → JJ σ2 → cs_V m_law X 902 (lL i) [] σ2) : cs_V m_law X 418 (lL i) [] σ := by
  obtain ⟨r, σ1, σ2, e1, e2, hJ2⟩ := Sq_trace hJ ((xs (i + 1).toNat).toInt) ((xs (i + 2).toNat).toInt)
  have hz : ∀ z ∈ ([(xs (i + 1).toNat).toInt, (xs (i + 2).toNat).toInt] : List Int), cs_InR z := List.forall_mem_cons.mpr ⟨cs_inR _, List.forall_mem_cons.mpr ⟨cs_inR _, fun _ h => absurd h List.not_mem_nil⟩⟩
  have g1 := c_X9_trace _ σ _ σ1 hz hS e1
  have g2 := c_X10_trace _ σ1 _ σ2 hz g1.2.1 e2
  refine cs_V_aload_n (i := 1) (q := 0) hX dL_law_418 rfl (by decide) ?_
  refine law_arg (j := 1) hX hs hi (by decide) dL_law_419 dL_law_420 dL_law_421 dL_law_422 dL_law_423 ?_
  refine law_arg (j := 2) hX hs hi (by decide) dL_law_424 dL_law_425 dL_law_426 dL_law_427 dL_law_428 ?_
  refine cs_V_callV (Mc := m_X9_trace) (zs := [(xs (i + 1).toNat).toInt, (xs (i + 2).toNat).toInt]) (st := []) c_X9_trace hX lk_law_50_X9_trace hz hS e1 (Nat.le_of_ble_eq_true rfl) dL_law_429 ?_
  refine cs_V_aload_n (i := 2) (q := 10) hX dL_law_432 rfl (by decide) ?_
  refine law_arg (j := 1) hX hs hi (by decide) dL_law_433 dL_law_434 dL_law_435 dL_law_436 dL_law_437 ?_
  refine law_arg (j := 2) hX hs hi (by decide) dL_law_438 dL_law_439 dL_law_440 dL_law_441 dL_law_442 ?_
  refine cs_V_callV (Mc := m_X10_trace) (zs := [(xs (i + 1).toNat).toInt, (xs (i + 2).toNat).toInt]) (st := [.inl r]) c_X10_trace hX lk_law_53_X10_trace hz g1.2.1 e2 (Nat.le_of_ble_eq_true rfl) dL_law_443 ?_
  exact cs_V_icmp_eq (tgt := 902) hX dL_law_446 (by decide) (g1.1 r rfl) (g1.1 r rfl) (fun _ => k σ2 g2.2.1 hJ2) (fun h => absurd rfl h)
theorem law_c9 (hX : cs_Ok m_law X) (hs : cs_Scr X len xs) (hi : 0 ≤ i ∧ i + 6 ≤ len ∧ len ≤ 3072) (hS : cs_InS σ) (hJ : JJ σ) (k : ∀ σ2, cs_InS σ2 → JJ σ2 → cs_V m_law X 902 (lL i) [] σ2) : cs_V m_law X 451 (lL i) [] σ := by
  obtain ⟨r, σ1, σ2, e1, e2, hJ2⟩ := Sq_count hJ ((xs (i + 1).toNat).toInt)
  have hz : ∀ z ∈ ([(xs (i + 1).toNat).toInt] : List Int), cs_InR z := List.forall_mem_cons.mpr ⟨cs_inR _, fun _ h => absurd h List.not_mem_nil⟩
  have g1 := c_X9_count _ σ _ σ1 hz hS e1
  have g2 := c_X10_count _ σ1 _ σ2 hz g1.2.1 e2
  refine cs_V_aload_n (i := 1) (q := 0) hX dL_law_451 rfl (by decide) ?_
  refine law_arg (j := 1) hX hs hi (by decide) dL_law_452 dL_law_453 dL_law_454 dL_law_455 dL_law_456 ?_
  refine cs_V_callV (Mc := m_X9_count) (zs := [(xs (i + 1).toNat).toInt]) (st := []) c_X9_count hX lk_law_54_X9_count hz hS e1 (Nat.le_of_ble_eq_true rfl) dL_law_457 ?_
  refine cs_V_aload_n (i := 2) (q := 10) hX dL_law_460 rfl (by decide) ?_
  refine law_arg (j := 1) hX hs hi (by decide) dL_law_461 dL_law_462 dL_law_463 dL_law_464 dL_law_465 ?_
  refine cs_V_callV (Mc := m_X10_count) (zs := [(xs (i + 1).toNat).toInt]) (st := [.inl r]) c_X10_count hX lk_law_58_X10_count hz g1.2.1 e2 (Nat.le_of_ble_eq_true rfl) dL_law_466 ?_
  exact cs_V_icmp_eq (tgt := 902) hX dL_law_469 (by decide) (g1.1 r rfl) (g1.1 r rfl) (fun _ => k σ2 g2.2.1 hJ2) (fun h => absurd rfl h)
theorem law_c10 (hX : cs_Ok m_law X) (hs : cs_Scr X len xs) (hi : 0 ≤ i ∧ i + 6 ≤ len ∧ len ≤ 3072) (hS : cs_InS σ) (hJ : JJ σ) (k : ∀ σ2, cs_InS σ2 → JJ σ2 → cs_V m_law X 902 (lL i) [] σ2) : cs_V m_law X 474 (lL i) [] σ := by
  obtain ⟨r, σ1, σ2, e1, e2, hJ2⟩ := Sq_contour hJ ((xs (i + 1).toNat).toInt) ((xs (i + 2).toNat).toInt)
  have hz : ∀ z ∈ ([(xs (i + 1).toNat).toInt, (xs (i + 2).toNat).toInt] : List Int), cs_InR z := List.forall_mem_cons.mpr ⟨cs_inR _, List.forall_mem_cons.mpr ⟨cs_inR _, fun _ h => absurd h List.not_mem_nil⟩⟩
  have g1 := c_X9_contour _ σ _ σ1 hz hS e1
  have g2 := c_X10_contour _ σ1 _ σ2 hz g1.2.1 e2
  refine cs_V_aload_n (i := 1) (q := 0) hX dL_law_474 rfl (by decide) ?_
  refine law_arg (j := 1) hX hs hi (by decide) dL_law_475 dL_law_476 dL_law_477 dL_law_478 dL_law_479 ?_
  refine law_arg (j := 2) hX hs hi (by decide) dL_law_480 dL_law_481 dL_law_482 dL_law_483 dL_law_484 ?_
  refine cs_V_callV (Mc := m_X9_contour) (zs := [(xs (i + 1).toNat).toInt, (xs (i + 2).toNat).toInt]) (st := []) c_X9_contour hX lk_law_59_X9_contour hz hS e1 (Nat.le_of_ble_eq_true rfl) dL_law_485 ?_
  refine cs_V_aload_n (i := 2) (q := 10) hX dL_law_488 rfl (by decide) ?_
  refine law_arg (j := 1) hX hs hi (by decide) dL_law_489 dL_law_490 dL_law_491 dL_law_492 dL_law_493 ?_
  refine law_arg (j := 2) hX hs hi (by decide) dL_law_494 dL_law_495 dL_law_496 dL_law_497 dL_law_498 ?_
  refine cs_V_callV (Mc := m_X10_contour) (zs := [(xs (i + 1).toNat).toInt, (xs (i + 2).toNat).toInt]) (st := [.inl r]) c_X10_contour hX lk_law_62_X10_contour hz g1.2.1 e2 (Nat.le_of_ble_eq_true rfl) dL_law_499 ?_
  exact cs_V_icmp_eq (tgt := 902) hX dL_law_502 (by decide) (g1.1 r rfl) (g1.1 r rfl) (fun _ => k σ2 g2.2.1 hJ2) (fun h => absurd rfl h)
theorem law_c11 (hX : cs_Ok m_law X) (hs : cs_Scr X len xs) (hi : 0 ≤ i ∧ i + 6 ≤ len ∧ len ≤ 3072) (hS : cs_InS σ) (hJ : JJ σ) (k : ∀ σ2, cs_InS σ2 → JJ σ2 → cs_V m_law X 902 (lL i) [] σ2) : cs_V m_law X 507 (lL i) [] σ := by
  obtain ⟨r, σ1, σ2, e1, e2, hJ2⟩ := Sq_vertex hJ ((xs (i + 1).toNat).toInt) ((xs (i + 2).toNat).toInt) ((xs (i + 3).toNat).toInt)
  have hz : ∀ z ∈ ([(xs (i + 1).toNat).toInt, (xs (i + 2).toNat).toInt, (xs (i + 3).toNat).toInt] : List Int), cs_InR z := List.forall_mem_cons.mpr ⟨cs_inR _, List.forall_mem_cons.mpr ⟨cs_inR _, List.forall_mem_cons.mpr ⟨cs_inR _, fun _ h => absurd h List.not_mem_nil⟩⟩⟩
  have g1 := c_X9_vertex _ σ _ σ1 hz hS e1
  have g2 := c_X10_vertex _ σ1 _ σ2 hz g1.2.1 e2
  refine cs_V_aload_n (i := 1) (q := 0) hX dL_law_507 rfl (by decide) ?_
  refine law_arg (j := 1) hX hs hi (by decide) dL_law_508 dL_law_509 dL_law_510 dL_law_511 dL_law_512 ?_
  refine law_arg (j := 2) hX hs hi (by decide) dL_law_513 dL_law_514 dL_law_515 dL_law_516 dL_law_517 ?_
  refine law_arg (j := 3) hX hs hi (by decide) dL_law_518 dL_law_519 dL_law_520 dL_law_521 dL_law_522 ?_
  refine cs_V_callV (Mc := m_X9_vertex) (zs := [(xs (i + 1).toNat).toInt, (xs (i + 2).toNat).toInt, (xs (i + 3).toNat).toInt]) (st := []) c_X9_vertex hX lk_law_63_X9_vertex hz hS e1 (Nat.le_of_ble_eq_true rfl) dL_law_523 ?_
  refine cs_V_aload_n (i := 2) (q := 10) hX dL_law_526 rfl (by decide) ?_
  refine law_arg (j := 1) hX hs hi (by decide) dL_law_527 dL_law_528 dL_law_529 dL_law_530 dL_law_531 ?_
  refine law_arg (j := 2) hX hs hi (by decide) dL_law_532 dL_law_533 dL_law_534 dL_law_535 dL_law_536 ?_
  refine law_arg (j := 3) hX hs hi (by decide) dL_law_537 dL_law_538 dL_law_539 dL_law_540 dL_law_541 ?_
  refine cs_V_callV (Mc := m_X10_vertex) (zs := [(xs (i + 1).toNat).toInt, (xs (i + 2).toNat).toInt, (xs (i + 3).toNat).toInt]) (st := [.inl r]) c_X10_vertex hX lk_law_66_X10_vertex hz g1.2.1 e2 (Nat.le_of_ble_eq_true rfl) dL_law_542 ?_
  exact cs_V_icmp_eq (tgt := 902) hX dL_law_545 (by decide) (g1.1 r rfl) (g1.1 r rfl) (fun _ => k σ2 g2.2.1 hJ2) (fun h => absurd rfl h)
theorem law_c12 (hX : cs_Ok m_law X) (hs : cs_Scr X len xs) (hi : 0 ≤ i ∧ i + 6 ≤ len ∧ len ≤ 3072) (hS : cs_InS σ) (hJ : JJ σ) (k : ∀ σ2, cs_InS σ2 → JJ σ2 → cs_V m_law X 902 (lL i) [] σ2) : cs_V m_law X 550 (lL i) [] σ := by
  obtain ⟨r, σ1, σ2, e1, e2, hJ2⟩ := Sq_bySize hJ ((xs (i + 1).toNat).toInt)
  have hz : ∀ z ∈ ([(xs (i + 1).toNat).toInt] : List Int), cs_InR z := List.forall_mem_cons.mpr ⟨cs_inR _, fun _ h => absurd h List.not_mem_nil⟩
  have g1 := c_X9_bySize _ σ _ σ1 hz hS e1
  have g2 := c_X10_bySize _ σ1 _ σ2 hz g1.2.1 e2
  refine cs_V_aload_n (i := 1) (q := 0) hX dL_law_550 rfl (by decide) ?_
  refine law_arg (j := 1) hX hs hi (by decide) dL_law_551 dL_law_552 dL_law_553 dL_law_554 dL_law_555 ?_
  refine cs_V_callV (Mc := m_X9_bySize) (zs := [(xs (i + 1).toNat).toInt]) (st := []) c_X9_bySize hX lk_law_67_X9_bySize hz hS e1 (Nat.le_of_ble_eq_true rfl) dL_law_556 ?_
  refine cs_V_aload_n (i := 2) (q := 10) hX dL_law_559 rfl (by decide) ?_
  refine law_arg (j := 1) hX hs hi (by decide) dL_law_560 dL_law_561 dL_law_562 dL_law_563 dL_law_564 ?_
  refine cs_V_callV (Mc := m_X10_bySize) (zs := [(xs (i + 1).toNat).toInt]) (st := [.inl r]) c_X10_bySize hX lk_law_70_X10_bySize hz g1.2.1 e2 (Nat.le_of_ble_eq_true rfl) dL_law_565 ?_
  exact cs_V_icmp_eq (tgt := 902) hX dL_law_568 (by decide) (g1.1 r rfl) (g1.1 r rfl) (fun _ => k σ2 g2.2.1 hJ2) (fun h => absurd rfl h)
theorem law_c13 (hX : cs_Ok m_law X) (hs : cs_Scr X len xs) (hi : 0 ≤ i ∧ i + 6 ≤ len ∧ len ≤ 3072) (hS : cs_InS σ) (hJ : JJ σ) (k : ∀ σ2, cs_InS σ2 → JJ σ2 → cs_V m_law X 902 (lL i) [] σ2) : cs_V m_law X 573 (lL i) [] σ := by
  obtain ⟨r, σ1, σ2, e1, e2, hJ2⟩ := Sq_chainCode hJ ((xs (i + 1).toNat).toInt) ((xs (i + 2).toNat).toInt) (cs_inR _).2
  have hz : ∀ z ∈ ([(xs (i + 1).toNat).toInt, (xs (i + 2).toNat).toInt] : List Int), cs_InR z := List.forall_mem_cons.mpr ⟨cs_inR _, List.forall_mem_cons.mpr ⟨cs_inR _, fun _ h => absurd h List.not_mem_nil⟩⟩
  have g1 := c_X9_chainCode _ σ _ σ1 hz hS e1
  have g2 := c_X10_chainCode _ σ1 _ σ2 hz g1.2.1 e2
  refine cs_V_aload_n (i := 1) (q := 0) hX dL_law_573 rfl (by decide) ?_
  refine law_arg (j := 1) hX hs hi (by decide) dL_law_574 dL_law_575 dL_law_576 dL_law_577 dL_law_578 ?_
  refine law_arg (j := 2) hX hs hi (by decide) dL_law_579 dL_law_580 dL_law_581 dL_law_582 dL_law_583 ?_
  refine cs_V_callV (Mc := m_X9_chainCode) (zs := [(xs (i + 1).toNat).toInt, (xs (i + 2).toNat).toInt]) (st := []) c_X9_chainCode hX lk_law_71_X9_chainCode hz hS e1 (Nat.le_of_ble_eq_true rfl) dL_law_584 ?_
  refine cs_V_aload_n (i := 2) (q := 10) hX dL_law_587 rfl (by decide) ?_
  refine law_arg (j := 1) hX hs hi (by decide) dL_law_588 dL_law_589 dL_law_590 dL_law_591 dL_law_592 ?_
  refine law_arg (j := 2) hX hs hi (by decide) dL_law_593 dL_law_594 dL_law_595 dL_law_596 dL_law_597 ?_
  refine cs_V_callV (Mc := m_X10_chainCode) (zs := [(xs (i + 1).toNat).toInt, (xs (i + 2).toNat).toInt]) (st := [.inl r]) c_X10_chainCode hX lk_law_74_X10_chainCode hz g1.2.1 e2 (Nat.le_of_ble_eq_true rfl) dL_law_598 ?_
  exact cs_V_icmp_eq (tgt := 902) hX dL_law_601 (by decide) (g1.1 r rfl) (g1.1 r rfl) (fun _ => k σ2 g2.2.1 hJ2) (fun h => absurd rfl h)
theorem law_c14 (hX : cs_Ok m_law X) (hs : cs_Scr X len xs) (hi : 0 ≤ i ∧ i + 6 ≤ len ∧ len ≤ 3072) (hS : cs_InS σ) (hJ : JJ σ) (k : ∀ σ2, cs_InS σ2 → JJ σ2 → cs_V m_law X 902 (lL i) [] σ2) : cs_V m_law X 606 (lL i) [] σ := by
  obtain ⟨r, σ1, σ2, e1, e2, hJ2⟩ := Sq_next hJ 
  have hz : ∀ z ∈ ([] : List Int), cs_InR z := fun _ h => absurd h List.not_mem_nil
  have g1 := c_X9_next _ σ _ σ1 hz hS e1
  have g2 := c_X10_next _ σ1 _ σ2 hz g1.2.1 e2
  refine cs_V_aload_n (i := 1) (q := 0) hX dL_law_606 rfl (by decide) ?_
  refine cs_V_callV (Mc := m_X9_next) (zs := []) (st := []) c_X9_next hX lk_law_75_X9_next hz hS e1 (Nat.le_of_ble_eq_true rfl) dL_law_607 ?_
  refine cs_V_aload_n (i := 2) (q := 10) hX dL_law_610 rfl (by decide) ?_
  refine cs_V_callV (Mc := m_X10_next) (zs := []) (st := [.inl r]) c_X10_next hX lk_law_78_X10_next hz g1.2.1 e2 (Nat.le_of_ble_eq_true rfl) dL_law_611 ?_
  exact cs_V_icmp_eq (tgt := 902) hX dL_law_614 (by decide) (g1.1 r rfl) (g1.1 r rfl) (fun _ => k σ2 g2.2.1 hJ2) (fun h => absurd rfl h)
theorem law_c15 (hX : cs_Ok m_law X) (hs : cs_Scr X len xs) (hi : 0 ≤ i ∧ i + 6 ≤ len ∧ len ≤ 3072) (hS : cs_InS σ) (hJ : JJ σ) (k : ∀ σ2, cs_InS σ2 → JJ σ2 → cs_V m_law X 902 (lL i) [] σ2) : cs_V m_law X 619 (lL i) [] σ := by
  obtain ⟨r, σ1, σ2, e1, e2, hJ2⟩ := Sq_remove hJ ((xs (i + 1).toNat).toInt) ((xs (i + 2).toNat).toInt)
  have hz : ∀ z ∈ ([(xs (i + 1).toNat).toInt, (xs (i + 2).toNat).toInt] : List Int), cs_InR z := List.forall_mem_cons.mpr ⟨cs_inR _, List.forall_mem_cons.mpr ⟨cs_inR _, fun _ h => absurd h List.not_mem_nil⟩⟩
  have g1 := c_X9_remove _ σ _ σ1 hz hS e1
  have g2 := c_X10_remove _ σ1 _ σ2 hz g1.2.1 e2
  refine cs_V_aload_n (i := 1) (q := 0) hX dL_law_619 rfl (by decide) ?_
  refine law_arg (j := 1) hX hs hi (by decide) dL_law_620 dL_law_621 dL_law_622 dL_law_623 dL_law_624 ?_
  refine law_arg (j := 2) hX hs hi (by decide) dL_law_625 dL_law_626 dL_law_627 dL_law_628 dL_law_629 ?_
  refine cs_V_callV (Mc := m_X9_remove) (zs := [(xs (i + 1).toNat).toInt, (xs (i + 2).toNat).toInt]) (st := []) c_X9_remove hX lk_law_79_X9_remove hz hS e1 (Nat.le_of_ble_eq_true rfl) dL_law_630 ?_
  refine cs_V_aload_n (i := 2) (q := 10) hX dL_law_633 rfl (by decide) ?_
  refine law_arg (j := 1) hX hs hi (by decide) dL_law_634 dL_law_635 dL_law_636 dL_law_637 dL_law_638 ?_
  refine law_arg (j := 2) hX hs hi (by decide) dL_law_639 dL_law_640 dL_law_641 dL_law_642 dL_law_643 ?_
  refine cs_V_callV (Mc := m_X10_remove) (zs := [(xs (i + 1).toNat).toInt, (xs (i + 2).toNat).toInt]) (st := [.inl r]) c_X10_remove hX lk_law_82_X10_remove hz g1.2.1 e2 (Nat.le_of_ble_eq_true rfl) dL_law_644 ?_
  exact cs_V_icmp_eq (tgt := 902) hX dL_law_647 (by decide) (g1.1 r rfl) (g1.1 r rfl) (fun _ => k σ2 g2.2.1 hJ2) (fun h => absurd rfl h)
theorem law_c16 (hX : cs_Ok m_law X) (hs : cs_Scr X len xs) (hi : 0 ≤ i ∧ i + 6 ≤ len ∧ len ≤ 3072) (hS : cs_InS σ) (hJ : JJ σ) (k : ∀ σ2, cs_InS σ2 → JJ σ2 → cs_V m_law X 902 (lL i) [] σ2) : cs_V m_law X 652 (lL i) [] σ := by
  obtain ⟨r, σ1, σ2, e1, e2, hJ2⟩ := Sq_insert hJ ((xs (i + 1).toNat).toInt) ((xs (i + 2).toNat).toInt)
  have hz : ∀ z ∈ ([(xs (i + 1).toNat).toInt, (xs (i + 2).toNat).toInt] : List Int), cs_InR z := List.forall_mem_cons.mpr ⟨cs_inR _, List.forall_mem_cons.mpr ⟨cs_inR _, fun _ h => absurd h List.not_mem_nil⟩⟩
  have g1 := c_X9_insert _ σ _ σ1 hz hS e1
  have g2 := c_X10_insert _ σ1 _ σ2 hz g1.2.1 e2
  refine cs_V_aload_n (i := 1) (q := 0) hX dL_law_652 rfl (by decide) ?_
  refine law_arg (j := 1) hX hs hi (by decide) dL_law_653 dL_law_654 dL_law_655 dL_law_656 dL_law_657 ?_
  refine law_arg (j := 2) hX hs hi (by decide) dL_law_658 dL_law_659 dL_law_660 dL_law_661 dL_law_662 ?_
  refine cs_V_callV (Mc := m_X9_insert) (zs := [(xs (i + 1).toNat).toInt, (xs (i + 2).toNat).toInt]) (st := []) c_X9_insert hX lk_law_83_X9_insert hz hS e1 (Nat.le_of_ble_eq_true rfl) dL_law_663 ?_
  refine cs_V_aload_n (i := 2) (q := 10) hX dL_law_666 rfl (by decide) ?_
  refine law_arg (j := 1) hX hs hi (by decide) dL_law_667 dL_law_668 dL_law_669 dL_law_670 dL_law_671 ?_
  refine law_arg (j := 2) hX hs hi (by decide) dL_law_672 dL_law_673 dL_law_674 dL_law_675 dL_law_676 ?_
  refine cs_V_callV (Mc := m_X10_insert) (zs := [(xs (i + 1).toNat).toInt, (xs (i + 2).toNat).toInt]) (st := [.inl r]) c_X10_insert hX lk_law_86_X10_insert hz g1.2.1 e2 (Nat.le_of_ble_eq_true rfl) dL_law_677 ?_
  exact cs_V_icmp_eq (tgt := 902) hX dL_law_680 (by decide) (g1.1 r rfl) (g1.1 r rfl) (fun _ => k σ2 g2.2.1 hJ2) (fun h => absurd rfl h)
theorem law_c17 (hX : cs_Ok m_law X) (hs : cs_Scr X len xs) (hi : 0 ≤ i ∧ i + 6 ≤ len ∧ len ≤ 3072) (hS : cs_InS σ) (hJ : JJ σ) (k : ∀ σ2, cs_InS σ2 → JJ σ2 → cs_V m_law X 902 (lL i) [] σ2) : cs_V m_law X 685 (lL i) [] σ := by
  obtain ⟨r, σ1, σ2, e1, e2, hJ2⟩ := Sq_simplify hJ ((xs (i + 1).toNat).toInt)
  have hz : ∀ z ∈ ([(xs (i + 1).toNat).toInt] : List Int), cs_InR z := List.forall_mem_cons.mpr ⟨cs_inR _, fun _ h => absurd h List.not_mem_nil⟩
  have g1 := c_X9_simplify _ σ _ σ1 hz hS e1
  have g2 := c_X10_simplify _ σ1 _ σ2 hz g1.2.1 e2
  refine cs_V_aload_n (i := 1) (q := 0) hX dL_law_685 rfl (by decide) ?_
  refine law_arg (j := 1) hX hs hi (by decide) dL_law_686 dL_law_687 dL_law_688 dL_law_689 dL_law_690 ?_
  refine cs_V_callV (Mc := m_X9_simplify) (zs := [(xs (i + 1).toNat).toInt]) (st := []) c_X9_simplify hX lk_law_87_X9_simplify hz hS e1 (Nat.le_of_ble_eq_true rfl) dL_law_691 ?_
  refine cs_V_aload_n (i := 2) (q := 10) hX dL_law_694 rfl (by decide) ?_
  refine law_arg (j := 1) hX hs hi (by decide) dL_law_695 dL_law_696 dL_law_697 dL_law_698 dL_law_699 ?_
  refine cs_V_callV (Mc := m_X10_simplify) (zs := [(xs (i + 1).toNat).toInt]) (st := [.inl r]) c_X10_simplify hX lk_law_90_X10_simplify hz g1.2.1 e2 (Nat.le_of_ble_eq_true rfl) dL_law_700 ?_
  exact cs_V_icmp_eq (tgt := 902) hX dL_law_703 (by decide) (g1.1 r rfl) (g1.1 r rfl) (fun _ => k σ2 g2.2.1 hJ2) (fun h => absurd rfl h)
theorem law_c18 (hX : cs_Ok m_law X) (hs : cs_Scr X len xs) (hi : 0 ≤ i ∧ i + 6 ≤ len ∧ len ≤ 3072) (hS : cs_InS σ) (hJ : JJ σ) (k : ∀ σ2, cs_InS σ2 → JJ σ2 → cs_V m_law X 902 (lL i) [] σ2) : cs_V m_law X 708 (lL i) [] σ := by
  obtain ⟨r, σ1, σ2, e1, e2, hJ2⟩ := Sq_reduce hJ ((xs (i + 1).toNat).toInt)
  have hz : ∀ z ∈ ([(xs (i + 1).toNat).toInt] : List Int), cs_InR z := List.forall_mem_cons.mpr ⟨cs_inR _, fun _ h => absurd h List.not_mem_nil⟩
  have g1 := c_X9_reduce _ σ _ σ1 hz hS e1
  have g2 := c_X10_reduce _ σ1 _ σ2 hz g1.2.1 e2
  refine cs_V_aload_n (i := 1) (q := 0) hX dL_law_708 rfl (by decide) ?_
  refine law_arg (j := 1) hX hs hi (by decide) dL_law_709 dL_law_710 dL_law_711 dL_law_712 dL_law_713 ?_
  refine cs_V_callV (Mc := m_X9_reduce) (zs := [(xs (i + 1).toNat).toInt]) (st := []) c_X9_reduce hX lk_law_91_X9_reduce hz hS e1 (Nat.le_of_ble_eq_true rfl) dL_law_714 ?_
  refine cs_V_aload_n (i := 2) (q := 10) hX dL_law_717 rfl (by decide) ?_
  refine law_arg (j := 1) hX hs hi (by decide) dL_law_718 dL_law_719 dL_law_720 dL_law_721 dL_law_722 ?_
  refine cs_V_callV (Mc := m_X10_reduce) (zs := [(xs (i + 1).toNat).toInt]) (st := [.inl r]) c_X10_reduce hX lk_law_94_X10_reduce hz g1.2.1 e2 (Nat.le_of_ble_eq_true rfl) dL_law_723 ?_
  exact cs_V_icmp_eq (tgt := 902) hX dL_law_726 (by decide) (g1.1 r rfl) (g1.1 r rfl) (fun _ => k σ2 g2.2.1 hJ2) (fun h => absurd rfl h)
theorem law_c19 (hX : cs_Ok m_law X) (hs : cs_Scr X len xs) (hi : 0 ≤ i ∧ i + 6 ≤ len ∧ len ≤ 3072) (hS : cs_InS σ) (hJ : JJ σ) (k : ∀ σ2, cs_InS σ2 → JJ σ2 → cs_V m_law X 902 (lL i) [] σ2) : cs_V m_law X 731 (lL i) [] σ := by
  obtain ⟨r, σ1, σ2, e1, e2, hJ2⟩ := Sq_limitFor hJ ((xs (i + 1).toNat).toInt)
  have hz : ∀ z ∈ ([(xs (i + 1).toNat).toInt] : List Int), cs_InR z := List.forall_mem_cons.mpr ⟨cs_inR _, fun _ h => absurd h List.not_mem_nil⟩
  have g1 := c_X9_limitFor _ σ _ σ1 hz hS e1
  have g2 := c_X10_limitFor _ σ1 _ σ2 hz g1.2.1 e2
  refine cs_V_aload_n (i := 1) (q := 0) hX dL_law_731 rfl (by decide) ?_
  refine law_arg (j := 1) hX hs hi (by decide) dL_law_732 dL_law_733 dL_law_734 dL_law_735 dL_law_736 ?_
  refine cs_V_callV (Mc := m_X9_limitFor) (zs := [(xs (i + 1).toNat).toInt]) (st := []) c_X9_limitFor hX lk_law_95_X9_limitFor hz hS e1 (Nat.le_of_ble_eq_true rfl) dL_law_737 ?_
  refine cs_V_aload_n (i := 2) (q := 10) hX dL_law_740 rfl (by decide) ?_
  refine law_arg (j := 1) hX hs hi (by decide) dL_law_741 dL_law_742 dL_law_743 dL_law_744 dL_law_745 ?_
  refine cs_V_callV (Mc := m_X10_limitFor) (zs := [(xs (i + 1).toNat).toInt]) (st := [.inl r]) c_X10_limitFor hX lk_law_98_X10_limitFor hz g1.2.1 e2 (Nat.le_of_ble_eq_true rfl) dL_law_746 ?_
  exact cs_V_icmp_eq (tgt := 902) hX dL_law_749 (by decide) (g1.1 r rfl) (g1.1 r rfl) (fun _ => k σ2 g2.2.1 hJ2) (fun h => absurd rfl h)
theorem law_c20 (hX : cs_Ok m_law X) (hs : cs_Scr X len xs) (hi : 0 ≤ i ∧ i + 6 ≤ len ∧ len ≤ 3072) (hS : cs_InS σ) (hJ : JJ σ) (k : ∀ σ2, cs_InS σ2 → JJ σ2 → cs_V m_law X 902 (lL i) [] σ2) : cs_V m_law X 754 (lL i) [] σ := by
  obtain ⟨r, σ1, σ2, e1, e2, hJ2⟩ := Sq_undo hJ 
  have hz : ∀ z ∈ ([] : List Int), cs_InR z := fun _ h => absurd h List.not_mem_nil
  have g1 := c_X9_undo _ σ _ σ1 hz hS e1
  have g2 := c_X10_undo _ σ1 _ σ2 hz g1.2.1 e2
  refine cs_V_aload_n (i := 1) (q := 0) hX dL_law_754 rfl (by decide) ?_
  refine cs_V_callV (Mc := m_X9_undo) (zs := []) (st := []) c_X9_undo hX lk_law_99_X9_undo hz hS e1 (Nat.le_of_ble_eq_true rfl) dL_law_755 ?_
  refine cs_V_aload_n (i := 2) (q := 10) hX dL_law_758 rfl (by decide) ?_
  refine cs_V_callV (Mc := m_X10_undo) (zs := []) (st := [.inl r]) c_X10_undo hX lk_law_102_X10_undo hz g1.2.1 e2 (Nat.le_of_ble_eq_true rfl) dL_law_759 ?_
  exact cs_V_icmp_eq (tgt := 902) hX dL_law_762 (by decide) (g1.1 r rfl) (g1.1 r rfl) (fun _ => k σ2 g2.2.1 hJ2) (fun h => absurd rfl h)
theorem law_c21 (hX : cs_Ok m_law X) (hs : cs_Scr X len xs) (hi : 0 ≤ i ∧ i + 6 ≤ len ∧ len ≤ 3072) (hS : cs_InS σ) (hJ : JJ σ) (k : ∀ σ2, cs_InS σ2 → JJ σ2 → cs_V m_law X 902 (lL i) [] σ2) : cs_V m_law X 767 (lL i) [] σ := by
  obtain ⟨r, σ1, σ2, e1, e2, hJ2⟩ := Sq_refine hJ 
  have hz : ∀ z ∈ ([] : List Int), cs_InR z := fun _ h => absurd h List.not_mem_nil
  have g1 := c_X9_refine _ σ _ σ1 hz hS e1
  have g2 := c_X10_refine _ σ1 _ σ2 hz g1.2.1 e2
  refine cs_V_aload_n (i := 1) (q := 0) hX dL_law_767 rfl (by decide) ?_
  refine cs_V_callV (Mc := m_X9_refine) (zs := []) (st := []) c_X9_refine hX lk_law_103_X9_refine hz hS e1 (Nat.le_of_ble_eq_true rfl) dL_law_768 ?_
  refine cs_V_aload_n (i := 2) (q := 10) hX dL_law_771 rfl (by decide) ?_
  refine cs_V_callV (Mc := m_X10_refine) (zs := []) (st := [.inl r]) c_X10_refine hX lk_law_106_X10_refine hz g1.2.1 e2 (Nat.le_of_ble_eq_true rfl) dL_law_772 ?_
  exact cs_V_icmp_eq (tgt := 902) hX dL_law_775 (by decide) (g1.1 r rfl) (g1.1 r rfl) (fun _ => k σ2 g2.2.1 hJ2) (fun h => absurd rfl h)
theorem law_c22 (hX : cs_Ok m_law X) (hs : cs_Scr X len xs) (hi : 0 ≤ i ∧ i + 6 ≤ len ∧ len ≤ 3072) (hS : cs_InS σ) (hJ : JJ σ) (k : ∀ σ2, cs_InS σ2 → JJ σ2 → cs_V m_law X 902 (lL i) [] σ2) : cs_V m_law X 780 (lL i) [] σ := by
  obtain ⟨r, σ1, σ2, e1, e2, hJ2⟩ := Sq_covers hJ ((xs (i + 1).toNat).toInt) ((xs (i + 2).toNat).toInt) ((xs (i + 3).toNat).toInt)
  have hz : ∀ z ∈ ([(xs (i + 1).toNat).toInt, (xs (i + 2).toNat).toInt, (xs (i + 3).toNat).toInt] : List Int), cs_InR z := List.forall_mem_cons.mpr ⟨cs_inR _, List.forall_mem_cons.mpr ⟨cs_inR _, List.forall_mem_cons.mpr ⟨cs_inR _, fun _ h => absurd h List.not_mem_nil⟩⟩⟩
  have g1 := c_X9_covers _ σ _ σ1 hz hS e1
  have g2 := c_X10_covers _ σ1 _ σ2 hz g1.2.1 e2
  refine cs_V_aload_n (i := 1) (q := 0) hX dL_law_780 rfl (by decide) ?_
  refine law_arg (j := 1) hX hs hi (by decide) dL_law_781 dL_law_782 dL_law_783 dL_law_784 dL_law_785 ?_
  refine law_arg (j := 2) hX hs hi (by decide) dL_law_786 dL_law_787 dL_law_788 dL_law_789 dL_law_790 ?_
  refine law_arg (j := 3) hX hs hi (by decide) dL_law_791 dL_law_792 dL_law_793 dL_law_794 dL_law_795 ?_
  refine cs_V_callV (Mc := m_X9_covers) (zs := [(xs (i + 1).toNat).toInt, (xs (i + 2).toNat).toInt, (xs (i + 3).toNat).toInt]) (st := []) c_X9_covers hX lk_law_107_X9_covers hz hS e1 (Nat.le_of_ble_eq_true rfl) dL_law_796 ?_
  refine cs_V_aload_n (i := 2) (q := 10) hX dL_law_799 rfl (by decide) ?_
  refine law_arg (j := 1) hX hs hi (by decide) dL_law_800 dL_law_801 dL_law_802 dL_law_803 dL_law_804 ?_
  refine law_arg (j := 2) hX hs hi (by decide) dL_law_805 dL_law_806 dL_law_807 dL_law_808 dL_law_809 ?_
  refine law_arg (j := 3) hX hs hi (by decide) dL_law_810 dL_law_811 dL_law_812 dL_law_813 dL_law_814 ?_
  refine cs_V_callV (Mc := m_X10_covers) (zs := [(xs (i + 1).toNat).toInt, (xs (i + 2).toNat).toInt, (xs (i + 3).toNat).toInt]) (st := [.inl r]) c_X10_covers hX lk_law_110_X10_covers hz g1.2.1 e2 (Nat.le_of_ble_eq_true rfl) dL_law_815 ?_
  exact cs_V_icmp_eq (tgt := 902) hX dL_law_818 (by decide) (g1.1 r rfl) (g1.1 r rfl) (fun _ => k σ2 g2.2.1 hJ2) (fun h => absurd rfl h)
theorem law_c23 (hX : cs_Ok m_law X) (hs : cs_Scr X len xs) (hi : 0 ≤ i ∧ i + 6 ≤ len ∧ len ≤ 3072) (hS : cs_InS σ) (hJ : JJ σ) (k : ∀ σ2, cs_InS σ2 → JJ σ2 → cs_V m_law X 902 (lL i) [] σ2) : cs_V m_law X 823 (lL i) [] σ := by
  obtain ⟨r, σ1, σ2, e1, e2, hJ2⟩ := Sq_isCovered hJ ((xs (i + 1).toNat).toInt) ((xs (i + 2).toNat).toInt)
  have hz : ∀ z ∈ ([(xs (i + 1).toNat).toInt, (xs (i + 2).toNat).toInt] : List Int), cs_InR z := List.forall_mem_cons.mpr ⟨cs_inR _, List.forall_mem_cons.mpr ⟨cs_inR _, fun _ h => absurd h List.not_mem_nil⟩⟩
  have g1 := c_X9_isCovered _ σ _ σ1 hz hS e1
  have g2 := c_X10_isCovered _ σ1 _ σ2 hz g1.2.1 e2
  refine cs_V_aload_n (i := 1) (q := 0) hX dL_law_823 rfl (by decide) ?_
  refine law_arg (j := 1) hX hs hi (by decide) dL_law_824 dL_law_825 dL_law_826 dL_law_827 dL_law_828 ?_
  refine law_arg (j := 2) hX hs hi (by decide) dL_law_829 dL_law_830 dL_law_831 dL_law_832 dL_law_833 ?_
  refine cs_V_callV (Mc := m_X9_isCovered) (zs := [(xs (i + 1).toNat).toInt, (xs (i + 2).toNat).toInt]) (st := []) c_X9_isCovered hX lk_law_111_X9_isCovered hz hS e1 (Nat.le_of_ble_eq_true rfl) dL_law_834 ?_
  refine cs_V_aload_n (i := 2) (q := 10) hX dL_law_837 rfl (by decide) ?_
  refine law_arg (j := 1) hX hs hi (by decide) dL_law_838 dL_law_839 dL_law_840 dL_law_841 dL_law_842 ?_
  refine law_arg (j := 2) hX hs hi (by decide) dL_law_843 dL_law_844 dL_law_845 dL_law_846 dL_law_847 ?_
  refine cs_V_callV (Mc := m_X10_isCovered) (zs := [(xs (i + 1).toNat).toInt, (xs (i + 2).toNat).toInt]) (st := [.inl r]) c_X10_isCovered hX lk_law_114_X10_isCovered hz g1.2.1 e2 (Nat.le_of_ble_eq_true rfl) dL_law_848 ?_
  exact cs_V_icmp_eq (tgt := 902) hX dL_law_851 (by decide) (g1.1 r rfl) (g1.1 r rfl) (fun _ => k σ2 g2.2.1 hJ2) (fun h => absurd rfl h)
theorem law_c24 (hX : cs_Ok m_law X) (hs : cs_Scr X len xs) (hi : 0 ≤ i ∧ i + 6 ≤ len ∧ len ≤ 3072) (hS : cs_InS σ) (hJ : JJ σ) (k : ∀ σ2, cs_InS σ2 → JJ σ2 → cs_V m_law X 902 (lL i) [] σ2) : cs_V m_law X 856 (lL i) [] σ := by
  obtain ⟨r, σ1, σ2, e1, e2, hJ2⟩ := Sq_misfit hJ 
  have hz : ∀ z ∈ ([] : List Int), cs_InR z := fun _ h => absurd h List.not_mem_nil
  have g1 := c_X9_misfit _ σ _ σ1 hz hS e1
  have g2 := c_X10_misfit _ σ1 _ σ2 hz g1.2.1 e2
  refine cs_V_aload_n (i := 1) (q := 0) hX dL_law_856 rfl (by decide) ?_
  refine cs_V_callV (Mc := m_X9_misfit) (zs := []) (st := []) c_X9_misfit hX lk_law_115_X9_misfit hz hS e1 (Nat.le_of_ble_eq_true rfl) dL_law_857 ?_
  refine cs_V_aload_n (i := 2) (q := 10) hX dL_law_860 rfl (by decide) ?_
  refine cs_V_callV (Mc := m_X10_misfit) (zs := []) (st := [.inl r]) c_X10_misfit hX lk_law_118_X10_misfit hz g1.2.1 e2 (Nat.le_of_ble_eq_true rfl) dL_law_861 ?_
  exact cs_V_icmp_eq (tgt := 902) hX dL_law_864 (by decide) (g1.1 r rfl) (g1.1 r rfl) (fun _ => k σ2 g2.2.1 hJ2) (fun h => absurd rfl h)
theorem law_c25 (hX : cs_Ok m_law X) (hs : cs_Scr X len xs) (hi : 0 ≤ i ∧ i + 6 ≤ len ∧ len ≤ 3072) (hS : cs_InS σ) (hJ : JJ σ) (k : ∀ σ2, cs_InS σ2 → JJ σ2 → cs_V m_law X 902 (lL i) [] σ2) : cs_V m_law X 869 (lL i) [] σ := by
  obtain ⟨r, σ1, σ2, e1, e2, hJ2⟩ := Sq_deviation hJ ((xs (i + 1).toNat).toInt) ((xs (i + 2).toNat).toInt)
  have hz : ∀ z ∈ ([(xs (i + 1).toNat).toInt, (xs (i + 2).toNat).toInt] : List Int), cs_InR z := List.forall_mem_cons.mpr ⟨cs_inR _, List.forall_mem_cons.mpr ⟨cs_inR _, fun _ h => absurd h List.not_mem_nil⟩⟩
  have g1 := c_X9_deviation _ σ _ σ1 hz hS e1
  have g2 := c_X10_deviation _ σ1 _ σ2 hz g1.2.1 e2
  refine cs_V_aload_n (i := 1) (q := 0) hX dL_law_869 rfl (by decide) ?_
  refine law_arg (j := 1) hX hs hi (by decide) dL_law_870 dL_law_871 dL_law_872 dL_law_873 dL_law_874 ?_
  refine law_arg (j := 2) hX hs hi (by decide) dL_law_875 dL_law_876 dL_law_877 dL_law_878 dL_law_879 ?_
  refine cs_V_callV (Mc := m_X9_deviation) (zs := [(xs (i + 1).toNat).toInt, (xs (i + 2).toNat).toInt]) (st := []) c_X9_deviation hX lk_law_119_X9_deviation hz hS e1 (Nat.le_of_ble_eq_true rfl) dL_law_880 ?_
  refine cs_V_aload_n (i := 2) (q := 10) hX dL_law_883 rfl (by decide) ?_
  refine law_arg (j := 1) hX hs hi (by decide) dL_law_884 dL_law_885 dL_law_886 dL_law_887 dL_law_888 ?_
  refine law_arg (j := 2) hX hs hi (by decide) dL_law_889 dL_law_890 dL_law_891 dL_law_892 dL_law_893 ?_
  refine cs_V_callV (Mc := m_X10_deviation) (zs := [(xs (i + 1).toNat).toInt, (xs (i + 2).toNat).toInt]) (st := [.inl r]) c_X10_deviation hX lk_law_122_X10_deviation hz g1.2.1 e2 (Nat.le_of_ble_eq_true rfl) dL_law_894 ?_
  exact cs_V_icmp_eq (tgt := 902) hX dL_law_897 (by decide) (g1.1 r rfl) (g1.1 r rfl) (fun _ => k σ2 g2.2.1 hJ2) (fun h => absurd rfl h)
abbrev lawT : List Nat := [152, 185, 228, 291, 334, 367, 392, 405, 418, 451, 474, 507, 550, 573, 606, 619, 652, 685, 708, 731, 754, 767, 780, 823, 856, 869]
theorem law_sw {a : Int} {L : cs_L} {st : List (Int ⊕ Nat)} (hX : cs_Ok m_law X) (ra : cs_InR a) (hin : ∀ (n t : Nat), lawT[n]? = some t → cs_V m_law X t L st σ) (hout : cs_V m_law X 902 L st σ) : cs_V m_law X 33 L (.inl a :: st) σ := by
  obtain ⟨⟨p, l, e, R⟩, ⟨s, m, args, below⟩, ⟨meth, c0⟩, ⟨cells, slots, Q⟩, ⟨adr, ac, D, A⟩⟩ := X
  obtain ⟨⟨hx, hb, -⟩, -⟩ := hX
  intro ls H locs h1 h2 h3
  by_cases h : 0 ≤ a ∧ a < 26
  · have hn : a.toNat < lawT.length := by show a.toNat < 26; omega
    have ht := List.getElem?_eq_getElem hn
    have hT : (#[119, 152, 195, 258, 301, 334, 359, 372, 385, 418, 441, 474, 517, 540, 573, 586, 619, 652, 675, 698, 721, 734, 747, 790, 823, 836] : Array Int).toList.map (fun o => (33 : Int) + o) = lawT.map (fun t : Nat => (t : Int)) := by decide
    obtain ⟨off, hof⟩ : ∃ off, (#[119, 152, 195, 258, 301, 334, 359, 372, 385, 418, 441, 474, 517, 540, 573, 586, 619, 652, 675, 698, 721, 734, 747, 790, 823, 836] : Array Int).toList[a.toNat]? = some off := ⟨_, List.getElem?_eq_getElem (show a.toNat < 26 by omega)⟩
    have hpt : (33 : Int) + off = ((lawT[a.toNat] : Nat) : Int) := by
      have h5 := congrArg (fun l => l[a.toNat]?) hT
      simp only [List.getElem?_map, hof, ht, Option.map_some] at h5
      exact Option.some.inj h5
    refine lv_tableIn hx hb dL_law_33 (by rw [cs_qT ra]; omega) (by rw [cs_qT ra]; omega) (off := off) (tgt := lawT[a.toNat]) ?_ hpt (hin _ _ ht ls H locs h1 h2 h3)
    rw [cs_qT ra, Int.sub_zero, ← Array.getElem?_toList]
    exact hof
  · exact lv_tableOut hx hb dL_law_33 (by rw [cs_qT ra]; omega) (by decide) (hout ls H locs h1 h2 h3)
theorem law_case (hX : cs_Ok m_law X) (hs : cs_Scr X len xs) (hi : 0 ≤ i ∧ i + 6 ≤ len ∧ len ≤ 3072) (hS : cs_InS σ) (hJ : JJ σ) (k : ∀ σ2, cs_InS σ2 → JJ σ2 → cs_V m_law X 902 (lL i) [] σ2) (n t : Nat) (h : lawT[n]? = some t) : cs_V m_law X t (lL i) [] σ := by
  have hn : n < 26 := (List.getElem?_eq_some_iff.mp h).1
  have hn2 : n = 0 ∨ n = 1 ∨ n = 2 ∨ n = 3 ∨ n = 4 ∨ n = 5 ∨ n = 6 ∨ n = 7 ∨ n = 8 ∨ n = 9 ∨ n = 10 ∨ n = 11 ∨ n = 12 ∨ n = 13 ∨ n = 14 ∨ n = 15 ∨ n = 16 ∨ n = 17 ∨ n = 18 ∨ n = 19 ∨ n = 20 ∨ n = 21 ∨ n = 22 ∨ n = 23 ∨ n = 24 ∨ n = 25 := by omega
  rcases hn2 with rfl | rfl | rfl | rfl | rfl | rfl | rfl | rfl | rfl | rfl | rfl | rfl | rfl | rfl | rfl | rfl | rfl | rfl | rfl | rfl | rfl | rfl | rfl | rfl | rfl | rfl
  · obtain rfl := Option.some.inj h
    exact law_c0 hX hs hi hS hJ k
  · obtain rfl := Option.some.inj h
    exact law_c1 hX hs hi hS hJ k
  · obtain rfl := Option.some.inj h
    exact law_c2 hX hs hi hS hJ k
  · obtain rfl := Option.some.inj h
    exact law_c3 hX hs hi hS hJ k
  · obtain rfl := Option.some.inj h
    exact law_c4 hX hs hi hS hJ k
  · obtain rfl := Option.some.inj h
    exact law_c5 hX hs hi hS hJ k
  · obtain rfl := Option.some.inj h
    exact law_c6 hX hs hi hS hJ k
  · obtain rfl := Option.some.inj h
    exact law_c7 hX hs hi hS hJ k
  · obtain rfl := Option.some.inj h
    exact law_c8 hX hs hi hS hJ k
  · obtain rfl := Option.some.inj h
    exact law_c9 hX hs hi hS hJ k
  · obtain rfl := Option.some.inj h
    exact law_c10 hX hs hi hS hJ k
  · obtain rfl := Option.some.inj h
    exact law_c11 hX hs hi hS hJ k
  · obtain rfl := Option.some.inj h
    exact law_c12 hX hs hi hS hJ k
  · obtain rfl := Option.some.inj h
    exact law_c13 hX hs hi hS hJ k
  · obtain rfl := Option.some.inj h
    exact law_c14 hX hs hi hS hJ k
  · obtain rfl := Option.some.inj h
    exact law_c15 hX hs hi hS hJ k
  · obtain rfl := Option.some.inj h
    exact law_c16 hX hs hi hS hJ k
  · obtain rfl := Option.some.inj h
    exact law_c17 hX hs hi hS hJ k
  · obtain rfl := Option.some.inj h
    exact law_c18 hX hs hi hS hJ k
  · obtain rfl := Option.some.inj h
    exact law_c19 hX hs hi hS hJ k
  · obtain rfl := Option.some.inj h
    exact law_c20 hX hs hi hS hJ k
  · obtain rfl := Option.some.inj h
    exact law_c21 hX hs hi hS hJ k
  · obtain rfl := Option.some.inj h
    exact law_c22 hX hs hi hS hJ k
  · obtain rfl := Option.some.inj h
    exact law_c23 hX hs hi hS hJ k
  · obtain rfl := Option.some.inj h
    exact law_c24 hX hs hi hS hJ k
  · obtain rfl := Option.some.inj h
    exact law_c25 hX hs hi hS hJ k
theorem law_loop (hX : cs_Ok m_law X) (hs : cs_Scr X len xs) (hlen : len ≤ 3072) (hend : ∀ (L : cs_L) (σ : cs_S), cs_V m_law X 909 L [.inl 1] σ) : ∀ (n : Nat) (i : Int) (σ : cs_S), 0 ≤ i → i ≤ len + 6 → (len : Int) + 6 - i < n → cs_InS σ → JJ σ → cs_V m_law X 18 (lL i) [] σ
  | 0, i, σ, h0, h1, h2, _, _ => by omega
  | n + 1, i, σ, h0, h1, h2, hS, hJ => by
    refine cs_V_iload_n (i := 3) (z := i) hX dL_law_18 rfl rfl ?_
    refine cs_V_aload_n (i := 0) (q := 104) hX dL_law_19 rfl (by decide) ?_
    refine cs_V_slen hX hs (by omega) dL_law_20 ?_
    refine cs_V_bipush (z := 6) hX dL_law_21 (by decide +kernel) ?_
    refine cs_V_isub hX dL_law_23 ?_
    refine cs_V_icmp_gt (tgt := 908) hX dL_law_24 (by decide) (by omega) (by omega) (fun _ => ?_) (fun h => ?_)
    · exact cs_V_iconst (z := 1) hX dL_law_908 rfl (hend _ _)
    · refine cs_V_aload_n (i := 0) (q := 104) hX dL_law_27 rfl (by decide) ?_
      refine cs_V_iload_n (i := 3) (z := i) hX dL_law_28 rfl rfl ?_
      refine cs_V_sld hX hs h0 (by omega) (by omega) dL_law_29 ?_
      refine cs_V_bipush (z := 31) hX dL_law_30 (by decide +kernel) ?_
      refine cs_V_iand hX dL_law_32 ?_
      have kn : ∀ σ2, cs_InS σ2 → JJ σ2 → cs_V m_law X 902 (lL i) [] σ2 := fun σ2 hS2 hJ2 => by
        refine cs_V_iinc (i := 3) (z := i) hX dL_law_902 rfl (by decide) (by decide) ?_
        refine cs_V_goto (tgt := 18) hX dL_law_905 (by decide) ?_
        exact law_loop hX hs hlen hend n (i + 6) σ2 (by omega) (by omega) (by omega) hS2 hJ2
      exact law_sw hX (cs_inR _) (law_case hX hs ⟨h0, by omega, hlen⟩ hS hJ kn) (kn σ hS hJ)
end LW
