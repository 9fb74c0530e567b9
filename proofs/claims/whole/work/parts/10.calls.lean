/-! contracts and calls -/
def cs_av : List (Option Nat) → List Int → List (Int ⊕ Nat)
  | [], _ => []
  | some p :: t, zs => .inr p :: cs_av t zs
  | none :: t, z :: zs => .inl z :: cs_av t zs
  | none :: t, [] => .inl 0 :: cs_av t []
def cs_L0 : List (Option Nat) → List Int → cs_L
  | [], _ => []
  | some _ :: t, zs => none :: cs_L0 t zs
  | none :: t, z :: zs => some z :: cs_L0 t zs
  | none :: t, [] => some 0 :: cs_L0 t []
theorem cs_av_len : ∀ (sg : List (Option Nat)) (zs : List Int), (cs_av sg zs).length = sg.length
  | [], _ => rfl
  | some _ :: t, zs => by simp [cs_av, cs_av_len t zs]
  | none :: t, z :: zs => by simp [cs_av, cs_av_len t zs]
  | none :: t, [] => by simp [cs_av, cs_av_len t []]
abbrev cs_F : Type := List Int → cs_S → Option (Option Int × cs_S)
def cs_Pre (M : cs_M) (adr : Nat → Nat) (ac : FieldType → ClassId) (D : va_G) (σ : cs_S) (sz : Nat) (U : State) : Prop :=
  U.heap.size = sz ∧ va_P D cs_cl (cs_wl (cs_sh M) adr ac σ) U.heap ∧ va_K D cs_cl (cs_tys ac) U ∧ cs_NW U ∧ cs_RO adr (cs_A (cs_sh M).length adr sz) U U.heap ∧ ∀ i j, i < (cs_sh M).length → j < (cs_sh M).length → adr i = adr j → i = j
def cs_Post (M : cs_M) (adr : Nat → Nat) (ac : FieldType → ClassId) (D : va_G) (σ : cs_S) (sz : Nat) (r : Option Int) : Array Value → State → Outcome → State → Prop := match r with
  | none => va_Qv (fun _ : Unit => True) (fun _ t => va_P D cs_cl (cs_wl (cs_sh M) adr ac σ) t.heap) (cs_A (cs_sh M).length adr sz)
  | some z => va_Qi (fun (x : Int32) (_ : Unit) => x = cs_q z) (fun _ t => va_P D cs_cl (cs_wl (cs_sh M) adr ac σ) t.heap) (cs_A (cs_sh M).length adr sz)
def cs_rm (d : Nat) : Room := { frames := d, cells := 0, slots := 0, locals := 39 * d }
/-- the contract: where the function answers, the method does, and so -/
def cs_Con (M : cs_M) (f : cs_F) : Prop := ∀ (zs : List Int) (σ : cs_S) (r : Option Int) (σ' : cs_S), (∀ z ∈ zs, cs_InR z) → cs_InS σ → f zs σ = some (r, σ') →
  (∀ z, r = some z → cs_InR z) ∧ cs_InS σ' ∧ ∀ (l : Launch) (adr : Nat → Nat) (ac : FieldType → ClassId) (D : va_G) (sz : Nat),
    Met l (cs_y M) (cs_ws (cs_y M) (cs_cc M) (cs_nL M) (cs_rt M)) (cs_rm (cs_d M)) (va_Pc ((cs_av (cs_sig M) zs).map (cs_cv adr)) (cs_Pre M adr ac D σ sz)) (cs_Post M adr ac D σ' sz r) 0 0 (cs_A (cs_sh M).length adr sz)
theorem cs_blind {M : cs_M} {adr : Nat → Nat} {ac : FieldType → ClassId} {D : va_G} {σ : cs_S} {sz : Nat} {av : List Value} : FrameBlind (va_Pc av (cs_Pre M adr ac D σ sz)) := by
  intro a U g mk h
  obtain ⟨h0, h1, h2, h3, h4, h5, h6⟩ := h
  refine ⟨h0, h1, h2, va_K.moved (u := U) (U := U.calling g mk a) (Vm.Alike.refl U.vm) h3, cs_NW_same (s := U) (U := U.calling g mk a) rfl h4, fun r hr => ?_, h6⟩
  obtain ⟨g1, g2, g3, g4⟩ := h5 r hr
  exact ⟨va_Z.moved (u := U) (U := U.calling g mk a) (Vm.Alike.refl U.vm) g1, va_T.moved (u := U) (U := U.calling g mk a) (Vm.Alike.refl U.vm) g2, g3, g4⟩
/-- the static part of a call -/
def cs_LB (M Mc : cs_M) (index : Nat) (n : Nat) : Prop :=
  Cond.code (cs_y Mc) (cs_cc Mc) (cs_nL Mc) (cs_rt Mc) ∈ cs_gt ∧ Cond.initialized (cs_y Mc).cls ∈ cs_gt ∧ ((cs_y Mc).cls ≠ "java/lang/invoke/MethodHandle" ∧ (cs_y Mc).cls ≠ "java/lang/invoke/VarHandle" ∧ (parseMethodDescriptor (cs_y Mc).desc).map (fun d => d.parameters.length) = some n) ∧
  (cs_d Mc + 1 ≤ cs_d M ∧ cs_nL Mc ≤ 20) ∧ cs_sh Mc = cs_sh M ∧ (Cond.methodLink (cs_own M) index (cs_y Mc) ∈ cs_gt ∨ ∃ host, Cond.methodLinkNest (cs_own M) index (cs_y Mc) host ∈ cs_nest)
def cs_LV (M Mc : cs_M) (index : Nat) : Prop := ∃ (p ci N : Nat) (sg fs : List (Option Nat)) (T : u_T), cs_sig Mc = some p :: sg ∧ (cs_sh M)[p]? = some (.inl (ci, fs)) ∧ cs_cl[ci]? = some ((cs_y Mc).cls, T, N) ∧ Cond.instanceMethod (cs_y Mc) ∈ cs_gt ∧ Cond.selects (cs_y Mc).cls (cs_y Mc) (cs_y Mc) ∈ cs_gt ∧ cs_LB M Mc index sg.length
def cs_LS (M Mc : cs_M) (index : Nat) : Prop := Cond.static (cs_y Mc) ∈ cs_gt ∧ cs_LB M Mc index (cs_sig Mc).length
section VC
variable {M : cs_M} {X : cs_X} {pc : Nat} {L : cs_L} {st : List (Int ⊕ Nat)} {σ : cs_S}
theorem cs_cat_sum (adr : Nat → Nat) (st : List (Int ⊕ Nat)) : ((st.map (cs_cv adr)).map fun v => v.category).sum = st.length := by
  induction st with
  | nil => rfl
  | cons a t ih => simp only [List.map_cons, List.sum_cons, List.length_cons, cs_cv_cat, ih]; omega
theorem cs_A_sub {n sz0 sz : Nat} {adr : Nat → Nat} {A : Nat → Prop} (hA : ∀ i, i < n → A (adr i)) (hA2 : ∀ q, sz0 ≤ q → A q) (h : sz0 ≤ sz) : ∀ q, cs_A n adr sz q → A q := by
  rintro q (⟨k, hk, rfl⟩ | hq)
  · exact hA k hk
  · exact hA2 q (Nat.le_trans h hq)
theorem cs_RO_move {adr : Nat → Nat} {A B : Nat → Prop} {s U : State} {H : Heap} {locs : List Loc} (hvm : s.vm.Alike U.vm) (h : cs_RO adr A s s.heap) (hS : va_S A s.heap H locs) (hAB : ∀ q, B q → A q) : cs_RO adr B U H := by
  intro r hr
  obtain ⟨g1, g2, g3, g4⟩ := h r hr
  exact ⟨((g1.moved hvm).kept hS.2.1).narrow hAB, ((g2.moved hvm).kept hS.2.1).narrow hAB, Nat.lt_of_lt_of_le g3 hS.1, fun q => g4 (hAB _ q)⟩
theorem cs_pre {s U : State} {H : Heap} {Mc : cs_M} {adr : Nat → Nat} {ac : FieldType → ClassId} {D : va_G} {A : Nat → Prop} {locs : List Loc} (hsh : cs_sh Mc = cs_sh M) (hi : ∀ i j, i < (cs_sh M).length → j < (cs_sh M).length → adr i = adr j → i = j) (hA : ∀ i, i < (cs_sh M).length → A (adr i)) (hA2 : ∀ q, s.heap.size ≤ q → A q)
    (hK : va_K D cs_cl (cs_tys ac) s) (hn : cs_NW s) (hro : cs_RO adr A s s.heap) (h2 : va_P D cs_cl (cs_wl (cs_sh M) adr ac σ) H) (h3 : va_S A s.heap H locs) (hU : U.heap = H) (hW : s.WarmedH U.vm) : cs_Pre Mc adr ac D σ H.size U := by
  subst hU
  refine ⟨rfl, by rw [hsh]; exact h2, va_K.moved hW.alike hK, cs_NW_warm hW hn, ?_, by rw [hsh]; exact hi⟩
  rw [hsh]
  exact cs_RO_move hW.alike hro h3 (cs_A_sub hA hA2 h3.1)
theorem cs_V_callV {Mc : cs_M} {f : cs_F} {zs : List Int} {index : Nat} {z : Int} {σ' : cs_S} (hc : cs_Con Mc f) (hX : cs_Ok M X) (hL : cs_LV M Mc index) (hzs : ∀ z ∈ zs, cs_InR z) (hS : cs_InS σ) (hf : f zs σ = some (some z, σ')) (hst : st.length ≤ 8) (hd : decode (cs_cc M) pc = .ok (.invokevirtual index, 3)) (kk : cs_V M X (pc + 3) L (.inl z :: st) σ') : cs_V M X pc L ((cs_av (cs_sig Mc) zs).reverse ++ st) σ := by
  obtain ⟨⟨p0, l, e, R⟩, ⟨s, m, args, below⟩, ⟨meth, c⟩, ⟨cells, slots, Q⟩, ⟨adr, ac, D, A⟩⟩ := X
  obtain ⟨⟨hx, hb, hml, -, -, ho⟩, ⟨ht, hn, hK⟩, ⟨hR1, hR2, hR3, hR4⟩, ⟨hi, hA, hA2, hro⟩⟩ := hX
  obtain ⟨p, ci, N, sg, fs, T, e1, e2, e3, e4, e5, e6, e7, e8, ⟨e9, e10⟩, e11, e12⟩ := hL
  intro ls H locs h1 h2 h3
  have hM := (hc zs σ (some z) σ' hzs hS hf).2.2 l adr ac D H.size
  rw [e1] at hM ⊢
  have hstk : ((cs_av (some p :: sg) zs).reverse ++ st).map (cs_cv adr) = ((cs_av sg zs).map (cs_cv adr)).reverse ++ .ref (adr p) :: st.map (cs_cv adr) := by
    simp [cs_av, cs_cv]
  have hsub := cs_A_sub (n := (cs_sh M).length) (adr := adr) hA hA2 h3.1
  have hlen : (cs_sh Mc).length = (cs_sh M).length := by rw [e11]
  have hroom : (cs_rm (cs_d Mc)).frames + 1 ≤ R.frames ∧ 8 + (cs_nL Mc + 11) + (cs_rm (cs_d Mc)).locals ≤ R.locals := ⟨Nat.le_trans e9 hR1, by show 8 + (cs_nL Mc + 11) + 39 * cs_d Mc ≤ R.locals; omega⟩
  have hrecv := va_recv hK h2 e3 (cs_wl_at (adr := adr) (ac := ac) (σ := σ) e2)
  rw [hstk]
  rcases e12 with e12 | ⟨host, e12⟩
  · refine va_calli (va_runV (As := (cs_av sg zs).map (cs_cv adr)) (rest := st.map (cs_cv adr)) ⟨hx, hb, hml, ho, ht⟩ hM ⟨callB_of (n := sg.length) ht (cs_goodIn e6) rfl rfl rfl (ht _ e7) (ht _ e12) e8 hroom, ht _ e4, ht _ e5⟩ ⟨cs_blind, hrecv, fun U hU hW => ⟨by simp [cs_av, cs_cv], cs_pre e11 hi hA hA2 hK hn hro h2 h3 hU hW⟩⟩ rfl (by rw [List.length_map, cs_av_len]) h1.1 rfl (lv_room (by rw [cs_cat_sum]; exact hst)) hd ⟨hR3, hR4⟩) h3 (fun q _ h => hsub q (by rw [hlen] at h; exact h)) (fun q h => hsub q (by rw [hlen] at h; exact h)) (fun r u t H1 locs1 g1 _ g3 g4 _ _ g7 => ?_)
    obtain rfl := g3
    refine kk ls H1 locs1 h1 ?_ g7
    rw [← g1, ← e11]
    exact g4
  · refine va_calli (va_runVN (As := (cs_av sg zs).map (cs_cv adr)) (rest := st.map (cs_cv adr)) ⟨hx, hb, hml, ho, ht⟩ hM ⟨va_cnB sg.length ht (cs_goodIn e6) rfl rfl rfl (hn _ e12) (ht _ e7) e8 hroom, ht _ e4, ht _ e5⟩ ⟨cs_blind, hrecv, fun U hU hW => ⟨by simp [cs_av, cs_cv], cs_pre e11 hi hA hA2 hK hn hro h2 h3 hU hW⟩⟩ rfl (by rw [List.length_map, cs_av_len]) h1.1 rfl (lv_room (by rw [cs_cat_sum]; exact hst)) hd ⟨hR3, hR4⟩) h3 (fun q _ h => hsub q (by rw [hlen] at h; exact h)) (fun q h => hsub q (by rw [hlen] at h; exact h)) (fun r u t H1 locs1 g1 _ g3 g4 _ _ g7 => ?_)
    obtain rfl := g3
    refine kk ls H1 locs1 h1 ?_ g7
    rw [← g1, ← e11]
    exact g4
theorem cs_V_callVv {Mc : cs_M} {f : cs_F} {zs : List Int} {index : Nat} {σ' : cs_S} (hc : cs_Con Mc f) (hX : cs_Ok M X) (hL : cs_LV M Mc index) (hzs : ∀ z ∈ zs, cs_InR z) (hS : cs_InS σ) (hf : f zs σ = some (none, σ')) (hst : st.length ≤ 8) (hd : decode (cs_cc M) pc = .ok (.invokevirtual index, 3)) (kk : cs_V M X (pc + 3) L st σ') : cs_V M X pc L ((cs_av (cs_sig Mc) zs).reverse ++ st) σ := by
  obtain ⟨⟨p0, l, e, R⟩, ⟨s, m, args, below⟩, ⟨meth, c⟩, ⟨cells, slots, Q⟩, ⟨adr, ac, D, A⟩⟩ := X
  obtain ⟨⟨hx, hb, hml, -, -, ho⟩, ⟨ht, hn, hK⟩, ⟨hR1, hR2, hR3, hR4⟩, ⟨hi, hA, hA2, hro⟩⟩ := hX
  obtain ⟨p, ci, N, sg, fs, T, e1, e2, e3, e4, e5, e6, e7, e8, ⟨e9, e10⟩, e11, e12⟩ := hL
  intro ls H locs h1 h2 h3
  have hM := (hc zs σ none σ' hzs hS hf).2.2 l adr ac D H.size
  rw [e1] at hM ⊢
  have hstk : ((cs_av (some p :: sg) zs).reverse ++ st).map (cs_cv adr) = ((cs_av sg zs).map (cs_cv adr)).reverse ++ .ref (adr p) :: st.map (cs_cv adr) := by
    simp [cs_av, cs_cv]
  have hsub := cs_A_sub (n := (cs_sh M).length) (adr := adr) hA hA2 h3.1
  have hlen : (cs_sh Mc).length = (cs_sh M).length := by rw [e11]
  have hroom : (cs_rm (cs_d Mc)).frames + 1 ≤ R.frames ∧ 8 + (cs_nL Mc + 11) + (cs_rm (cs_d Mc)).locals ≤ R.locals := ⟨Nat.le_trans e9 hR1, by show 8 + (cs_nL Mc + 11) + 39 * cs_d Mc ≤ R.locals; omega⟩
  have hrecv := va_recv hK h2 e3 (cs_wl_at (adr := adr) (ac := ac) (σ := σ) e2)
  rw [hstk]
  rcases e12 with e12 | ⟨host, e12⟩
  · refine va_callv (va_runV (As := (cs_av sg zs).map (cs_cv adr)) (rest := st.map (cs_cv adr)) ⟨hx, hb, hml, ho, ht⟩ hM ⟨callB_of (n := sg.length) ht (cs_goodIn e6) rfl rfl rfl (ht _ e7) (ht _ e12) e8 hroom, ht _ e4, ht _ e5⟩ ⟨cs_blind, hrecv, fun U hU hW => ⟨by simp [cs_av, cs_cv], cs_pre e11 hi hA hA2 hK hn hro h2 h3 hU hW⟩⟩ rfl (by rw [List.length_map, cs_av_len]) h1.1 rfl (lv_room (by rw [cs_cat_sum]; exact hst)) hd ⟨hR3, hR4⟩) h3 (fun q _ h => hsub q (by rw [hlen] at h; exact h)) (fun q h => hsub q (by rw [hlen] at h; exact h)) (fun u t H1 locs1 g1 _ g3 g4 _ _ g7 => ?_)
    refine kk ls H1 locs1 h1 ?_ g7
    rw [← g1, ← e11]
    exact g4
  · refine va_callv (va_runVN (As := (cs_av sg zs).map (cs_cv adr)) (rest := st.map (cs_cv adr)) ⟨hx, hb, hml, ho, ht⟩ hM ⟨va_cnB sg.length ht (cs_goodIn e6) rfl rfl rfl (hn _ e12) (ht _ e7) e8 hroom, ht _ e4, ht _ e5⟩ ⟨cs_blind, hrecv, fun U hU hW => ⟨by simp [cs_av, cs_cv], cs_pre e11 hi hA hA2 hK hn hro h2 h3 hU hW⟩⟩ rfl (by rw [List.length_map, cs_av_len]) h1.1 rfl (lv_room (by rw [cs_cat_sum]; exact hst)) hd ⟨hR3, hR4⟩) h3 (fun q _ h => hsub q (by rw [hlen] at h; exact h)) (fun q h => hsub q (by rw [hlen] at h; exact h)) (fun u t H1 locs1 g1 _ g3 g4 _ _ g7 => ?_)
    refine kk ls H1 locs1 h1 ?_ g7
    rw [← g1, ← e11]
    exact g4
theorem cs_V_callS {Mc : cs_M} {f : cs_F} {zs : List Int} {index : Nat} {z : Int} {σ' : cs_S} (hc : cs_Con Mc f) (hX : cs_Ok M X) (hL : cs_LS M Mc index) (hzs : ∀ z ∈ zs, cs_InR z) (hS : cs_InS σ) (hf : f zs σ = some (some z, σ')) (hst : st.length ≤ 8) (hd : decode (cs_cc M) pc = .ok (.invokestatic index, 3)) (kk : cs_V M X (pc + 3) L (.inl z :: st) σ') : cs_V M X pc L ((cs_av (cs_sig Mc) zs).reverse ++ st) σ := by
  obtain ⟨⟨p0, l, e, R⟩, ⟨s, m, args, below⟩, ⟨meth, c⟩, ⟨cells, slots, Q⟩, ⟨adr, ac, D, A⟩⟩ := X
  obtain ⟨⟨hx, hb, hml, -, -, ho⟩, ⟨ht, hn, hK⟩, ⟨hR1, hR2, hR3, hR4⟩, ⟨hi, hA, hA2, hro⟩⟩ := hX
  obtain ⟨e5, e6, e7, e8, ⟨e9, e10⟩, e11, e12⟩ := hL
  intro ls H locs h1 h2 h3
  have hM := (hc zs σ (some z) σ' hzs hS hf).2.2 l adr ac D H.size
  have hstk : ((cs_av (cs_sig Mc) zs).reverse ++ st).map (cs_cv adr) = ((cs_av (cs_sig Mc) zs).map (cs_cv adr)).reverse ++ st.map (cs_cv adr) := by
    simp
  have hsub := cs_A_sub (n := (cs_sh M).length) (adr := adr) hA hA2 h3.1
  have hlen : (cs_sh Mc).length = (cs_sh M).length := by rw [e11]
  have hroom : (cs_rm (cs_d Mc)).frames + 1 ≤ R.frames ∧ 8 + (cs_nL Mc + 11) + (cs_rm (cs_d Mc)).locals ≤ R.locals := ⟨Nat.le_trans e9 hR1, by show 8 + (cs_nL Mc + 11) + 39 * cs_d Mc ≤ R.locals; omega⟩
  rw [hstk]
  rcases e12 with e12 | ⟨host, e12⟩
  · refine va_calli (va_runS (As := (cs_av (cs_sig Mc) zs).map (cs_cv adr)) (rest := st.map (cs_cv adr)) ⟨hx, hb, hml, ho, ht⟩ hM ⟨callB_of (n := (cs_sig Mc).length) ht (cs_goodIn e6) rfl rfl rfl (ht _ e7) (ht _ e12) e8 hroom, ht _ e5⟩ ⟨cs_blind, fun U hU hW => ⟨rfl, cs_pre e11 hi hA hA2 hK hn hro h2 h3 hU hW⟩⟩ rfl (by rw [List.length_map, cs_av_len]) h1.1 rfl (lv_room (by rw [cs_cat_sum]; exact hst)) hd ⟨hR3, hR4⟩) h3 (fun q _ h => hsub q (by rw [hlen] at h; exact h)) (fun q h => hsub q (by rw [hlen] at h; exact h)) (fun r u t H1 locs1 g1 _ g3 g4 _ _ g7 => ?_)
    obtain rfl := g3
    refine kk ls H1 locs1 h1 ?_ g7
    rw [← g1, ← e11]
    exact g4
  · refine va_calli (va_runSN (As := (cs_av (cs_sig Mc) zs).map (cs_cv adr)) (rest := st.map (cs_cv adr)) ⟨hx, hb, hml, ho, ht⟩ hM ⟨va_cnB (cs_sig Mc).length ht (cs_goodIn e6) rfl rfl rfl (hn _ e12) (ht _ e7) e8 hroom, ht _ e5, trivial⟩ ⟨cs_blind, fun U hU hW => ⟨rfl, cs_pre e11 hi hA hA2 hK hn hro h2 h3 hU hW⟩⟩ rfl (by rw [List.length_map, cs_av_len]) h1.1 rfl (lv_room (by rw [cs_cat_sum]; exact hst)) hd ⟨hR3, hR4⟩) h3 (fun q _ h => hsub q (by rw [hlen] at h; exact h)) (fun q h => hsub q (by rw [hlen] at h; exact h)) (fun r u t H1 locs1 g1 _ g3 g4 _ _ g7 => ?_)
    obtain rfl := g3
    refine kk ls H1 locs1 h1 ?_ g7
    rw [← g1, ← e11]
    exact g4
theorem cs_V_callSv {Mc : cs_M} {f : cs_F} {zs : List Int} {index : Nat} {σ' : cs_S} (hc : cs_Con Mc f) (hX : cs_Ok M X) (hL : cs_LS M Mc index) (hzs : ∀ z ∈ zs, cs_InR z) (hS : cs_InS σ) (hf : f zs σ = some (none, σ')) (hst : st.length ≤ 8) (hd : decode (cs_cc M) pc = .ok (.invokestatic index, 3)) (kk : cs_V M X (pc + 3) L st σ') : cs_V M X pc L ((cs_av (cs_sig Mc) zs).reverse ++ st) σ := by
  obtain ⟨⟨p0, l, e, R⟩, ⟨s, m, args, below⟩, ⟨meth, c⟩, ⟨cells, slots, Q⟩, ⟨adr, ac, D, A⟩⟩ := X
  obtain ⟨⟨hx, hb, hml, -, -, ho⟩, ⟨ht, hn, hK⟩, ⟨hR1, hR2, hR3, hR4⟩, ⟨hi, hA, hA2, hro⟩⟩ := hX
  obtain ⟨e5, e6, e7, e8, ⟨e9, e10⟩, e11, e12⟩ := hL
  intro ls H locs h1 h2 h3
  have hM := (hc zs σ none σ' hzs hS hf).2.2 l adr ac D H.size
  have hstk : ((cs_av (cs_sig Mc) zs).reverse ++ st).map (cs_cv adr) = ((cs_av (cs_sig Mc) zs).map (cs_cv adr)).reverse ++ st.map (cs_cv adr) := by
    simp
  have hsub := cs_A_sub (n := (cs_sh M).length) (adr := adr) hA hA2 h3.1
  have hlen : (cs_sh Mc).length = (cs_sh M).length := by rw [e11]
  have hroom : (cs_rm (cs_d Mc)).frames + 1 ≤ R.frames ∧ 8 + (cs_nL Mc + 11) + (cs_rm (cs_d Mc)).locals ≤ R.locals := ⟨Nat.le_trans e9 hR1, by show 8 + (cs_nL Mc + 11) + 39 * cs_d Mc ≤ R.locals; omega⟩
  rw [hstk]
  rcases e12 with e12 | ⟨host, e12⟩
  · refine va_callv (va_runS (As := (cs_av (cs_sig Mc) zs).map (cs_cv adr)) (rest := st.map (cs_cv adr)) ⟨hx, hb, hml, ho, ht⟩ hM ⟨callB_of (n := (cs_sig Mc).length) ht (cs_goodIn e6) rfl rfl rfl (ht _ e7) (ht _ e12) e8 hroom, ht _ e5⟩ ⟨cs_blind, fun U hU hW => ⟨rfl, cs_pre e11 hi hA hA2 hK hn hro h2 h3 hU hW⟩⟩ rfl (by rw [List.length_map, cs_av_len]) h1.1 rfl (lv_room (by rw [cs_cat_sum]; exact hst)) hd ⟨hR3, hR4⟩) h3 (fun q _ h => hsub q (by rw [hlen] at h; exact h)) (fun q h => hsub q (by rw [hlen] at h; exact h)) (fun u t H1 locs1 g1 _ g3 g4 _ _ g7 => ?_)
    refine kk ls H1 locs1 h1 ?_ g7
    rw [← g1, ← e11]
    exact g4
  · refine va_callv (va_runSN (As := (cs_av (cs_sig Mc) zs).map (cs_cv adr)) (rest := st.map (cs_cv adr)) ⟨hx, hb, hml, ho, ht⟩ hM ⟨va_cnB (cs_sig Mc).length ht (cs_goodIn e6) rfl rfl rfl (hn _ e12) (ht _ e7) e8 hroom, ht _ e5, trivial⟩ ⟨cs_blind, fun U hU hW => ⟨rfl, cs_pre e11 hi hA hA2 hK hn hro h2 h3 hU hW⟩⟩ rfl (by rw [List.length_map, cs_av_len]) h1.1 rfl (lv_room (by rw [cs_cat_sum]; exact hst)) hd ⟨hR3, hR4⟩) h3 (fun q _ h => hsub q (by rw [hlen] at h; exact h)) (fun q h => hsub q (by rw [hlen] at h; exact h)) (fun u t H1 locs1 g1 _ g3 g4 _ _ g7 => ?_)
    refine kk ls H1 locs1 h1 ?_ g7
    rw [← g1, ← e11]
    exact g4
end VC
