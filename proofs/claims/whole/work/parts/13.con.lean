/-! from code to contract; switches; products of longs compared -/
theorem cs_args_L (adr : Nat → Nat) : ∀ (sg : List (Option Nat)) (zs : List Int) (k i : Nat) (z : Int), (cs_L0 sg zs)[i]? = some (some z) → (k + i, Value.int (cs_q z)) ∈ lv_args k ((cs_av sg zs).map (cs_cv adr))
  | [], zs, k, i, z, h => by simp [cs_L0] at h
  | some p :: t, zs, k, i, z, h => by
    cases i with
    | zero => simp [cs_L0] at h
    | succ i =>
      have h2 := cs_args_L adr t zs (k + 1) i z (by simpa [cs_L0] using h)
      simp only [cs_av, List.map_cons, lv_args]
      refine List.mem_cons_of_mem _ ?_
      rw [show k + (i + 1) = k + 1 + i by omega]
      simpa [cs_cv, Value.category] using h2
  | none :: t, w :: zs, k, i, z, h => by
    cases i with
    | zero =>
      simp [cs_L0] at h
      subst h
      simp [cs_av, cs_cv, lv_args]
    | succ i =>
      have h2 := cs_args_L adr t zs (k + 1) i z (by simpa [cs_L0] using h)
      simp only [cs_av, List.map_cons, lv_args]
      refine List.mem_cons_of_mem _ ?_
      rw [show k + (i + 1) = k + 1 + i by omega]
      simpa [cs_cv, Value.category] using h2
  | none :: t, [], k, i, z, h => by
    cases i with
    | zero =>
      simp [cs_L0] at h
      subst h
      simp [cs_av, cs_cv, lv_args]
    | succ i =>
      have h2 := cs_args_L adr t [] (k + 1) i z (by simpa [cs_L0] using h)
      simp only [cs_av, List.map_cons, lv_args]
      refine List.mem_cons_of_mem _ ?_
      rw [show k + (i + 1) = k + 1 + i by omega]
      simpa [cs_cv, Value.category] using h2
theorem cs_args_R (adr : Nat → Nat) : ∀ (sg : List (Option Nat)) (zs : List Int) (k : Nat) (r : Nat × Nat), r ∈ cs_refs sg k → (r.1, Value.ref (adr r.2)) ∈ lv_args k ((cs_av sg zs).map (cs_cv adr))
  | [], zs, k, r, h => by simp [cs_refs] at h
  | some p :: t, zs, k, r, h => by
    simp only [cs_refs, List.mem_cons] at h
    simp only [cs_av, List.map_cons, lv_args]
    rcases h with rfl | h
    · simp [cs_cv]
    · exact List.mem_cons_of_mem _ (by simpa [cs_cv, Value.category] using cs_args_R adr t zs (k + 1) r h)
  | none :: t, w :: zs, k, r, h => by
    simp only [cs_refs] at h
    simp only [cs_av, List.map_cons, lv_args]
    exact List.mem_cons_of_mem _ (by simpa [cs_cv, Value.category] using cs_args_R adr t zs (k + 1) r h)
  | none :: t, [], k, r, h => by
    simp only [cs_refs] at h
    simp only [cs_av, List.map_cons, lv_args]
    exact List.mem_cons_of_mem _ (by simpa [cs_cv, Value.category] using cs_args_R adr t [] (k + 1) r h)
theorem cs_sl_len (adr : Nat → Nat) (vs : List (Int ⊕ Nat)) : (lg_sl (vs.map (cs_cv adr))).length = vs.length := by
  unfold lg_sl
  induction vs with
  | nil => rfl
  | cons a t ih =>
    rw [List.map_cons, List.flatMap_cons, List.length_append, ih, cs_cv_cat]
    simp
    omega
theorem cs_L0_len : ∀ (sg : List (Option Nat)) (zs : List Int), (cs_L0 sg zs).length = sg.length
  | [], _ => rfl
  | some _ :: t, zs => by simp [cs_L0, cs_L0_len t zs]
  | none :: t, z :: zs => by simp [cs_L0, cs_L0_len t zs]
  | none :: t, [] => by simp [cs_L0, cs_L0_len t []]
theorem cs_L0_in : ∀ (sg : List (Option Nat)) (zs : List Int), (∀ z ∈ zs, cs_InR z) → cs_InL (cs_L0 sg zs)
  | [], _, _, i, z, h => by simp [cs_L0] at h
  | some _ :: t, zs, hz, i, z, h => by
    cases i with
    | zero => simp [cs_L0] at h
    | succ i => exact cs_L0_in t zs hz i z (by simpa [cs_L0] using h)
  | none :: t, w :: zs, hz, i, z, h => by
    cases i with
    | zero =>
      simp [cs_L0] at h
      subst h
      exact hz w List.mem_cons_self
    | succ i => exact cs_L0_in t zs (fun z h => hz z (List.mem_cons_of_mem _ h)) i z (by simpa [cs_L0] using h)
  | none :: t, [], hz, i, z, h => by
    cases i with
    | zero =>
      simp [cs_L0] at h
      subst h
      omega
    | succ i => exact cs_L0_in t [] hz i z (by simpa [cs_L0] using h)
theorem cs_pad {L : cs_L} {n i : Nat} {z : Int} (h : (L ++ List.replicate n none)[i]? = some (some z)) : L[i]? = some (some z) := by
  by_cases hl : i < L.length
  · rwa [List.getElem?_append_left hl] at h
  · rw [List.getElem?_append_right (by omega)] at h
    have h2 := List.mem_of_getElem? h
    have h3 := (List.mem_replicate.mp h2).2
    cases h3
theorem cs_con {M : cs_M} {s0 : cs_T} {pN pB : Nat} (h : cs_SS M 0 pN pB s0) (hy : plainName (cs_y M).cls = true := by decide) (hcls : (cs_y M).cls = cs_own M := by rfl) (hn : (cs_sig M).length ≤ cs_nL M := by decide) : cs_Con M (cs_run (cs_sig M) (cs_nL M) s0) := by
  intro zs σ r σ' hz hS hf
  unfold cs_run at hf
  split at hf
  next r0 heq =>
    cases hf
    have hL0 : cs_InL (cs_L0 (cs_sig M) zs ++ List.replicate (cs_nL M - (cs_sig M).length) none) := fun i z h => cs_L0_in (cs_sig M) zs hz i z (cs_pad h)
    obtain ⟨⟨hr, hS'⟩, k⟩ := h _ σ _ hL0 hS heq
    refine ⟨hr, hS', fun l adr ac D sz => ?_⟩
    refine Met.ofW (cc := cs_cc M) (maxL := cs_nL M) (ret := cs_rt M) hy rfl ?_
    intro p e s m args below meth c s₁ B hml hv
    obtain ⟨rfl, hsz, hP, hK, hN, hro, hi⟩ := hv
    have hX : cs_Ok M ((p, l, e, (headSpec (cs_ws (cs_y M) (cs_cc M) (cs_nL M) (cs_rt M)) (cs_rm (cs_d M))).room), (s, m, ((cs_av (cs_sig M) zs).map (cs_cv adr)).toArray, below), (meth, c), (0, 0, MQ below (cs_Post M adr ac D σ' sz r) ((cs_av (cs_sig M) zs).map (cs_cv adr)).toArray s 0 0 (cs_A (cs_sh M).length adr sz)), (adr, ac, D, cs_A (cs_sh M).length adr sz)) := ⟨⟨B.exec, B.bytes, hml, B.returns, B.notSynchronized, hcls ▸ findClass_of_methodNamed B.named⟩, ⟨fun w hw => atoms_spec (ws := cs_ws (cs_y M) (cs_cc M) (cs_nL M) (cs_rt M)) B.pre w (List.mem_cons_of_mem _ hw), hN, hK⟩, ⟨Nat.le_refl _, Nat.le_refl _, Nat.zero_le _, Nat.zero_le _⟩, hi, fun i hi => Or.inl ⟨i, hi, rfl⟩, fun q hq => Or.inr (hsz ▸ hq), hro⟩
    have hRt : cs_Rt M ((p, l, e, (headSpec (cs_ws (cs_y M) (cs_cc M) (cs_nL M) (cs_rt M)) (cs_rm (cs_d M))).room), (s, m, ((cs_av (cs_sig M) zs).map (cs_cv adr)).toArray, below), (meth, c), (0, 0, MQ below (cs_Post M adr ac D σ' sz r) ((cs_av (cs_sig M) zs).map (cs_cv adr)).toArray s 0 0 (cs_A (cs_sh M).length adr sz)), (adr, ac, D, cs_A (cs_sh M).length adr sz)) r σ' := by
      intro pc ls H locs g2 g3
      cases r with
      | none =>
        intro hd ht
        exact W.vret B.exec B.bytes (B.returns.trans ht) (fun t ht hW => ⟨⟨(), rfl, trivial, by dsimp only; rw [ht]; exact g2⟩, g3.F ht⟩) g3.2.2 hd
      | some z =>
        intro hd ht
        rcases ht with ht | ⟨ht, hz01⟩
        · exact W.iret B.exec B.bytes (B.returns.trans ht) (fun t ht hW => ⟨⟨cs_q z, (), rfl, rfl, by dsimp only; rw [ht]; exact g2⟩, g3.F ht⟩) g3.2.2 hd
        · exact W.zret B.exec B.bytes (B.returns.trans ht) (by rcases hz01 with rfl | rfl <;> decide +kernel) (fun t ht hW => ⟨⟨cs_q z, (), rfl, rfl, by dsimp only; rw [ht]; exact g2⟩, g3.F ht⟩) g3.2.2 hd
    have hV := k _ hX hRt
    rw [lg_entry_eq]
    refine hV _ _ [] ?_ hP va_S.rf
    have hlv := lv_entry ((cs_av (cs_sig M) zs).map (cs_cv adr)) (n := cs_nL M) (by rw [cs_sl_len, cs_av_len]; exact hn)
    refine ⟨hlv.1, hlv.2.1, fun i z hi => ?_, fun q hq => ?_⟩
    · have h5 := cs_args_L adr (cs_sig M) zs 0 i z (cs_pad hi)
      rw [Nat.zero_add] at h5
      exact hlv.2.2 _ h5
    · exact hlv.2.2 _ (cs_args_R adr (cs_sig M) zs 0 q hq)
  next => cases hf
section CS
variable {M : cs_M} {pc p1 p2 p3 p4 p5 n n1 n2 n3 n4 : Nat} {e e1 e2 e3 e4 : cs_E} {d : cs_T} {pT pF pN pB pM : Nat}
/-- a switch from 0 on: each case's place is given by the table -/
theorem S_sw {dflt lo hi : Int} {offs : Array Int} {len pD : Nat} {ss : List cs_T} {tg : List Nat} (h : cs_SE M n pc p1 e) (hd : decode (cs_cc M) p1 = .ok (.tableswitch dflt lo hi offs, len)) (hlo : lo = 0 := by rfl) (hhi : hi + 1 = (ss.length : Int) := by rfl) (hD : (p1 : Int) + dflt = (pD : Int) := by decide) (htg : offs.toList.map (fun o => (p1 : Int) + o) = tg.map (fun t : Nat => (t : Int)) := by decide)
    (hss : ∀ (i : Nat) (s : cs_T) (t : Nat), ss[i]? = some s → tg[i]? = some t → cs_SS M t pN pB s) (hdf : cs_SS M pD pN pB d) (hlen : tg.length = ss.length := by rfl) (hn : n ≤ 8 := by decide) : cs_SS M pc pN pB (s_sw e ss d) := by
  intro L σ o hL hS hv
  obtain ⟨⟨a, σ1⟩, q1, hv⟩ := Option.bind_eq_some_iff.mp hv
  obtain ⟨ra, s1, k1⟩ := h L σ a σ1 hL hS q1
  have hol : offs.toList.length = ss.length := by
    have := congrArg List.length htg
    simpa [hlen] using this
  by_cases c : 0 ≤ a ∧ a < (ss.length : Int)
  · have ha : a.toNat < ss.length := by omega
    obtain ⟨s, hs⟩ : ∃ s, ss[a.toNat]? = some s := ⟨_, List.getElem?_eq_getElem ha⟩
    obtain ⟨t, ht⟩ : ∃ t, tg[a.toNat]? = some t := ⟨_, List.getElem?_eq_getElem (by omega)⟩
    obtain ⟨off, hof⟩ : ∃ off, offs.toList[a.toNat]? = some off := ⟨_, List.getElem?_eq_getElem (by omega)⟩
    simp only [if_pos c.1, hs, Option.getD_some] at hv
    obtain ⟨s2, k2⟩ := hss a.toNat s t hs ht L σ1 o hL s1 hv
    refine ⟨s2, fun X hX k => k1 X hX [] (by simpa using hn) ?_⟩
    have hV := k2 X hX k
    have hpt : (p1 : Int) + off = (t : Int) := by
      have h5 := congrArg (fun l => l[a.toNat]?) htg
      simp only [List.getElem?_map, hof, ht, Option.map_some] at h5
      exact Option.some.inj h5
    obtain ⟨⟨p, l, e, R⟩, ⟨s, m, args, below⟩, ⟨meth, c0⟩, ⟨cells, slots, Q⟩, ⟨adr, ac, D, A⟩⟩ := X
    obtain ⟨⟨hx, hb, -⟩, -⟩ := hX
    intro ls H locs h1 h2 h3
    refine lv_tableIn hx hb hd (by rw [cs_qT ra]; omega) (by rw [cs_qT ra]; omega) (off := off) (tgt := t) ?_ hpt (hV ls H locs h1 h2 h3)
    rw [cs_qT ra, hlo, Int.sub_zero, ← Array.getElem?_toList]
    exact hof
  · have hv2 : d L σ1 = some o := by
      by_cases h0 : 0 ≤ a
      · have : ss[a.toNat]? = none := List.getElem?_eq_none (by omega)
        simpa only [if_pos h0, this, Option.getD_none] using hv
      · simpa only [if_neg h0] using hv
    obtain ⟨s2, k2⟩ := hdf L σ1 o hL s1 hv2
    refine ⟨s2, fun X hX k => k1 X hX [] (by simpa using hn) ?_⟩
    have hV := k2 X hX k
    obtain ⟨⟨p, l, e, R⟩, ⟨s, m, args, below⟩, ⟨meth, c0⟩, ⟨cells, slots, Q⟩, ⟨adr, ac, D, A⟩⟩ := X
    obtain ⟨⟨hx, hb, -⟩, -⟩ := hX
    intro ls H locs h1 h2 h3
    exact lv_tableOut hx hb hd (by rw [cs_qT ra]; omega) hD (hV ls H locs h1 h2 h3)
end CS
