/-! fields, arrays, static arrays -/
section VH
variable {M : cs_M} {X : cs_X} {pc : Nat} {L : cs_L} {st : List (Int ⊕ Nat)} {σ : cs_S}
/-- class number ci of the worlds, with its words -/
def cs_cd (ci : Nat) (C : String) (T : u_T) (N : Nat) : Prop := cs_cl[ci]? = some (C, T, N) ∧ ∀ w ∈ u_ws C T N, w ∈ cs_gt
/-- a field's link from a class: its own, or a nest mate's -/
def cs_FL (own : String) (index : Nat) (T : u_T) (k : Nat) : Prop := Cond.fieldLink own index (T k).1 (T k).2.1 (T k).2.2.1 ∈ cs_gt ∨ ∃ host, Cond.fieldLinkNest own index (T k).1 (T k).2.1 (T k).2.2.1 host ∈ cs_nest
theorem cs_V_getI {p ci k index N : Nat} {fs : List (Option Nat)} {C : String} {T : u_T} (hX : cs_Ok M X) (hs : (cs_sh M)[p]? = some (.inl (ci, fs))) (hf : fs[k]? = some none) (hc : cs_cd ci C T N) (hk : k < N) (hl : cs_FL (cs_own M) index T k) (hd : decode (cs_cc M) pc = .ok (.getfield index, 3)) (kk : cs_V M X (pc + 3) L (.inl (σ p k) :: st) σ) : cs_V M X pc L (.inr p :: st) σ := by
  obtain ⟨⟨p0, l, e, R⟩, ⟨s, m, args, below⟩, ⟨meth, c⟩, ⟨cells, slots, Q⟩, ⟨adr, ac, D, A⟩⟩ := X
  obtain ⟨⟨hx, hb, -, -, -, ho⟩, ⟨ht, hn, hK⟩, -⟩ := hX
  intro ls H locs h1 h2 h3
  have he := cs_wl_at (adr := adr) (ac := ac) (σ := σ) hs
  have hv : (fs.mapIdx (cs_fv adr (σ p)))[k]? = some (.int (cs_q (σ p k))) := by rw [List.getElem?_mapIdx, hf]; rfl
  rcases hl with hl | ⟨host, hl⟩
  · exact va_get hx hb ht hc.2 ho hK h2 p he hc.1 k hk (ht _ hl) (fun _ h => h) hv hd (kk ls H locs h1 h2 h3)
  · exact va_getN hx hb ht hc.2 ho hK h2 p he hc.1 k hk (va_Nw.use rfl (hn _ hl)) (fun _ h => h) hv hd (kk ls H locs h1 h2 h3)
theorem cs_V_getR {p q ci k index N : Nat} {fs : List (Option Nat)} {C : String} {T : u_T} (hX : cs_Ok M X) (hs : (cs_sh M)[p]? = some (.inl (ci, fs))) (hf : fs[k]? = some (some q)) (hc : cs_cd ci C T N) (hk : k < N) (hl : cs_FL (cs_own M) index T k) (hd : decode (cs_cc M) pc = .ok (.getfield index, 3)) (kk : cs_V M X (pc + 3) L (.inr q :: st) σ) : cs_V M X pc L (.inr p :: st) σ := by
  obtain ⟨⟨p0, l, e, R⟩, ⟨s, m, args, below⟩, ⟨meth, c⟩, ⟨cells, slots, Q⟩, ⟨adr, ac, D, A⟩⟩ := X
  obtain ⟨⟨hx, hb, -, -, -, ho⟩, ⟨ht, hn, hK⟩, -⟩ := hX
  intro ls H locs h1 h2 h3
  have he := cs_wl_at (adr := adr) (ac := ac) (σ := σ) hs
  have hv : (fs.mapIdx (cs_fv adr (σ p)))[k]? = some (.ref (adr q)) := by rw [List.getElem?_mapIdx, hf]; rfl
  rcases hl with hl | ⟨host, hl⟩
  · exact va_get hx hb ht hc.2 ho hK h2 p he hc.1 k hk (ht _ hl) (fun _ h => h) hv hd (kk ls H locs h1 h2 h3)
  · exact va_getN hx hb ht hc.2 ho hK h2 p he hc.1 k hk (va_Nw.use rfl (hn _ hl)) (fun _ h => h) hv hd (kk ls H locs h1 h2 h3)
theorem cs_V_putI {p ci k index N : Nat} {fs : List (Option Nat)} {C : String} {T : u_T} {v : Int} {ty0 : Nat → FieldType} (hX : cs_Ok M X) (hs : (cs_sh M)[p]? = some (.inl (ci, fs))) (hf : fs[k]? = some none) (hc : cs_cd ci C T N) (hk : k < N) (hl : cs_FL (cs_own M) index T k)
    (hty : ∀ k, k < N → parseFieldDescriptor (T k).2.2.1 = some (ty0 k)) (hnm : ∀ a, a < N → ∀ b, b < N → a ≠ b → (T a).2.1 ≠ (T b).2.1) (hfin : (T k).2.2.2 = false) (hti : ty0 k = .int)
    (hd : decode (cs_cc M) pc = .ok (.putfield index, 3)) (kk : cs_V M X (pc + 3) L st (cs_up σ p k v)) : cs_V M X pc L (.inl v :: .inr p :: st) σ := by
  obtain ⟨⟨p0, l, e, R⟩, ⟨s, m, args, below⟩, ⟨meth, c⟩, ⟨cells, slots, Q⟩, ⟨adr, ac, D, A⟩⟩ := X
  obtain ⟨⟨hx, hb, -, -, -, ho⟩, ⟨ht, hn, hK⟩, -, ⟨hi, hA, -⟩⟩ := hX
  intro ls H locs h1 h2 h3
  have he := cs_wl_at (adr := adr) (ac := ac) (σ := σ) hs
  have hD : va_D A (cs_wl (cs_sh M) adr ac σ) := cs_wl_D hi hA
  have hpd : parseFieldDescriptor (T k).2.2.1 = some .int := by rw [hty k hk, hti]
  have hlen : k < (fs.mapIdx (cs_fv adr (σ p))).length := by rw [List.length_mapIdx]; exact (List.getElem?_eq_some_iff.mp hf).1
  have hset : (cs_wl (cs_sh M) adr ac σ).set p (adr p, .inr (ci, (fs.mapIdx (cs_fv adr (σ p))).set k (.int (cs_q v)))) = cs_wl (cs_sh M) adr ac (cs_up σ p k v) := by
    refine cs_wl_set _ hs ?_ (fun q hq => cs_up_ne hq)
    rw [cs_up_fs hf]
    rfl
  rcases hl with hl | ⟨host, hl⟩
  · exact va_put hx hb ht hc.2 ty0 hty hnm ho hK h2 hD h3 p he hc.1 k hk (ht _ hl) (fun _ h => h) hfin hpd rfl rfl hlen hd (fun H1 locs1 g1 _ g3 => kk ls H1 locs1 h1 (by rw [← hset]; exact g1) g3)
  · exact va_putN hx hb ht hc.2 ty0 hty hnm ho hK h2 hD h3 p he hc.1 k hk (va_Nw.use rfl (hn _ hl)) (fun _ h => h) hfin hpd rfl rfl hlen hd (fun H1 locs1 g1 _ g3 => kk ls H1 locs1 h1 (by rw [← hset]; exact g1) g3)
theorem cs_V_iald {p n : Nat} {i : Int} (hX : cs_Ok M X) (hs : (cs_sh M)[p]? = some (.inr (.int, n))) (h0 : 0 ≤ i) (h1' : i < n) (hr : cs_InR i) (hd : decode (cs_cc M) pc = .ok (.iaload, 1)) (kk : cs_V M X (pc + 1) L (.inl (σ p i.toNat) :: st) σ) : cs_V M X pc L (.inl i :: .inr p :: st) σ := by
  obtain ⟨⟨p0, l, e, R⟩, ⟨s, m, args, below⟩, ⟨meth, c⟩, ⟨cells, slots, Q⟩, ⟨adr, ac, D, A⟩⟩ := X
  obtain ⟨⟨hx, hb, -⟩, ⟨ht, hn, hK⟩, -⟩ := hX
  intro ls H locs h1 h2 h3
  have he := cs_wl_at (adr := adr) (ac := ac) (σ := σ) hs
  have h := kk ls H locs h1 h2 h3
  simp only [List.map_cons, cs_cv] at h
  refine va_iald hx hb hK h2 p 0 he rfl (cs_q_in h0 h1' hr) hd ?_
  rw [cs_q_nat h0 hr]
  exact h
theorem cs_V_zald {p n : Nat} {i : Int} (hX : cs_Ok M X) (hs : (cs_sh M)[p]? = some (.inr (.boolean, n))) (h0 : 0 ≤ i) (h1' : i < n) (hr : cs_InR i) (hd : decode (cs_cc M) pc = .ok (.baload, 1)) (kk : cs_V M X (pc + 1) L (.inl (σ p i.toNat) :: st) σ) : cs_V M X pc L (.inl i :: .inr p :: st) σ := by
  obtain ⟨⟨p0, l, e, R⟩, ⟨s, m, args, below⟩, ⟨meth, c⟩, ⟨cells, slots, Q⟩, ⟨adr, ac, D, A⟩⟩ := X
  obtain ⟨⟨hx, hb, -⟩, ⟨ht, hn, hK⟩, -⟩ := hX
  intro ls H locs h1 h2 h3
  have he := cs_wl_at (adr := adr) (ac := ac) (σ := σ) hs
  have h := kk ls H locs h1 h2 h3
  simp only [List.map_cons, cs_cv] at h
  refine va_zald hx hb hK h2 p 1 he rfl (cs_q_in h0 h1' hr) hd ?_
  rw [cs_q_nat h0 hr]
  exact h
theorem cs_V_cald {p n : Nat} {i : Int} (hX : cs_Ok M X) (hs : (cs_sh M)[p]? = some (.inr (.char, n))) (h0 : 0 ≤ i) (h1' : i < n) (hr : cs_InR i) (hd : decode (cs_cc M) pc = .ok (.caload, 1)) (kk : cs_V M X (pc + 1) L (.inl (σ p i.toNat) :: st) σ) : cs_V M X pc L (.inl i :: .inr p :: st) σ := by
  obtain ⟨⟨p0, l, e, R⟩, ⟨s, m, args, below⟩, ⟨meth, c⟩, ⟨cells, slots, Q⟩, ⟨adr, ac, D, A⟩⟩ := X
  obtain ⟨⟨hx, hb, -⟩, ⟨ht, hn, hK⟩, -⟩ := hX
  intro ls H locs h1 h2 h3
  have he := cs_wl_at (adr := adr) (ac := ac) (σ := σ) hs
  have h := kk ls H locs h1 h2 h3
  simp only [List.map_cons, cs_cv] at h
  refine va_cald hx hb hK h2 p 2 he rfl (cs_q_in h0 h1' hr) hd ?_
  rw [cs_q_nat h0 hr]
  exact h
theorem cs_V_iast {p n : Nat} {i v : Int} (hX : cs_Ok M X) (hs : (cs_sh M)[p]? = some (.inr (.int, n))) (h0 : 0 ≤ i) (h1' : i < n) (hr : cs_InR i) (hd : decode (cs_cc M) pc = .ok (.iastore, 1)) (kk : cs_V M X (pc + 1) L st (cs_up σ p i.toNat v)) : cs_V M X pc L (.inl v :: .inl i :: .inr p :: st) σ := by
  obtain ⟨⟨p0, l, e, R⟩, ⟨s, m, args, below⟩, ⟨meth, c⟩, ⟨cells, slots, Q⟩, ⟨adr, ac, D, A⟩⟩ := X
  obtain ⟨⟨hx, hb, -⟩, ⟨ht, hn, hK⟩, -, ⟨hi, hA, -⟩⟩ := hX
  intro ls H locs h1 h2 h3
  have he := cs_wl_at (adr := adr) (ac := ac) (σ := σ) hs
  have hD : va_D A (cs_wl (cs_sh M) adr ac σ) := cs_wl_D hi hA
  refine va_iast hx hb hK h2 hD h3 p 0 he rfl (cs_q_in h0 h1' hr) hd (fun H1 locs1 g1 _ g3 => kk ls H1 locs1 h1 ?_ g3)
  rw [← cs_wl_set (σ := σ) _ hs rfl (fun q hq => cs_up_ne hq)]
  rw [cs_q_nat h0 hr, cs_up_ar] at g1
  exact g1
theorem cs_nar_z {v : Int} (hv : v = 0 ∨ v = 1) : vp_nar .boolean (cs_q v) = cs_q v := by rcases hv with rfl | rfl <;> decide +kernel
theorem cs_V_zast {p n : Nat} {i v : Int} (hX : cs_Ok M X) (hs : (cs_sh M)[p]? = some (.inr (.boolean, n))) (h0 : 0 ≤ i) (h1' : i < n) (hr : cs_InR i) (hv : v = 0 ∨ v = 1) (hd : decode (cs_cc M) pc = .ok (.bastore, 1)) (kk : cs_V M X (pc + 1) L st (cs_up σ p i.toNat v)) : cs_V M X pc L (.inl v :: .inl i :: .inr p :: st) σ := by
  obtain ⟨⟨p0, l, e, R⟩, ⟨s, m, args, below⟩, ⟨meth, c⟩, ⟨cells, slots, Q⟩, ⟨adr, ac, D, A⟩⟩ := X
  obtain ⟨⟨hx, hb, -⟩, ⟨ht, hn, hK⟩, -, ⟨hi, hA, -⟩⟩ := hX
  intro ls H locs h1 h2 h3
  have he := cs_wl_at (adr := adr) (ac := ac) (σ := σ) hs
  have hD : va_D A (cs_wl (cs_sh M) adr ac σ) := cs_wl_D hi hA
  refine va_zast hx hb hK h2 hD h3 p 1 he rfl (cs_q_in h0 h1' hr) hd (fun H1 locs1 g1 _ g3 => kk ls H1 locs1 h1 ?_ g3)
  rw [← cs_wl_set (σ := σ) _ hs rfl (fun q hq => cs_up_ne hq)]
  rw [cs_q_nat h0 hr, cs_nar_z hv, cs_up_ar] at g1
  exact g1
theorem cs_nar_c {v : Int} (h0 : 0 ≤ v) (h1 : v < 65536) : vp_nar .char (cs_q v) = cs_q v := by
  obtain ⟨n, rfl⟩ := Int.eq_ofNat_of_zero_le h0
  have h2 : cs_q (n : Int) = nI n := Int32.toInt_inj.mp (by rw [cs_qT (by omega), nI_toInt (by omega)])
  rw [h2]
  unfold vp_nar
  rw [(pk_charN (q := n) (by omega)).1]
theorem cs_V_cast {p n : Nat} {i v : Int} (hX : cs_Ok M X) (hs : (cs_sh M)[p]? = some (.inr (.char, n))) (h0 : 0 ≤ i) (h1' : i < n) (hr : cs_InR i) (hv0 : 0 ≤ v) (hv1 : v < 65536) (hd : decode (cs_cc M) pc = .ok (.castore, 1)) (kk : cs_V M X (pc + 1) L st (cs_up σ p i.toNat v)) : cs_V M X pc L (.inl v :: .inl i :: .inr p :: st) σ := by
  obtain ⟨⟨p0, l, e, R⟩, ⟨s, m, args, below⟩, ⟨meth, c⟩, ⟨cells, slots, Q⟩, ⟨adr, ac, D, A⟩⟩ := X
  obtain ⟨⟨hx, hb, -⟩, ⟨ht, hn, hK⟩, -, ⟨hi, hA, -⟩⟩ := hX
  intro ls H locs h1 h2 h3
  have he := cs_wl_at (adr := adr) (ac := ac) (σ := σ) hs
  have hD : va_D A (cs_wl (cs_sh M) adr ac σ) := cs_wl_D hi hA
  refine va_cast hx hb hK h2 hD h3 p 2 he rfl (cs_q_in h0 h1' hr) hd (fun H1 locs1 g1 _ g3 => kk ls H1 locs1 h1 ?_ g3)
  rw [← cs_wl_set (σ := σ) _ hs rfl (fun q hq => cs_up_ne hq)]
  rw [cs_q_nat h0 hr, cs_nar_c hv0 hv1, cs_up_ar] at g1
  exact g1
theorem cs_V_alen {p n : Nat} (hX : cs_Ok M X) (hs : (cs_sh M)[p]? = some (.inr (.int, n))) (hn : n < 2147483648) (hd : decode (cs_cc M) pc = .ok (.arraylength, 1)) (kk : cs_V M X (pc + 1) L (.inl (n : Int) :: st) σ) : cs_V M X pc L (.inr p :: st) σ := by
  obtain ⟨⟨p0, l, e, R⟩, ⟨s, m, args, below⟩, ⟨meth, c⟩, ⟨cells, slots, Q⟩, ⟨adr, ac, D, A⟩⟩ := X
  obtain ⟨⟨hx, hb, -⟩, ⟨ht, hnn, hK⟩, -⟩ := hX
  intro ls H locs h1 h2 h3
  have he := cs_wl_at (adr := adr) (ac := ac) (σ := σ) hs
  have h2' : Int32.ofNat n = cs_q (n : Int) := Int32.toInt_inj.mp (by rw [cs_qT (by omega)]; exact nI_toInt (by omega))
  exact va_alen hx hb hK h2 p 0 he rfl h2' hd (kk ls H locs h1 h2 h3)
theorem cs_V_gets {index : Nat} {r : String × Nat × (Nat → Int)} (hX : cs_Ok M X) (hr : r ∈ cs_ros) (hl : Cond.fieldLink (cs_own M) index "ContourSimplifier" r.1 "[I" ∈ cs_gt ∨ ∃ host, Cond.fieldLinkNest (cs_own M) index "ContourSimplifier" r.1 "[I" host ∈ cs_nest) (hd : decode (cs_cc M) pc = .ok (.getstatic index, 3)) (kk : cs_V M X (pc + 3) L (.inr r.2.1 :: st) σ) : cs_V M X pc L st σ := by
  obtain ⟨⟨p0, l, e, R⟩, ⟨s, m, args, below⟩, ⟨meth, c⟩, ⟨cells, slots, Q⟩, ⟨adr, ac, D, A⟩⟩ := X
  obtain ⟨⟨hx, hb, -, -, -, ho⟩, ⟨ht, hn, hK⟩, -, ⟨hi, hA, -, hro⟩⟩ := hX
  intro ls H locs h1 h2 h3
  rcases hl with hl | ⟨host, hl⟩
  · exact va_gets hx hb (hro r hr).1 h3 ho (ht _ hl) (fun _ h => h) hd (kk ls H locs h1 h2 h3)
  · exact va_getsN hx hb (hro r hr).1 h3 ho (va_Nw.use rfl (hn _ hl)) (fun _ h => h) hd (kk ls H locs h1 h2 h3)
theorem cs_V_rold {r : String × Nat × (Nat → Int)} {i : Int} (hX : cs_Ok M X) (hr : r ∈ cs_ros) (h0 : 0 ≤ i) (h1' : i < 4) (hd : decode (cs_cc M) pc = .ok (.iaload, 1)) (kk : cs_V M X (pc + 1) L (.inl (r.2.2 i.toNat) :: st) σ) : cs_V M X pc L (.inl i :: .inr r.2.1 :: st) σ := by
  obtain ⟨⟨p0, l, e, R⟩, ⟨s, m, args, below⟩, ⟨meth, c⟩, ⟨cells, slots, Q⟩, ⟨adr, ac, D, A⟩⟩ := X
  obtain ⟨⟨hx, hb, -, -, -, ho⟩, ⟨ht, hn, hK⟩, -, ⟨hi, hA, -, hro⟩⟩ := hX
  intro ls H locs h1 h2 h3
  have h := kk ls H locs h1 h2 h3
  simp only [List.map_cons, cs_cv] at h
  obtain ⟨-, g2, g3, g4⟩ := hro r hr
  exact va_ti hx hb g2 h3 (cs_q_in h0 h1' (by omega)) (v := .int (cs_q (r.2.2 i.toNat))) (by rw [cs_q_nat h0 (by omega)]) hd h
end VH
