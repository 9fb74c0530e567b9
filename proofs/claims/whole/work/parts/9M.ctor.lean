/-! constructors: the machine over a growing world of cells -/
abbrev cs_Y : Type := (Program × Launch × Env × Room) × (State × MethodId × Array Value × List Frame) × (Method × Code) × (State → Prop) × ((Nat → Nat) × (FieldType → ClassId) × va_G × (Nat → Prop))
def cs_OkI (own : String) (cc : ByteArray) (nL d mc ms : Nat) (Y : cs_Y) : Prop := match Y with
  | ((p, _, _, R), (s, m, args, _), (_, c), _, (adr, ac, D, A)) =>
    (p.tables.exec = Jvm.exec ∧ c.code = cc ∧ c.maxLocals = nL ∧ s.vm.findClass own = some m.cls) ∧
    ((∀ w ∈ cs_gt, w.before args s = true) ∧ cs_NW s ∧ va_K D cs_cl (cs_tys ac) s) ∧
    (d ≤ R.frames ∧ 39 * d ≤ R.locals ∧ mc ≤ R.cells ∧ ms ≤ R.slots) ∧
    (∀ q, s.heap.size ≤ q → A q) ∧ cs_RO adr A s s.heap
def cs_ac (Y : cs_Y) : FieldType → ClassId := Y.2.2.2.2.2.1
def cs_inI (Y : cs_Y) : Prop := Y.2.2.1.1.name = "<init>"
def cs_U (Y : cs_Y) (ls : Array Slot) (pc : Nat) (st : List Value) (ws : va_W) (cells slots : Nat) : Prop := match Y with
  | ((p, l, e, R), (s, m, args, below), (meth, c), Q, (_, _, D, A)) => ∀ (H : Heap) (locs : List Loc), va_P D cs_cl ws H → va_D A ws → va_S A s.heap H locs → W p l e R s m args below meth c H locs cells slots Q (F0 m pc ls st)
def cs_PreI (adr : Nat → Nat) (ac : FieldType → ClassId) (D : va_G) (w0 : va_W) (sz : Nat) (U : State) : Prop := U.heap.size = sz ∧ va_P D cs_cl w0 U.heap ∧ va_K D cs_cl (cs_tys ac) U ∧ cs_NW U ∧ cs_RO adr (va_A w0 sz) U U.heap ∧ va_D (fun _ => True) w0
/-- the contract of a constructor: from the world w0 to the world w1 of some new addresses -/
def cs_Ini (y : MethodName) (cc : ByteArray) (nL d mc ms : Nat) (av : List Value) (w0 : va_W) (w1 : (FieldType → ClassId) → (Nat → Nat) → va_W) : Prop := ∀ (l : Launch) (adr : Nat → Nat) (ac : FieldType → ClassId) (D : va_G) (sz : Nat),
  Met l y (cs_ws y cc nL none) ({ frames := d, cells := mc, slots := ms, locals := 39 * d } : Room) (va_Pc av (cs_PreI adr ac D w0 sz)) (va_Qv (fun _ : Nat → Nat => True) (fun u t => va_P D cs_cl (w1 ac u) t.heap ∧ va_D (va_A w0 sz) (w1 ac u)) (va_A w0 sz)) mc ms (va_A w0 sz)
theorem cs_ini {own : String} {y : MethodName} {cc : ByteArray} {nL d mc ms : Nat} {av : List Value} {w0 : va_W} {w1 : (FieldType → ClassId) → (Nat → Nat) → va_W} (h : ∀ (Y : cs_Y) (ls : Array Slot), cs_OkI own cc nL d mc ms Y → cs_inI Y → ls.size = nL → (∀ q ∈ lv_args 0 av, ls[q.1]? = some (.val q.2)) → (∀ (pc : Nat) (ls : Array Slot) (u : Nat → Nat), decode cc pc = .ok (.return_, 1) → cs_U Y ls pc [] (w1 (cs_ac Y) u) mc ms) → cs_U Y ls 0 [] w0 0 0) (hcls : y.cls = own) (hyn : y.name = "<init>") (hy : plainName y.cls = true) (hav : (lg_sl av).length ≤ nL) : cs_Ini y cc nL d mc ms av w0 w1 := by
  intro l adr ac D sz
  refine Met.ofW (cc := cc) (maxL := nL) (ret := none) hy rfl ?_
  intro p e s m args below meth c s₁ B hml hv
  obtain ⟨rfl, hsz, hP, hK, hN, hro, hD0⟩ := hv
  subst hsz
  have hD := hD0.self (sz := s.heap.size)
  rw [lg_entry_eq]
  have hlv := lv_entry av (n := nL) hav
  refine h ((p, l, e, (headSpec (cs_ws y cc nL none) ({ frames := d, cells := mc, slots := ms, locals := 39 * d } : Room)).room), (s, m, av.toArray, below), (meth, c), _, (adr, ac, D, va_A w0 s.heap.size)) _ ⟨⟨B.exec, B.bytes, hml, hcls ▸ findClass_of_methodNamed B.named⟩, ⟨fun w hw => atoms_spec (ws := cs_ws y cc nL none) B.pre w (List.mem_cons_of_mem _ hw), hN, hK⟩, ⟨Nat.le_refl _, Nat.le_refl _, Nat.le_refl _, Nat.le_refl _⟩, fun q hq => Or.inr hq, hro⟩ ((name_of_methodNamed B.named B.method).1.trans hyn) hlv.1 hlv.2.2 ?_ _ [] hP hD va_S.rf
  intro pc ls u hd H locs g2 gD g3
  exact W.vret B.exec B.bytes B.returns (fun t ht hW => ⟨⟨u, rfl, trivial, by rw [ht]; exact g2, gD⟩, g3.F ht⟩) g3.2.2 hd
theorem cs_blindI {adr : Nat → Nat} {ac : FieldType → ClassId} {D : va_G} {w0 : va_W} {sz : Nat} {av : List Value} : FrameBlind (va_Pc av (cs_PreI adr ac D w0 sz)) := by
  intro a U g mk h
  obtain ⟨h0, h1, h2, h3, h4, h5, h6⟩ := h
  refine ⟨h0, h1, h2, va_K.moved (u := U) (U := U.calling g mk a) (Vm.Alike.refl U.vm) h3, cs_NW_same (s := U) (U := U.calling g mk a) rfl h4, fun r hr => ?_, h6⟩
  obtain ⟨g1, g2, g3, g4⟩ := h5 r hr
  exact ⟨va_Z.moved (u := U) (U := U.calling g mk a) (Vm.Alike.refl U.vm) g1, va_T.moved (u := U) (U := U.calling g mk a) (Vm.Alike.refl U.vm) g2, g3, g4⟩
theorem k_oi : Cond.instanceMethod objectInit ∈ cs_gt := cs_gt_of 93 (by decide +kernel) (by decide +kernel)
theorem k_oc : Cond.code objectInit ⟨#[0xb1]⟩ 1 none ∈ cs_gt := cs_gt_of 94 (by decide +kernel) (by decide +kernel)
theorem k_ai : Cond.arrayClass .int ∈ cs_gt := cs_gt_of 125 (by decide +kernel) (by decide +kernel)
theorem k_ac : Cond.arrayClass .char ∈ cs_gt := cs_gt_of 142 (by decide +kernel) (by decide +kernel)
theorem k_az : Cond.arrayClass .boolean ∈ cs_gt := cs_gt_of 252 (by decide +kernel) (by decide +kernel)
theorem dv_int : defaultValue .int = Value.int (cs_q 0) := by rw [cs_q0]; rfl
section UR
variable {own : String} {cc : ByteArray} {nL d mc ms : Nat} {Y : cs_Y} {ls : Array Slot} {pc : Nat} {st : List Value} {ws : va_W} {cells slots : Nat}
theorem U_load {i h : Nat} {j : Fin 4} (hY : cs_OkI own cc nL d mc ms Y) (hd : decode cc pc = .ok (.aload_n j, 1)) (hj : (j : Nat) = i) (hl : ls[i]? = some (.val (.ref h))) (k : cs_U Y ls (pc + 1) (.ref h :: st) ws cells slots) : cs_U Y ls pc st ws cells slots := by
  obtain ⟨⟨p, l, e, R⟩, ⟨s, m, args, below⟩, ⟨meth, c⟩, Q, ⟨adr, ac, D, A⟩⟩ := Y
  obtain ⟨⟨hx, hb, -⟩, -⟩ := hY
  exact fun H locs h1 h2 h3 => lv_aload_n hx hb hd hj hl (k H locs h1 h2 h3)
theorem U_sipush {z n : Int} (hY : cs_OkI own cc nL d mc ms Y) (hd : decode cc pc = .ok (.sipush n, 3)) (hz : cs_q z = (Int16.ofInt n).toInt32) (k : cs_U Y ls (pc + 3) (.int (cs_q z) :: st) ws cells slots) : cs_U Y ls pc st ws cells slots := by
  obtain ⟨⟨p, l, e, R⟩, ⟨s, m, args, below⟩, ⟨meth, c⟩, Q, ⟨adr, ac, D, A⟩⟩ := Y
  obtain ⟨⟨hx, hb, -⟩, -⟩ := hY
  exact fun H locs h1 h2 h3 => lv_sipush hx hb hd hz.symm (k H locs h1 h2 h3)
theorem U_bipush {z n : Int} (hY : cs_OkI own cc nL d mc ms Y) (hd : decode cc pc = .ok (.bipush n, 2)) (hz : cs_q z = (Int8.ofInt n).toInt32) (k : cs_U Y ls (pc + 2) (.int (cs_q z) :: st) ws cells slots) : cs_U Y ls pc st ws cells slots := by
  obtain ⟨⟨p, l, e, R⟩, ⟨s, m, args, below⟩, ⟨meth, c⟩, Q, ⟨adr, ac, D, A⟩⟩ := Y
  obtain ⟨⟨hx, hb, -⟩, -⟩ := hY
  exact fun H locs h1 h2 h3 => lv_bipush hx hb hd hz.symm (k H locs h1 h2 h3)
theorem U_dup {a : Nat} (hY : cs_OkI own cc nL d mc ms Y) (hd : decode cc pc = .ok (.dup, 1)) (k : cs_U Y ls (pc + 1) (.ref a :: .ref a :: st) ws cells slots) : cs_U Y ls pc (.ref a :: st) ws cells slots := by
  obtain ⟨⟨p, l, e, R⟩, ⟨s, m, args, below⟩, ⟨meth, c⟩, Q, ⟨adr, ac, D, A⟩⟩ := Y
  obtain ⟨⟨hx, hb, -⟩, -⟩ := hY
  exact fun H locs h1 h2 h3 => lv_dup hx hb hd rfl (k H locs h1 h2 h3)
theorem U_obj {idx a : Nat} (hY : cs_OkI own cc nL d mc ms Y) (hn : ls.size = nL) (hd1 : 1 ≤ d) (hl : Cond.methodLink own idx objectInit ∈ cs_gt) (hd : decode cc pc = .ok (.invokespecial idx, 3)) (k : cs_U Y ls (pc + 3) [] ws cells slots) : cs_U Y ls pc [.ref a] ws cells slots := by
  obtain ⟨⟨p, l, e, R⟩, ⟨s, m, args, below⟩, ⟨meth, c⟩, Q, ⟨adr, ac, D, A⟩⟩ := Y
  obtain ⟨⟨hx, hb, hml, ho⟩, ⟨ht, -⟩, ⟨hR1, hR2, -⟩, -⟩ := hY
  intro H locs h1 h2 h3
  refine W.objInit hx hb ho (ht _ hl) (ht _ k_oi) (ht _ k_oc) rfl (by rw [hml]; exact hn) rfl hd (by omega) ?_ ?_
  · show 2 * 0 + 0 + 12 ≤ R.locals
    omega
  · exact W.eq (g2 := F0 m (pc + 3) ls []) rfl (k H locs h1 h2 h3)
theorem U_newa {n : Nat} {at' : ArrayType} {ty : FieldType} {i : Nat} (hY : cs_OkI own cc nL d mc ms Y) (hty : newarray.typeOf at' = ty) (hw : Cond.arrayClass ty ∈ cs_gt) (hi : (cs_tys (cs_ac Y))[i]? = some (cs_ac Y ty, ty)) (hra : ∀ (U : State) (c c' : ClassId), va_RA U c ty → va_RA U c' ty → c = c') (hdv : defaultValue ty = .int (cs_q 0)) (hn : n ≤ 4096) (hby : n * componentBytes ty ≤ 536870912) (hc : cells + 1 ≤ mc) (hs : slots + n ≤ ms) (hd : decode cc pc = .ok (.newarray at', 2))
    (k : ∀ q : Nat, cs_U Y ls (pc + 2) (.ref q :: st) (ws ++ [(q, .inl (cs_ac Y ty, n, .inl (fun _ => cs_q 0)))]) (cells + 1) (slots + n)) : cs_U Y ls pc (.int (cs_q n) :: st) ws cells slots := by
  obtain ⟨⟨p, l, e, R⟩, ⟨s, m, args, below⟩, ⟨meth, c⟩, Q, ⟨adr, ac, D, A⟩⟩ := Y
  obtain ⟨⟨hx, hb, hml, ho⟩, ⟨ht, -, hK⟩, ⟨-, -, hR3, hR4⟩, hA, -⟩ := hY
  intro H locs h1 h2 h3
  have hr : cs_InR (n : Int) := ⟨by omega, by omega⟩
  refine va_newa (n := cs_q n) (N' := n) (a0 := (n, .inl (fun _ => cs_q 0))) hx hb (by rw [hty]; exact ht _ hw) hty hK h1 h2 h3 hA (fun cA => by rw [hdv]; rfl) (by rw [← cs_q0, cs_q_lt hr (by omega)]; omega) (by rw [cs_q_nat (by omega) hr]; rfl) hby (Nat.le_trans hc hR3) (Nat.le_trans hs hR4) hd (fun q cA H1 gK gP gD gS => ?_)
  have e1 : va_RA s cA ty := (gK.2 (cs_tys ac).length (cA, ty) (by rw [List.getElem?_append_right (Nat.le_refl _), Nat.sub_self]; rfl)).2
  have e2 : va_RA s (ac ty) ty := (hK.2 i (ac ty, ty) hi).2
  obtain rfl := hra s cA (ac ty) e1 e2
  exact k q H1 locs gP gD gS
theorem U_new {C : String} {T : u_T} {N ci index : Nat} {fs : List Value} {ty : Nat → FieldType} (hY : cs_OkI own cc nL d mc ms Y) (hcd : cs_cd ci C T N) (hty : ∀ k, k < N → parseFieldDescriptor (T k).2.2.1 = some (ty k)) (hcl : Cond.classLink own index C ∈ cs_gt) (hin : Cond.instantiable C N ∈ cs_gt) (hini : Cond.initialized C ∈ cs_gt) (hfs : ∀ j, j < N → defaultValue (ty j) = vp_V fs j) (hc : cells + 1 ≤ mc) (hs : slots + N ≤ ms) (hd : decode cc pc = .ok (.new index, 3))
    (k : ∀ q : Nat, cs_U Y ls (pc + 3) (.ref q :: st) (ws ++ [(q, .inr (ci, fs))]) (cells + 1) (slots + N)) : cs_U Y ls pc st ws cells slots := by
  obtain ⟨⟨p, l, e, R⟩, ⟨s, m, args, below⟩, ⟨meth, c⟩, Q, ⟨adr, ac, D, A⟩⟩ := Y
  obtain ⟨⟨hx, hb, hml, ho⟩, ⟨ht, -, hK⟩, ⟨-, -, hR3, hR4⟩, hA, -⟩ := hY
  intro H locs h1 h2 h3
  exact va_new hx hb ht hcd.2 ty hty ho (ht _ hcl) (ht _ hin) (ht _ hini) hK h1 h2 h3 hA hcd.1 hfs (Nat.le_trans hc hR3) (Nat.le_trans hs hR4) hd (fun q H1 gP gD gS => k q H1 locs gP gD gS)
theorem U_putF {C : String} {T : u_T} {N ci index q0 k a : Nat} {fs : List Value} {ty0 : Nat → FieldType} {ty : FieldType} {v : Value} {ws' : va_W} (hY : cs_OkI own cc nL d mc ms Y) (hI : cs_inI Y) (hcd : cs_cd ci C T N) (hty : ∀ k, k < N → parseFieldDescriptor (T k).2.2.1 = some (ty0 k)) (hnm : ∀ a, a < N → ∀ b, b < N → a ≠ b → (T a).2.1 ≠ (T b).2.1) (he : ws[q0]? = some (a, .inr (ci, fs))) (hk : k < N) (hl : Cond.fieldLink own index (T k).1 (T k).2.1 (T k).2.2.1 ∈ cs_gt) (hfin : (T k).2.2.2 = true) (hdecl : (T k).1 = own) (ht0 : ty0 k = ty) (hnr : narrow ty v = v) (hfit : fits ty v = true) (hlen : k < fs.length) (hw : ws.set q0 (a, .inr (ci, fs.set k v)) = ws') (hd : decode cc pc = .ok (.putfield index, 3)) (kk : cs_U Y ls (pc + 3) st ws' cells slots) : cs_U Y ls pc (v :: .ref a :: st) ws cells slots := by
  subst hw
  obtain ⟨⟨p, l, e, R⟩, ⟨s, m, args, below⟩, ⟨meth, c⟩, Q, ⟨adr, ac, D, A⟩⟩ := Y
  obtain ⟨⟨hx, hb, hml, ho⟩, ⟨ht, -, hK⟩, -, hA, -⟩ := hY
  intro H locs h1 h2 h3
  exact va_putF hx hb ht hcd.2 ty0 hty hnm ho hK h1 h2 h3 q0 he hcd.1 k hk (ht _ hl) (fun _ h => h) hfin hI hdecl (by rw [hty k hk, ht0]) hnr hfit hlen hd (fun H1 locs1 g1 g2 g3 => kk H1 locs1 g1 g2 g3)
theorem U_putI {C : String} {T : u_T} {N ci index q0 k a : Nat} {fs : List Value} {ty0 : Nat → FieldType} {v : Value} {ws' : va_W} (hY : cs_OkI own cc nL d mc ms Y) (hcd : cs_cd ci C T N) (hty : ∀ k, k < N → parseFieldDescriptor (T k).2.2.1 = some (ty0 k)) (hnm : ∀ a, a < N → ∀ b, b < N → a ≠ b → (T a).2.1 ≠ (T b).2.1) (he : ws[q0]? = some (a, .inr (ci, fs))) (hk : k < N) (hl : Cond.fieldLink own index (T k).1 (T k).2.1 (T k).2.2.1 ∈ cs_gt) (hfin : (T k).2.2.2 = false) (ht0 : ty0 k = .int) (hnr : narrow .int v = v) (hfit : fits .int v = true) (hlen : k < fs.length) (hw : ws.set q0 (a, .inr (ci, fs.set k v)) = ws') (hd : decode cc pc = .ok (.putfield index, 3)) (kk : cs_U Y ls (pc + 3) st ws' cells slots) : cs_U Y ls pc (v :: .ref a :: st) ws cells slots := by
  subst hw
  obtain ⟨⟨p, l, e, R⟩, ⟨s, m, args, below⟩, ⟨meth, c⟩, Q, ⟨adr, ac, D, A⟩⟩ := Y
  obtain ⟨⟨hx, hb, hml, ho⟩, ⟨ht, -, hK⟩, -, hA, -⟩ := hY
  intro H locs h1 h2 h3
  exact va_put hx hb ht hcd.2 ty0 hty hnm ho hK h1 h2 h3 q0 he hcd.1 k hk (ht _ hl) (fun _ h => h) hfin (by rw [hty k hk, ht0]) hnr hfit hlen hd (fun H1 locs1 g1 g2 g3 => kk H1 locs1 g1 g2 g3)
theorem U_get {C : String} {T : u_T} {N ci index q0 k a : Nat} {fs : List Value} {v : Value} (hY : cs_OkI own cc nL d mc ms Y) (hcd : cs_cd ci C T N) (he : ws[q0]? = some (a, .inr (ci, fs))) (hk : k < N) (hl : Cond.fieldLink own index (T k).1 (T k).2.1 (T k).2.2.1 ∈ cs_gt) (hv : fs[k]? = some v) (hd : decode cc pc = .ok (.getfield index, 3)) (kk : cs_U Y ls (pc + 3) (v :: st) ws cells slots) : cs_U Y ls pc (.ref a :: st) ws cells slots := by
  obtain ⟨⟨p, l, e, R⟩, ⟨s, m, args, below⟩, ⟨meth, c⟩, Q, ⟨adr, ac, D, A⟩⟩ := Y
  obtain ⟨⟨hx, hb, hml, ho⟩, ⟨ht, -, hK⟩, -, hA, -⟩ := hY
  intro H locs h1 h2 h3
  exact va_get hx hb ht hcd.2 ho hK h1 q0 he hcd.1 k hk (ht _ hl) (fun _ h => h) hv hd (kk H locs h1 h2 h3)
/-- a constructor's link -/
def cs_LI (own : String) (y : MethodName) (cc' : ByteArray) (nL' index n : Nat) : Prop := Cond.code y cc' nL' none ∈ cs_gt ∧ Cond.initialized y.cls ∈ cs_gt ∧ Cond.instanceMethod y ∈ cs_gt ∧ y.name = "<init>" ∧ (y.cls ≠ "java/lang/invoke/MethodHandle" ∧ y.cls ≠ "java/lang/invoke/VarHandle" ∧ (parseMethodDescriptor y.desc).map (fun d => d.parameters.length) = some n) ∧ (Cond.methodLink own index y ∈ cs_gt ∨ ∃ host, Cond.methodLinkNest own index y host ∈ cs_nest)
theorem U_init {y : MethodName} {cc' : ByteArray} {nL' d' mc' ms' index n a : Nat} {As : List Value} {w0 wr : va_W} {w1 : (FieldType → ClassId) → (Nat → Nat) → va_W} (hY : cs_OkI own cc nL d mc ms Y) (hc : cs_Ini y cc' nL' d' mc' ms' (.ref a :: As) w0 w1) (hn : ls.size = nL) (hlk : cs_LI own y cc' nL' index n) (hAs : As.length = n) (hd' : d' + 1 ≤ d) (hnl : nL' ≤ 20) (isC isR : List Nat) (hC1 : isC.filterMap (fun i => ws[i]?) = w0) (hC2 : isC.map (fun i => ws[i]?) = w0.map some) (hCn : va_nd isC = true) (hR : isR.map (fun i => ws[i]?) = wr.map some) (hnd : va_nd isR = true) (hdis : ∀ i ∈ isR, i ∉ isC) (hrm : cells + mc' ≤ mc ∧ slots + ms' ≤ ms) (hst : (st.map fun v => v.category).sum ≤ 8) (hd : decode cc pc = .ok (.invokespecial index, 3)) (kk : ∀ u : Nat → Nat, cs_U Y ls (pc + 3) st (wr ++ w1 (cs_ac Y) u) (cells + mc') (slots + ms')) : cs_U Y ls pc (As.reverse ++ .ref a :: st) ws cells slots := by
  obtain ⟨⟨p, l, e, R⟩, ⟨s, m, args, below⟩, ⟨meth, c⟩, Q, ⟨adr, ac, D, A⟩⟩ := Y
  obtain ⟨⟨hx, hb, hml, ho⟩, ⟨ht, hN, hK⟩, ⟨hR1, hR2, hR3, hR4⟩, hA, hro⟩ := hY
  obtain ⟨e1, e2, e3, e4, e5, e6⟩ := hlk
  intro H locs h1 h2 h3
  have hPc := h1.sub (ws' := w0) isC hC1
  have hDc := h2.sub (ws' := w0) isC hCn hC2
  have hFc := va_free (wc := w0) h2 h3 hA isC hC2
  have hroom : d' + 1 ≤ R.frames ∧ 8 + (nL' + 11) + 39 * d' ≤ R.locals := ⟨by omega, by omega⟩
  have hpre : PreS s H (va_Pc (.ref a :: As) (cs_PreI adr ac D w0 H.size)) (.ref a :: As) := ⟨cs_blindI, fun U hU hW => ⟨rfl, by rw [hU], by rw [hU]; exact hPc, va_K.moved hW.alike hK, cs_NW_warm hW hN, by rw [hU]; exact cs_RO_move hW.alike hro h3 hFc, hDc.weaken (fun _ _ _ _ => trivial)⟩⟩
  have hM := hc l adr ac D H.size
  have fin : ∀ (u : Nat → Nat) (t : State) (H1 : Heap) (locs1 : List Loc), t.heap = H1 → (va_P D cs_cl (w1 ac u) t.heap ∧ va_D (va_A w0 H.size) (w1 ac u)) → (∀ q : Nat, q < H.size → ¬ va_A w0 H.size q → H1[q]? = H[q]?) → va_S A s.heap H1 locs1 → W p l e R s m args below meth c H1 locs1 (cells + mc') (slots + ms') Q (F0 m (pc + 3) ls st) := by
    intro u t H1 locs1 ht hB hk hS
    obtain ⟨hP1, hD1⟩ := hB
    rw [ht] at hP1
    obtain ⟨hP, hD⟩ := va_join (wr := wr) (w1 := w1 ac u) h1 h2 isC isR hC2 hR hnd hdis hk hFc hP1 hD1
    exact kk u H1 locs1 hP hD hS
  rcases e6 with e6 | ⟨host, e6⟩
  · exact va_callv (va_runI (As := As) (rest := st) ⟨hx, hb, hml, ho, ht⟩ hM (cwI n ht (cs_goodIn e1) rfl rfl rfl (ht _ e2) (ht _ e6) (ht _ e3) e4 e5 hroom) hpre rfl hAs hn rfl (lv_room hst) hd ⟨by omega, by omega⟩) h3 (fun q _ h => hFc q h) hFc (fun u t H1 locs1 g1 _ _ g4 _ g6 g7 => fin u t H1 locs1 g1 g4 g6 g7)
  · exact va_callv (va_runIN (As := As) (rest := st) ⟨hx, hb, hml, ho, ht⟩ hM ⟨va_cnB n ht (cs_goodIn e1) rfl rfl rfl (hN _ e6) (ht _ e2) e5 hroom, e4, ht _ e3⟩ hpre rfl hAs hn rfl (lv_room hst) hd ⟨by omega, by omega⟩) h3 (fun q _ h => hFc q h) hFc (fun u t H1 locs1 g1 _ _ g4 _ g6 g7 => fin u t H1 locs1 g1 g4 g6 g7)
theorem U_eq {ws' : va_W} (h : ws = ws') (k : cs_U Y ls pc st ws' cells slots) : cs_U Y ls pc st ws cells slots := h ▸ k
end UR
