/-! the words that a contract may carry, the nest mates' words beside them -/
def cs_gt : List Cond := lw_tbl.filter goodWord
theorem cs_gt_of {w : Cond} (i : Nat) (h : lw_tbl[i]? = some w) (hg : goodWord w = true) : w ∈ cs_gt := List.mem_filter.mpr ⟨List.mem_of_getElem? h, hg⟩
def cs_isNest : Cond → Bool
  | .fieldLinkNest _ _ _ _ _ _ => true
  | .methodLinkNest _ _ _ _ => true
  | _ => false
def cs_nest : List Cond := lw_tbl.filter cs_isNest
theorem cs_nest_of {w : Cond} (i : Nat) (h : lw_tbl[i]? = some w) (hg : cs_isNest w = true) : w ∈ cs_nest := List.mem_filter.mpr ⟨List.mem_of_getElem? h, hg⟩
def cs_NW (U : State) : Prop := ∀ w ∈ cs_nest, va_Nw w U
theorem cs_NW_warm {s U : State} (hW : s.WarmedH U.vm) (h : cs_NW s) : cs_NW U := by
  intro w hw
  have h1 := h w hw
  have h2 : cs_isNest w = true := (List.mem_filter.mp hw).2
  cases w <;> first | exact va_Nw.warmF hW h1 | exact va_Nw.warmM hW h1 | cases h2
theorem cs_NW_same {s U : State} (hv : s.vm = U.vm) (h : cs_NW s) : cs_NW U := by
  intro w hw
  have h1 := h w hw
  have h2 : cs_isNest w = true := (List.mem_filter.mp hw).2
  refine va_Nw.same ?_ hv h1
  cases w <;> first | rfl | cases h2
theorem cs_gt_good {w : Cond} (h : w ∈ cs_gt) : goodWord w = true := (List.mem_filter.mp h).2
/-- the words of a method's contract -/
def cs_ws (y : MethodName) (cc : ByteArray) (nL : Nat) (rt : Option FieldType) : List Cond := .code y cc nL rt :: cs_gt
theorem cs_goodIn {y : MethodName} {cc : ByteArray} {nL : Nat} {rt : Option FieldType} (h : Cond.code y cc nL rt ∈ cs_gt) : GoodIn cs_gt (cs_ws y cc nL rt) := by
  intro w hw
  have h1 : w ∈ cs_gt := (List.mem_cons.mp hw).elim (fun e => e ▸ h) id
  exact ⟨h1, good_of_word (cs_gt_good h1)⟩
/-! the classes, the static arrays -/
abbrev cs_cl : List vw_C := [(RX0, TX0, 4), (RX1, TX1, 14), (RX2, TX2, 5), (RX3, TX3, 1), (RX4, TX4, 6), (RX5, TX5, 4), (RX6, TX6, 3), (RX7, TX7, 2), (RX8, TX8, 5), (RX9, TX9, 7), (RX10, TX10, 25)]
abbrev cs_tys (ac : FieldType → ClassId) : List (ClassId × FieldType) := [(ac .int, .int), (ac .boolean, .boolean), (ac .char, .char)]
/-- static arrays of four ints: name, place, contents -/
abbrev cs_ros : List (String × Nat × (Nat → Int)) := [("STEP_X", 100, fun j => [1, 0, -1, 0].getD j 0), ("STEP_Y", 101, fun j => [0, 1, 0, -1].getD j 0), ("HAND_X", 102, fun j => [0, -1, -1, 0].getD j 0), ("HAND_Y", 103, fun j => [0, 0, -1, -1].getD j 0)]
def cs_RO (adr : Nat → Nat) (A : Nat → Prop) (U : State) (H : Heap) : Prop := ∀ r ∈ cs_ros, va_Z "ContourSimplifier" r.1 "[I" (.ref (adr r.2.1)) A U H ∧ va_T .int (adr r.2.1) 4 (fun j => .int (cs_q (r.2.2 j))) A U H ∧ adr r.2.1 < H.size ∧ ¬ A (adr r.2.1)
/-! methods -/
abbrev cs_M : Type := (String × MethodName × ByteArray × Nat × Option FieldType) × (Nat × List (Option Nat) × cs_Sh)
abbrev cs_own (M : cs_M) : String := M.1.1
abbrev cs_y (M : cs_M) : MethodName := M.1.2.1
abbrev cs_cc (M : cs_M) : ByteArray := M.1.2.2.1
abbrev cs_nL (M : cs_M) : Nat := M.1.2.2.2.1
abbrev cs_rt (M : cs_M) : Option FieldType := M.1.2.2.2.2
abbrev cs_d (M : cs_M) : Nat := M.2.1
abbrev cs_sig (M : cs_M) : List (Option Nat) := M.2.2.1
abbrev cs_sh (M : cs_M) : cs_Sh := M.2.2.2
def cs_refs : List (Option Nat) → Nat → List (Nat × Nat)
  | [], _ => []
  | some p :: t, k => (k, p) :: cs_refs t (k + 1)
  | none :: t, k => cs_refs t (k + 1)
abbrev cs_X : Type := (Program × Launch × Env × Room) × (State × MethodId × Array Value × List Frame) × (Method × Code) × (Nat × Nat × (State → Prop)) × ((Nat → Nat) × (FieldType → ClassId) × va_G × (Nat → Prop))
def cs_Ok (M : cs_M) (X : cs_X) : Prop := match X with
  | ((p, _, _, R), (s, m, args, _), (meth, c), (cells, slots, _), (adr, ac, D, A)) =>
    (p.tables.exec = Jvm.exec ∧ c.code = cs_cc M ∧ c.maxLocals = cs_nL M ∧ meth.sig.returnType = cs_rt M ∧ meth.locks = false ∧ s.vm.findClass (cs_own M) = some m.cls) ∧
    ((∀ w ∈ cs_gt, w.before args s = true) ∧ cs_NW s ∧ va_K D cs_cl (cs_tys ac) s) ∧
    (cs_d M ≤ R.frames ∧ 39 * cs_d M ≤ R.locals ∧ cells ≤ R.cells ∧ slots ≤ R.slots) ∧
    ((∀ i j, i < (cs_sh M).length → j < (cs_sh M).length → adr i = adr j → i = j) ∧ (∀ i, i < (cs_sh M).length → A (adr i)) ∧ (∀ q, s.heap.size ≤ q → A q) ∧ cs_RO adr A s s.heap)
def cs_V (M : cs_M) (X : cs_X) (pc : Nat) (L : cs_L) (st : List (Int ⊕ Nat)) (σ : cs_S) : Prop := match X with
  | ((p, l, e, R), (s, m, args, below), (meth, c), (cells, slots, Q), (adr, ac, D, A)) =>
    ∀ (ls : Array Slot) (H : Heap) (locs : List Loc), cs_LR adr (cs_refs (cs_sig M) 0) (cs_nL M) ls L → va_P D cs_cl (cs_wl (cs_sh M) adr ac σ) H → va_S A s.heap H locs → W p l e R s m args below meth c H locs cells slots Q (F0 m pc ls (st.map (cs_cv adr)))
section VI
variable {M : cs_M} {X : cs_X} {pc : Nat} {L : cs_L} {st : List (Int ⊕ Nat)} {σ : cs_S}
theorem cs_V_iconst {z n : Int} (hX : cs_Ok M X) (hd : decode (cs_cc M) pc = .ok (.iconst n, 1)) (hz : cs_q z = Int32.ofInt n) (k : cs_V M X (pc + 1) L (.inl z :: st) σ) : cs_V M X pc L st σ := by
  obtain ⟨⟨p, l, e, R⟩, ⟨s, m, args, below⟩, ⟨meth, c⟩, ⟨cells, slots, Q⟩, ⟨adr, ac, D, A⟩⟩ := X
  obtain ⟨⟨hx, hb, -⟩, -⟩ := hX
  exact fun ls H locs h1 h2 h3 => lv_iconst hx hb hd hz.symm (k ls H locs h1 h2 h3)
theorem cs_V_bipush {z n : Int} (hX : cs_Ok M X) (hd : decode (cs_cc M) pc = .ok (.bipush n, 2)) (hz : cs_q z = (Int8.ofInt n).toInt32) (k : cs_V M X (pc + 2) L (.inl z :: st) σ) : cs_V M X pc L st σ := by
  obtain ⟨⟨p, l, e, R⟩, ⟨s, m, args, below⟩, ⟨meth, c⟩, ⟨cells, slots, Q⟩, ⟨adr, ac, D, A⟩⟩ := X
  obtain ⟨⟨hx, hb, -⟩, -⟩ := hX
  exact fun ls H locs h1 h2 h3 => lv_bipush hx hb hd hz.symm (k ls H locs h1 h2 h3)
theorem cs_V_sipush {z n : Int} (hX : cs_Ok M X) (hd : decode (cs_cc M) pc = .ok (.sipush n, 3)) (hz : cs_q z = (Int16.ofInt n).toInt32) (k : cs_V M X (pc + 3) L (.inl z :: st) σ) : cs_V M X pc L st σ := by
  obtain ⟨⟨p, l, e, R⟩, ⟨s, m, args, below⟩, ⟨meth, c⟩, ⟨cells, slots, Q⟩, ⟨adr, ac, D, A⟩⟩ := X
  obtain ⟨⟨hx, hb, -⟩, -⟩ := hX
  exact fun ls H locs h1 h2 h3 => lv_sipush hx hb hd hz.symm (k ls H locs h1 h2 h3)
theorem cs_V_ldc {z : Int} {index : Nat} {v : Int32} (hX : cs_Ok M X) (hd : decode (cs_cc M) pc = .ok (.ldc index, 2)) (hw : Cond.constant (cs_own M) index v ∈ cs_gt) (hz : cs_q z = v) (k : cs_V M X (pc + 2) L (.inl z :: st) σ) : cs_V M X pc L st σ := by
  obtain ⟨⟨p, l, e, R⟩, ⟨s, m, args, below⟩, ⟨meth, c⟩, ⟨cells, slots, Q⟩, ⟨adr, ac, D, A⟩⟩ := X
  obtain ⟨⟨hx, hb, -, -, -, ho⟩, ⟨ht, -⟩, -⟩ := hX
  subst hz
  exact fun ls H locs h1 h2 h3 => lv_ldc hx hb ho (ht _ hw) hd (k ls H locs h1 h2 h3)
theorem cs_V_iload_n {z : Int} {i : Nat} {j : Fin 4} (hX : cs_Ok M X) (hd : decode (cs_cc M) pc = .ok (.iload_n j, 1)) (hj : (j : Nat) = i) (hl : L[i]? = some (some z)) (k : cs_V M X (pc + 1) L (.inl z :: st) σ) : cs_V M X pc L st σ := by
  obtain ⟨⟨p, l, e, R⟩, ⟨s, m, args, below⟩, ⟨meth, c⟩, ⟨cells, slots, Q⟩, ⟨adr, ac, D, A⟩⟩ := X
  obtain ⟨⟨hx, hb, -⟩, -⟩ := hX
  exact fun ls H locs h1 h2 h3 => lv_iload_n hx hb hd hj (h1.2.2.1 i z hl) (k ls H locs h1 h2 h3)
theorem cs_V_iload {z : Int} {i : Nat} (hX : cs_Ok M X) (hd : decode (cs_cc M) pc = .ok (.iload i, 2)) (hl : L[i]? = some (some z)) (k : cs_V M X (pc + 2) L (.inl z :: st) σ) : cs_V M X pc L st σ := by
  obtain ⟨⟨p, l, e, R⟩, ⟨s, m, args, below⟩, ⟨meth, c⟩, ⟨cells, slots, Q⟩, ⟨adr, ac, D, A⟩⟩ := X
  obtain ⟨⟨hx, hb, -⟩, -⟩ := hX
  exact fun ls H locs h1 h2 h3 => lv_iload hx hb hd (h1.2.2.1 i z hl) (k ls H locs h1 h2 h3)
theorem cs_V_aload_n {q i : Nat} {j : Fin 4} (hX : cs_Ok M X) (hd : decode (cs_cc M) pc = .ok (.aload_n j, 1)) (hj : (j : Nat) = i) (hl : (i, q) ∈ cs_refs (cs_sig M) 0) (k : cs_V M X (pc + 1) L (.inr q :: st) σ) : cs_V M X pc L st σ := by
  obtain ⟨⟨p, l, e, R⟩, ⟨s, m, args, below⟩, ⟨meth, c⟩, ⟨cells, slots, Q⟩, ⟨adr, ac, D, A⟩⟩ := X
  obtain ⟨⟨hx, hb, -⟩, -⟩ := hX
  exact fun ls H locs h1 h2 h3 => lv_aload_n hx hb hd hj (h1.2.2.2 (i, q) hl) (k ls H locs h1 h2 h3)
theorem cs_V_istore_n {z : Int} {i : Nat} {j : Fin 4} (hX : cs_Ok M X) (hd : decode (cs_cc M) pc = .ok (.istore_n j, 1)) (hj : (j : Nat) = i) (hi : i < cs_nL M) (hr : ∀ r ∈ cs_refs (cs_sig M) 0, r.1 ≠ i) (k : cs_V M X (pc + 1) (L.set i (some z)) st σ) : cs_V M X pc L (.inl z :: st) σ := by
  obtain ⟨⟨p, l, e, R⟩, ⟨s, m, args, below⟩, ⟨meth, c⟩, ⟨cells, slots, Q⟩, ⟨adr, ac, D, A⟩⟩ := X
  obtain ⟨⟨hx, hb, -⟩, -⟩ := hX
  exact fun ls H locs h1 h2 h3 => lv_istore_n hx hb hd hj (cs_LR_has.mp h1) hi rfl (fun ls' hl' => k ls' H locs (cs_LR_set rfl hr hl') h2 h3)
theorem cs_V_istore {z : Int} {i : Nat} (hX : cs_Ok M X) (hd : decode (cs_cc M) pc = .ok (.istore i, 2)) (hi : i < cs_nL M) (hr : ∀ r ∈ cs_refs (cs_sig M) 0, r.1 ≠ i) (k : cs_V M X (pc + 2) (L.set i (some z)) st σ) : cs_V M X pc L (.inl z :: st) σ := by
  obtain ⟨⟨p, l, e, R⟩, ⟨s, m, args, below⟩, ⟨meth, c⟩, ⟨cells, slots, Q⟩, ⟨adr, ac, D, A⟩⟩ := X
  obtain ⟨⟨hx, hb, -⟩, -⟩ := hX
  exact fun ls H locs h1 h2 h3 => lv_istore hx hb hd (cs_LR_has.mp h1) hi rfl (fun ls' hl' => k ls' H locs (cs_LR_set rfl hr hl') h2 h3)
theorem cs_V_iinc {z n : Int} {i : Nat} (hX : cs_Ok M X) (hd : decode (cs_cc M) pc = .ok (.iinc i n, 3)) (hl : L[i]? = some (some z)) (hi : i < cs_nL M) (hr : ∀ r ∈ cs_refs (cs_sig M) 0, r.1 ≠ i) (k : cs_V M X (pc + 3) (L.set i (some (z + n))) st σ) : cs_V M X pc L st σ := by
  obtain ⟨⟨p, l, e, R⟩, ⟨s, m, args, below⟩, ⟨meth, c⟩, ⟨cells, slots, Q⟩, ⟨adr, ac, D, A⟩⟩ := X
  obtain ⟨⟨hx, hb, -⟩, -⟩ := hX
  intro ls H locs h1 h2 h3
  have hm : (i, Value.int (cs_q z)) ∈ cs_enc adr (cs_refs (cs_sig M) 0) 0 L := (cs_enc_mem L 0).mpr (Or.inl ⟨i, z, hl, by simp⟩)
  obtain ⟨j, hj⟩ := List.getElem?_of_mem hm
  exact lv_iinc (k := j) hx hb hd (cs_LR_has.mp h1) hj (cs_q_add z n) hi rfl (fun ls' hl' => k ls' H locs (cs_LR_set rfl hr hl') h2 h3)
theorem cs_V_iadd {a b : Int} (hX : cs_Ok M X) (hd : decode (cs_cc M) pc = .ok (.iadd, 1)) (k : cs_V M X (pc + 1) L (.inl (a + b) :: st) σ) : cs_V M X pc L (.inl b :: .inl a :: st) σ := by
  obtain ⟨⟨p, l, e, R⟩, ⟨s, m, args, below⟩, ⟨meth, c⟩, ⟨cells, slots, Q⟩, ⟨adr, ac, D, A⟩⟩ := X
  obtain ⟨⟨hx, hb, -⟩, -⟩ := hX
  intro ls H locs h1 h2 h3
  have h := k ls H locs h1 h2 h3
  simp only [List.map_cons, cs_cv, ← cs_q_add] at h
  exact lv_iadd hx hb hd h
theorem cs_V_isub {a b : Int} (hX : cs_Ok M X) (hd : decode (cs_cc M) pc = .ok (.isub, 1)) (k : cs_V M X (pc + 1) L (.inl (a - b) :: st) σ) : cs_V M X pc L (.inl b :: .inl a :: st) σ := by
  obtain ⟨⟨p, l, e, R⟩, ⟨s, m, args, below⟩, ⟨meth, c⟩, ⟨cells, slots, Q⟩, ⟨adr, ac, D, A⟩⟩ := X
  obtain ⟨⟨hx, hb, -⟩, -⟩ := hX
  intro ls H locs h1 h2 h3
  have h := k ls H locs h1 h2 h3
  simp only [List.map_cons, cs_cv, ← cs_q_sub] at h
  exact lv_isub hx hb hd h
theorem cs_V_imul {a b : Int} (hX : cs_Ok M X) (hd : decode (cs_cc M) pc = .ok (.imul, 1)) (k : cs_V M X (pc + 1) L (.inl (a * b) :: st) σ) : cs_V M X pc L (.inl b :: .inl a :: st) σ := by
  obtain ⟨⟨p, l, e, R⟩, ⟨s, m, args, below⟩, ⟨meth, c⟩, ⟨cells, slots, Q⟩, ⟨adr, ac, D, A⟩⟩ := X
  obtain ⟨⟨hx, hb, -⟩, -⟩ := hX
  intro ls H locs h1 h2 h3
  have h := k ls H locs h1 h2 h3
  simp only [List.map_cons, cs_cv, ← cs_q_mul] at h
  exact lv_imul hx hb hd h
theorem cs_q_b0 {b : Int} (hb : 0 < b) (rb : cs_InR b) : ¬ cs_q b = 0 := by
  rw [← cs_q0, cs_q_eq rb (by omega)]
  omega
theorem cs_V_idiv {a b : Int} (hX : cs_Ok M X) (hd : decode (cs_cc M) pc = .ok (.idiv, 1)) (ha : 0 ≤ a) (hb0 : 0 < b) (ra : cs_InR a) (rb : cs_InR b) (k : cs_V M X (pc + 1) L (.inl (a / b) :: st) σ) : cs_V M X pc L (.inl b :: .inl a :: st) σ := by
  obtain ⟨⟨p, l, e, R⟩, ⟨s, m, args, below⟩, ⟨meth, c⟩, ⟨cells, slots, Q⟩, ⟨adr, ac, D, A⟩⟩ := X
  obtain ⟨⟨hx, hb, -⟩, -⟩ := hX
  intro ls H locs h1 h2 h3
  have h := k ls H locs h1 h2 h3
  simp only [List.map_cons, cs_cv, ← cs_q_div ha hb0 ra rb] at h
  exact lv_idiv hx hb hd (cs_q_b0 hb0 rb) h
theorem cs_V_irem {a b : Int} (hX : cs_Ok M X) (hd : decode (cs_cc M) pc = .ok (.irem, 1)) (ha : 0 ≤ a) (hb0 : 0 < b) (ra : cs_InR a) (rb : cs_InR b) (k : cs_V M X (pc + 1) L (.inl (a % b) :: st) σ) : cs_V M X pc L (.inl b :: .inl a :: st) σ := by
  obtain ⟨⟨p, l, e, R⟩, ⟨s, m, args, below⟩, ⟨meth, c⟩, ⟨cells, slots, Q⟩, ⟨adr, ac, D, A⟩⟩ := X
  obtain ⟨⟨hx, hb, -⟩, -⟩ := hX
  intro ls H locs h1 h2 h3
  have h := k ls H locs h1 h2 h3
  simp only [List.map_cons, cs_cv, ← cs_q_rem ha hb0 ra rb] at h
  exact lv_irem hx hb hd (cs_q_b0 hb0 rb) h
theorem cs_V_ineg {a : Int} (hX : cs_Ok M X) (hd : decode (cs_cc M) pc = .ok (.ineg, 1)) (k : cs_V M X (pc + 1) L (.inl (-a) :: st) σ) : cs_V M X pc L (.inl a :: st) σ := by
  obtain ⟨⟨p, l, e, R⟩, ⟨s, m, args, below⟩, ⟨meth, c⟩, ⟨cells, slots, Q⟩, ⟨adr, ac, D, A⟩⟩ := X
  obtain ⟨⟨hx, hb, -⟩, -⟩ := hX
  intro ls H locs h1 h2 h3
  have h := k ls H locs h1 h2 h3
  simp only [List.map_cons, cs_cv, ← cs_q_neg] at h
  exact lv_ineg hx hb hd h
theorem cs_V_dup {v : Int ⊕ Nat} (hX : cs_Ok M X) (hd : decode (cs_cc M) pc = .ok (.dup, 1)) (k : cs_V M X (pc + 1) L (v :: v :: st) σ) : cs_V M X pc L (v :: st) σ := by
  obtain ⟨⟨p, l, e, R⟩, ⟨s, m, args, below⟩, ⟨meth, c⟩, ⟨cells, slots, Q⟩, ⟨adr, ac, D, A⟩⟩ := X
  obtain ⟨⟨hx, hb, -⟩, -⟩ := hX
  exact fun ls H locs h1 h2 h3 => lv_dup hx hb hd (cs_cv_cat adr v) (k ls H locs h1 h2 h3)
theorem cs_V_dup2 {v w : Int ⊕ Nat} (hX : cs_Ok M X) (hd : decode (cs_cc M) pc = .ok (.dup2, 1)) (k : cs_V M X (pc + 1) L (v :: w :: v :: w :: st) σ) : cs_V M X pc L (v :: w :: st) σ := by
  obtain ⟨⟨p, l, e, R⟩, ⟨s, m, args, below⟩, ⟨meth, c⟩, ⟨cells, slots, Q⟩, ⟨adr, ac, D, A⟩⟩ := X
  obtain ⟨⟨hx, hb, -⟩, -⟩ := hX
  exact fun ls H locs h1 h2 h3 => lv_dup2_11 hx hb hd (cs_cv_cat adr v) (cs_cv_cat adr w) (k ls H locs h1 h2 h3)
theorem cs_V_pop {v : Int ⊕ Nat} (hX : cs_Ok M X) (hd : decode (cs_cc M) pc = .ok (.pop, 1)) (k : cs_V M X (pc + 1) L st σ) : cs_V M X pc L (v :: st) σ := by
  obtain ⟨⟨p, l, e, R⟩, ⟨s, m, args, below⟩, ⟨meth, c⟩, ⟨cells, slots, Q⟩, ⟨adr, ac, D, A⟩⟩ := X
  obtain ⟨⟨hx, hb, -⟩, -⟩ := hX
  exact fun ls H locs h1 h2 h3 => lv_pop hx hb hd (cs_cv_cat adr v) (k ls H locs h1 h2 h3)
theorem cs_V_goto {off : Int} {tgt : Nat} (hX : cs_Ok M X) (hd : decode (cs_cc M) pc = .ok (.goto off, 3)) (ht : (pc : Int) + off = (tgt : Int)) (k : cs_V M X tgt L st σ) : cs_V M X pc L st σ := by
  obtain ⟨⟨p, l, e, R⟩, ⟨s, m, args, below⟩, ⟨meth, c⟩, ⟨cells, slots, Q⟩, ⟨adr, ac, D, A⟩⟩ := X
  obtain ⟨⟨hx, hb, -⟩, -⟩ := hX
  exact fun ls H locs h1 h2 h3 => lv_goto hx hb hd ht (k ls H locs h1 h2 h3)
theorem cs_V_icmp_eq {a b off : Int} {tgt : Nat} (hX : cs_Ok M X) (hd : decode (cs_cc M) pc = .ok (.if_icmp .eq off, 3)) (ht : (pc : Int) + off = (tgt : Int)) (ra : cs_InR a) (rb : cs_InR b) (kt : a = b → cs_V M X tgt L st σ) (kf : ¬ (a = b) → cs_V M X (pc + 3) L st σ) : cs_V M X pc L (.inl b :: .inl a :: st) σ := by
  obtain ⟨⟨p, l, e, R⟩, ⟨s, m, args, below⟩, ⟨meth, c⟩, ⟨cells, slots, Q⟩, ⟨adr, ac, D, A⟩⟩ := X
  obtain ⟨⟨hx, hb, -⟩, -⟩ := hX
  intro ls H locs h1 h2 h3
  exact lv_icmp_eq hx hb hd ht (fun h => kt ((cs_q_eq ra rb).mp h) ls H locs h1 h2 h3) (fun h => kf (fun q => h ((cs_q_eq ra rb).mpr q)) ls H locs h1 h2 h3)
theorem cs_V_if_eq {a off : Int} {tgt : Nat} (hX : cs_Ok M X) (hd : decode (cs_cc M) pc = .ok (.ifCond .eq off, 3)) (ht : (pc : Int) + off = (tgt : Int)) (ra : cs_InR a) (kt : a = 0 → cs_V M X tgt L st σ) (kf : ¬ (a = 0) → cs_V M X (pc + 3) L st σ) : cs_V M X pc L (.inl a :: st) σ := by
  obtain ⟨⟨p, l, e, R⟩, ⟨s, m, args, below⟩, ⟨meth, c⟩, ⟨cells, slots, Q⟩, ⟨adr, ac, D, A⟩⟩ := X
  obtain ⟨⟨hx, hb, -⟩, -⟩ := hX
  intro ls H locs h1 h2 h3
  have r0 : cs_InR 0 := by omega
  have E := cs_q_eq ra r0
  rw [cs_q0] at E
  exact lv_if_eq hx hb hd ht (fun h => kt (E.mp h) ls H locs h1 h2 h3) (fun h => kf (fun q => h (E.mpr q)) ls H locs h1 h2 h3)
theorem cs_V_icmp_ne {a b off : Int} {tgt : Nat} (hX : cs_Ok M X) (hd : decode (cs_cc M) pc = .ok (.if_icmp .ne off, 3)) (ht : (pc : Int) + off = (tgt : Int)) (ra : cs_InR a) (rb : cs_InR b) (kt : a ≠ b → cs_V M X tgt L st σ) (kf : ¬ (a ≠ b) → cs_V M X (pc + 3) L st σ) : cs_V M X pc L (.inl b :: .inl a :: st) σ := by
  obtain ⟨⟨p, l, e, R⟩, ⟨s, m, args, below⟩, ⟨meth, c⟩, ⟨cells, slots, Q⟩, ⟨adr, ac, D, A⟩⟩ := X
  obtain ⟨⟨hx, hb, -⟩, -⟩ := hX
  intro ls H locs h1 h2 h3
  refine lv_icmp_ne hx hb hd ht (fun h => kt (fun q => ?_) ls H locs h1 h2 h3) (fun h => kf (fun q => ?_) ls H locs h1 h2 h3)
  · exact (show ¬ (cs_q a = cs_q b) from h) (by rw [q])
  · exact q ((cs_q_eq ra rb).mp h)
theorem cs_V_if_ne {a off : Int} {tgt : Nat} (hX : cs_Ok M X) (hd : decode (cs_cc M) pc = .ok (.ifCond .ne off, 3)) (ht : (pc : Int) + off = (tgt : Int)) (ra : cs_InR a) (kt : a ≠ 0 → cs_V M X tgt L st σ) (kf : ¬ (a ≠ 0) → cs_V M X (pc + 3) L st σ) : cs_V M X pc L (.inl a :: st) σ := by
  obtain ⟨⟨p, l, e, R⟩, ⟨s, m, args, below⟩, ⟨meth, c⟩, ⟨cells, slots, Q⟩, ⟨adr, ac, D, A⟩⟩ := X
  obtain ⟨⟨hx, hb, -⟩, -⟩ := hX
  intro ls H locs h1 h2 h3
  have r0 : cs_InR 0 := by omega
  refine lv_if_ne hx hb hd ht (fun h => kt (fun q => ?_) ls H locs h1 h2 h3) (fun h => kf (fun q => ?_) ls H locs h1 h2 h3)
  · exact (show ¬ (cs_q a = 0) from h) (by rw [q, cs_q0])
  · exact q ((cs_q_eq ra r0).mp (by rw [cs_q0]; exact h))
theorem cs_V_icmp_lt {a b off : Int} {tgt : Nat} (hX : cs_Ok M X) (hd : decode (cs_cc M) pc = .ok (.if_icmp .lt off, 3)) (ht : (pc : Int) + off = (tgt : Int)) (ra : cs_InR a) (rb : cs_InR b) (kt : a < b → cs_V M X tgt L st σ) (kf : ¬ (a < b) → cs_V M X (pc + 3) L st σ) : cs_V M X pc L (.inl b :: .inl a :: st) σ := by
  obtain ⟨⟨p, l, e, R⟩, ⟨s, m, args, below⟩, ⟨meth, c⟩, ⟨cells, slots, Q⟩, ⟨adr, ac, D, A⟩⟩ := X
  obtain ⟨⟨hx, hb, -⟩, -⟩ := hX
  intro ls H locs h1 h2 h3
  exact lv_icmp_lt hx hb hd ht (fun h => kt ((cs_q_lt ra rb).mp h) ls H locs h1 h2 h3) (fun h => kf (fun q => h ((cs_q_lt ra rb).mpr q)) ls H locs h1 h2 h3)
theorem cs_V_if_lt {a off : Int} {tgt : Nat} (hX : cs_Ok M X) (hd : decode (cs_cc M) pc = .ok (.ifCond .lt off, 3)) (ht : (pc : Int) + off = (tgt : Int)) (ra : cs_InR a) (kt : a < 0 → cs_V M X tgt L st σ) (kf : ¬ (a < 0) → cs_V M X (pc + 3) L st σ) : cs_V M X pc L (.inl a :: st) σ := by
  obtain ⟨⟨p, l, e, R⟩, ⟨s, m, args, below⟩, ⟨meth, c⟩, ⟨cells, slots, Q⟩, ⟨adr, ac, D, A⟩⟩ := X
  obtain ⟨⟨hx, hb, -⟩, -⟩ := hX
  intro ls H locs h1 h2 h3
  have r0 : cs_InR 0 := by omega
  have E := cs_q_lt ra r0
  rw [cs_q0] at E
  exact lv_if_lt hx hb hd ht (fun h => kt (E.mp h) ls H locs h1 h2 h3) (fun h => kf (fun q => h (E.mpr q)) ls H locs h1 h2 h3)
theorem cs_V_icmp_ge {a b off : Int} {tgt : Nat} (hX : cs_Ok M X) (hd : decode (cs_cc M) pc = .ok (.if_icmp .ge off, 3)) (ht : (pc : Int) + off = (tgt : Int)) (ra : cs_InR a) (rb : cs_InR b) (kt : b ≤ a → cs_V M X tgt L st σ) (kf : ¬ (b ≤ a) → cs_V M X (pc + 3) L st σ) : cs_V M X pc L (.inl b :: .inl a :: st) σ := by
  obtain ⟨⟨p, l, e, R⟩, ⟨s, m, args, below⟩, ⟨meth, c⟩, ⟨cells, slots, Q⟩, ⟨adr, ac, D, A⟩⟩ := X
  obtain ⟨⟨hx, hb, -⟩, -⟩ := hX
  intro ls H locs h1 h2 h3
  exact lv_icmp_ge hx hb hd ht (fun h => kt ((cs_q_le rb ra).mp h) ls H locs h1 h2 h3) (fun h => kf (fun q => h ((cs_q_le rb ra).mpr q)) ls H locs h1 h2 h3)
theorem cs_V_if_ge {a off : Int} {tgt : Nat} (hX : cs_Ok M X) (hd : decode (cs_cc M) pc = .ok (.ifCond .ge off, 3)) (ht : (pc : Int) + off = (tgt : Int)) (ra : cs_InR a) (kt : 0 ≤ a → cs_V M X tgt L st σ) (kf : ¬ (0 ≤ a) → cs_V M X (pc + 3) L st σ) : cs_V M X pc L (.inl a :: st) σ := by
  obtain ⟨⟨p, l, e, R⟩, ⟨s, m, args, below⟩, ⟨meth, c⟩, ⟨cells, slots, Q⟩, ⟨adr, ac, D, A⟩⟩ := X
  obtain ⟨⟨hx, hb, -⟩, -⟩ := hX
  intro ls H locs h1 h2 h3
  have r0 : cs_InR 0 := by omega
  have E := cs_q_le r0 ra
  rw [cs_q0] at E
  exact lv_if_ge hx hb hd ht (fun h => kt (E.mp h) ls H locs h1 h2 h3) (fun h => kf (fun q => h (E.mpr q)) ls H locs h1 h2 h3)
theorem cs_V_icmp_gt {a b off : Int} {tgt : Nat} (hX : cs_Ok M X) (hd : decode (cs_cc M) pc = .ok (.if_icmp .gt off, 3)) (ht : (pc : Int) + off = (tgt : Int)) (ra : cs_InR a) (rb : cs_InR b) (kt : b < a → cs_V M X tgt L st σ) (kf : ¬ (b < a) → cs_V M X (pc + 3) L st σ) : cs_V M X pc L (.inl b :: .inl a :: st) σ := by
  obtain ⟨⟨p, l, e, R⟩, ⟨s, m, args, below⟩, ⟨meth, c⟩, ⟨cells, slots, Q⟩, ⟨adr, ac, D, A⟩⟩ := X
  obtain ⟨⟨hx, hb, -⟩, -⟩ := hX
  intro ls H locs h1 h2 h3
  exact lv_icmp_gt hx hb hd ht (fun h => kt ((cs_q_lt rb ra).mp h) ls H locs h1 h2 h3) (fun h => kf (fun q => h ((cs_q_lt rb ra).mpr q)) ls H locs h1 h2 h3)
theorem cs_V_if_gt {a off : Int} {tgt : Nat} (hX : cs_Ok M X) (hd : decode (cs_cc M) pc = .ok (.ifCond .gt off, 3)) (ht : (pc : Int) + off = (tgt : Int)) (ra : cs_InR a) (kt : 0 < a → cs_V M X tgt L st σ) (kf : ¬ (0 < a) → cs_V M X (pc + 3) L st σ) : cs_V M X pc L (.inl a :: st) σ := by
  obtain ⟨⟨p, l, e, R⟩, ⟨s, m, args, below⟩, ⟨meth, c⟩, ⟨cells, slots, Q⟩, ⟨adr, ac, D, A⟩⟩ := X
  obtain ⟨⟨hx, hb, -⟩, -⟩ := hX
  intro ls H locs h1 h2 h3
  have r0 : cs_InR 0 := by omega
  have E := cs_q_lt r0 ra
  rw [cs_q0] at E
  exact lv_if_gt hx hb hd ht (fun h => kt (E.mp h) ls H locs h1 h2 h3) (fun h => kf (fun q => h (E.mpr q)) ls H locs h1 h2 h3)
theorem cs_V_icmp_le {a b off : Int} {tgt : Nat} (hX : cs_Ok M X) (hd : decode (cs_cc M) pc = .ok (.if_icmp .le off, 3)) (ht : (pc : Int) + off = (tgt : Int)) (ra : cs_InR a) (rb : cs_InR b) (kt : a ≤ b → cs_V M X tgt L st σ) (kf : ¬ (a ≤ b) → cs_V M X (pc + 3) L st σ) : cs_V M X pc L (.inl b :: .inl a :: st) σ := by
  obtain ⟨⟨p, l, e, R⟩, ⟨s, m, args, below⟩, ⟨meth, c⟩, ⟨cells, slots, Q⟩, ⟨adr, ac, D, A⟩⟩ := X
  obtain ⟨⟨hx, hb, -⟩, -⟩ := hX
  intro ls H locs h1 h2 h3
  exact lv_icmp_le hx hb hd ht (fun h => kt ((cs_q_le ra rb).mp h) ls H locs h1 h2 h3) (fun h => kf (fun q => h ((cs_q_le ra rb).mpr q)) ls H locs h1 h2 h3)
theorem cs_V_if_le {a off : Int} {tgt : Nat} (hX : cs_Ok M X) (hd : decode (cs_cc M) pc = .ok (.ifCond .le off, 3)) (ht : (pc : Int) + off = (tgt : Int)) (ra : cs_InR a) (kt : a ≤ 0 → cs_V M X tgt L st σ) (kf : ¬ (a ≤ 0) → cs_V M X (pc + 3) L st σ) : cs_V M X pc L (.inl a :: st) σ := by
  obtain ⟨⟨p, l, e, R⟩, ⟨s, m, args, below⟩, ⟨meth, c⟩, ⟨cells, slots, Q⟩, ⟨adr, ac, D, A⟩⟩ := X
  obtain ⟨⟨hx, hb, -⟩, -⟩ := hX
  intro ls H locs h1 h2 h3
  have r0 : cs_InR 0 := by omega
  have E := cs_q_le ra r0
  rw [cs_q0] at E
  exact lv_if_le hx hb hd ht (fun h => kt (E.mp h) ls H locs h1 h2 h3) (fun h => kf (fun q => h (E.mpr q)) ls H locs h1 h2 h3)
end VI
