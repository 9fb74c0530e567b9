/-! jumps that were led on, a product of longs, the static arrays -/
abbrev ro_0 : String × Nat × (Nat → Int) := ("STEP_X", 100, fun j => [1, 0, -1, 0].getD j 0)
abbrev ro_1 : String × Nat × (Nat → Int) := ("STEP_Y", 101, fun j => [0, 1, 0, -1].getD j 0)
abbrev ro_2 : String × Nat × (Nat → Int) := ("HAND_X", 102, fun j => [0, -1, -1, 0].getD j 0)
abbrev ro_3 : String × Nat × (Nat → Int) := ("HAND_Y", 103, fun j => [0, 0, -1, -1].getD j 0)
theorem ro_0_in : ro_0 ∈ cs_ros := List.mem_of_getElem? (i := 0) rfl
theorem ro_1_in : ro_1 ∈ cs_ros := List.mem_of_getElem? (i := 1) rfl
theorem ro_2_in : ro_2 ∈ cs_ros := List.mem_of_getElem? (i := 2) rfl
theorem ro_3_in : ro_3 ∈ cs_ros := List.mem_of_getElem? (i := 3) rfl
theorem ro_inR {a b c d : Int} (ha : cs_InR a) (hb : cs_InR b) (hc : cs_InR c) (hd : cs_InR d) : ∀ j, cs_InR ([a, b, c, d].getD j 0)
  | 0 => ha
  | 1 => hb
  | 2 => hc
  | 3 => hd
  | _ + 4 => by
    simp only [List.getD_eq_getElem?_getD, List.getElem?_cons_succ, List.getElem?_nil, Option.getD_none]
    omega
theorem ro_0_R : ∀ j, cs_InR (ro_0.2.2 j) := ro_inR (by decide) (by decide) (by decide) (by decide)
theorem ro_1_R : ∀ j, cs_InR (ro_1.2.2 j) := ro_inR (by decide) (by decide) (by decide) (by decide)
theorem ro_2_R : ∀ j, cs_InR (ro_2.2.2 j) := ro_inR (by decide) (by decide) (by decide) (by decide)
theorem ro_3_R : ∀ j, cs_InR (ro_3.2.2 j) := ro_inR (by decide) (by decide) (by decide) (by decide)
section CM
variable {M : cs_M} {pc p1 p2 p3 p4 n n1 n2 : Nat} {e1 e2 : cs_E} {c : cs_C} {b : cs_T} {pN pB pX : Nat}
theorem E_iteG {off off2 : Int} (hc : cs_SC M n pc p1 p3 c) (h1 : cs_SE M n1 p1 p2 e1) (hd : decode (cs_cc M) p2 = .ok (.goto off, 3)) (h2 : cs_SE M n2 p3 p4 e2) (hd2 : decode (cs_cc M) p4 = .ok (.goto off2, 3)) (ht : (p2 : Int) + off = (pX : Int) := by decide) (ht2 : (p4 : Int) + off2 = (pX : Int) := by decide) : cs_SE M (max n (max n1 n2)) pc pX (x_ite c e1 e2) := by
  intro L σ v σ' hL hS hv
  obtain ⟨⟨b, σ1⟩, q1, hv⟩ := Option.bind_eq_some_iff.mp hv
  obtain ⟨s1, k1⟩ := hc L σ b σ1 hL hS q1
  cases b with
  | true =>
    obtain ⟨ra, s2, k2⟩ := h1 L σ1 v σ' hL s1 hv
    exact ⟨ra, s2, fun X hX st hn k => k1 X hX st (by omega) (k2 X hX st (by omega) (cs_V_goto hX hd ht k))⟩
  | false =>
    obtain ⟨ra, s2, k2⟩ := h2 L σ1 v σ' hL s1 hv
    exact ⟨ra, s2, fun X hX st hn k => k1 X hX st (by omega) (k2 X hX st (by omega) (cs_V_goto hX hd2 ht2 k))⟩
theorem E_ite1 (hc : cs_SC M n pc p1 p3 c) (h1 : cs_SE M n1 p1 p4 e1) (h2 : cs_SE M n2 p3 p4 e2) : cs_SE M (max n (max n1 n2)) pc p4 (x_ite c e1 e2) := by
  intro L σ v σ' hL hS hv
  obtain ⟨⟨b, σ1⟩, q1, hv⟩ := Option.bind_eq_some_iff.mp hv
  obtain ⟨s1, k1⟩ := hc L σ b σ1 hL hS q1
  cases b with
  | true =>
    obtain ⟨ra, s2, k2⟩ := h1 L σ1 v σ' hL s1 hv
    exact ⟨ra, s2, fun X hX st hn k => k1 X hX st (by omega) (k2 X hX st (by omega) k)⟩
  | false =>
    obtain ⟨ra, s2, k2⟩ := h2 L σ1 v σ' hL s1 hv
    exact ⟨ra, s2, fun X hX st hn k => k1 X hX st (by omega) (k2 X hX st (by omega) k)⟩
theorem S_brk0 : cs_SS M pB pN pB s_brk := by
  intro L σ o hL hS hv
  cases hv
  exact ⟨⟨hL, hS⟩, fun X hX k => k⟩
theorem S_wh0 (hc : cs_SC M n pc p1 pN c) (hb : cs_SS M p1 pc pN b) (hn : n ≤ 8 := by decide) : cs_SS M pc pN pB (s_wh c b) := by
  intro L σ o hL hS hv
  obtain ⟨k, hk⟩ := s_wh_iff.mp hv
  clear hv
  induction k generalizing L σ with
  | zero => simp [cs_it] at hk
  | succ k ih =>
    rw [cs_it] at hk
    obtain ⟨⟨t, σ1⟩, q1, hk⟩ := Option.bind_eq_some_iff.mp hk
    obtain ⟨s1, k1⟩ := hc L σ t σ1 hL hS q1
    cases t with
    | false =>
      simp at hk
      subst hk
      exact ⟨⟨hL, s1⟩, fun X hX kk => k1 X hX [] (by simpa using hn) kk⟩
    | true =>
      rw [if_pos rfl] at hk
      obtain ⟨o1, q2, hk⟩ := Option.bind_eq_some_iff.mp hk
      obtain ⟨s2, k2⟩ := hb L σ1 o1 hL s1 q2
      match o1, s2, k2, hk with
      | .inl r, s2, k2, hk =>
        obtain ⟨s3, k3⟩ := ih r.1 r.2 s2.1 s2.2 hk
        exact ⟨s3, fun X hX kk => k1 X hX [] (by simpa using hn) (k2 X hX (k3 X hX kk))⟩
      | .inr (.inl r), s2, k2, hk => cases hk; exact ⟨s2, fun X hX kk => k1 X hX [] (by simpa using hn) (k2 X hX kk)⟩
      | .inr (.inr r), s2, k2, hk => cases hk; exact ⟨s2, fun X hX kk => k1 X hX [] (by simpa using hn) (k2 X hX kk)⟩
theorem cs_alln : ∀ (i : Nat) (s : cs_T) (t : Nat), ([] : List cs_T)[i]? = some s → ([] : List Nat)[i]? = some t → cs_SS M t pN pB s := fun i s t h => by simp at h
theorem cs_allc {s0 : cs_T} {t0 : Nat} {ss : List cs_T} {tg : List Nat} (h0 : cs_SS M t0 pN pB s0) (h : ∀ (i : Nat) (s : cs_T) (t : Nat), ss[i]? = some s → tg[i]? = some t → cs_SS M t pN pB s) : ∀ (i : Nat) (s : cs_T) (t : Nat), (s0 :: ss)[i]? = some s → (t0 :: tg)[i]? = some t → cs_SS M t pN pB s := by
  intro i s t hs ht
  cases i with
  | zero =>
    simp at hs ht
    subst hs; subst ht
    exact h0
  | succ i => exact h i s t (by simpa using hs) (by simpa using ht)
theorem cs_mul64 {a b : Int} (ha : cs_InR a) (hb : cs_InR b) : ((cs_q a).toInt64 * (cs_q b).toInt64).toInt = a * b := by
  have h0 : (a * b).natAbs ≤ 2147483648 * 2147483648 := by
    rw [Int.natAbs_mul]
    exact Nat.mul_le_mul (by omega) (by omega)
  have h1 : a * b ≤ ((a * b).natAbs : Int) := Int.le_natAbs
  have h2 : -(a * b) ≤ ((a * b).natAbs : Int) := by rw [← Int.natAbs_neg]; exact Int.le_natAbs
  rw [Int64.toInt_mul, Int32.toInt_toInt64, Int32.toInt_toInt64, cs_qT ha, cs_qT hb]
  exact Int.bmod_eq_of_le (by omega) (by omega)
theorem C_lgt {p ci k1 k2 x1 x2 N i j : Nat} {j0 j3 j4 : Fin 4} {fs : List (Option Nat)} {C : String} {T : u_T} {off : Int} {tgt : Nat} (hc : cs_cd ci C T N) (hl1 : cs_FL (cs_own M) x1 T k1) (hl2 : cs_FL (cs_own M) x2 T k2)
    (d0 : decode (cs_cc M) pc = .ok (.aload_n j0, 1)) (d1 : decode (cs_cc M) (pc + 1) = .ok (.getfield x1, 3)) (d2 : decode (cs_cc M) (pc + 4) = .ok (.i2l, 1)) (d3 : decode (cs_cc M) (pc + 5) = .ok (.iload i, 2)) (d4 : decode (cs_cc M) (pc + 7) = .ok (.i2l, 1)) (d5 : decode (cs_cc M) (pc + 8) = .ok (.lmul, 1))
    (d6 : decode (cs_cc M) (pc + 9) = .ok (.iload_n j3, 1)) (d7 : decode (cs_cc M) (pc + 10) = .ok (.i2l, 1)) (d8 : decode (cs_cc M) (pc + 11) = .ok (.aload_n j4, 1)) (d9 : decode (cs_cc M) (pc + 12) = .ok (.getfield x2, 3)) (d10 : decode (cs_cc M) (pc + 15) = .ok (.i2l, 1)) (d11 : decode (cs_cc M) (pc + 16) = .ok (.lmul, 1)) (d12 : decode (cs_cc M) (pc + 17) = .ok (.lcmp, 1)) (d13 : decode (cs_cc M) (pc + 18) = .ok (.ifCond .le off, 3))
    (hj0 : (j0 : Nat) = 0 := by rfl) (hj3 : (j3 : Nat) = j := by rfl) (hj4 : (j4 : Nat) = 0 := by rfl) (hth : (0, p) ∈ cs_refs (cs_sig M) 0 := by decide) (hs : (cs_sh M)[p]? = some (.inl (ci, fs)) := by rfl) (hf1 : fs[k1]? = some none := by rfl) (hf2 : fs[k2]? = some none := by rfl) (hk1 : k1 < N := by decide) (hk2 : k2 < N := by decide) (ht : ((pc + 18 : Nat) : Int) + off = (tgt : Int) := by decide) : cs_SC M 0 pc (pc + 21) tgt (y_lgt (x_f p k1) (x_l i) (x_l j) (x_f p k2)) := by
  intro L σ b0 σ' hL hS hv
  obtain ⟨⟨a, σ1⟩, q1, hv⟩ := Option.bind_eq_some_iff.mp hv
  cases q1
  obtain ⟨⟨b, σ2⟩, q2, hv⟩ := Option.bind_eq_some_iff.mp hv
  obtain ⟨g2, rfl⟩ := x_l_some q2
  obtain ⟨⟨c, σ3⟩, q3, hv⟩ := Option.bind_eq_some_iff.mp hv
  obtain ⟨g3, rfl⟩ := x_l_some q3
  obtain ⟨⟨d, σ4⟩, q4, hv⟩ := Option.bind_eq_some_iff.mp hv
  cases q4
  cases hv
  refine ⟨hS, fun X hX st hn k => ?_⟩
  obtain ⟨⟨p0, l, e, R⟩, ⟨s, m, args, below⟩, ⟨meth, c0⟩, ⟨cells, slots, Q⟩, ⟨adr, ac, D, A⟩⟩ := X
  obtain ⟨⟨hx, hb, -, -, -, ho⟩, ⟨htt, hnn, hK⟩, -⟩ := hX
  intro ls H locs h1 h2 h3
  have he := cs_wl_at (adr := adr) (ac := ac) (σ := σ) hs
  have hv1 : (fs.mapIdx (cs_fv adr (σ p)))[k1]? = some (.int (cs_q (σ p k1))) := by rw [List.getElem?_mapIdx, hf1]; rfl
  have hv2 : (fs.mapIdx (cs_fv adr (σ p)))[k2]? = some (.int (cs_q (σ p k2))) := by rw [List.getElem?_mapIdx, hf2]; rfl
  have rb := hL i b g2
  have rc := hL j c g3
  have E : lg_cmp ((cs_q (σ p k1)).toInt64 * (cs_q b).toInt64) ((cs_q c).toInt64 * (cs_q (σ p k2)).toInt64) ≤ 0 ↔ ¬ (c * σ p k2 < σ p k1 * b) := by
    rw [lg_cmp_le, Int64.le_iff_toInt_le, cs_mul64 (hS p k1) rb, cs_mul64 rc (hS p k2)]
    omega
  have gen : ∀ {x k : Nat} {v : Value} {pc0 : Nat} {rest : List Value}, k < N → cs_FL (cs_own M) x T k → (fs.mapIdx (cs_fv adr (σ p)))[k]? = some v → decode (cs_cc M) pc0 = .ok (.getfield x, 3) → W p0 l e R s m args below meth c0 H locs cells slots Q (F0 m (pc0 + 3) ls (v :: rest)) → W p0 l e R s m args below meth c0 H locs cells slots Q (F0 m pc0 ls (.ref (adr p) :: rest)) := by
    intro x k v pc0 rest hk hl hv hd kk
    rcases hl with hl | ⟨host, hl⟩
    · exact va_get hx hb htt hc.2 ho hK h2 p he hc.1 k hk (htt _ hl) (fun _ h => h) hv hd kk
    · exact va_getN hx hb htt hc.2 ho hK h2 p he hc.1 k hk (va_Nw.use rfl (hnn _ hl)) (fun _ h => h) hv hd kk
  refine lv_aload_n hx hb d0 hj0 (h1.2.2.2 (0, p) hth) ?_
  refine gen hk1 hl1 hv1 d1 ?_
  refine lv_i2l hx hb d2 rfl ?_
  refine lv_iload hx hb d3 (h1.2.2.1 i b g2) ?_
  refine lv_i2l hx hb d4 rfl ?_
  refine lv_lmul hx hb d5 ?_
  refine lv_iload_n hx hb d6 hj3 (h1.2.2.1 j c g3) ?_
  refine lv_i2l hx hb d7 rfl ?_
  refine lv_aload_n hx hb d8 hj4 (h1.2.2.2 (0, p) hth) ?_
  refine gen hk2 hl2 hv2 d9 ?_
  refine lv_i2l hx hb d10 rfl ?_
  refine lv_lmul hx hb d11 ?_
  refine W.lcmp hx hb d12 ?_
  refine lv_if_le hx hb d13 ht (fun h => ?_) (fun h => ?_)
  · have hk := k
    rw [decide_eq_false (p := c * σ p k2 < σ p k1 * b) (E.mp h)] at hk
    exact hk ls H locs h1 h2 h3
  · have hk := k
    rw [decide_eq_true (p := c * σ p k2 < σ p k1 * b) (Decidable.not_not.mp fun q => h (E.mpr q))] at hk
    exact hk ls H locs h1 h2 h3
end CM
