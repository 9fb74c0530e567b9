/-! Math.max, min, abs -/
def x_max (e1 e2 : cs_E) : cs_E := fun L σ => (e1 L σ).bind fun a => (e2 L a.2).bind fun b => some (if a.1 < b.1 then b.1 else a.1, b.2)
def x_min (e1 e2 : cs_E) : cs_E := fun L σ => (e1 L σ).bind fun a => (e2 L a.2).bind fun b => some (if b.1 < a.1 then b.1 else a.1, b.2)
def x_abs (e : cs_E) : cs_E := fun L σ => (e L σ).bind fun a => cs_chk (if 0 ≤ a.1 then a.1 else 0 - a.1) a.2
section CH
variable {M : cs_M} {pc p1 p2 n1 n2 : Nat} {e1 e2 : cs_E} {index : Nat}
theorem E_max (hs : Cond.static Lib.Math.max.name ∈ cs_gt ∧ Cond.initialized "java/lang/Math" ∈ cs_gt ∧ Cond.code Lib.Math.max.name Lib.Math.max.code 2 (some .int) ∈ cs_gt) (hl : Cond.methodLink (cs_own M) index Lib.Math.max.name ∈ cs_gt) (h1 : cs_SE M n1 pc p1 e1) (h2 : cs_SE M n2 p1 p2 e2) (hd : decode (cs_cc M) p2 = .ok (.invokestatic index, 3)) (hdp : 1 ≤ cs_d M := by decide) : cs_SE M (max n1 (n2 + 1)) pc (p2 + 3) (x_max e1 e2) := by
  intro L σ v σ' hL hS hv
  obtain ⟨⟨a, σ1⟩, q1, hv⟩ := Option.bind_eq_some_iff.mp hv
  obtain ⟨⟨b, σ2⟩, q2, hv⟩ := Option.bind_eq_some_iff.mp hv
  cases hv
  obtain ⟨ra, s1, k1⟩ := h1 L σ a σ1 hL hS q1
  obtain ⟨rb, s2, k2⟩ := h2 L σ1 b σ2 hL s1 q2
  refine ⟨by dsimp only; split <;> assumption, s2, fun X hX st hn k => k1 X hX st (by omega) (k2 X hX (.inl a :: st) (by simp; omega) ?_)⟩
  obtain ⟨⟨p, l, e, R⟩, ⟨s, m, args, below⟩, ⟨meth, c⟩, ⟨cells, slots, Q⟩, ⟨adr, ac, D, A⟩⟩ := X
  obtain ⟨⟨hx, hb, hml, -, -, ho⟩, ⟨ht, -⟩, ⟨hR1, hR2, hR3, hR4⟩, -⟩ := hX
  intro ls H locs g1 g2 g3
  refine va_mmax hx hb (hml.trans g1.1.symm) ho (ht _ hl) (ht _ hs.1) (ht _ hs.2.1) (ht _ hs.2.2) (by omega) (by rw [cs_cat_sum]; omega) hR3 hR4 hd ?_
  have hk := k ls H locs g1 g2 g3
  have E : (if cs_q a < cs_q b then cs_q b else cs_q a) = cs_q (if a < b then b else a) := by
    by_cases c : a < b
    · rw [if_pos c, if_pos ((cs_q_lt ra rb).mpr c)]
    · rw [if_neg c, if_neg (fun q => c ((cs_q_lt ra rb).mp q))]
  rw [E]
  exact hk
theorem E_min (hs : Cond.static Lib.Math.min.name ∈ cs_gt ∧ Cond.initialized "java/lang/Math" ∈ cs_gt ∧ Cond.code Lib.Math.min.name Lib.Math.min.code 2 (some .int) ∈ cs_gt) (hl : Cond.methodLink (cs_own M) index Lib.Math.min.name ∈ cs_gt) (h1 : cs_SE M n1 pc p1 e1) (h2 : cs_SE M n2 p1 p2 e2) (hd : decode (cs_cc M) p2 = .ok (.invokestatic index, 3)) (hdp : 1 ≤ cs_d M := by decide) : cs_SE M (max n1 (n2 + 1)) pc (p2 + 3) (x_min e1 e2) := by
  intro L σ v σ' hL hS hv
  obtain ⟨⟨a, σ1⟩, q1, hv⟩ := Option.bind_eq_some_iff.mp hv
  obtain ⟨⟨b, σ2⟩, q2, hv⟩ := Option.bind_eq_some_iff.mp hv
  cases hv
  obtain ⟨ra, s1, k1⟩ := h1 L σ a σ1 hL hS q1
  obtain ⟨rb, s2, k2⟩ := h2 L σ1 b σ2 hL s1 q2
  refine ⟨by dsimp only; split <;> assumption, s2, fun X hX st hn k => k1 X hX st (by omega) (k2 X hX (.inl a :: st) (by simp; omega) ?_)⟩
  obtain ⟨⟨p, l, e, R⟩, ⟨s, m, args, below⟩, ⟨meth, c⟩, ⟨cells, slots, Q⟩, ⟨adr, ac, D, A⟩⟩ := X
  obtain ⟨⟨hx, hb, hml, -, -, ho⟩, ⟨ht, -⟩, ⟨hR1, hR2, hR3, hR4⟩, -⟩ := hX
  intro ls H locs g1 g2 g3
  refine va_mmin hx hb (hml.trans g1.1.symm) ho (ht _ hl) (ht _ hs.1) (ht _ hs.2.1) (ht _ hs.2.2) (by omega) (by rw [cs_cat_sum]; omega) hR3 hR4 hd ?_
  have hk := k ls H locs g1 g2 g3
  have E : (if cs_q b < cs_q a then cs_q b else cs_q a) = cs_q (if b < a then b else a) := by
    by_cases c : b < a
    · rw [if_pos c, if_pos ((cs_q_lt rb ra).mpr c)]
    · rw [if_neg c, if_neg (fun q => c ((cs_q_lt rb ra).mp q))]
  rw [E]
  exact hk
theorem E_abs (hs : Cond.static Lib.Math.abs.name ∈ cs_gt ∧ Cond.initialized "java/lang/Math" ∈ cs_gt ∧ Cond.code Lib.Math.abs.name Lib.Math.abs.code 1 (some .int) ∈ cs_gt) (hl : Cond.methodLink (cs_own M) index Lib.Math.abs.name ∈ cs_gt) (h1 : cs_SE M n1 pc p1 e1) (hd : decode (cs_cc M) p1 = .ok (.invokestatic index, 3)) (hdp : 1 ≤ cs_d M := by decide) : cs_SE M n1 pc (p1 + 3) (x_abs e1) := by
  intro L σ v σ' hL hS hv
  obtain ⟨⟨a, σ1⟩, q1, hv⟩ := Option.bind_eq_some_iff.mp hv
  obtain ⟨hr, rfl, rfl⟩ := cs_chk_some hv
  obtain ⟨ra, s1, k1⟩ := h1 L σ a σ1 hL hS q1
  refine ⟨hr, s1, fun X hX st hn k => k1 X hX st (by omega) ?_⟩
  obtain ⟨⟨p, l, e, R⟩, ⟨s, m, args, below⟩, ⟨meth, c⟩, ⟨cells, slots, Q⟩, ⟨adr, ac, D, A⟩⟩ := X
  obtain ⟨⟨hx, hb, hml, -, -, ho⟩, ⟨ht, -⟩, ⟨hR1, hR2, hR3, hR4⟩, -⟩ := hX
  intro ls H locs g1 g2 g3
  refine va_mabs hx hb (hml.trans g1.1.symm) ho (ht _ hl) (ht _ hs.1) (ht _ hs.2.1) (ht _ hs.2.2) (by omega) (by rw [cs_cat_sum]; omega) hR3 hR4 hd ?_
  have hk := k ls H locs g1 g2 g3
  have r0 : cs_InR 0 := by omega
  have E : (if 0 ≤ cs_q a then cs_q a else 0 - cs_q a) = cs_q (if 0 ≤ a then a else 0 - a) := by
    have E0 := cs_q_le r0 ra
    rw [cs_q0] at E0
    by_cases c : 0 ≤ a
    · rw [if_pos c, if_pos (E0.mpr c)]
    · rw [if_neg c, if_neg (fun q => c (E0.mp q)), ← cs_q_sub, cs_q0]
  rw [E]
  exact hk
end CH
