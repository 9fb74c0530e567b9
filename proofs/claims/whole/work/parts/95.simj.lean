/-! the steps on both sides, and what they lead back to -/
def okP (S : Nat → Int) (n : Int) (a : Nat → Int) : Prop := ∀ c : Nat, (c : Int) < n → ∃ u : Int, (S c ≤ u ∧ u < S (c + 1)) ∧ a u.toNat ≠ 0
theorem Pos1_ok {σ : cs_S} : Pos1 σ ↔ okP (σ 15) (σ 4 1) (σ 23) := by
  unfold Pos1 okP Pr
  simp only [decide_eq_true_eq]
def Hs (C : (Nat → Int) → Prop) (st : Nat → Int) : Nat → (Nat → Int) → Prop
  | 0, a => C a
  | n + 1, a => C a ∧ Hs C st n (tg a (st n).toNat)
theorem Hs_0 {C : (Nat → Int) → Prop} {st : Nat → Int} : ∀ {n : Nat} {a : Nat → Int}, Hs C st n a → C a
  | 0, _, h => h
  | _ + 1, _, h => h.1
theorem Hs_cg {C : (Nat → Int) → Prop} {st st' : Nat → Int} : ∀ {n : Nat} {a : Nat → Int}, (∀ k, k < n → st' k = st k) → Hs C st n a → Hs C st' n a
  | 0, _, _, h => h
  | n + 1, a, e, h => ⟨h.1, by rw [e n (by omega)]; exact Hs_cg (fun k hk => e k (by omega)) h.2⟩
theorem Hs_sh {C : (Nat → Int) → Prop} {st : Nat → Int} : ∀ {n : Nat} {a : Nat → Int}, Hs C st (n + 1) a → Hs C (fun k => st (k + 1)) n a
  | 0, _, h => h.1
  | _ + 1, _, h => ⟨h.1, Hs_sh h.2⟩
theorem Hs_add {C : (Nat → Int) → Prop} {st : Nat → Int} {n : Nat} {a : Nat → Int} {v : Int} (h : Hs C st n a) (hc : C (tg a v.toNat)) (h01 : a v.toNat = 0 ∨ a v.toNat = 1) : Hs C (au st n v) (n + 1) (tg a v.toNat) := by
  refine ⟨hc, ?_⟩
  rw [au_at, tg_tg h01]
  exact Hs_cg (fun k hk => au_ne (by omega)) h
def StJ (σ : cs_S) : Prop := ((0 ≤ σ 8 1 ∧ σ 8 1 < 600) ∧ (0 ≤ σ 8 2 ∧ σ 8 2 ≤ 600)) ∧ σ 10 19 = σ 8 2 ∧ (∀ j : Int, 0 ≤ j → j < σ 8 2 → σ 27 ((σ 8 1 - 1 - j) % 600).toNat = σ 41 (σ 8 2 - 1 - j).toNat) ∧ ∀ k : Nat, (k : Int) < σ 8 2 → 0 ≤ σ 41 k ∧ σ 41 k < σ 4 2
def HiJ (σ : cs_S) : Prop := Hs (okP (σ 15) (σ 4 1)) (σ 41) (σ 8 2).toNat (σ 23)
def SimJ (σ : cs_S) : Prop := CSo σ ∧ CPr σ ∧ RR σ ∧ StJ σ ∧ HiJ σ
theorem SimJ_P {σ : cs_S} (h : SimJ σ) : Pos1 σ := Pos1_ok.mpr (Hs_0 h.2.2.2.2)
theorem RR_cg {σ τ : cs_S} (h41 : τ 4 1 = σ 4 1) (h42 : τ 4 2 = σ 4 2) (h7 : τ 10 7 = σ 10 7) (h8 : τ 10 8 = σ 10 8) (h15 : τ 15 = σ 15) (h21 : τ 21 = σ 21) (h22 : τ 22 = σ 22) (h32 : τ 32 = σ 32) (h33 : τ 33 = σ 33) (h37 : τ 37 = σ 37) (h38 : τ 38 = σ 38) (hR : RR σ) (h23 : ∀ v : Nat, (v : Int) < σ 4 2 → τ 39 v = τ 23 v) : RR τ := by
  obtain ⟨r1, ⟨r2, r3⟩, r4⟩ := hR
  refine ⟨by rw [h7, h41, r1], ⟨by rw [h8, h42, r2], fun v hv => ?_⟩, fun c hc => ?_⟩
  · rw [h42] at hv
    rw [h37, h38, h21, h22]
    exact ⟨(r3 v hv).1, (r3 v hv).2.1, h23 v hv⟩
  · rw [h41] at hc
    rw [h32, h33, h15]
    exact r4 c hc
theorem em_lt (a : Int) : 0 ≤ a % 600 ∧ a % 600 < 600 := by omega
theorem sj_vals (σ : cs_S) (v : Int) : (mx cA (stpC σ v) (stpR σ v) 4 1 = σ 4 1 ∧ mx cA (stpC σ v) (stpR σ v) 4 2 = σ 4 2 ∧ mx cA (stpC σ v) (stpR σ v) 4 = turnC σ v 4) ∧ (∀ q, cA q = true → q ≠ 23 → q ≠ 4 → q ≠ 16 → q ≠ 24 → q ≠ 8 → q ≠ 27 → mx cA (stpC σ v) (stpR σ v) q = σ q) ∧ (∀ q, cA q = false → q ≠ 41 → q ≠ 10 → q ≠ 39 → mx cA (stpC σ v) (stpR σ v) q = σ q) ∧ (mx cA (stpC σ v) (stpR σ v) 23 = tg (σ 23) v.toNat ∧ mx cA (stpC σ v) (stpR σ v) 39 = tg (σ 39) v.toNat ∧ mx cA (stpC σ v) (stpR σ v) 41 = nst σ v ∧ mx cA (stpC σ v) (stpR σ v) 10 = au (σ 10) 19 (nsz σ)) ∧ mx cA (stpC σ v) (stpR σ v) 27 = au (σ 27) (σ 8 1).toNat v ∧ mx cA (stpC σ v) (stpR σ v) 8 = au (au (σ 8) 1 (if σ 8 1 + 1 < 600 then σ 8 1 + 1 else 0)) 2 (if 600 < σ 8 2 + 1 then 600 else σ 8 2 + 1) ∧ mx cA (stpC σ v) (stpR σ v) 16 = turnC σ v 16 ∧ mx cA (stpC σ v) (stpR σ v) 24 = turnC σ v 24 := by
  have o8 : turnC σ v 8 = σ 8 := turnC_o (by decide)
  have o27 : turnC σ v 27 = σ 27 := turnC_o (by decide)
  have a4 : mx cA (stpC σ v) (stpR σ v) 4 = turnC σ v 4 := by
    rw [mx_at rfl]; unfold stpC addS; rw [cs_set_ne (by decide), cs_set_ne (by decide)]
  refine ⟨⟨by rw [a4, (turnC_12 σ v).1], by rw [a4, (turnC_12 σ v).2], a4⟩, ?_, ?_, ⟨?_, ?_, ?_, ?_⟩, ?_, ?_, ?_, ?_⟩
  · intro q hq n1 n2 n3 n4 n5 n6
    rw [mx_at hq]; unfold stpC addS; rw [cs_set_ne n5, cs_set_ne n6, turnC_o ⟨n1, n2, n3, n4⟩]
  · intro q hq n1 n2 n3
    rw [mx_off hq]; simp [stpR, n1, n2, n3]
  · rw [mx_at rfl]; unfold stpC addS; rw [cs_set_ne (by decide), cs_set_ne (by decide)]; exact (turnC_v σ v).1
  · rw [mx_off rfl]; simp [stpR]
  · rw [mx_off rfl]; simp [stpR]
  · rw [mx_off rfl]; simp [stpR]
  · rw [mx_at rfl]; unfold stpC addS; rw [cs_set_ne (by decide), cs_set_at, o8, o27]
  · rw [mx_at rfl]; unfold stpC addS; rw [cs_set_at, o8]
  · rw [mx_at rfl]; unfold stpC addS; rw [cs_set_ne (by decide), cs_set_ne (by decide)]
  · rw [mx_at rfl]; unfold stpC addS; rw [cs_set_ne (by decide), cs_set_ne (by decide)]
theorem nst_v {σ : cs_S} {v : Int} (h : 0 ≤ σ 10 19 ∧ σ 10 19 ≤ 600) : nst σ v (nsz σ - 1).toNat = v ∧ ∀ j : Int, 0 ≤ j → j < nsz σ - 1 → nst σ v j.toNat = σ 41 (j + (σ 10 19 - (nsz σ - 1))).toNat := by
  unfold nst nsz
  by_cases q : σ 10 19 = 600
  · rw [if_pos q, if_pos q]
    refine ⟨by rw [show ((600 : Int) - 1).toNat = 599 from rfl, au_at], fun j h0 h1 => ?_⟩
    rw [au_ne (by omega), q]
    unfold shf
    rw [if_pos (by omega)]
    congr 1
    omega
  · rw [if_neg q, if_neg q]
    refine ⟨by rw [show σ 10 19 + 1 - 1 = σ 10 19 by omega, au_at], fun j h0 h1 => ?_⟩
    rw [au_ne (by omega)]
    congr 1
    omega
/-- a step, on both sides -/
theorem SimJ_step {σ : cs_S} (hJ : SimJ σ) {v : Int} (hv : 0 ≤ v ∧ v < σ 4 2) (hok : okP (σ 15) (σ 4 1) (tg (σ 23) v.toNat)) : SimJ (mx cA (stpC σ v) (stpR σ v)) := by
  obtain ⟨h, h2, hR, ⟨⟨s1, s2⟩, s3, s4, s5⟩, hH⟩ := hJ
  obtain ⟨⟨a1, a2, a4⟩, oC, oR, ⟨v23, v39, v41, v10⟩, v27, v8, v16, v24⟩ := sj_vals σ v
  generalize mx cA (stpC σ v) (stpR σ v) = ρ at *
  have hb := h.1
  have o15 := oC 15 rfl (by decide) (by decide) (by decide) (by decide) (by decide) (by decide)
  have o20 := oC 20 rfl (by decide) (by decide) (by decide) (by decide) (by decide) (by decide)
  have o21 := oC 21 rfl (by decide) (by decide) (by decide) (by decide) (by decide) (by decide)
  have o22 := oC 22 rfl (by decide) (by decide) (by decide) (by decide) (by decide) (by decide)
  have e82 : ρ 8 2 = nsz σ := by
    rw [v8, au_at]
    unfold nsz
    rw [s3]
    by_cases q : σ 8 2 = 600
    · rw [if_pos q, if_pos (by omega)]
    · rw [if_neg q, if_neg (by omega)]
  have e81 : ρ 8 1 = (σ 8 1 + 1) % 600 := by
    rw [v8, au_ne (by decide), au_at]
    by_cases q : σ 8 1 + 1 < 600
    · rw [if_pos q]; omega
    · rw [if_neg q]; omega
  obtain ⟨n1, n2⟩ := nst_v (σ := σ) (v := v) (by omega)
  have nb : 1 ≤ nsz σ ∧ nsz σ ≤ 600 ∧ nsz σ - 1 ≤ σ 8 2 ∧ σ 8 2 ≤ nsz σ := by
    unfold nsz
    rw [s3]
    split <;> omega
  refine ⟨(CSo_cg a1 a2 o15 o20 o21 o22).mpr h, ?_, ?_, ⟨⟨?_, ?_⟩, ?_, ?_, ?_⟩, ?_⟩
  · refine (CPr_congr (σ := turnC σ v) a4 v16 (o20.trans (turnC_o (by decide)).symm) (o21.trans (turnC_o (by decide)).symm) (o22.trans (turnC_o (by decide)).symm) (v23.trans (turnC_v σ v).1.symm) v24).mpr (turnC_CPr h h2 hv)
  · refine RR_cg (σ := σ) a1 a2 (by rw [v10, au_ne (by decide)]) (by rw [v10, au_ne (by decide)]) o15 o21 o22 (oR 32 rfl (by decide) (by decide) (by decide)) (oR 33 rfl (by decide) (by decide) (by decide)) (oR 37 rfl (by decide) (by decide) (by decide)) (oR 38 rfl (by decide) (by decide) (by decide)) hR (fun u hu => ?_)
    rw [v39, v23]
    have e1 := (hR.2.1.2 u hu).2.2
    have e2 := (hR.2.1.2 v.toNat (by omega)).2.2
    unfold tg au
    by_cases q : u = v.toNat
    · rw [if_pos q, if_pos q, e2]
    · rw [if_neg q, if_neg q, e1]
  · rw [e81]; exact em_lt _
  · rw [e82]; omega
  · rw [v10, au_at, e82]
  · intro j h0 hj
    rw [e82] at hj ⊢
    rw [e81, v27, v41]
    by_cases q : j = 0
    · subst q
      rw [show (((σ 8 1 + 1) % 600 - 1 - 0) % 600).toNat = (σ 8 1).toNat by omega, au_at, show nsz σ - 1 - 0 = nsz σ - 1 by omega, n1]
    · rw [au_ne (by omega), n2 (nsz σ - 1 - j) (by omega) (by omega), s3]
      have := s4 (j - 1) (by omega) (by omega)
      rw [show ((σ 8 1 + 1) % 600 - 1 - j) % 600 = (σ 8 1 - 1 - (j - 1)) % 600 by omega, this]
      congr 1
      omega
  · intro k hk
    rw [e82] at hk
    rw [v41, a2]
    by_cases q : (k : Int) = nsz σ - 1
    · have : k = (nsz σ - 1).toNat := by omega
      rw [this, n1]; exact hv
    · have := n2 k (by omega) (by omega)
      rw [Int.toNat_natCast] at this
      rw [this]
      exact s5 _ (by omega)
  · unfold HiJ at hH ⊢
    rw [o15, a1, v41, v23, e82]
    have h01 := h2.1 v.toNat (by omega)
    unfold nst nsz
    by_cases q : σ 10 19 = 600
    · rw [if_pos q, if_pos q]
      have q2 : σ 8 2 = 600 := by omega
      rw [q2] at hH
      have hs := Hs_sh (n := 599) hH
      have := Hs_add (v := v) hs hok h01
      refine Hs_cg (fun k hk => ?_) this
      have hk' : k < 600 := by simpa using hk
      unfold au shf
      by_cases z : k = 599
      · rw [if_pos z, if_pos z]
      · rw [if_neg z, if_neg z, if_pos (by omega)]
    · rw [if_neg q, if_neg q, show (σ 10 19 + 1).toNat = (σ 10 19).toNat + 1 by omega]
      rw [← s3] at hH
      exact Hs_add hH hok h01
