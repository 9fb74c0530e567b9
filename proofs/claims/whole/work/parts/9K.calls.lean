/-! reset, type, clearText, readPicture, trace -/
theorem JJ_emp {ρ : cs_S} (hp : PicJ ρ) (ht : TxtJ ρ) (h40 : ρ 4 0 = 0) (h41 : ρ 4 1 = 0) (h42 : ρ 4 2 = 0) (h43 : ρ 4 3 = 0) (h24 : ∀ k : Nat, k < 221 → ρ 24 k = 0) (h81 : ρ 8 1 = 0) (h82 : ρ 8 2 = 0) (h7 : ρ 10 7 = 0) (h8 : ρ 10 8 = 0) (h9 : ρ 10 9 = 0) (h19 : ρ 10 19 = 0) : JJ ρ := ⟨hp, ht, by rw [h9, h40], CnJ_empty h41 h42 h43 h24 h81 h82 h7 h8 h19⟩
theorem dropC_v (σ : cs_S) : (dropC σ 4 0 = 0 ∧ dropC σ 4 1 = 0 ∧ dropC σ 4 2 = 0 ∧ dropC σ 4 3 = 0) ∧ (dropC σ 8 1 = 0 ∧ dropC σ 8 2 = 0) ∧ (∀ k : Nat, k < 221 → dropC σ 24 k = 0) ∧ ∀ q, q ≠ 4 → q ≠ 8 → q ≠ 24 → dropC σ q = σ q := by
  refine ⟨?_, ?_, fun k hk => ?_, fun q n1 n2 n3 => ?_⟩
  · simp [dropC, cs_set, au]
  · simp [dropC, cs_set, au]
  · simp [dropC, cs_set, afl, hk]
  · unfold dropC; rw [cs_set_ne n2, cs_set_ne n3, cs_set_ne n1]
theorem dropR_v (σ : cs_S) : (dropR σ 10 7 = 0 ∧ dropR σ 10 8 = 0 ∧ dropR σ 10 9 = 0 ∧ dropR σ 10 19 = 0) ∧ (∀ k, k ≠ 7 → k ≠ 8 → k ≠ 9 → k ≠ 19 → dropR σ 10 k = σ 10 k) ∧ ∀ q, q ≠ 10 → dropR σ q = σ q := by
  refine ⟨by simp [dropR, cs_set, au], fun k n1 n2 n3 n4 => ?_, fun q n => ?_⟩
  · unfold dropR; rw [cs_set_at, au_ne n3, au_ne n4, au_ne n2, au_ne n1]
  · unfold dropR; rw [cs_set_ne n]
theorem JJ_drop {σ τ : cs_S} (hp : PicJ (mx cA σ τ)) (ht : TxtJ (mx cA σ τ)) : JJ (mx cA (dropC σ) (dropR τ)) := by
  obtain ⟨⟨c0, c1, c2, c3⟩, ⟨e1, e2⟩, f24, co⟩ := dropC_v σ
  obtain ⟨⟨r7, r8, r9, r19⟩, rk, ro⟩ := dropR_v τ
  have mC : ∀ q, cA q = true → q ≠ 4 → q ≠ 8 → q ≠ 24 → mx cA (dropC σ) (dropR τ) q = mx cA σ τ q := fun q hq n1 n2 n3 => by rw [mx_at hq, mx_at hq, co q n1 n2 n3]
  have mR : ∀ q, cA q = false → q ≠ 10 → mx cA (dropC σ) (dropR τ) q = mx cA σ τ q := fun q hq n => by rw [mx_off hq, mx_off hq, ro q n]
  have m10 : ∀ k, k ≠ 7 → k ≠ 8 → k ≠ 9 → k ≠ 19 → mx cA (dropC σ) (dropR τ) 10 k = mx cA σ τ 10 k := fun k n1 n2 n3 n4 => by rw [mx_off rfl, mx_off rfl, rk k n1 n2 n3 n4]
  refine JJ_emp ?_ ?_ ?_ ?_ ?_ ?_ ?_ ?_ ?_ ?_ ?_ ?_ ?_
  · exact PicJ_cg ⟨by rw [mC 1 rfl (by decide) (by decide) (by decide)], by rw [mC 1 rfl (by decide) (by decide) (by decide)]⟩ ⟨m10 0 (by decide) (by decide) (by decide) (by decide), m10 1 (by decide) (by decide) (by decide) (by decide)⟩ (mC 11 rfl (by decide) (by decide) (by decide)) (mR 28 rfl (by decide)) hp
  · exact TxtJ_cg (mC 2 rfl (by decide) (by decide) (by decide)) (m10 4 (by decide) (by decide) (by decide) (by decide)) (mC 13 rfl (by decide) (by decide) (by decide)) (mR 30 rfl (by decide)) ht
  · rw [mx_at rfl, c0]
  · rw [mx_at rfl, c1]
  · rw [mx_at rfl, c2]
  · rw [mx_at rfl, c3]
  · intro k hk; rw [mx_at rfl, f24 k hk]
  · rw [mx_at rfl, e1]
  · rw [mx_at rfl, e2]
  · rw [mx_off rfl, r7]
  · rw [mx_off rfl, r8]
  · rw [mx_off rfl, r9]
  · rw [mx_off rfl, r19]
theorem Sq_reset {σ : cs_S} (hJ : JJ σ) (w h : Int) : Sq f_X9_reset f_X10_reset [w, h] σ := by
  refine Sq_of fr_f_X9_reset fr_f_X10_reset ?_
  obtain ⟨⟨⟨hz, w0, w1, w28⟩, hA⟩, ht, -, -⟩ := id hJ
  have e1 := f_resetC w h σ
  have e2 := f_resetR w h σ
  by_cases q : szJ w h
  · rw [if_pos q] at e1 e2
    refine ⟨_, _, _, e1, e2, JJ_drop ?_ ?_⟩
    · have c1 : mx cA (cs_set (cs_set σ 1 (au (au (σ 1) 3 w) 4 h)) 11 (afl (σ 11) 192 0)) (cs_set (cs_set σ 10 (au (au (σ 10) 0 w) 1 h)) 28 (afl (σ 28) 192 0)) 1 = au (au (σ 1) 3 w) 4 h := by rw [mx_at rfl, cs_set_ne (by decide), cs_set_at]
      have c11 : mx cA (cs_set (cs_set σ 1 (au (au (σ 1) 3 w) 4 h)) 11 (afl (σ 11) 192 0)) (cs_set (cs_set σ 10 (au (au (σ 10) 0 w) 1 h)) 28 (afl (σ 28) 192 0)) 11 = afl (σ 11) 192 0 := by rw [mx_at rfl, cs_set_at]
      have c10 : mx cA (cs_set (cs_set σ 1 (au (au (σ 1) 3 w) 4 h)) 11 (afl (σ 11) 192 0)) (cs_set (cs_set σ 10 (au (au (σ 10) 0 w) 1 h)) 28 (afl (σ 28) 192 0)) 10 = au (au (σ 10) 0 w) 1 h := by rw [mx_off rfl, cs_set_ne (by decide), cs_set_at]
      have c28 : mx cA (cs_set (cs_set σ 1 (au (au (σ 1) 3 w) 4 h)) 11 (afl (σ 11) 192 0)) (cs_set (cs_set σ 10 (au (au (σ 10) 0 w) 1 h)) 28 (afl (σ 28) 192 0)) 28 = afl (σ 28) 192 0 := by rw [mx_off rfl, cs_set_at]
      have a3 : au (au (σ 1) 3 w) 4 h 3 = w := by rw [au_ne (by decide), au_at]
      have a4 : au (au (σ 1) 3 w) 4 h 4 = h := au_at _ _ _
      have b0 : au (au (σ 10) 0 w) 1 h 0 = w := by rw [au_ne (by decide), au_at]
      have b1 : au (au (σ 10) 0 w) 1 h 1 = h := au_at _ _ _
      unfold PicJ PicS
      rw [c1, c11, c10, c28, a3, a4, b0, b1, w28]
      exact ⟨⟨q, rfl, rfl, rfl⟩, AJ_zero⟩
    · refine TxtJ_cg (σ := σ) ?_ ?_ ?_ ?_ ht
      · rw [mx_at rfl, cs_set_ne (by decide), cs_set_ne (by decide)]
      · rw [mx_off rfl, cs_set_ne (by decide), cs_set_at, au_ne (by decide), au_ne (by decide)]
      · rw [mx_at rfl, cs_set_ne (by decide), cs_set_ne (by decide)]
      · rw [mx_off rfl, cs_set_ne (by decide), cs_set_ne (by decide)]
  · rw [if_neg q] at e1 e2
    exact ⟨_, _, _, e1, e2, by rw [mx_same]; exact hJ⟩
theorem JJ_txt {σ ρ : cs_S} (hJ : JJ σ) (ht : TxtJ ρ) (ho : ∀ q, q ≠ 2 → q ≠ 3 → q ≠ 10 → q ≠ 13 → q ≠ 14 → q ≠ 30 → q ≠ 31 → ρ q = σ q) (h10 : ∀ k, k ≠ 4 → ρ 10 k = σ 10 k) : JJ ρ := by
  obtain ⟨hp, -, h9, hc⟩ := hJ
  have k : ∀ q, q ≠ 2 → q ≠ 3 → q ≠ 10 → q ≠ 13 → q ≠ 14 → q ≠ 30 → q ≠ 31 → ρ q = σ q := ho
  have k1 := k 1 (by decide) (by decide) (by decide) (by decide) (by decide) (by decide) (by decide)
  refine ⟨PicJ_cg ⟨by rw [k1], by rw [k1]⟩ ⟨h10 0 (by decide), h10 1 (by decide)⟩ (k 11 (by decide) (by decide) (by decide) (by decide) (by decide) (by decide) (by decide)) (k 28 (by decide) (by decide) (by decide) (by decide) (by decide) (by decide) (by decide)) hp, ht, ?_, CnJ_cg ⟨fun q n1 n2 n3 n4 n5 n6 n7 n8 n9 n10 n11 n12 n13 n14 n15 => k q n2 n3 n5 n8 n9 n13 n14, h10 7 (by decide), h10 8 (by decide), h10 19 (by decide)⟩ hc⟩
  rw [h10 9 (by decide), k 4 (by decide) (by decide) (by decide) (by decide) (by decide) (by decide) (by decide)]
  exact h9
theorem Sq_type {σ : cs_S} (hJ : JJ σ) (c : Int) (hc : 0 ≤ c ∧ c < 65536) : Sq f_X9_type f_X10_type [c] σ := by
  refine Sq_of fr_f_X9_type fr_f_X10_type ?_
  obtain ⟨-, ⟨t1, t2, t3, t4⟩, -, -⟩ := id hJ
  have e1 := f_typeC c σ t1.1 t1.2 hc
  have e2 := f_typeR c σ (by omega) (by omega) hc
  rw [t2] at e2
  by_cases q : σ 2 1 = 200
  · rw [if_pos q] at e1 e2
    exact ⟨_, _, _, e1, e2, by rw [mx_same]; exact hJ⟩
  · rw [if_neg q] at e1 e2
    refine ⟨_, _, _, e1, e2, ?_⟩
    have c2 : mx cA (cs_set (cs_set σ 13 (au (σ 13) (σ 2 1).toNat c)) 2 (au (σ 2) 1 (σ 2 1 + 1))) (cs_set (cs_set σ 30 (au (σ 30) (σ 2 1).toNat c)) 10 (au (σ 10) 4 (σ 2 1 + 1))) 2 = au (σ 2) 1 (σ 2 1 + 1) := by rw [mx_at rfl, cs_set_at]
    have c13 : mx cA (cs_set (cs_set σ 13 (au (σ 13) (σ 2 1).toNat c)) 2 (au (σ 2) 1 (σ 2 1 + 1))) (cs_set (cs_set σ 30 (au (σ 30) (σ 2 1).toNat c)) 10 (au (σ 10) 4 (σ 2 1 + 1))) 13 = au (σ 13) (σ 2 1).toNat c := by rw [mx_at rfl, cs_set_ne (by decide), cs_set_at]
    have c10 : mx cA (cs_set (cs_set σ 13 (au (σ 13) (σ 2 1).toNat c)) 2 (au (σ 2) 1 (σ 2 1 + 1))) (cs_set (cs_set σ 30 (au (σ 30) (σ 2 1).toNat c)) 10 (au (σ 10) 4 (σ 2 1 + 1))) 10 = au (σ 10) 4 (σ 2 1 + 1) := by rw [mx_off rfl, cs_set_at]
    have c30 : mx cA (cs_set (cs_set σ 13 (au (σ 13) (σ 2 1).toNat c)) 2 (au (σ 2) 1 (σ 2 1 + 1))) (cs_set (cs_set σ 30 (au (σ 30) (σ 2 1).toNat c)) 10 (au (σ 10) 4 (σ 2 1 + 1))) 30 = au (σ 30) (σ 2 1).toNat c := by rw [mx_off rfl, cs_set_ne (by decide), cs_set_at]
    refine JJ_txt hJ ?_ (fun q n1 n2 n3 n4 n5 n6 n7 => ?_) (fun k hk => by rw [c10, au_ne hk])
    · unfold TxtJ
      rw [c2, c13, c10, c30, au_at, au_at, t3]
      refine ⟨by omega, rfl, rfl, fun k => ?_⟩
      unfold au
      split
      · exact hc
      · exact t4 k
    · cases hq : cA q
      · rw [mx_off hq, cs_set_ne n3, cs_set_ne n6]
      · rw [mx_at hq, cs_set_ne n1, cs_set_ne n4]
theorem Sq_clear {σ : cs_S} (hJ : JJ σ) : Sq f_X9_clearText f_X10_clearText [] σ := by
  refine Sq_of fr_f_X9_clearText fr_f_X10_clearText ?_
  obtain ⟨-, ⟨t1, t2, t3, t4⟩, -, -⟩ := id hJ
  have e1 := f_clearC σ
  have e2 := f_clearR σ
  rw [t2] at e2
  refine ⟨_, _, _, e1, e2, ?_⟩
  have c2 : mx cA (cs_set σ 2 (au (σ 2) 1 0)) (cs_set σ 10 (au (σ 10) 4 0)) 2 = au (σ 2) 1 0 := by rw [mx_at rfl, cs_set_at]
  have c10 : mx cA (cs_set σ 2 (au (σ 2) 1 0)) (cs_set σ 10 (au (σ 10) 4 0)) 10 = au (σ 10) 4 0 := by rw [mx_off rfl, cs_set_at]
  have co : ∀ q, q ≠ 2 → q ≠ 10 → mx cA (cs_set σ 2 (au (σ 2) 1 0)) (cs_set σ 10 (au (σ 10) 4 0)) q = σ q := fun q n1 n2 => by
    cases hq : cA q
    · rw [mx_off hq, cs_set_ne n2]
    · rw [mx_at hq, cs_set_ne n1]
  refine JJ_txt hJ ?_ (fun q n1 n2 n3 n4 n5 n6 n7 => co q n1 n3) (fun k hk => by rw [c10, au_ne hk])
  unfold TxtJ
  rw [c2, c10, co 13 (by decide) (by decide), co 30 (by decide) (by decide), au_at, au_at]
  exact ⟨by omega, rfl, t3, t4⟩
/-! reading: what lies behind the picture doesn't count -/
def rdE (s t : rdT) : Prop := s.1 = t.1 ∧ s.2.1 = t.2.1 ∧ s.2.2.1 = t.2.2.1 ∧ ∀ k, k < 192 → s.2.2.2 k = t.2.2.2 k
theorem rdS_cg {w h c : Int} {s t : rdT} (he : rdE s t) : (rdS w h c s = none ∧ rdS w h c t = none) ∨ ∃ s' t', rdS w h c s = some s' ∧ rdS w h c t = some t' ∧ rdE s' t' := by
  obtain ⟨s1, s2, s3, s4⟩ := s
  obtain ⟨t1, t2, t3, t4⟩ := t
  obtain ⟨h1, h2, h3, h4⟩ := he
  dsimp only at h1 h2 h3 h4
  subst h1 h2 h3
  unfold rdS
  dsimp only
  by_cases q1 : c = 47
  · rw [if_pos q1, if_pos q1]
    by_cases q2 : 0 < s3 ∨ h ≤ s1 + 1
    · rw [if_pos q2, if_pos q2]; exact Or.inl ⟨rfl, rfl⟩
    · rw [if_neg q2, if_neg q2]; exact Or.inr ⟨_, _, rfl, rfl, rfl, rfl, rfl, h4⟩
  · rw [if_neg q1, if_neg q1]
    by_cases q2 : 48 ≤ c ∧ c ≤ 57
    · rw [if_pos q2, if_pos q2]
      by_cases q3 : 1 ≤ 10 * s3 + (c - 48) ∧ 10 * s3 + (c - 48) ≤ w - s2
      · rw [if_pos q3, if_pos q3]; exact Or.inr ⟨_, _, rfl, rfl, rfl, rfl, rfl, h4⟩
      · rw [if_neg q3, if_neg q3]; exact Or.inl ⟨rfl, rfl⟩
    · rw [if_neg q2, if_neg q2]
      by_cases q3 : 97 ≤ c ∧ c ≤ 106
      · rw [if_pos q3, if_pos q3]
        by_cases q4 : rdLen s3 ≤ w - s2
        · rw [if_pos q4, if_pos q4]
          refine Or.inr ⟨_, _, rfl, rfl, rfl, rfl, rfl, fun k hk => ?_⟩
          dsimp only
          unfold arun
          split
          · rfl
          · exact h4 k hk
        · rw [if_neg q4, if_neg q4]; exact Or.inl ⟨rfl, rfl⟩
      · rw [if_neg q3, if_neg q3]; exact Or.inl ⟨rfl, rfl⟩
theorem rdL_cg {w h : Int} {ch : Nat → Int} : ∀ (n : Nat) (i : Int) (s t : rdT), rdE s t → (∃ r r', rdL w h ch n i s = .inl r ∧ rdL w h ch n i t = .inl r' ∧ r.1 = r'.1) ∨ ∃ s' t', rdL w h ch n i s = .inr s' ∧ rdL w h ch n i t = .inr t' ∧ rdE s' t'
  | 0, i, s, t, he => Or.inr ⟨s, t, rfl, rfl, he⟩
  | n + 1, i, s, t, he => by
    unfold rdL
    rcases rdS_cg (w := w) (h := h) (c := ch i.toNat) he with ⟨e1, e2⟩ | ⟨s', t', e1, e2, he'⟩
    · rw [e1, e2]; exact Or.inl ⟨_, _, rfl, rfl, rfl⟩
    · rw [e1, e2]; exact rdL_cg n (i + 1) s' t' he'
theorem JJ_fault {σ : cs_S} (hJ : JJ σ) (s2 : rdT) (a : Nat → Int) : JJ (mx cA (rdC (rdB σ) s2) (cs_set σ 31 a)) := by
  have co : ∀ q, q ≠ 3 → q ≠ 14 → q ≠ 31 → mx cA (rdC (rdB σ) s2) (cs_set σ 31 a) q = σ q := fun q n1 n2 n3 => by
    cases hq : cA q
    · rw [mx_off hq, cs_set_ne n3]
    · rw [mx_at hq]; unfold rdC rdB; rw [cs_set_ne n2, cs_set_ne n1, cs_set_ne n1]
  refine JJ_txt hJ ?_ (fun q n1 n2 n3 n4 n5 n6 n7 => co q n2 n5 n7) (fun k hk => by rw [co 10 (by decide) (by decide) (by decide)])
  exact TxtJ_cg (co 2 (by decide) (by decide) (by decide)) (by rw [co 10 (by decide) (by decide) (by decide)]) (co 13 (by decide) (by decide) (by decide)) (co 30 (by decide) (by decide) (by decide)) hJ.2.1
theorem Sq_read {σ : cs_S} (hJ : JJ σ) : Sq f_X9_readPicture f_X10_readPicture [] σ := by
  refine Sq_of fr_f_X9_readPicture fr_f_X10_readPicture ?_
  obtain ⟨⟨⟨hz, w0, w1, w28⟩, hA⟩, ⟨t1, t2, t3, t4⟩, -, -⟩ := id hJ
  obtain ⟨s2, e1⟩ := f_readC σ hz hA t1.1 t1.2 t4
  have e2 := f_readR σ (by rw [w0, w1]; exact hz) (by omega) (by omega) (by rw [t3]; exact t4)
  rw [w0, w1, t3, t2, w28] at e2
  have hI := rdL_I (ch := σ 13) hz (σ 2 1).toNat 0 (rd0 (σ 14)) (rd0_I hz)
  have he : rdE (rd0 (σ 14)) (rd0 (σ 31)) := ⟨rfl, rfl, rfl, fun k hk => by simp [rd0, afl, hk]⟩
  rcases rdL_cg (w := σ 1 3) (h := σ 1 4) (ch := σ 13) (σ 2 1).toNat 0 _ _ he with ⟨r, r', h1, h2, h3⟩ | ⟨s', t', h1, h2, q1, q2, q3, q4⟩
  · rw [h1] at e1
    rw [h2] at e2
    dsimp only at e1 e2
    rw [h3] at e1
    exact ⟨_, _, _, e1, e2, JJ_fault hJ _ _⟩
  · rw [h1] at e1 hI
    rw [h2] at e2
    dsimp only at e1 e2 hI
    rw [q3] at e1
    by_cases z : 0 < t'.2.2.1
    · rw [if_pos z] at e1 e2
      exact ⟨_, _, _, e1, e2, JJ_fault hJ _ _⟩
    · rw [if_neg z] at e1 e2
      have hs : sm (dif (σ 11) t'.2.2.2) 192 = sm (dif (σ 11) s'.2.2.2) 192 := sm_congr (fun k hk => by unfold dif; rw [q4 k hk])
      have hm : mix (σ 11) t'.2.2.2 192 = mix (σ 11) s'.2.2.2 192 := by
        funext j; unfold mix
        by_cases hj : j < 192
        · rw [if_pos hj, if_pos hj, q4 j hj]
        · rw [if_neg hj, if_neg hj]
      rw [hs, hm] at e2
      have hc : cs_set (dropC (rdC (rdB σ) s')) 11 (mix (σ 11) s'.2.2.2 192) = dropC (cs_set (rdC (rdB σ) s') 11 (mix (σ 11) s'.2.2.2 192)) := by
        generalize rdC (rdB σ) s' = κ
        generalize mix (σ 11) s'.2.2.2 192 = m
        unfold dropC
        rw [cs_set_ne (p := 11) (q := 4) (by decide), cs_set_ne (p := 11) (q := 24) (by decide), cs_set_ne (p := 11) (q := 8) (by decide)]
        rw [cs_set_comm (p := 11) (q := 4) (by decide), cs_set_comm (p := 11) (q := 24) (by decide), cs_set_comm (p := 11) (q := 8) (by decide)]
      have e1' := e1.2
      rw [hc] at e1'
      refine ⟨_, _, _, e1', e2, JJ_drop ?_ ?_⟩
      · have c11 : mx cA (cs_set (rdC (rdB σ) s') 11 (mix (σ 11) s'.2.2.2 192)) (cs_set (cs_set σ 31 t'.2.2.2) 28 (mix (σ 11) s'.2.2.2 192)) 11 = mix (σ 11) s'.2.2.2 192 := by rw [mx_at rfl, cs_set_at]
        have c28 : mx cA (cs_set (rdC (rdB σ) s') 11 (mix (σ 11) s'.2.2.2 192)) (cs_set (cs_set σ 31 t'.2.2.2) 28 (mix (σ 11) s'.2.2.2 192)) 28 = mix (σ 11) s'.2.2.2 192 := by rw [mx_off rfl, cs_set_at]
        have c1 : mx cA (cs_set (rdC (rdB σ) s') 11 (mix (σ 11) s'.2.2.2 192)) (cs_set (cs_set σ 31 t'.2.2.2) 28 (mix (σ 11) s'.2.2.2 192)) 1 = σ 1 := by
          rw [mx_at rfl, cs_set_ne (by decide)]
          unfold rdC rdB
          rw [cs_set_ne (by decide), cs_set_ne (by decide), cs_set_ne (by decide)]
        have c10 : mx cA (cs_set (rdC (rdB σ) s') 11 (mix (σ 11) s'.2.2.2 192)) (cs_set (cs_set σ 31 t'.2.2.2) 28 (mix (σ 11) s'.2.2.2 192)) 10 = σ 10 := by rw [mx_off rfl, cs_set_ne (by decide), cs_set_ne (by decide)]
        unfold PicJ PicS
        rw [c11, c28, c1, c10]
        exact ⟨⟨hz, w0, w1, rfl⟩, AJ_mix hA hI.2.2.2⟩
      · refine TxtJ_cg (σ := σ) ?_ ?_ ?_ ?_ hJ.2.1
        · rw [mx_at rfl, cs_set_ne (by decide)]
          unfold rdC rdB
          rw [cs_set_ne (by decide), cs_set_ne (by decide), cs_set_ne (by decide)]
        · rw [mx_off rfl, cs_set_ne (by decide), cs_set_ne (by decide)]
        · rw [mx_at rfl, cs_set_ne (by decide)]
          unfold rdC rdB
          rw [cs_set_ne (by decide), cs_set_ne (by decide), cs_set_ne (by decide)]
        · rw [mx_off rfl, cs_set_ne (by decide), cs_set_ne (by decide)]
/-! trace -/
theorem goC_8 {ins : Int → Int → Bool} {pt : Int} : ∀ (m : Nat) (a : Arw) (t : Bool) (σ : cs_S), goC ins pt m a t σ 8 = σ 8 ∧ goC ins pt m a t σ 4 0 = σ 4 0
  | 0, _, _, _ => ⟨rfl, rfl⟩
  | m + 1, a, t, σ => by
    have h1 : stC σ a t 8 = σ 8 ∧ stC σ a t 4 0 = σ 4 0 := by
      unfold stC markC
      cases t
      · split <;> simp [cs_set]
      · split <;> simp [cs_set, addC, au]
    obtain ⟨g1, g2⟩ := goC_8 (ins := ins) (pt := pt) m (stp ins pt a) (decide ((stp ins pt a).2.2 ≠ a.2.2)) (stC σ a t)
    rw [goC]
    exact ⟨g1.trans h1.1, g2.trans h1.2⟩
theorem stepC_8 {ins : Int → Int → Bool} {pt x y : Int} {s : cs_S × GL} : ((stepC ins pt y x s).1 8, (stepC ins pt y x s).1 4 0) = (s.1 8, s.1 4 0) := by
  unfold stepC
  split
  · dsimp only
    rw [(goC_8 _ _ _ _).1, (goC_8 _ _ _ _).2]
    simp [begC, au]
  · rfl
theorem scanC_8 {ins : Int → Int → Bool} {pt : Int} {n m : Nat} {s : cs_S × GL} : ((scanC ins pt n m s).1 8, (scanC ins pt n m s).1 4 0) = (s.1 8, s.1 4 0) :=
  fd_keep (fun s : cs_S × GL => (s.1 8, s.1 4 0)) (fun _ s => fd_keep (fun s : cs_S × GL => (s.1 8, s.1 4 0)) (fun _ _ => stepC_8) n 0 s) m 0 s
theorem trC_8 (σ : cs_S) (t p : Int) : trC σ t p 8 1 = 0 ∧ trC σ t p 8 2 = 0 ∧ trC σ t p 4 0 = t := by
  have h := scanC_8 (ins := insC (trC0 (dropC σ) t p)) (pt := p) (n := (σ 1 3).toNat) (m := (σ 1 4).toNat) (s := (trC0 (dropC σ) t p, []))
  have h8 : (scC σ t p).1 8 = trC0 (dropC σ) t p 8 := congrArg Prod.fst h
  have h4 : (scC σ t p).1 4 0 = trC0 (dropC σ) t p 4 0 := congrArg Prod.snd h
  have e8 : trC σ t p 8 = (scC σ t p).1 8 := by unfold trC paC arC; rw [cs_set_ne (by decide), cs_set_ne (by decide)]
  have e4 : trC σ t p 4 = (scC σ t p).1 4 := by unfold trC paC arC; rw [cs_set_ne (by decide), cs_set_ne (by decide)]
  rw [e8, e4, h8, h4]
  simp [trC0, dropC, cs_set, au]
theorem tr_AlJ {σ : cs_S} {t p cn : Int} (hJ : PicS σ) (ht : 1 ≤ t) (hcn : cn = 4 ∨ cn = 8) (hp : p = if cn = 4 then 1 else 3) : AlJ (trR σ t p) := by
  have hp' : p = 1 ∨ p = 3 := by by_cases q : cn = 4 <;> simp [q] at hp <;> omega
  obtain ⟨-, hSI⟩ := SI_trC hJ.1 ht hp' none none
  obtain ⟨e4, eV, e18, hC, hF, hR, hP, hA⟩ := scR_J hJ ht hcn hp
  unfold trR
  obtain ⟨-, ⟨c1, c2, c3, c4⟩, hG, -, hD, -⟩ := hSI
  generalize insC (trC0 (dropC σ) t p) = ins at *
  generalize (trC0 (dropC σ) t p) 5 4 = pt at *
  generalize (scC σ t p).1 = κ at *
  generalize (scC σ t p).2 = G at *
  generalize scR σ t p = τ at *
  have V : SameV (paR (arR τ)) κ := SameV_tr (SameV_tr (set_SameV (by decide)) (set_SameV (by decide))) eV
  have g4 : paR (arR τ) 4 = κ 4 := by unfold paR arR; rw [cs_set_ne (by decide), cs_set_ne (by decide), e4]
  obtain ⟨f1, f2, f3, f4, f5⟩ := SameV_f V
  intro v hv0 hv1
  rw [g4] at hv1
  have hn : nxt (paR (arR τ)) v = nxt κ v := by unfold nxt; rw [f2, f3]
  rw [hn, f4, f5]
  obtain ⟨w1, w2, w3⟩ := own_in c1 (v := v) ⟨hv0, hv1⟩
  have hcl : (κ 20 v.toNat).toNat < G.length := by omega
  have hd := hD (κ 20 v.toNat).toNat _ (List.getElem?_eq_getElem hcl)
  unfold fs at w3
  unfold es at w3
  have h1 := c1.2.1 (κ 20 v.toNat).toNat (by omega)
  have hal := hd.2.2.1 v.toNat (by omega) (by omega)
  have e : (nxt κ v).toNat = nxv (κ 15 (κ 20 v.toNat).toNat).toNat (κ 15 ((κ 20 v.toNat).toNat + 1)).toNat v.toNat := by
    unfold nxt nx nxv fs es
    by_cases q : v + 1 < κ 15 ((κ 20 v.toNat).toNat + 1)
    · rw [if_pos q, if_pos (by omega)]; omega
    · rw [if_neg q, if_neg (by omega)]
  rw [← e] at hal
  exact hal
theorem tr_JJ {σ : cs_S} {t cn p : Int} (hJ : JJ σ) (ho : okT t cn) (hp : p = if cn = 4 then 1 else 3) : JJ (trR σ t p) := by
  obtain ⟨⟨hS, hA⟩, htx, -, -⟩ := hJ
  have hc := tr_ConJ2 hS ho.1.1 ho.2 hp
  have hal := tr_AlJ hS ho.1.1 ho.2 hp
  obtain ⟨-, hSR⟩ := scR_run hS ho.1.1 ho.2 hp none
  obtain ⟨x8, x82, x40⟩ := trC_8 σ t p
  have g : ∀ q, q ≠ 34 → q ≠ 36 → trR σ t p q = scR σ t p q := fun q h1 h2 => by unfold trR paR arR; rw [cs_set_ne h2, cs_set_ne h1]
  have g1 : ∀ q, FrR q → trR σ t p q = trC σ t p q := fun q h => by rw [g q (by unfold FrR at h; omega) (by unfold FrR at h; omega)]; exact scR_fr h
  have g2 : ∀ q, FrC q → FrR q → trR σ t p q = σ q := fun q h1 h2 => by rw [g1 q h2, trC_fr h1]
  have g10 : ∀ k, k ≠ 7 → k ≠ 8 → trR σ t p 10 k = trR0 (dropR (trC σ t p)) t 10 k := fun k n1 n2 => by rw [g 10 (by decide) (by decide)]; exact hSR.1.1 k n1 n2
  have f10 : trC σ t p 10 = σ 10 := trC_fr (Or.inr (Or.inl (by decide)))
  have h10 : ∀ k, k ≠ 7 → k ≠ 8 → k ≠ 9 → k ≠ 19 → trR σ t p 10 k = σ 10 k := fun k n1 n2 n3 n4 => by
    rw [g10 k n1 n2]
    unfold trR0
    rw [cs_set_ne (by decide), cs_set_at, au_ne n3, (dropR_v _).2.1 k n1 n2 n3 n4, f10]
  have h9 : trR σ t p 10 9 = t := by
    rw [g10 9 (by decide) (by decide)]
    unfold trR0
    rw [cs_set_ne (by decide), cs_set_at, au_at]
  have h19 : trR σ t p 10 19 = 0 := by
    rw [g10 19 (by decide) (by decide)]
    unfold trR0
    rw [cs_set_ne (by decide), cs_set_at, au_ne (by decide)]
    exact (dropR_v _).1.2.2.2
  have h81 : trR σ t p 8 1 = 0 := by rw [g1 8 (by unfold FrR; omega)]; exact x8
  have h82 : trR σ t p 8 2 = 0 := by rw [g1 8 (by unfold FrR; omega)]; exact x82
  have h40 : trR σ t p 4 0 = t := by rw [g1 4 (by unfold FrR; omega)]; exact x40
  have k1 := g2 1 (by unfold FrC; omega) (by unfold FrR; omega)
  have k28 : trR σ t p 28 = σ 28 := by
    rw [g 28 (by decide) (by decide), scR_fr (by unfold FrR; omega)]
    exact trC_fr (by unfold FrC; omega)
  generalize trR σ t p = ρ at *
  obtain ⟨cC, cP, cF, c1, cR, a1, a2, a3, a4, a5⟩ := hc
  refine ⟨PicJ_cg ⟨by rw [k1], by rw [k1]⟩ ⟨h10 0 (by decide) (by decide) (by decide) (by decide), h10 1 (by decide) (by decide) (by decide) (by decide)⟩ (g2 11 (by unfold FrC; omega) (by unfold FrR; omega)) k28 ⟨hS, hA⟩, TxtJ_cg (g2 2 (by unfold FrC; omega) (by unfold FrR; omega)) (h10 4 (by decide) (by decide) (by decide) (by decide)) (g2 13 (by unfold FrC; omega) (by unfold FrR; omega)) (g2 30 (by unfold FrC; omega) (by unfold FrR; omega)) htx, by rw [h9, h40], ⟨cC, cP, cR, ⟨⟨by omega, by omega⟩, by omega, fun j q1 q2 => by omega, fun k q => by omega⟩, ?_⟩, cF, a1, a2, a3, a4, hal, a5⟩
  unfold HiJ
  rw [h82]
  exact Pos1_ok.mp c1
theorem Sq_trace {σ : cs_S} (hJ : JJ σ) (t cn : Int) : Sq f_X9_trace f_X10_trace [t, cn] σ := by
  have hS := hJ.1.1
  have e1 := f_traceC (t := t) (cn := cn) hS.1
  by_cases q : okT t cn
  · have e2 := f_traceR hS q rfl
    have hj := tr_JJ hJ q rfl
    have hR := hj.2.2.2.1.2.2.1.1
    have h4 : trR σ t (if cn = 4 then 1 else 3) 4 = trC σ t (if cn = 4 then 1 else 3) 4 := by
      unfold trR paR arR
      rw [cs_set_ne (by decide), cs_set_ne (by decide), scR_fr (by unfold FrR; omega)]
    rw [hR, h4] at e2
    exact ⟨_, _, _, e1.2 q, e2, hj⟩
  · exact ⟨_, _, _, e1.1 q, f_traceRn q, hJ⟩
