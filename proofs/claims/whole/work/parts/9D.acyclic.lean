/-! no ring of parents -/
theorem fd_par {B : Int → Bool} : ∀ (n : Nat) (k acc : Int), (acc = 0 ∨ acc = 1) → fd (fun k a => if B k then (if a = 0 then 1 else 0) else a) n k acc = (acc + sm (fun j => if B (k + j) then 1 else 0) n) % 2
  | 0, k, acc, h => by
    rw [fd, sm]
    rcases h with rfl | rfl <;> rfl
  | n + 1, k, acc, h => by
    rw [fd, fd_par n (k + 1) _ (by split; split <;> simp; exact h), sm_front]
    have e : sm (fun j : Nat => if B (k + 1 + (j : Int)) = true then (1 : Int) else 0) n = sm (fun j : Nat => if B (k + ((j + 1 : Nat) : Int)) = true then 1 else 0) n := sm_congr (fun j _ => by rw [show k + 1 + (j : Int) = k + ((j + 1 : Nat) : Int) by omega])
    rw [e]
    have z : k + ((0 : Nat) : Int) = k := by omega
    rw [z]
    cases B k
    · simp
    · rcases h with rfl | rfl <;> simp <;> omega
theorem pip_par (σ : cs_S) (c px py : Int) : pipS σ c px py = sm (fun j => if Pr σ (σ 15 c.toNat + j) && crs σ (σ 15 c.toNat + j) (aftS σ (σ 15 c.toNat + j)) px py then 1 else 0) (σ 15 (c.toNat + 1) - σ 15 c.toNat).toNat % 2 := by
  have := fd_par (B := fun v => Pr σ v && crs σ v (aftS σ v) px py) (σ 15 (c.toNat + 1) - σ 15 c.toNat).toNat (σ 15 c.toNat) 0 (Or.inl rfl)
  rw [Int.zero_add] at this
  exact this
/-- when all are present the next one is the traced next -/
theorem aft_whole {σ : cs_S} (h : CSo σ) (hW : Whole1 σ) {v : Int} (hv : 0 ≤ v ∧ v < σ 4 2) : aftS σ v = nx (fs σ v) (es σ v) v := by
  obtain ⟨h1, h2, h3⟩ := own_in h hv
  have hin := nx_in h3
  unfold aftS
  obtain ⟨m, hm⟩ : ∃ m : Nat, (es σ v - fs σ v).toNat = m + 1 := ⟨(es σ v - fs σ v).toNat - 1, by omega⟩
  rw [hm, hop]
  have : Pr σ (nx (fs σ v) (es σ v) v) = true := by
    unfold Pr
    rw [hW (nx (fs σ v) (es σ v) v).toNat (by omega)]
    decide
  rw [if_pos this]
theorem crs_psi {σ : cs_S} {a b px py : Int} (hA : (vX σ a = vX σ b ∧ vY σ a ≠ vY σ b) ∨ (vX σ a ≠ vX σ b ∧ vY σ a = vY σ b)) : (if crs σ a b px py then (1 : Int) else 0) = psi px py (vX σ a) (vY σ a) (vX σ b) (vY σ b) := by
  unfold crs psi
  generalize vX σ a = xa at *
  generalize vX σ b = xb at *
  generalize vY σ a = ya at *
  generalize vY σ b = yb at *
  rcases hA with ⟨rfl, hy⟩ | ⟨hx, rfl⟩
  · rw [Int.sub_self, Int.mul_zero]
    have yes : px < 2 * xa ∧ ((2 * ya ≤ py ∧ py < 2 * yb) ∨ (2 * yb ≤ py ∧ py < 2 * ya)) → (if px < 2 * xa ∧ ((2 * ya ≤ py ∧ py < 2 * yb) ∨ (2 * yb ≤ py ∧ py < 2 * ya)) then (1 : Int) else 0) = 1 := fun t => if_pos t
    have no : ¬ (px < 2 * xa ∧ ((2 * ya ≤ py ∧ py < 2 * yb) ∨ (2 * yb ≤ py ∧ py < 2 * ya))) → (if px < 2 * xa ∧ ((2 * ya ≤ py ∧ py < 2 * yb) ∨ (2 * yb ≤ py ∧ py < 2 * ya)) then (1 : Int) else 0) = 0 := fun t => if_neg t
    by_cases A : 2 * ya ≤ py <;> by_cases B : 2 * yb ≤ py
    · rw [no (by omega)]
      simp only [A, B, decide_true, bne_self_eq_false, Bool.false_and, Bool.false_eq_true, if_false]
    · have D : yb - ya > 0 := by omega
      have k : (px - 2 * xa) * (yb - ya) < 0 ↔ px < 2 * xa := by
        constructor
        · intro t
          apply Classical.byContradiction
          intro q
          have := Int.mul_nonneg (a := px - 2 * xa) (b := yb - ya) (by omega) (by omega)
          omega
        · intro t
          exact Int.mul_neg_of_neg_of_pos (by omega) (by omega)
      rw [if_pos D]
      by_cases q : px < 2 * xa
      · rw [yes (by omega)]
        simp only [A, B, decide_true, decide_false, Bool.bne_false, Bool.true_and, decide_eq_true_eq, k, q, if_true]
      · rw [no (by omega)]
        simp only [A, B, decide_true, decide_false, Bool.bne_false, Bool.true_and, decide_eq_true_eq, k, q, Bool.false_eq_true, if_false]
    · have D : ¬ yb - ya > 0 := by omega
      have k : 0 < (px - 2 * xa) * (yb - ya) ↔ px < 2 * xa := by
        constructor
        · intro t
          apply Classical.byContradiction
          intro q
          have := Int.mul_nonpos_of_nonneg_of_nonpos (a := px - 2 * xa) (b := yb - ya) (by omega) (by omega)
          omega
        · intro t
          exact Int.mul_pos_of_neg_of_neg (by omega) (by omega)
      rw [if_neg D]
      by_cases q : px < 2 * xa
      · rw [yes (by omega)]
        simp only [A, B, decide_true, decide_false, Bool.bne_true, Bool.not_false, Bool.true_and, decide_eq_true_eq, k, q, if_true]
      · rw [no (by omega)]
        simp only [A, B, decide_true, decide_false, Bool.bne_true, Bool.not_false, Bool.true_and, decide_eq_true_eq, k, q, Bool.false_eq_true, if_false]
    · rw [no (by omega)]
      simp only [A, B, decide_false, bne_self_eq_false, Bool.false_and, Bool.false_eq_true, if_false]
  · simp only [bne_self_eq_false, Bool.false_and, Bool.false_eq_true, if_false]
    rw [if_neg (by omega)]
theorem pip_W {ins : Int → Int → Bool} {pt : Int} {σ : cs_S} (h : CSo σ) (hF : Full σ) (hW : Whole1 σ) {k : Nat} (hk : (k : Int) < σ 4 1) {s : Arw} {n : Nat} (hD : CD ins pt σ k s n) (x y : Int) : pipS σ k (2 * x + 1) (2 * y + 1) = Wk ins pt s n x y % 2 := by
  have h1 := h.2.1 k hk
  have h2 := hF k hk
  rw [pip_par]
  unfold Wk
  rw [hD.2.2.2 _ (psi_add _ _), csum_sm h hF hk, Int.toNat_natCast]
  congr 1
  refine sm_congr (fun j hj => ?_)
  have hv : 0 ≤ σ 15 k + (j : Int) ∧ σ 15 k + (j : Int) < σ 4 2 := by omega
  have hp : Pr σ (σ 15 k + (j : Int)) = true := by
    unfold Pr
    rw [hW (σ 15 k + (j : Int)).toNat (by omega)]
    decide
  rw [hp, Bool.true_and, aft_whole h hW hv]
  have how := own_eq h (c := (k : Int)) (u := σ 15 k + j) ⟨by omega, hk⟩ (by rw [Int.toNat_natCast]; omega) (by rw [Int.toNat_natCast]; omega)
  have ef : fs σ (σ 15 k + j) = σ 15 k := by unfold fs; rw [how]; simp
  have ee : es σ (σ 15 k + j) = σ 15 (k + 1) := by unfold es; rw [how]; simp
  rw [ef, ee]
  refine crs_psi ?_
  have hal := hD.2.2.1 (σ 15 k + (j : Int)).toNat (by omega) (by omega)
  have e : (nx (σ 15 k) (σ 15 (k + 1)) (σ 15 k + j)).toNat = nxv (σ 15 k).toNat (σ 15 (k + 1)).toNat (σ 15 k + (j : Int)).toNat := by
    unfold nx nxv
    by_cases q : σ 15 k + (j : Int) + 1 < σ 15 (k + 1)
    · rw [if_pos q, if_pos (by omega)]; omega
    · rw [if_neg q, if_neg (by omega)]
  rw [← e] at hal
  exact hal
theorem ways_two {ins : Int → Int → Bool} {pt : Int} {G : GL} (hW : (arws ins pt G).Nodup) {c k : Nat} {g g' : Arw × Nat} (hc : G[c]? = some g) (hk : G[k]? = some g') (hne : c ≠ k) {a : Arw} (h1 : a ∈ wlk ins pt g.2 g.1) (h2 : a ∈ wlk ins pt g'.2 g'.1) : False := by
  unfold arws List.Nodup at hW
  rw [List.pairwise_flatMap] at hW
  obtain ⟨hc1, hc2⟩ := List.getElem?_eq_some_iff.mp hc
  obtain ⟨hk1, hk2⟩ := List.getElem?_eq_some_iff.mp hk
  have hp := List.pairwise_iff_getElem.mp hW.2
  rcases Nat.lt_or_gt_of_ne hne with q | q
  · have := hp c k hc1 hk1 q a (by rw [hc2]; exact h1) a (by rw [hk2]; exact h2)
    exact this rfl
  · have := hp k c hk1 hc1 q a (by rw [hk2]; exact h2) a (by rw [hc2]; exact h1)
    exact this rfl
theorem par_in (σ : cs_S) (c : Int) : ∀ n : Nat, fd (paF σ c (ppx σ c) (ppy σ c)) n 0 (-1) = -1 ∨ (0 ≤ fd (paF σ c (ppx σ c) (ppy σ c)) n 0 (-1) ∧ fd (paF σ c (ppx σ c) (ppy σ c)) n 0 (-1) < n ∧ fd (paF σ c (ppx σ c) (ppy σ c)) n 0 (-1) ≠ c ∧ pipS σ (fd (paF σ c (ppx σ c) (ppy σ c)) n 0 (-1)) (ppx σ c) (ppy σ c) ≠ 0) := by
  intro n
  have := fd_inv (F := paF σ c (ppx σ c) (ppy σ c)) (fun i p => p = -1 ∨ (0 ≤ p ∧ p < i ∧ p ≠ c ∧ pipS σ p (ppx σ c) (ppy σ c) ≠ 0)) (n := n) (k := 0) (a := -1) (Or.inl rfl) (fun i p h0 h1 hI => by
    unfold paF
    split
    · rename_i q
      exact Or.inr ⟨h0, by omega, q.1, q.2.1⟩
    · rcases hI with q | ⟨q1, q2, q3⟩
      · exact Or.inl q
      · exact Or.inr ⟨q1, by omega, q3⟩)
  rw [Int.zero_add] at this
  exact this
theorem tr_AcJ {σ : cs_S} {t p cn : Int} (hJ : PicS σ) (ht : 1 ≤ t) (hcn : cn = 4 ∨ cn = 8) (hp : p = if cn = 4 then 1 else 3) : AcJ (trR σ t p) := by
  have hp' : p = 1 ∨ p = 3 := by by_cases q : cn = 4 <;> simp [q] at hp <;> omega
  obtain ⟨-, hSI⟩ := SI_trC hJ.1 ht hp' none none
  obtain ⟨e4, eV, e18, hC, hF, hR, hP, hA⟩ := scR_J hJ ht hcn hp
  have fr : ∀ q, FrR q → scR σ t p q = trC σ t p q := fun q h => scR_fr h
  obtain ⟨a1, a2, a16, a24⟩ := arC_v (scC σ t p).1
  have e17 : scR σ t p 17 = paC (arC (scC σ t p).1) 17 := fr 17 (by unfold FrR; omega)
  have k54 : (trC0 (dropC σ) t p) 5 4 = p := (SI_start σ t p hJ.1).2.1
  unfold trR
  obtain ⟨-, ⟨c1, c2, c3, c4⟩, hG, hWy, hD, -⟩ := hSI
  rw [k54] at hD hWy
  generalize insC (trC0 (dropC σ) t p) = ins at *
  generalize (scC σ t p).1 = κ at *
  generalize (scC σ t p).2 = G at *
  generalize scR σ t p = τ at *
  have g : ∀ q, q ≠ 34 → q ≠ 36 → paR (arR τ) q = τ q := fun q h1 h2 => by unfold paR arR; rw [cs_set_ne h2, cs_set_ne h1]
  have g4 := g 4 (by decide) (by decide)
  have g17 := g 17 (by decide) (by decide)
  refine ⟨fun c => mxs (fun i => mxp (itr ins p i (G[c]?.getD ((0, 0, 0), 0)).1)) (G[c]?.getD ((0, 0, 0), 0)).2, fun c hc h0 => ?_⟩
  rw [g4, e4] at hc
  rw [g17, e17] at h0 ⊢
  have q17 : paC (arC κ) 17 c = parS (arC κ) c := by
    unfold paC
    rw [cs_set_at, if_pos (by rw [a2]; exact hc)]
  rw [q17] at h0 ⊢
  have hpi := par_in (arC κ) c (arC κ 4 1).toNat
  have hps : parS (arC κ) c = fd (paF (arC κ) c (ppx (arC κ) c) (ppy (arC κ) c)) (arC κ 4 1).toNat 0 (-1) := rfl
  rw [← hps] at hpi
  rcases hpi with q | ⟨-, k2, k3, k4⟩
  · omega
  · obtain ⟨k, hk⟩ : ∃ k : Nat, parS (arC κ) c = (k : Int) := ⟨(parS (arC κ) c).toNat, by omega⟩
    rw [hk] at k2 k3 k4 h0 ⊢
    rw [Int.toNat_natCast]
    rw [a2] at k2
    have hkn : (k : Int) < κ 4 1 := by have := c1.1.1; omega
    have hck : c ≠ k := fun e => k3 (by rw [e])
    obtain ⟨gc, hgc⟩ : ∃ gc, G[c]? = some gc := ⟨G[c]'(by omega), List.getElem?_eq_getElem (by omega)⟩
    obtain ⟨gk, hgk⟩ : ∃ gk, G[k]? = some gk := ⟨G[k]'(by omega), List.getElem?_eq_getElem (by omega)⟩
    simp only [hgc, hgk, Option.getD_some]
    have dc := hD c gc hgc
    have dk := hD k gk hgk
    have hpip : pipS (arC κ) = pipS κ := SameV_pip a1
    have hvX : vX (arC κ) = vX κ := by funext v; unfold vX; rw [a1.2.2.1]
    have hvY : vY (arC κ) = vY κ := by funext v; unfold vY; rw [a1.2.2.2.1]
    rw [hpip] at k4
    have xs : vX κ (κ 15 c) = gc.1.1 := dc.2.1.1
    have ys : vY κ (κ 15 c) = gc.1.2.1 := dc.2.1.2
    have ex : ppx (arC κ) c = 2 * gc.1.1 + 1 := by
      unfold ppx
      rw [hvX, a1.1, Int.toNat_natCast, xs]
    have hn := dk.1.2.2
    refine farther hp' dk.1.1 hn.2.1 dc.1.1 dc.1.2.1 gc.2 (fun j hj e => ?_) ?_
    · exact ways_two hWy.1 hgc hgk hck (wlk_mem.mpr ⟨0, dc.1.2.2.1, rfl⟩) (wlk_mem.mpr ⟨j, hj, e.symm⟩)
    · rw [ex] at k4
      unfold ppy at k4
      rw [hvY, a1.1, Int.toNat_natCast, ys] at k4
      by_cases q : arC κ 18 c ≤ 0
      · rw [if_pos q, show 2 * gc.1.2.1 + -1 = 2 * (gc.1.2.1 - 1) + 1 by omega, pip_W c1 c4 c3 hkn dk] at k4
        right; omega
      · rw [if_neg q, pip_W c1 c4 c3 hkn dk] at k4
        left; omega
theorem tr_ConJ2 {σ : cs_S} {t p cn : Int} (hJ : PicS σ) (ht : 1 ≤ t) (hcn : cn = 4 ∨ cn = 8) (hp : p = if cn = 4 then 1 else 3) : ConJ (trR σ t p) := tr_ConJ hJ ht hcn hp (tr_AcJ hJ ht hcn hp)
