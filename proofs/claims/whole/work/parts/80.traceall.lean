/-! after a trace class and reference hold the same contours; that parents are no ring is a premise here -/
theorem SameV_arw {τ σ : cs_S} (h : SameV τ σ) : arwS τ = arwS σ := by
  obtain ⟨p1, p2, p3, p4, p5⟩ := SameV_f h
  have : wlS τ = wlS σ := by funext v; unfold wlS; rw [p2, p3, p4, p5]
  funext c; unfold arwS; rw [this, h.1]
theorem SameV_tr {ρ τ σ : cs_S} (h1 : SameV ρ τ) (h2 : SameV τ σ) : SameV ρ σ :=
  ⟨h1.1.trans h2.1, h1.2.1.trans h2.2.1, h1.2.2.1.trans h2.2.2.1, h1.2.2.2.1.trans h2.2.2.2.1, h1.2.2.2.2.trans h2.2.2.2.2⟩
theorem tr_ConJ {σ : cs_S} {t p cn : Int} (hJ : PicS σ) (ht : 1 ≤ t) (hcn : cn = 4 ∨ cn = 8) (hp : p = if cn = 4 then 1 else 3) (hAc : AcJ (trR σ t p)) : ConJ (trR σ t p) := by
  have hp' : p = 1 ∨ p = 3 := by by_cases q : cn = 4 <;> simp [q] at hp <;> omega
  obtain ⟨-, hSI⟩ := SI_trC hJ.1 ht hp' none none
  obtain ⟨-, hSR⟩ := scR_run hJ ht hcn hp none
  obtain ⟨e4, eV, e18, hC, hF, hR, hP, hA⟩ := scR_J hJ ht hcn hp
  have fr : ∀ q, FrR q → scR σ t p q = trC σ t p q := fun q h => scR_fr h
  obtain ⟨a1, a2, a16, a24⟩ := arC_v (scC σ t p).1
  obtain ⟨p1, p2, p16, p24, p5⟩ := paC_v (arC (scC σ t p).1)
  have e16 : scR σ t p 16 = (scC σ t p).1 16 := by rw [fr 16 (by unfold FrR; omega)]; exact p16.trans a16
  have e24 : scR σ t p 24 = (scC σ t p).1 24 := by rw [fr 24 (by unfold FrR; omega)]; exact p24.trans a24
  have e17 : scR σ t p 17 = paC (arC (scC σ t p).1) 17 := fr 17 (by unfold FrR; omega)
  have k54 : (trC0 (dropC σ) t p) 5 4 = p := (SI_start σ t p hJ.1).2.1
  unfold trR at *
  obtain ⟨-, ⟨c1, c2, c3, c4⟩, hG, -, hD, -⟩ := hSI
  obtain ⟨-, -, -, hrow, -⟩ := hSR
  rw [k54] at hD
  generalize insC (trC0 (dropC σ) t p) = ins at *
  generalize (scC σ t p).1 = κ at *
  generalize (scC σ t p).2 = G at *
  generalize scR σ t p = τ at *
  have V1 : SameV (arR τ) τ := set_SameV (by decide)
  have V2 : SameV (paR (arR τ)) (arR τ) := set_SameV (by decide)
  have V : SameV (paR (arR τ)) τ := SameV_tr V2 V1
  have g : ∀ q, q ≠ 34 → q ≠ 36 → paR (arR τ) q = τ q := fun q h1 h2 => by unfold paR arR; rw [cs_set_ne h2, cs_set_ne h1]
  have g4 := g 4 (by decide) (by decide)
  have r4 : arR τ 4 = τ 4 := cs_set_ne (by decide)
  have r18 : arR τ 18 = τ 18 := cs_set_ne (by decide)
  have hpar : parS (arR τ) = parS (arC κ) := SameV_par (SameV_tr V1 (SameV_tr eV ⟨a1.1.symm, a1.2.1.symm, a1.2.2.1.symm, a1.2.2.2.1.symm, a1.2.2.2.2.symm⟩)) (r18.trans e18) (by rw [r4, e4, a2])
  refine ⟨(CSoS g4 V).mpr hC, ?_, ?_, Pos1_S g4 V hP, RR_set (Or.inr rfl) (RR_set (Or.inl rfl) hR), ?_, ?_, ?_, hAc, ?_⟩
  · refine (CPr_congr (g4.trans e4) ?_ (V.2.1.trans eV.2.1) (V.2.2.1.trans eV.2.2.1) (V.2.2.2.1.trans eV.2.2.2.1) (V.2.2.2.2.trans eV.2.2.2.2) ?_).mpr c2
    · rw [g 16 (by decide) (by decide)]; exact e16
    · rw [g 24 (by decide) (by decide)]; exact e24
  · unfold Full; rw [g4, V.1]; exact hF
  · unfold ArJ; rw [g4, g 18 (by decide) (by decide)]; exact hA
  · intro c hc
    rw [g4] at hc
    have : paR (arR τ) 34 = arR τ 34 := cs_set_ne (by decide)
    rw [this, g 18 (by decide) (by decide), e18]
    unfold arR arC
    rw [cs_set_at, cs_set_at, if_pos hc, if_pos (by rw [← e4]; exact hc), SameV_area eV]
  · intro c hc
    rw [g4] at hc
    have hc' : (c : Int) < arR τ 4 1 := by rw [r4]; exact hc
    have hc2 : (c : Int) < arC κ 4 1 := by rw [a2, ← e4]; exact hc
    have q17 : paR (arR τ) 17 c = parS (arC κ) c := by
      rw [g 17 (by decide) (by decide), e17]
      unfold paC
      rw [cs_set_at, if_pos hc2]
    have q36 : paR (arR τ) 36 c = nop (parS (arC κ) c) := by
      unfold paR
      rw [cs_set_at, if_pos hc', hpar]
    have hr := (f_parentOf ((CSoS a2 a1).mpr c1) (by unfold Full; rw [a2, a1.1]; exact c4) (arC_A c1) (c := (c : Int)) ⟨by omega, hc2⟩).2
    rw [q17, q36, g4, e4, ← a2]
    exact ⟨hr, rfl⟩
  · intro c hc
    rw [g4, e4, hG] at hc
    obtain ⟨-, -, gg, hg1, hg2⟩ := hrow c (by omega)
    rw [g 35 (by decide) (by decide), hg2, SameV_arw V, SameV_arw eV]
    exact CD_arrows hp' c1 c4 (by rw [hG]; exact hc) (hD c gg hg1)
