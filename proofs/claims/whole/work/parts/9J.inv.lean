/-! what both sides keep between calls -/
def CnX (σ : cs_S) : Prop := Full σ ∧ ArJ σ ∧ ArR σ ∧ PaJ σ ∧ AcJ σ ∧ AlJ σ ∧ ∀ c : Nat, (c : Int) < σ 4 1 → σ 35 c = arwS σ c
theorem CnX_cg {τ σ : cs_S} (h1 : τ 4 1 = σ 4 1) (h2 : τ 4 2 = σ 4 2) (h15 : τ 15 = σ 15) (h17 : τ 17 = σ 17) (h18 : τ 18 = σ 18) (h20 : τ 20 = σ 20) (h21 : τ 21 = σ 21) (h22 : τ 22 = σ 22) (h34 : τ 34 = σ 34) (h35 : τ 35 = σ 35) (h36 : τ 36 = σ 36) (h : CnX σ) : CnX τ := by
  have hw : arwS τ = arwS σ := by
    funext c
    unfold arwS wlS fs es vX vY
    rw [h15, h20, h21, h22]
  have hn : nxt τ = nxt σ := by
    funext v
    unfold nxt fs es
    rw [h15, h20]
  have hx : vX τ = vX σ := by funext v; unfold vX; rw [h21]
  have hy : vY τ = vY σ := by funext v; unfold vY; rw [h22]
  unfold CnX Full ArJ ArR PaJ AcJ AlJ at *
  rw [h1, h2, h15, h17, h18, h34, h35, h36, hw, hn, hx, hy]
  exact h
theorem CPr_cg2 {σ τ : cs_S} (h1 : τ 4 1 = σ 4 1) (h2 : τ 4 2 = σ 4 2) (h3 : τ 4 3 = σ 4 3) (h16 : τ 16 = σ 16) (h20 : τ 20 = σ 20) (h21 : τ 21 = σ 21) (h22 : τ 22 = σ 22) (h23 : τ 23 = σ 23) (h24 : τ 24 = σ 24) (h : CPr σ) : CPr τ := by
  unfold CPr cAll cIn cAt at *
  rw [h1, h2, h3, h16, h20, h21, h22, h23, h24]
  exact h
/-- what has to stay for the contours to stay -/
def KpS (τ σ : cs_S) : Prop := (∀ q, q ≠ 1 → q ≠ 2 → q ≠ 3 → q ≠ 9 → q ≠ 10 → q ≠ 11 → q ≠ 12 → q ≠ 13 → q ≠ 14 → q ≠ 19 → q ≠ 28 → q ≠ 29 → q ≠ 30 → q ≠ 31 → q ≠ 43 → τ q = σ q) ∧ τ 10 7 = σ 10 7 ∧ τ 10 8 = σ 10 8 ∧ τ 10 19 = σ 10 19
def CnJ (σ : cs_S) : Prop := SimJ σ ∧ CnX σ
theorem CnJ_cg {τ σ : cs_S} (h : KpS τ σ) (hJ : CnJ σ) : CnJ τ := by
  obtain ⟨hk, h7, h8, h19⟩ := h
  obtain ⟨⟨hC, hP, hR, hS, hH⟩, hX⟩ := hJ
  have k : ∀ q, (q = 4 ∨ q = 8 ∨ (15 ≤ q ∧ q ≤ 18) ∨ (20 ≤ q ∧ q ≤ 27) ∨ (32 ≤ q ∧ q ≤ 42)) → τ q = σ q := fun q hq => hk q (by omega) (by omega) (by omega) (by omega) (by omega) (by omega) (by omega) (by omega) (by omega) (by omega) (by omega) (by omega) (by omega) (by omega) (by omega)
  have k4 := k 4 (by omega)
  have k15 := k 15 (by omega)
  have k20 := k 20 (by omega)
  have k21 := k 21 (by omega)
  have k22 := k 22 (by omega)
  have k23 := k 23 (by omega)
  refine ⟨⟨(CSo_congr k4 k15 k20 k21 k22).mpr hC, CPr_cg k4 (k 16 (by omega)) k20 k21 k22 k23 (k 24 (by omega)) hP, ?_, ?_, ?_⟩, ?_⟩
  · exact RR_cg (σ := σ) (by rw [k4]) (by rw [k4]) h7 h8 k15 k21 k22 (k 32 (by omega)) (k 33 (by omega)) (k 37 (by omega)) (k 38 (by omega)) hR (fun u hu => by rw [k 39 (by omega), k23]; exact (hR.2.1.2 u hu).2.2)
  · unfold StJ; rw [k 8 (by omega), h19, k 27 (by omega), k 41 (by omega), k4]; exact hS
  · unfold HiJ; rw [k15, k4, k 41 (by omega), k 8 (by omega), k23]; exact hH
  · exact CnX_cg (by rw [k4]) (by rw [k4]) k15 (k 17 (by omega)) (k 18 (by omega)) k20 k21 k22 (k 34 (by omega)) (k 35 (by omega)) (k 36 (by omega)) hX
theorem CnJ_empty {σ : cs_S} (h41 : σ 4 1 = 0) (h42 : σ 4 2 = 0) (h43 : σ 4 3 = 0) (h24 : ∀ k : Nat, k < 221 → σ 24 k = 0) (h81 : σ 8 1 = 0) (h82 : σ 8 2 = 0) (h7 : σ 10 7 = 0) (h8 : σ 10 8 = 0) (h19 : σ 10 19 = 0) : CnJ σ := by
  refine ⟨⟨⟨⟨by omega, by omega, fun _ => h42, fun q => by omega, fun q => by omega⟩, fun c q => by omega, fun v q => by omega, fun c v q => by omega, fun v q => by omega⟩, ⟨fun v q => by omega, ?_, fun c q => by omega, ?_⟩, ⟨by omega, ⟨by omega, fun v q => by omega⟩, fun c q => by omega⟩, ⟨⟨by omega, by omega⟩, by omega, fun j q1 q2 => by omega, fun k q => by omega⟩, ?_⟩, ⟨fun c q => by omega, fun c q => by omega, fun c q => by omega, fun c q => by omega, ⟨fun _ => 0, fun c q => by omega⟩, fun v q1 q2 => by omega, fun c q => by omega⟩⟩
  · rw [h43]; unfold cAll; rw [h42]; rfl
  · intro k hk; rw [h24 k hk]; unfold cAt; rw [h42]; rfl
  · unfold HiJ; rw [h82, h41]; intro c q; omega
def PicJ (σ : cs_S) : Prop := PicS σ ∧ AJ (σ 1 3) (σ 1 4) (σ 11)
def TxtJ (σ : cs_S) : Prop := (0 ≤ σ 2 1 ∧ σ 2 1 ≤ 200) ∧ σ 10 4 = σ 2 1 ∧ σ 30 = σ 13 ∧ ∀ k, 0 ≤ σ 13 k ∧ σ 13 k < 65536
def JJ (σ : cs_S) : Prop := PicJ σ ∧ TxtJ σ ∧ σ 10 9 = σ 4 0 ∧ CnJ σ
theorem PicJ_cg {τ σ : cs_S} (h1 : τ 1 3 = σ 1 3 ∧ τ 1 4 = σ 1 4) (h0 : τ 10 0 = σ 10 0 ∧ τ 10 1 = σ 10 1) (h11 : τ 11 = σ 11) (h28 : τ 28 = σ 28) (h : PicJ σ) : PicJ τ := by
  unfold PicJ PicS at *
  rw [h1.1, h1.2, h0.1, h0.2, h11, h28]
  exact h
theorem TxtJ_cg {τ σ : cs_S} (h2 : τ 2 = σ 2) (h4 : τ 10 4 = σ 10 4) (h13 : τ 13 = σ 13) (h30 : τ 30 = σ 30) (h : TxtJ σ) : TxtJ τ := by
  unfold TxtJ at *
  rw [h2, h4, h13, h30]
  exact h
/-! one call after the other -/
def Sq (f g : cs_F) (zs : List Int) (σ : cs_S) : Prop := ∃ (r : Int) (σ1 σ2 : cs_S), f zs σ = some (some r, σ1) ∧ g zs σ1 = some (some r, σ2) ∧ JJ σ2
theorem Sq_of {f g : cs_F} {zs : List Int} {σ : cs_S} (hf : frF cA f) (hg : frF rA g) (h : Two f g zs σ JJ) : Sq f g zs σ := by
  obtain ⟨r, σ1, τ, e1, e2, hJ⟩ := h
  have h1 := hf zs σ σ
  rw [mx_same, e1, Option.map_some] at h1
  have h1' : σ1 = mx cA σ1 σ := by
    have := Option.some.inj h1
    exact (congrArg Prod.snd this)
  refine ⟨r, σ1, mx cA σ1 τ, e1, ?_, hJ⟩
  have h2 := hg zs σ σ1
  rw [mx_cr, ← h1', e2, Option.map_some] at h2
  rw [h2, mx_cr]
theorem Two_m {f g : cs_F} {zs : List Int} {σ : cs_S} {P Q : cs_S → Prop} (h : Two f g zs σ P) (hm : ∀ ρ, P ρ → Q ρ) : Two f g zs σ Q := by
  obtain ⟨r, σ1, τ, e1, e2, hp⟩ := h
  exact ⟨r, σ1, τ, e1, e2, hm _ hp⟩
theorem JJ_Kp {σ ρ : cs_S} (hJ : JJ σ) (h : SimJ ρ ∧ Kp ρ σ) : JJ ρ := by
  obtain ⟨hp, ht, h9, hs, hx⟩ := hJ
  obtain ⟨h1, hk, hk4, hk10⟩ := h
  have k : ∀ q, (q ≤ 3 ∨ (11 ≤ q ∧ q ≤ 15) ∨ q = 17 ∨ q = 18 ∨ (20 ≤ q ∧ q ≤ 22) ∨ (28 ≤ q ∧ q ≤ 38)) → ρ q = σ q := fun q hq => hk q (by omega) (by omega) (by omega) (by omega) (by omega) (by omega) (by omega) (by omega) (by omega) (by omega) (by omega)
  refine ⟨PicJ_cg ⟨by rw [k 1 (by omega)], by rw [k 1 (by omega)]⟩ ⟨hk10 0 (by decide), hk10 1 (by decide)⟩ (k 11 (by omega)) (k 28 (by omega)) hp, TxtJ_cg (k 2 (by omega)) (hk10 4 (by decide)) (k 13 (by omega)) (k 30 (by omega)) ht, by rw [hk10 9 (by decide), hk4 0 (by decide)]; exact h9, h1, ?_⟩
  exact CnX_cg (hk4 1 (by decide)) (hk4 2 (by decide)) (k 15 (by omega)) (k 17 (by omega)) (k 18 (by omega)) (k 20 (by omega)) (k 21 (by omega)) (k 22 (by omega)) (k 34 (by omega)) (k 35 (by omega)) (k 36 (by omega)) hx
theorem JJ_KpQ {σ ρ : cs_S} (hJ : JJ σ) (h : KpQ ρ σ) : JJ ρ := by
  obtain ⟨hp, ht, h9, hc⟩ := hJ
  obtain ⟨hk, hk10⟩ := h
  have k : ∀ q, q ≠ 9 → q ≠ 19 → q ≠ 43 → q ≠ 10 → ρ q = σ q := hk
  refine ⟨PicJ_cg ⟨by rw [k 1 (by decide) (by decide) (by decide) (by decide)], by rw [k 1 (by decide) (by decide) (by decide) (by decide)]⟩ ⟨hk10 0 (by decide) (by decide), hk10 1 (by decide) (by decide)⟩ (k 11 (by decide) (by decide) (by decide) (by decide)) (k 28 (by decide) (by decide) (by decide) (by decide)) hp, TxtJ_cg (k 2 (by decide) (by decide) (by decide) (by decide)) (hk10 4 (by decide) (by decide)) (k 13 (by decide) (by decide) (by decide) (by decide)) (k 30 (by decide) (by decide) (by decide) (by decide)) ht, by rw [hk10 9 (by decide) (by decide), k 4 (by decide) (by decide) (by decide) (by decide)]; exact h9, CnJ_cg ⟨fun q n1 n2 n3 n4 n5 n6 n7 n8 n9 n10 n11 n12 n13 n14 n15 => k q n4 n10 n15 n5, hk10 7 (by decide) (by decide), hk10 8 (by decide) (by decide), hk10 19 (by decide) (by decide)⟩ hc⟩
theorem JJ_eq {σ ρ : cs_S} (hJ : JJ σ) (h : ρ = σ) : JJ ρ := by rw [h]; exact hJ
theorem ConJ_of {σ : cs_S} (hJ : JJ σ) : ConJ σ := by
  obtain ⟨-, -, -, hs, x1, x2, x3, x4, x5, x6, x7⟩ := hJ
  exact ⟨hs.1, hs.2.1, x1, SimJ_P hs, hs.2.2.1, x2, x3, x4, x5, x7⟩
/-! the calls that leave the picture and the text alone -/
theorem Sq_vertex {σ : cs_S} (hJ : JJ σ) (a b c : Int) : Sq f_X9_vertex f_X10_vertex [a, b, c] σ := Sq_of fr_f_X9_vertex fr_f_X10_vertex (Two_m (Two_vertex hJ.2.2.2.1 a b c) (fun _ => JJ_eq hJ))
theorem Sq_bySize {σ : cs_S} (hJ : JJ σ) (a : Int) : Sq f_X9_bySize f_X10_bySize [a] σ := Sq_of fr_f_X9_bySize fr_f_X10_bySize (Two_m (Two_bySize hJ.2.2.2.1 a) (fun _ => JJ_KpQ hJ))
theorem Sq_chainCode {σ : cs_S} (hJ : JJ σ) (a b : Int) (hb : b ≤ 2147483647) : Sq f_X9_chainCode f_X10_chainCode [a, b] σ := Sq_of fr_f_X9_chainCode fr_f_X10_chainCode (Two_m (Two_chainCode hJ.2.2.2.1 hJ.2.2.2.2.2.2.2.2.2.1 a b hb) (fun _ => JJ_KpQ hJ))
theorem Sq_next {σ : cs_S} (hJ : JJ σ) : Sq f_X9_next f_X10_next [] σ := Sq_of fr_f_X9_next fr_f_X10_next (Two_m (Two_next hJ.2.2.2.1) (fun _ => JJ_eq hJ))
theorem Sq_remove {σ : cs_S} (hJ : JJ σ) (a b : Int) : Sq f_X9_remove f_X10_remove [a, b] σ := Sq_of fr_f_X9_remove fr_f_X10_remove (Two_m (Two_remove hJ.2.2.2.1 a b) (fun _ => JJ_Kp hJ))
theorem Sq_insert {σ : cs_S} (hJ : JJ σ) (a b : Int) : Sq f_X9_insert f_X10_insert [a, b] σ := Sq_of fr_f_X9_insert fr_f_X10_insert (Two_m (Two_insert hJ.2.2.2.1 a b) (fun _ => JJ_Kp hJ))
theorem Sq_simplify {σ : cs_S} (hJ : JJ σ) (a : Int) : Sq f_X9_simplify f_X10_simplify [a] σ := Sq_of fr_f_X9_simplify fr_f_X10_simplify (Two_m (Two_simplify hJ.2.2.2.1 a) (fun _ => JJ_Kp hJ))
theorem Sq_reduce {σ : cs_S} (hJ : JJ σ) (a : Int) : Sq f_X9_reduce f_X10_reduce [a] σ := Sq_of fr_f_X9_reduce fr_f_X10_reduce (Two_m (Two_reduce hJ.2.2.2.1 a) (fun _ => JJ_Kp hJ))
theorem Sq_limitFor {σ : cs_S} (hJ : JJ σ) (a : Int) : Sq f_X9_limitFor f_X10_limitFor [a] σ := Sq_of fr_f_X9_limitFor fr_f_X10_limitFor (Two_m (Two_limitFor hJ.2.2.2.1 a) (fun _ => JJ_Kp hJ))
theorem Sq_undo {σ : cs_S} (hJ : JJ σ) : Sq f_X9_undo f_X10_undo [] σ := Sq_of fr_f_X9_undo fr_f_X10_undo (Two_m (Two_undo hJ.2.2.2.1) (fun _ => JJ_Kp hJ))
theorem Sq_refine {σ : cs_S} (hJ : JJ σ) : Sq f_X9_refine f_X10_refine [] σ := Sq_of fr_f_X9_refine fr_f_X10_refine (Two_m (Two_refine hJ.2.2.2.1) (fun _ => JJ_Kp hJ))
theorem Sq_covers {σ : cs_S} (hJ : JJ σ) (a b c : Int) : Sq f_X9_covers f_X10_covers [a, b, c] σ := Sq_of fr_f_X9_covers fr_f_X10_covers (Two_m (Two_covers hJ.2.2.2.1 a b c) (fun _ => JJ_eq hJ))
theorem Sq_isCovered {σ : cs_S} (hJ : JJ σ) (a b : Int) : Sq f_X9_isCovered f_X10_isCovered [a, b] σ := Sq_of fr_f_X9_isCovered fr_f_X10_isCovered (Two_m (Two_isCovered hJ.2.2.2.1 a b) (fun _ => JJ_eq hJ))
theorem Sq_misfit {σ : cs_S} (hJ : JJ σ) : Sq f_X9_misfit f_X10_misfit [] σ := Sq_of fr_f_X9_misfit fr_f_X10_misfit (Two_m (Two_misfit hJ.2.2.2.1 hJ.1.1 hJ.2.2.1) (fun _ => JJ_eq hJ))
theorem Sq_deviation {σ : cs_S} (hJ : JJ σ) (a b : Int) : Sq f_X9_deviation f_X10_deviation [a, b] σ := Sq_of fr_f_X9_deviation fr_f_X10_deviation (Two_m (Two_deviation hJ.2.2.2.1 a b) (fun _ => JJ_KpQ hJ))
theorem Sq_count {σ : cs_S} (hJ : JJ σ) (a : Int) : Sq f_X9_count f_X10_count [a] σ := by
  obtain ⟨⟨⟨hz, w0, w1, w28⟩, -⟩, ⟨-, t2, -, -⟩, h9, hs, -, -, x3, -⟩ := id hJ
  exact ⟨cntS σ a, σ, σ, f_countC hs.1 a, f_countR hs.1 hs.2.1 hs.2.2.1 x3 hs.2.2.2.1.2.1 ⟨w0, w1⟩ h9 t2 a, hJ⟩
theorem Sq_contour {σ : cs_S} (hJ : JJ σ) (a b : Int) : Sq f_X9_contour f_X10_contour [a, b] σ := by
  have hc := ConJ_of hJ
  exact ⟨conS σ a b, σ, σ, f_contourC hc.1 hc.2.2.2.2.2.2.2.1 a b, f_contourR hc a b, hJ⟩
/-! the picture -/
theorem Sq_level {σ : cs_S} (hJ : JJ σ) (x y : Int) : Sq f_X9_level f_X10_level [x, y] σ := by
  obtain ⟨hz, w0, w1, w28⟩ := hJ.1.1
  have e2 := f_levelR x y σ (by rw [w0, w1]; exact hz)
  rw [w0, w1, w28] at e2
  exact ⟨_, σ, σ, f_levelC x y σ hz, e2, hJ⟩
theorem JJ_pic {σ : cs_S} (hJ : JJ σ) {a1 a11 a12 a28 a29 : Nat → Int} (h1 : a1 3 = σ 1 3 ∧ a1 4 = σ 1 4) (he : a28 = a11) (hA : AJ (σ 1 3) (σ 1 4) a11) : JJ (mx cA (cs_set (cs_set (cs_set σ 11 a11) 12 a12) 1 a1) (cs_set (cs_set σ 29 a29) 28 a28)) := by
  obtain ⟨⟨⟨hz, w0, w1, w28⟩, hA0⟩, ht, h9, hc⟩ := hJ
  have c1 : mx cA (cs_set (cs_set (cs_set σ 11 a11) 12 a12) 1 a1) (cs_set (cs_set σ 29 a29) 28 a28) 1 = a1 := by rw [mx_at rfl, cs_set_at]
  have c11 : mx cA (cs_set (cs_set (cs_set σ 11 a11) 12 a12) 1 a1) (cs_set (cs_set σ 29 a29) 28 a28) 11 = a11 := by rw [mx_at rfl, cs_set_ne (by decide), cs_set_ne (by decide), cs_set_at]
  have c28 : mx cA (cs_set (cs_set (cs_set σ 11 a11) 12 a12) 1 a1) (cs_set (cs_set σ 29 a29) 28 a28) 28 = a28 := by rw [mx_off rfl, cs_set_at]
  have co : ∀ q, q ≠ 1 → q ≠ 11 → q ≠ 12 → q ≠ 28 → q ≠ 29 → mx cA (cs_set (cs_set (cs_set σ 11 a11) 12 a12) 1 a1) (cs_set (cs_set σ 29 a29) 28 a28) q = σ q := fun q n1 n2 n3 n4 n5 => by
    cases hq : cA q
    · rw [mx_off hq, cs_set_ne n4, cs_set_ne n5]
    · rw [mx_at hq, cs_set_ne n1, cs_set_ne n3, cs_set_ne n2]
  generalize mx cA (cs_set (cs_set (cs_set σ 11 a11) 12 a12) 1 a1) (cs_set (cs_set σ 29 a29) 28 a28) = ρ at *
  have c10 := co 10 (by decide) (by decide) (by decide) (by decide) (by decide)
  have c4 := co 4 (by decide) (by decide) (by decide) (by decide) (by decide)
  refine ⟨⟨⟨by rw [c1, h1.1, h1.2]; exact hz, by rw [c10, c1, h1.1, w0], by rw [c10, c1, h1.2, w1], by rw [c28, c11, he]⟩, by rw [c1, c11, h1.1, h1.2]; exact hA⟩, TxtJ_cg (co 2 (by decide) (by decide) (by decide) (by decide) (by decide)) (by rw [c10]) (co 13 (by decide) (by decide) (by decide) (by decide) (by decide)) (co 30 (by decide) (by decide) (by decide) (by decide) (by decide)) ht, by rw [c10, c4]; exact h9, CnJ_cg ⟨fun q n1 n2 n3 n4 n5 n6 n7 n8 n9 n10 n11 n12 n13 n14 n15 => co q n1 n6 n7 n11 n12, by rw [c10], by rw [c10], by rw [c10]⟩ hc⟩
theorem JJ_pic2 {σ : cs_S} (hJ : JJ σ) {a : Nat → Int} (hA : AJ (σ 1 3) (σ 1 4) a) : JJ (mx cA (cs_set σ 11 a) (cs_set σ 28 a)) := by
  have := JJ_pic hJ (a1 := σ 1) (a11 := a) (a12 := σ 12) (a28 := a) (a29 := σ 29) ⟨rfl, rfl⟩ rfl hA
  have e1 : cs_set (cs_set (cs_set σ 11 a) 12 (σ 12)) 1 (σ 1) = cs_set σ 11 a := by
    funext q; unfold cs_set
    by_cases q1 : q = 1
    · subst q1; simp
    · by_cases q2 : q = 12
      · subst q2; simp
      · simp [q1, q2]
  rw [e1, cs_set_self] at this
  exact this
theorem Sq_set {σ : cs_S} (hJ : JJ σ) (x y v : Int) : Sq f_X9_set f_X10_set [x, y, v] σ := by
  refine Sq_of fr_f_X9_set fr_f_X10_set ?_
  obtain ⟨⟨hz, w0, w1, w28⟩, hA⟩ := hJ.1
  have e1 := f_setC x y v σ hz
  have e2 := f_setR x y v σ (by rw [w0, w1]; exact hz)
  rw [w0, w1, w28] at e2
  by_cases q : inP (σ 1 3) (σ 1 4) x y = true ∧ 0 ≤ v ∧ v ≤ 9
  · rw [if_pos q] at e1 e2
    exact ⟨_, _, _, e1, e2, JJ_pic2 hJ (AJ_au hz hA q.1 q.2)⟩
  · rw [if_neg q] at e1 e2
    exact ⟨_, _, _, e1, e2, by rw [mx_same]; exact hJ⟩
theorem Sq_fill {σ : cs_S} (hJ : JJ σ) (x y w h v : Int) : Sq f_X9_fill f_X10_fill [x, y, w, h, v] σ := by
  refine Sq_of fr_f_X9_fill fr_f_X10_fill ?_
  obtain ⟨⟨hz, w0, w1, w28⟩, hA⟩ := hJ.1
  have e1 := f_fillC x y w h v σ hz hA
  have e2 := f_fillR x y w h v σ (by rw [w0, w1]; exact hz) (by rw [w0, w1, w28]; exact hA)
  rw [w0, w1, w28] at e2
  rcases e1 with ⟨hc, e1, hA'⟩ | ⟨hn, e1⟩
  · exact ⟨_, _, _, e1, e2.1 hc, JJ_pic2 hJ hA'⟩
  · exact ⟨_, _, _, e1, e2.2 hn, by rw [mx_same]; exact hJ⟩
theorem Sq_flood {σ : cs_S} (hJ : JJ σ) (x y v : Int) : Sq f_X9_flood f_X10_flood [x, y, v] σ := by
  refine Sq_of fr_f_X9_flood fr_f_X10_flood ?_
  obtain ⟨⟨hz, w0, w1, w28⟩, hA⟩ := hJ.1
  have e1 := f_floodC x y v σ hz
  have e2 := f_floodR x y v σ (by rw [w0, w1]; exact hz)
  rw [w0, w1, w28] at e2
  by_cases q : inP (σ 1 3) (σ 1 4) x y = true ∧ (0 ≤ v ∧ v ≤ 9)
  · obtain ⟨R, rr, a, f1, f2, f3⟩ := e1.1 q
    obtain ⟨b, g1, g2, g3⟩ := e2.1 q
    have hixl : ix x y < 192 := by have := inP_iff.mp q.1; unfold ix; omega
    -- the answers
    have hans : sm (fun j => if b j ≠ 0 ∧ σ 11 (ix x y) ≠ v then 1 else 0) 192 = if σ 11 (ix x y) = v then 0 else (R.length : Int) := by
      by_cases z : σ 11 (ix x y) = v
      · rw [if_pos z]
        exact sm_z (fun k _ => if_neg (fun t => t.2 z))
      · rw [if_neg z, flood_count hixl (f3 z) g2 g3]
        exact sm_congr (fun k _ => by simp [z])
    -- the levels
    have hlev : flA (σ 11) b v 192 = a := by
      funext k
      rw [f2 k]
      unfold flA
      by_cases z : σ 11 (ix x y) = v
      · have hn : ¬ (σ 11 (ix x y) ≠ v ∧ k ∈ R) := fun t => t.1 z
        rw [if_neg hn]
        by_cases hk : k < 192
        · by_cases hb : b k = 0
          · simp [hb]
          · have hb1 := (g2.1 k hk).resolve_left hb
            have := (g2.2.2.1 k hk hb1).2
            simp [hb]
            intro _
            rw [this, z]
        · simp [hk]
      · have hm := flood_same hixl (f3 z) g2 g3 k
        by_cases hk : k < 192
        · by_cases hb : b k = 0
          · have : k ∉ R := fun t => by have := (hm.mp t).2; omega
            simp [hb, this]
          · have hb1 := (g2.1 k hk).resolve_left hb
            have : k ∈ R := hm.mpr ⟨hk, hb1⟩
            simp [hb, this, z, hk]
        · have : k ∉ R := fun t => hk (hm.mp t).1
          simp [hk, this]
    rw [hans] at g1
    refine ⟨_, _, _, f1, g1, JJ_pic hJ ⟨au_ne (by decide), au_ne (by decide)⟩ hlev ?_⟩
    refine ⟨fun k hk => ?_, fun k hk hn => ?_⟩
    · rw [f2 k]
      split
      · exact q.2
      · exact hA.1 k hk
    · rw [f2 k]
      by_cases z : σ 11 (ix x y) ≠ v ∧ k ∈ R
      · obtain ⟨-, -, r3, -, -⟩ := f3 z.1
        obtain ⟨-, ⟨x', y', hp, rfl⟩, -⟩ := r3 k z.2
        have := inP_iff.mp hp
        exfalso
        apply hn
        have e : ix x' y' = y'.toNat * 16 + x'.toNat := by unfold ix; omega
        rw [e]
        constructor <;> omega
      · rw [if_neg z]; exact hA.2 k hk hn
  · exact ⟨_, _, _, e1.2 q, e2.2 q, by rw [mx_same]; exact hJ⟩
