/-! arrows around the inside pixels: each goes on in one way, and comes from one way -/
abbrev Arw : Type := Int × Int × Int
def arr (ins : Int → Int → Bool) (x y d : Int) : Bool :=
  if d = 0 then ins x y && !ins x (y - 1) else if d = 1 then ins (x - 1) y && !ins x y else if d = 2 then ins (x - 1) (y - 1) && !ins (x - 1) y else ins x (y - 1) && !ins (x - 1) (y - 1)
def ndr (ins : Int → Int → Bool) (pt : Int) (x y d : Int) : Int :=
  if arr ins x y ((d + pt) % 4) then (d + pt) % 4 else if arr ins x y d then d else (d + 4 - pt) % 4
def stp (ins : Int → Int → Bool) (pt : Int) (a : Arw) : Arw := (a.1 + sx a.2.2, a.2.1 + sy a.2.2, ndr ins pt (a.1 + sx a.2.2) (a.2.1 + sy a.2.2) a.2.2)
def Vld (ins : Int → Int → Bool) (a : Arw) : Prop := (0 ≤ a.2.2 ∧ a.2.2 < 4) ∧ arr ins a.1 a.2.1 a.2.2 = true
theorem d4 {d : Int} (h : 0 ≤ d ∧ d < 4) : d = 0 ∨ d = 1 ∨ d = 2 ∨ d = 3 := by omega
theorem sx_v : sx 0 = 1 ∧ sx 1 = 0 ∧ sx 2 = -1 ∧ sx 3 = 0 ∧ sy 0 = 0 ∧ sy 1 = 1 ∧ sy 2 = 0 ∧ sy 3 = -1 := by simp [sx, sy]
/-- the pixels around a corner decide -/
theorem ndr_val {ins : Int → Int → Bool} {pt : Int} (hpt : pt = 1 ∨ pt = 3) {x y d : Int} (hd : 0 ≤ d ∧ d < 4) (hv : arr ins x y d = true) : Vld ins (stp ins pt (x, y, d)) ∧ ndr ins pt (x + sx d) (y + sy d) d ≠ (d + 2) % 4 := by
  have e1 : ∀ z : Int, z + 1 - 1 = z := fun z => by omega
  have e2 : ∀ z : Int, z + 0 = z := fun z => by omega
  have e3 : ∀ z : Int, z + -1 = z - 1 := fun z => by omega
  rcases d4 hd with rfl | rfl | rfl | rfl
  · simp only [stp, Vld, sx_v, e2] at *
    simp only [arr, if_true] at hv
    generalize h1 : ins x y = p at hv
    generalize h2 : ins x (y - 1) = q at hv
    generalize h3 : ins (x + 1) y = r
    generalize h4 : ins (x + 1) (y - 1) = s
    rcases hpt with rfl | rfl <;> cases p <;> cases q <;> cases r <;> cases s <;> simp [ndr, arr, e1, h1, h2, h3, h4] at hv ⊢
  · simp only [stp, Vld, sx_v, e2] at *
    simp [arr] at hv
    generalize h1 : ins (x - 1) y = p at hv
    generalize h2 : ins x y = q at hv
    generalize h3 : ins (x - 1) (y + 1) = r
    generalize h4 : ins x (y + 1) = s
    rcases hpt with rfl | rfl <;> cases p <;> cases q <;> cases r <;> cases s <;> simp [ndr, arr, e1, h1, h2, h3, h4] at hv ⊢
  · simp only [stp, Vld, sx_v, e2, e3] at *
    simp [arr] at hv
    generalize h1 : ins (x - 1) (y - 1) = p at hv
    generalize h2 : ins (x - 1) y = q at hv
    generalize h3 : ins (x - 1 - 1) (y - 1) = r
    generalize h4 : ins (x - 1 - 1) y = s
    rcases hpt with rfl | rfl <;> cases p <;> cases q <;> cases r <;> cases s <;> simp [ndr, arr, e1, h1, h2, h3, h4] at hv ⊢
  · simp only [stp, Vld, sx_v, e2, e3] at *
    simp [arr] at hv
    generalize h1 : ins x (y - 1) = p at hv
    generalize h2 : ins (x - 1) (y - 1) = q at hv
    generalize h3 : ins x (y - 1 - 1) = r
    generalize h4 : ins (x - 1) (y - 1 - 1) = s
    rcases hpt with rfl | rfl <;> cases p <;> cases q <;> cases r <;> cases s <;> simp [ndr, arr, e1, h1, h2, h3, h4] at hv ⊢
/-- the arrow that comes to a corner, by the pixels around that corner -/
theorem arr_in {ins : Int → Int → Bool} {x y d : Int} (hd : 0 ≤ d ∧ d < 4) : arr ins (x - sx d) (y - sy d) d = if d = 0 then ins (x - 1) y && !ins (x - 1) (y - 1) else if d = 1 then ins (x - 1) (y - 1) && !ins x (y - 1) else if d = 2 then ins x (y - 1) && !ins x y else ins x y && !ins (x - 1) y := by
  rcases d4 hd with rfl | rfl | rfl | rfl <;> simp [arr, sx, sy]
  all_goals (try simp only [show y - -1 - 1 = y by omega, show x - -1 - 1 = x by omega])
  all_goals (try rfl)
theorem ndr_inj {ins : Int → Int → Bool} {pt : Int} (hpt : pt = 1 ∨ pt = 3) {x y d e : Int} (hd : 0 ≤ d ∧ d < 4) (he : 0 ≤ e ∧ e < 4) (h1 : arr ins (x - sx d) (y - sy d) d = true) (h2 : arr ins (x - sx e) (y - sy e) e = true) (h : ndr ins pt x y d = ndr ins pt x y e) : d = e := by
  rw [arr_in hd] at h1
  rw [arr_in he] at h2
  generalize g1 : ins (x - 1) (y - 1) = p at *
  generalize g2 : ins x (y - 1) = q at *
  generalize g3 : ins x y = r at *
  generalize g4 : ins (x - 1) y = s at *
  rcases d4 hd with rfl | rfl | rfl | rfl <;> rcases d4 he with rfl | rfl | rfl | rfl <;> first
    | rfl
    | (exfalso; rcases hpt with rfl | rfl <;> cases p <;> cases q <;> cases r <;> cases s <;> simp [ndr, arr, g1, g2, g3, g4] at h1 h2 h)
theorem stp_inj {ins : Int → Int → Bool} {pt : Int} (hpt : pt = 1 ∨ pt = 3) {a b : Arw} (ha : Vld ins a) (hb : Vld ins b) (h : stp ins pt a = stp ins pt b) : a = b := by
  obtain ⟨x, y, d⟩ := a
  obtain ⟨x', y', e⟩ := b
  simp only [stp, Prod.mk.injEq] at h
  obtain ⟨h1, h2, h3⟩ := h
  have k1 : x = (x + sx d) - sx d := by omega
  have k2 : y = (y + sy d) - sy d := by omega
  have k3 : x' = (x + sx d) - sx e := by omega
  have k4 : y' = (y + sy d) - sy e := by omega
  have ha2 : arr ins ((x + sx d) - sx d) ((y + sy d) - sy d) d = true := by rw [← k1, ← k2]; exact ha.2
  have hb2 : arr ins ((x + sx d) - sx e) ((y + sy d) - sy e) e = true := by rw [← k3, ← k4]; exact hb.2
  have hde : d = e := ndr_inj hpt ha.1 hb.1 ha2 hb2 (by rw [h3, h1, h2])
  subst hde
  simp only [Prod.mk.injEq, and_true]
  omega
theorem stp_vld {ins : Int → Int → Bool} {pt : Int} (hpt : pt = 1 ∨ pt = 3) {a : Arw} (ha : Vld ins a) : Vld ins (stp ins pt a) := by
  obtain ⟨x, y, d⟩ := a
  exact (ndr_val hpt ha.1 ha.2).1
theorem stp_noback {ins : Int → Int → Bool} {pt : Int} (hpt : pt = 1 ∨ pt = 3) {a : Arw} (ha : Vld ins a) : (stp ins pt a).2.2 ≠ (a.2.2 + 2) % 4 := by
  obtain ⟨x, y, d⟩ := a
  exact (ndr_val hpt ha.1 ha.2).2
/-! numbers of arrows -/
def insJ (w h : Int) (ins : Int → Int → Bool) : Prop := ∀ x y, ins x y = true → 0 ≤ x ∧ x < w ∧ 0 ≤ y ∧ y < h
theorem vld_in {ins : Int → Int → Bool} {w h : Int} (hi : insJ w h ins) {a : Arw} (ha : Vld ins a) : 0 ≤ a.1 ∧ a.1 ≤ w ∧ 0 ≤ a.2.1 ∧ a.2.1 ≤ h := by
  obtain ⟨x, y, d⟩ := a
  obtain ⟨hd, hv⟩ := ha
  dsimp only at hd hv ⊢
  rcases d4 hd with rfl | rfl | rfl | rfl <;> simp [arr] at hv <;> have := hi _ _ hv.1 <;> omega
def acode (a : Arw) : Nat := (2 * (17 * a.2.1 + a.1) + a.2.2 / 2).toNat
theorem acode_lt {ins : Int → Int → Bool} {w h : Int} (hz : szJ w h) (hi : insJ w h ins) {a : Arw} (ha : Vld ins a) : acode a < 442 := by
  have h1 := vld_in hi ha
  have h2 := ha.1
  unfold acode
  omega
theorem acode_inj {ins : Int → Int → Bool} {w h : Int} (hz : szJ w h) (hi : insJ w h ins) {a b : Arw} (ha : Vld ins a) (hb : Vld ins b) (he : acode a = acode b) : a = b := by
  have h1 := vld_in hi ha
  have h2 := ha.1
  have h3 := vld_in hi hb
  have h4 := hb.1
  obtain ⟨x, y, d⟩ := a
  obtain ⟨x', y', e⟩ := b
  unfold acode at he
  dsimp only at *
  have e1 : x = x' := by omega
  have e2 : y = y' := by omega
  have e3 : d / 2 = e / 2 := by omega
  subst e1; subst e2
  have hva := ha.2
  have hvb := hb.2
  dsimp only at hva hvb
  have : d = e := by
    rcases d4 h2 with rfl | rfl | rfl | rfl <;> rcases d4 h4 with rfl | rfl | rfl | rfl <;> first
      | rfl
      | (exfalso; omega)
      | (exfalso; simp [arr] at hva hvb; simp [hva, hvb] at *; done)
      | (exfalso; simp [arr] at hva hvb; have := hva.1; have := hva.2; have := hvb.1; have := hvb.2; simp_all)
  subst this
  rfl
