/-! how often a contour goes round a pixel, as a parity -/
section WND
variable {ins : Int → Int → Bool} {pt : Int}
/-- the pixel at the right hand of an arrow -/
def rtx (a : Arw) : Int := if a.2.2 = 0 ∨ a.2.2 = 3 then a.1 else a.1 - 1
def rty (a : Arw) : Int := if a.2.2 = 0 ∨ a.2.2 = 1 then a.2.1 else a.2.1 - 1
theorem corner_d (hpt : pt = 1 ∨ pt = 3) {X Y d : Int} (hd : 0 ≤ d ∧ d < 4) (N : Arw → Int) (P : Int → Int → Int) (n0 : ∀ a, ¬ Vld ins a → N a = 0) (n1 : ∀ a, Vld ins a → N (stp ins pt a) = N a)
    (hv : ∀ x y, (P (x - 1) y - P x y - N (x, y, 1) - N (x, y + 1, 3)) % 2 = 0) (hh : ∀ x y, (P x (y - 1) - P x y - N (x, y, 0) - N (x + 1, y, 2)) % 2 = 0)
    (ha : Vld ins (X - sx d, Y - sy d, d)) (hN : N (X - sx d, Y - sy d, d) = 0) :
    (P (rtx (X - sx d, Y - sy d, d)) (rty (X - sx d, Y - sy d, d)) - P (rtx (X, Y, ndr ins pt X Y d)) (rty (X, Y, ndr ins pt X Y d))) % 2 = 0 := by
  have z : ∀ x y e : Int, arr ins x y e = false → N (x, y, e) = 0 := fun x y e h => n0 _ (fun hv => by rw [hv.2] at h; cases h)
  have e1 := hv X (Y - 1)
  have e2 := hh X Y
  have e3 := hv X Y
  have e4 := hh (X - 1) Y
  rw [show Y - 1 + 1 = Y by omega] at e1
  rw [show X - 1 + 1 = X by omega] at e4
  have zo0 := z X Y 0
  have zo1 := z X Y 1
  have zo2 := z X Y 2
  have zo3 := z X Y 3
  have zi0 := z (X - 1) Y 0
  have zi1 := z X (Y - 1) 1
  have zi2 := z (X + 1) Y 2
  have zi3 := z X (Y + 1) 3
  have s0 : arr ins (X - 1) Y 0 = true → N (X, Y, ndr ins pt X Y 0) = N (X - 1, Y, 0) := fun h => by
    have := n1 (X - 1, Y, 0) ⟨by dsimp only; omega, h⟩
    simpa [stp, sx, sy] using this
  have s1 : arr ins X (Y - 1) 1 = true → N (X, Y, ndr ins pt X Y 1) = N (X, Y - 1, 1) := fun h => by
    have := n1 (X, Y - 1, 1) ⟨by dsimp only; omega, h⟩
    simpa [stp, sx, sy] using this
  have s2 : arr ins (X + 1) Y 2 = true → N (X, Y, ndr ins pt X Y 2) = N (X + 1, Y, 2) := fun h => by
    have := n1 (X + 1, Y, 2) ⟨by dsimp only; omega, h⟩
    simpa [stp, sx, sy, show X + 1 + -1 = X by omega] using this
  have s3 : arr ins X (Y + 1) 3 = true → N (X, Y, ndr ins pt X Y 3) = N (X, Y + 1, 3) := fun h => by
    have := n1 (X, Y + 1, 3) ⟨by dsimp only; omega, h⟩
    simpa [stp, sx, sy, show Y + 1 + -1 = Y by omega] using this
  have hva := ha.2
  dsimp only at hva
  clear ha n0 n1 hv hh z
  rw [arr_in hd] at hva
  have x1 : X + 1 - 1 = X := by omega
  have y1 : Y + 1 - 1 = Y := by omega
  obtain ⟨p, g1⟩ : ∃ p, ins (X - 1) (Y - 1) = p := ⟨_, rfl⟩
  obtain ⟨q, g2⟩ : ∃ q, ins X (Y - 1) = q := ⟨_, rfl⟩
  obtain ⟨r, g3⟩ : ∃ r, ins X Y = r := ⟨_, rfl⟩
  obtain ⟨s, g4⟩ : ∃ s, ins (X - 1) Y = s := ⟨_, rfl⟩
  rcases d4 hd with rfl | rfl | rfl | rfl
  · simp only [sx_v, show X - 1 - 0 = X - 1 by omega, show Y - 0 = Y by omega] at hN hva ⊢
    rcases hpt with rfl | rfl <;> cases p <;> cases q <;> cases r <;> cases s <;> simp [rtx, rty, ndr, arr, x1, y1, g1, g2, g3, g4] at hva zo0 zo1 zo2 zo3 zi0 zi1 zi2 zi3 s0 s1 s2 s3 ⊢ <;> omega
  · simp only [sx_v, show X - 0 = X by omega] at hN hva ⊢
    rcases hpt with rfl | rfl <;> cases p <;> cases q <;> cases r <;> cases s <;> simp [rtx, rty, ndr, arr, x1, y1, g1, g2, g3, g4] at hva zo0 zo1 zo2 zo3 zi0 zi1 zi2 zi3 s0 s1 s2 s3 ⊢ <;> omega
  · simp only [sx_v, show X - -1 = X + 1 by omega, show Y - 0 = Y by omega] at hN hva ⊢
    rcases hpt with rfl | rfl <;> cases p <;> cases q <;> cases r <;> cases s <;> simp [rtx, rty, ndr, arr, x1, y1, g1, g2, g3, g4] at hva zo0 zo1 zo2 zo3 zi0 zi1 zi2 zi3 s0 s1 s2 s3 ⊢ <;> omega
  · simp only [sx_v, show Y - -1 = Y + 1 by omega, show X - 0 = X by omega] at hN hva ⊢
    rcases hpt with rfl | rfl <;> cases p <;> cases q <;> cases r <;> cases s <;> simp [rtx, rty, ndr, arr, x1, y1, g1, g2, g3, g4] at hva zo0 zo1 zo2 zo3 zi0 zi1 zi2 zi3 s0 s1 s2 s3 ⊢ <;> omega
theorem corner_a (hpt : pt = 1 ∨ pt = 3) (N : Arw → Int) (P : Int → Int → Int) (n0 : ∀ a, ¬ Vld ins a → N a = 0) (n1 : ∀ a, Vld ins a → N (stp ins pt a) = N a)
    (hv : ∀ x y, (P (x - 1) y - P x y - N (x, y, 1) - N (x, y + 1, 3)) % 2 = 0) (hh : ∀ x y, (P x (y - 1) - P x y - N (x, y, 0) - N (x + 1, y, 2)) % 2 = 0)
    {a : Arw} (ha : Vld ins a) (hN : N a = 0) : (P (rtx a) (rty a) - P (rtx (stp ins pt a)) (rty (stp ins pt a))) % 2 = 0 := by
  obtain ⟨x, y, d⟩ := a
  have e : ((x + sx d) - sx d, (y + sy d) - sy d, d) = (x, y, d) := by
    rw [show x + sx d - sx d = x by omega, show y + sy d - sy d = y by omega]
  have := corner_d (X := x + sx d) (Y := y + sy d) hpt ha.1 N P n0 n1 hv hh (by rw [e]; exact ha) (by rw [e]; exact hN)
  rw [e] at this
  exact this
theorem along (hpt : pt = 1 ∨ pt = 3) (N : Arw → Int) (P : Int → Int → Int) (n0 : ∀ a, ¬ Vld ins a → N a = 0) (n1 : ∀ a, Vld ins a → N (stp ins pt a) = N a)
    (hv : ∀ x y, (P (x - 1) y - P x y - N (x, y, 1) - N (x, y + 1, 3)) % 2 = 0) (hh : ∀ x y, (P x (y - 1) - P x y - N (x, y, 0) - N (x + 1, y, 2)) % 2 = 0)
    {a : Arw} (ha : Vld ins a) (hN : N a = 0) : ∀ i : Nat, N (itr ins pt i a) = 0 ∧ (P (rtx a) (rty a) - P (rtx (itr ins pt i a)) (rty (itr ins pt i a))) % 2 = 0
  | 0 => ⟨hN, by simp [itr]⟩
  | i + 1 => by
    obtain ⟨i1, i2⟩ := along hpt N P n0 n1 hv hh ha hN i
    have hva := itr_vld hpt ha i
    have := corner_a hpt N P n0 n1 hv hh hva i1
    rw [itr_succ]
    refine ⟨by rw [n1 _ hva]; exact i1, by omega⟩
/-! the sums of a closed way -/
theorem sm_mod {D E : Nat → Int} : ∀ {n : Nat}, (∀ k, k < n → (D k - E k) % 2 = 0) → (sm D n - sm E n) % 2 = 0
  | 0, _ => rfl
  | n + 1, h => by
    have := sm_mod (n := n) (fun k hk => h k (by omega))
    have h2 := h n (by omega)
    rw [sm, sm]
    omega
theorem sm_tele (g : Nat → Int) : ∀ n : Nat, sm (fun j => g (j + 1) - g j) n = g n - g 0
  | 0 => by simp [sm]
  | n + 1 => by rw [sm, sm_tele g n]; omega
theorem sm_plus (D E : Nat → Int) : ∀ n : Nat, sm (fun j => D j + E j) n = sm D n + sm E n
  | 0 => rfl
  | n + 1 => by rw [sm, sm_plus D E n, sm, sm]; omega
theorem sm_ne {D : Nat → Int} : ∀ {n : Nat}, sm D n ≠ 0 → ∃ k, k < n ∧ D k ≠ 0
  | 0, h => absurd rfl h
  | n + 1, h => by
    by_cases q : D n = 0
    · obtain ⟨k, hk, hk2⟩ := sm_ne (n := n) (D := D) (fun e => h (by rw [sm, e, q]; rfl))
      exact ⟨k, by omega, hk2⟩
    · exact ⟨n, by omega, q⟩
/-- a side is crossed by the ray to the right of a point -/
def psi (px py x y _x' y' : Int) : Int := if px < 2 * x ∧ ((2 * y ≤ py ∧ py < 2 * y') ∨ (2 * y' ≤ py ∧ py < 2 * y)) then 1 else 0
theorem psi_add (px py : Int) : AddF (psi px py) := by
  refine ⟨fun x y => by unfold psi; rw [if_neg (by omega)], fun x y d k h1 h2 => ?_⟩
  rcases sxy d h1 h2 with ⟨a, b⟩ | ⟨a, b⟩ | ⟨a, b⟩ | ⟨a, b⟩ <;> rw [a, b] <;> unfold psi
  · rw [if_neg (by omega), if_neg (by omega), if_neg (by omega)]; rfl
  · simp only [Int.mul_one, Int.mul_zero, Int.add_zero]
    by_cases q1 : px < 2 * x ∧ ((2 * y ≤ py ∧ py < 2 * (y + (k : Int))) ∨ (2 * (y + (k : Int)) ≤ py ∧ py < 2 * y))
    · rw [if_pos q1, if_pos (by omega), if_neg (by omega)]; rfl
    · rw [if_neg q1]
      by_cases q2 : px < 2 * x ∧ ((2 * (y + (k : Int)) ≤ py ∧ py < 2 * (y + ((k : Int) + 1))) ∨ (2 * (y + ((k : Int) + 1)) ≤ py ∧ py < 2 * (y + (k : Int))))
      · rw [if_pos q2, if_pos (by omega)]; rfl
      · rw [if_neg q2, if_neg (by omega)]; rfl
  · rw [if_neg (by omega), if_neg (by omega), if_neg (by omega)]; rfl
  · simp only [Int.mul_zero, Int.add_zero, show ((k : Int) + 1) * -1 = -((k : Int) + 1) by omega, show (k : Int) * -1 = -(k : Int) by omega]
    by_cases q1 : px < 2 * x ∧ ((2 * y ≤ py ∧ py < 2 * (y + -(k : Int))) ∨ (2 * (y + -(k : Int)) ≤ py ∧ py < 2 * y))
    · rw [if_pos q1, if_pos (by omega), if_neg (by omega)]; rfl
    · rw [if_neg q1]
      by_cases q2 : px < 2 * x ∧ ((2 * (y + -(k : Int)) ≤ py ∧ py < 2 * (y + -((k : Int) + 1))) ∨ (2 * (y + -((k : Int) + 1)) ≤ py ∧ py < 2 * (y + -(k : Int))))
      · rw [if_pos q2, if_pos (by omega)]; rfl
      · rw [if_neg q2, if_neg (by omega)]; rfl
variable (ins pt)
def Wk (s : Arw) (n : Nat) (x y : Int) : Int := asum ins pt (psi (2 * x + 1) (2 * y + 1)) s n
def Nk (s : Arw) (n : Nat) (a : Arw) : Int := sm (fun j => if itr ins pt j s = a then 1 else 0) n
variable {ins pt}
theorem Nk_0 (hpt : pt = 1 ∨ pt = 3) {s : Arw} (hs : Vld ins s) {n : Nat} (a : Arw) (ha : ¬ Vld ins a) : Nk ins pt s n a = 0 :=
  sm_z (fun k _ => if_neg (fun (e : itr ins pt k s = a) => ha (e ▸ itr_vld hpt hs k)))
theorem Nk_off {s : Arw} {n : Nat} {a : Arw} (h : ∀ j, j < n → itr ins pt j s ≠ a) : Nk ins pt s n a = 0 :=
  sm_z (fun k hk => if_neg (h k hk))
theorem Nk_st (hpt : pt = 1 ∨ pt = 3) {s : Arw} (hs : Vld ins s) {n : Nat} (hn : itr ins pt n s = s) (a : Arw) (ha : Vld ins a) : Nk ins pt s n (stp ins pt a) = Nk ins pt s n a := by
  unfold Nk
  have e1 : sm (fun j => if itr ins pt j s = a then (1 : Int) else 0) n = sm (fun j => if itr ins pt (j + 1) s = stp ins pt a then 1 else 0) n := sm_congr (fun j _ => by
    have : itr ins pt j s = a ↔ itr ins pt (j + 1) s = stp ins pt a := by
      rw [itr_succ]
      exact ⟨fun e => by rw [e], fun e => stp_inj hpt (itr_vld hpt hs j) ha e⟩
    by_cases q : itr ins pt j s = a
    · rw [if_pos q, if_pos (this.mp q)]
    · rw [if_neg q, if_neg (fun t => q (this.mpr t))])
  rw [e1]
  have e2 := sm_tele (fun j => sm (fun j => if itr ins pt j s = stp ins pt a then (1 : Int) else 0) j) n
  have e3 := sm_front (fun j => if itr ins pt j s = stp ins pt a then (1 : Int) else 0) n
  rw [sm, hn] at e3
  have e4 : itr ins pt 0 s = s := rfl
  rw [e4] at e3
  omega
theorem Wk_v (hpt : pt = 1 ∨ pt = 3) {s : Arw} (hs : Vld ins s) {n : Nat} (x y : Int) : (Wk ins pt s n (x - 1) y - Wk ins pt s n x y - Nk ins pt s n (x, y, 1) - Nk ins pt s n (x, y + 1, 3)) % 2 = 0 := by
  have : Wk ins pt s n (x - 1) y = Wk ins pt s n x y + (Nk ins pt s n (x, y, 1) + Nk ins pt s n (x, y + 1, 3)) := by
    unfold Wk Nk asum
    rw [← sm_plus, ← sm_plus]
    refine sm_congr (fun j _ => ?_)
    rw [itr_succ]
    have hva := (itr_vld hpt hs j).1
    generalize itr ins pt j s = a at *
    obtain ⟨X, Y, d⟩ := a
    simp only [stp, Prod.mk.injEq] at *
    unfold psi
    rcases d4 hva with rfl | rfl | rfl | rfl <;> simp only [sx_v, Int.reduceEq, and_false, if_false, Int.add_zero, and_true]
    · rw [if_neg (by omega), if_neg (by omega)]
    · by_cases q : X = x ∧ Y = y
      · rw [if_pos q, if_pos (by omega), if_neg (by omega)]; rfl
      · rw [if_neg q]
        by_cases q2 : 2 * x + 1 < 2 * X ∧ ((2 * Y ≤ 2 * y + 1 ∧ 2 * y + 1 < 2 * (Y + 1)) ∨ (2 * (Y + 1) ≤ 2 * y + 1 ∧ 2 * y + 1 < 2 * Y))
        · rw [if_pos q2, if_pos (by omega)]; rfl
        · rw [if_neg q2, if_neg (by omega)]; rfl
    · rw [if_neg (by omega), if_neg (by omega)]
    · by_cases q : X = x ∧ Y = y + 1
      · rw [if_pos q, if_pos (by omega), if_neg (by omega)]; rfl
      · rw [if_neg q]
        by_cases q2 : 2 * x + 1 < 2 * X ∧ ((2 * Y ≤ 2 * y + 1 ∧ 2 * y + 1 < 2 * (Y + -1)) ∨ (2 * (Y + -1) ≤ 2 * y + 1 ∧ 2 * y + 1 < 2 * Y))
        · rw [if_pos q2, if_pos (by omega)]; rfl
        · rw [if_neg q2, if_neg (by omega)]; rfl
  omega
theorem Wk_h (hpt : pt = 1 ∨ pt = 3) {s : Arw} (hs : Vld ins s) {n : Nat} (hn : itr ins pt n s = s) (x y : Int) : (Wk ins pt s n x (y - 1) - Wk ins pt s n x y - Nk ins pt s n (x, y, 0) - Nk ins pt s n (x + 1, y, 2)) % 2 = 0 := by
  have ht := sm_tele (fun j => if x + 1 ≤ (itr ins pt j s).1 ∧ (itr ins pt j s).2.1 = y then (1 : Int) else 0) n
  rw [hn] at ht
  have e0 : itr ins pt 0 s = s := rfl
  rw [e0, Int.sub_self] at ht
  have hm : ((Wk ins pt s n x (y - 1) + Wk ins pt s n x y + (Nk ins pt s n (x, y, 0) + Nk ins pt s n (x + 1, y, 2))) - sm (fun j => (if x + 1 ≤ (itr ins pt (j + 1) s).1 ∧ (itr ins pt (j + 1) s).2.1 = y then (1 : Int) else 0) - (if x + 1 ≤ (itr ins pt j s).1 ∧ (itr ins pt j s).2.1 = y then (1 : Int) else 0)) n) % 2 = 0 := by
    unfold Wk Nk asum
    rw [← sm_plus, ← sm_plus, ← sm_plus]
    refine sm_mod (fun j _ => ?_)
    rw [itr_succ]
    have hva := (itr_vld hpt hs j).1
    generalize itr ins pt j s = a at *
    obtain ⟨X, Y, d⟩ := a
    simp only [stp, Prod.mk.injEq] at *
    unfold psi
    rcases d4 hva with rfl | rfl | rfl | rfl <;> simp only [sx_v, Int.reduceEq, and_false, if_false, Int.add_zero, and_true]
    · rw [if_neg (by omega), if_neg (by omega)]
      by_cases q : X = x ∧ Y = y
      · rw [if_pos q, if_pos (by omega), if_neg (by omega)]; rfl
      · rw [if_neg q]
        by_cases q2 : x + 1 ≤ X ∧ Y = y
        · rw [if_pos q2, if_pos (by omega)]; rfl
        · rw [if_neg q2, if_neg (by omega)]; rfl
    · by_cases q0 : x + 1 ≤ X
      · by_cases q1 : Y = y
        · rw [if_neg (by omega), if_pos (by omega), if_neg (by omega), if_pos (by omega)]; rfl
        · by_cases q2 : Y + 1 = y
          · rw [if_pos (by omega), if_neg (by omega), if_pos (by omega), if_neg (by omega)]; rfl
          · rw [if_neg (by omega), if_neg (by omega), if_neg (by omega), if_neg (by omega)]; rfl
      · rw [if_neg (by omega), if_neg (by omega), if_neg (by omega), if_neg (by omega)]; rfl
    · rw [if_neg (by omega), if_neg (by omega)]
      by_cases q : X = x + 1 ∧ Y = y
      · rw [if_pos q, if_neg (by omega), if_pos (by omega)]; rfl
      · rw [if_neg q]
        by_cases q2 : x + 1 ≤ X ∧ Y = y
        · rw [if_pos q2, if_pos (by omega)]; rfl
        · rw [if_neg q2, if_neg (by omega)]; rfl
    · by_cases q0 : x + 1 ≤ X
      · by_cases q1 : Y = y
        · rw [if_pos (by omega), if_neg (by omega), if_neg (by omega), if_pos (by omega)]; rfl
        · by_cases q2 : Y + -1 = y
          · rw [if_neg (by omega), if_pos (by omega), if_pos (by omega), if_neg (by omega)]; rfl
          · rw [if_neg (by omega), if_neg (by omega), if_neg (by omega), if_neg (by omega)]; rfl
      · rw [if_neg (by omega), if_neg (by omega), if_neg (by omega), if_neg (by omega)]; rfl
  rw [ht] at hm
  omega
/-! how far to the right a contour goes -/
def mxp (a : Arw) : Int := if a.2.2 = 2 then a.1 - 1 else a.1
def mxs (f : Nat → Int) : Nat → Int
  | 0 => f 0
  | n + 1 => max (mxs f n) (f (n + 1))
theorem mxs_le {f : Nat → Int} : ∀ {n i : Nat}, i ≤ n → f i ≤ mxs f n
  | 0, i, h => by have : i = 0 := by omega
                  subst this; exact Int.le_refl _
  | n + 1, i, h => by
    rw [mxs]
    by_cases q : i = n + 1
    · subst q; omega
    · have := mxs_le (f := f) (n := n) (i := i) (by omega); omega
theorem mxs_at {f : Nat → Int} : ∀ n : Nat, ∃ i, i ≤ n ∧ mxs f n = f i
  | 0 => ⟨0, by omega, rfl⟩
  | n + 1 => by
    obtain ⟨i, h1, h2⟩ := mxs_at (f := f) n
    rw [mxs]
    by_cases q : mxs f n ≤ f (n + 1)
    · exact ⟨n + 1, by omega, by omega⟩
    · exact ⟨i, by omega, by omega⟩
/-- a contour that goes round the first arrow of another reaches farther to the right -/
theorem farther (hpt : pt = 1 ∨ pt = 3) {s : Arw} (hs : Vld ins s) {n : Nat} (hn : itr ins pt n s = s) {c : Arw} (hc : Vld ins c) (hc0 : c.2.2 = 0) (m : Nat) (hoff : ∀ j, j < n → itr ins pt j s ≠ c) (hodd : Wk ins pt s n c.1 c.2.1 % 2 = 1 ∨ Wk ins pt s n c.1 (c.2.1 - 1) % 2 = 1) : mxs (fun i => mxp (itr ins pt i c)) m < mxs (fun i => mxp (itr ins pt i s)) n := by
  have n0 := fun a ha => Nk_0 (n := n) hpt hs a ha
  have n1 := fun a ha => Nk_st hpt hs hn a ha
  have hv := fun x y => Wk_v (n := n) hpt hs x y
  have hh := fun x y => Wk_h hpt hs hn x y
  have hN : Nk ins pt s n c = 0 := Nk_off hoff
  obtain ⟨cx, cy, cd⟩ := c
  dsimp only at hc0 hodd
  subst hc0
  have hva := hc.2
  have hback : Nk ins pt s n (cx + 1, cy, 2) = 0 := n0 _ (fun h => by
    have h1 := hva
    have h2 := h.2
    simp [arr, show cx + 1 - 1 = cx by omega] at h1 h2
    rw [h1.1] at h2
    exact absurd h2.2 (by decide))
  have hodd' : Wk ins pt s n (rtx (cx, cy, 0)) (rty (cx, cy, 0)) % 2 = 1 := by
    have e1 : rtx (cx, cy, 0) = cx := by simp [rtx]
    have e2 : rty (cx, cy, 0) = cy := by simp [rty]
    rw [e1, e2]
    have := hh cx cy
    rw [hN, hback] at this
    omega
  obtain ⟨i, hi, ei⟩ := mxs_at (f := fun i => mxp (itr ins pt i (cx, cy, 0))) m
  obtain ⟨a1, a2⟩ := along hpt (Nk ins pt s n) (Wk ins pt s n) n0 n1 hv hh hc hN i
  have hvi := itr_vld hpt hc i
  rw [ei]
  generalize itr ins pt i (cx, cy, 0) = a at *
  obtain ⟨x, y, d⟩ := a
  -- a pixel beside the arrow, as far to the right as it goes
  obtain ⟨u, v, hu, hw⟩ : ∃ u v : Int, mxp (x, y, d) = u ∧ Wk ins pt s n u v % 2 = 1 := by
    have hd := hvi.1
    dsimp only at hd
    rcases d4 hd with rfl | rfl | rfl | rfl
    · refine ⟨x, y, by simp [mxp], ?_⟩
      simp [rtx, rty] at a2
      simp [rtx, rty] at hodd'
      omega
    · refine ⟨x, y, by simp [mxp], ?_⟩
      simp [rtx, rty] at a2
      simp [rtx, rty] at hodd'
      have := hv x y
      have hb : Nk ins pt s n (x, y + 1, 3) = 0 := n0 _ (fun h => by
        have h1 := hvi.2
        have h2 := h.2
        simp [arr, show y + 1 - 1 = y by omega] at h1 h2
        rw [h1.1] at h2
        exact absurd h2.2 (by decide))
      rw [a1, hb] at this
      omega
    · refine ⟨x - 1, y - 1, by simp [mxp], ?_⟩
      simp [rtx, rty] at a2
      simp [rtx, rty] at hodd'
      omega
    · refine ⟨x, y - 1, by simp [mxp], ?_⟩
      simp [rtx, rty] at a2
      simp [rtx, rty] at hodd'
      omega
  rw [hu]
  obtain ⟨j, hj, hj2⟩ := sm_ne (D := fun j => psi (2 * u + 1) (2 * v + 1) (itr ins pt j s).1 (itr ins pt j s).2.1 (itr ins pt (j + 1) s).1 (itr ins pt (j + 1) s).2.1) (n := n) (fun e => by
    have : Wk ins pt s n u v = 0 := e
    omega)
  have hle := mxs_le (f := fun i => mxp (itr ins pt i s)) (n := n) (i := j) (by omega)
  have hlt : u < mxp (itr ins pt j s) := by
    have hvj := (itr_vld hpt hs j).1
    rw [itr_succ] at hj2
    generalize itr ins pt j s = b at *
    obtain ⟨X, Y, e⟩ := b
    simp only [stp] at hj2 hvj
    unfold psi at hj2
    unfold mxp
    dsimp only
    by_cases q : e = 2
    · subst q
      rw [sx_v.2.2.2.2.2.2.1] at hj2
      rw [if_neg (by omega)] at hj2
      exact absurd rfl hj2
    · rw [if_neg q]
      apply Classical.byContradiction
      intro t
      rw [if_neg (by omega)] at hj2
      exact hj2 rfl
  omega
end WND
