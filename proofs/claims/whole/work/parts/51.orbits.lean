/-! going round: the way of an arrow comes back to it -/
section ORB
variable {ins : Int → Int → Bool} {pt w h : Int}
def itr (ins : Int → Int → Bool) (pt : Int) : Nat → Arw → Arw
  | 0, a => a
  | n + 1, a => itr ins pt n (stp ins pt a)
theorem itr_succ (n : Nat) (a : Arw) : itr ins pt (n + 1) a = stp ins pt (itr ins pt n a) := by
  induction n generalizing a with
  | zero => rfl
  | succ n ih => rw [itr, ih (stp ins pt a), itr]
theorem itr_add (i j : Nat) (a : Arw) : itr ins pt (i + j) a = itr ins pt i (itr ins pt j a) := by
  induction i with
  | zero => simp [itr]
  | succ i ih => rw [show i + 1 + j = (i + j) + 1 by omega, itr_succ, ih, itr_succ]
theorem itr_vld (hpt : pt = 1 ∨ pt = 3) {a : Arw} (ha : Vld ins a) : ∀ n : Nat, Vld ins (itr ins pt n a)
  | 0 => ha
  | n + 1 => by rw [itr_succ]; exact stp_vld hpt (itr_vld hpt ha n)
theorem itr_inj (hpt : pt = 1 ∨ pt = 3) : ∀ (n : Nat) {a b : Arw}, Vld ins a → Vld ins b → itr ins pt n a = itr ins pt n b → a = b
  | 0, a, b, _, _, e => e
  | n + 1, a, b, ha, hb, e => stp_inj hpt ha hb (itr_inj hpt n (stp_vld hpt ha) (stp_vld hpt hb) e)
theorem itr_back (hpt : pt = 1 ∨ pt = 3) {a : Arw} (ha : Vld ins a) {i j : Nat} (hij : i < j) (e : itr ins pt i a = itr ins pt j a) : itr ins pt (j - i) a = a := by
  have : itr ins pt j a = itr ins pt i (itr ins pt (j - i) a) := by rw [← itr_add]; congr 1; omega
  rw [this] at e
  exact (itr_inj hpt i ha (itr_vld hpt ha _) e).symm
theorem map_nodup {α : Type} {f : Nat → α} {n : Nat} (hf : ∀ i j, i < j → j < n → f i ≠ f j) : ((List.range n).map f).Nodup := by
  unfold List.Nodup
  rw [List.pairwise_map]
  exact List.Pairwise.imp_of_mem (fun {a b} _ hb hab => hf a b hab (List.mem_range.mp hb)) List.pairwise_lt_range
/-- the least number of arrows after which an arrow comes again -/
theorem period (hpt : pt = 1 ∨ pt = 3) (hz : szJ w h) (hi : insJ w h ins) {a : Arw} (ha : Vld ins a) : ∃ n : Nat, 1 ≤ n ∧ n ≤ 442 ∧ itr ins pt n a = a ∧ ∀ k : Nat, 1 ≤ k → k < n → itr ins pt k a ≠ a := by
  have hex : ∃ k : Nat, (1 ≤ k ∧ k ≤ 442) ∧ itr ins pt k a = a := by
    apply Classical.byContradiction
    intro hn
    have hd : ∀ i j : Nat, i < j → j < 443 → acode (itr ins pt i a) ≠ acode (itr ins pt j a) := by
      intro i j hij hj e
      have e2 := acode_inj hz hi (itr_vld hpt ha i) (itr_vld hpt ha j) e
      exact hn ⟨j - i, ⟨by omega, by omega⟩, itr_back hpt ha hij e2⟩
    have hl := nd_len (map_nodup (f := fun i => acode (itr ins pt i a)) (n := 443) hd) (n := 442) (by
      intro k hk
      obtain ⟨i, -, rfl⟩ := List.mem_map.mp hk
      exact acode_lt hz hi (itr_vld hpt ha i))
    simp at hl
  obtain ⟨n, hn, hmin⟩ := pk_least (fun k => 1 ≤ k ∧ itr ins pt k a = a) ⟨hex.choose, hex.choose_spec.1.1, hex.choose_spec.2⟩
  refine ⟨n, hn.1, ?_, hn.2, fun k h1 h2 e => hmin k h2 ⟨h1, e⟩⟩
  apply Classical.byContradiction
  intro hgt
  exact hmin hex.choose (by have := hex.choose_spec.1.2; omega) ⟨hex.choose_spec.1.1, hex.choose_spec.2⟩
def wlk (ins : Int → Int → Bool) (pt : Int) (n : Nat) (a : Arw) : List Arw := (List.range n).map (fun i => itr ins pt i a)
theorem wlk_0 (a : Arw) : wlk ins pt 0 a = [] := rfl
theorem wlk_s (n : Nat) (a : Arw) : wlk ins pt (n + 1) a = wlk ins pt n a ++ [itr ins pt n a] := by
  simp [wlk, List.range_succ]
theorem wlk_len (n : Nat) (a : Arw) : (wlk ins pt n a).length = n := by simp [wlk]
theorem wlk_mem {n : Nat} {a b : Arw} : b ∈ wlk ins pt n a ↔ ∃ i, i < n ∧ b = itr ins pt i a := by
  simp only [wlk, List.mem_map, List.mem_range]
  constructor
  · rintro ⟨i, h1, rfl⟩; exact ⟨i, h1, rfl⟩
  · rintro ⟨i, h1, rfl⟩; exact ⟨i, h1, rfl⟩
theorem wlk_nodup (hpt : pt = 1 ∨ pt = 3) {a : Arw} (ha : Vld ins a) {n : Nat} (hm : ∀ k : Nat, 1 ≤ k → k < n → itr ins pt k a ≠ a) : (wlk ins pt n a).Nodup :=
  map_nodup (fun i j hij hj e => hm (j - i) (by omega) (by omega) (itr_back hpt ha hij e))
/-- a set of whole ways: valid, each once, each with the arrow that leads to it -/
def Ways (ins : Int → Int → Bool) (pt : Int) (l : List Arw) : Prop := l.Nodup ∧ (∀ a ∈ l, Vld ins a) ∧ ∀ a ∈ l, ∃ b ∈ l, stp ins pt b = a
theorem ways_nil : Ways ins pt [] := ⟨List.nodup_nil, by simp, by simp⟩
theorem ways_off (hpt : pt = 1 ∨ pt = 3) {l : List Arw} (hl : Ways ins pt l) {a : Arw} (ha : Vld ins a) (hn : a ∉ l) : ∀ n : Nat, itr ins pt n a ∉ l
  | 0 => hn
  | n + 1 => by
    rw [itr_succ]
    intro hm
    obtain ⟨b, hb, e⟩ := hl.2.2 _ hm
    have := stp_inj hpt (hl.2.1 b hb) (itr_vld hpt ha n) e
    subst this
    exact ways_off hpt hl ha hn n hb
theorem ways_prefix (hpt : pt = 1 ∨ pt = 3) {l : List Arw} (hl : Ways ins pt l) {a : Arw} (ha : Vld ins a) (hn : a ∉ l) {n : Nat} (hm : ∀ k : Nat, 1 ≤ k → k < n → itr ins pt k a ≠ a) : (l ++ wlk ins pt n a).Nodup ∧ ∀ b ∈ l ++ wlk ins pt n a, Vld ins b := by
  constructor
  · refine List.nodup_append.mpr ⟨hl.1, wlk_nodup hpt ha hm, fun u hu v hv e => ?_⟩
    subst e
    obtain ⟨i, -, rfl⟩ := wlk_mem.mp hv
    exact ways_off hpt hl ha hn i hu
  · intro b hb
    rcases List.mem_append.mp hb with g | g
    · exact hl.2.1 b g
    · obtain ⟨i, -, rfl⟩ := wlk_mem.mp g
      exact itr_vld hpt ha i
theorem ways_add (hpt : pt = 1 ∨ pt = 3) {l : List Arw} (hl : Ways ins pt l) {a : Arw} (ha : Vld ins a) (hn : a ∉ l) {n : Nat} (h1 : 1 ≤ n) (he : itr ins pt n a = a) (hm : ∀ k : Nat, 1 ≤ k → k < n → itr ins pt k a ≠ a) : Ways ins pt (l ++ wlk ins pt n a) := by
  obtain ⟨p1, p2⟩ := ways_prefix hpt hl ha hn hm
  refine ⟨p1, p2, fun b hb => ?_⟩
  rcases List.mem_append.mp hb with g | g
  · obtain ⟨c, hc, e⟩ := hl.2.2 b g
    exact ⟨c, List.mem_append_left _ hc, e⟩
  · obtain ⟨i, hi, rfl⟩ := wlk_mem.mp g
    cases i with
    | zero =>
      refine ⟨itr ins pt (n - 1) a, List.mem_append_right _ (wlk_mem.mpr ⟨n - 1, by omega, rfl⟩), ?_⟩
      rw [← itr_succ, show n - 1 + 1 = n by omega, he]
      rfl
    | succ i => exact ⟨itr ins pt i a, List.mem_append_right _ (wlk_mem.mpr ⟨i, by omega, rfl⟩), (itr_succ i a).symm⟩
/-- so many arrows there are at most -/
theorem arw_len (hz : szJ w h) (hi : insJ w h ins) {l : List Arw} (h1 : l.Nodup) (h2 : ∀ a ∈ l, Vld ins a) : l.length ≤ 442 := by
  have hnd : (l.map acode).Nodup := by
    unfold List.Nodup
    rw [List.pairwise_map]
    exact List.Pairwise.imp_of_mem (fun {a b} ha hb hab e => hab (acode_inj hz hi (h2 a ha) (h2 b hb) e)) h1
  have := nd_len hnd (n := 442) (by
    intro k hk
    obtain ⟨a, ha, rfl⟩ := List.mem_map.mp hk
    exact acode_lt hz hi (h2 a ha))
  simpa using this
theorem period_4 (hpt : pt = 1 ∨ pt = 3) {a : Arw} (ha : Vld ins a) {n : Nat} (h1 : 1 ≤ n) (he : itr ins pt n a = a) : 4 ≤ n := by
  have par : ∀ k : Nat, ((itr ins pt k a).1 + (itr ins pt k a).2.1 - a.1 - a.2.1 - k) % 2 = 0 := by
    intro k
    induction k with
    | zero => simp [itr]; omega
    | succ k ih =>
      rw [itr_succ]
      have hv := (itr_vld hpt ha k).1
      have hs := sxy (itr ins pt k a).2.2 hv.1 hv.2
      simp only [stp]
      omega
  have p := par n
  rw [he] at p
  apply Classical.byContradiction
  intro hlt
  have : n = 2 := by omega
  subst this
  have e1 : stp ins pt (stp ins pt a) = a := he
  have hv := ha.1
  have hv1 := (stp_vld hpt ha).1
  have nb := stp_noback hpt ha
  have hs := sxy a.2.2 hv.1 hv.2
  have hs1 := sxy (stp ins pt a).2.2 hv1.1 hv1.2
  have k1 := congrArg (fun t : Arw => t.1) e1
  have k2 := congrArg (fun t : Arw => t.2.1) e1
  have j1 : (stp ins pt a).1 = a.1 + sx a.2.2 := rfl
  have j2 : (stp ins pt a).2.1 = a.2.1 + sy a.2.2 := rfl
  have m1 : (stp ins pt (stp ins pt a)).1 = (stp ins pt a).1 + sx (stp ins pt a).2.2 := rfl
  have m2 : (stp ins pt (stp ins pt a)).2.1 = (stp ins pt a).2.1 + sy (stp ins pt a).2.2 := rfl
  rw [m1, j1] at k1
  rw [m2, j2] at k2
  rcases d4 hv with g | g | g | g <;> rcases d4 hv1 with f | f | f | f <;> rw [g, f] at nb <;> rw [g, f] at k1 k2 <;> simp [sx_v] at k1 k2 <;> omega
end ORB
