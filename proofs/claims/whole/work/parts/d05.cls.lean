section
variable {T : List Nat} {h : zH} {q : Nat}
/-- whether a number names a thing, a buyer, a slip -/
abbrev isT (S : ST) (x : Int32) : Prop := 0 ≤ x.toInt ∧ x.toInt < (S 0 7).toInt
abbrev isB (S : ST) (x : Int32) : Prop := 0 ≤ x.toInt ∧ x.toInt < (S 0 8).toInt
abbrev isS (S : ST) (x : Int32) : Prop := 1 ≤ x.toInt ∧ x.toInt ≤ (S 0 0).toInt
theorem e0 : (0 : Int32).toInt = 0 := rfl
theorem e1 : (1 : Int32).toInt = 1 := rfl
theorem c_isT (x : Int32) : F_X1_isThing h q x = 0 ∧ ¬ isT (cAbs h q) x ∨ F_X1_isThing h q x = 1 ∧ isT (cAbs h q) x := by
  unfold F_X1_isThing
  show _ ∧ ¬ (0 ≤ x.toInt ∧ x.toInt < (hv h q 8).toInt) ∨ _
  by_cases h1 : x < 0
  · rw [if_pos h1]
    rw [i_lt, e0] at h1
    exact Or.inl ⟨rfl, by omega⟩
  · by_cases h2 : x < hv h q 8
    · rw [if_neg h1, if_pos h2]
      rw [i_lt, e0] at h1
      rw [i_lt] at h2
      exact Or.inr ⟨rfl, by omega, h2⟩
    · rw [if_neg h1, if_neg h2]
      rw [i_lt] at h2
      exact Or.inl ⟨rfl, by omega⟩
theorem c_isB (x : Int32) : F_X1_isBuyer h q x = 0 ∧ ¬ isB (cAbs h q) x ∨ F_X1_isBuyer h q x = 1 ∧ isB (cAbs h q) x := by
  unfold F_X1_isBuyer
  show _ ∧ ¬ (0 ≤ x.toInt ∧ x.toInt < (hv h q 14).toInt) ∨ _
  by_cases h1 : x < 0
  · rw [if_pos h1]
    rw [i_lt, e0] at h1
    exact Or.inl ⟨rfl, by omega⟩
  · by_cases h2 : x < hv h q 14
    · rw [if_neg h1, if_pos h2]
      rw [i_lt, e0] at h1
      rw [i_lt] at h2
      exact Or.inr ⟨rfl, by omega, h2⟩
    · rw [if_neg h1, if_neg h2]
      rw [i_lt] at h2
      exact Or.inl ⟨rfl, by omega⟩
theorem c_isS (x : Int32) : F_X1_isSlip h q x = 0 ∧ ¬ isS (cAbs h q) x ∨ F_X1_isSlip h q x = 1 ∧ isS (cAbs h q) x := by
  unfold F_X1_isSlip
  show _ ∧ ¬ (1 ≤ x.toInt ∧ x.toInt ≤ (hv h q 0).toInt) ∨ _
  by_cases h1 : x < 1
  · rw [if_pos h1]
    rw [i_lt, e1] at h1
    exact Or.inl ⟨rfl, by omega⟩
  · by_cases h2 : hv h q 0 < x
    · rw [if_neg h1, if_pos h2]
      rw [i_lt] at h2
      exact Or.inl ⟨rfl, by omega⟩
    · rw [if_neg h1, if_neg h2]
      rw [i_lt, e1] at h1
      rw [i_lt] at h2
      exact Or.inr ⟨rfl, by omega, Int.not_lt.mp h2⟩
/-- the state's own rows, read -/
theorem c_row {k : Nat} {t : Nat} (ht : t < nT (cAbs h q)) (hk : k = 2 ∨ k = 3 ∨ k = 4 ∨ k = 5 ∨ k = 6) : hv h (q + (k - 1)) t = cAbs h q k t := by
  have ht : t < (hv h q 8).toNatClampNeg := ht
  rcases hk with rfl | rfl | rfl | rfl | rfl <;> exact (if_pos ht).symm
/-- the first thing on a slip, from the j-th on, among n -/
def thN (S : ST) (x : Int32) : Nat → Nat → Int32
  | 0, _ => -1
  | n + 1, j => if S 3 j = x then nI j else thN S x n (j + 1)
def thOn (S : ST) (x : Int32) : Int32 := thN S x (nT S) 0
theorem lt_T {S : ST} (w : WF S) {j : Nat} (hj : j ≤ 1000) : nI j < S 0 7 ↔ j < nT S := by
  rw [i_lt, nI_t (by omega)]
  have := nT_i w
  omega
theorem lt_B {S : ST} (w : WF S) {j : Nat} (hj : j ≤ 1000) : nI j < S 0 8 ↔ j < nB S := by
  rw [i_lt, nI_t (by omega)]
  have := nB_i w
  omega
theorem cT_lt (w : WF (cAbs h q)) {j : Nat} (hj : j ≤ 1000) : nI j < hv h q 8 ↔ j < nT (cAbs h q) := lt_T w hj
theorem cB_lt (w : WF (cAbs h q)) {j : Nat} (hj : j ≤ 1000) : nI j < hv h q 14 ↔ j < nB (cAbs h q) := lt_B w hj
theorem c_thOn (c : CC T h q) (x : Int32) : F_X1_thingOn h q x = thOn (cAbs h q) x := by
  have w := c.2.2.1
  have n8 := nT_8 w
  unfold F_X1_thingOn thOn
  refine fx_rec (fun j => nI j) (fun j => thN (cAbs h q) x (nT (cAbs h q) - j) j) (nT (cAbs h q)) ?_ (fun j hj => ?_)
  · unfold B_X1_thingOn_2
    rw [if_neg (fun e => absurd ((cT_lt w (by omega)).mp e) (Nat.lt_irrefl _)), Nat.sub_self]
    rfl
  · unfold B_X1_thingOn_2
    rw [if_pos ((cT_lt w (by omega)).mpr hj), cl10 c.2.1, nI_c (by omega), c_row (k := 3) hj (by omega)]
    rw [show nT (cAbs h q) - j = (nT (cAbs h q) - (j + 1)) + 1 by omega]
    show _ ∨ _ ∧ (if cAbs h q 3 j = x then nI j else thN (cAbs h q) x (nT (cAbs h q) - (j + 1)) (j + 1)) = _
    by_cases e : cAbs h q 3 j = x
    · left
      rw [if_pos e]
      show _ = Sum.inr (if cAbs h q 3 j = x then nI j else thN (cAbs h q) x (nT (cAbs h q) - (j + 1)) (j + 1))
      rw [if_pos e]
    · right
      rw [if_neg e, if_neg e, nI_s]
      exact ⟨rfl, rfl⟩
/-- the things of an owner -/
def ownN (S : ST) (o : Int32) : Nat := setN (fun t => decide (S 6 t = o)) (nT S)
def stN (S : ST) : Nat := ownN S (-1)
theorem own_lt {S : ST} (w : WF S) (o : Int32) : ownN S o < 256 := setN_256 (nT_8 w)
theorem c_own (c : CC T h q) (o : Int32) : F_X1_thingsOwnedBy h q o = nI (ownN (cAbs h q) o) := by
  have w := c.2.2.1
  have n8 := nT_8 w
  unfold F_X1_thingsOwnedBy ownN
  refine fx_set _ _ n8 (fun m => ?_) (fun j m hj => ?_)
  · unfold B_X1_thingsOwnedBy_4
    dsimp only
    rw [if_neg (fun e => absurd ((cT_lt w (by omega)).mp e) (Nat.lt_irrefl _))]
  · unfold B_X1_thingsOwnedBy_4
    dsimp only
    rw [if_pos ((cT_lt w (by omega)).mpr hj), cl13 c.2.1, nI_c (by omega), c_row (k := 6) hj (by omega)]
    by_cases e : cAbs h q 6 j = o
    · rw [if_pos e, if_pos (decide_eq_true e)]
    · rw [if_neg e, if_neg (fun x => e (of_decide_eq_true x))]
theorem c_std (c : CC T h q) : F_X1_standing h q = nI (stN (cAbs h q)) := c_own c (-1)
theorem c_stands (c : CC T h q) (x : Int32) : F_X1_stands h q x = if isT (cAbs h q) x ∧ cAbs h q 6 x.toNatClampNeg = -1 then 1 else 0 := by
  unfold F_X1_stands
  simp only [letf]
  rcases c_isT (h := h) (q := q) x with ⟨e, n⟩ | ⟨e, p⟩
  · rw [e, if_pos rfl, if_neg (fun x => n x.1)]
  · have w := c.2.2.1
    have hx : x.toNatClampNeg < nT (cAbs h q) := by
      have h1 := nT_i w
      have h2 := clamp_i p.1
      have h3 := p.2
      omega
    rw [e, if_neg (show ¬ (1 : Int32) = 0 by decide), cl13 c.2.1, c_row (k := 6) hx (by omega)]
    by_cases e2 : cAbs h q 6 x.toNatClampNeg = -1
    · rw [if_pos e2, if_pos ⟨p, e2⟩]
    · rw [if_neg e2, if_neg (fun x => e2 x.2)]
end
