section
variable {T : List Nat} {h : zH} {q : Nat}
/-- the reference: the same -/
theorem thN_cases {S : ST} {x : Int32} : ∀ n j : Nat, (thN S x n j = -1 ∧ ∀ t, j ≤ t → t < j + n → S 3 t ≠ x) ∨ ∃ t, j ≤ t ∧ t < j + n ∧ thN S x n j = nI t ∧ S 3 t = x ∧ ∀ u, j ≤ u → u < t → S 3 u ≠ x
  | 0, j => Or.inl ⟨rfl, fun t h1 h2 => absurd h2 (by omega)⟩
  | n + 1, j => by
    show ((if S 3 j = x then nI j else thN S x n (j + 1)) = -1 ∧ _) ∨ ∃ t, _ ∧ _ ∧ (if S 3 j = x then nI j else thN S x n (j + 1)) = nI t ∧ _ ∧ _
    by_cases e : S 3 j = x
    · rw [if_pos e]
      exact Or.inr ⟨j, Nat.le_refl _, by omega, rfl, e, fun u h1 h2 => absurd h2 (by omega)⟩
    · rw [if_neg e]
      rcases thN_cases n (j + 1) with ⟨h1, h2⟩ | ⟨t, h1, h2, h3, h4, h5⟩
      · refine Or.inl ⟨h1, fun t a b => ?_⟩
        by_cases et : t = j
        · rw [et]
          exact e
        · exact h2 t (by omega) (by omega)
      · refine Or.inr ⟨t, by omega, by omega, h3, h4, fun u a b => ?_⟩
        by_cases et : u = j
        · rw [et]
          exact e
        · exact h5 u (by omega) b
theorem thOn_cases (S : ST) (x : Int32) : (thOn S x = -1 ∧ ∀ t, t < nT S → S 3 t ≠ x) ∨ ∃ t, t < nT S ∧ thOn S x = nI t ∧ S 3 t = x ∧ ∀ u, u < t → S 3 u ≠ x := by
  rcases thN_cases (S := S) (x := x) (nT S) 0 with ⟨h1, h2⟩ | ⟨t, h1, h2, h3, h4, h5⟩
  · exact Or.inl ⟨h1, fun t ht => h2 t (Nat.zero_le _) (by omega)⟩
  · exact Or.inr ⟨t, by omega, h3, h4, fun u hu => h5 u (Nat.zero_le _) hu⟩
theorem r_row {k : Nat} {t : Nat} (ht : t < nT (rAbs h q)) (hk : k = 2 ∨ k = 3 ∨ k = 4 ∨ k = 5 ∨ k = 6) : hv h (q + (k + 16)) t = rAbs h q k t := by
  have ht : t < (hv h q 17).toNatClampNeg := ht
  rcases hk with rfl | rfl | rfl | rfl | rfl <;> exact (if_pos ht).symm
theorem rT_lt (w : WF (rAbs h q)) {j : Nat} (hj : j ≤ 1000) : nI j < hv h q 17 ↔ j < nT (rAbs h q) := lt_T w hj
theorem rB_lt (w : WF (rAbs h q)) {j : Nat} (hj : j ≤ 1000) : nI j < hv h q 23 ↔ j < nB (rAbs h q) := lt_B w hj
theorem rS_lt (w : WF (rAbs h q)) {j : Nat} (hj : j ≤ 1000) : hv h q 9 < nI j ↔ nS (rAbs h q) < j := by
  rw [i_lt, nI_t (by omega)]
  have := nS_i w
  have e : (rAbs h q 0 0) = hv h q 9 := rfl
  rw [e] at this
  omega
theorem r_isT (c : RC T h q) (x : Int32) : F_X5_isThing h q x = if isT (rAbs h q) x then 1 else 0 := by
  have w := WF_th c.2.2.1
  have w : 0 ≤ (hv h q 17).toInt ∧ (hv h q 17).toInt ≤ 8 := w
  have e : (hv h q 17 - (1 : Int32)).toInt = (hv h q 17).toInt - 1 := i_isub (by rw [e1]; omega) (by rw [e1]; omega)
  unfold F_X5_isThing
  simp only [letf]
  rw [F_in_eq, i2l, i2l, e, show (0 : Int64).toInt = 0 from rfl]
  show _ = if 0 ≤ x.toInt ∧ x.toInt < (hv h q 17).toInt then 1 else 0
  by_cases hx : 0 ≤ x.toInt ∧ x.toInt < (hv h q 17).toInt
  · rw [if_pos hx, if_pos (by omega)]
  · rw [if_neg hx, if_neg (by omega)]
theorem r_isB (c : RC T h q) (x : Int32) : F_X5_isBuyer h q x = if isB (rAbs h q) x then 1 else 0 := by
  have w := WF_bu c.2.2.1
  have w : 0 ≤ (hv h q 23).toInt ∧ (hv h q 23).toInt ≤ 4 := w
  have e : (hv h q 23 - (1 : Int32)).toInt = (hv h q 23).toInt - 1 := i_isub (by rw [e1]; omega) (by rw [e1]; omega)
  unfold F_X5_isBuyer
  simp only [letf]
  rw [F_in_eq, i2l, i2l, e, show (0 : Int64).toInt = 0 from rfl]
  show _ = if 0 ≤ x.toInt ∧ x.toInt < (hv h q 23).toInt then 1 else 0
  by_cases hx : 0 ≤ x.toInt ∧ x.toInt < (hv h q 23).toInt
  · rw [if_pos hx, if_pos (by omega)]
  · rw [if_neg hx, if_neg (by omega)]
theorem r_inS (x : Int32) : F_X5_in (Int32.toInt64 x) 1 (Int32.toInt64 (hv h q 9)) = if isS (rAbs h q) x then 1 else 0 := by
  rw [F_in_eq, i2l, i2l]
  rfl
theorem r_thOn (c : RC T h q) (x : Int32) : F_X5_thingOn h q x = thOn (rAbs h q) x := by
  have w := c.2.2.1
  have n8 := nT_8 w
  unfold F_X5_thingOn thOn
  refine fx_rec (fun j => nI j) (fun j => thN (rAbs h q) x (nT (rAbs h q) - j) j) (nT (rAbs h q)) ?_ (fun j hj => ?_)
  · unfold B_X5_thingOn_2
    rw [if_neg (fun e => absurd ((rT_lt w (by omega)).mp e) (Nat.lt_irrefl _)), Nat.sub_self]
    rfl
  · unfold B_X5_thingOn_2
    rw [if_pos ((rT_lt w (by omega)).mpr hj), rl19 c.2.1, nI_c (by omega), r_row (k := 3) hj (by omega)]
    rw [show nT (rAbs h q) - j = (nT (rAbs h q) - (j + 1)) + 1 by omega]
    show _ ∨ _ ∧ (if rAbs h q 3 j = x then nI j else thN (rAbs h q) x (nT (rAbs h q) - (j + 1)) (j + 1)) = _
    by_cases e : rAbs h q 3 j = x
    · left
      rw [if_pos e]
      show _ = Sum.inr (if rAbs h q 3 j = x then nI j else thN (rAbs h q) x (nT (rAbs h q) - (j + 1)) (j + 1))
      rw [if_pos e]
    · right
      rw [if_neg e, if_neg e, nI_s]
      exact ⟨rfl, rfl⟩
theorem r_std (c : RC T h q) : F_X5_standing h q = nI (stN (rAbs h q)) := by
  have w := c.2.2.1
  have n8 := nT_8 w
  unfold F_X5_standing stN ownN
  refine fx_set _ _ n8 (fun m => ?_) (fun j m hj => ?_)
  · unfold B_X5_standing_4
    dsimp only
    rw [if_neg (fun e => absurd ((rT_lt w (by omega)).mp e) (Nat.lt_irrefl _))]
  · unfold B_X5_standing_4
    dsimp only
    rw [if_pos ((rT_lt w (by omega)).mpr hj), rl22 c.2.1, nI_c (by omega), r_row (k := 6) hj (by omega), s_or0]
    by_cases e : rAbs h q 6 j = -1
    · rw [if_pos e, if_pos (decide_eq_true e)]
    · rw [if_neg e, if_neg (fun x => e (of_decide_eq_true x))]
theorem r_own (c : RC T h q) (o : Int32) : F_X5_owned h q o = nI (ownN (rAbs h q) o) := by
  have w := c.2.2.1
  have n8 := nT_8 w
  unfold F_X5_owned ownN
  refine fx_set _ _ n8 (fun m => ?_) (fun j m hj => ?_)
  · unfold B_X5_owned_4
    dsimp only
    rw [if_neg (fun e => absurd ((rT_lt w (by omega)).mp e) (Nat.lt_irrefl _))]
  · unfold B_X5_owned_4
    dsimp only
    rw [if_pos ((rT_lt w (by omega)).mpr hj), rl22 c.2.1, nI_c (by omega), r_row (k := 6) hj (by omega), s_or0]
    by_cases e : rAbs h q 6 j = o
    · rw [if_pos e, if_pos (decide_eq_true e)]
    · rw [if_neg e, if_neg (fun x => e (of_decide_eq_true x))]
theorem r_in1 (c : RC T h q) {i : Nat} (hi : 1 ≤ i ∧ i ≤ nS (rAbs h q)) : rAbs h q 1 i = 1 - hv h (q + 17) i := if_pos hi
theorem rAbs_10 (h : zH) (q : Nat) : rAbs h q 1 0 = 0 := by
  show (if 1 ≤ 0 ∧ 0 ≤ (hv h q 9).toNatClampNeg then 1 - hv h (q + 17) 0 else 0) = 0
  rw [if_neg (fun e => absurd e.1 (by decide))]
/-- how many of the first slips are in -/
theorem r_inside (c : RC T h q) : F_X5_inside h q = nI (inN (rAbs h q)) := by
  have w := c.2.2.1
  have n60 := nS_60 w
  unfold F_X5_inside
  have b : ∀ i, (rAbs h q 1 i).toNatClampNeg ≤ 1 := fun i => by
    rcases w.2.1 i with e | e <;> rw [e] <;> decide
  have z : ∀ i, nS (rAbs h q) < i → (rAbs h q 1 i).toNatClampNeg = 0 := fun i hi => by
    have : rAbs h q 1 i = 0 := if_neg (fun e => absurd e.2 (by show ¬ i ≤ nS (rAbs h q); omega))
    rw [this]
    rfl
  have z0 : (rAbs h q 1 0).toNatClampNeg = 0 := by
    rw [rAbs_10]
    rfl
  have e2 : inN (rAbs h q) = sumN (fun i => (rAbs h q 1 i).toNatClampNeg) (nS (rAbs h q) + 1) := by
    unfold inN
    exact sumN_zero (fun i h1 h2 => z i (by omega)) (by omega)
  rw [e2]
  have key := fx_for (F := B_X5_inside_4 h q) (d := 0) (fun j => (nI (sumN (fun i => (rAbs h q 1 i).toNatClampNeg) (j + 1)), nI (j + 1))) (nI (sumN (fun i => (rAbs h q 1 i).toNatClampNeg) (nS (rAbs h q) + 1))) (nS (rAbs h q)) (by
    unfold B_X5_inside_4
    dsimp only
    rw [if_pos ((rS_lt w (by omega)).mpr (by omega))]) (fun j hj => by
    unfold B_X5_inside_4
    dsimp only
    have hl : sumN (fun i => (rAbs h q 1 i).toNatClampNeg) (j + 1) ≤ (j + 1) * 1 := sumN_le (fun i _ => b i)
    have hb := b (j + 1)
    rw [if_neg (fun e => absurd ((rS_lt w (by omega)).mp e) (by omega)), rl16 c.2.1, nI_c (by omega), ← r_in1 c (by omega), nI_s]
    show Sum.inl (_, _) = Sum.inl (nI (sumN (fun i => (rAbs h q 1 i).toNatClampNeg) (j + 1) + (rAbs h q 1 (j + 1)).toNatClampNeg), _)
    congr 2
    rcases w.2.1 (j + 1) with e | e
    · rw [e, i01.1, i_eq, i_iadd (by rw [nI_t (by omega), e0]; omega) (by rw [nI_t (by omega), e0]; omega), e0, nI_t (by omega), nI_t (by omega)]
      omega
    · rw [e, i01.2.1, i_eq, i_iadd (by rw [nI_t (by omega), e1]; omega) (by rw [nI_t (by omega), e1]; omega), e1, nI_t (by omega), nI_t (by omega)]
      omega)
  have st : (nI (sumN (fun i => (rAbs h q 1 i).toNatClampNeg) 1), nI 1) = ((0 : Int32), (1 : Int32)) := by
    show (nI (0 + (rAbs h q 1 0).toNatClampNeg), _) = _
    rw [z0]
    rfl
  have key : fx (B_X5_inside_4 h q) 0 (nI (sumN (fun i => (rAbs h q 1 i).toNatClampNeg) 1), nI 1) = _ := key
  rw [st] at key
  exact key
end
