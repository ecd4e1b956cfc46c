/-- how many goes the first n buyers buy at a price -/
def bgt (S : ST) (v : Int32) : Nat → Int32
  | 0 => 0
  | n + 1 => if wth S n < 1000 * v then bgt S v n else bgt S v n + jmin (S 7 n / v) (nI (inN S) - bgt S v n)
def tkg (S : ST) (v : Int32) : Int32 := bgt S v (nB S) * v
section
variable {T : List Nat} {h : zH} {q : Nat}
theorem c_purse {b : Nat} (hb : b < nB (cAbs h q)) : hv h (q + 6) b = cAbs h q 7 b := by
  have hb : b < (hv h q 14).toNatClampNeg := hb
  exact (if_pos hb).symm
theorem r_purse {b : Nat} (hb : b < nB (rAbs h q)) : hv h (q + 23) b = rAbs h q 7 b := by
  have hb : b < (hv h q 23).toNatClampNeg := hb
  exact (if_pos hb).symm
theorem c_take (c : CC T h q) {v : Int32} (hv0 : 1 ≤ v.toInt) : F_X1_takingsAt h q v = tkg (cAbs h q) v := by
  have w := c.2.2.1
  have n4 := nB_4 w
  unfold F_X1_takingsAt tkg
  simp only [letf]
  have hp : (0 : Int32) < v := by
    rw [i_lt, e0]
    omega
  rw [if_pos hp, c_countIn c]
  refine fx_for (fun j => (bgt (cAbs h q) v j, nI j)) _ (nB (cAbs h q)) ?_ (fun j hj => ?_)
  · unfold B_X1_takingsAt_16
    simp only [letf]
    rw [if_neg (fun e => absurd ((cB_lt w (by omega)).mp e) (Nat.lt_irrefl _))]
  · unfold B_X1_takingsAt_16
    simp only [letf]
    rw [if_pos ((cB_lt w (by omega)).mpr hj), c_worth c hj, cl15 c.2.1, nI_c (by omega), c_purse hj, nI_s]
    show _ = Sum.inl ((if wth (cAbs h q) j < 1000 * v then bgt (cAbs h q) v j else bgt (cAbs h q) v j + jmin (cAbs h q 7 j / v) (nI (inN (cAbs h q)) - bgt (cAbs h q) v j)), nI (j + 1))
    by_cases e : wth (cAbs h q) j < 1000 * v
    · rw [if_pos e, if_pos e]
    · rw [if_neg e, if_neg e]
theorem jmin_alt (x y : Int32) : jmin x y = if x < y then x else y := by
  unfold jmin
  by_cases h1 : y < x
  · rw [if_pos h1, if_neg (by rw [i_lt] at h1 ⊢; omega)]
  · by_cases h2 : x < y
    · rw [if_neg h1, if_pos h2]
    · rw [if_neg h1, if_neg h2, i_eq]
      rw [i_lt] at h1 h2
      omega
theorem r_take (c : RC T h q) {v : Int32} : F_X5_takingsAt h q v = tkg (rAbs h q) v := by
  have w := c.2.2.1
  have n4 := nB_4 w
  unfold F_X5_takingsAt tkg
  simp only [letf]
  rw [r_inside c]
  have key := fx_for (F := B_X5_takingsAt_10 h q v) (d := 0) (fun j => (nI (inN (rAbs h q)) - bgt (rAbs h q) v j, bgt (rAbs h q) v j * v, nI j)) (bgt (rAbs h q) v (nB (rAbs h q)) * v) (nB (rAbs h q)) (by
    unfold B_X5_takingsAt_10
    simp only [letf]
    rw [if_neg (fun e => absurd ((rB_lt w (by omega)).mp e) (Nat.lt_irrefl _))]) (fun j hj => by
    unfold B_X5_takingsAt_10
    simp only [letf]
    rw [if_pos ((rB_lt w (by omega)).mpr hj), r_worth c hj, rl24 c.2.1, nI_c (by omega), r_purse hj, nI_s]
    have hb : bgt (rAbs h q) v (j + 1) = if wth (rAbs h q) j < 1000 * v then bgt (rAbs h q) v j else bgt (rAbs h q) v j + jmin (rAbs h q 7 j / v) (nI (inN (rAbs h q)) - bgt (rAbs h q) v j) := rfl
    rw [hb]
    by_cases e : wth (rAbs h q) j < 1000 * v
    · rw [if_pos e, if_pos e]
    · have key : ∀ x : Int32, nI (inN (rAbs h q)) - bgt (rAbs h q) v j - x = nI (inN (rAbs h q)) - (bgt (rAbs h q) v j + x) := fun x => Int32.sub_sub _ _ x
      rw [if_neg e, if_neg e, jmin_alt, Int32.add_mul]
      by_cases e2 : rAbs h q 7 j / v < nI (inN (rAbs h q)) - bgt (rAbs h q) v j
      · rw [if_pos e2, if_pos e2, key]
      · rw [if_neg e2, if_neg e2, key])
  have st : (nI (inN (rAbs h q)) - bgt (rAbs h q) v 0, bgt (rAbs h q) v 0 * v, nI 0) = (nI (inN (rAbs h q)), (0 : Int32), (0 : Int32)) := by
    show (nI (inN (rAbs h q)) - 0, 0 * v, nI 0) = _
    rw [Int32.sub_zero, Int32.zero_mul]
    rfl
  have key : fx (B_X5_takingsAt_10 h q v) 0 (nI (inN (rAbs h q)) - bgt (rAbs h q) v 0, bgt (rAbs h q) v 0 * v, nI 0) = _ := key
  rw [st] at key
  exact key
theorem c_quart (w : WF (cAbs h q)) (n : Int32) : F_X1_quartersOf h q n = (4 * n + cAbs h q 0 0 - 1) / cAbs h q 0 0 := by
  unfold F_X1_quartersOf
  have h1 := (WF_sl w).1
  have h1 : 1 ≤ (hv h q 0).toInt := h1
  rw [if_pos (by rw [i_lt, e0]; omega)]
  rfl
theorem r_quart (n : Int32) : F_X5_fullWith h q n = (4 * n + rAbs h q 0 0 - 1) / rAbs h q 0 0 := rfl
end
