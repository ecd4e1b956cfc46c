theorem iZ_sub (a b : Int) : iZ (a - b) = iZ a - iZ b := Int32.ofInt_sub a b
theorem rdN_lt {S : ST} (w : WF S) (g l : Int32) : rdN S g l < 256 := setN_256 (nT_8 w)
theorem nff : ¬ (false = true) := by decide
theorem iZ_0 : iZ 0 = 0 := rfl
theorem iZ_1 : iZ 1 = 1 := rfl
theorem drN_b {S : ST} (w : WF S) : 0 ≤ drN S ∧ drN S ≤ 61 := by
  have n60 := (nS_60 w).1
  unfold drN
  have := sumZ_le (f := fun i => if drawB S (nI i) then (1 : Int) else 0) (a := 0) (b := 1) (m := nS S + 1) (fun i _ => by
    show 0 ≤ (if drawB S (nI i) = true then (1 : Int) else 0) ∧ (if drawB S (nI i) = true then (1 : Int) else 0) ≤ 1
    by_cases e : drawB S (nI i) = true
    · rw [if_pos e]
      decide
    · rw [if_neg e]
      decide)
  rw [Int.mul_zero, Int.mul_one] at this
  refine ⟨this.1, Int.le_trans this.2 (by omega)⟩
theorem draw_0 {S : ST} : drawB S (nI 0) = false := by
  unfold drawB
  rw [decide_eq_false (fun y : isS S (nI 0) => absurd y.1 (by decide))]
  rfl
/-- what is liked of all that can be won at once -/
def wsum (S : ST) (b : Nat) : Int := sumZ (fun i => if drawB S (nI i) then lkN S b (winsN S (nI i)) else 0) (nS S + 1)
def wth (S : ST) (b : Nat) : Int32 := if drN S = 0 then 0 else (1000 * iZ (wsum S b)) / iZ (drN S)
theorem lkN_0 (S : ST) (b : Nat) : lkN S b 0 = 0 := by
  unfold lkN
  rw [sumZ_congr (g := fun _ => 0) (fun t _ => by rw [if_pos (show nb 0 t = 0 by unfold nb; rw [Nat.zero_div])]), sumZ_0]
theorem thOn_of {S : ST} (w : WF S) {t : Nat} (ht : t < nT S) : thOn S (nI (sl S t)) = nI t := by
  have b := sl_b w ht
  have n60 := (nS_60 w).1
  rcases thOn_sl w (i := sl S t) (by omega) with ⟨-, h2⟩ | ⟨u, h1, h2, h3⟩
  · exact absurd rfl (h2 t ht)
  · rw [h2]
    by_cases e : u = t
    · rw [e]
    · exfalso
      by_cases l : u < t
      · exact sl_inj w ht l h3
      · exact sl_inj w h1 (show t < u by omega) h3.symm
theorem wins_of {S : ST} (w : WF S) {t : Nat} (ht : t < nT S) (es : S 6 t = -1) : winsN S (nI (sl S t)) = wonN S t (stN S) := by
  have n8 := nT_8 w
  unfold winsN
  rw [thOn_of w ht, nI_c (by omega), if_pos ⟨isT_n w ht, es⟩]
theorem draw_of {S : ST} (w : WF S) {t : Nat} (ht : t < nT S) (es : S 6 t = -1) : drawB S (nI (sl S t)) = fr S t := by
  have n8 := nT_8 w
  have n60 := (nS_60 w).1
  have b := sl_b w ht
  have hin := (w.2.2.1 t ht).2.2.2.2.1 es
  have hin : S 1 (sl S t) = 1 := hin
  unfold drawB
  rw [thOn_of w ht, nI_c (by omega), nI_c (by omega), hin, decide_eq_true ((isS_n w (i := sl S t) (by omega)).mpr ⟨b.1, b.2.1⟩), decide_eq_true (rfl : (1 : Int32) = 1), decide_eq_true (⟨isT_n w ht, es⟩ : isT S (nI t) ∧ S 6 t = -1)]
  rfl
theorem wsum_eq {S : ST} (w : WF S) (b : Nat) : wsum S b = sumZ (fun t => if S 6 t = -1 ∧ fr S t = true then lkN S b (wonN S t (stN S)) else 0) (nT S) := by
  have n8 := nT_8 w
  have n60 := (nS_60 w).1
  rw [← by_slips w]
  unfold wsum
  refine sumZ_congr (fun i hi => ?_)
  rcases at_slip w (fun t => if S 6 t = -1 ∧ fr S t = true then lkN S b (wonN S t (stN S)) else 0) (i := i) (by omega) with ⟨e2, e⟩ | ⟨t, ht, e2, e1, e⟩
  · rw [e]
    have : winsN S (nI i) = 0 := by
      unfold winsN
      rw [e2, if_neg (fun y => notT_m1 _ y.1)]
    rw [this, lkN_0]
    split <;> rfl
  · rw [e]
    by_cases es : S 6 t = -1
    · have h1 := wins_of w ht es
      have h2 := draw_of w ht es
      rw [e1] at h1 h2
      rw [h1, h2]
      cases ef : fr S t
      · rw [if_neg (by decide), if_neg (fun y => by cases y.2)]
      · rw [if_pos rfl, if_pos ⟨es, rfl⟩]
    · have : winsN S (nI i) = 0 := by
        unfold winsN
        rw [e2, nI_c (by omega), if_neg (fun y => es y.2)]
      have hn : ¬ (S 6 t = -1 ∧ fr S t = true) := fun y => es y.1
      rw [this, lkN_0, if_neg hn]
      split <;> rfl
section
variable {T : List Nat} {h : zH} {q : Nat}
theorem cAbs_hi (h : zH) (q : Nat) : ∀ i, nS (cAbs h q) < i → cAbs h q 1 i = 0 := fun i hi => by
  have hi : (hv h q 0).toNatClampNeg < i := hi
  show (if 1 ≤ i ∧ i ≤ (hv h q 0).toNatClampNeg then nI (nb (jN (hJ h q 7)) i) else 0) = 0
  rw [if_neg (fun e => by omega)]
theorem rAbs_hi (h : zH) (q : Nat) : ∀ i, nS (rAbs h q) < i → rAbs h q 1 i = 0 := fun i hi => by
  have hi : (hv h q 9).toNatClampNeg < i := hi
  show (if 1 ≤ i ∧ i ≤ (hv h q 9).toNatClampNeg then 1 - hv h (q + 17) i else 0) = 0
  rw [if_neg (fun e => by omega)]
theorem c_many (c : CC T h q) : F_X1_countDrawable h q = iZ (drN (cAbs h q)) := by
  have w := c.2.2.1
  unfold F_X1_countDrawable
  simp only [letf]
  rw [c_countIn c, c_std c, c_ready c]
  show nI (inN (cAbs h q)) - F_J6_bitCount_0f7a4 (nI (stN (cAbs h q)) &&& (nI (rdN (cAbs h q) (cAbs h q 0 4) (nI (inN (cAbs h q)))) ^^^ -1)) = _
  rw [s_andnot (m := stN (cAbs h q)) (own_lt w _) (rdN_lt w _ _), F_J6_eq _ (sDiff_lt _ _), drN_eq w (cAbs_10 h q) (cAbs_hi h q), iZ_sub]
  rfl
theorem r_many (c : RC T h q) : F_X5_drawableMany h q = iZ (drN (rAbs h q)) := by
  have w := c.2.2.1
  have n60 := nS_60 w
  unfold F_X5_drawableMany
  have key := fx_for (F := B_X5_drawableMany_4 h q) (d := 0) (fun j => (iZ (sumZ (fun i => if drawB (rAbs h q) (nI i) then 1 else 0) (j + 1)), nI (j + 1))) (iZ (drN (rAbs h q))) (nS (rAbs h q)) (by
    unfold B_X5_drawableMany_4
    simp only [letf]
    rw [if_pos ((rS_lt w (by omega)).mpr (by omega))]
    rfl) (fun j hj => by
    unfold B_X5_drawableMany_4
    simp only [letf]
    rw [if_neg (fun e => absurd ((rS_lt w (by omega)).mp e) (by omega)), r_canDraw c, nI_s]
    show _ = Sum.inl (iZ (sumZ (fun i => if drawB (rAbs h q) (nI i) then 1 else 0) (j + 1) + (if drawB (rAbs h q) (nI (j + 1)) then 1 else 0)), nI (j + 1 + 1))
    cases drawB (rAbs h q) (nI (j + 1))
    · rw [if_neg nff, if_neg nff, if_pos rfl, Int32.add_zero, Int.add_zero]
    · have h10 : ¬ (1 : Int32) = 0 := by decide
      rw [if_pos rfl, if_pos rfl, if_neg h10, iZ_add]
      rfl)
  have st : (iZ (sumZ (fun i => if drawB (rAbs h q) (nI i) then 1 else 0) 1), nI 1) = ((0 : Int32), (1 : Int32)) := by
    show (iZ (0 + (if drawB (rAbs h q) (nI 0) = true then 1 else 0)), _) = _
    rw [draw_0]
    rfl
  have key : fx (B_X5_drawableMany_4 h q) 0 (iZ (sumZ (fun i => if drawB (rAbs h q) (nI i) then 1 else 0) 1), nI 1) = _ := key
  rw [st] at key
  exact key
theorem c_worth (c : CC T h q) {b : Nat} (hb : b < nB (cAbs h q)) : F_X1_worthOfGo h q (nI b) = wth (cAbs h q) b := by
  have w := c.2.2.1
  have n8 := nT_8 w
  have db := drN_b w
  unfold F_X1_worthOfGo wth
  simp only [letf]
  rw [c_many c]
  by_cases e : drN (cAbs h q) = 0
  · rw [e, if_pos rfl, if_neg (by decide)]
  · have hp : (0 : Int32) < iZ (drN (cAbs h q)) := by
      rw [i_lt, e0, iZ_t (by omega) (by omega)]
      omega
    rw [if_neg e, if_pos hp, c_std c, c_countIn c, c_ready c]
    show fx (B_X1_worthOfGo_35 h q (nI b) (iZ (drN (cAbs h q))) (nI (stN (cAbs h q)) &&& nI (rdN (cAbs h q) (cAbs h q 0 4) (nI (inN (cAbs h q)))))) 0 (0, 0) = _
    rw [s_and (m := stN (cAbs h q)) (own_lt w _) (rdN_lt w _ _), wsum_eq w]
    refine fx_for (fun j => (iZ (sumZ (fun t => if cAbs h q 6 t = -1 ∧ fr (cAbs h q) t = true then lkN (cAbs h q) b (wonN (cAbs h q) t (stN (cAbs h q))) else 0) j), nI j)) _ (nT (cAbs h q)) ?_ (fun j hj => ?_)
    · unfold B_X1_worthOfGo_35
      simp only [letf]
      rw [if_neg (fun e => absurd ((cT_lt w (by omega)).mp e) (Nat.lt_irrefl _))]
    · unfold B_X1_worthOfGo_35
      simp only [letf]
      have lst : stN (cAbs h q) &&& rdN (cAbs h q) (cAbs h q 0 4) (nI (inN (cAbs h q))) < 256 := Nat.lt_of_le_of_lt Nat.and_le_left (own_lt w _)
      have st := s_test _ lst j (by omega)
      have hb2 : nb (stN (cAbs h q) &&& rdN (cAbs h q) (cAbs h q 0 4) (nI (inN (cAbs h q)))) j = if cAbs h q 6 j = -1 ∧ fr (cAbs h q) j = true then 1 else 0 := by
        rw [nb_and]
        unfold stN ownN rdN
        rw [nb_set, nb_set]
        have ef' : freeB (cAbs h q) (cAbs h q 0 4) (nI (inN (cAbs h q))) j = fr (cAbs h q) j := rfl
        rw [ef']
        by_cases b1 : cAbs h q 6 j = -1 <;> cases ef : fr (cAbs h q) j <;> simp [hj, b1]
      rw [if_pos ((cT_lt w (by omega)).mpr hj), nI_s]
      show _ = Sum.inl (iZ (sumZ _ j + (if cAbs h q 6 j = -1 ∧ fr (cAbs h q) j = true then lkN (cAbs h q) b (wonN (cAbs h q) j (stN (cAbs h q))) else 0)), _)
      by_cases e2 : cAbs h q 6 j = -1 ∧ fr (cAbs h q) j = true
      · rw [if_pos e2] at hb2
        rw [if_neg (fun y => by rw [st.mp y] at hb2; cases hb2), if_pos e2, cl10 c.2.1, nI_c (by omega), c_row (k := 3) hj (by omega), (sl_b w hj).2.2, c_won c, wins_of w hj e2.1, c_lkAll c hb (wonN_lt w hj), iZ_add]
      · rw [if_neg e2] at hb2
        rw [if_pos (st.mpr hb2), if_neg e2, Int.add_zero]
theorem r_worth (c : RC T h q) {b : Nat} (hb : b < nB (rAbs h q)) : F_X5_worthTo h q (nI b) = wth (rAbs h q) b := by
  have w := c.2.2.1
  have n8 := nT_8 w
  have n60 := nS_60 w
  have db := drN_b w
  unfold F_X5_worthTo
  have key := fx_for (F := B_X5_worthTo_7 h q (nI b)) (d := 0) (fun j => (iZ (sumZ (fun i => if drawB (rAbs h q) (nI i) then 1 else 0) (j + 1)), iZ (sumZ (fun i => if drawB (rAbs h q) (nI i) then lkN (rAbs h q) b (winsN (rAbs h q) (nI i)) else 0) (j + 1)), nI (j + 1))) (wth (rAbs h q) b) (nS (rAbs h q)) (by
    unfold B_X5_worthTo_7 wth
    simp only [letf]
    rw [if_pos ((rS_lt w (by omega)).mpr (by omega))]
    show (if iZ (drN (rAbs h q)) = 0 then _ else Sum.inr (iZ (wsum (rAbs h q) b) * 1000 / iZ (drN (rAbs h q)))) = _
    by_cases e : drN (rAbs h q) = 0
    · rw [e, if_pos rfl, if_pos iZ_0]
    · have hp : ¬ iZ (drN (rAbs h q)) = 0 := by
        rw [i_eq, e0, iZ_t (by omega) (by omega)]
        exact e
      rw [if_neg hp, if_neg e, Int32.mul_comm]) (fun j hj => by
    unfold B_X5_worthTo_7
    simp only [letf]
    have hw : winsN (rAbs h q) (nI (j + 1)) < 256 := by
      unfold winsN
      split
      · next y => exact wonN_lt w (isT_lt w y.1).1
      · decide
    rw [if_neg (fun e => absurd ((rS_lt w (by omega)).mp e) (by omega)), r_canDraw c, r_wins c, r_lkAll c hb hw, nI_s]
    show _ = Sum.inl (iZ (sumZ _ (j + 1) + (if drawB (rAbs h q) (nI (j + 1)) then 1 else 0)), iZ (sumZ _ (j + 1) + (if drawB (rAbs h q) (nI (j + 1)) then lkN (rAbs h q) b (winsN (rAbs h q) (nI (j + 1))) else 0)), nI (j + 1 + 1))
    cases drawB (rAbs h q) (nI (j + 1))
    · rw [if_neg nff, if_pos rfl, if_neg nff, if_neg nff, Int.add_zero, Int.add_zero]
    · have h10 : ¬ (1 : Int32) = 0 := by decide
      rw [if_pos rfl, if_neg h10, if_pos rfl, if_pos rfl, iZ_add, iZ_add]
      rfl)
  have st : (iZ (sumZ (fun i => if drawB (rAbs h q) (nI i) then 1 else 0) 1), iZ (sumZ (fun i => if drawB (rAbs h q) (nI i) then lkN (rAbs h q) b (winsN (rAbs h q) (nI i)) else 0) 1), nI 1) = ((0 : Int32), (0 : Int32), (1 : Int32)) := by
    show (iZ (0 + (if drawB (rAbs h q) (nI 0) = true then 1 else 0)), iZ (0 + (if drawB (rAbs h q) (nI 0) = true then _ else 0)), _) = _
    rw [draw_0]
    rfl
  have key : fx (B_X5_worthTo_7 h q (nI b)) 0 (iZ (sumZ (fun i => if drawB (rAbs h q) (nI i) then 1 else 0) 1), iZ (sumZ (fun i => if drawB (rAbs h q) (nI i) then lkN (rAbs h q) b (winsN (rAbs h q) (nI i)) else 0) 1), nI 1) = _ := key
  rw [st] at key
  exact key
end
