/-- which comes out: of those that can, the one behind a others -/
def pk (S : ST) : Nat → Nat → Nat → Int32
  | 0, _, _ => 0
  | k + 1, i, a => if drawB S (nI i) then (if a = 0 then nI i else pk S k (i + 1) (a - 1)) else pk S k (i + 1) a
def dr (S : ST) : Nat → Nat → Nat
  | 0, _ => 0
  | k + 1, i => (if drawB S (nI i) then 1 else 0) + dr S k (i + 1)
theorem dr_sum (S : ST) : ∀ k i : Nat, sumZ (fun j => if drawB S (nI j) then 1 else 0) (i + k) = sumZ (fun j => if drawB S (nI j) then 1 else 0) i + (dr S k i : Int)
  | 0, i => by
    show _ = _ + ((0 : Nat) : Int)
    rw [Int.natCast_zero, Int.add_zero]
    rfl
  | k + 1, i => by
    have e : i + (k + 1) = (i + 1) + k := by omega
    rw [e, dr_sum S k (i + 1)]
    show sumZ _ i + (if drawB S (nI i) then 1 else 0) + _ = _ + (((if drawB S (nI i) then 1 else 0) + dr S k (i + 1) : Nat) : Int)
    by_cases f : drawB S (nI i) = true
    · rw [if_pos f, if_pos f]
      omega
    · rw [if_neg f, if_neg f]
      omega
theorem dr_all {S : ST} (h0 : drawB S (nI 0) = false) : drN S = (dr S (nS S) 1 : Int) := by
  unfold drN
  have := dr_sum S (nS S) 1
  rw [Nat.add_comm 1 (nS S)] at this
  rw [this]
  show 0 + (if drawB S (nI 0) then 1 else 0) + _ = _
  rw [h0]
  show (0 : Int) + 0 + _ = _
  omega
theorem pkS_in {S : ST} : ∀ k i a : Nat, a < dr S k i → ∃ j, i ≤ j ∧ j < i + k ∧ pk S k i a = nI j ∧ drawB S (nI j) = true
  | 0, i, a => fun h => absurd h (Nat.not_lt_zero _)
  | k + 1, i, a => fun h => by
    have h : a < (if drawB S (nI i) then 1 else 0) + dr S k (i + 1) := h
    have hp : pk S (k + 1) i a = if drawB S (nI i) then (if a = 0 then nI i else pk S k (i + 1) (a - 1)) else pk S k (i + 1) a := rfl
    rw [hp]
    by_cases f : drawB S (nI i) = true
    · rw [if_pos f] at h ⊢
      by_cases z : a = 0
      · rw [if_pos z]
        exact ⟨i, Nat.le_refl _, by omega, rfl, f⟩
      · rw [if_neg z]
        obtain ⟨j, j1, j2, j3, j4⟩ := pkS_in (S := S) k (i + 1) (a - 1) (by omega)
        exact ⟨j, by omega, by omega, j3, j4⟩
    · rw [if_neg f] at h ⊢
      obtain ⟨j, j1, j2, j3, j4⟩ := pkS_in (S := S) k (i + 1) a (by omega)
      exact ⟨j, by omega, by omega, j3, j4⟩
theorem nI_p {a : Nat} (h0 : a ≠ 0) (h : a ≤ 1000) : nI a + (-1 : Int32) = nI (a - 1) := by
  have h1 := nI_t (k := a) (by omega)
  have h2 := nI_t (k := a - 1) (by omega)
  have h3 : (-1 : Int32).toInt = -1 := rfl
  rw [i_eq, i_iadd (by omega) (by omega)]
  omega
section
variable {T : List Nat} {h h' : zH} {q : Nat} {S : ST}
theorem cS_lt (w : WF (cAbs h q)) {j : Nat} (hj : j ≤ 1000) : hv h q 0 < nI j ↔ nS (cAbs h q) < j := by
  rw [i_lt, nI_t (by omega)]
  have := nS_i w
  have e : (cAbs h q 0 0) = hv h q 0 := rfl
  rw [e] at this
  omega
theorem c_pick (c : CC T h q) : ∀ k i a : Nat, i + k = nS (cAbs h q) + 1 → a ≤ 100 → fx (B_X1_slipByDraw_11 h q) (0, []) (nI a, nI i) = (pk (cAbs h q) k i a, h)
  | 0, i, a => fun hi ha => by
    have w := c.2.2.1
    have n60 := nS_60 w
    refine fx_stop ?_
    unfold B_X1_slipByDraw_11
    rw [if_pos ((cS_lt w (by omega)).mpr (by omega))]
    rfl
  | k + 1, i, a => fun hi ha => by
    have w := c.2.2.1
    have n60 := nS_60 w
    have hp : pk (cAbs h q) (k + 1) i a = if drawB (cAbs h q) (nI i) then (if a = 0 then nI i else pk (cAbs h q) k (i + 1) (a - 1)) else pk (cAbs h q) k (i + 1) a := rfl
    have st : B_X1_slipByDraw_11 h q (nI a, nI i) = if drawB (cAbs h q) (nI i) then (if a = 0 then Sum.inr (nI i, h) else Sum.inl (nI (a - 1), nI (i + 1))) else Sum.inl (nI a, nI (i + 1)) := by
      unfold B_X1_slipByDraw_11
      simp only [letf]
      rw [if_neg (fun e => absurd ((cS_lt w (by omega)).mp e) (by omega)), c_canDraw c, nI_s]
      by_cases f : drawB (cAbs h q) (nI i) = true
      · rw [if_pos f, if_pos f, if_neg (by decide : ¬ (1 : Int32) = 0)]
        by_cases z : a = 0
        · have y : nI 0 = (0 : Int32) := rfl
          rw [if_pos z, z]
          exact if_pos y
        · rw [if_neg z, if_neg ?_, nI_p z (by omega)]
          rw [i_eq, nI_t (by omega), e0]
          omega
      · rw [if_neg f, if_neg f, if_pos rfl]
    rw [hp]
    by_cases f : drawB (cAbs h q) (nI i) = true
    · rw [if_pos f] at st ⊢
      by_cases z : a = 0
      · rw [if_pos z] at st ⊢
        exact fx_stop st
      · rw [if_neg z] at st ⊢
        rw [fx_step st]
        exact c_pick c k (i + 1) (a - 1) (by omega) (by omega)
    · rw [if_neg f] at st ⊢
      rw [fx_step st]
      exact c_pick c k (i + 1) a (by omega) ha
theorem r_pick (c : RC T h q) : ∀ k i a : Nat, i + k = nS (rAbs h q) + 1 → a < dr (rAbs h q) k i → a ≤ 100 → fx (B_X5_drawn_11 h q) (0, []) (nI a, nI i) = (pk (rAbs h q) k i a, h)
  | 0, i, a => fun _ ha _ => absurd ha (Nat.not_lt_zero _)
  | k + 1, i, a => fun hi hd ha => by
    have w := c.2.2.1
    have n60 := nS_60 w
    have hp : pk (rAbs h q) (k + 1) i a = if drawB (rAbs h q) (nI i) then (if a = 0 then nI i else pk (rAbs h q) k (i + 1) (a - 1)) else pk (rAbs h q) k (i + 1) a := rfl
    have hd : a < (if drawB (rAbs h q) (nI i) then 1 else 0) + dr (rAbs h q) k (i + 1) := hd
    have st : B_X5_drawn_11 h q (nI a, nI i) = if drawB (rAbs h q) (nI i) then (if a = 0 then Sum.inr (nI i, h) else Sum.inl (nI (a - 1), nI (i + 1))) else Sum.inl (nI a, nI (i + 1)) := by
      unfold B_X5_drawn_11
      simp only [letf]
      rw [r_canDraw c, nI_s]
      by_cases f : drawB (rAbs h q) (nI i) = true
      · rw [if_pos f, if_pos f, if_neg (by decide : ¬ (1 : Int32) = 0)]
        by_cases z : a = 0
        · rw [if_pos z, z, if_neg ?_]
          rw [i_lt]
          decide
        · rw [if_neg z, if_pos ?_, nI_p z (by omega)]
          rw [i_lt, nI_t (by omega), e0]
          omega
      · rw [if_neg f, if_neg f, if_pos rfl]
    rw [hp]
    by_cases f : drawB (rAbs h q) (nI i) = true
    · rw [if_pos f] at st hd ⊢
      by_cases z : a = 0
      · rw [if_pos z] at st ⊢
        exact fx_stop st
      · rw [if_neg z] at st ⊢
        rw [fx_step st]
        exact r_pick c k (i + 1) (a - 1) (by omega) (by omega) (by omega)
    · rw [if_neg f] at st hd ⊢
      rw [fx_step st]
      exact r_pick c k (i + 1) a (by omega) (by omega) ha
/-- the seed, and the number below n that it gives -/
def sdS (S : ST) : ST := uS S 0 6 (S 0 6 * 1103515245 + 12345)
def blw (S : ST) (n : Int32) : Int32 := jrem (((S 0 6 * 1103515245 + 12345).toUInt32 >>> ((16 : Int32).toUInt32 &&& Int32.toUInt32 31)).toInt32) n
theorem blw_b {S : ST} {n : Int32} (hn : 1 ≤ n.toInt) : 0 ≤ (blw S n).toInt ∧ (blw S n).toInt < n.toInt := by
  have := t_rem (x := ((S 0 6 * 1103515245 + 12345).toUInt32 >>> ((16 : Int32).toUInt32 &&& Int32.toUInt32 31)).toInt32) (y := n) (t_ushr16 _) hn
  unfold blw jrem
  omega
theorem cm_below (m : CM T q h S h') {n : Int32} (hn : 1 ≤ n.toInt) : (F_X1_drawBelow h' q n).1 = blw S n ∧ CM T q h (sdS S) (F_X1_drawBelow h' q n).2 := by
  unfold F_X1_drawBelow
  simp only [letf]
  rw [cm_n6 m]
  have h1 := cm_p6 m (S 0 6 * 1103515245 + 12345)
  rw [if_pos (by rw [i_lt, e0]; omega), cm_n6 h1]
  exact ⟨rfl, h1⟩
theorem rm_below (m : RM T q h S h') (n : Int32) : (F_X5_below h' q n).1 = blw S n ∧ RM T q h (sdS S) (F_X5_below h' q n).2 := by
  unfold F_X5_below
  simp only [letf]
  rw [rm_n6 m]
  have h1 := rm_p6 m (S 0 6 * 1103515245 + 12345)
  rw [rm_n6 h1]
  exact ⟨rfl, h1⟩
/-- the slip that comes out -/
def slpS (S : ST) : Int32 := pk S (nS S) 1 (blw S (iZ (drN S))).toNatClampNeg
/-- what can be drawn hangs on these alone -/
def eqD (S S' : ST) : Prop := (∀ c, 1 ≤ c → c ≤ 6 → S' c = S c) ∧ S' 0 0 = S 0 0 ∧ S' 0 4 = S 0 4 ∧ S' 0 7 = S 0 7
theorem thN_congr {S S' : ST} {x : Int32} (e : S' 3 = S 3) : ∀ n j, thN S' x n j = thN S x n j
  | 0, _ => rfl
  | n + 1, j => by
    show (if S' 3 j = x then nI j else thN S' x n (j + 1)) = (if S 3 j = x then nI j else thN S x n (j + 1))
    rw [e, thN_congr e n]
theorem nT_congr {S S' : ST} (e : S' 0 7 = S 0 7) : nT S' = nT S := congrArg Int32.toNatClampNeg e
theorem nS_congr {S S' : ST} (e : S' 0 0 = S 0 0) : nS S' = nS S := congrArg Int32.toNatClampNeg e
theorem thOn_congr {S S' : ST} {x : Int32} (e : eqD S S') : thOn S' x = thOn S x := by
  unfold thOn
  rw [nT_congr e.2.2.2, thN_congr (e.1 3 (by decide) (by decide))]
theorem inN_congr {S S' : ST} (e : eqD S S') : inN S' = inN S := by
  unfold inN
  rw [e.1 1 (by decide) (by decide)]
theorem freeB_congr {S S' : ST} (e : eqD S S') (g l : Int32) (t : Nat) : freeB S' g l t = freeB S g l t := by
  unfold freeB kd
  rw [e.1 2 (by decide) (by decide), e.1 4 (by decide) (by decide), e.2.1]
theorem drawB_congr {S S' : ST} (e : eqD S S') (x : Int32) : drawB S' x = drawB S x := by
  unfold drawB
  have i1 : isS S' x = isS S x := by
    unfold isS
    rw [e.2.1]
  have i2 : ∀ y, isT S' y = isT S y := fun y => by
    unfold isT
    rw [e.2.2.2]
  simp only [i1, i2, thOn_congr e, inN_congr e, freeB_congr e, e.1 1 (by decide) (by decide), e.1 6 (by decide) (by decide), e.2.2.1]
theorem drN_congr {S S' : ST} (e : eqD S S') : drN S' = drN S := by
  unfold drN
  rw [nS_congr e.2.1]
  exact sumZ_congr (fun i _ => by rw [drawB_congr e])
theorem pk_congr {S S' : ST} (e : eqD S S') : ∀ k i a : Nat, pk S' k i a = pk S k i a
  | 0, _, _ => rfl
  | k + 1, i, a => by
    show (if drawB S' (nI i) then (if a = 0 then nI i else pk S' k (i + 1) (a - 1)) else pk S' k (i + 1) a) = (if drawB S (nI i) then (if a = 0 then nI i else pk S k (i + 1) (a - 1)) else pk S k (i + 1) a)
    rw [pk_congr e k, pk_congr e k, drawB_congr e]
theorem dr_congr {S S' : ST} (e : eqD S S') : ∀ k i : Nat, dr S' k i = dr S k i
  | 0, _ => rfl
  | k + 1, i => by
    show (if drawB S' (nI i) then 1 else 0) + dr S' k (i + 1) = (if drawB S (nI i) then 1 else 0) + dr S k (i + 1)
    rw [dr_congr e k, drawB_congr e]
theorem eqD_sd (S : ST) : eqD S (sdS S) := ⟨fun c h1 h6 => uS_c (by omega), rfl, rfl, rfl⟩
theorem eqD_pay (S : ST) (b x : Int32) : eqD S (payS S b x) := ⟨fun c h1 h6 => (uS_c (by omega)).trans (uS_c (by omega)), rfl, rfl, rfl⟩
theorem slp_b {S : ST} (w : WF S) (hd : drN S ≠ 0) : (iZ (drN S)).toInt = drN S ∧ 1 ≤ (iZ (drN S)).toInt ∧ blw S (iZ (drN S)) = nI (blw S (iZ (drN S))).toNatClampNeg ∧ (blw S (iZ (drN S))).toNatClampNeg < dr S (nS S) 1 ∧ (blw S (iZ (drN S))).toNatClampNeg ≤ 100 := by
  have db := drN_b w
  have e : (iZ (drN S)).toInt = drN S := iZ_t (by omega) (by omega)
  have h1 : 1 ≤ (iZ (drN S)).toInt := by omega
  have b := blw_b (S := S) h1
  have c := clamp_i b.1
  have d := dr_all (S := S) draw_0
  exact ⟨e, h1, nI_back b.1, by omega, by omega⟩
theorem slp_S {S : ST} (w : WF S) (hd : drN S ≠ 0) : isS S (slpS S) ∧ drawB S (slpS S) = true := by
  have n60 := nS_60 w
  obtain ⟨-, -, -, h4, -⟩ := slp_b w hd
  obtain ⟨j, j1, j2, j3, j4⟩ := pkS_in (S := S) _ _ _ h4
  unfold slpS
  rw [j3]
  exact ⟨(isS_n w (by omega)).mpr ⟨j1, by omega⟩, j4⟩
theorem cm_slip (m : CM T q h S h') (w : WF S) (hd : drN S ≠ 0) : (F_X1_slipByDraw h' q).1 = slpS S ∧ CM T q h (sdS S) (F_X1_slipByDraw h' q).2 := by
  have n60 := nS_60 w
  have cc := (CM_CC m w).1
  have ca := (CM_CC m w).2.1
  obtain ⟨-, h2, h3, h4, h5⟩ := slp_b w hd
  unfold F_X1_slipByDraw
  simp only [letf]
  rw [c_many cc, ca]
  obtain ⟨e1, m1⟩ := cm_below m h2
  have w1 : WF (sdS S) := WF_p6 w _
  have cc1 := (CM_CC m1 w1).1
  have ca1 := (CM_CC m1 w1).2.1
  have key : fx (B_X1_slipByDraw_11 (F_X1_drawBelow h' q (iZ (drN S))).2 q) (0, []) (nI (blw S (iZ (drN S))).toNatClampNeg, (1 : Int32)) = _ := c_pick cc1 (nS S) 1 (blw S (iZ (drN S))).toNatClampNeg (by rw [ca1]; show _ = nS S + 1; omega) h5
  rw [e1, h3, key, ca1, pk_congr (eqD_sd S)]
  exact ⟨rfl, m1⟩
theorem rm_slip (m : RM T q h S h') (w : WF S) (hd : drN S ≠ 0) : (F_X5_drawn h' q).1 = slpS S ∧ RM T q h (sdS S) (F_X5_drawn h' q).2 := by
  have n60 := nS_60 w
  have cc := (RM_RC m w).1
  have ca := (RM_RC m w).2.1
  obtain ⟨-, h2, h3, h4, h5⟩ := slp_b w hd
  unfold F_X5_drawn
  simp only [letf]
  rw [r_many cc, ca]
  obtain ⟨e1, m1⟩ := rm_below m (iZ (drN S))
  have w1 : WF (sdS S) := WF_p6 w _
  have cc1 := (RM_RC m1 w1).1
  have ca1 := (RM_RC m1 w1).2.1
  have key : fx (B_X5_drawn_11 (F_X5_below h' q (iZ (drN S))).2 q) (0, []) (nI (blw S (iZ (drN S))).toNatClampNeg, (1 : Int32)) = _ := r_pick cc1 (nS S) 1 (blw S (iZ (drN S))).toNatClampNeg (by rw [ca1]; show _ = nS S + 1; omega) (by rw [ca1, dr_congr (eqD_sd S)]; exact h4) h5
  rw [e1, h3, key, ca1, pk_congr (eqD_sd S)]
  exact ⟨rfl, m1⟩
end
