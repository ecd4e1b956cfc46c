/-- what a go does to the things that stand -/
theorem drawS_c {S : ST} {x b : Int32} {c : Nat} (h0 : c ≠ 0) (h1 : c ≠ 1) (h5 : c ≠ 5) (h6 : c ≠ 6) : drawS S x b c = S c := by
  have : drawS S x b c = uS (uS S 1 x.toNatClampNeg 0) 0 4 (S 0 4 + 1) c := drw_c _ _ _ h5 h6 _
  rw [this, uS_c h0, uS_c h1]
theorem drawS_0 {S : ST} {x b : Int32} {j : Nat} (hj : j ≠ 4) : drawS S x b 0 j = S 0 j := by
  have : drawS S x b 0 = uS (uS S 1 x.toNatClampNeg 0) 0 4 (S 0 4 + 1) 0 := drw_c _ _ _ (by decide) (by decide) _
  rw [this, uS_ne (Or.inr hj), uS_ne (Or.inl (by decide))]
theorem drawS_04 {S : ST} {x b : Int32} : drawS S x b 0 4 = S 0 4 + 1 := by
  have : drawS S x b 0 = uS (uS S 1 x.toNatClampNeg 0) 0 4 (S 0 4 + 1) 0 := drw_c _ _ _ (by decide) (by decide) _
  rw [this]
  exact uS_eq
theorem drawS_1 {S : ST} {x b : Int32} (i : Nat) : drawS S x b 1 i = if i = x.toNatClampNeg then 0 else S 1 i := by
  have : drawS S x b 1 = uS (uS S 1 x.toNatClampNeg 0) 0 4 (S 0 4 + 1) 1 := drw_c _ _ _ (by decide) (by decide) _
  rw [this, uS_c (by decide)]
  by_cases e : i = x.toNatClampNeg
  · rw [if_pos e, e, uS_eq]
  · rw [if_neg e, uS_ne (Or.inr e)]
theorem drawS_6 {S : ST} {x b : Int32} (t : Nat) : drawS S x b 6 t = if t < nT S ∧ nb (winsN S x) t ≠ 0 then b else S 6 t := drw_6 _ _ _ t _
theorem drawS_nT {S : ST} {x b : Int32} : nT (drawS S x b) = nT S := congrArg Int32.toNatClampNeg (drawS_0 (by decide))
theorem stN_nb (S : ST) (t : Nat) : nb (stN S) t = if t < nT S ∧ S 6 t = -1 then 1 else 0 := by
  unfold stN ownN
  rw [nb_set]
  by_cases y : S 6 t = -1
  · by_cases z : t < nT S
    · rw [if_pos (⟨z, decide_eq_true y⟩ : t < nT S ∧ decide (S 6 t = -1) = true), if_pos (⟨z, y⟩ : t < nT S ∧ S 6 t = -1)]
    · rw [if_neg (show ¬ (t < nT S ∧ decide (S 6 t = -1) = true) from fun q => z q.1), if_neg (show ¬ (t < nT S ∧ S 6 t = -1) from fun q => z q.1)]
  · rw [if_neg (show ¬ (t < nT S ∧ decide (S 6 t = -1) = true) from fun q => y (of_decide_eq_true q.2)), if_neg (show ¬ (t < nT S ∧ S 6 t = -1) from fun q => y q.2)]
theorem won_nb {S : ST} {t m u : Nat} (h : nb (wonN S t m) u ≠ 0) : u = t ∨ (brN S m ≠ -1 ∧ u = (brN S m).toNatClampNeg) := by
  unfold wonN at h
  by_cases y : kd S t = 3 ∧ brN S m ≠ -1
  · rw [if_pos y, nb_orr, nb_pow, nb_pow] at h
    by_cases q : u = t
    · exact Or.inl q
    · by_cases q2 : u = (brN S m).toNatClampNeg
      · exact Or.inr ⟨y.2, q2⟩
      · rw [if_neg q, if_neg q2] at h
        exact absurd rfl h
  · rw [if_neg y, nb_pow] at h
    by_cases q : u = t
    · exact Or.inl q
    · rw [if_neg q] at h
      exact absurd rfl h
theorem wins_sub {S : ST} (w : WF S) (x : Int32) : subS (winsN S x) (stN S) := by
  have n8 := nT_8 w
  refine sub_of (fun u hu => ?_)
  by_cases z : nb (winsN S x) u = 0
  · rw [z]
    exact Nat.zero_le _
  · have wl := nb_lt (winsN S x) u
    have key : nb (stN S) u = 1 := by
      unfold winsN at z
      by_cases e : isT S (thOn S x) ∧ S 6 (thOn S x).toNatClampNeg = -1
      · rw [if_pos e] at z
        have ht := (isT_lt w e.1).1
        rcases won_nb z with q | ⟨q1, q2⟩
        · rw [q, stN_nb, if_pos ⟨ht, e.2⟩]
        · rcases brN_cases S (stN S) with y | ⟨v, v1, v2, v3, -, -⟩
          · exact absurd y q1
          · rw [q2, v2, nI_c (by omega)]
            exact v3
      · rw [if_neg e, nb_big (Nat.two_pow_pos u)] at z
        exact absurd rfl z
    omega
theorem st_draw {S : ST} (w : WF S) {x b : Int32} (hb : b ≠ -1) : stN (drawS S x b) = sDiff (stN S) (winsN S x) := by
  have n8 := nT_8 w
  refine nb_ext (by unfold stN ownN; rw [drawS_nT]; exact setN_256 n8) (sDiff_lt _ _) (fun t ht => ?_)
  rw [nb_diff _ _ t ht, stN_nb, stN_nb, drawS_nT, drawS_6]
  have wl := nb_lt (winsN S x) t
  by_cases z : t < nT S
  · by_cases y : nb (winsN S x) t = 0
    · rw [if_neg (show ¬ (t < nT S ∧ nb (winsN S x) t ≠ 0) from fun q => q.2 y), y]
      by_cases u : t < nT S ∧ S 6 t = -1
      · rw [if_pos u, if_pos (⟨rfl, rfl⟩ : (1 : Nat) = 1 ∧ (0 : Nat) = 0)]
      · rw [if_neg u, if_neg (show ¬ ((0 : Nat) = 1 ∧ (0 : Nat) = 0) from fun q => absurd q.1 (by decide))]
    · rw [if_pos (⟨z, y⟩ : t < nT S ∧ nb (winsN S x) t ≠ 0), if_neg (show ¬ (t < nT S ∧ b = -1) from fun q => hb q.2), if_neg (show ¬ ((if t < nT S ∧ S 6 t = -1 then 1 else 0) = 1 ∧ nb (winsN S x) t = 0) from fun q => y q.2)]
  · rw [if_neg (show ¬ (t < nT S ∧ (if t < nT S ∧ nb (winsN S x) t ≠ 0 then b else S 6 t) = -1) from fun q => z q.1), if_neg (show ¬ (t < nT S ∧ S 6 t = -1) from fun q => z q.1), if_neg (show ¬ ((0 : Nat) = 1 ∧ nb (winsN S x) t = 0) from fun q => absurd q.1 (by decide))]
theorem in_draw {S : ST} (w : WF S) {x b : Int32} (hx : isS S x) (hi : S 1 x.toNatClampNeg = 1) : inN (drawS S x b) + 1 = inN S := by
  have ic := isS_c hx
  have n60 := nS_60 w
  unfold inN
  have key : ∀ m, sumN (fun i => (drawS S x b 1 i).toNatClampNeg) m + (if x.toNatClampNeg < m then 1 else 0) = sumN (fun i => (S 1 i).toNatClampNeg) m := by
    intro m
    induction m with
    | zero =>
      rw [if_neg (Nat.not_lt_zero _)]
      rfl
    | succ m ih =>
      show sumN (fun i => (drawS S x b 1 i).toNatClampNeg) m + (drawS S x b 1 m).toNatClampNeg + _ = sumN (fun i => (S 1 i).toNatClampNeg) m + (S 1 m).toNatClampNeg
      rw [drawS_1]
      by_cases e : m = x.toNatClampNeg
      · rw [if_pos e, if_pos (show x.toNatClampNeg < m + 1 by omega)]
        rw [if_neg (show ¬ x.toNatClampNeg < m by omega)] at ih
        have h1 : (S 1 m).toNatClampNeg = 1 := by rw [e, hi]; decide
        have h0 : (0 : Int32).toNatClampNeg = 0 := by decide
        omega
      · rw [if_neg e]
        by_cases f : x.toNatClampNeg < m
        · rw [if_pos (show x.toNatClampNeg < m + 1 by omega)]
          rw [if_pos f] at ih
          omega
        · rw [if_neg (show ¬ x.toNatClampNeg < m + 1 by omega)]
          rw [if_neg f] at ih
          omega
  have := key 61
  rw [if_pos (by omega)] at this
  exact this
/-- a slip drawn below what can be, by a buyer -/
def nxt (S : ST) (b : Int32) : ST := drawS (sdS S) (slpS S) b
theorem nxt_nT {S : ST} {b : Int32} : nT (nxt S b) = nT S := drawS_nT
theorem isB_m1 {S : ST} {b : Int32} (hb : isB S b) : b ≠ -1 := fun y => by
  rw [y] at hb
  exact absurd hb.1 (by decide)
theorem nxt_WF {S : ST} (w : WF S) (hd : drN S ≠ 0) {b : Int32} (hb : isB S b) : WF (nxt S b) := WF_draw (S := sdS S) (WF_p6 w _) (slp_S w hd).1 hb
theorem isB_nxt {S : ST} {b c : Int32} (hb : isB S c) : isB (nxt S b) c := by
  have : nxt S b 0 8 = S 0 8 := drawS_0 (by decide)
  unfold isB
  rw [this]
  exact hb
section
variable {T T2 : List Nat} {h h2 h' h2' : zH} {N N' S : ST} {K : Option ST} {C Z : Nat → Int32} {E : Nat → Nat → Int64} {n : Nat} {B R : Nat → Int32}
theorem cm_c0 (m : CM T 1 h S h') (i : Nat) : hr h' 0 i = hr h 0 i := by
  obtain ⟨rd, jj, c, -, -, s⟩ := m
  exact hr_eq (s 0 i (by decide))
theorem cm_nxt (m : CM T 1 h S h') (w : WF S) (hd : drN S ≠ 0) {b : Int32} (hb : isB S b) : (F_X1_slipByDraw h' 1).1 = slpS S ∧ CM T 1 h (sdS S) (F_X1_slipByDraw h' 1).2 ∧ CM T 1 h (nxt S b) (F_X1_draw (F_X1_slipByDraw h' 1).2 1 (slpS S) b) := by
  obtain ⟨q1, q2⟩ := cm_slip m w hd
  exact ⟨q1, q2, cm_draw q2 (WF_p6 w _) (slp_S w hd).1⟩
theorem rm_nxt (m : RM T 49 h S h') (w : WF S) (hd : drN S ≠ 0) {b : Int32} (hb : isB S b) : (F_X5_drawn h' 49).1 = slpS S ∧ (F_X5_comesOut (F_X5_drawn h' 49).2 49 (slpS S) b).1 = nI (winsN (sdS S) (slpS S)) ∧ RM T 49 h (nxt S b) (F_X5_comesOut (F_X5_drawn h' 49).2 49 (slpS S) b).2 := by
  obtain ⟨q1, q2⟩ := rm_slip m w hd
  obtain ⟨q3, q4⟩ := rm_draw q2 (WF_p6 w _) (x := slpS S) (b := b) (slp_S w hd).1
  exact ⟨q1, q3, q4⟩
end
