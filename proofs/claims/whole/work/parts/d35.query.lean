section
variable {T T2 : List Nat} {h h2 h' h2' : zH} {N N' S : ST} {K : Option ST} {C Z : Nat → Int32} {E : Nat → Nat → Int64} {n : Nat} {B R : Nat → Int32}
theorem h_lkAll (H : HY T T2 h h2 N K C Z E n B R) {a : Int32} (b : isB N a) {m : Nat} (hm : m < 256) : F_X1_likingOfAll h 1 a (nI m) = iZ (lkN N a.toNatClampNeg m) ∧ F_X5_liked h2 49 a (nI m) = iZ (lkN N a.toNatClampNeg m) := by
  have bc := isB_c b
  have l1 := c_lkAll (hcc H) (b := a.toNatClampNeg) (m := m) (by rw [hca H]; exact bc.1) hm
  have l2 := r_lkAll (hrc H) (b := a.toNatClampNeg) (m := m) (by rw [hra H]; exact bc.1) hm
  rw [← bc.2, hca H] at l1
  rw [← bc.2, hra H] at l2
  exact ⟨l1, l2⟩
theorem h_own (H : HY T T2 h h2 N K C Z E n B R) (a : Int32) : F_X1_thingsOwnedBy h 1 a = nI (ownN N a) ∧ F_X5_owned h2 49 a = nI (ownN N a) := by
  have l1 := c_own (hcc H) a
  have l2 := r_own (hrc H) a
  rw [hca H] at l1
  rw [hra H] at l2
  exact ⟨l1, l2⟩
theorem h_std (H : HY T T2 h h2 N K C Z E n B R) : F_X1_standing h 1 = nI (stN N) ∧ F_X5_standing h2 49 = nI (stN N) := by
  have l1 := c_std (hcc H)
  have l2 := r_std (hrc H)
  rw [hca H] at l1
  rw [hra H] at l2
  exact ⟨l1, l2⟩
theorem h_in (H : HY T T2 h h2 N K C Z E n B R) : F_X1_countIn h 1 = nI (inN N) ∧ F_X5_inside h2 49 = nI (inN N) := by
  have l1 := c_countIn (hcc H)
  have l2 := r_inside (hrc H)
  rw [hca H] at l1
  rw [hra H] at l2
  exact ⟨l1, l2⟩
theorem h_can (H : HY T T2 h h2 N K C Z E n B R) (a : Int32) : F_X1_canBeDrawn h 1 a = (if drawB N a then 1 else 0) ∧ F_X5_canDraw h2 49 a = if drawB N a then 1 else 0 := by
  have l1 := c_canDraw (hcc H) a
  have l2 := r_canDraw (hrc H) a
  rw [hca H] at l1
  rw [hra H] at l2
  exact ⟨l1, l2⟩
theorem h_thOn (H : HY T T2 h h2 N K C Z E n B R) (a : Int32) : F_X1_thingOn h 1 a = thOn N a ∧ F_X5_thingOn h2 49 a = thOn N a := by
  have l1 := c_thOn (hcc H) a
  have l2 := r_thOn (hrc H) a
  rw [hca H] at l1
  rw [hra H] at l2
  exact ⟨l1, l2⟩
theorem h_many (H : HY T T2 h h2 N K C Z E n B R) : F_X1_countDrawable h 1 = iZ (drN N) ∧ F_X5_drawableMany h2 49 = iZ (drN N) := by
  have l1 := c_many (hcc H)
  have l2 := r_many (hrc H)
  rw [hca H] at l1
  rw [hra H] at l2
  exact ⟨l1, l2⟩
theorem h_won (H : HY T T2 h h2 N K C Z E n B R) (a : Int32) : F_X1_wonBySlip h 1 a = nI (winsN N a) ∧ F_X5_winsBy h2 49 a = nI (winsN N a) := by
  have l1 := c_won (hcc H) a
  have l2 := r_wins (hrc H) a
  rw [hca H] at l1
  rw [hra H] at l2
  exact ⟨l1, l2⟩
theorem h_lk (H : HY T T2 h h2 N K C Z E n B R) {a t : Int32} (b : isB N a) (u : isT N t) : F_X1_liking h 1 a t = iZ (lkS N a.toNatClampNeg t.toNatClampNeg) ∧ hv h2 (hr h2 (hr h2 49 25) a.toNatClampNeg) t.toNatClampNeg = iZ (lkS N a.toNatClampNeg t.toNatClampNeg) := by
  have bc := isB_c b
  have tc := isT_lt (hw H) u
  have l1 := c_lk (hcc H) (b := a.toNatClampNeg) (t := t.toNatClampNeg) (by rw [hca H]; exact bc.1) (by rw [hca H]; exact tc.1)
  have l2 := r_lk (hrc H) (b := a.toNatClampNeg) (t := t.toNatClampNeg) (by rw [hra H]; exact bc.1) (by rw [hra H]; exact tc.1)
  rw [← bc.2, ← tc.2, hca H] at l1
  rw [hra H] at l2
  exact ⟨l1, l2⟩
theorem letf_id {α : Type} (v : α) : letf v (fun y => y) = v := rfl
theorem m_drawable (H : HY T T2 h h2 N K C Z E n B R) : F_X4_drawable h 0 = F_X5_drawable h2 49 := by
  have e : F_X4_drawable h 0 = F_X1_countDrawable h (hr h 0 0) := by
    unfold F_X4_drawable
    exact letf_id _
  have e2 : F_X5_drawable h2 49 = F_X5_drawableMany h2 49 := by
    unfold F_X5_drawable
    exact letf_id _
  rw [e, e2, hc0 H, (h_many H).1, (h_many H).2]
theorem m_worth (H : HY T T2 h h2 N K C Z E n B R) (a : Int32) : PR h h2 (F_X4_worth h 0 a) (F_X5_worth h2 49 a) := by
  unfold F_X4_worth F_X5_worth
  simp only [letf]
  rw [hc0 H, hcB H, hrB H]
  by_cases b : isB N a
  · rw [if_pos b, if_neg t10, if_neg t10]
    have bc := isB_c b
    have l1 := c_worth (hcc H) (b := a.toNatClampNeg) (by rw [hca H]; exact bc.1)
    have l2 := r_worth (hrc H) (b := a.toNatClampNeg) (by rw [hra H]; exact bc.1)
    rw [← bc.2, hca H] at l1
    rw [← bc.2, hra H] at l2
    rw [l1, l2]
    exact pr_same H _
  · rw [if_neg b, if_pos rfl, if_pos rfl]
    exact pr0 H
theorem m_wins (H : HY T T2 h h2 N K C Z E n B R) (a : Int32) : PR h h2 (F_X4_wins h 0 a) (F_X5_wins h2 49 a) := by
  unfold F_X4_wins F_X5_wins
  simp only [letf]
  rw [hc0 H, hcS H, hrS H]
  by_cases b : isS N a
  · rw [if_pos b, if_neg t10, if_neg t10, (h_can H a).1, (h_can H a).2]
    by_cases d : drawB N a = true
    · rw [if_pos d, if_neg t10, if_neg t10, (h_won H a).1, (h_won H a).2]
      exact pr_same H _
    · rw [if_neg d, if_pos rfl, if_pos rfl]
      exact pr3 H
  · rw [if_neg b, if_pos rfl, if_pos rfl]
    exact pr0 H
theorem m_takings (H : HY T T2 h h2 N K C Z E n B R) (a : Int32) : PR h h2 (F_X4_takings h 0 a) (F_X5_takings h2 49 a) := by
  unfold F_X4_takings F_X5_takings
  simp only [letf]
  rw [pair_in (a := a) (lo := 1) (hi := 99) (by decide) (by decide), hc0 H]
  by_cases w : F_X4_isWithin a 1 99 = 0
  · rw [if_pos w, if_pos w]
    exact pr0 H
  · rw [if_neg w, if_neg w]
    have w' := win w
    have w' : 1 ≤ a.toInt ∧ a.toInt ≤ 99 := w'
    have l1 := c_take (hcc H) (v := a) w'.1
    have l2 := r_take (hrc H) (v := a)
    rw [hca H] at l1
    rw [hra H] at l2
    rw [l1, l2]
    exact pr_same H _
theorem m_full (H : HY T T2 h h2 N K C Z E n B R) : F_X4_full h 0 = F_X5_full h2 49 := by
  have wf := hw H
  have q1 := c_quart (h := h) (q := 1) (by rw [hca H]; exact wf) (nI (inN N))
  have q2 := r_quart (h := h2) (q := 49) (nI (inN N))
  rw [hca H] at q1
  rw [hra H] at q2
  unfold F_X4_full F_X5_full
  simp only [letf]
  rw [hc0 H, (h_in H).1, (h_in H).2, q1, q2]
theorem m_buyerOf (H : HY T T2 h h2 N K C Z E n B R) (a w : Int32) : PR h h2 (F_X4_buyerOf h 0 a w) (F_X5_buyerOf h2 49 a w) := by
  have wf := hw H
  unfold F_X4_buyerOf F_X5_buyerOf
  simp only [letf]
  rw [hc0 H, hcB H, hrB H]
  by_cases b : isB N a
  · rw [if_pos b, if_neg t10, if_neg t10, (h_own H a).1, (h_own H a).2, (h_std H).1, (h_std H).2, (h_lkAll H b (own_lt wf a)).1, (h_lkAll H b (own_lt wf a)).2, (h_lkAll H b (show stN N < 256 from own_lt wf (-1))).1, (h_lkAll H b (show stN N < 256 from own_lt wf (-1))).2, cm_a7 (hcm H) (isB_c b).1, rm_a7 (hrm H) (isB_c b).1]
    by_cases w0 : w = 0
    · rw [if_pos w0, if_pos w0]
      exact pr_same H _
    · rw [if_neg w0, if_neg w0]
      by_cases w1 : w = 1
      · rw [if_pos w1, if_pos w1]
        exact pr_same H _
      · rw [if_neg w1, if_neg w1]
        by_cases w2 : w = 2
        · rw [if_pos w2, if_pos w2]
          exact pr_same H _
        · rw [if_neg w2, if_neg w2]
          by_cases w3 : w = 3
          · rw [if_pos w3, if_pos w3]
            exact pr_same H _
          · rw [if_neg w3, if_neg w3]
            exact pr0 H
  · rw [if_neg b, if_pos rfl, if_pos rfl]
    exact pr0 H
theorem h_isIn (H : HY T T2 h h2 N K C Z E n B R) {a : Int32} (b : isS N a) : F_X1_isIn h 1 a = N 1 a.toNatClampNeg ∧ (1 : Int32) - hv h2 (hr h2 49 16) a.toNatClampNeg = N 1 a.toNatClampNeg := by
  have l1 := c_isIn (hcc H) (x := a) (by rw [hca H]; exact b)
  rw [hca H] at l1
  have ic := isS_c b
  have l2 := r_in1 (hrc H) (i := a.toNatClampNeg) (by rw [hra H]; exact ⟨ic.1, ic.2.1⟩)
  rw [hra H] at l2
  refine ⟨l1, ?_⟩
  rw [l2, rl16 (hrc H).2.1]
theorem h_win (H : HY T T2 h h2 N K C Z E n B R) (a : Int32) : F_X1_isWinner h 1 a = if jrem a (N 0 1) = 0 then 1 else 0 := by
  have wf := hw H
  have r := wf.1.2.1
  unfold F_X1_isWinner
  rw [cm_n1 (hcm H), if_neg (fun y => by rw [y, e0] at r; omega)]
theorem F_asNum {x : Int32} (hx : x = 0 ∨ x = 1) : F_X4_asNumber x = x := by
  unfold F_X4_asNumber
  rcases hx with y | y
  · rw [y]
    rfl
  · rw [y, if_neg t10]
theorem m_slipOf (H : HY T T2 h h2 N K C Z E n B R) (a w : Int32) : PR h h2 (F_X4_slipOf h 0 a w) (F_X5_slipOf h2 49 a w) := by
  have wf := hw H
  unfold F_X4_slipOf F_X5_slipOf
  simp only [letf]
  rw [hc0 H, hcS H, hrS H]
  by_cases b : isS N a
  · rw [if_pos b, if_neg t10, if_neg t10, (h_isIn H b).1, (h_isIn H b).2, h_win H, rm_n1 (hrm H), (h_can H a).1, (h_can H a).2, (h_thOn H a).1, (h_thOn H a).2, F_asNum (wf.2.1 _)]
    by_cases w0 : w = 0
    · rw [if_pos w0, if_pos w0]
      exact pr_same H _
    · rw [if_neg w0, if_neg w0]
      by_cases w1 : w = 1
      · rw [if_pos w1, if_pos w1]
        by_cases j : jrem a (N 0 1) = 0
        · rw [if_pos j, if_pos j, F_asNum (Or.inr rfl)]
          exact pr_same H _
        · rw [if_neg j, if_neg j, F_asNum (Or.inl rfl)]
          exact pr_same H _
      · rw [if_neg w1, if_neg w1]
        by_cases w2 : w = 2
        · rw [if_pos w2, if_pos w2]
          by_cases d : drawB N a = true
          · rw [if_pos d, if_neg t10, F_asNum (Or.inr rfl)]
            exact pr_same H _
          · rw [if_neg d, if_pos rfl, F_asNum (Or.inl rfl)]
            exact pr_same H _
        · rw [if_neg w2, if_neg w2]
          by_cases w3 : w = 3
          · rw [if_pos w3, if_pos w3]
            exact pr_same H _
          · rw [if_neg w3, if_neg w3]
            exact pr0 H
  · rw [if_neg b, if_pos rfl, if_pos rfl]
    exact pr0 H
theorem m_thingOf (H : HY T T2 h h2 N K C Z E n B R) (a w : Int32) : PR h h2 (F_X4_thingOf h 0 a w) (F_X5_thingOf h2 49 a w) := by
  have wf := hw H
  unfold F_X4_thingOf F_X5_thingOf
  simp only [letf]
  rw [hc0 H, hcT H, hrT H, hcB H, hrB H]
  by_cases u : isT N a
  · have tc := (isT_lt wf u).1
    rw [if_pos u, if_neg t10, if_neg t10, cm_a2 (hcm H) tc, rm_a2 (hrm H) tc, cm_a3 (hcm H) tc, rm_a3 (hrm H) tc, cm_a4 (hcm H) tc, rm_a4 (hrm H) tc, cm_a5 (hcm H) tc, rm_a5 (hrm H) tc, cm_a6 (hcm H) tc, rm_a6 (hrm H) tc]
    have e10 : (10 : Int32).toInt = 10 := rfl
    have back : ∀ k : Int32, 0 ≤ k.toInt → k.toInt < 100 → (k + 10).toInt = k.toInt + 10 := fun k k0 k1 => by
      rw [i_iadd (by rw [e10]; omega) (by rw [e10]; omega), e10]
    by_cases lo : w < 10
    · have nb : ¬ isB N (w - 10) := fun y => by
        have b4 := isB_4 wf y
        have := back (w - 10) b4.1 (by omega)
        rw [Int32.sub_add_cancel] at this
        rw [i_lt, e10] at lo
        omega
      rw [if_neg nb, if_pos rfl, if_pos lo]
      by_cases w0 : w = 0
      · rw [if_pos w0, if_pos w0]
        exact pr_same H _
      · rw [if_neg w0, if_neg w0]
        by_cases w1 : w = 1
        · rw [if_pos w1, if_pos w1]
          exact pr_same H _
        · rw [if_neg w1, if_neg w1]
          by_cases w2 : w = 2
          · rw [if_pos w2, if_pos w2]
            exact pr_same H _
          · rw [if_neg w2, if_neg w2]
            by_cases w3 : w = 3
            · rw [if_pos w3, if_pos w3]
              exact pr_same H _
            · rw [if_neg w3, if_neg w3]
              by_cases w4 : w = 4
              · rw [if_pos w4, if_pos w4]
                exact pr_same H _
              · rw [if_neg w4, if_neg w4]
                exact pr0 H
    · have ne : ∀ k : Nat, k < 10 → w ≠ nI k := fun k hk y => lo (by rw [y, i_lt, e10, nI_t (by omega)]; omega)
      have n0 : ¬ w = 0 := ne 0 (by decide)
      have n1 : ¬ w = 1 := ne 1 (by decide)
      have n2 : ¬ w = 2 := ne 2 (by decide)
      have n3 : ¬ w = 3 := ne 3 (by decide)
      have n4 : ¬ w = 4 := ne 4 (by decide)
      rw [if_neg n0, if_neg n1, if_neg n2, if_neg n3, if_neg n4, if_neg n0, if_neg n1, if_neg n2, if_neg n3, if_neg n4, if_neg lo]
      by_cases b : isB N (w - 10)
      · rw [if_pos b, if_neg t10, if_neg t10, (h_lk H b u).1, (h_lk H b u).2]
        exact pr_same H _
      · rw [if_neg b, if_pos rfl, if_pos rfl]
        exact pr0 H
  · rw [if_neg u, if_pos rfl, if_pos rfl]
    exact pr0 H
end
