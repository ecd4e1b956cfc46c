/-- what both answer to a call: the same, and alike behind it -/
def PR (h h2 : zH) (rc rr : Int32 × zH) : Prop := ∃ (a : Int32) (N : ST) (K : Option ST) (C Z : Nat → Int32) (E : Nat → Nat → Int64) (n : Nat) (B R : Nat → Int32), cO h N K C Z E n B R a rc ∧ rO h2 N K C Z E n B R a rr ∧ okSh N K C
def HY (T T2 : List Nat) (h h2 : zH) (N : ST) (K : Option ST) (C Z : Nat → Int32) (E : Nat → Nat → Int64) (n : Nat) (B R : Nat → Int32) : Prop := CE T h ∧ CX h N K C Z E n B R ∧ RE T2 h2 ∧ RX h2 N K C Z E n B R ∧ okSh N K C
theorem pair_in {a lo hi : Int32} {lo64 hi64 : Int64} (h1 : lo64.toInt = lo.toInt) (h2 : hi64.toInt = hi.toInt) : F_X5_in (Int32.toInt64 a) lo64 hi64 = F_X4_isWithin a lo hi := by
  rw [F_in_eq, F_isWithin_eq, i2l, h1, h2]
theorem win {a lo hi : Int32} (w : ¬ F_X4_isWithin a lo hi = 0) : lo.toInt ≤ a.toInt ∧ a.toInt ≤ hi.toInt := by
  rw [F_isWithin_eq] at w
  by_cases y : lo.toInt ≤ a.toInt ∧ a.toInt ≤ hi.toInt
  · exact y
  · rw [if_neg y] at w
    exact absurd rfl w
theorem t10 : ¬ (1 : Int32) = 0 := by decide
section
variable {T T2 : List Nat} {h h2 h' h2' : zH} {N N' S : ST} {K : Option ST} {C Z : Nat → Int32} {E : Nat → Nat → Int64} {n : Nat} {B R : Nat → Int32}
theorem pr0 (H : HY T T2 h h2 N K C Z E n B R) : PR h h2 (F_X4_refuse h 0 (-2 : Int32)) (F_X5_refuse h2 49 (-2 : Int32)) := ⟨_, _, _, _, _, _, _, _, _, c_rf0 H.1 H.2.1, r_rf0 H.2.2.1 H.2.2.2.1, H.2.2.2.2⟩
theorem pr1 (H : HY T T2 h h2 N K C Z E n B R) : PR h h2 (F_X4_refuse h 0 (-3 : Int32)) (F_X5_refuse h2 49 (-3 : Int32)) := ⟨_, _, _, _, _, _, _, _, _, c_rf1 H.1 H.2.1, r_rf1 H.2.2.1 H.2.2.2.1, H.2.2.2.2⟩
theorem pr2 (H : HY T T2 h h2 N K C Z E n B R) : PR h h2 (F_X4_refuse h 0 (-4 : Int32)) (F_X5_refuse h2 49 (-4 : Int32)) := ⟨_, _, _, _, _, _, _, _, _, c_rf2 H.1 H.2.1, r_rf2 H.2.2.1 H.2.2.2.1, H.2.2.2.2⟩
theorem pr3 (H : HY T T2 h h2 N K C Z E n B R) : PR h h2 (F_X4_refuse h 0 (-5 : Int32)) (F_X5_refuse h2 49 (-5 : Int32)) := ⟨_, _, _, _, _, _, _, _, _, c_rf3 H.1 H.2.1, r_rf3 H.2.2.1 H.2.2.2.1, H.2.2.2.2⟩
theorem pr4 (H : HY T T2 h h2 N K C Z E n B R) : PR h h2 (F_X4_refuse h 0 (-6 : Int32)) (F_X5_refuse h2 49 (-6 : Int32)) := ⟨_, _, _, _, _, _, _, _, _, c_rf4 H.1 H.2.1, r_rf4 H.2.2.1 H.2.2.2.1, H.2.2.2.2⟩
theorem pr_same (H : HY T T2 h h2 N K C Z E n B R) (a : Int32) : PR h h2 (a, h) (a, h2) := ⟨a, N, K, C, Z, E, n, B, R, ⟨rfl, H.2.1, fr49_r⟩, ⟨rfl, H.2.2.2.1, fr0_r⟩, H.2.2.2.2⟩
theorem pr_now (H : HY T T2 h h2 N K C Z E n B R) (a : Int32) (m : CM T 1 h N' h') (m2 : RM T2 49 h2 N' h2') (w : WF N') (t : nT N ≤ nT N') (o : ownS N') : PR h h2 (a, h') (a, h2') := by
  obtain ⟨q1, q2⟩ := cx_now H.2.1 m w
  obtain ⟨q3, q4⟩ := rx_now H.2.2.2.1 m2 w
  exact ⟨a, N', K, C, Z, E, n, B, R, ⟨rfl, q1, q2⟩, ⟨rfl, q3, q4⟩, ⟨fun s hs u hu u8 => Nat.lt_of_lt_of_le (H.2.2.2.2.1 s hs u hu u8) t, o, H.2.2.2.2.2.2⟩⟩
theorem hO (H : HY T T2 h h2 N K C Z E n B R) : ownS N := H.2.2.2.2.2.1
theorem hc0 (H : HY T T2 h h2 N K C Z E n B R) : hr h 0 0 = 1 := H.2.1.1.1
theorem hcm (H : HY T T2 h h2 N K C Z E n B R) : CM T 1 h N h := cx_cm H.1 H.2.1
theorem hrm (H : HY T T2 h h2 N K C Z E n B R) : RM T2 49 h2 N h2 := rx_rm H.2.2.1 H.2.2.2.1
theorem hw (H : HY T T2 h h2 N K C Z E n B R) : WF N := H.2.1.2.1.2.2.1
theorem hcc (H : HY T T2 h h2 N K C Z E n B R) : CC T h 1 := (cx_cc H.1 H.2.1).1
theorem hca (H : HY T T2 h h2 N K C Z E n B R) : cAbs h 1 = N := (cx_cc H.1 H.2.1).2
theorem hrc (H : HY T T2 h h2 N K C Z E n B R) : RC T2 h2 49 := (rx_rc H.2.2.1 H.2.2.2.1).1
theorem hra (H : HY T T2 h h2 N K C Z E n B R) : rAbs h2 49 = N := (rx_rc H.2.2.1 H.2.2.2.1).2
theorem hcB (H : HY T T2 h h2 N K C Z E n B R) (a : Int32) : F_X1_isBuyer h 1 a = if isB N a then 1 else 0 := by
  have e := hca H
  rcases c_isB (h := h) (q := 1) a with ⟨y, z⟩ | ⟨y, z⟩
  · rw [e] at z
    rw [y, if_neg z]
  · rw [e] at z
    rw [y, if_pos z]
theorem hcT (H : HY T T2 h h2 N K C Z E n B R) (a : Int32) : F_X1_isThing h 1 a = if isT N a then 1 else 0 := by
  have e := hca H
  rcases c_isT (h := h) (q := 1) a with ⟨y, z⟩ | ⟨y, z⟩
  · rw [e] at z
    rw [y, if_neg z]
  · rw [e] at z
    rw [y, if_pos z]
theorem hcS (H : HY T T2 h h2 N K C Z E n B R) (a : Int32) : F_X1_isSlip h 1 a = if isS N a then 1 else 0 := by
  have e := hca H
  rcases c_isS (h := h) (q := 1) a with ⟨y, z⟩ | ⟨y, z⟩
  · rw [e] at z
    rw [y, if_neg z]
  · rw [e] at z
    rw [y, if_pos z]
theorem hrB (H : HY T T2 h h2 N K C Z E n B R) (a : Int32) : F_X5_isBuyer h2 49 a = if isB N a then 1 else 0 := by
  have := r_isB (hrc H) a
  rw [hra H] at this
  exact this
theorem hrT (H : HY T T2 h h2 N K C Z E n B R) (a : Int32) : F_X5_isThing h2 49 a = if isT N a then 1 else 0 := by
  have := r_isT (hrc H) a
  rw [hra H] at this
  exact this
theorem hrS (H : HY T T2 h h2 N K C Z E n B R) (a : Int32) : F_X5_in (Int32.toInt64 a) (1 : Int64) (Int32.toInt64 (hv h2 49 9)) = if isS N a then 1 else 0 := by
  have := r_inS (h := h2) (q := 49) a
  rw [hra H] at this
  exact this
theorem m_slips (H : HY T T2 h h2 N K C Z E n B R) (a : Int32) : PR h h2 (F_X4_slips h 0 a) (F_X5_slips h2 49 a) := by
  have wf := hw H
  unfold F_X4_slips F_X5_slips
  simp only [letf]
  rw [pair_in (a := a) (lo := 1) (hi := 60) (by decide) (by decide), hc0 H, cm_n7 (hcm H), rm_n7 (hrm H), cm_n0 (hcm H), rm_n0 (hrm H)]
  by_cases w : F_X4_isWithin a 1 60 = 0
  · rw [if_pos w, if_pos w]
    exact pr0 H
  · rw [if_neg w, if_neg w]
    by_cases t : (0 : Int32) < N 0 7
    · rw [if_pos t, if_pos t]
      exact pr3 H
    · rw [if_neg t, if_neg t]
      have w' := win w
      have w' : 1 ≤ a.toInt ∧ a.toInt ≤ 60 := w'
      have t0 : nT N = 0 := by
        have := nT_i wf
        rw [i_lt, e0] at t
        omega
      exact pr_now H _ (cm_slips (hcm H) w') (rm_slips (hrm H) w') (WF_slS wf w' (Or.inl t0)) (by rw [t0]; exact Nat.zero_le _) (own_same (hO H) (fun _ => rfl) rfl rfl)
theorem m_rule (H : HY T T2 h h2 N K C Z E n B R) (a : Int32) : PR h h2 (F_X4_rule h 0 a) (F_X5_rule h2 49 a) := by
  have wf := hw H
  unfold F_X4_rule F_X5_rule
  simp only [letf]
  rw [pair_in (a := a) (lo := 2) (hi := 10) (by decide) (by decide), hc0 H, cm_n7 (hcm H), rm_n7 (hrm H), cm_n1 (hcm H), rm_n1 (hrm H)]
  by_cases w : F_X4_isWithin a 2 10 = 0
  · rw [if_pos w, if_pos w]
    exact pr0 H
  · rw [if_neg w, if_neg w]
    by_cases t : (0 : Int32) < N 0 7
    · rw [if_pos t, if_pos t]
      exact pr3 H
    · rw [if_neg t, if_neg t]
      have w' := win w
      have w' : 2 ≤ a.toInt ∧ a.toInt ≤ 10 := w'
      exact pr_now H _ (cm_p1 (hcm H) a) (rm_p1 (hrm H) a) (WF_p1 wf w') (Nat.le_refl _) (own_same (hO H) (fun _ => rfl) rfl rfl)
theorem m_seed (H : HY T T2 h h2 N K C Z E n B R) (a : Int32) : PR h h2 (F_X4_seed h 0 a) (F_X5_seed h2 49 a) := by
  unfold F_X4_seed F_X5_seed
  simp only [letf]
  rw [hc0 H, cm_n6 (hcm H), rm_n6 (hrm H)]
  exact pr_now H _ (cm_p6 (hcm H) a) (rm_p6 (hrm H) a) (WF_p6 (hw H) a) (Nat.le_refl _) (own_same (hO H) (fun _ => rfl) rfl rfl)
theorem uS_self (S : ST) (c i : Nat) : uS S c i (S c i) = S := by
  funext c' i'
  by_cases y : c' = c ∧ i' = i
  · rw [y.1, y.2, uS_eq]
  · exact if_neg y
theorem m_price (H : HY T T2 h h2 N K C Z E n B R) (a v : Int32) : PR h h2 (F_X4_price h 0 a v) (F_X5_price h2 49 a v) := by
  have wf := hw H
  have m0 := rm_p2 (hrm H) v
  have m1 := rm_p3 m0 ((uS N 0 2 v) 0 3)
  rw [uS_self] at m1
  have m2 := rm_p2 (hrm H) (N 0 2)
  have m3 := rm_p3 m2 v
  rw [uS_self] at m2 m3
  unfold F_X4_price F_X5_price J_X5_price_j26 J_X5_price_j32 J_X5_price_j54 J_X5_price_j68 J_X5_price_j84
  simp only [letf]
  rw [pair_in (a := a) (lo := 0) (hi := 1) (by decide) (by decide), pair_in (a := v) (lo := 1) (hi := 99) (by decide) (by decide), pair_in (a := v) (lo := 1) (hi := 495) (by decide) (by decide), hc0 H, cm_n2 (hcm H), rm_n2 (hrm H), cm_n3 (hcm H), rm_n3 (hrm H)]
  by_cases a0 : a = 0
  · subst a0
    rw [if_pos (rfl : (0 : Int32) = 0), if_neg (show ¬ F_X4_isWithin (0 : Int32) (0 : Int32) (1 : Int32) = 0 by rw [F_isWithin_eq]; decide), if_pos (rfl : (0 : Int32) = 0), if_neg (show ¬ (0 : Int32) = 1 by decide)]
    by_cases w : F_X4_isWithin v 1 99 = 0
    · rw [if_pos w, if_pos w]
      exact pr0 H
    · rw [if_neg w, if_neg w]
      have w' := win w
      have w' : 1 ≤ v.toInt ∧ v.toInt ≤ 99 := w'
      simp only [if_true]
      rw [rm_n3 m0]
      exact pr_now H _ (cm_p2 (hcm H) v) m1 (WF_p2 wf w') (Nat.le_refl _) (own_same (hO H) (fun _ => rfl) rfl rfl)
  · rw [if_neg a0]
    by_cases a1 : a = 1
    · subst a1
      rw [if_pos (rfl : (1 : Int32) = 1), if_neg (show ¬ F_X4_isWithin (1 : Int32) (0 : Int32) (1 : Int32) = 0 by rw [F_isWithin_eq]; decide), if_neg t10]
      by_cases w : F_X4_isWithin v 1 495 = 0
      · rw [if_pos w, if_pos w]
        exact pr0 H
      · rw [if_neg w, if_neg w]
        have w' := win w
        have w' : 1 ≤ v.toInt ∧ v.toInt ≤ 495 := w'
        rw [if_neg t10, if_neg t10, if_neg t10]
        exact pr_now H _ (cm_p3 (hcm H) v) m3 (WF_p3 wf w') (Nat.le_refl _) (own_same (hO H) (fun _ => rfl) rfl rfl)
    · rw [if_neg a1]
      have w : F_X4_isWithin a 0 1 = 0 := by
        rw [F_isWithin_eq, if_neg]
        intro y
        have y1 : 0 ≤ a.toInt ∧ a.toInt ≤ 1 := y
        have : a.toInt = 0 ∨ a.toInt = 1 := by omega
        rcases this with z | z
        · exact a0 (i_eq.mpr z)
        · exact a1 (i_eq.mpr z)
      rw [if_pos w]
      exact pr0 H
theorem m_purse (H : HY T T2 h h2 N K C Z E n B R) (a v : Int32) : PR h h2 (F_X4_purse h 0 a v) (F_X5_purse h2 49 a v) := by
  have wf := hw H
  unfold F_X4_purse F_X5_purse
  simp only [letf]
  rw [pair_in (a := v) (lo := 0) (hi := 9999) (by decide) (by decide), hc0 H, hcB H, hrB H]
  by_cases b : isB N a
  · rw [if_pos b, if_neg t10, if_neg t10]
    by_cases w : F_X4_isWithin v 0 9999 = 0
    · rw [if_pos w, if_pos w]
      exact pr0 H
    · rw [if_neg w, if_neg w]
      have w' := win w
      have w' : 0 ≤ v.toInt ∧ v.toInt ≤ 9999 := w'
      have bc := (isB_c b).1
      have b4 := nB_4 wf
      rw [cm_a7 (hcm H) bc, rm_a7 (hrm H) bc]
      exact pr_now H _ (cm_w7 (hcm H) v (by omega) bc) (rm_w7 (hrm H) v (by omega) bc) (WF_w7 wf _ w') (Nat.le_refl _) (own_same (hO H) (fun _ => rfl) rfl rfl)
  · rw [if_neg b, if_pos rfl, if_pos rfl]
    exact pr0 H
theorem m_buyer (H : HY T T2 h h2 N K C Z E n B R) (v : Int32) : PR h h2 (F_X4_buyer h 0 v) (F_X5_buyer h2 49 v) := by
  have wf := hw H
  have bu := WF_bu wf
  have nb := nB_i wf
  have e4 : (4 : Int32).toInt = 4 := rfl
  unfold F_X4_buyer F_X5_buyer
  simp only [letf]
  rw [pair_in (a := v) (lo := 0) (hi := 9999) (by decide) (by decide), hc0 H, cm_n8 (hcm H), rm_n8 (hrm H)]
  by_cases w : F_X4_isWithin v 0 9999 = 0
  · rw [if_pos w, if_pos w]
    exact pr0 H
  · rw [if_neg w, if_neg w]
    have w' := win w
    have w' : 0 ≤ v.toInt ∧ v.toInt ≤ 9999 := w'
    by_cases f : N 0 8 < 4
    · have f4 : nB N < 4 := by
        rw [i_lt, e4] at f
        omega
      rw [if_pos f, if_neg (fun y => by rw [y] at f; exact absurd f (by decide))]
      obtain ⟨q1, q2⟩ := cm_addB (hcm H) wf f4 v
      have q3 := rm_addB (hrm H) wf f4 v
      have q4 : hv (F_X5_addBuyer h2 49 v) 49 23 - (1 : Int32) = N 0 8 := by
        rw [rm_n8 q3]
        show N 0 8 + 1 - 1 = N 0 8
        exact Int32.add_sub_cancel _ _
      rw [q1, q4]
      exact pr_now H _ q2 q3 (WF_addB wf f4 w') (Nat.le_refl _) (own_adB (hO H) wf f4 v)
    · have f4 : N 0 8 = 4 := by
        rw [i_eq, e4]
        rw [i_lt, e4] at f
        omega
      rw [if_neg f, if_pos f4]
      exact pr4 H
theorem m_likes (H : HY T T2 h h2 N K C Z E n B R) (a t v : Int32) : PR h h2 (F_X4_likes h 0 a t v) (F_X5_likes h2 49 a t v) := by
  have wf := hw H
  unfold F_X4_likes F_X5_likes
  simp only [letf]
  rw [pair_in (a := v) (lo := 0) (hi := 999) (by decide) (by decide), hc0 H, hcB H, hrB H, hcT H, hrT H]
  by_cases b : isB N a
  · rw [if_pos b, if_neg t10, if_neg t10]
    by_cases u : isT N t
    · rw [if_pos u, if_neg t10, if_neg t10]
      by_cases w : F_X4_isWithin v 0 999 = 0
      · rw [if_pos w, if_pos w]
        exact pr0 H
      · rw [if_neg w, if_neg w]
        have w' := win w
        have w' : 0 ≤ v.toInt ∧ v.toInt ≤ 999 := w'
        have bc := isB_c b
        have tc := isT_lt wf u
        have l1 := c_lk (hcc H) (b := a.toNatClampNeg) (t := t.toNatClampNeg) (by rw [hca H]; exact bc.1) (by rw [hca H]; exact tc.1)
        have l2 := r_lk (hrc H) (b := a.toNatClampNeg) (t := t.toNatClampNeg) (by rw [hra H]; exact bc.1) (by rw [hra H]; exact tc.1)
        rw [← bc.2, ← tc.2, hca H] at l1
        rw [hra H] at l2
        rw [l1, l2]
        exact pr_now H _ (cm_lk (hcm H) wf b u v) (rm_lk (hrm H) wf b u v) (WF_w8 wf _ w') (Nat.le_refl _) (own_same (hO H) (fun _ => rfl) rfl rfl)
    · rw [if_neg u, if_pos rfl, if_pos rfl]
      exact pr0 H
  · rw [if_neg b, if_pos rfl, if_pos rfl]
    exact pr0 H
end
