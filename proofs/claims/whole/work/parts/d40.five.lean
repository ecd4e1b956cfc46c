theorem sDiff_or {A B W : Nat} (hW : W < 256) (h1 : subS B A) (h2 : subS W B) : sDiff A (sDiff B W) = sDiff A B ||| W := by
  refine nb_ext (sDiff_lt _ _) (or_8 (sDiff_lt _ _) hW) (fun t ht => ?_)
  have a1 := sub_nb h1 ht
  have a2 := sub_nb h2 ht
  have b1 := nb_lt A t
  have b2 := nb_lt B t
  have b3 := nb_lt W t
  rw [nb_diff _ _ t ht, nb_diff _ _ t ht, nb_orr, nb_diff _ _ t ht]
  by_cases x : nb A t = 1
  · by_cases y : nb B t = 1
    · by_cases z : nb W t = 1
      · simp [x, y, z]
      · have z0 : nb W t = 0 := by omega
        simp [x, y, z0]
    · have y0 : nb B t = 0 := by omega
      have z0 : nb W t = 0 := by omega
      simp [x, y0, z0]
  · have x0 : nb A t = 0 := by omega
    have y0 : nb B t = 0 := by omega
    have z0 : nb W t = 0 := by omega
    simp [x0, y0, z0]
theorem stN_sd (S : ST) : stN (sdS S) = stN S := rfl
theorem stN_pay (S : ST) (b x : Int32) : stN (payS S b x) = stN S := rfl
theorem nxt_st {S : ST} (w : WF S) {b : Int32} (hb : isB S b) : stN (nxt S b) = sDiff (stN S) (winsN (sdS S) (slpS S)) ∧ subS (winsN (sdS S) (slpS S)) (stN S) ∧ winsN (sdS S) (slpS S) < 256 := by
  have w1 : WF (sdS S) := WF_p6 w _
  have h1 := st_draw w1 (x := slpS S) (b := b) (isB_m1 hb)
  have h2 := wins_sub w1 (slpS S)
  rw [stN_sd] at h1 h2
  exact ⟨h1, h2, winsN_lt w1 _⟩
theorem sDiff_self (A : Nat) : sDiff A A = 0 := sub_rf A
section
variable {T T2 : List Nat} {h h2 h' h2' : zH} {N N' S : ST} {K : Option ST} {C Z : Nat → Int32} {E : Nat → Nat → Int64} {n : Nat} {B R : Nat → Int32}
theorem cm_many (m : CM T 1 h S h') (w : WF S) : F_X1_countDrawable h' 1 = iZ (drN S) := by
  obtain ⟨c, a, -⟩ := CM_CC m w
  have := c_many c
  rw [a] at this
  exact this
theorem rm_many (m : RM T 49 h S h') (w : WF S) : F_X5_drawableMany h' 49 = iZ (drN S) := by
  obtain ⟨c, a, -⟩ := RM_RC m w
  have := r_many c
  rw [a] at this
  exact this
theorem cm_std (m : CM T 1 h S h') (w : WF S) : F_X1_standing h' 1 = nI (stN S) := by
  obtain ⟨c, a, -⟩ := CM_CC m w
  have := c_std c
  rw [a] at this
  exact this
theorem m_five (H : HY T T2 h h2 N K C Z E n B R) (a : Int32) : PR h h2 (F_X4_five h 0 a) (F_X5_five h2 49 a) := by
  have wf := hw H
  have db := drN_b wf
  have dz : iZ (drN N) = 0 ↔ drN N = 0 := by
    rw [i_eq, iZ_t (by omega) (by omega), e0]
  unfold F_X4_five F_X5_five
  simp only [letf]
  rw [hc0 H, hcB H, hrB H, cm_n3 (hcm H), rm_n3 (hrm H), (h_many H).1, (h_many H).2, (h_std H).1]
  by_cases b : isB N a
  · have bc := (isB_c b).1
    have b4 := nB_4 wf
    rw [if_pos b, if_neg t10, if_neg t10, cm_a7 (hcm H) bc, rm_a7 (hrm H) bc]
    by_cases p : N 7 a.toNatClampNeg < N 0 3
    · rw [if_pos p, if_pos p]
      exact pr3 H
    · rw [if_neg p, if_neg p]
      by_cases d : drN N = 0
      · rw [if_pos (dz.mpr d), if_pos (dz.mpr d)]
        exact pr3 H
      · rw [if_neg (fun y => d (dz.mp y)), if_neg (fun y => d (dz.mp y))]
        have hp : (N 0 3).toInt ≤ (N 7 a.toNatClampNeg).toInt := by
          rw [i_lt] at p
          omega
        have pr := wf.1.2.2.2.1
        have w1 : WF (payS N a (N 0 3)) := WF_pay wf (by omega) hp
        have m1 := cm_pay (hcm H) wf b (N 0 3)
        have m2 := rm_pay (hrm H) wf b (N 0 3)
        rw [rm_a7 (hrm H) bc] at m2
        have m0 := rm_w7 (hrm H) (N 7 a.toNatClampNeg - N 0 3) (by omega) bc
        have e5 : hv (hput h2 (hr h2 49 24) a.toNatClampNeg (.inl (.int (N 7 a.toNatClampNeg - N 0 3)))) 49 14 = N 0 5 := by
          have q := rm_n5 m0
          exact q
        have e3 : hv (hput h2 (hr h2 49 24) a.toNatClampNeg (.inl (.int (N 7 a.toNatClampNeg - N 0 3)))) 49 12 = N 0 3 := by
          have q := rm_n3 m0
          exact q
        rw [e5, e3]
        have stl : stN N < 256 := own_lt wf (-1)
        clear e5 e3 m0 d dz db p hp pr b4
        have e5' : ∀ j : Nat, j < 6 → (nI j < (5 : Int32) ↔ j < 5) := by decide
        refine fx_sim (F := B_X4_five_79 0 a (nI (stN N))) (G := B_X5_five_72 49 a) (fun j (s : Int32 × zH) (t : Int32 × Int32 × zH) => s.1 = nI j ∧ t.2.1 = nI j ∧ ∃ S, CM T 1 h S s.2 ∧ RM T2 49 h2 S t.2.2 ∧ WF S ∧ isB S a ∧ ownS S ∧ nT S = nT N ∧ subS (stN S) (stN N) ∧ t.1 = nI (sDiff (stN N) (stN S))) (fun r k => PR h h2 r k) 5 (fun s t hi => ?_) (fun j s t hj hi => ?_) ⟨rfl, rfl, _, m1, m2, w1, b, own_pay (hO H) a (N 0 3), rfl, sub_rf (stN N), ?_⟩
        · obtain ⟨s1, s2⟩ := s
          obtain ⟨t1, t2, t3⟩ := t
          obtain ⟨e1, e2, S, c1, c2, c3, c4, co, c5, c6, c7⟩ := hi
          have e1 : s1 = nI 5 := e1
          have e2 : t2 = nI 5 := e2
          have c7 : t1 = nI (sDiff (stN N) (stN S)) := c7
          have c1 : CM T 1 h S s2 := c1
          subst e1
          subst e2
          subst c7
          have sS : stN S < 256 := own_lt c3 (-1)
          have c2 : RM T2 49 h2 S t3 := c2
          refine ⟨(nI (sDiff (stN N) (stN S)), s2), (nI (sDiff (stN N) (stN S)), t3), ?_, ?_, pr_now H _ c1 c2 c3 (Nat.le_of_eq c5.symm) co⟩
          · unfold B_X4_five_79
            simp only [letf]
            rw [if_neg (show ¬ nI 5 < (5 : Int32) by decide), cm_c0 c1 0, hc0 H, cm_std c1 c3, s_andnot stl sS]
          · unfold B_X5_five_72
            rw [if_neg (show ¬ nI 5 < (5 : Int32) by decide)]
        · obtain ⟨s1, s2⟩ := s
          obtain ⟨t1, t2, t3⟩ := t
          obtain ⟨e1, e2, S, c1, c2, c3, c4, co, c5, c6, c7⟩ := hi
          have e1 : s1 = nI j := e1
          have e2 : t2 = nI j := e2
          have c7 : t1 = nI (sDiff (stN N) (stN S)) := c7
          have c1 : CM T 1 h S s2 := c1
          have c2 : RM T2 49 h2 S t3 := c2
          subst e1
          subst e2
          subst c7
          have sS : stN S < 256 := own_lt c3 (-1)
          have db := drN_b c3
          have dz : (0 : Int32) < iZ (drN S) ↔ drN S ≠ 0 := by
            rw [i_lt, iZ_t (by omega) (by omega), e0]
            omega
          unfold B_X4_five_79 B_X5_five_72
          simp only [letf]
          rw [if_pos ((e5' j (by omega)).mpr hj), if_pos ((e5' j (by omega)).mpr hj), cm_c0 c1 0, hc0 H, cm_many c1 c3, rm_many c2 c3, cm_std c1 c3, s_andnot stl sS]
          by_cases d : drN S = 0
          · rw [if_neg (fun y => (dz.mp y) d), if_neg (fun y => (dz.mp y) d)]
            exact Or.inl ⟨_, _, rfl, rfl, pr_now H _ c1 c2 c3 (Nat.le_of_eq c5.symm) co⟩
          · obtain ⟨q1, q2, q3⟩ := cm_nxt c1 c3 d c4
            obtain ⟨q4, q5, q6⟩ := rm_nxt c2 c3 d c4
            obtain ⟨u1, u2, u3⟩ := nxt_st c3 c4
            rw [if_pos (dz.mpr d), if_pos (dz.mpr d), q1, q4, q5, s_or (sDiff_lt _ _) u3, nI_s]
            refine Or.inr ⟨_, _, rfl, rfl, rfl, rfl, nxt S a, q3, q6, nxt_WF c3 d c4, isB_nxt c4, own_nxt co c4, nxt_nT.trans c5, ?_, ?_⟩
            · rw [u1]
              exact sub_diff c6
            · rw [u1, sDiff_or u3 c6 u2]
        · show (0 : Int32) = nI (sDiff (stN N) (stN (payS N a (N 0 3))))
          rw [stN_pay, sDiff_self]
          rfl
  · rw [if_neg b, if_pos rfl, if_pos rfl]
    exact pr0 H
end
