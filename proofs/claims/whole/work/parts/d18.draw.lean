section
variable {T : List Nat} {h h' : zH} {q : Nat} {S : ST}
theorem rm_drw (m : RM T q h S h') (w0 : 0 ≤ (S 0 7).toInt) (w8 : nT S ≤ 8) {x b : Int32} {M : Nat} (hM : M < 256) : (fx (B_X5_comesOut_26 q x b (nI M)) (0, []) ((0 : Int32), h')).1 = nI M ∧ RM T q h (drw S M b (nT S)) (fx (B_X5_comesOut_26 q x b (nI M)) (0, []) ((0 : Int32), h')).2 := by
  refine fx_forI (F := B_X5_comesOut_26 q x b (nI M)) (d := (0, [])) (fun j (s : Int32 × zH) => s.1 = nI j ∧ RM T q h (drw S M b j) s.2) (fun (r : Int32 × zH) => r.1 = nI M ∧ RM T q h (drw S M b (nT S)) r.2) (nT S) (fun s hs => ?_) (fun j s hj hs => ?_) ?_
  · obtain ⟨s1, s2⟩ := s
    obtain ⟨e, hs⟩ := hs
    have e : s1 = nI (nT S) := e
    refine ⟨(nI M, s2), ?_, rfl, hs⟩
    unfold B_X5_comesOut_26
    rw [if_neg ?_]
    show ¬ s1 < hv s2 q 17
    rw [rm_n7 hs, drw_c S M b (by decide) (by decide), e, lt_nI w0 (by omega)]
    exact Nat.lt_irrefl _
  · obtain ⟨s1, s2⟩ := s
    obtain ⟨e, hs⟩ := hs
    have e : s1 = nI j := e
    have hs : RM T q h (drw S M b j) s2 := hs
    subst e
    refine Or.inr ?_
    have hjd : j < nT (drw S M b j) := by
      rw [drw_nT]
      exact hj
    have hd : drw S M b (j + 1) = if nb M j = 0 then drw S M b j else uS (uS (drw S M b j) 6 j b) 5 j (drw S M b j 5 j + if S 2 j = 2 then 1 else 0) := rfl
    have hlt : nI j < hv s2 q 17 := by
      rw [rm_n7 hs, drw_c S M b (by decide) (by decide), lt_nI w0 (by omega)]
      exact hj
    have jc : (nI j).toNatClampNeg = j := nI_c (by omega)
    have bz : nI (nb M j) = 0 ↔ nb M j = 0 := by
      have := nb_lt M j
      rw [i_eq, nI_t (by omega), e0]
      omega
    unfold B_X5_comesOut_26
    simp only [letf]
    rw [if_pos hlt, s_shr M hM j (by omega)]
    by_cases z : nb M j = 0
    · rw [if_pos (bz.mpr z), nI_s]
      refine ⟨_, rfl, rfl, ?_⟩
      rw [hd, if_pos z]
      exact hs
    · rw [if_neg (fun y => z (bz.mp y)), jc]
      have h1 := rm_w6 hs b (t := j) (by omega) hjd
      rw [rm_a2 h1 (t := j) hjd, rm_a5 h1 (t := j) hjd, uS_c (c := 6) (c' := 2) (by decide), uS_c (c := 6) (c' := 5) (by decide), drw_c S M b (c := 2) (by decide) (by decide)]
      by_cases y : S 2 j = 2
      · rw [if_pos y, nI_s]
        refine ⟨_, rfl, rfl, ?_⟩
        rw [hd, if_neg z, if_pos y]
        exact rm_w5 h1 _ (t := j) (by omega) hjd
      · rw [if_neg y, nI_s]
        refine ⟨_, rfl, rfl, ?_⟩
        rw [hd, if_neg z, if_neg y]
        exact rm_w5 h1 _ (t := j) (by omega) hjd
  · exact ⟨rfl, m⟩
theorem winsN_lt {S : ST} (w : WF S) (x : Int32) : winsN S x < 256 := by
  unfold winsN
  by_cases e : isT S (thOn S x) ∧ S 6 (thOn S x).toNatClampNeg = -1
  · rw [if_pos e]
    exact wonN_lt w (isT_lt w e.1).1
  · rw [if_neg e]
    decide
/-- a slip drawn by a buyer, both sides -/
theorem cm_draw (m : CM T q h S h') (w : WF S) {x b : Int32} (hx : isS S x) : CM T q h (drawS S x b) (F_X1_draw h' q x b) := by
  have cc := (CM_CC m w).1
  have ca := (CM_CC m w).2.1
  have n6 := (nS_60 w).1
  have n8 := nT_8 w
  unfold F_X1_draw
  simp only [letf]
  rw [c_won cc, ca]
  have h1 := cm_out m n6 hx
  rw [cm_n4 h1]
  have h2 := cm_p4 h1 (S 0 4 + 1)
  exact cm_drw h2 (WF_th w).1 n8 (winsN_lt w x)
theorem rm_draw (m : RM T q h S h') (w : WF S) {x b : Int32} (hx : isS S x) : (F_X5_comesOut h' q x b).1 = nI (winsN S x) ∧ RM T q h (drawS S x b) (F_X5_comesOut h' q x b).2 := by
  have cc := (RM_RC m w).1
  have ca := (RM_RC m w).2.1
  have n6 := (nS_60 w).1
  have n8 := nT_8 w
  unfold F_X5_comesOut
  simp only [letf]
  rw [r_wins cc, ca]
  have h1 := rm_out m n6 hx
  rw [rm_n4 h1]
  have h2 := rm_p4 h1 (S 0 4 + 1)
  exact rm_drw h2 (WF_th w).1 n8 (winsN_lt w x)
end
