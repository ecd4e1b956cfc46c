/-- two loops side by side -/
theorem fx_sim {σ τ ρ κ : Type} {F : σ → σ ⊕ ρ} {G : τ → τ ⊕ κ} {d : ρ} {e : κ} (I : Nat → σ → τ → Prop) (Q : ρ → κ → Prop) (N : Nat) (hend : ∀ s t, I N s t → ∃ r k, F s = .inr r ∧ G t = .inr k ∧ Q r k) (hstep : ∀ j s t, j < N → I j s t → (∃ r k, F s = .inr r ∧ G t = .inr k ∧ Q r k) ∨ ∃ s' t', F s = .inl s' ∧ G t = .inl t' ∧ I (j + 1) s' t') {s : σ} {t : τ} (h0 : I 0 s t) : Q (fx F d s) (fx G e t) := by
  have key : ∀ k j s t, j + k = N → I j s t → Q (fx F d s) (fx G e t) := by
    intro k
    induction k with
    | zero =>
      intro j s t hj hi
      have : j = N := by omega
      rw [this] at hi
      obtain ⟨r, k, h1, h2, q⟩ := hend s t hi
      rw [fx_stop h1, fx_stop h2]
      exact q
    | succ k ih =>
      intro j s t hj hi
      rcases hstep j s t (by omega) hi with ⟨r, k, h1, h2, q⟩ | ⟨s', t', h1, h2, hi'⟩
      · rw [fx_stop h1, fx_stop h2]
        exact q
      · rw [fx_step h1, fx_step h2]
        exact ih (j + 1) s' t' (by omega) hi'
  exact key N 0 s t (by omega) h0
section
variable {T T2 : List Nat} {h h2 h' h2' : zH} {N N' S : ST} {K : Option ST} {C Z : Nat → Int32} {E : Nat → Nat → Int64} {n : Nat} {B R : Nat → Int32}
theorem h_lkN (H : HY T T2 h h2 N K C Z E n B R) {b t : Nat} (hb : b < nB N) (ht : t < nT N) : F_X1_liking h 1 (nI b) (nI t) = iZ (lkS N b t) ∧ hv h2 (hr h2 (hr h2 49 25) b) t = iZ (lkS N b t) := by
  have l1 := c_lk (hcc H) (b := b) (t := t) (by rw [hca H]; exact hb) (by rw [hca H]; exact ht)
  have l2 := r_lk (hrc H) (b := b) (t := t) (by rw [hra H]; exact hb) (by rw [hra H]; exact ht)
  rw [hca H] at l1
  rw [hra H] at l2
  exact ⟨l1, l2⟩
theorem h_stands (H : HY T T2 h h2 N K C Z E n B R) {t : Nat} (ht : t < nT N) : F_X1_stands h 1 (nI t) = if N 6 t = -1 then 1 else 0 := by
  have wf := hw H
  have n8 := nT_8 wf
  have := c_stands (hcc H) (nI t)
  rw [hca H, nI_c (by omega)] at this
  rw [this]
  by_cases y : N 6 t = -1
  · rw [if_pos y, if_pos ⟨isT_n wf ht, y⟩]
  · rw [if_neg y, if_neg (fun z => y z.2)]
theorem m_oldest (H : HY T T2 h h2 N K C Z E n B R) : PR h h2 (F_X4_oldest h 0) (F_X5_oldest h2 49) := by
  have wf := hw H
  have n8 := nT_8 wf
  unfold F_X4_oldest F_X5_oldest
  simp only [letf]
  rw [hc0 H, cm_n7 (hcm H), rm_n7 (hrm H)]
  by_cases z : N 0 7 = 0
  · rw [if_pos z, if_pos z]
    exact pr3 H
  · rw [if_neg z, if_neg z]
    have n1 : 1 ≤ nT N := by
      have := nT_i wf
      have := WF_th wf
      have : (N 0 7).toInt ≠ 0 := fun y => z (i_eq.mpr y)
      omega
    refine fx_sim (F := B_X4_oldest_21 h 0) (G := B_X5_oldest_18 h2 49) (fun j (s t : Int32 × Int32) => s = t ∧ s.2 = nI (j + 1) ∧ ∃ u, u < nT N ∧ s.1 = nI u) (fun r k => PR h h2 r k) (nT N - 1) (fun s t hi => ?_) (fun j s t hj hi => ?_) ⟨rfl, rfl, 0, by omega, rfl⟩
    · obtain ⟨rfl, e2, u, hu, e1⟩ := hi
      refine ⟨_, _, ?_, ?_, pr_same H s.1⟩
      · unfold B_X4_oldest_21
        rw [hc0 H, cm_n7 (hcm H), if_neg (by rw [e2, show nT N - 1 + 1 = nT N by omega, lt_T wf (by omega)]; exact Nat.lt_irrefl _)]
      · unfold B_X5_oldest_18
        rw [rm_n7 (hrm H), if_neg (by rw [e2, show nT N - 1 + 1 = nT N by omega, lt_T wf (by omega)]; exact Nat.lt_irrefl _)]
    · obtain ⟨rfl, e2, u, hu, e1⟩ := hi
      obtain ⟨s1, s2⟩ := s
      have e2 : s2 = nI (j + 1) := e2
      have e1 : s1 = nI u := e1
      subst e1
      subst e2
      have hj1 : j + 1 < nT N := by omega
      refine Or.inr ?_
      unfold B_X4_oldest_21 B_X5_oldest_18
      dsimp only
      rw [hc0 H, cm_n7 (hcm H), rm_n7 (hrm H), if_pos ((lt_T wf (by omega)).mpr hj1), if_pos ((lt_T wf (by omega)).mpr hj1), nI_c (by omega), nI_c (by omega), cm_a5 (hcm H) hj1, cm_a5 (hcm H) hu, rm_a5 (hrm H) hj1, rm_a5 (hrm H) hu, nI_s]
      by_cases y : N 5 u < N 5 (j + 1)
      · rw [if_pos y]
        exact ⟨_, _, rfl, rfl, rfl, rfl, j + 1, hj1, rfl⟩
      · rw [if_neg y]
        exact ⟨_, _, rfl, rfl, rfl, rfl, u, hu, rfl⟩
theorem m_poorest (H : HY T T2 h h2 N K C Z E n B R) : PR h h2 (F_X4_poorest h 0) (F_X5_poorest h2 49) := by
  have wf := hw H
  have n4 := nB_4 wf
  unfold F_X4_poorest F_X5_poorest
  simp only [letf]
  rw [hc0 H, cm_n8 (hcm H), rm_n8 (hrm H)]
  by_cases z : N 0 8 = 0
  · rw [if_pos z, if_pos z]
    exact pr3 H
  · rw [if_neg z, if_neg z]
    have n1 : 1 ≤ nB N := by
      have := nB_i wf
      have := WF_bu wf
      have : (N 0 8).toInt ≠ 0 := fun y => z (i_eq.mpr y)
      omega
    refine fx_sim (F := B_X4_poorest_21 h 0) (G := B_X5_poorest_18 h2 49) (fun j (s t : Int32 × Int32) => s = t ∧ s.2 = nI (j + 1) ∧ ∃ u, u < nB N ∧ s.1 = nI u) (fun r k => PR h h2 r k) (nB N - 1) (fun s t hi => ?_) (fun j s t hj hi => ?_) ⟨rfl, rfl, 0, by omega, rfl⟩
    · obtain ⟨rfl, e2, u, hu, e1⟩ := hi
      refine ⟨_, _, ?_, ?_, pr_same H s.1⟩
      · unfold B_X4_poorest_21
        rw [hc0 H, cm_n8 (hcm H), if_neg (by rw [e2, show nB N - 1 + 1 = nB N by omega, lt_B wf (by omega)]; exact Nat.lt_irrefl _)]
      · unfold B_X5_poorest_18
        rw [rm_n8 (hrm H), if_neg (by rw [e2, show nB N - 1 + 1 = nB N by omega, lt_B wf (by omega)]; exact Nat.lt_irrefl _)]
    · obtain ⟨rfl, e2, u, hu, e1⟩ := hi
      obtain ⟨s1, s2⟩ := s
      have e2 : s2 = nI (j + 1) := e2
      have e1 : s1 = nI u := e1
      subst e1
      subst e2
      have hj1 : j + 1 < nB N := by omega
      refine Or.inr ?_
      unfold B_X4_poorest_21 B_X5_poorest_18
      dsimp only
      rw [hc0 H, cm_n8 (hcm H), rm_n8 (hrm H), if_pos ((lt_B wf (by omega)).mpr hj1), if_pos ((lt_B wf (by omega)).mpr hj1), nI_c (by omega), nI_c (by omega), cm_a7 (hcm H) hj1, cm_a7 (hcm H) hu, rm_a7 (hrm H) hj1, rm_a7 (hrm H) hu, nI_s]
      by_cases y : N 7 (j + 1) < N 7 u
      · rw [if_pos y]
        exact ⟨_, _, rfl, rfl, rfl, rfl, j + 1, hj1, rfl⟩
      · rw [if_neg y]
        exact ⟨_, _, rfl, rfl, rfl, rfl, u, hu, rfl⟩
theorem m_fondest (H : HY T T2 h h2 N K C Z E n B R) (a : Int32) : PR h h2 (F_X4_fondest h 0 a) (F_X5_fondest h2 49 a) := by
  have wf := hw H
  have n4 := nB_4 wf
  unfold F_X4_fondest F_X5_fondest
  simp only [letf]
  rw [hc0 H, hcT H, hrT H, cm_n8 (hcm H), rm_n8 (hrm H)]
  by_cases v : isT N a
  · rw [if_pos v, if_neg t10, if_neg t10]
    have tc := isT_lt wf v
    by_cases z : N 0 8 = 0
    · rw [if_pos z, if_pos z]
      exact pr3 H
    · rw [if_neg z, if_neg z]
      have n1 : 1 ≤ nB N := by
        have := nB_i wf
        have := WF_bu wf
        have : (N 0 8).toInt ≠ 0 := fun y => z (i_eq.mpr y)
        omega
      generalize a.toNatClampNeg = t at tc
      obtain ⟨tc, rfl⟩ := tc
      have n8 := nT_8 wf
      refine fx_sim (F := B_X4_fondest_39 h 0 (nI t)) (G := B_X5_fondest_33 h2 49 (nI t)) (fun j (s t : Int32 × Int32) => s = t ∧ s.2 = nI (j + 1) ∧ ∃ u, u < nB N ∧ s.1 = nI u) (fun r k => PR h h2 r k) (nB N - 1) (fun s t hi => ?_) (fun j s t hj hi => ?_) ⟨rfl, rfl, 0, by omega, rfl⟩
      · obtain ⟨rfl, e2, u, hu, e1⟩ := hi
        refine ⟨_, _, ?_, ?_, pr_same H s.1⟩
        · unfold B_X4_fondest_39
          rw [hc0 H, cm_n8 (hcm H), if_neg (by rw [e2, show nB N - 1 + 1 = nB N by omega, lt_B wf (by omega)]; exact Nat.lt_irrefl _)]
        · unfold B_X5_fondest_33
          rw [rm_n8 (hrm H), if_neg (by rw [e2, show nB N - 1 + 1 = nB N by omega, lt_B wf (by omega)]; exact Nat.lt_irrefl _)]
      · obtain ⟨rfl, e2, u, hu, e1⟩ := hi
        obtain ⟨s1, s2⟩ := s
        have e2 : s2 = nI (j + 1) := e2
        have e1 : s1 = nI u := e1
        subst e1
        subst e2
        have hj1 : j + 1 < nB N := by omega
        refine Or.inr ?_
        unfold B_X4_fondest_39 B_X5_fondest_33
        simp only [letf]
        rw [hc0 H, cm_n8 (hcm H), rm_n8 (hrm H), if_pos ((lt_B wf (by omega)).mpr hj1), if_pos ((lt_B wf (by omega)).mpr hj1), nI_c (k := u) (by omega), nI_c (k := j + 1) (by omega), nI_c (k := t) (by omega), (h_lkN H hj1 tc).1, (h_lkN H hj1 tc).2, (h_lkN H hu tc).1, (h_lkN H hu tc).2, nI_s]
        by_cases y : iZ (lkS N u t) < iZ (lkS N (j + 1) t)
        · rw [if_pos y]
          exact ⟨_, _, rfl, rfl, rfl, rfl, j + 1, hj1, rfl⟩
        · rw [if_neg y]
          exact ⟨_, _, rfl, rfl, rfl, rfl, u, hu, rfl⟩
  · rw [if_neg v, if_pos rfl, if_pos rfl]
    exact pr0 H
theorem m_dearest (H : HY T T2 h h2 N K C Z E n B R) (a : Int32) : PR h h2 (F_X4_dearest h 0 a) (F_X5_dearest h2 49 a) := by
  have wf := hw H
  have n8 := nT_8 wf
  have n4 := nB_4 wf
  unfold F_X4_dearest F_X5_dearest
  simp only [letf]
  rw [hc0 H, hcB H, hrB H]
  by_cases v : isB N a
  · rw [if_pos v, if_neg t10, if_neg t10]
    have bc := isB_c v
    generalize a.toNatClampNeg = b at bc
    obtain ⟨bc, rfl⟩ := bc
    refine fx_sim (F := B_X4_dearest_22 h 0 (nI b)) (G := B_X5_dearest_19 h2 49 (nI b)) (fun j (s t : Int32 × Int32) => s = t ∧ s.2 = nI j ∧ (s.1 = -1 ∨ ∃ u, u < nT N ∧ s.1 = nI u)) (fun r k => PR h h2 r k) (nT N) (fun s t hi => ?_) (fun j s t hj hi => ?_) ⟨rfl, rfl, Or.inl rfl⟩
    · obtain ⟨rfl, e2, -⟩ := hi
      refine ⟨_, _, ?_, ?_, pr_same H s.1⟩
      · unfold B_X4_dearest_22
        rw [hc0 H, cm_n7 (hcm H), if_neg (by rw [e2, lt_T wf (by omega)]; exact Nat.lt_irrefl _)]
      · unfold B_X5_dearest_19
        rw [rm_n7 (hrm H), if_neg (by rw [e2, lt_T wf (by omega)]; exact Nat.lt_irrefl _)]
    · obtain ⟨rfl, e2, e1⟩ := hi
      obtain ⟨s1, s2⟩ := s
      have e2 : s2 = nI j := e2
      have e1 : s1 = -1 ∨ ∃ u, u < nT N ∧ s1 = nI u := e1
      subst e2
      refine Or.inr ?_
      unfold B_X4_dearest_22 B_X5_dearest_19
      simp only [letf]
      rw [hc0 H, cm_n7 (hcm H), rm_n7 (hrm H), if_pos ((lt_T wf (by omega)).mpr hj), if_pos ((lt_T wf (by omega)).mpr hj), nI_c (k := j) (by omega), nI_c (k := b) (by omega), h_stands H hj, rm_a6 (hrm H) hj, (h_lkN H bc hj).1, (h_lkN H bc hj).2, nI_s]
      rcases e1 with rfl | ⟨u, hu, rfl⟩
      · rw [if_pos (rfl : (-1 : Int32) = -1)]
        by_cases y : N 6 j = -1
        · rw [if_pos y, if_neg t10, if_pos y, if_pos (rfl : (-1 : Int32) = -1)]
          exact ⟨_, _, rfl, rfl, rfl, rfl, Or.inr ⟨j, hj, rfl⟩⟩
        · rw [if_neg y, if_pos rfl, if_neg y]
          exact ⟨_, _, rfl, rfl, rfl, rfl, Or.inl rfl⟩
      · have um := nm1 u (by omega)
        rw [if_neg um, nI_c (k := u) (by omega), (h_lkN H bc hu).1, (h_lkN H bc hu).2, if_neg um]
        by_cases y : N 6 j = -1
        · rw [if_pos y, if_neg t10, if_neg t10, if_pos y]
          by_cases z : iZ (lkS N b u) < iZ (lkS N b j)
          · rw [if_pos z]
            exact ⟨_, _, rfl, rfl, rfl, rfl, Or.inr ⟨j, hj, rfl⟩⟩
          · rw [if_neg z]
            exact ⟨_, _, rfl, rfl, rfl, rfl, Or.inr ⟨u, hu, rfl⟩⟩
        · rw [if_neg y, if_pos rfl, if_pos rfl, if_neg y, ite_self]
          exact ⟨_, _, rfl, rfl, rfl, rfl, Or.inr ⟨u, hu, rfl⟩⟩
  · rw [if_neg v, if_pos rfl, if_pos rfl]
    exact pr0 H
end
