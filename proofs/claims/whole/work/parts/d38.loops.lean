section
variable {T T2 : List Nat} {h h2 h' h2' : zH} {N N' S : ST} {K : Option ST} {C Z : Nat → Int32} {E : Nat → Nat → Int64} {n : Nat} {B R : Nat → Int32}
theorem m_envy (H : HY T T2 h h2 N K C Z E n B R) : F_X4_envy h 0 = F_X5_envy h2 49 := by
  have wf := hw H
  have n4 := nB_4 wf
  unfold F_X4_envy F_X5_envy
  refine fx_sim (F := B_X4_envy_4 h 0) (G := B_X5_envy_4 h2 49) (fun j (s t : Int32 × Int32) => s = t ∧ s.2 = nI j) (fun r k => r = k) (nB N) (fun s t hi => ?_) (fun j s t hj hi => ?_) ⟨rfl, rfl⟩
  · obtain ⟨rfl, e2⟩ := hi
    refine ⟨s.1, s.1, ?_, ?_, rfl⟩
    · unfold B_X4_envy_4
      rw [hc0 H, cm_n8 (hcm H), if_neg (by rw [e2, lt_B wf (by omega)]; exact Nat.lt_irrefl _)]
    · unfold B_X5_envy_4
      rw [rm_n8 (hrm H), if_neg (by rw [e2, lt_B wf (by omega)]; exact Nat.lt_irrefl _)]
  · obtain ⟨rfl, e2⟩ := hi
    obtain ⟨s1, s2⟩ := s
    have e2 : s2 = nI j := e2
    subst e2
    refine Or.inr ?_
    have ib := isB_n wf hj
    have jc : (nI j).toNatClampNeg = j := nI_c (by omega)
    have lko : ∀ i, F_X1_likingOfAll h 1 (nI j) (nI (ownN N (nI i))) = iZ (lkN N j (ownN N (nI i))) ∧ F_X5_liked h2 49 (nI j) (nI (ownN N (nI i))) = iZ (lkN N j (ownN N (nI i))) := fun i => by
      have := h_lkAll H ib (own_lt wf (nI i))
      rw [jc] at this
      exact this
    have inner : fx (B_X4_envy_35 h 0 (nI j) (iZ (lkN N j (ownN N (nI j))))) (Sum.inr 0) (s1, (0 : Int32)) = fx (B_X5_envy_14 h2 49 (nI j)) (Sum.inr 0) (s1, (0 : Int32)) ∧ ∃ p, fx (B_X4_envy_35 h 0 (nI j) (iZ (lkN N j (ownN N (nI j))))) (Sum.inr 0) (s1, (0 : Int32)) = Sum.inl (p, nI (j + 1)) := by
      refine fx_sim (F := B_X4_envy_35 h 0 (nI j) (iZ (lkN N j (ownN N (nI j))))) (G := B_X5_envy_14 h2 49 (nI j)) (d := Sum.inr 0) (e := Sum.inr 0) (fun i (s t : Int32 × Int32) => s = t ∧ s.2 = nI i) (fun r k => r = k ∧ ∃ p, r = Sum.inl (p, nI (j + 1))) (nB N) (fun s t hi => ?_) (fun i s t hi2 hi => ?_) ⟨rfl, rfl⟩
      · obtain ⟨rfl, e2⟩ := hi
        refine ⟨Sum.inl (s.1, nI (j + 1)), Sum.inl (s.1, nI (j + 1)), ?_, ?_, rfl, _, rfl⟩
        · unfold B_X4_envy_35
          rw [hc0 H, cm_n8 (hcm H), if_neg (by rw [e2, lt_B wf (by omega)]; exact Nat.lt_irrefl _), nI_s]
        · unfold B_X5_envy_14
          rw [rm_n8 (hrm H), if_neg (by rw [e2, lt_B wf (by omega)]; exact Nat.lt_irrefl _), nI_s]
      · obtain ⟨rfl, e2⟩ := hi
        obtain ⟨t1, t2⟩ := s
        have e2 : t2 = nI i := e2
        subst e2
        refine Or.inr ?_
        unfold B_X4_envy_35 B_X5_envy_14
        simp only [letf]
        rw [hc0 H, cm_n8 (hcm H), rm_n8 (hrm H), if_pos ((lt_B wf (by omega)).mpr hi2), if_pos ((lt_B wf (by omega)).mpr hi2), (h_own H (nI i)).1, (h_own H (nI i)).2, (h_own H (nI j)).2, (lko i).1, (lko i).2, (lko j).2, nI_s]
        by_cases y : nI j = nI i
        · rw [if_pos y, y, if_neg (fun z => absurd (i_lt.mp z) (by
            have : j = i := by
              have := i_eq.mp y
              rw [nI_t (by omega), nI_t (by omega)] at this
              omega
            rw [this]
            exact Int.lt_irrefl _)), Int32.add_zero]
          exact ⟨_, _, rfl, rfl, rfl, rfl⟩
        · rw [if_neg y]
          by_cases z : iZ (lkN N j (ownN N (nI j))) < iZ (lkN N j (ownN N (nI i)))
          · rw [if_pos z, if_pos z]
            exact ⟨_, _, rfl, rfl, rfl, rfl⟩
          · rw [if_neg z, if_neg z, Int32.add_zero]
            exact ⟨_, _, rfl, rfl, rfl, rfl⟩
    obtain ⟨i1, p, i2⟩ := inner
    refine ⟨(p, nI (j + 1)), (p, nI (j + 1)), ?_, ?_, rfl, rfl⟩
    · unfold B_X4_envy_4
      simp only [letf]
      rw [hc0 H, cm_n8 (hcm H), if_pos ((lt_B wf (by omega)).mpr hj), (h_own H (nI j)).1, (lko j).1]
      exact i2
    · unfold B_X5_envy_4
      dsimp only
      rw [rm_n8 (hrm H), if_pos ((lt_B wf (by omega)).mpr hj), ← i1]
      exact i2
theorem bgt_b {S : ST} (w : WF S) (h0 : S 1 0 = 0) {v : Int32} (hv : 1 ≤ v.toInt) : ∀ k, k ≤ nB S → 0 ≤ (bgt S v k).toInt ∧ (bgt S v k).toInt ≤ (inN S : Int)
  | 0, _ => by
    have : bgt S v 0 = 0 := rfl
    rw [this, e0]
    omega
  | k + 1, hk => by
    have ih := bgt_b w h0 hv k (by omega)
    have h60 := inN_60 w h0
    have e : bgt S v (k + 1) = if wth S k < 1000 * v then bgt S v k else bgt S v k + jmin (S 7 k / v) (nI (inN S) - bgt S v k) := rfl
    rw [e]
    by_cases y : wth S k < 1000 * v
    · rw [if_pos y]
      exact ih
    · rw [if_neg y]
      have pu := w.2.2.2.1 k
      have s1 := i_isub (x := nI (inN S)) (y := bgt S v k) (by rw [nI_t (by omega)]; omega) (by rw [nI_t (by omega)]; omega)
      rw [nI_t (by omega)] at s1
      have d0 : 0 ≤ (S 7 k / v).toInt := by
        rw [Int32.toInt_div, Int.tdiv_eq_ediv_of_nonneg pu.1]
        have q0 := Int.ediv_nonneg pu.1 (show 0 ≤ v.toInt by omega)
        have q1 := Int.ediv_le_self v.toInt pu.1
        rw [t_bm (by omega) (by omega)]
        exact q0
      have j : 0 ≤ (jmin (S 7 k / v) (nI (inN S) - bgt S v k)).toInt ∧ (jmin (S 7 k / v) (nI (inN S) - bgt S v k)).toInt ≤ (nI (inN S) - bgt S v k).toInt := by
        unfold jmin
        by_cases z : nI (inN S) - bgt S v k < S 7 k / v
        · rw [if_pos z]
          omega
        · rw [if_neg z]
          rw [i_lt] at z
          omega
      rw [i_iadd (by omega) (by omega)]
      omega
theorem tkg_b {S : ST} (w : WF S) (h0 : S 1 0 = 0) {v : Int32} (hv : 1 ≤ v.toInt ∧ v.toInt ≤ 99) : 0 ≤ (tkg S v).toInt := by
  have b := bgt_b w h0 hv.1 (nB S) (Nat.le_refl _)
  have h60 := inN_60 w h0
  have m1 := Int.mul_nonneg b.1 (show 0 ≤ v.toInt by omega)
  have m2 := Int.mul_le_mul (a := (bgt S v (nB S)).toInt) (b := v.toInt) (c := 60) (d := 99) (by omega) hv.2 (by omega) (by decide)
  unfold tkg
  rw [t_mul (by omega) (by omega)]
  exact m1
theorem m_bestPrice (H : HY T T2 h h2 N K C Z E n B R) : F_X4_bestPrice h 0 = F_X5_bestPrice h2 49 := by
  have wf := hw H
  have z0 : N 1 0 = 0 := by
    rw [← hca H]
    exact cAbs_10 h 1
  have tk : ∀ v : Int32, 1 ≤ v.toInt → F_X1_takingsAt h 1 v = tkg N v := fun v hv => by
    have := c_take (hcc H) (v := v) hv
    rw [hca H] at this
    exact this
  have rk : ∀ v : Int32, F_X5_takingsAt h2 49 v = tkg N v := fun v => by
    have := r_take (hrc H) (v := v)
    rw [hra H] at this
    exact this
  have five : (5 : Int32) = nI 5 := rfl
  have g5 := tkg_b wf z0 (v := nI 5) (by rw [nI_t (by omega)]; omega)
  have lt5 : (-1 : Int32) < tkg N (nI 5) := by
    rw [i_lt, show (-1 : Int32).toInt = -1 from rfl]
    omega
  have nogt : ∀ k : Nat, k < 19 → ¬ (95 : Int32) < nI (5 * (k + 1)) := by decide
  have s0 : B_X5_bestPrice_6 h2 49 ((0 : Int32), (-1 : Int32), (5 : Int32)) = Sum.inl (nI 5, tkg N (nI 5), nI 10) := by
    unfold B_X5_bestPrice_6
    simp only [letf]
    rw [five, if_neg (nogt 0 (by decide)), rk, if_pos lt5, if_pos lt5]
    rfl
  unfold F_X4_bestPrice F_X5_bestPrice
  simp only [letf]
  rw [fx_step s0, hc0 H, five, tk (nI 5) (by rw [nI_t (by omega)]; omega)]
  refine fx_sim (F := B_X4_bestPrice_14 h 0) (G := B_X5_bestPrice_6 h2 49) (fun j (s t : Int32 × Int32 × Int32) => s = t ∧ s.2.2 = nI (5 * (j + 2))) (fun r k => r = k) 18 (fun s t hi => ?_) (fun j s t hj hi => ?_) ⟨rfl, rfl⟩
  · obtain ⟨rfl, e2⟩ := hi
    have e2 : s.2.2 = nI 100 := e2
    refine ⟨s.1, s.1, ?_, ?_, rfl⟩
    · unfold B_X4_bestPrice_14
      rw [e2, if_pos (by decide)]
    · unfold B_X5_bestPrice_6
      rw [e2, if_pos (by decide)]
  · obtain ⟨rfl, e2⟩ := hi
    obtain ⟨s1, s2, s3⟩ := s
    have e2 : s3 = nI (5 * (j + 2)) := e2
    subst e2
    have nx : nI (5 * (j + 2)) + nI 5 = nI (5 * (j + 1 + 2)) := by
      rw [nI_ad2 (by omega), show 5 * (j + 2) + 5 = 5 * (j + 1 + 2) by omega]
    refine Or.inr ?_
    unfold B_X4_bestPrice_14 B_X5_bestPrice_6
    simp only [letf]
    rw [hc0 H, five, if_neg (nogt (j + 1) (by omega)), if_neg (nogt (j + 1) (by omega)), tk _ (by rw [nI_t (by omega)]; omega), rk, nx]
    by_cases y : s2 < tkg N (nI (5 * (j + 2)))
    · rw [if_pos y, if_pos y, if_pos y]
      exact ⟨_, _, rfl, rfl, rfl, rfl⟩
    · rw [if_neg y, if_neg y, if_neg y]
      exact ⟨_, _, rfl, rfl, rfl, rfl⟩
theorem m_guess (H : HY T T2 h h2 N K C Z E n B R) (a w : Int32) : PR h h2 (F_X4_guess h 0 a w) (F_X5_guess h2 49 a w) := by
  have wf := hw H
  have n60 := nS_60 wf
  have q1 : ∀ x, F_X1_quartersOf h 1 x = (4 * x + N 0 0 - 1) / N 0 0 := fun x => by
    have := c_quart (h := h) (q := 1) (by rw [hca H]; exact wf) x
    rw [hca H] at this
    exact this
  have q2 : ∀ x, F_X5_fullWith h2 49 x = (4 * x + N 0 0 - 1) / N 0 0 := fun x => by
    have := r_quart (h := h2) (q := 49) x
    rw [hra H] at this
    exact this
  have ltS : ∀ j : Nat, j ≤ 1000 → (N 0 0 < nI j ↔ nS N < j) := fun j hj => by
    rw [i_lt, nI_t (by omega)]
    have := nS_i wf
    omega
  unfold F_X4_guess F_X5_guess
  simp only [letf]
  rw [pair_in (a := a) (lo := 0) (hi := 4) (by decide) (by decide), pair_in (a := w) (lo := 0) (hi := 1) (by decide) (by decide)]
  by_cases y : F_X4_isWithin a 0 4 = 0
  · rw [if_pos y, if_pos y]
    exact pr0 H
  · rw [if_neg y, if_neg y]
    by_cases v : F_X4_isWithin w 0 1 = 0
    · rw [if_pos v, if_pos v]
      exact pr0 H
    · rw [if_neg v, if_neg v]
      have v' := win v
      have v' : 0 ≤ w.toInt ∧ w.toInt ≤ 1 := v'
      have w01 : w = 0 ∨ w = 1 := by
        have : w.toInt = 0 ∨ w.toInt = 1 := by omega
        rcases this with z | z
        · exact Or.inl (i_eq.mpr z)
        · exact Or.inr (i_eq.mpr z)
      clear v v' y
      refine fx_sim (F := B_X4_guess_30 h 0 a w) (G := B_X5_guess_37 h2 49 a w) (fun j (s : Int32 × Int32) (t : Int32 × Int32 × Int32) => s.2 = nI j ∧ t.2.2 = nI j ∧ ((s.1 = -1 ∧ t.1 = -1) ∨ (s.1 ≠ -1 ∧ t.1 ≠ -1 ∧ (w = 0 → s.1 = t.1) ∧ (w = 1 → s.1 = t.2.1)))) (fun r k => PR h h2 r k) (nS N + 1) (fun s t hi => ?_) (fun j s t hj hi => ?_) ⟨rfl, rfl, Or.inl ⟨rfl, rfl⟩⟩
      · obtain ⟨s1, s2⟩ := s
        obtain ⟨t1, t2, t3⟩ := t
        obtain ⟨e1, e2, e3⟩ := hi
        have e1 : s2 = nI (nS N + 1) := e1
        have e2 : t3 = nI (nS N + 1) := e2
        subst e1
        subst e2
        have e3 : (s1 = -1 ∧ t1 = -1) ∨ (s1 ≠ -1 ∧ t1 ≠ -1 ∧ (w = 0 → s1 = t1) ∧ (w = 1 → s1 = t2)) := e3
        unfold B_X4_guess_30 B_X5_guess_37
        simp only [letf]
        rw [hc0 H, cm_n0 (hcm H), rm_n0 (hrm H), if_pos ((ltS _ (by omega)).mpr (by omega)), if_pos ((ltS _ (by omega)).mpr (by omega))]
        rcases e3 with ⟨a1, a2⟩ | ⟨a1, a2, a3, a4⟩
        · rw [if_pos a1, if_pos a2]
          exact ⟨_, _, rfl, rfl, pr3 H⟩
        · rw [if_neg a1, if_neg a2]
          rcases w01 with z | z
          · rw [if_pos z, ← a3 z]
            exact ⟨_, _, rfl, rfl, pr_same H _⟩
          · rw [if_neg (by rw [z]; decide), ← a4 z]
            exact ⟨_, _, rfl, rfl, pr_same H _⟩
      · obtain ⟨s1, s2⟩ := s
        obtain ⟨t1, t2, t3⟩ := t
        obtain ⟨e1, e2, e3⟩ := hi
        have e1 : s2 = nI j := e1
        have e2 : t3 = nI j := e2
        subst e1
        subst e2
        have e3 : (s1 = -1 ∧ t1 = -1) ∨ (s1 ≠ -1 ∧ t1 ≠ -1 ∧ (w = 0 → s1 = t1) ∧ (w = 1 → s1 = t2)) := e3
        have jm : nI j ≠ -1 := fun z => by
          have := i_eq.mp z
          rw [nI_t (by omega), show (-1 : Int32).toInt = -1 from rfl] at this
          omega
        refine Or.inr ?_
        unfold B_X4_guess_30 B_X5_guess_37
        simp only [letf]
        rw [hc0 H, cm_n0 (hcm H), rm_n0 (hrm H), if_neg (fun z => absurd ((ltS _ (by omega)).mp z) (by omega)), if_neg (fun z => absurd ((ltS _ (by omega)).mp z) (by omega)), q1, q2, nI_s]
        by_cases f : (4 * nI j + N 0 0 - 1) / N 0 0 = a
        · rw [if_pos f, if_pos f]
          rcases e3 with ⟨a1, a2⟩ | ⟨a1, a2, a3, a4⟩
          · rw [if_pos a1, if_pos a2]
            exact ⟨_, _, rfl, rfl, rfl, rfl, Or.inr ⟨jm, jm, fun _ => rfl, fun _ => rfl⟩⟩
          · rw [if_neg a1, if_neg a2]
            rcases w01 with z | z
            · rw [if_neg (by rw [z]; decide)]
              exact ⟨_, _, rfl, rfl, rfl, rfl, Or.inr ⟨a1, a2, a3, fun q => absurd (z.symm.trans q) (by decide)⟩⟩
            · rw [if_pos z]
              exact ⟨_, _, rfl, rfl, rfl, rfl, Or.inr ⟨jm, a2, fun q => absurd (z.symm.trans q) (by decide), fun _ => rfl⟩⟩
        · rw [if_neg f, if_neg f]
          exact ⟨_, _, rfl, rfl, rfl, rfl, e3⟩
end
