section
variable {T T2 : List Nat} {h h2 : zH} {N : ST} {K : Option ST} {C Z : Nat → Int32} {E : Nat → Nat → Int64} {n : Nat} {B R : Nat → Int32}
theorem m_planB (H : HY T T2 h h2 N K C Z E n B R) (hl : T2.length ≤ 900000) {D : Nat} (hD : 150 ≤ D) (a : Int32) : PR h h2 (F_X4_plan h 0 a) (F_X5_planB D h2 49 a) := by
  refine m_plan H a _ (gPlan (D - 1) (hV h2 49) a) rfl (fun b => ?_)
  have bc := isB_c b
  obtain ⟨v1, v2, v3, v4, v5⟩ := vb_of H.2.2.1 H.2.2.2.1 hl
  obtain ⟨h', q1, q2, q3, -⟩ := g_plan v2 v1 v3 v4 bc.1 (D := D - 1) (by omega)
  rw [← bc.2] at q1
  exact ⟨h', q1, q2, fr0_t v5 q3⟩
theorem m_meanB (H : HY T T2 h h2 N K C Z E n B R) (hl : T2.length ≤ 900000) {D : Nat} (hD : 150 ≤ D) (a m : Int32) : PR h h2 (F_X4_mean h 0 a m) (F_X5_meanB D h2 49 a m) := by
  refine m_mean H a m _ (gMean (D - 1) (hV h2 49) a m) rfl (fun b m0 m8 => ?_)
  have bc := isB_c b
  obtain ⟨v1, v2, v3, v4, v5⟩ := vb_of H.2.2.1 H.2.2.2.1 hl
  obtain ⟨h', q1, q2, q3⟩ := g_mean v2 v1 v3 v4 bc.1 m8 (D := D - 1) (by omega)
  rw [← bc.2, ← nI_back (x := m) m0] at q1
  exact ⟨h', q1, q2, fr0_t v5 q3⟩
theorem m_onceB (H : HY T T2 h h2 N K C Z E n B R) (hl : T2.length ≤ 900000) {D : Nat} (hD : 150 ≤ D) (a : Int32) : PR h h2 (F_X4_atOnce h 0 a) (F_X5_atOnceB D h2 49 a) := by
  refine m_once H a _ (gMean (D - 1) (hV h2 49) a (nI 5)) rfl (fun b => ?_)
  have bc := isB_c b
  obtain ⟨v1, v2, v3, v4, v5⟩ := vb_of H.2.2.1 H.2.2.2.1 hl
  obtain ⟨h', q1, q2, q3⟩ := g_mean v2 v1 v3 v4 bc.1 (m := 5) (by decide) (D := D - 1) (by omega)
  rw [← bc.2] at q1
  exact ⟨h', q1, q2, fr0_t v5 q3⟩
theorem m_tillB (H : HY T T2 h h2 N K C Z E n B R) (hl : T2.length ≤ 900000) {D : Nat} (hD : 150 ≤ D) (a : Int32) : PR h h2 (F_X4_till h 0 a) (F_X5_tillB D h2 49 a) := by
  obtain ⟨v1, v2, v3, v4, v5⟩ := vb_of H.2.2.1 H.2.2.2.1 hl
  exact m_till H v2 v1 v3 v4 v5 (D := D) (by omega) a _ rfl
theorem m_playsB (H : HY T T2 h h2 N K C Z E n B R) (hl : T2.length ≤ 900000) {D : Nat} (hD : 150 ≤ D) (a : Int32) : PR h h2 (F_X4_plays h 0 a) (F_X5_playsB D h2 49 a) := by
  obtain ⟨v1, v2, v3, v4, v5⟩ := vb_of H.2.2.1 H.2.2.2.1 hl
  refine m_plays H v2 v1 v3 v4 v5 (D := D) (by omega) a _ _ rfl (fun b => ?_)
  have bc := isB_c b
  rw [rm_a7 (hrm H) bc.1, rm_n2 (hrm H)]
  by_cases y : N 7 a.toNatClampNeg < N 0 2
  · exact Or.inr ⟨y, if_pos y⟩
  · refine Or.inl ?_
    rw [if_neg y]
    have rc : RC (T2 ++ vTys) (hV h2 49) 49 := ⟨v1, rlay_49 v2 v3.2.1.1, by rw [v3.2.1.2.1]; exact v3.2.1.2.2.1, v3.2.1.2.2.2⟩
    have rm := RM_of rc
    rw [v3.2.1.2.1] at rm
    have ep : F_X5_planOfB (D - 1) h2 49 a = F_X5_planOfNA (D - 1) (hV h2 49) 49 a := rfl
    have st : B_X5_playsNA_17 D 49 a ((0 : Int32), hV h2 49) = letf (F_X5_planOfNA (D - 1) (hV h2 49) 49 a) (fun y3 => (if (0 : Int32) < y3.1 then (letf (F_X5_goesOne y3.2 49 a) (fun y4 => (Sum.inl (((0 : Int32) + (1 : Int32)), y4.2)))) else (Sum.inr ((0 : Int32), y3.2)))) := by
      unfold B_X5_playsNA_17
      dsimp only
      rw [rm_a7 rm bc.1, rm_n2 rm, if_neg y]
    rw [ep]
    simp only [letf] at st ⊢
    by_cases z : (0 : Int32) < (F_X5_planOfNA (D - 1) (hV h2 49) 49 a).1
    · rw [if_pos z] at st ⊢
      rw [fx_step st]
      rfl
    · rw [if_neg z] at st ⊢
      rw [fx_stop st]
end
