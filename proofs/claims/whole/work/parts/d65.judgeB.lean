section
variable {T T2 : List Nat} {h h2 : zH} {N : ST} {K : Option ST} {C Z : Nat → Int32} {E : Nat → Nat → Int64} {n : Nat} {B R : Nat → Int32} {p : Nat}
/-- the trial's block is made -/
theorem rx_hM27 (re : RE T h) (x : RX h N K C Z E n B R) (hl : T.length ≤ 900000) : hOK kty (T ++ iTys) (hM 27 h 49) ∧ tExt zT0 (T ++ iTys) ∧ RX (hM 27 h 49) N K C Z E n B R ∧ fr0 h (hM 27 h 49) ∧ hget (hM 27 h 49) 49 27 = some (.inl (.ref h.length)) ∧ 79 ≤ h.length ∧ (T ++ iTys)[h.length]? = some 6 ∧ (∀ q : Nat, hget (hM 27 h 49) 49 26 = some (.inl (.ref q)) → ∀ d d', d < 29 → d' < 29 → q + d ≠ h.length + d') ∧ ∀ q : Nat, hget (hM 27 h 49) 49 35 = some (.inl (.ref q)) → ∀ d, d < 29 → q ≠ h.length + d := by
  obtain ⟨r1, r2, r3, r4, r5, r6⟩ := id re
  obtain ⟨x0, x1, x2, x3, x5, x6, x7⟩ := x
  have l79 := re_79 re
  have t49 : T[49]? = some 5 := r2 _ _ rfl
  obtain ⟨k2, k3⟩ := hM_ok (i := 27) (W := [(5, 27)]) r1 hl t49 rfl (by decide) rfl
  have lo : ∀ m i, m < 79 → ¬ (m = 49 ∧ i = 27) → hget (hM 27 h 49) m i = hget h m i := fun m i hm hn => hM_fr (by omega) hn
  have e27 : hr (hM 27 h 49) 49 27 = h.length := hr_of (hput_at (i := 27) (iHp_ok r1 hl) (tExt_app T iTys _ _ t49) (by decide))
  have g27 := k3.1
  rw [e27] at g27
  have tp := k3.2
  rw [e27] at tp
  have q35 : ∀ q, T[q]? = some 41 → q < h.length := fun q tq => by
    obtain ⟨y, -⟩ := List.getElem?_eq_some_iff.mp tq
    have := r1.1
    omega
  have s26 : ∀ q : Nat, hget (hM 27 h 49) 49 26 = some (.inl (.ref q)) → ∀ d d', d < 29 → d' < 29 → q + d ≠ h.length + d' := fun q hq d d' hd hd' z => by
    rw [lo 49 26 (by decide) (by omega)] at hq
    have := re_blk re (nul_ref r4 hq) d hd
    omega
  refine ⟨k2.1, fun q τ e => tExt_app T iTys _ _ (r2 q τ e), ⟨r0P_eq (fun i hi => lo _ _ (by decide) (by omega)) (fun i _ => lo _ _ (by decide) (by omega)) x0, rNP_eq (fun m i q1 q2 => lo m i (by omega) (fun y => by have := q1 y.1; omega)) x1, ?_, ⟨?_, ?_⟩, rTP_eq (lo _ _ (by decide) (by omega)) (fun i => lo _ _ (by decide) (by omega)) x5, rFP_eq (fun i => lo _ _ (by decide) (by omega)) x6, rSP_eq (fun m i hm => lo m i (by omega) (by omega)) x7⟩, fun m i hm => lo m i (by omega) (by omega), g27, l79, tp, s26, fun q hq d hd z => ?_⟩
  · rcases x2 with ⟨y, z⟩ | ⟨q, S, y1, y2, y3, y4, y5, y6, y7⟩
    · exact Or.inl ⟨by rw [lo 49 26 (by omega) (by omega)]; exact y, z⟩
    · have tq := nul_ref r4 y1
      have eb : ∀ d i, d < 29 → hget (hM 27 h 49) (q + d) i = hget h (q + d) i := fun d i hd => hM_fr (re_blk re tq d hd) (fun z => re_n49 re tq d hd z.1)
      have b4 := nB_4 y6
      refine Or.inr ⟨q, S, by rw [lo 49 26 (by omega) (by omega)]; exact y1, y2, y3, rLy_blk eb y4, ?_, y6, rBt_blk eb y7⟩
      rw [← y5]
      refine rAbs_same ?_ eb
      rw [← y5] at b4
      exact b4
  · exact Or.inr ⟨_, g27, l79, hM_ly l79, fun y => s26 _ y 0 0 (by decide) (by decide) rfl⟩
  · rw [lo 49 35 (by omega) (by omega)]
    rcases x3.2 with y | ⟨q, y1, y2, y3⟩
    · exact Or.inl y
    · exact Or.inr ⟨q, y1, y2, fun g hg => (hr_eq (hM_fr (q35 q (nul_ref r6 y1)) (by omega))).trans (y3 g hg)⟩
  · rw [lo 49 35 (by decide) (by omega)] at hq
    have := q35 q (nul_ref r6 hq)
    omega
theorem run_B (H : HY T T2 h h2 N K C Z E n B R) (hl : T2.length ≤ 900000) {a m : Int32} (wa : ¬ F_X4_isWithin a 0 7 = 0) (l1 : hv h2 50 a.toNatClampNeg = 1) (wm : ¬ F_X4_isWithin m 0 40 = 0) (hz : m.toInt ≤ (Z a.toNatClampNeg).toInt) : ∃ S r k, F_X4_firstWrong h 0 a m 0 = r ∧ F_X5_wrongInB h2 49 (54 + a.toNatClampNeg) m = k ∧ r.1 = k.1 ∧ CX r.2 N K C Z E n B R ∧ fr49 h r.2 ∧ RX k.2 N K C Z E n B R ∧ fr0 h2 k.2 ∧ CM T 17 h S r.2 ∧ WF S ∧ hv k.2 49 40 = nI (sDiff (stN N) (stN S)) ∧ ∃ Tw, hOK kty Tw k.2 ∧ tExt zT0 Tw := by
  obtain ⟨k1, k2, k3, k4, k5, k6, k7, k8, k9⟩ := rx_hM27 H.2.2.1 H.2.2.2.1 hl
  have l79 := re_79 H.2.2.1
  have l1' : hv (hM 27 h2 49) 50 a.toNatClampNeg = 1 := (hv_eq (hM_fr (by omega) (by omega))).trans l1
  obtain ⟨S, r, k, v1, v2, v3, v4, v5, v6, v7, v8⟩ := trial_run H k2 k1 k3 k5 k6 k7 k8 k9 wa l1' wm hz
  exact ⟨S, r, k, v1, v2, v3, v4, v5, v6, fr0_t k4 v7, v8⟩
theorem m_judgeB (H : HY T T2 h h2 N K C Z E n B R) (hl : T2.length ≤ 900000) (a m : Int32) : PR h h2 (F_X4_judge h 0 a m) (F_X5_judgeB h2 49 a m) := m_judgeG H a m (fun h q => F_X5_wrongInB h 49 q m) (fun wa l1 wm hz => run_B H hl wa l1 wm hz)
theorem m_wonB (H : HY T T2 h h2 N K C Z E n B R) (hl : T2.length ≤ 900000) (a m : Int32) : PR h h2 (F_X4_won h 0 a m) (F_X5_wonB h2 49 a m) := m_wonG H a m (fun h q => F_X5_wrongInB h 49 q m) (fun wa l1 wm hz => run_B H hl wa l1 wm hz)
end
