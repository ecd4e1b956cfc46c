section
variable {T T2 Tv Tw : List Nat} {h h2 h' h2' hv0 h3 t0 t k0 : zH} {N N' S : ST} {K : Option ST} {C Z C' Z' : Nat → Int32} {E E' : Nat → Nat → Int64} {n : Nat} {B R : Nat → Int32} {p : Nat}
theorem cm_mul {m x : Int32} (hm : 0 ≤ m.toInt ∧ m.toInt ≤ 40) (hx : 1 ≤ x.toInt ∧ x.toInt ≤ 99) : 0 ≤ (m * x).toInt ∧ (m * x).toInt ≤ 3960 := by
  have h1 : 0 ≤ m.toInt * x.toInt := Int.mul_nonneg hm.1 (by omega)
  have h2 : m.toInt * x.toInt ≤ 40 * 99 := Int.mul_le_mul hm.2 hx.2 (by omega) (by decide)
  rw [t_mul (by omega) (by omega)]
  omega
theorem m_bookedG (H : HY T T2 h h2 N K C Z E n B R) (a m b : Int32) (W : zH → Nat → Int32 × zH) (hW : ¬ F_X4_isWithin a 0 7 = 0 → hv h2 50 a.toNatClampNeg = 1 → ¬ F_X4_isWithin m 0 40 = 0 → m.toInt ≤ (Z a.toNatClampNeg).toInt → (0 ≤ b.toInt ∧ b.toInt < 4) → BKR T h h2 N K C Z E n B R a.toNatClampNeg m b (F_X4_firstWrong h 0 a m b) (W h2 (54 + a.toNatClampNeg))) : PR h h2 (F_X4_booked h 0 a m b) (letf (F_X5_in (Int32.toInt64 a) (0 : Int64) (7 : Int64)) (fun y1 => (if y1 = (0 : Int32) then (letf (F_X5_refuse h2 49 (-2 : Int32)) (fun y2 => (y2.1, y2.2))) else (letf (F_X5_in (Int32.toInt64 m) (0 : Int64) (40 : Int64)) (fun y3 => (if y3 = (0 : Int32) then (letf (F_X5_refuse h2 49 (-2 : Int32)) (fun y4 => (y4.1, y4.2))) else (letf (F_X5_isBuyer h2 49 b) (fun y5 => (if y5 = (0 : Int32) then (letf (F_X5_refuse h2 49 (-2 : Int32)) (fun y20 => (y20.1, y20.2))) else (letf (F_X5_noBook h2 49 a m) (fun y6 => (if y6.1 = (0 : Int32) then (letf (W y6.2 (hr y6.2 (hr y6.2 49 3) a.toNatClampNeg)) (fun y9 => (if y9.1 = (-1 : Int32) then (if (hv y9.2 (hr y9.2 49 24) b.toNatClampNeg) < (m * (hv y9.2 49 11)) then (letf (F_X5_refuse y9.2 49 (-5 : Int32)) (fun y19 => (y19.1, y19.2))) else (fx (B_X5_bookedA_95 49 a m b y6.1) (0, []) ((0 : Int32), y9.2))) else (letf (F_X5_refuse y9.2 49 (-5 : Int32)) (fun y10 => (y10.1, y10.2)))))) else (y6.1, y6.2))))))))))))) := by
  have wN := hw H
  unfold F_X4_booked
  simp only [letf]
  rw [hc0 H, hcB H, hrB H, shelf_in, pair_in (a := m) (lo := 0) (hi := 40) (by decide) (by decide)]
  by_cases ib : isB N b
  · rw [if_pos ib, if_neg t10, if_neg t10]
    have b4 : 0 ≤ b.toInt ∧ b.toInt < 4 := ⟨ib.1, by have := (WF_bu wN).2; have := ib.2; omega⟩
    have bc := (isB_c ib).1
    rcases bk_lack H a m with ⟨u1, u2⟩ | ⟨u1, u2⟩ | ⟨u1, u2⟩ | ⟨u1, u2, u3, u4, u5, u6, u7, u8⟩
    · rw [u1, u2, if_neg (show ¬ (-2 : Int32) = 0 by decide), if_neg (show ¬ (F_X5_refuse h2 49 (-2 : Int32)).1 = 0 by rw [rf_a0 H]; decide)]
      by_cases w1 : F_X4_isWithin a 0 7 = 0
      · rw [if_pos w1]
        exact pr0 H
      · rw [if_neg w1]
        by_cases w2 : F_X4_isWithin m 0 40 = 0
        · rw [if_pos w2]
          exact pr0 H
        · rw [if_neg w2]
          exact pr0 H
    · have w1 : ¬ F_X4_isWithin a 0 7 = 0 := fun y => by
        rw [bk_far a m y] at u1
        exact absurd u1 (by decide)
      have w2 : ¬ F_X4_isWithin m 0 40 = 0 := fun y => by
        rw [bk_big a m w1 y] at u1
        exact absurd u1 (by decide)
      rw [if_neg w1, if_neg w2, u1, u2, if_neg (show ¬ (-3 : Int32) = 0 by decide), if_neg (show ¬ (F_X5_refuse h2 49 (-3 : Int32)).1 = 0 by rw [rf_a1 H]; decide)]
      exact pr1 H
    · have w1 : ¬ F_X4_isWithin a 0 7 = 0 := fun y => by
        rw [bk_far a m y] at u1
        exact absurd u1 (by decide)
      have w2 : ¬ F_X4_isWithin m 0 40 = 0 := fun y => by
        rw [bk_big a m w1 y] at u1
        exact absurd u1 (by decide)
      rw [if_neg w1, if_neg w2, u1, u2, if_neg (show ¬ (-4 : Int32) = 0 by decide), if_neg (show ¬ (F_X5_refuse h2 49 (-4 : Int32)).1 = 0 by rw [rf_a2 H]; decide)]
      exact pr2 H
    · have v := win u7
      have v : 0 ≤ m.toInt ∧ m.toInt ≤ 40 := v
      have pr := wN.1.2.2.1
      have cb := cm_mul v pr
      have hWW := hW u3 u5 u7 u8 b4
      rw [if_neg u3, if_neg u7, u1, u2, if_pos rfl]
      dsimp only
      rw [if_pos rfl, row_54 H u4]
      generalize F_X4_firstWrong h 0 a m b = rC at hWW ⊢
      generalize W h2 (54 + a.toNatClampNeg) = rK at hWW ⊢
      obtain ⟨rc1, rc2⟩ := rC
      obtain ⟨rk1, rk2⟩ := rK
      obtain ⟨q1, ⟨q2, q3⟩, ⟨q4, q5⟩, ⟨S, q6, q7, q8, q9⟩, q10, Tw, q11, q12⟩ := hWW
      dsimp only at q1 q2 q3 q4 q5 q6 q7 q8 q9 q10 q11 q12 ⊢
      subst q1
      have rcK : RC Tw rk2 49 := ⟨q11, rlay_49 q12 q4.2.1.1, by rw [q4.2.1.2.1]; exact wN, q4.2.1.2.2.2⟩
      have rmK := RM_of rcK
      rw [q4.2.1.2.1] at rmK
      rw [cm_a7 (hcm H) bc, cm_n2 (hcm H), rm_a7 rmK bc, rm_n2 rmK]
      have d5 : PR h h2 (F_X4_refuse h 0 (-5 : Int32)) (F_X5_refuse rk2 49 (-5 : Int32)) := by
        obtain ⟨a1, a2, a3⟩ := c_rf3 H.1 H.2.1
        obtain ⟨d1, d2, d3⟩ := r_rf3c ⟨q11, q12⟩ q4
        exact ⟨_, N, K, C, Z, E, n, B, _, ⟨a1, a2, a3⟩, ⟨d1, d2, fr0_t q5 d3⟩, H.2.2.2.2⟩
      by_cases c : N 7 b.toNatClampNeg < m * N 0 2
      · rw [if_pos c, if_pos c]
        by_cases y : rc1 = -1
        · rw [if_pos y]
          exact d5
        · rw [if_neg y]
          exact d5
      · rw [if_neg c, if_neg c]
        by_cases y : rc1 = -1
        · rw [if_pos y, if_pos y]
          obtain ⟨s1, s2⟩ := q9 y
          have bS : isB S b := by
            rw [s1]
            exact bk_isB ib _ _
          obtain ⟨c1, c2, c3⟩ := CM_CC q6 q7
          have st := c_std c1
          rw [c2] at st
          have cn := cx_cc (T := T) ⟨c1.1, H.1.2⟩ q2
          have sn := c_std cn.1
          rw [cn.2] at sn
          have g1 : stN N < 256 := own_lt wN (-1)
          have g2 : stN S < 256 := own_lt q7 (-1)
          obtain ⟨r1, r2⟩ := rm_book q4 q11 q12 u4 q10 v ib b4 s2 0
          rw [← s1] at r2
          have e7 : S 7 = N 7 := by
            rw [s1]
            exact bk_c N b _ (by decide) (by decide) (by decide) (by decide) _
          have w1 : WF (payS S b (m * N 0 2)) := WF_pay q7 cb.1 (by
            rw [e7]
            rw [i_lt] at c
            omega)
          have m1 := cm_pay q6 q7 bS (m * N 0 2)
          obtain ⟨c4, c5, c6⟩ := CM_CC m1 w1
          obtain ⟨x1, x2⟩ := cx_tr H.2.1 c6 c4.2.1
          rw [q2.1.1, q2.1.2.2.1, sn, st, s_andnot g1 g2]
          generalize F_X1_pay rc2 17 b (m * N 0 2) = hp at c4 c5 c6 x1 x2 ⊢
          have cr1 : CR T hp 1 (fun d i => hv hp (1 + d) i) (hJ hp 1 7) := ⟨c4.1, clay_of H.1.2 (Or.inl rfl) x1.2.1.1, rfl, rfl⟩
          have m2 := cm_become cr1 (sO_r 1 8 _) c4 (Or.inr (by decide))
          rw [c5] at m2
          obtain ⟨x3, x4⟩ := cx_now x1 m2 w1
          obtain ⟨y1, y2⟩ := rx_now q4 r2 w1
          have nt : nT (payS S b (m * N 0 2)) = nT N := by
            rw [pay_nT, s1]
            exact bk_nT N b _ _
          rw [x1.1.1, x1.1.2.2.1]
          have k1 := fr49_t x2 x4
          have k2 := fr0_t q5 y2
          have k3 := r1.trans q8
          generalize F_X1_become hp 1 17 = hf at x3 k1 ⊢
          generalize fx (B_X5_bookedA_95 49 a m b 0) (0, []) ((0 : Int32), rk2) = rf at y1 k2 k3 ⊢
          refine ⟨nI (sDiff (stN N) (stN S)), payS S b (m * N 0 2), K, C, Z, E, n, B, R, ⟨rfl, x3, k1⟩, ⟨k3, y1, k2⟩, ⟨fun s hs u hu u8 => ?_, ?_, H.2.2.2.2.2.2⟩⟩
          · rw [nt]
            exact H.2.2.2.2.1 s hs u hu u8
          · rw [s1]
            exact own_pay (bk_own (hO H) ib _ _) _ _
        · rw [if_neg y, if_neg y]
          obtain ⟨c1, -, -⟩ := CM_CC q6 q7
          obtain ⟨a1, a2, a3⟩ := c_rf3 ⟨c1.1, H.1.2⟩ q2
          obtain ⟨d1, d2, d3⟩ := r_rf3c ⟨q11, q12⟩ q4
          exact ⟨_, N, K, C, Z, E, n, B, _, ⟨a1, a2, fun m i hm => (a3 m i hm).trans (q3 m i hm)⟩, ⟨d1, d2, fr0_t q5 d3⟩, H.2.2.2.2⟩
  · rw [if_neg ib, if_pos rfl, if_pos rfl]
    by_cases w1 : F_X4_isWithin a 0 7 = 0
    · rw [if_pos w1]
      exact pr0 H
    · rw [if_neg w1]
      by_cases w2 : F_X4_isWithin m 0 40 = 0
      · rw [if_pos w2]
        exact pr0 H
      · rw [if_neg w2]
        exact pr0 H
theorem m_bookedA (H : HY T T2 h h2 N K C Z E n B R) (e : hget h2 49 27 = some (.inl (.ref p))) (a m b : Int32) : PR h h2 (F_X4_booked h 0 a m b) (F_X5_bookedA h2 49 a m b) := m_bookedG H a m b (fun h q => F_X5_wrongInA h 49 q m) (fun wa l1 wm hz hb => by
  obtain ⟨r1, r2, r3, r4, r5, r6⟩ := H.2.2.1
  have tp := nul_ref r5 e
  have x3 := H.2.2.2.1.2.2.2.1
  obtain ⟨hp, ne⟩ : 79 ≤ p ∧ hget h2 49 26 ≠ some (.inl (.ref p)) := by
    rcases x3.1 with y | ⟨q, u1, u2, u3, u4⟩
    · rw [y] at e
      cases e
    · rw [u1] at e
      cases e
      exact ⟨u2, u4⟩
  exact book_run H r2 r1 H.2.2.2.1 e hp tp (fun q hq => bt_sep r3 tp (nul_ref r4 hq) (fun z => ne (by rw [← z]; exact hq))) (fun q hq => bt_41 r3 tp (nul_ref r6 hq)) hb wa l1 wm hz)
theorem m_bookedB (H : HY T T2 h h2 N K C Z E n B R) (hl : T2.length ≤ 900000) (a m b : Int32) : PR h h2 (F_X4_booked h 0 a m b) (F_X5_bookedB h2 49 a m b) := m_bookedG H a m b (fun h q => F_X5_wrongInB h 49 q m) (fun wa l1 wm hz hb => by
  obtain ⟨k1, k2, k3, k4, k5, k6, k7, k8, k9⟩ := rx_hM27 H.2.2.1 H.2.2.2.1 hl
  have l79 := re_79 H.2.2.1
  have l1' : hv (hM 27 h2 49) 50 a.toNatClampNeg = 1 := (hv_eq (hM_fr (by omega) (by omega))).trans l1
  obtain ⟨v1, v2, ⟨v3, v4⟩, v5⟩ := book_run H k2 k1 k3 k5 k6 k7 k8 k9 hb wa l1' wm hz
  exact ⟨v1, v2, ⟨v3, fr0_t k4 v4⟩, v5⟩)
end
