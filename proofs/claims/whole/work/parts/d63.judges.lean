section
variable {T T2 Tv : List Nat} {h h2 h' h2' hv0 h3 t0 t : zH} {N N' S : ST} {K : Option ST} {C Z C' Z' : Nat → Int32} {E E' : Nat → Nat → Int64} {n : Nat} {B R : Nat → Int32} {p : Nat}
theorem r_rf3c {T : List Nat} {h : zH} (ce : CE T h) (x : RX h N K C Z E n B R) : rO h N K C Z E n B (rfR R 3) (-5) (F_X5_refuse h 49 (-5 : Int32)) := by
  have e : F_X5_refuse h 49 (-5 : Int32) = ((-5 : Int32), hput h 65 (3 + 2) (.inl (.int (hv h 65 (3 + 2) + 1)))) := by
    have h2 : (-(-5 : Int32)).toNatClampNeg = 3 + 2 := by decide
    unfold F_X5_refuse
    simp only [letf]
    rw [h2, x.1.1.2.2.2.2.2.2.2.1]
  have t65 := zT_at ce.2 (q := 65) (τ := 30) rfl
  have g := k_int ce.1 t65 (i := 3 + 2) (by decide) rfl
  rw [e]
  refine ⟨rfl, rx_rf x (fun m i hm => hget_put_ne (Or.inl hm)) (fun i hi => ?_)⟩
  unfold rfR
  by_cases y : i = 3
  · rw [if_pos y, y, hv_put g]
    exact congrArg (· + 1) (x.2.2.2.2.2.1 3 (by decide))
  · rw [if_neg y, hv_ne (Or.inr (by omega))]
    exact x.2.2.2.2.2.1 i hi
theorem row_54 (H : HY T T2 h h2 N K C Z E n B R) {a : Int32} (hs : a.toNatClampNeg < 8) : hr h2 (hr h2 49 3) a.toNatClampNeg = 54 + a.toNatClampNeg := by
  rw [H.2.2.2.1.1.1.2.2.2.1]
  exact H.2.2.2.1.1.2 _ hs
theorem m_judgeG (H : HY T T2 h h2 N K C Z E n B R) (a m : Int32) (W : zH → Nat → Int32 × zH) (hW : ¬ F_X4_isWithin a 0 7 = 0 → hv h2 50 a.toNatClampNeg = 1 → ¬ F_X4_isWithin m 0 40 = 0 → m.toInt ≤ (Z a.toNatClampNeg).toInt → ∃ S r k, F_X4_firstWrong h 0 a m 0 = r ∧ W h2 (54 + a.toNatClampNeg) = k ∧ r.1 = k.1 ∧ CX r.2 N K C Z E n B R ∧ fr49 h r.2 ∧ RX k.2 N K C Z E n B R ∧ fr0 h2 k.2 ∧ CM T 17 h S r.2 ∧ WF S ∧ hv k.2 49 40 = nI (sDiff (stN N) (stN S)) ∧ ∃ Tw, hOK kty Tw k.2 ∧ tExt zT0 Tw) : PR h h2 (F_X4_judge h 0 a m) (letf (F_X5_noBook h2 49 a m) (fun y1 => (if y1.1 = (0 : Int32) then (letf (W y1.2 (hr y1.2 (hr y1.2 49 3) a.toNatClampNeg)) (fun y4 => (y4.1, y4.2))) else (y1.1, y1.2)))) := by
  unfold F_X4_judge
  simp only [letf]
  rcases bk_lack H a m with ⟨u1, u2⟩ | ⟨u1, u2⟩ | ⟨u1, u2⟩ | ⟨u1, u2, u3, u4, u5, u6, u7, u8⟩
  · rw [u1, u2, if_neg (show ¬ (-2 : Int32) = 0 by decide), if_neg (show ¬ (F_X5_refuse h2 49 (-2 : Int32)).1 = 0 by rw [rf_a0 H]; decide)]
    exact pr0 H
  · rw [u1, u2, if_neg (show ¬ (-3 : Int32) = 0 by decide), if_neg (show ¬ (F_X5_refuse h2 49 (-3 : Int32)).1 = 0 by rw [rf_a1 H]; decide)]
    exact pr1 H
  · rw [u1, u2, if_neg (show ¬ (-4 : Int32) = 0 by decide), if_neg (show ¬ (F_X5_refuse h2 49 (-4 : Int32)).1 = 0 by rw [rf_a2 H]; decide)]
    exact pr2 H
  · obtain ⟨S, r, k, v1, v2, v3, v4, v5, v6, v7, -, -, -⟩ := hW u3 u5 u7 u8
    rw [u1, u2, if_pos rfl]
    dsimp only
    rw [if_pos rfl, row_54 H u4, v1, v2]
    exact ⟨_, N, K, C, Z, E, n, B, R, ⟨v3, v4, v5⟩, ⟨rfl, v6, v7⟩, H.2.2.2.2⟩
theorem m_wonG (H : HY T T2 h h2 N K C Z E n B R) (a m : Int32) (W : zH → Nat → Int32 × zH) (hW : ¬ F_X4_isWithin a 0 7 = 0 → hv h2 50 a.toNatClampNeg = 1 → ¬ F_X4_isWithin m 0 40 = 0 → m.toInt ≤ (Z a.toNatClampNeg).toInt → ∃ S r k, F_X4_firstWrong h 0 a m 0 = r ∧ W h2 (54 + a.toNatClampNeg) = k ∧ r.1 = k.1 ∧ CX r.2 N K C Z E n B R ∧ fr49 h r.2 ∧ RX k.2 N K C Z E n B R ∧ fr0 h2 k.2 ∧ CM T 17 h S r.2 ∧ WF S ∧ hv k.2 49 40 = nI (sDiff (stN N) (stN S)) ∧ ∃ Tw, hOK kty Tw k.2 ∧ tExt zT0 Tw) : PR h h2 (F_X4_won h 0 a m) (letf (F_X5_noBook h2 49 a m) (fun y1 => (if y1.1 = (0 : Int32) then (letf (W y1.2 (hr y1.2 (hr y1.2 49 3) a.toNatClampNeg)) (fun y4 => (if y4.1 = (-1 : Int32) then ((hv y4.2 49 40), y4.2) else (letf (F_X5_refuse y4.2 49 (-5 : Int32)) (fun y5 => (y5.1, y5.2)))))) else (y1.1, y1.2)))) := by
  unfold F_X4_won
  simp only [letf]
  rcases bk_lack H a m with ⟨u1, u2⟩ | ⟨u1, u2⟩ | ⟨u1, u2⟩ | ⟨u1, u2, u3, u4, u5, u6, u7, u8⟩
  · rw [u1, u2, if_neg (show ¬ (-2 : Int32) = 0 by decide), if_neg (show ¬ (F_X5_refuse h2 49 (-2 : Int32)).1 = 0 by rw [rf_a0 H]; decide)]
    exact pr0 H
  · rw [u1, u2, if_neg (show ¬ (-3 : Int32) = 0 by decide), if_neg (show ¬ (F_X5_refuse h2 49 (-3 : Int32)).1 = 0 by rw [rf_a1 H]; decide)]
    exact pr1 H
  · rw [u1, u2, if_neg (show ¬ (-4 : Int32) = 0 by decide), if_neg (show ¬ (F_X5_refuse h2 49 (-4 : Int32)).1 = 0 by rw [rf_a2 H]; decide)]
    exact pr2 H
  · obtain ⟨S, r, k, v1, v2, v3, v4, v5, v6, v7, v8, v9, v10, Tw, w1, w2⟩ := hW u3 u5 u7 u8
    obtain ⟨c1, c2, c3⟩ := CM_CC v8 v9
    have st := c_std c1
    rw [c2] at st
    have cn := cx_cc (T := T) ⟨c1.1, H.1.2⟩ v4
    have sn := c_std cn.1
    rw [cn.2] at sn
    have b1 : stN N < 256 := own_lt (hw H) (-1)
    have b2 : stN S < 256 := own_lt v9 (-1)
    rw [u1, u2, if_pos rfl]
    dsimp only
    rw [if_pos rfl, row_54 H u4, v1, v2, v4.1.1, v4.1.2.2.1, sn, st, s_andnot b1 b2, v10, v3]
    by_cases y : k.1 = -1
    · rw [if_pos y, if_pos y]
      exact ⟨_, N, K, C, Z, E, n, B, R, ⟨rfl, v4, v5⟩, ⟨rfl, v6, v7⟩, H.2.2.2.2⟩
    · rw [if_neg y, if_neg y]
      obtain ⟨a1, a2, a3⟩ := c_rf3 ⟨c1.1, H.1.2⟩ v4
      obtain ⟨d1, d2, d3⟩ := r_rf3c ⟨w1, w2⟩ v6
      exact ⟨_, N, K, C, Z, E, n, B, _, ⟨a1, a2, fun m i hm => (a3 m i hm).trans (v5 m i hm)⟩, ⟨d1, d2, fr0_t v7 d3⟩, H.2.2.2.2⟩
end
