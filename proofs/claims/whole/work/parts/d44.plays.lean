theorem pc_split (m k : Nat) : pcount 8 (sDiff m k) + pcount 8 (m &&& k) = pcount 8 m := by
  rw [pc8_sum, pc8_sum, pc8_sum]
  have key : ∀ n, n ≤ 8 → sumN (nb (sDiff m k)) n + sumN (nb (m &&& k)) n = sumN (nb m) n := by
    intro n
    induction n with
    | zero => exact fun _ => rfl
    | succ n ih =>
      intro hn
      have i := ih (by omega)
      show sumN (nb (sDiff m k)) n + nb (sDiff m k) n + (sumN (nb (m &&& k)) n + nb (m &&& k) n) = sumN (nb m) n + nb m n
      have a1 := nb_lt m n
      have a2 := nb_lt k n
      have e : nb (sDiff m k) n + nb (m &&& k) n = nb m n := by
        rw [nb_diff m k n (by omega), nb_and]
        by_cases y : nb m n = 1
        · by_cases z : nb k n = 1
          · rw [if_neg (show ¬ (nb m n = 1 ∧ nb k n = 0) from fun q => by omega), if_pos ⟨y, z⟩, y]
          · rw [if_pos (show nb m n = 1 ∧ nb k n = 0 from ⟨y, by omega⟩), if_neg (show ¬ (nb m n = 1 ∧ nb k n = 1) from fun q => z q.2), y]
        · rw [if_neg (show ¬ (nb m n = 1 ∧ nb k n = 0) from fun q => y q.1), if_neg (show ¬ (nb m n = 1 ∧ nb k n = 1) from fun q => y q.1)]
          omega
      omega
  exact key 8 (Nat.le_refl _)
theorem VV_dr {S : ST} (w : WF S) (h0 : S 1 0 = 0) (hz : ∀ i, nS S < i → S 1 i = 0) {b r : Nat} {pr : Int} (h : VV S b pr r (S 0 4) (inN S) (stN S) ≠ 0) : drN S ≠ 0 ∧ 0 < inN S := by
  have sti := st_in w h0 hz
  have d := drN_eq w h0 hz
  have sp := pc_split (stN S) (rdN S (S 0 4) (nI (inN S)))
  cases r with
  | zero => exact absurd rfl h
  | succ r =>
    have v : vmany S (S 0 4) (inN S) (stN S) ≠ 0 := fun y => h (by
      show vw S b pr _ (S 0 4) (inN S) (stN S) = 0
      unfold vw
      rw [if_pos y])
    unfold vmany canN at v
    omega
theorem nxt_in {S : ST} (w : WF S) (hd : drN S ≠ 0) {b : Int32} : inN (nxt S b) + 1 = inN S := by
  obtain ⟨a, c⟩ := slp_S w hd
  have c1 : S 1 (slpS S).toNatClampNeg = 1 := by
    unfold drawB at c
    have c := (Bool.and_eq_true _ _).mp ((Bool.and_eq_true _ _).mp c).2
    exact of_decide_eq_true c.1
  have w1 : WF (sdS S) := WF_p6 w _
  have e : inN (sdS S) = inN S := rfl
  rw [← e]
  exact in_draw w1 a c1
theorem nxt_stat (S : ST) (b : Int32) : stat S (nxt S b) := stat_tr (stat_sd S) (stat_draw (sdS S) (slpS S) b)
theorem nxt_2 (S : ST) (b : Int32) : nxt S b 0 2 = S 0 2 := (drawS_0 (by decide)).trans rfl
theorem nxt_4 (S : ST) (b : Int32) : nxt S b 0 4 = S 0 4 + 1 := drawS_04
theorem pay_p2 (S : ST) (b x : Int32) : payS S b x 0 2 = S 0 2 := rfl
theorem pay_p4 (S : ST) (b x : Int32) : payS S b x 0 4 = S 0 4 := rfl
theorem pay_inN (S : ST) (b x : Int32) : inN (payS S b x) = inN S := rfl
theorem mk_same {h h' : zH} (s : sO 1 8 h h') (e : hr h 25 1 = 27) (a b : Int32) : F_X3_isMarked h' 25 a b = F_X3_isMarked h 25 a b := by
  unfold F_X3_isMarked
  simp only [letf]
  rw [hr_eq (s 25 1 (Or.inr (by decide))), e, hv_eq (s 27 _ (Or.inr (by decide)))]
section
variable {T T2 Tv : List Nat} {h h2 h' h2' hv0 : zH} {N N' S : ST} {K : Option ST} {C Z : Nat → Int32} {E : Nat → Nat → Int64} {n : Nat} {B R : Nat → Int32} {p : Nat} {h0 : zH} {A M J : Nat → Int32}
theorem vc_eq (e : ∀ m i, (m = 49 → i = 26 ∨ i = 27 ∨ i = 35) → (m = 49 ∨ m = p) → hget h' m i = hget h m i) (v : VC T h p) : VC T h' p := by
  obtain ⟨v1, v2, v3⟩ := v
  have hp := v1.2.1
  refine ⟨⟨(hr_eq (e 49 35 (fun _ => by omega) (Or.inl rfl))).trans v1.1, hp, fun g hg => ⟨(hr_eq (e p g (fun y => by omega) (Or.inr rfl))).trans (v1.2.2 g hg).1, (v1.2.2 g hg).2⟩⟩, ?_, ?_⟩
  · rw [e 49 26 (fun _ => by omega) (Or.inl rfl)]
    exact v2
  · rw [e 49 27 (fun _ => by omega) (Or.inl rfl)]
    exact v3
theorem vs_vc {b L : Nat} {hs : zH} (v : VS T N p b L hs h) (c : VC T hs p) : VC T h p := by
  obtain ⟨h1, Tb, v1, v2, v3, v4, v5, v6, v7⟩ := v
  have hp := v3.2.1
  refine vc_eq (fun m i q1 q2 => ?_) c
  exact (v5.2.1 m i (by omega)).trans (v7 m i (by omega) (fun y => by have := q1 y; omega))
theorem vc_now {h' : zH} (m : RM T 49 h S h') (w : WF S) (c : VC T h p) : VC T h' p := by
  obtain ⟨q1, q2, q3⟩ := RM_RC m w
  have hp := c.1.2.1
  exact vc_eq (fun m i a b => sQ_at q3 (by by_cases y : m = 49
                                           · have := a y; omega
                                           · exact Or.inl y) (by omega)) c
theorem plays_sim (H : HY T T2 h h2 N K C Z E n B R) (ce : tExt zT0 Tv) {h5 : zH} (th : TH T h h5 (lkNs N) A M J) (m5 : CM T 1 h5 N h5) {a : Int32} (b : isB N a) (hM : ∀ g m, g ≤ 60 → m < 256 → mkB M g m = decide (0 < vcl N a.toNatClampNeg (N 0 2).toInt (inN N) g m)) {D : Nat} (hD : 142 ≤ D) (K0 : hOK kty Tv hv0) (x : RX hv0 N K C Z E n B R) (vc : VC Tv hv0 p) :
    (fun (r k : Int32 × zH) => ∃ S, r.1 = k.1 ∧ CM T 1 h5 S r.2 ∧ WF S ∧ ownS S ∧ nT S = nT N ∧ RX k.2 S K C Z E n B R ∧ fr0 hv0 k.2) (fx (B_X4_plays_32 0 a) (0, []) ((0 : Int32), h5)) (fx (B_X5_playsNA_17 D 49 a) (0, []) ((0 : Int32), hv0)) := by
  have wN := hw H
  have lo := h_lo H
  have h60 := inN_60 wN lo.1
  have sti := st_in wN lo.1 lo.2
  have h3 : hr h5 0 3 = 25 := (cx_c0 th.2.1 3).trans H.2.1.1.2.2.2.1
  have h00 : hr h5 0 0 = 1 := (cx_c0 th.2.1 0).trans (hc0 H)
  have h27 : hr h5 25 1 = 27 := th.2.2.1.2.1
  -- what one round of the reference does
  have ref : ∀ (S : ST) (t : zH), hOK kty Tv t → RX t S K C Z E n B R → VC Tv t p → isB S a → WF S → ∃ t', F_X5_planOfNA (D - 1) t 49 a = (iZ (rvl S a.toNatClampNeg 61 0 (stN S)), t') ∧ RX t' S K C Z E n B R ∧ fr0 t t' ∧ hOK kty Tv t' ∧ VC Tv t' p ∧ RM Tv 49 t' S t' := by
    intro S t k1 k2 k3 k4 k5
    have bc := isB_c k4
    obtain ⟨t', q1, q2, q3, q4⟩ := g_plan ce k1 k2 k3 bc.1 (D := D - 1) (by omega)
    rw [← bc.2] at q1
    obtain ⟨r1, r2, -⟩ := vs_rc q4
    have rm := RM_of r1
    rw [r2] at rm
    exact ⟨t', q1, q2, q3, r1.1, vs_vc q4 k3, rm⟩
  have rb : ∀ (S : ST), WF S → 0 ≤ rvl S a.toNatClampNeg 61 0 (stN S) ∧ rvl S a.toNatClampNeg 61 0 (stN S) ≤ 500000000 := fun S w => rvl_b w _ 61 _ (by decide)
  have re : ∀ (S : ST), rvl S a.toNatClampNeg 61 0 (stN S) = VV S a.toNatClampNeg (S 0 2).toInt 61 (S 0 4) (inN S) (stN S) := by
    intro S
    unfold rvl prL
    rw [if_pos (show 60 < 61 by decide)]
    show VV S a.toNatClampNeg (S 0 2).toInt 61 (S 0 4 + 0) (inN S) (stN S) = _
    rw [Int32.add_zero]
  refine fx_sim (fun j (s t : Int32 × zH) => s.1 = nI j ∧ t.1 = nI j ∧ ∃ S, CM T 1 h5 S s.2 ∧ WF S ∧ isB S a ∧ ownS S ∧ nT S = nT N ∧ stat N S ∧ S 0 2 = N 0 2 ∧ S 0 4 = N 0 4 + nI j ∧ inN S + j = inN N ∧ subS (stN S) (stN N) ∧ hOK kty Tv t.2 ∧ RX t.2 S K C Z E n B R ∧ VC Tv t.2 p ∧ fr0 hv0 t.2) (fun (r k : Int32 × zH) => ∃ S, r.1 = k.1 ∧ CM T 1 h5 S r.2 ∧ WF S ∧ ownS S ∧ nT S = nT N ∧ RX k.2 S K C Z E n B R ∧ fr0 hv0 k.2) 60 ?_ ?_ ⟨rfl, rfl, N, m5, wN, b, hO H, rfl, stat_rf N, rfl, (Int32.add_zero _).symm, rfl, sub_rf _, K0, x, vc, fr0_r⟩
  · rintro ⟨s1, s2⟩ ⟨t1, t2⟩ ⟨e1, e2, S, c1, c2, c3, co, c4, c5, c6, c7, c8, c9, d1, d2, d3, d4⟩
    have e1 : s1 = nI 60 := e1
    have e2 : t1 = nI 60 := e2
    subst e1
    subst e2
    have c1 : CM T 1 h5 S s2 := c1
    have d1 : hOK kty Tv t2 := d1
    have d2 : RX t2 S K C Z E n B R := d2
    have d3 : VC Tv t2 p := d3
    have d4 : fr0 hv0 t2 := d4
    obtain ⟨f1, f2, -⟩ := CM_CC c1 c2
    have lS : S 1 0 = 0 ∧ ∀ i, nS S < i → S 1 i = 0 := by
      rw [← f2]
      exact ⟨cAbs_10 _ _, cAbs_hi _ _⟩
    obtain ⟨t', q1, q2, q3, -, -, -⟩ := ref S t2 d1 d2 d3 c3 c2
    have z : rvl S a.toNatClampNeg 61 0 (stN S) = 0 := by
      by_cases y : rvl S a.toNatClampNeg 61 0 (stN S) = 0
      · exact y
      · rw [re S] at y
        have := (VV_dr c2 lS.1 lS.2 y).2
        omega
    have ec : B_X4_plays_32 0 a (nI 60, s2) = Sum.inr (nI 60, s2) := by
      unfold B_X4_plays_32
      rw [if_neg (show ¬ nI 60 < (60 : Int32) by decide)]
    rw [ec]
    have er : ∃ t3, B_X5_playsNA_17 D 49 a (nI 60, t2) = Sum.inr (nI 60, t3) ∧ RX t3 S K C Z E n B R ∧ fr0 t2 t3 := by
      unfold B_X5_playsNA_17
      simp only [letf]
      by_cases y : hv t2 (hr t2 49 24) a.toNatClampNeg < hv t2 49 11
      · rw [if_pos y]
        exact ⟨t2, rfl, d2, fr0_r⟩
      · rw [if_neg y, q1, z, if_neg (show ¬ (0 : Int32) < iZ 0 by decide)]
        exact ⟨t', rfl, q2, q3⟩
    obtain ⟨t3, g1, g2, g3⟩ := er
    exact ⟨_, _, rfl, g1, S, rfl, c1, c2, co, c4, g2, fr0_t d4 g3⟩
  · rintro j ⟨s1, s2⟩ ⟨t1, t2⟩ hj ⟨e1, e2, S, c1, c2, c3, co, c4, c5, c6, c7, c8, c9, d1, d2, d3, d4⟩
    have e1 : s1 = nI j := e1
    have e2 : t1 = nI j := e2
    subst e1
    subst e2
    have c1 : CM T 1 h5 S s2 := c1
    have d1 : hOK kty Tv t2 := d1
    have d2 : RX t2 S K C Z E n B R := d2
    have d3 : VC Tv t2 p := d3
    have d4 : fr0 hv0 t2 := d4
    have bc := isB_c c3
    obtain ⟨f1, f2, f3⟩ := CM_CC c1 c2
    have lS : S 1 0 = 0 ∧ ∀ i, nS S < i → S 1 i = 0 := by
      rw [← f2]
      exact ⟨cAbs_10 _ _, cAbs_hi _ _⟩
    have stS := st_in c2 lS.1 lS.2
    have sS : stN S < 256 := own_lt c2 (-1)
    obtain ⟨t', q1, q2, q3, q4, q5, q6⟩ := ref S t2 d1 d2 d3 c3 c2
    have rm2 : RM Tv 49 t2 S t2 := by
      have r1 : RC Tv t2 49 := ⟨d1, rlay_49 ce d2.2.1.1, by rw [d2.2.1.2.1]; exact c2, d2.2.1.2.2.2⟩
      have := RM_of r1
      rw [d2.2.1.2.1] at this
      exact this
    have vv : vcl N a.toNatClampNeg (N 0 2).toInt (inN N) j (stN S) = rvl S a.toNatClampNeg 61 0 (stN S) := by
      rw [re S, stat_VV c5, c6, c7]
      unfold vcl
      have ei : inN N - j = inN S := by omega
      rw [if_pos (show sDiff (stN S) (stN N) = 0 ∧ pcount 8 (stN S) ≤ inN N - j from ⟨c9, by omega⟩), ei]
      exact VV_more wN _ _ _ _ _ _ _ (Nat.le_refl _) (by omega) stS
    have hm := hM j (stN S) (by omega) sS
    rw [vv] at hm
    have im := c_isMarked th (g := j) (m := stN S) (by omega) sS
    rw [hm] at im
    have hj60 : nI j < (60 : Int32) := by
      have e60 : (60 : Int32) = nI 60 := rfl
      rw [e60, i_lt, nI_t (by omega), nI_t (by decide)]
      omega
    have k0 : hr s2 0 0 = 1 := (cm_c0 c1 0).trans h00
    have k3 : hr s2 0 3 = 25 := (cm_c0 c1 3).trans h3
    have rbS := rb S c2
    have rpos : (0 : Int32) < iZ (rvl S a.toNatClampNeg 61 0 (stN S)) ↔ 0 < rvl S a.toNatClampNeg 61 0 (stN S) := by
      rw [i_lt, iZ_t (by omega) (by omega), e0]
    unfold B_X4_plays_32 B_X5_playsNA_17
    simp only [letf]
    rw [if_pos hj60, k0, k3, cm_a7 c1 bc.1, cm_n2 c1, rm_a7 rm2 bc.1, rm_n2 rm2, cm_std c1 c2, mk_same f3 h27, im, q1]
    by_cases y : S 7 a.toNatClampNeg < S 0 2
    · rw [if_pos y, if_pos y]
      exact Or.inl ⟨_, _, rfl, rfl, S, rfl, c1, c2, co, c4, d2, d4⟩
    · rw [if_neg y, if_neg y]
      by_cases z : 0 < rvl S a.toNatClampNeg 61 0 (stN S)
      · rw [if_pos (show decide (0 < rvl S a.toNatClampNeg 61 0 (stN S)) = true from decide_eq_true z), if_neg t10, if_pos (rpos.mpr z)]
        have dr : drN S ≠ 0 := by
          refine (VV_dr (b := a.toNatClampNeg) (r := 61) (pr := (S 0 2).toInt) c2 lS.1 lS.2 ?_).1
          rw [← re S]
          omega
        have hp : (S 0 2).toInt ≤ (S 7 a.toNatClampNeg).toInt := by
          rw [i_lt] at y
          omega
        have pr := c2.1.2.2.1
        have w1 : WF (payS S a (S 0 2)) := WF_pay c2 (by omega) hp
        have dr1 : drN (payS S a (S 0 2)) ≠ 0 := by
          rw [drN_congr (eqD_pay S a (S 0 2))]
          exact dr
        have m1 := cm_pay c1 c2 c3 (S 0 2)
        obtain ⟨u1, u2, u3⟩ := cm_nxt m1 w1 dr1 (b := a) c3
        obtain ⟨u4, u5⟩ := rm_goesOne q6 c2 c3 dr hp
        have w2 := nxt_WF w1 dr1 (b := a) c3
        obtain ⟨x1, x2⟩ := rx_now q2 u5 w2
        rw [(cm_c0 m1 0).trans h00, u1, nI_s]
        refine Or.inr ⟨_, _, rfl, rfl, rfl, rfl, nxt (payS S a (S 0 2)) a, u3, w2, isB_nxt c3, own_nxt (own_pay co a (S 0 2)) c3, nxt_nT.trans c4, stat_tr (stat_tr c5 (stat_pay S a (S 0 2))) (nxt_stat _ a), (nxt_2 _ a).trans c6, ?_, ?_, ?_, (RM_RC u5 w2).1.1, x1, vc_now u5 w2 q5, fr0_t d4 (fr0_t q3 x2)⟩
        · rw [nxt_4, pay_p4, c7, Int32.add_assoc, nI_s]
        · have := nxt_in w1 dr1 (b := a)
          rw [pay_inN] at this
          omega
        · obtain ⟨v1, v2, v3⟩ := nxt_st w1 (b := a) c3
          rw [v1]
          exact sub_diff c9
      · rw [if_neg (show ¬ decide (0 < rvl S a.toNatClampNeg 61 0 (stN S)) = true from fun q => z (of_decide_eq_true q)), if_pos rfl, if_neg (fun q => z (rpos.mp q))]
        exact Or.inl ⟨_, _, rfl, rfl, S, rfl, c1, c2, co, c4, q2, fr0_t d4 q3⟩
end
section
variable {T T2 Tv : List Nat} {h h2 h' h2' hv0 : zH} {N N' S : ST} {K : Option ST} {C Z : Nat → Int32} {E : Nat → Nat → Int64} {n : Nat} {B R : Nat → Int32} {p : Nat}
theorem m_plays (H : HY T T2 h h2 N K C Z E n B R) (ce : tExt zT0 Tv) (K0 : hOK kty Tv hv0) (x : RX hv0 N K C Z E n B R) (vc : VC Tv hv0 p) (f0 : fr0 h2 hv0) {D : Nat} (hD : 142 ≤ D) (a : Int32) (rr rest : Int32 × zH) (hr0 : rr = letf (F_X5_isBuyer h2 49 a) (fun y1 => (if y1 = (0 : Int32) then (letf (F_X5_refuse h2 49 (-2 : Int32)) (fun y6 => (y6.1, y6.2))) else rest))) (hrest : isB N a → rest = fx (B_X5_playsNA_17 D 49 a) (0, []) ((0 : Int32), hv0) ∨ (N 7 a.toNatClampNeg < N 0 2 ∧ rest = (0, h2))) : PR h h2 (F_X4_plays h 0 a) rr := by
  have wf := hw H
  have h3 : hr h 0 3 = 25 := H.2.1.1.2.2.2.1
  rw [hr0]
  unfold F_X4_plays
  simp only [letf]
  rw [hc0 H, hcB H, hrB H, h3]
  by_cases b : isB N a
  · rw [if_pos b, if_neg t10, if_neg t10]
    have bc := isB_c b
    have hpr := wf.1.2.2.1
    obtain ⟨⟨A, M, k1, k2, k3⟩, x1, x2⟩ := h_fill H (b := a.toNatClampNeg) (dep := inN N) (pr := N 0 2) bc.1 (by omega) (Nat.le_refl _)
    rw [← bc.2] at k1 x1 x2
    have e := h_all H a
    rw [← e] at k1 x1 x2
    have hy := cx_cc (T := T) ⟨k1.1, H.1.2⟩ x1
    have m5 := CM_of hy.1
    rw [hy.2] at m5
    rcases hrest b with q | ⟨q1, q2⟩
    · obtain ⟨S, s1, s2, s3, so, s4, s5, s6⟩ := plays_sim H ce k1 m5 b k3 hD K0 x vc
      rw [q]
      obtain ⟨z1, z2⟩ := cx_now x1 s2 s3
      exact ⟨_, S, K, C, Z, E, n, B, R, ⟨s1, z1, fun m i hm => (z2 m i hm).trans (x2 m i hm)⟩, ⟨rfl, s5, fr0_t f0 s6⟩, ⟨fun s hs u hu u8 => Nat.lt_of_lt_of_le (H.2.2.2.2.1 s hs u hu u8) (Nat.le_of_eq s4.symm), so, H.2.2.2.2.2.2⟩⟩
    · rw [q2]
      have ec : B_X4_plays_32 0 a ((0 : Int32), F_X3_thinkOfAll h 25 1 a) = Sum.inr ((0 : Int32), F_X3_thinkOfAll h 25 1 a) := by
        unfold B_X4_plays_32
        dsimp only
        rw [if_pos (show (0 : Int32) < 60 by decide), (cx_c0 k1.2.1 0).trans (hc0 H), cm_a7 m5 bc.1, cm_n2 m5, if_pos q1]
      rw [fx_stop ec]
      exact ⟨_, N, K, C, Z, E, n, B, R, ⟨rfl, x1, x2⟩, ⟨rfl, H.2.2.2.1, fr0_r⟩, H.2.2.2.2⟩
  · rw [if_neg b, if_pos rfl, if_pos rfl]
    exact pr0 H
theorem m_playsA (H : HY T T2 h h2 N K C Z E n B R) (vc : VC T2 h2 p) {D : Nat} (hD : 150 ≤ D) (a : Int32) : PR h h2 (F_X4_plays h 0 a) (F_X5_playsNA D h2 49 a) := m_plays H H.2.2.1.2.1 H.2.2.1.1 H.2.2.2.1 vc fr0_r (D := D) (by omega) a _ _ rfl (fun _ => Or.inl rfl)
end
