noncomputable def gTill (D : Nat) (h : zH) (a : Int32) : Int32 × zH := letf (J_X5_beginValuesA_j20 h 49 a (61 : Int32)) (fun h2 => (letf (F_X5_standing h2 49) (fun y3 => (fx (B_X5_tillNA_29 D 49 a y3) (0, []) ((0 : Int32), h2)))))
theorem tillB_eq : B_X5_tillB_29 = B_X5_tillNA_29 := rfl
section
variable {T T2 Tv : List Nat} {h h2 h' h2' hv0 : zH} {N N' S : ST} {K : Option ST} {C Z : Nat → Int32} {E : Nat → Nat → Int64} {n : Nat} {B R : Nat → Int32} {p : Nat} {h0 : zH} {A M J : Nat → Int32}
theorem till_sim (w : WF N) (h60 : inN N ≤ 60) (th : TH T h0 h' (lkNs N) A M J) {b : Nat} (hb : b < nB N) (hM : ∀ g m, g ≤ 60 → m < 256 → mkB M g m = decide (0 < vcl N b (N 0 2).toInt (inN N) g m)) (hVp : ∀ g, g ≤ inN N - pcount 8 (stN N) → vcl N b (N 0 2).toInt (inN N) g (stN N) = rvl N b 61 g (stN N)) (hpc : pcount 8 (stN N) ≤ inN N) {hs : zH} {c : Nat} {x : Int32} (hc : hr h' c 3 = 25) {D : Nat} (hD : 131 ≤ D) (v : VS Tv N p b 61 hs h2') :
    (fun (r k : Int32 × zH) => r.2 = h' ∧ r.1 = k.1 ∧ VS Tv N p b 61 hs k.2) (fx (B_X4_till_54 h' c x (nI (stN N)) (nI (inN N - pcount 8 (stN N)))) (0, []) (0 : Int32)) (fx (B_X5_tillNA_29 D 49 x (nI (stN N))) (0, []) ((0 : Int32), h2')) := by
  have s8 : stN N < 256 := own_lt w (-1)
  refine fx_sim (fun j (s : Int32) (t : Int32 × zH) => s = nI j ∧ t.1 = nI j ∧ j ≤ inN N - pcount 8 (stN N) + 1 ∧ VS Tv N p b 61 hs t.2) (fun (r k : Int32 × zH) => r.2 = h' ∧ r.1 = k.1 ∧ VS Tv N p b 61 hs k.2) (inN N - pcount 8 (stN N) + 1) ?_ ?_ ⟨rfl, rfl, Nat.zero_le _, v⟩
  · rintro s ⟨t1, t2⟩ ⟨rfl, q1, -, q2⟩
    dsimp only at q1 q2
    subst q1
    have e1 : nI (inN N - pcount 8 (stN N)) < nI (inN N - pcount 8 (stN N) + 1) := by
      rw [i_lt, nI_t (by omega), nI_t (by omega)]
      omega
    refine ⟨(60, h'), (60, t2), ?_, ?_, rfl, rfl, q2⟩
    · unfold B_X4_till_54
      rw [if_pos e1]
    · unfold B_X5_tillNA_29
      simp only [letf]
      rw [F_bits s8, (vs_rc q2).2.2, nI_sub hpc (by omega), if_pos e1]
  · rintro j s ⟨t1, t2⟩ hj ⟨rfl, q1, -, q2⟩
    dsimp only at q1 q2
    subst q1
    have e1 : ¬ nI (inN N - pcount 8 (stN N)) < nI j := by
      rw [i_lt, nI_t (by omega), nI_t (by omega)]
      omega
    obtain ⟨hx, a1, a2⟩ := vs_value q2 w hb (by decide) (g := j) (m := stN N) (D := D - 1) (by omega) (by omega) (inT_st w) (by omega) (by omega)
    have pb := prL_b w 61
    have vb := VV_b w b (pr := prL N 61) pb.1 (61 - j) (N 0 4 + nI j) (inN N - j) (stN N)
    have vb : 0 ≤ rvl N b 61 j (stN N) ∧ rvl N b 61 j (stN N) ≤ 7992000 * ((61 - j : Nat) : Int) := vb
    have hm := hM j (stN N) (by omega) s8
    rw [hVp j (by omega)] at hm
    have im := c_isMarked th (g := j) (m := stN N) (by omega) s8
    rw [hm] at im
    have zl : (0 : Int64) = lZ 0 := rfl
    have zq : lZ (rvl N b 61 j (stN N)) = (0 : Int64) ↔ rvl N b 61 j (stN N) = 0 := by
      constructor
      · intro y
        have y2 := congrArg Int64.toInt y
        rw [lZ_t (by omega) (by omega)] at y2
        exact y2
      · intro y
        rw [y]
        rfl
    have ec : B_X4_till_54 h' c x (nI (stN N)) (nI (inN N - pcount 8 (stN N))) (nI j) = if rvl N b 61 j (stN N) = 0 then Sum.inr (nI j, h') else Sum.inl (nI j + 1) := by
      unfold B_X4_till_54
      simp only [letf]
      rw [if_neg e1, hc, im]
      by_cases y : rvl N b 61 j (stN N) = 0
      · rw [if_pos y, if_neg (show ¬ decide (0 < rvl N b 61 j (stN N)) = true from fun z => by have := of_decide_eq_true z; omega), if_pos rfl]
      · rw [if_neg y, if_pos (show decide (0 < rvl N b 61 j (stN N)) = true from decide_eq_true (by omega)), if_neg t10]
    have er : B_X5_tillNA_29 D 49 x (nI (stN N)) (nI j, t2) = if rvl N b 61 j (stN N) = 0 then Sum.inr (nI j, hx) else Sum.inl (nI j + 1, hx) := by
      unfold B_X5_tillNA_29
      simp only [letf]
      rw [F_bits s8, (vs_rc q2).2.2, nI_sub hpc (by omega), if_neg e1, a1]
      by_cases y : rvl N b 61 j (stN N) = 0
      · rw [if_pos y, if_pos (zq.mpr y)]
      · rw [if_neg y, if_neg (fun z => y (zq.mp z))]
    rw [ec, er]
    by_cases y : rvl N b 61 j (stN N) = 0
    · rw [if_pos y, if_pos y]
      exact Or.inl ⟨_, _, rfl, rfl, rfl, rfl, a2⟩
    · rw [if_neg y, if_neg y]
      exact Or.inr ⟨_, _, rfl, rfl, nI_s j, nI_s j, by omega, a2⟩
theorem m_till (H : HY T T2 h h2 N K C Z E n B R) (ce : tExt zT0 Tv) (K0 : hOK kty Tv hv0) (x : RX hv0 N K C Z E n B R) (vc : VC Tv hv0 p) (f0 : fr0 h2 hv0) {D : Nat} (hD : 140 ≤ D) (a : Int32) (rr : Int32 × zH) (hr0 : rr = letf (F_X5_isBuyer h2 49 a) (fun y1 => (if y1 = (0 : Int32) then (letf (F_X5_refuse h2 49 (-2 : Int32)) (fun y7 => (y7.1, y7.2))) else gTill D hv0 a))) : PR h h2 (F_X4_till h 0 a) rr := by
  have wf := hw H
  have h3 : hr h 0 3 = 25 := H.2.1.1.2.2.2.1
  have lo := h_lo H
  have sti := st_in wf lo.1 lo.2
  have st8 : stN N < 256 := own_lt wf (-1)
  rw [hr0]
  unfold F_X4_till
  simp only [letf]
  rw [hc0 H, hcB H, hrB H, h3]
  by_cases b : isB N a
  · rw [if_pos b, if_neg t10, if_neg t10]
    have bc := isB_c b
    have hpr := wf.1.2.2.1
    obtain ⟨⟨A, M, k1, k2, k3⟩, x1, x2⟩ := h_fill H (b := a.toNatClampNeg) (dep := inN N) (pr := N 0 2) bc.1 (by omega) (Nat.le_refl _)
    rw [← bc.2] at k1 x1 x2
    have e := h_all H a
    rw [← e] at k1 x1 x2
    have c0 := cx_c0 k1.2.1
    have v1 := vs_begin (b := a.toNatClampNeg) (L := 61) ce K0 x.2.1 vc.1
    obtain ⟨r1, r2, -⟩ := vs_rc v1
    have es := r_std r1
    rw [r2] at es
    have k3 : ∀ g m, g ≤ 60 → m < 256 → mkB M g m = decide (0 < vcl N a.toNatClampNeg (N 0 2).toInt (inN N) g m) := k3
    have key := till_sim wf (inN_60 wf lo.1) k1 bc.1 k3 (fun g hg => val_plan H a.toNatClampNeg g (stN N) (by omega) (sub_rf _) (by omega)) sti (c := 0) (x := a) ((c0 3).trans h3) (D := D) (by omega) v1
    have hy := cx_cc (T := T) ⟨k1.1, H.1.2⟩ x1
    have q1 := c_std hy.1
    have q2 := c_countIn hy.1
    rw [hy.2] at q1 q2
    obtain ⟨s1, s2, s3⟩ := key
    unfold gTill
    simp only [letf]
    rw [c0 0, hc0 H, q1, q2, F_J6_eq _ st8, nI_sub sti (by have := inN_60 wf lo.1; omega)]
    have e61 : (61 : Int32) = nI 61 := rfl
    have ea : J_X5_beginValuesA_j20 hv0 49 a (61 : Int32) = J_X5_beginValuesA_j20 hv0 49 (nI a.toNatClampNeg) (nI 61) := by rw [← bc.2, e61]
    rw [ea, es]
    obtain ⟨z1, z2⟩ := vs_rx s3 vc.2.1 vc.2.2 x
    refine ⟨_, N, K, C, Z, E, n, B, R, ⟨?_, ?_, ?_⟩, ⟨rfl, z1, fun m i hm => (z2 m i hm).trans (f0 m i hm)⟩, H.2.2.2.2⟩
    · exact s2
    · rw [s1]
      exact x1
    · rw [s1]
      exact x2
  · rw [if_neg b, if_pos rfl, if_pos rfl]
    exact pr0 H
theorem m_tillA (H : HY T T2 h h2 N K C Z E n B R) (vc : VC T2 h2 p) {D : Nat} (hD : 150 ≤ D) (a : Int32) : PR h h2 (F_X4_till h 0 a) (F_X5_tillNA D h2 49 a) := m_till H H.2.2.1.2.1 H.2.2.1.1 H.2.2.2.1 vc (fun _ _ _ => rfl) (D := D) (by omega) a _ rfl
end
