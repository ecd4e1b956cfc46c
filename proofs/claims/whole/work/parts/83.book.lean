theorem wOK_up {Φ : List Nat → zH → Prop} {N N' : Nat} {T : List Nat} {h : zH} (ok : wOK Φ N T h) (hn : N ≤ N') : wOK Φ N' T h := ⟨ok.1, ok.2.1, Nat.le_trans ok.2.2 hn⟩
theorem c_noBook {P : pP} {N : Nat} {scr : List zV} {d : Nat} {T : List Nat} {h : zH} {s n : Int32} {post : Option zV → zH → Bool} (IH : tBel (zPhi P) scr 2) (hd : 2 ≤ d) (ok : wOK (zPhi P) N T h) (kk : ∀ (r : Int32) (T' : List Nat) (h' : zH), tExt T T' → wOK (zPhi P) N T' h' → (r.toInt = 0 → 0 ≤ s.toInt ∧ s.toInt ≤ 7 ∧ 0 ≤ n.toInt ∧ n.toInt ≤ 40) → post (some (.inl (.int r))) h' = true) : zD zprog scr (d + 1) 201 [.inl (.ref 49), .inl (.int s), .inl (.int n)] h post = true := by
  obtain ⟨d, rfl⟩ : ∃ d', d = d' + 1 := ⟨d - 1, by omega⟩
  have hq_q := ok.2.1.1.2.2.1
  have hst := p_stab P
  refine zD_intro (E := ze_X5_noBook) rfl rfl (fun G HW => ?_)
  refine zrn_ok HW 4 (zB_iff.mpr (?_ : G (6, [(0, .inl (.ref 49)), (1, .inl (.int s)), (2, .inl (.int n))], [.inl (.long (7 : Int64)), .inl (.long (0 : Int64)), .inl (.long (Int32.toInt64 s))], h, 0, 0)))
  refine g_callS (b := 0) (E' := ze_X5_in) HW (Or.inl rfl) rfl rfl (Nat.le_of_ble_eq_true rfl) (Nat.le_of_ble_eq_true rfl) (Nat.le_of_ble_eq_true rfl) (Nat.le_of_ble_eq_true rfl) (c_in (fun a1 b1 => zB_iff.mpr ?_) (fun n1 => zB_iff.mpr ?_))
  · show G (9, [(0, .inl (.ref 49)), (1, .inl (.int s)), (2, .inl (.int n))], [.inl (.int (1 : Int32))], h, 0, 0)
    have a1 : (0 : Int) ≤ s.toInt := by have r0 : (Int32.toInt64 s).toInt = s.toInt := q_i2l _; have r1 : (0 : Int64).toInt = 0 := rfl; have r2 : (7 : Int64).toInt = 7 := rfl; omega
    have b1 : s.toInt ≤ (7 : Int) := by have r0 : (Int32.toInt64 s).toInt = s.toInt := q_i2l _; have r1 : (0 : Int64).toInt = 0 := rfl; have r2 : (7 : Int64).toInt = 7 := rfl; omega
    refine zrn_ok HW 5 (zB_iff.mpr (?_ : G (18, [(0, .inl (.ref 49)), (1, .inl (.int s)), (2, .inl (.int n))], [.inl (.long (40 : Int64)), .inl (.long (0 : Int64)), .inl (.long (Int32.toInt64 n))], h, 0, 0)))
    refine g_callS (b := 0) (E' := ze_X5_in) HW (Or.inl rfl) rfl rfl (Nat.le_of_ble_eq_true rfl) (Nat.le_of_ble_eq_true rfl) (Nat.le_of_ble_eq_true rfl) (Nat.le_of_ble_eq_true rfl) (c_in (fun a2 b2 => zB_iff.mpr ?_) (fun n2 => zB_iff.mpr ?_))
    · show G (21, [(0, .inl (.ref 49)), (1, .inl (.int s)), (2, .inl (.int n))], [.inl (.int (1 : Int32))], h, 0, 0)
      have a2 : (0 : Int) ≤ n.toInt := by have r0 : (Int32.toInt64 n).toInt = n.toInt := q_i2l _; have r1 : (0 : Int64).toInt = 0 := rfl; have r2 : (40 : Int64).toInt = 40 := rfl; omega
      have b2 : n.toInt ≤ (40 : Int) := by have r0 : (Int32.toInt64 n).toInt = n.toInt := q_i2l _; have r1 : (0 : Int64).toInt = 0 := rfl; have r2 : (40 : Int64).toInt = 40 := rfl; omega
      refine zrn_ok HW 3 (zB_iff.mpr (?_ : G (33, [(0, .inl (.ref 49)), (1, .inl (.int s)), (2, .inl (.int n))], [.inl (.int s), .inl (.ref 49)], h, 0, 0)))
      refine g_callV (E' := ze_X5_noRow) HW rfl rfl (Nat.le_of_ble_eq_true rfl) (Nat.le_of_ble_eq_true rfl) (Nat.le_of_ble_eq_true rfl) ok.1 rfl hq_q rfl (Nat.le_of_ble_eq_true rfl) (c_noRow (tBel_le IH (D1 := 1) (by decide)) (by omega) (by decide) ok (fun r3 T3 h3 m3 ok3 f3 => zB_iff.mpr ?_))
      show G (36, [(0, .inl (.ref 49)), (1, .inl (.int s)), (2, .inl (.int n))], [.inl (.int r3)], h3, 0, 0)
      have f3 : r3.toInt = 0 → 0 ≤ s.toInt ∧ s.toInt ≤ 7 := f3
      have hq_q := m3 _ _ hq_q
      refine zrn_ok HW 3 (zbr_ex (cd := .eq) (x := r3) (y := (0 : Int32)) (fun hc4 => zB_iff.mpr ?_) (fun hc4 => zB_iff.mpr ?_))
      · -- pc 43
        have i4 : r3.toInt = (0 : Int) := zop_int.mp hc4
        refine zrn_ok HW 1 (zB_iff.mpr (?_ : G (44, [(3, .inl (.int r3)), (0, .inl (.ref 49)), (1, .inl (.int s)), (2, .inl (.int n))], [.inl (.ref 49)], h3, 0, 0)))
        have o6 : hget h3 49 2 = some (.inl (.ref 52)) := ((ok3.2.1.2.1 49 5 hq_q (Or.inl rfl)).1.1 (2, 3, 26) (by decide +kernel)).1
        have t6 : T3[52]? = some 26 := ((ok3.2.1.2.1 49 5 hq_q (Or.inl rfl)).1.1 (2, 3, 26) (by decide +kernel)).2
        refine g_getf HW rfl ok3.1 hq_q rfl o6 ?_
        refine zrn_ok HW 1 (zB_iff.mpr (?_ : G (48, [(3, .inl (.int r3)), (0, .inl (.ref 49)), (1, .inl (.int s)), (2, .inl (.int n))], [.inl (.int s), .inl (.ref 52)], h3, 0, 0)))
        obtain ⟨x7, g7, e7, l7, u7⟩ := hi_val (i := (s).toInt.toNat) ok3.1 t6 (by show _ < 8; omega) rfl
        have l7 : (0 : Int) ≤ x7.toInt := l7
        have u7 : x7.toInt ≤ (40 : Int) := u7
        refine g_iald HW rfl ok3.1 t6 rfl (by omega) g7 ?_
        refine zrn_ok HW 2 (zbr_ex (cd := .ge) (x := x7) (y := n) (fun hc8 => zB_iff.mpr ?_) (fun hc8 => zB_iff.mpr ?_))
        · -- pc 62
          have i8 : x7.toInt ≥ n.toInt := zop_int.mp hc8
          refine zrn_ok HW 2 ?_
          exact zret_i rfl rfl (kk (0 : Int32) T3 h3 (tExt_tr (tExt_rf T) m3) ok3 (fun e => ⟨by omega, by omega, by omega, by omega⟩))
        · -- pc 53
          have i8 : ¬ (x7.toInt ≥ n.toInt) := fun e => hc8 (zop_int.mpr e)
          refine zrn_ok HW 2 (zB_iff.mpr (?_ : G (56, [(3, .inl (.int r3)), (0, .inl (.ref 49)), (1, .inl (.int s)), (2, .inl (.int n))], [.inl (.int (-2 : Int32)), .inl (.ref 49)], h3, 0, 0)))
          refine g_tV (e := te_X5_refuse_0) (E' := ze_X5_refuse) HW (tLow_of IH hd) rfl rfl (show te_X5_refuse_0 ∈ [te_X5_refuse_0] from List.mem_cons_self) (by decide +kernel) (Nat.le_of_ble_eq_true rfl) ⟨rfl, rfl⟩ (by decide) ok3.1 ok3.2.1 rfl hq_q rfl (Nat.le_of_ble_eq_true rfl) ⟨⟨_, rfl, hq_q⟩, okA_I (by decide) (by decide), trivial⟩ (fun v9 T9 h9 m9 k9 f9 lh9 r9 => ?_)
          obtain ⟨w9, rfl, hw9, cd9⟩ := r9
          obtain ⟨x9, rfl, l9, u9⟩ := tint_sp rfl hw9
          have l9 : ((-6) : Int) ≤ x9.toInt := l9
          have u9 : x9.toInt ≤ ((-2) : Int) := u9
          have ok9 : wOK (zPhi P) N T9 h9 := ⟨k9, f9, Nat.le_trans lh9 ok3.2.2⟩
          have hq_q := m9 _ _ hq_q
          have t6 := m9 _ _ t6
          show G (59, [(3, .inl (.int r3)), (0, .inl (.ref 49)), (1, .inl (.int s)), (2, .inl (.int n))], [.inl (.int x9)], h9, 0, 0)
          refine zrn_ok HW 2 ?_
          exact zret_i rfl rfl (kk x9 T9 h9 (tExt_tr (tExt_tr (tExt_rf T) m3) m9) ok9 (fun e => by omega))
      · -- pc 41
        have i4 : ¬ (r3.toInt = (0 : Int)) := fun e => hc4 (zop_int.mpr e)
        refine zrn_ok HW 2 ?_
        exact zret_i rfl rfl (kk r3 T3 h3 (tExt_tr (tExt_rf T) m3) ok3 (fun e => by omega))
    · show G (21, [(0, .inl (.ref 49)), (1, .inl (.int s)), (2, .inl (.int n))], [.inl (.int (0 : Int32))], h, 0, 0)
      have n2 : ¬ ((0 : Int) ≤ n.toInt ∧ n.toInt ≤ (40 : Int)) := by have r0 : (Int32.toInt64 n).toInt = n.toInt := q_i2l _; have r1 : (0 : Int64).toInt = 0 := rfl; have r2 : (40 : Int64).toInt = 40 := rfl; omega
      refine zrn_ok HW 3 (zB_iff.mpr (?_ : G (27, [(0, .inl (.ref 49)), (1, .inl (.int s)), (2, .inl (.int n))], [.inl (.int (-2 : Int32)), .inl (.ref 49)], h, 0, 0)))
      refine g_tV (e := te_X5_refuse_0) (E' := ze_X5_refuse) HW (tLow_of IH hd) rfl rfl (show te_X5_refuse_0 ∈ [te_X5_refuse_0] from List.mem_cons_self) (by decide +kernel) (Nat.le_of_ble_eq_true rfl) ⟨rfl, rfl⟩ (by decide) ok.1 ok.2.1 rfl hq_q rfl (Nat.le_of_ble_eq_true rfl) ⟨⟨_, rfl, hq_q⟩, okA_I (by decide) (by decide), trivial⟩ (fun v10 T10 h10 m10 k10 f10 lh10 r10 => ?_)
      obtain ⟨w10, rfl, hw10, cd10⟩ := r10
      obtain ⟨x10, rfl, l10, u10⟩ := tint_sp rfl hw10
      have l10 : ((-6) : Int) ≤ x10.toInt := l10
      have u10 : x10.toInt ≤ ((-2) : Int) := u10
      have ok10 : wOK (zPhi P) N T10 h10 := ⟨k10, f10, Nat.le_trans lh10 ok.2.2⟩
      have hq_q := m10 _ _ hq_q
      show G (30, [(0, .inl (.ref 49)), (1, .inl (.int s)), (2, .inl (.int n))], [.inl (.int x10)], h10, 0, 0)
      refine zrn_ok HW 1 ?_
      exact zret_i rfl rfl (kk x10 T10 h10 (tExt_tr (tExt_rf T) m10) ok10 (fun e => by omega))
  · show G (9, [(0, .inl (.ref 49)), (1, .inl (.int s)), (2, .inl (.int n))], [.inl (.int (0 : Int32))], h, 0, 0)
    have n1 : ¬ ((0 : Int) ≤ s.toInt ∧ s.toInt ≤ (7 : Int)) := by have r0 : (Int32.toInt64 s).toInt = s.toInt := q_i2l _; have r1 : (0 : Int64).toInt = 0 := rfl; have r2 : (7 : Int64).toInt = 7 := rfl; omega
    refine zrn_ok HW 3 (zB_iff.mpr (?_ : G (27, [(0, .inl (.ref 49)), (1, .inl (.int s)), (2, .inl (.int n))], [.inl (.int (-2 : Int32)), .inl (.ref 49)], h, 0, 0)))
    refine g_tV (e := te_X5_refuse_0) (E' := ze_X5_refuse) HW (tLow_of IH hd) rfl rfl (show te_X5_refuse_0 ∈ [te_X5_refuse_0] from List.mem_cons_self) (by decide +kernel) (Nat.le_of_ble_eq_true rfl) ⟨rfl, rfl⟩ (by decide) ok.1 ok.2.1 rfl hq_q rfl (Nat.le_of_ble_eq_true rfl) ⟨⟨_, rfl, hq_q⟩, okA_I (by decide) (by decide), trivial⟩ (fun v11 T11 h11 m11 k11 f11 lh11 r11 => ?_)
    obtain ⟨w11, rfl, hw11, cd11⟩ := r11
    obtain ⟨x11, rfl, l11, u11⟩ := tint_sp rfl hw11
    have l11 : ((-6) : Int) ≤ x11.toInt := l11
    have u11 : x11.toInt ≤ ((-2) : Int) := u11
    have ok11 : wOK (zPhi P) N T11 h11 := ⟨k11, f11, Nat.le_trans lh11 ok.2.2⟩
    have hq_q := m11 _ _ hq_q
    show G (30, [(0, .inl (.ref 49)), (1, .inl (.int s)), (2, .inl (.int n))], [.inl (.int x11)], h11, 0, 0)
    refine zrn_ok HW 1 ?_
    exact zret_i rfl rfl (kk x11 T11 h11 (tExt_tr (tExt_rf T) m11) ok11 (fun e => by omega))
theorem tq_X5_judge_0 {scr : List zV} {P : pP} : tM zty (zPhi P) zprog scr zhts zsm 194 te_X5_judge_0 := by
  have hst := p_stab P
  refine t_hand2 (E := ze_X5_judge) (D0 := 5) rfl rfl (by decide +kernel) (fun d T h vs post G hd hok hΦ hlen hvs hp IH HW => ?_)
  obtain ⟨d, rfl⟩ : ∃ d', d = d' + 5 := ⟨d - 5, by omega⟩
  obtain ⟨v_q, vs, rfl, k_q, hvs⟩ := okAs_cons hvs
  obtain ⟨v_x, vs, rfl, k_x, hvs⟩ := okAs_cons hvs
  obtain ⟨v_y, vs, rfl, k_y, hvs⟩ := okAs_cons hvs
  obtain rfl := okAs_nil hvs
  obtain ⟨q, rfl, hq_q⟩ := tref_sp rfl k_q
  have hq_q : T[q]? = some 5 := hq_q
  obtain ⟨x, rfl, bl_x, bu_x⟩ := tint_sp rfl k_x
  have bl_x : ((-2147483648) : Int) ≤ x.toInt := bl_x
  have bu_x : x.toInt ≤ (2147483647 : Int) := bu_x
  obtain ⟨y, rfl, bl_y, bu_y⟩ := tint_sp rfl k_y
  have bl_y : ((-2147483648) : Int) ≤ y.toInt := bl_y
  have bu_y : y.toInt ≤ (2147483647 : Int) := bu_y
  have ok : wOK (zPhi P) (h.length + 30) T h := ⟨hok, hΦ, by omega⟩
  have RET : ∀ (y : Int32) (T' : List Nat) (h' : zH), tExt T T' → wOK (zPhi P) (h.length + 30) T' h' → post (some (.inl (.int y))) h' = true := fun y T' h' m' ok' => hp _ T' h' m' ok'.1 ok'.2.1 (by have := ok'.2.2; show _ ≤ h.length + 30; omega) ⟨_, rfl, okA_If y, fun c hc => by cases hc⟩
  obtain rfl := hΦ.1.2.2.2.2.2 q hq_q
  have hlen30 : h.length + 30 ≤ 1000000 := hlen
  have okS : wOK (zPhi P) h.length T h := ⟨hok, hΦ, Nat.le_refl _⟩
  refine zrn_ok HW 3 (zB_iff.mpr (?_ : G (3, [(0, .inl (.ref 49)), (1, .inl (.int x)), (2, .inl (.int y))], [.inl (.int y), .inl (.int x), .inl (.ref 49)], h, 0, 0)))
  refine g_callV (E' := ze_X5_noBook) HW rfl rfl (Nat.le_of_ble_eq_true rfl) (Nat.le_of_ble_eq_true rfl) (Nat.le_of_ble_eq_true rfl) okS.1 rfl hq_q rfl (Nat.le_of_ble_eq_true rfl) (c_noBook (tBel_le IH (by decide)) (by omega) okS (fun r1 T1 h1 m1 ok1 f1 => zB_iff.mpr ?_))
  show G (6, [(0, .inl (.ref 49)), (1, .inl (.int x)), (2, .inl (.int y))], [.inl (.int r1)], h1, 0, 0)
  have f1 : r1.toInt = 0 → 0 ≤ x.toInt ∧ x.toInt ≤ 7 ∧ 0 ≤ y.toInt ∧ y.toInt ≤ 40 := f1
  have hq_q := m1 _ _ hq_q
  refine zrn_ok HW 3 (zbr_ex (cd := .eq) (x := r1) (y := (0 : Int32)) (fun hc2 => zB_iff.mpr ?_) (fun hc2 => zB_iff.mpr ?_))
  · -- pc 15
    have i2 : r1.toInt = (0 : Int) := zop_int.mp hc2
    refine zrn_ok HW 2 (zB_iff.mpr (?_ : G (17, [(3, .inl (.int r1)), (0, .inl (.ref 49)), (1, .inl (.int x)), (2, .inl (.int y))], [.inl (.ref 49), .inl (.ref 49)], h1, 0, 0)))
    have o4 : hget h1 49 3 = some (.inl (.ref 53)) := ((ok1.2.1.2.1 49 5 hq_q (Or.inl rfl)).1.1 (3, 4, 27) (by decide +kernel)).1
    have t4 : T1[53]? = some 27 := ((ok1.2.1.2.1 49 5 hq_q (Or.inl rfl)).1.1 (3, 4, 27) (by decide +kernel)).2
    refine g_getf HW rfl ok1.1 hq_q rfl o4 ?_
    refine zrn_ok HW 1 (zB_iff.mpr (?_ : G (21, [(3, .inl (.int r1)), (0, .inl (.ref 49)), (1, .inl (.int x)), (2, .inl (.int y))], [.inl (.int x), .inl (.ref 53), .inl (.ref 49)], h1, 0, 0)))
    have p5 : hget h1 53 x.toInt.toNat = some (.inl (.ref (49 + (5 + x.toInt.toNat)))) := ((ok1.2.1.2.1 49 5 hq_q (Or.inl rfl)).1.2.1 x.toInt.toNat (by omega)).1
    have u5 : T1[49 + (5 + x.toInt.toNat)]? = some 28 := ((ok1.2.1.2.1 49 5 hq_q (Or.inl rfl)).1.2.1 x.toInt.toNat (by omega)).2
    refine g_aald HW rfl ok1.1 t4 ⟨by decide, by decide⟩ (by omega) p5 ?_
    refine zrn_ok HW 1 (zB_iff.mpr (?_ : G (23, [(3, .inl (.int r1)), (0, .inl (.ref 49)), (1, .inl (.int x)), (2, .inl (.int y))], [.inl (.int y), .inl (.ref (49 + (5 + x.toInt.toNat))), .inl (.ref 49)], h1, 0, 0)))
    have hr6 := u5
    have le6 := ok1.2.2
    refine g_callV (E' := ze_X5_wrongIn) HW rfl rfl (Nat.le_of_ble_eq_true rfl) (Nat.le_of_ble_eq_true rfl) (Nat.le_of_ble_eq_true rfl) ok1.1 rfl hq_q rfl (Nat.le_of_ble_eq_true rfl) (c_wrongIn (N := h.length + 30) (wOK_up ok1 (Nat.le_add_right _ _)) (by omega) hlen30 u5 ⟨by omega, by omega⟩ (fun r6 T6 h6 m6 ok6 w286 fz6 => zB_iff.mpr ?_))
    show G (26, [(3, .inl (.int r1)), (0, .inl (.ref 49)), (1, .inl (.int x)), (2, .inl (.int y))], [.inl (.int r6)], h6, 30, 843)
    have hq_q := m6 _ _ hq_q
    have t4 := m6 _ _ t4
    have u5 := m6 _ _ u5
    refine zrn_ok HW 1 ?_
    exact zret_i rfl rfl (RET r6 T6 h6 (tExt_tr (tExt_tr (tExt_rf T) m1) m6) ok6)
  · -- pc 11
    have i2 : ¬ (r1.toInt = (0 : Int)) := fun e => hc2 (zop_int.mpr e)
    refine zrn_ok HW 3 ?_
    exact zret_i rfl rfl (RET r1 T1 h1 (tExt_tr (tExt_rf T) m1) (wOK_up ok1 (Nat.le_add_right _ _)))
theorem tq_X5_won_0 {scr : List zV} {P : pP} : tM zty (zPhi P) zprog scr zhts zsm 245 te_X5_won_0 := by
  have hst := p_stab P
  refine t_hand2 (E := ze_X5_won) (D0 := 5) rfl rfl (by decide +kernel) (fun d T h vs post G hd hok hΦ hlen hvs hp IH HW => ?_)
  obtain ⟨d, rfl⟩ : ∃ d', d = d' + 5 := ⟨d - 5, by omega⟩
  obtain ⟨v_q, vs, rfl, k_q, hvs⟩ := okAs_cons hvs
  obtain ⟨v_x, vs, rfl, k_x, hvs⟩ := okAs_cons hvs
  obtain ⟨v_y, vs, rfl, k_y, hvs⟩ := okAs_cons hvs
  obtain rfl := okAs_nil hvs
  obtain ⟨q, rfl, hq_q⟩ := tref_sp rfl k_q
  have hq_q : T[q]? = some 5 := hq_q
  obtain ⟨x, rfl, bl_x, bu_x⟩ := tint_sp rfl k_x
  have bl_x : ((-2147483648) : Int) ≤ x.toInt := bl_x
  have bu_x : x.toInt ≤ (2147483647 : Int) := bu_x
  obtain ⟨y, rfl, bl_y, bu_y⟩ := tint_sp rfl k_y
  have bl_y : ((-2147483648) : Int) ≤ y.toInt := bl_y
  have bu_y : y.toInt ≤ (2147483647 : Int) := bu_y
  have ok : wOK (zPhi P) (h.length + 30) T h := ⟨hok, hΦ, by omega⟩
  have RET : ∀ (y : Int32) (T' : List Nat) (h' : zH), tExt T T' → wOK (zPhi P) (h.length + 30) T' h' → post (some (.inl (.int y))) h' = true := fun y T' h' m' ok' => hp _ T' h' m' ok'.1 ok'.2.1 (by have := ok'.2.2; show _ ≤ h.length + 30; omega) ⟨_, rfl, okA_If y, fun c hc => by cases hc⟩
  obtain rfl := hΦ.1.2.2.2.2.2 q hq_q
  have hlen30 : h.length + 30 ≤ 1000000 := hlen
  have okS : wOK (zPhi P) h.length T h := ⟨hok, hΦ, Nat.le_refl _⟩
  refine zrn_ok HW 3 (zB_iff.mpr (?_ : G (3, [(0, .inl (.ref 49)), (1, .inl (.int x)), (2, .inl (.int y))], [.inl (.int y), .inl (.int x), .inl (.ref 49)], h, 0, 0)))
  refine g_callV (E' := ze_X5_noBook) HW rfl rfl (Nat.le_of_ble_eq_true rfl) (Nat.le_of_ble_eq_true rfl) (Nat.le_of_ble_eq_true rfl) okS.1 rfl hq_q rfl (Nat.le_of_ble_eq_true rfl) (c_noBook (tBel_le IH (by decide)) (by omega) okS (fun r1 T1 h1 m1 ok1 f1 => zB_iff.mpr ?_))
  show G (6, [(0, .inl (.ref 49)), (1, .inl (.int x)), (2, .inl (.int y))], [.inl (.int r1)], h1, 0, 0)
  have f1 : r1.toInt = 0 → 0 ≤ x.toInt ∧ x.toInt ≤ 7 ∧ 0 ≤ y.toInt ∧ y.toInt ≤ 40 := f1
  have hq_q := m1 _ _ hq_q
  refine zrn_ok HW 3 (zbr_ex (cd := .eq) (x := r1) (y := (0 : Int32)) (fun hc2 => zB_iff.mpr ?_) (fun hc2 => zB_iff.mpr ?_))
  · -- pc 13
    have i2 : r1.toInt = (0 : Int) := zop_int.mp hc2
    refine zrn_ok HW 2 (zB_iff.mpr (?_ : G (15, [(3, .inl (.int r1)), (0, .inl (.ref 49)), (1, .inl (.int x)), (2, .inl (.int y))], [.inl (.ref 49), .inl (.ref 49)], h1, 0, 0)))
    have o4 : hget h1 49 3 = some (.inl (.ref 53)) := ((ok1.2.1.2.1 49 5 hq_q (Or.inl rfl)).1.1 (3, 4, 27) (by decide +kernel)).1
    have t4 : T1[53]? = some 27 := ((ok1.2.1.2.1 49 5 hq_q (Or.inl rfl)).1.1 (3, 4, 27) (by decide +kernel)).2
    refine g_getf HW rfl ok1.1 hq_q rfl o4 ?_
    refine zrn_ok HW 1 (zB_iff.mpr (?_ : G (19, [(3, .inl (.int r1)), (0, .inl (.ref 49)), (1, .inl (.int x)), (2, .inl (.int y))], [.inl (.int x), .inl (.ref 53), .inl (.ref 49)], h1, 0, 0)))
    have p5 : hget h1 53 x.toInt.toNat = some (.inl (.ref (49 + (5 + x.toInt.toNat)))) := ((ok1.2.1.2.1 49 5 hq_q (Or.inl rfl)).1.2.1 x.toInt.toNat (by omega)).1
    have u5 : T1[49 + (5 + x.toInt.toNat)]? = some 28 := ((ok1.2.1.2.1 49 5 hq_q (Or.inl rfl)).1.2.1 x.toInt.toNat (by omega)).2
    refine g_aald HW rfl ok1.1 t4 ⟨by decide, by decide⟩ (by omega) p5 ?_
    refine zrn_ok HW 1 (zB_iff.mpr (?_ : G (21, [(3, .inl (.int r1)), (0, .inl (.ref 49)), (1, .inl (.int x)), (2, .inl (.int y))], [.inl (.int y), .inl (.ref (49 + (5 + x.toInt.toNat))), .inl (.ref 49)], h1, 0, 0)))
    have hr6 := u5
    have le6 := ok1.2.2
    refine g_callV (E' := ze_X5_wrongIn) HW rfl rfl (Nat.le_of_ble_eq_true rfl) (Nat.le_of_ble_eq_true rfl) (Nat.le_of_ble_eq_true rfl) ok1.1 rfl hq_q rfl (Nat.le_of_ble_eq_true rfl) (c_wrongIn (N := h.length + 30) (wOK_up ok1 (Nat.le_add_right _ _)) (by omega) hlen30 u5 ⟨by omega, by omega⟩ (fun r6 T6 h6 m6 ok6 w286 fz6 => zB_iff.mpr ?_))
    show G (24, [(3, .inl (.int r1)), (0, .inl (.ref 49)), (1, .inl (.int x)), (2, .inl (.int y))], [.inl (.int r6)], h6, 30, 843)
    have hq_q := m6 _ _ hq_q
    have t4 := m6 _ _ t4
    have u5 := m6 _ _ u5
    refine zrn_ok HW 2 (zbr_ex (cd := .eq) (x := r6) (y := (-1 : Int32)) (fun hc7 => zB_iff.mpr ?_) (fun hc7 => zB_iff.mpr ?_))
    · -- pc 37
      have i7 : r6.toInt = (-1 : Int) := zop_int.mp hc7
      refine zrn_ok HW 1 (zB_iff.mpr (?_ : G (38, [(3, .inl (.int r1)), (0, .inl (.ref 49)), (1, .inl (.int x)), (2, .inl (.int y))], [.inl (.ref 49)], h6, 30, 843)))
      obtain ⟨x8, g8, e8, l8, u8⟩ := hi_val (i := 40) ok6.1 hq_q (by decide) rfl
      have l8 : ((-2147483648) : Int) ≤ x8.toInt := l8
      have u8 : x8.toInt ≤ (2147483647 : Int) := u8
      refine g_getf HW rfl ok6.1 hq_q rfl g8 ?_
      refine zrn_ok HW 1 ?_
      exact zret_i rfl rfl (RET x8 T6 h6 (tExt_tr (tExt_tr (tExt_rf T) m1) m6) ok6)
    · -- pc 28
      have i7 : ¬ (r6.toInt = (-1 : Int)) := fun e => hc7 (zop_int.mpr e)
      refine zrn_ok HW 2 (zB_iff.mpr (?_ : G (31, [(3, .inl (.int r1)), (0, .inl (.ref 49)), (1, .inl (.int x)), (2, .inl (.int y))], [.inl (.int (-5 : Int32)), .inl (.ref 49)], h6, 30, 843)))
      refine g_tV (e := te_X5_refuse_0) (E' := ze_X5_refuse) HW (tLow_of IH hd) rfl rfl (show te_X5_refuse_0 ∈ [te_X5_refuse_0] from List.mem_cons_self) (by decide +kernel) (Nat.le_of_ble_eq_true rfl) ⟨rfl, rfl⟩ (by decide) ok6.1 ok6.2.1 rfl hq_q rfl (Nat.le_of_ble_eq_true rfl) ⟨⟨_, rfl, hq_q⟩, okA_I (by decide) (by decide), trivial⟩ (fun v9 T9 h9 m9 k9 f9 lh9 r9 => ?_)
      obtain ⟨w9, rfl, hw9, cd9⟩ := r9
      obtain ⟨x9, rfl, l9, u9⟩ := tint_sp rfl hw9
      have l9 : ((-6) : Int) ≤ x9.toInt := l9
      have u9 : x9.toInt ≤ ((-2) : Int) := u9
      have ok9 : wOK (zPhi P) (h.length + 30) T9 h9 := ⟨k9, f9, Nat.le_trans lh9 ok6.2.2⟩
      have hq_q := m9 _ _ hq_q
      have t4 := m9 _ _ t4
      have u5 := m9 _ _ u5
      show G (34, [(3, .inl (.int r1)), (0, .inl (.ref 49)), (1, .inl (.int x)), (2, .inl (.int y))], [.inl (.int x9)], h9, 30, 843)
      refine zrn_ok HW 2 ?_
      exact zret_i rfl rfl (RET x9 T9 h9 (tExt_tr (tExt_tr (tExt_tr (tExt_rf T) m1) m6) m9) ok9)
  · -- pc 11
    have i2 : ¬ (r1.toInt = (0 : Int)) := fun e => hc2 (zop_int.mpr e)
    refine zrn_ok HW 2 ?_
    exact zret_i rfl rfl (RET r1 T1 h1 (tExt_tr (tExt_rf T) m1) (wOK_up ok1 (Nat.le_add_right _ _)))
theorem tq_X5_booked_0 {scr : List zV} {P : pP} : tM zty (zPhi P) zprog scr zhts zsm 162 te_X5_booked_0 := by
  have hst := p_stab P
  refine t_hand2 (E := ze_X5_booked) (D0 := 5) rfl rfl (by decide +kernel) (fun d T h vs post G hd hok hΦ hlen hvs hp IH HW => ?_)
  obtain ⟨d, rfl⟩ : ∃ d', d = d' + 5 := ⟨d - 5, by omega⟩
  obtain ⟨v_q, vs, rfl, k_q, hvs⟩ := okAs_cons hvs
  obtain ⟨v_x, vs, rfl, k_x, hvs⟩ := okAs_cons hvs
  obtain ⟨v_y, vs, rfl, k_y, hvs⟩ := okAs_cons hvs
  obtain ⟨v_z, vs, rfl, k_z, hvs⟩ := okAs_cons hvs
  obtain rfl := okAs_nil hvs
  obtain ⟨q, rfl, hq_q⟩ := tref_sp rfl k_q
  have hq_q : T[q]? = some 5 := hq_q
  obtain ⟨x, rfl, bl_x, bu_x⟩ := tint_sp rfl k_x
  have bl_x : ((-2147483648) : Int) ≤ x.toInt := bl_x
  have bu_x : x.toInt ≤ (2147483647 : Int) := bu_x
  obtain ⟨y, rfl, bl_y, bu_y⟩ := tint_sp rfl k_y
  have bl_y : ((-2147483648) : Int) ≤ y.toInt := bl_y
  have bu_y : y.toInt ≤ (2147483647 : Int) := bu_y
  obtain ⟨z, rfl, bl_z, bu_z⟩ := tint_sp rfl k_z
  have bl_z : ((-2147483648) : Int) ≤ z.toInt := bl_z
  have bu_z : z.toInt ≤ (2147483647 : Int) := bu_z
  have ok : wOK (zPhi P) (h.length + 30) T h := ⟨hok, hΦ, by omega⟩
  have RET : ∀ (y : Int32) (T' : List Nat) (h' : zH), tExt T T' → wOK (zPhi P) (h.length + 30) T' h' → post (some (.inl (.int y))) h' = true := fun y T' h' m' ok' => hp _ T' h' m' ok'.1 ok'.2.1 (by have := ok'.2.2; show _ ≤ h.length + 30; omega) ⟨_, rfl, okA_If y, fun c hc => by cases hc⟩
  obtain rfl := hΦ.1.2.2.2.2.2 q hq_q
  have hlen30 : h.length + 30 ≤ 1000000 := hlen
  have okS : wOK (zPhi P) h.length T h := ⟨hok, hΦ, Nat.le_refl _⟩
  refine zrn_ok HW 4 (zB_iff.mpr (?_ : G (6, [(0, .inl (.ref 49)), (1, .inl (.int x)), (2, .inl (.int y)), (3, .inl (.int z))], [.inl (.long (7 : Int64)), .inl (.long (0 : Int64)), .inl (.long (Int32.toInt64 x))], h, 0, 0)))
  refine g_callS (b := 0) (E' := ze_X5_in) HW (Or.inl rfl) rfl rfl (Nat.le_of_ble_eq_true rfl) (Nat.le_of_ble_eq_true rfl) (Nat.le_of_ble_eq_true rfl) (Nat.le_of_ble_eq_true rfl) (c_in (fun a1 b1 => zB_iff.mpr ?_) (fun n1 => zB_iff.mpr ?_))
  · show G (9, [(0, .inl (.ref 49)), (1, .inl (.int x)), (2, .inl (.int y)), (3, .inl (.int z))], [.inl (.int (1 : Int32))], h, 0, 0)
    have a1 : (0 : Int) ≤ x.toInt := by have r0 : (Int32.toInt64 x).toInt = x.toInt := q_i2l _; have r1 : (0 : Int64).toInt = 0 := rfl; have r2 : (7 : Int64).toInt = 7 := rfl; omega
    have b1 : x.toInt ≤ (7 : Int) := by have r0 : (Int32.toInt64 x).toInt = x.toInt := q_i2l _; have r1 : (0 : Int64).toInt = 0 := rfl; have r2 : (7 : Int64).toInt = 7 := rfl; omega
    refine zrn_ok HW 5 (zB_iff.mpr (?_ : G (18, [(0, .inl (.ref 49)), (1, .inl (.int x)), (2, .inl (.int y)), (3, .inl (.int z))], [.inl (.long (40 : Int64)), .inl (.long (0 : Int64)), .inl (.long (Int32.toInt64 y))], h, 0, 0)))
    refine g_callS (b := 0) (E' := ze_X5_in) HW (Or.inl rfl) rfl rfl (Nat.le_of_ble_eq_true rfl) (Nat.le_of_ble_eq_true rfl) (Nat.le_of_ble_eq_true rfl) (Nat.le_of_ble_eq_true rfl) (c_in (fun a2 b2 => zB_iff.mpr ?_) (fun n2 => zB_iff.mpr ?_))
    · show G (21, [(0, .inl (.ref 49)), (1, .inl (.int x)), (2, .inl (.int y)), (3, .inl (.int z))], [.inl (.int (1 : Int32))], h, 0, 0)
      have a2 : (0 : Int) ≤ y.toInt := by have r0 : (Int32.toInt64 y).toInt = y.toInt := q_i2l _; have r1 : (0 : Int64).toInt = 0 := rfl; have r2 : (40 : Int64).toInt = 40 := rfl; omega
      have b2 : y.toInt ≤ (40 : Int) := by have r0 : (Int32.toInt64 y).toInt = y.toInt := q_i2l _; have r1 : (0 : Int64).toInt = 0 := rfl; have r2 : (40 : Int64).toInt = 40 := rfl; omega
      refine zrn_ok HW 3 (zB_iff.mpr (?_ : G (26, [(0, .inl (.ref 49)), (1, .inl (.int x)), (2, .inl (.int y)), (3, .inl (.int z))], [.inl (.int z), .inl (.ref 49)], h, 0, 0)))
      refine g_tV (e := te_X5_isBuyer_0) (E' := ze_X5_isBuyer) HW (tLow_of IH hd) rfl rfl (show te_X5_isBuyer_0 ∈ [te_X5_isBuyer_0, te_X5_isBuyer_1] from by simp) (by decide +kernel) (Nat.le_of_ble_eq_true rfl) ⟨rfl, rfl⟩ (by decide) okS.1 okS.2.1 rfl hq_q rfl (Nat.le_of_ble_eq_true rfl) ⟨⟨_, rfl, hq_q⟩, okA_If _, trivial⟩ (fun v3 T3 h3 m3 k3 f3 lh3 r3 => ?_)
      obtain ⟨w3, rfl, hw3, cd3⟩ := r3
      obtain ⟨x3, rfl, l3, u3⟩ := tint_sp rfl hw3
      have l3 : (0 : Int) ≤ x3.toInt := l3
      have u3 : x3.toInt ≤ (1 : Int) := u3
      have cd3_0 : ¬ x3.toInt = 0 → 0 ≤ z.toInt ∧ z.toInt ≤ 3 := fun hne => by obtain ⟨a, ha, hb, hc⟩ := cd3 (1, 0, 3) (by simp) (fun he => hne (by cases he; rfl)); cases ha; exact ⟨hb, hc⟩
      have ok3 : wOK (zPhi P) h.length T3 h3 := ⟨k3, f3, Nat.le_trans lh3 okS.2.2⟩
      have hq_q := m3 _ _ hq_q
      show G (29, [(0, .inl (.ref 49)), (1, .inl (.int x)), (2, .inl (.int y)), (3, .inl (.int z))], [.inl (.int x3)], h3, 0, 0)
      refine zrn_ok HW 1 (zbr_ex (cd := .ne) (x := x3) (y := (0 : Int32)) (fun hc4 => zB_iff.mpr ?_) (fun hc4 => zB_iff.mpr ?_))
      · -- pc 39
        have i4 : ¬ x3.toInt = (0 : Int) := zop_int.mp hc4
        refine zrn_ok HW 3 (zB_iff.mpr (?_ : G (42, [(0, .inl (.ref 49)), (1, .inl (.int x)), (2, .inl (.int y)), (3, .inl (.int z))], [.inl (.int y), .inl (.int x), .inl (.ref 49)], h3, 0, 0)))
        refine g_callV (E' := ze_X5_noBook) HW rfl rfl (Nat.le_of_ble_eq_true rfl) (Nat.le_of_ble_eq_true rfl) (Nat.le_of_ble_eq_true rfl) ok3.1 rfl hq_q rfl (Nat.le_of_ble_eq_true rfl) (c_noBook (tBel_le IH (by decide)) (by omega) ok3 (fun r5 T5 h5 m5 ok5 f5 => zB_iff.mpr ?_))
        show G (45, [(0, .inl (.ref 49)), (1, .inl (.int x)), (2, .inl (.int y)), (3, .inl (.int z))], [.inl (.int r5)], h5, 0, 0)
        have f5 : r5.toInt = 0 → 0 ≤ x.toInt ∧ x.toInt ≤ 7 ∧ 0 ≤ y.toInt ∧ y.toInt ≤ 40 := f5
        have hq_q := m5 _ _ hq_q
        refine zrn_ok HW 3 (zbr_ex (cd := .eq) (x := r5) (y := (0 : Int32)) (fun hc6 => zB_iff.mpr ?_) (fun hc6 => zB_iff.mpr ?_))
        · -- pc 55
          have i6 : r5.toInt = (0 : Int) := zop_int.mp hc6
          refine zrn_ok HW 2 (zB_iff.mpr (?_ : G (57, [(4, .inl (.int r5)), (0, .inl (.ref 49)), (1, .inl (.int x)), (2, .inl (.int y)), (3, .inl (.int z))], [.inl (.ref 49), .inl (.ref 49)], h5, 0, 0)))
          have o8 : hget h5 49 3 = some (.inl (.ref 53)) := ((ok5.2.1.2.1 49 5 hq_q (Or.inl rfl)).1.1 (3, 4, 27) (by decide +kernel)).1
          have t8 : T5[53]? = some 27 := ((ok5.2.1.2.1 49 5 hq_q (Or.inl rfl)).1.1 (3, 4, 27) (by decide +kernel)).2
          refine g_getf HW rfl ok5.1 hq_q rfl o8 ?_
          refine zrn_ok HW 1 (zB_iff.mpr (?_ : G (61, [(4, .inl (.int r5)), (0, .inl (.ref 49)), (1, .inl (.int x)), (2, .inl (.int y)), (3, .inl (.int z))], [.inl (.int x), .inl (.ref 53), .inl (.ref 49)], h5, 0, 0)))
          have p9 : hget h5 53 x.toInt.toNat = some (.inl (.ref (49 + (5 + x.toInt.toNat)))) := ((ok5.2.1.2.1 49 5 hq_q (Or.inl rfl)).1.2.1 x.toInt.toNat (by omega)).1
          have u9 : T5[49 + (5 + x.toInt.toNat)]? = some 28 := ((ok5.2.1.2.1 49 5 hq_q (Or.inl rfl)).1.2.1 x.toInt.toNat (by omega)).2
          refine g_aald HW rfl ok5.1 t8 ⟨by decide, by decide⟩ (by omega) p9 ?_
          refine zrn_ok HW 1 (zB_iff.mpr (?_ : G (63, [(4, .inl (.int r5)), (0, .inl (.ref 49)), (1, .inl (.int x)), (2, .inl (.int y)), (3, .inl (.int z))], [.inl (.int y), .inl (.ref (49 + (5 + x.toInt.toNat))), .inl (.ref 49)], h5, 0, 0)))
          have hr10 := u9
          have le10 := ok5.2.2
          refine g_callV (E' := ze_X5_wrongIn) HW rfl rfl (Nat.le_of_ble_eq_true rfl) (Nat.le_of_ble_eq_true rfl) (Nat.le_of_ble_eq_true rfl) ok5.1 rfl hq_q rfl (Nat.le_of_ble_eq_true rfl) (c_wrongIn (N := h.length + 30) (wOK_up ok5 (Nat.le_add_right _ _)) (by omega) hlen30 u9 ⟨by omega, by omega⟩ (fun r10 T10 h10 m10 ok10 w2810 fz10 => zB_iff.mpr ?_))
          show G (66, [(4, .inl (.int r5)), (0, .inl (.ref 49)), (1, .inl (.int x)), (2, .inl (.int y)), (3, .inl (.int z))], [.inl (.int r10)], h10, 30, 843)
          have hq_q := m10 _ _ hq_q
          have t8 := m10 _ _ t8
          have u9 := m10 _ _ u9
          refine zrn_ok HW 2 (zbr_ex (cd := .ne) (x := r10) (y := (-1 : Int32)) (fun hc11 => zB_iff.mpr ?_) (fun hc11 => zB_iff.mpr ?_))
          · -- pc 85
            have i11 : ¬ r10.toInt = (-1 : Int) := zop_int.mp hc11
            refine zrn_ok HW 2 (zB_iff.mpr (?_ : G (88, [(4, .inl (.int r5)), (0, .inl (.ref 49)), (1, .inl (.int x)), (2, .inl (.int y)), (3, .inl (.int z))], [.inl (.int (-5 : Int32)), .inl (.ref 49)], h10, 30, 843)))
            refine g_tV (e := te_X5_refuse_0) (E' := ze_X5_refuse) HW (tLow_of IH hd) rfl rfl (show te_X5_refuse_0 ∈ [te_X5_refuse_0] from List.mem_cons_self) (by decide +kernel) (Nat.le_of_ble_eq_true rfl) ⟨rfl, rfl⟩ (by decide) ok10.1 ok10.2.1 rfl hq_q rfl (Nat.le_of_ble_eq_true rfl) ⟨⟨_, rfl, hq_q⟩, okA_I (by decide) (by decide), trivial⟩ (fun v12 T12 h12 m12 k12 f12 lh12 r12 => ?_)
            obtain ⟨w12, rfl, hw12, cd12⟩ := r12
            obtain ⟨x12, rfl, l12, u12⟩ := tint_sp rfl hw12
            have l12 : ((-6) : Int) ≤ x12.toInt := l12
            have u12 : x12.toInt ≤ ((-2) : Int) := u12
            have ok12 : wOK (zPhi P) (h.length + 30) T12 h12 := ⟨k12, f12, Nat.le_trans lh12 ok10.2.2⟩
            have hq_q := m12 _ _ hq_q
            have t8 := m12 _ _ t8
            have u9 := m12 _ _ u9
            show G (91, [(4, .inl (.int r5)), (0, .inl (.ref 49)), (1, .inl (.int x)), (2, .inl (.int y)), (3, .inl (.int z))], [.inl (.int x12)], h12, 30, 843)
            refine zrn_ok HW 1 ?_
            exact zret_i rfl rfl (RET x12 T12 h12 (tExt_tr (tExt_tr (tExt_tr (tExt_tr (tExt_rf T) m3) m5) m10) m12) ok12)
          · -- pc 70
            have i11 : ¬ (¬ r10.toInt = (-1 : Int)) := fun e => hc11 (zop_int.mpr e)
            refine zrn_ok HW 1 (zB_iff.mpr (?_ : G (71, [(4, .inl (.int r5)), (0, .inl (.ref 49)), (1, .inl (.int x)), (2, .inl (.int y)), (3, .inl (.int z))], [.inl (.ref 49)], h10, 30, 843)))
            have o14 : hget h10 49 24 = some (.inl (.ref 72)) := ((ok10.2.1.2.1 49 5 hq_q (Or.inl rfl)).1.1 (24, 23, 37) (by decide +kernel)).1
            have t14 : T10[72]? = some 37 := ((ok10.2.1.2.1 49 5 hq_q (Or.inl rfl)).1.1 (24, 23, 37) (by decide +kernel)).2
            refine g_getf HW rfl ok10.1 hq_q rfl o14 ?_
            refine zrn_ok HW 1 (zB_iff.mpr (?_ : G (75, [(4, .inl (.int r5)), (0, .inl (.ref 49)), (1, .inl (.int x)), (2, .inl (.int y)), (3, .inl (.int z))], [.inl (.int z), .inl (.ref 72)], h10, 30, 843)))
            obtain ⟨x15, g15, e15, l15, u15⟩ := hi_val (i := (z).toInt.toNat) ok10.1 t14 (by show _ < 4; omega) rfl
            have l15 : ((-2147483648) : Int) ≤ x15.toInt := l15
            have u15 : x15.toInt ≤ (2147483647 : Int) := u15
            refine g_iald HW rfl ok10.1 t14 rfl (by omega) g15 ?_
            refine zrn_ok HW 2 (zB_iff.mpr (?_ : G (78, [(4, .inl (.int r5)), (0, .inl (.ref 49)), (1, .inl (.int x)), (2, .inl (.int y)), (3, .inl (.int z))], [.inl (.ref 49), .inl (.int y), .inl (.int x15)], h10, 30, 843)))
            obtain ⟨x16, g16, e16, l16, u16⟩ := hi_val (i := 11) ok10.1 hq_q (by decide) rfl
            have l16 : (1 : Int) ≤ x16.toInt := l16
            have u16 : x16.toInt ≤ (495 : Int) := u16
            refine g_getf HW rfl ok10.1 hq_q rfl g16 ?_
            refine zrn_ok HW 2 (zbr_ex (cd := .ge) (x := x15) (y := (y * x16)) (fun hc17 => zB_iff.mpr ?_) (fun hc17 => zB_iff.mpr ?_))
            · -- pc 92
              have i17 : x15.toInt ≥ (y * x16).toInt := zop_int.mp hc17
              refine zrn_ok HW 2 (zB_iff.mpr (?_ : G (95, [(5, .inl (.int (0 : Int32))), (4, .inl (.int r5)), (0, .inl (.ref 49)), (1, .inl (.int x)), (2, .inl (.int y)), (3, .inl (.int z))], [], h10, 30, 843)))
              have hr2 : T10[(49 + (5 + x.toInt.toNat))]? = some 28 := m10 _ _ hr10
              have fzz := fz10 (by omega)
              have t66 : T10[66]? = some 31 := ((ok10.2.1.2.1 49 5 hq_q (Or.inl rfl)).1.1 (16, 17, 31) (by decide +kernel)).2
              have loop : ∀ i j : Nat, ((i + j : Nat) : Int) = y.toInt → ∀ hl : zH, wOK (zPhi P) (h.length + 30) T10 hl → (∀ i : Nat, hget hl (49 + (5 + x.toInt.toNat)) i = hget h5 (49 + (5 + x.toInt.toNat)) i) → G (95, [(5, .inl (.int (Int32.ofNat j))), (4, .inl (.int r5)), (0, .inl (.ref 49)), (1, .inl (.int x)), (2, .inl (.int y)), (3, .inl (.int z))], [], hl, 30, 843) := by
                intro i
                induction i with
                | zero =>
                  intro j hj hl okl Fl
                  have ej := nI_int (k := j) (by omega)
                  have ejn : (Int32.ofNat j).toInt.toNat = j := by omega
                  refine zrn_ok HW 3 (zbr_ex (cd := .ge) (x := (Int32.ofNat j)) (y := y) (fun hc1 => zB_iff.mpr ?_) (fun hc1 => zB_iff.mpr ?_))
                  · -- pc 123
                    have i1 : (Int32.ofNat j).toInt ≥ y.toInt := zop_int.mp hc1
                    refine zrn_ok HW 1 (zB_iff.mpr (?_ : G (124, [(5, .inl (.int (Int32.ofNat j))), (4, .inl (.int r5)), (0, .inl (.ref 49)), (1, .inl (.int x)), (2, .inl (.int y)), (3, .inl (.int z))], [.inl (.ref 49)], hl, 30, 843)))
                    have o3 : hget hl 49 24 = some (.inl (.ref 72)) := ((okl.2.1.2.1 49 5 hq_q (Or.inl rfl)).1.1 (24, 23, 37) (by decide +kernel)).1
                    have t3 : T10[72]? = some 37 := ((okl.2.1.2.1 49 5 hq_q (Or.inl rfl)).1.1 (24, 23, 37) (by decide +kernel)).2
                    refine g_getf HW rfl okl.1 hq_q rfl o3 ?_
                    refine zrn_ok HW 2 (zB_iff.mpr (?_ : G (129, [(5, .inl (.int (Int32.ofNat j))), (4, .inl (.int r5)), (0, .inl (.ref 49)), (1, .inl (.int x)), (2, .inl (.int y)), (3, .inl (.int z))], [.inl (.int z), .inl (.ref 72), .inl (.int z), .inl (.ref 72)], hl, 30, 843)))
                    obtain ⟨x4, g4, e4, l4, u4⟩ := hi_val (i := (z).toInt.toNat) okl.1 t3 (by show _ < 4; omega) rfl
                    have l4 : ((-2147483648) : Int) ≤ x4.toInt := l4
                    have u4 : x4.toInt ≤ (2147483647 : Int) := u4
                    refine g_iald HW rfl okl.1 t3 rfl (by omega) g4 ?_
                    refine zrn_ok HW 2 (zB_iff.mpr (?_ : G (132, [(5, .inl (.int (Int32.ofNat j))), (4, .inl (.int r5)), (0, .inl (.ref 49)), (1, .inl (.int x)), (2, .inl (.int y)), (3, .inl (.int z))], [.inl (.ref 49), .inl (.int y), .inl (.int x4), .inl (.int z), .inl (.ref 72)], hl, 30, 843)))
                    obtain ⟨x5, g5, e5, l5, u5⟩ := hi_val (i := 11) okl.1 hq_q (by decide) rfl
                    have l5 : (1 : Int) ≤ x5.toInt := l5
                    have u5 : x5.toInt ≤ (495 : Int) := u5
                    refine g_getf HW rfl okl.1 hq_q rfl g5 ?_
                    have y6 : -2147483648 ≤ x4.toInt - (y * x5).toInt → x4.toInt - (y * x5).toInt ≤ 2147483647 → (x4 - (y * x5)).toInt = x4.toInt - (y * x5).toInt := t_subC (x := x4) (y := (y * x5))
                    refine zrn_ok HW 2 (zB_iff.mpr (?_ : G (137, [(5, .inl (.int (Int32.ofNat j))), (4, .inl (.int r5)), (0, .inl (.ref 49)), (1, .inl (.int x)), (2, .inl (.int y)), (3, .inl (.int z))], [.inl (.int (x4 - (y * x5))), .inl (.int z), .inl (.ref 72)], hl, 30, 843)))
                    have ok7 : wOK (zPhi P) (h.length + 30) T10 (hput hl 72 (z).toInt.toNat (.inl (.int (x4 - (y * x5))))) := wOK_put hst okl t3 rfl ⟨_, rfl, t_lo _, t_hi _⟩
                    refine g_iast HW rfl okl.1 t3 rfl (by omega) (by show _ < (4 : Int); omega) ?_
                    refine zrn_ok HW 2 (zB_iff.mpr (?_ : G (140, [(5, .inl (.int (Int32.ofNat j))), (4, .inl (.int r5)), (0, .inl (.ref 49)), (1, .inl (.int x)), (2, .inl (.int y)), (3, .inl (.int z))], [.inl (.ref 49), .inl (.ref 49)], (hput hl 72 (z).toInt.toNat (.inl (.int (x4 - (y * x5))))), 30, 843)))
                    obtain ⟨x8, g8, e8, l8, u8⟩ := hi_val (i := 14) ok7.1 hq_q (by decide) rfl
                    have l8 : ((-2147483648) : Int) ≤ x8.toInt := l8
                    have u8 : x8.toInt ≤ (2147483647 : Int) := u8
                    refine g_getf HW rfl ok7.1 hq_q rfl g8 ?_
                    refine zrn_ok HW 2 (zB_iff.mpr (?_ : G (145, [(5, .inl (.int (Int32.ofNat j))), (4, .inl (.int r5)), (0, .inl (.ref 49)), (1, .inl (.int x)), (2, .inl (.int y)), (3, .inl (.int z))], [.inl (.ref 49), .inl (.int y), .inl (.int x8), .inl (.ref 49)], (hput hl 72 (z).toInt.toNat (.inl (.int (x4 - (y * x5))))), 30, 843)))
                    obtain ⟨x9, g9, e9, l9, u9⟩ := hi_val (i := 11) ok7.1 hq_q (by decide) rfl
                    have l9 : (1 : Int) ≤ x9.toInt := l9
                    have u9 : x9.toInt ≤ (495 : Int) := u9
                    refine g_getf HW rfl ok7.1 hq_q rfl g9 ?_
                    have y10 : -2147483648 ≤ x8.toInt + (y * x9).toInt → x8.toInt + (y * x9).toInt ≤ 2147483647 → (x8 + (y * x9)).toInt = x8.toInt + (y * x9).toInt := t_addC (x := x8) (y := (y * x9))
                    refine zrn_ok HW 2 (zB_iff.mpr (?_ : G (150, [(5, .inl (.int (Int32.ofNat j))), (4, .inl (.int r5)), (0, .inl (.ref 49)), (1, .inl (.int x)), (2, .inl (.int y)), (3, .inl (.int z))], [.inl (.int (x8 + (y * x9))), .inl (.ref 49)], (hput hl 72 (z).toInt.toNat (.inl (.int (x4 - (y * x5))))), 30, 843)))
                    have ok11 : wOK (zPhi P) (h.length + 30) T10 (hput (hput hl 72 (z).toInt.toNat (.inl (.int (x4 - (y * x5))))) 49 14 (.inl (.int (x8 + (y * x9))))) := wOK_put hst ok7 hq_q rfl ⟨_, rfl, t_lo _, t_hi _⟩
                    refine g_putf HW rfl ok7.1 hq_q rfl (by decide) rfl ?_
                    refine zrn_ok HW 1 (zB_iff.mpr (?_ : G (154, [(5, .inl (.int (Int32.ofNat j))), (4, .inl (.int r5)), (0, .inl (.ref 49)), (1, .inl (.int x)), (2, .inl (.int y)), (3, .inl (.int z))], [.inl (.ref 49)], (hput (hput hl 72 (z).toInt.toNat (.inl (.int (x4 - (y * x5))))) 49 14 (.inl (.int (x8 + (y * x9))))), 30, 843)))
                    obtain ⟨x12, g12, e12, l12, u12⟩ := hi_val (i := 40) ok11.1 hq_q (by decide) rfl
                    have l12 : ((-2147483648) : Int) ≤ x12.toInt := l12
                    have u12 : x12.toInt ≤ (2147483647 : Int) := u12
                    refine g_getf HW rfl ok11.1 hq_q rfl g12 ?_
                    refine zrn_ok HW 1 ?_
                    exact zret_i rfl rfl (RET x12 T10 (hput (hput hl 72 (z).toInt.toNat (.inl (.int (x4 - (y * x5))))) 49 14 (.inl (.int (x8 + (y * x9))))) (tExt_tr (tExt_tr (tExt_tr (tExt_rf T) m3) m5) m10) ok11)
                  · -- pc 101
                    have i1 : ¬ ((Int32.ofNat j).toInt ≥ y.toInt) := fun e => hc1 (zop_int.mpr e)
                    exfalso
                    omega
                | succ i ih =>
                  intro j hj hl okl Fl
                  have ej := nI_int (k := j) (by omega)
                  have ejn : (Int32.ofNat j).toInt.toNat = j := by omega
                  refine zrn_ok HW 3 (zbr_ex (cd := .ge) (x := (Int32.ofNat j)) (y := y) (fun hc1 => zB_iff.mpr ?_) (fun hc1 => zB_iff.mpr ?_))
                  · -- pc 123
                    have i1 : (Int32.ofNat j).toInt ≥ y.toInt := zop_int.mp hc1
                    exfalso
                    omega
                  · -- pc 101
                    have i1 : ¬ ((Int32.ofNat j).toInt ≥ y.toInt) := fun e => hc1 (zop_int.mpr e)
                    refine zrn_ok HW 2 (zB_iff.mpr (?_ : G (103, [(5, .inl (.int (Int32.ofNat j))), (4, .inl (.int r5)), (0, .inl (.ref 49)), (1, .inl (.int x)), (2, .inl (.int y)), (3, .inl (.int z))], [.inl (.ref 49), .inl (.ref 49)], hl, 30, 843)))
                    have o3 : hget hl 49 3 = some (.inl (.ref 53)) := ((okl.2.1.2.1 49 5 hq_q (Or.inl rfl)).1.1 (3, 4, 27) (by decide +kernel)).1
                    have t3 : T10[53]? = some 27 := ((okl.2.1.2.1 49 5 hq_q (Or.inl rfl)).1.1 (3, 4, 27) (by decide +kernel)).2
                    refine g_getf HW rfl okl.1 hq_q rfl o3 ?_
                    refine zrn_ok HW 1 (zB_iff.mpr (?_ : G (107, [(5, .inl (.int (Int32.ofNat j))), (4, .inl (.int r5)), (0, .inl (.ref 49)), (1, .inl (.int x)), (2, .inl (.int y)), (3, .inl (.int z))], [.inl (.int x), .inl (.ref 53), .inl (.ref 49)], hl, 30, 843)))
                    have p4 : hget hl 53 x.toInt.toNat = some (.inl (.ref (49 + (5 + x.toInt.toNat)))) := ((okl.2.1.2.1 49 5 hq_q (Or.inl rfl)).1.2.1 x.toInt.toNat (by omega)).1
                    have u4 : T10[49 + (5 + x.toInt.toNat)]? = some 28 := ((okl.2.1.2.1 49 5 hq_q (Or.inl rfl)).1.2.1 x.toInt.toNat (by omega)).2
                    refine g_aald HW rfl okl.1 t3 ⟨by decide, by decide⟩ (by omega) p4 ?_
                    refine zrn_ok HW 1 (zB_iff.mpr (?_ : G (110, [(5, .inl (.int (Int32.ofNat j))), (4, .inl (.int r5)), (0, .inl (.ref 49)), (1, .inl (.int x)), (2, .inl (.int y)), (3, .inl (.int z))], [.inl (.int (Int32.ofNat j)), .inl (.ref (49 + (5 + x.toInt.toNat))), .inl (.ref 49)], hl, 30, 843)))
                    obtain ⟨v5, g5, s5⟩ := hOK_get (i := ((Int32.ofNat j)).toInt.toNat) okl.1 u4 (by show _ < 40; omega)
                    obtain ⟨x5, rfl⟩ : ∃ x : Int64, v5 = .inl (.long x) := s5
                    refine g_lald HW rfl okl.1 u4 rfl (by omega) g5 ?_
                    refine zrn_ok HW 2 (zB_iff.mpr (?_ : G (113, [(5, .inl (.int (Int32.ofNat j))), (4, .inl (.int r5)), (0, .inl (.ref 49)), (1, .inl (.int x)), (2, .inl (.int y)), (3, .inl (.int z))], [.inl (.int z), .inl (.int (Int64.toInt32 x5)), .inl (.ref 49)], hl, 30, 843)))
                    obtain ⟨z6, ez6, z16, z606⟩ := fzz j (by omega)
                    rw [← Fl, ← ejn] at ez6
                    have zz6 : x5 = z6 := by have := g5.symm.trans ez6; cases this; rfl
                    have ex6 : (Int64.toInt32 x5).toInt = x5.toInt := tq_l2i (by rw [zz6]; omega) (by rw [zz6]; omega)
                    rw [zz6] at ex6
                    rw [← zz6] at ex6
                    refine g_callV (E' := ze_X5_comesOut) HW rfl rfl (Nat.le_of_ble_eq_true rfl) (Nat.le_of_ble_eq_true rfl) (Nat.le_of_ble_eq_true rfl) okl.1 rfl hq_q rfl (Nat.le_of_ble_eq_true rfl) (c_comesOut5 okl hq_q ⟨by rw [ex6, zz6]; omega, by rw [ex6, zz6]; omega⟩ ⟨by omega, by omega⟩ (fun r6 h6 ok6 fr6 ot6 os6 => zB_iff.mpr ?_))
                    show G (116, [(5, .inl (.int (Int32.ofNat j))), (4, .inl (.int r5)), (0, .inl (.ref 49)), (1, .inl (.int x)), (2, .inl (.int y)), (3, .inl (.int z))], [.inl (.int r6)], h6, 30, 843)
                    have y7 : -2147483648 ≤ (Int32.ofNat j).toInt + (1 : Int) → (Int32.ofNat j).toInt + (1 : Int) ≤ 2147483647 → ((Int32.ofNat j) + (1 : Int32)).toInt = (Int32.ofNat j).toInt + (1 : Int) := t_addC (x := (Int32.ofNat j)) (y := (1 : Int32))
                    refine zrn_ok HW 3 (zB_iff.mpr (?_ : G (95, [(5, .inl (.int ((Int32.ofNat j) + (1 : Int32)))), (4, .inl (.int r5)), (0, .inl (.ref 49)), (1, .inl (.int x)), (2, .inl (.int y)), (3, .inl (.int z))], [], h6, 30, 843)))
                    have := ih (j + 1) (by omega) h6 ok6 (fun i => ?_)
                    · rw [← nI_add1] at this
                      exact this
                    · rw [fr6 _ i (by omega) (by omega) (by omega) (Or.inl (by omega))]
                      exact Fl i
              exact loop y.toInt.toNat 0 (by omega) _ ok10 (fun i => w2810 _ i hr10)
            · -- pc 85
              have i17 : ¬ (x15.toInt ≥ (y * x16).toInt) := fun e => hc17 (zop_int.mpr e)
              refine zrn_ok HW 2 (zB_iff.mpr (?_ : G (88, [(4, .inl (.int r5)), (0, .inl (.ref 49)), (1, .inl (.int x)), (2, .inl (.int y)), (3, .inl (.int z))], [.inl (.int (-5 : Int32)), .inl (.ref 49)], h10, 30, 843)))
              refine g_tV (e := te_X5_refuse_0) (E' := ze_X5_refuse) HW (tLow_of IH hd) rfl rfl (show te_X5_refuse_0 ∈ [te_X5_refuse_0] from List.mem_cons_self) (by decide +kernel) (Nat.le_of_ble_eq_true rfl) ⟨rfl, rfl⟩ (by decide) ok10.1 ok10.2.1 rfl hq_q rfl (Nat.le_of_ble_eq_true rfl) ⟨⟨_, rfl, hq_q⟩, okA_I (by decide) (by decide), trivial⟩ (fun v18 T18 h18 m18 k18 f18 lh18 r18 => ?_)
              obtain ⟨w18, rfl, hw18, cd18⟩ := r18
              obtain ⟨x18, rfl, l18, u18⟩ := tint_sp rfl hw18
              have l18 : ((-6) : Int) ≤ x18.toInt := l18
              have u18 : x18.toInt ≤ ((-2) : Int) := u18
              have ok18 : wOK (zPhi P) (h.length + 30) T18 h18 := ⟨k18, f18, Nat.le_trans lh18 ok10.2.2⟩
              have hq_q := m18 _ _ hq_q
              have t8 := m18 _ _ t8
              have u9 := m18 _ _ u9
              have t14 := m18 _ _ t14
              show G (91, [(4, .inl (.int r5)), (0, .inl (.ref 49)), (1, .inl (.int x)), (2, .inl (.int y)), (3, .inl (.int z))], [.inl (.int x18)], h18, 30, 843)
              refine zrn_ok HW 1 ?_
              exact zret_i rfl rfl (RET x18 T18 h18 (tExt_tr (tExt_tr (tExt_tr (tExt_tr (tExt_rf T) m3) m5) m10) m18) ok18)
        · -- pc 52
          have i6 : ¬ (r5.toInt = (0 : Int)) := fun e => hc6 (zop_int.mpr e)
          refine zrn_ok HW 2 ?_
          exact zret_i rfl rfl (RET r5 T5 h5 (tExt_tr (tExt_tr (tExt_rf T) m3) m5) (wOK_up ok5 (Nat.le_add_right _ _)))
      · -- pc 32
        have i4 : ¬ (¬ x3.toInt = (0 : Int)) := fun e => hc4 (zop_int.mpr e)
        refine zrn_ok HW 2 (zB_iff.mpr (?_ : G (35, [(0, .inl (.ref 49)), (1, .inl (.int x)), (2, .inl (.int y)), (3, .inl (.int z))], [.inl (.int (-2 : Int32)), .inl (.ref 49)], h3, 0, 0)))
        refine g_tV (e := te_X5_refuse_0) (E' := ze_X5_refuse) HW (tLow_of IH hd) rfl rfl (show te_X5_refuse_0 ∈ [te_X5_refuse_0] from List.mem_cons_self) (by decide +kernel) (Nat.le_of_ble_eq_true rfl) ⟨rfl, rfl⟩ (by decide) ok3.1 ok3.2.1 rfl hq_q rfl (Nat.le_of_ble_eq_true rfl) ⟨⟨_, rfl, hq_q⟩, okA_I (by decide) (by decide), trivial⟩ (fun v19 T19 h19 m19 k19 f19 lh19 r19 => ?_)
        obtain ⟨w19, rfl, hw19, cd19⟩ := r19
        obtain ⟨x19, rfl, l19, u19⟩ := tint_sp rfl hw19
        have l19 : ((-6) : Int) ≤ x19.toInt := l19
        have u19 : x19.toInt ≤ ((-2) : Int) := u19
        have ok19 : wOK (zPhi P) h.length T19 h19 := ⟨k19, f19, Nat.le_trans lh19 ok3.2.2⟩
        have hq_q := m19 _ _ hq_q
        show G (38, [(0, .inl (.ref 49)), (1, .inl (.int x)), (2, .inl (.int y)), (3, .inl (.int z))], [.inl (.int x19)], h19, 0, 0)
        refine zrn_ok HW 1 ?_
        exact zret_i rfl rfl (RET x19 T19 h19 (tExt_tr (tExt_tr (tExt_rf T) m3) m19) (wOK_up ok19 (Nat.le_add_right _ _)))
    · show G (21, [(0, .inl (.ref 49)), (1, .inl (.int x)), (2, .inl (.int y)), (3, .inl (.int z))], [.inl (.int (0 : Int32))], h, 0, 0)
      have n2 : ¬ ((0 : Int) ≤ y.toInt ∧ y.toInt ≤ (40 : Int)) := by have r0 : (Int32.toInt64 y).toInt = y.toInt := q_i2l _; have r1 : (0 : Int64).toInt = 0 := rfl; have r2 : (40 : Int64).toInt = 40 := rfl; omega
      refine zrn_ok HW 3 (zB_iff.mpr (?_ : G (35, [(0, .inl (.ref 49)), (1, .inl (.int x)), (2, .inl (.int y)), (3, .inl (.int z))], [.inl (.int (-2 : Int32)), .inl (.ref 49)], h, 0, 0)))
      refine g_tV (e := te_X5_refuse_0) (E' := ze_X5_refuse) HW (tLow_of IH hd) rfl rfl (show te_X5_refuse_0 ∈ [te_X5_refuse_0] from List.mem_cons_self) (by decide +kernel) (Nat.le_of_ble_eq_true rfl) ⟨rfl, rfl⟩ (by decide) okS.1 okS.2.1 rfl hq_q rfl (Nat.le_of_ble_eq_true rfl) ⟨⟨_, rfl, hq_q⟩, okA_I (by decide) (by decide), trivial⟩ (fun v20 T20 h20 m20 k20 f20 lh20 r20 => ?_)
      obtain ⟨w20, rfl, hw20, cd20⟩ := r20
      obtain ⟨x20, rfl, l20, u20⟩ := tint_sp rfl hw20
      have l20 : ((-6) : Int) ≤ x20.toInt := l20
      have u20 : x20.toInt ≤ ((-2) : Int) := u20
      have ok20 : wOK (zPhi P) h.length T20 h20 := ⟨k20, f20, Nat.le_trans lh20 okS.2.2⟩
      have hq_q := m20 _ _ hq_q
      show G (38, [(0, .inl (.ref 49)), (1, .inl (.int x)), (2, .inl (.int y)), (3, .inl (.int z))], [.inl (.int x20)], h20, 0, 0)
      refine zrn_ok HW 1 ?_
      exact zret_i rfl rfl (RET x20 T20 h20 (tExt_tr (tExt_rf T) m20) (wOK_up ok20 (Nat.le_add_right _ _)))
  · show G (9, [(0, .inl (.ref 49)), (1, .inl (.int x)), (2, .inl (.int y)), (3, .inl (.int z))], [.inl (.int (0 : Int32))], h, 0, 0)
    have n1 : ¬ ((0 : Int) ≤ x.toInt ∧ x.toInt ≤ (7 : Int)) := by have r0 : (Int32.toInt64 x).toInt = x.toInt := q_i2l _; have r1 : (0 : Int64).toInt = 0 := rfl; have r2 : (7 : Int64).toInt = 7 := rfl; omega
    refine zrn_ok HW 3 (zB_iff.mpr (?_ : G (35, [(0, .inl (.ref 49)), (1, .inl (.int x)), (2, .inl (.int y)), (3, .inl (.int z))], [.inl (.int (-2 : Int32)), .inl (.ref 49)], h, 0, 0)))
    refine g_tV (e := te_X5_refuse_0) (E' := ze_X5_refuse) HW (tLow_of IH hd) rfl rfl (show te_X5_refuse_0 ∈ [te_X5_refuse_0] from List.mem_cons_self) (by decide +kernel) (Nat.le_of_ble_eq_true rfl) ⟨rfl, rfl⟩ (by decide) okS.1 okS.2.1 rfl hq_q rfl (Nat.le_of_ble_eq_true rfl) ⟨⟨_, rfl, hq_q⟩, okA_I (by decide) (by decide), trivial⟩ (fun v21 T21 h21 m21 k21 f21 lh21 r21 => ?_)
    obtain ⟨w21, rfl, hw21, cd21⟩ := r21
    obtain ⟨x21, rfl, l21, u21⟩ := tint_sp rfl hw21
    have l21 : ((-6) : Int) ≤ x21.toInt := l21
    have u21 : x21.toInt ≤ ((-2) : Int) := u21
    have ok21 : wOK (zPhi P) h.length T21 h21 := ⟨k21, f21, Nat.le_trans lh21 okS.2.2⟩
    have hq_q := m21 _ _ hq_q
    show G (38, [(0, .inl (.ref 49)), (1, .inl (.int x)), (2, .inl (.int y)), (3, .inl (.int z))], [.inl (.int x21)], h21, 0, 0)
    refine zrn_ok HW 1 ?_
    exact zret_i rfl rfl (RET x21 T21 h21 (tExt_tr (tExt_rf T) m21) (wOK_up ok21 (Nat.le_add_right _ _)))
