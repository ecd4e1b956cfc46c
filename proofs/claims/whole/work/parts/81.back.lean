theorem tq_X5_back_0 {scr : List zV} {P : pP} : tM zty (zPhi P) zprog scr zhts zsm 156 te_X5_back_0 := by
  have hst := p_stab P
  refine t_hand2 (E := ze_X5_back) (D0 := 2) rfl rfl (by decide +kernel) (fun d T h vs post G hd hok hΦ hlen hvs hp IH HW => ?_)
  obtain ⟨d, rfl⟩ : ∃ d', d = d' + 2 := ⟨d - 2, by omega⟩
  obtain ⟨v_q, vs, rfl, k_q, hvs⟩ := okAs_cons hvs
  obtain rfl := okAs_nil hvs
  obtain ⟨q, rfl, hq_q⟩ := tref_sp rfl k_q
  have hq_q : T[q]? = some 5 := hq_q
  have ok : wOK (zPhi P) h.length T h := ⟨hok, hΦ, Nat.le_refl _⟩
  have RET : ∀ (y : Int32) (T' : List Nat) (h' : zH), tExt T T' → wOK (zPhi P) h.length T' h' → post (some (.inl (.int y))) h' = true := fun y T' h' m' ok' => hp _ T' h' m' ok'.1 ok'.2.1 (by have := ok'.2.2; omega) ⟨_, rfl, okA_If y, fun c hc => by cases hc⟩
  obtain rfl := hΦ.1.2.2.2.2.2 q hq_q
  have loop : ∀ (k : Nat) (s1 : Int32) (hl : zH), wOK (zPhi P) h.length T hl → 0 ≤ s1.toInt → s1.toInt ≤ 8 → 8 - s1.toInt < (k : Int) → G (24, [(1, .inl (.int s1)), (0, .inl (.ref 49))], [], hl, 0, 0) := by
    intro k
    induction k with
    | zero =>
      intro s1 hl okl y_0 y_1 hm
      exfalso
      omega
    | succ k ih =>
      intro s1 hl okl y_0 y_1 hm
      refine zrn_ok HW 3 (zbr_ex (cd := .ge) (x := s1) (y := (8 : Int32)) (fun hc1 => zB_iff.mpr ?_) (fun hc1 => zB_iff.mpr ?_))
      · -- pc 66
        have i1 : s1.toInt ≥ (8 : Int) := zop_int.mp hc1
        refine zrn_ok HW 2 ?_
        exact zret_i rfl rfl (RET (1 : Int32) T hl (tExt_rf T) okl)
      · -- pc 30
        have i1 : ¬ (s1.toInt ≥ (8 : Int)) := fun e => hc1 (zop_int.mpr e)
        refine zrn_ok HW 1 (zB_iff.mpr (?_ : G (31, [(1, .inl (.int s1)), (0, .inl (.ref 49))], [.inl (.ref 49)], hl, 0, 0)))
        have o3 : hget hl 49 0 = some (.inl (.ref 50)) := ((okl.2.1.2.1 49 5 hq_q (Or.inl rfl)).1.1 (0, 1, 24) (by decide +kernel)).1
        have t3 : T[50]? = some 24 := ((okl.2.1.2.1 49 5 hq_q (Or.inl rfl)).1.1 (0, 1, 24) (by decide +kernel)).2
        refine g_getf HW rfl okl.1 hq_q rfl o3 ?_
        refine zrn_ok HW 1 (zB_iff.mpr (?_ : G (35, [(1, .inl (.int s1)), (0, .inl (.ref 49))], [.inl (.int s1), .inl (.ref 50)], hl, 0, 0)))
        obtain ⟨x4, g4, e4, l4, u4⟩ := hi_val (i := (s1).toInt.toNat) okl.1 t3 (by show _ < 8; omega) rfl
        have l4 : (0 : Int) ≤ x4.toInt := l4
        have u4 : x4.toInt ≤ (2 : Int) := u4
        refine g_iald HW rfl okl.1 t3 rfl (by omega) g4 ?_
        refine zrn_ok HW 2 (zbr_ex (cd := .ne) (x := x4) (y := (2 : Int32)) (fun hc5 => zB_iff.mpr ?_) (fun hc5 => zB_iff.mpr ?_))
        · -- pc 60
          have i5 : ¬ x4.toInt = (2 : Int) := zop_int.mp hc5
          have y6 : -2147483648 ≤ s1.toInt + (1 : Int) → s1.toInt + (1 : Int) ≤ 2147483647 → (s1 + (1 : Int32)).toInt = s1.toInt + (1 : Int) := t_addC (x := s1) (y := (1 : Int32))
          refine zrn_ok HW 2 (zB_iff.mpr (?_ : G (24, [(1, .inl (.int (s1 + (1 : Int32)))), (0, .inl (.ref 49))], [], hl, 0, 0)))
          exact ih (s1 + (1 : Int32)) _ okl (by omega) (by omega) (by omega)
        · -- pc 40
          have i5 : ¬ (¬ x4.toInt = (2 : Int)) := fun e => hc5 (zop_int.mpr e)
          refine zrn_ok HW 1 (zB_iff.mpr (?_ : G (41, [(1, .inl (.int s1)), (0, .inl (.ref 49))], [.inl (.ref 49)], hl, 0, 0)))
          have o8 : hget hl 49 5 = some (.inl (.ref 63)) := ((okl.2.1.2.1 49 5 hq_q (Or.inl rfl)).1.1 (5, 14, 29) (by decide +kernel)).1
          have t8 : T[63]? = some 29 := ((okl.2.1.2.1 49 5 hq_q (Or.inl rfl)).1.1 (5, 14, 29) (by decide +kernel)).2
          refine g_getf HW rfl okl.1 hq_q rfl o8 ?_
          refine zrn_ok HW 1 (zB_iff.mpr (?_ : G (45, [(1, .inl (.int s1)), (0, .inl (.ref 49))], [.inl (.int s1), .inl (.ref 63)], hl, 0, 0)))
          obtain ⟨x9, g9, e9, l9, u9⟩ := hi_val (i := (s1).toInt.toNat) okl.1 t8 (by show _ < 8; omega) rfl
          have l9 : ((-1) : Int) ≤ x9.toInt := l9
          have u9 : x9.toInt ≤ (7 : Int) := u9
          refine g_iald HW rfl okl.1 t8 rfl (by omega) g9 ?_
          refine zrn_ok HW 1 (zB_iff.mpr (?_ : G (47, [(1, .inl (.int s1)), (0, .inl (.ref 49))], [.inl (.ref 49), .inl (.int x9)], hl, 0, 0)))
          obtain ⟨x10, g10, e10, l10, u10⟩ := hi_val (i := 17) okl.1 hq_q (by decide) rfl
          have l10 : (0 : Int) ≤ x10.toInt := l10
          have u10 : x10.toInt ≤ (8 : Int) := u10
          refine g_getf HW rfl okl.1 hq_q rfl g10 ?_
          refine zrn_ok HW 1 (zbr_ex (cd := .lt) (x := x9) (y := x10) (fun hc11 => zB_iff.mpr ?_) (fun hc11 => zB_iff.mpr ?_))
          · -- pc 60
            have i11 : x9.toInt < x10.toInt := zop_int.mp hc11
            have y12 : -2147483648 ≤ s1.toInt + (1 : Int) → s1.toInt + (1 : Int) ≤ 2147483647 → (s1 + (1 : Int32)).toInt = s1.toInt + (1 : Int) := t_addC (x := s1) (y := (1 : Int32))
            refine zrn_ok HW 2 (zB_iff.mpr (?_ : G (24, [(1, .inl (.int (s1 + (1 : Int32)))), (0, .inl (.ref 49))], [], hl, 0, 0)))
            exact ih (s1 + (1 : Int32)) _ okl (by omega) (by omega) (by omega)
          · -- pc 53
            have i11 : ¬ (x9.toInt < x10.toInt) := fun e => hc11 (zop_int.mpr e)
            refine zrn_ok HW 1 (zB_iff.mpr (?_ : G (54, [(1, .inl (.int s1)), (0, .inl (.ref 49))], [.inl (.ref 49)], hl, 0, 0)))
            have o14 : hget hl 49 0 = some (.inl (.ref 50)) := ((okl.2.1.2.1 49 5 hq_q (Or.inl rfl)).1.1 (0, 1, 24) (by decide +kernel)).1
            have t14 : T[50]? = some 24 := ((okl.2.1.2.1 49 5 hq_q (Or.inl rfl)).1.1 (0, 1, 24) (by decide +kernel)).2
            refine g_getf HW rfl okl.1 hq_q rfl o14 ?_
            refine zrn_ok HW 2 (zB_iff.mpr (?_ : G (59, [(1, .inl (.int s1)), (0, .inl (.ref 49))], [.inl (.int (0 : Int32)), .inl (.int s1), .inl (.ref 50)], hl, 0, 0)))
            have ok15 : wOK (zPhi P) h.length T (hput hl 50 (s1).toInt.toNat (.inl (.int (0 : Int32)))) := ⟨hOK_put okl.1 t14 ⟨_, rfl, (by show (0 : Int) ≤ Int32.toInt (0 : Int32); decide), (by show Int32.toInt (0 : Int32) ≤ (2 : Int); decide)⟩, p_put50 okl.1 (by omega) (fun e => absurd e (by decide)) okl.2.1, by rw [hput_len]; exact okl.2.2⟩
            refine g_iast HW rfl okl.1 t14 rfl (by omega) (by show _ < (8 : Int); omega) ?_
            have y16 : -2147483648 ≤ s1.toInt + (1 : Int) → s1.toInt + (1 : Int) ≤ 2147483647 → (s1 + (1 : Int32)).toInt = s1.toInt + (1 : Int) := t_addC (x := s1) (y := (1 : Int32))
            refine zrn_ok HW 2 (zB_iff.mpr (?_ : G (24, [(1, .inl (.int (s1 + (1 : Int32)))), (0, .inl (.ref 49))], [], (hput hl 50 (s1).toInt.toNat (.inl (.int (0 : Int32)))), 0, 0)))
            exact ih (s1 + (1 : Int32)) _ ok15 (by omega) (by omega) (by omega)
  refine zrn_ok HW 1 (zB_iff.mpr (?_ : G (1, [(0, .inl (.ref 49))], [.inl (.ref 49)], h, 0, 0)))
  have kf : pNul T h 49 26 6 := ok.2.1.2.2.2.2.2.2.2.1
  rcases kf with kf | ⟨w, kf, tw⟩
  · refine g_getf HW rfl ok.1 hq_q rfl kf ?_
    refine zrn_ok HW 1 (zB_iff.mpr ?_)
    show G (7, [(0, .inl (.ref 49))], [], h, 0, 0)
    refine zrn_ok HW 2 (zB_iff.mpr (?_ : G (10, [(0, .inl (.ref 49))], [.inl (.int (-5 : Int32)), .inl (.ref 49)], h, 0, 0)))
    refine g_tV (e := te_X5_refuse_0) (E' := ze_X5_refuse) HW (tLow_of IH hd) rfl rfl (show te_X5_refuse_0 ∈ [te_X5_refuse_0] from List.mem_cons_self) (by decide +kernel) (Nat.le_of_ble_eq_true rfl) ⟨rfl, rfl⟩ (by decide) ok.1 ok.2.1 rfl hq_q rfl (Nat.le_of_ble_eq_true rfl) ⟨⟨_, rfl, hq_q⟩, okA_I (by decide) (by decide), trivial⟩ (fun v1 T1 h1 m1 k1 f1 lh1 r1 => ?_)
    obtain ⟨w1, rfl, hw1, cd1⟩ := r1
    obtain ⟨x1, rfl, l1, u1⟩ := tint_sp rfl hw1
    have l1 : ((-6) : Int) ≤ x1.toInt := l1
    have u1 : x1.toInt ≤ ((-2) : Int) := u1
    have ok1 : wOK (zPhi P) h.length T1 h1 := ⟨k1, f1, Nat.le_trans lh1 ok.2.2⟩
    have hq_q := m1 _ _ hq_q
    show G (13, [(0, .inl (.ref 49))], [.inl (.int x1)], h1, 0, 0)
    refine zrn_ok HW 1 ?_
    exact zret_i rfl rfl (RET x1 T1 h1 (tExt_tr (tExt_rf T) m1) ok1)
  · refine g_getf HW rfl ok.1 hq_q rfl kf ?_
    refine zrn_ok HW 3 (zB_iff.mpr (?_ : G (16, [(0, .inl (.ref 49))], [.inl (.ref 49), .inl (.ref 49)], h, 0, 0)))
    refine g_getf HW rfl ok.1 hq_q rfl kf ?_
    refine g_callV (E' := ze_X5_takeFrom) HW rfl rfl (Nat.le_of_ble_eq_true rfl) (Nat.le_of_ble_eq_true rfl) (Nat.le_of_ble_eq_true rfl) ok.1 rfl hq_q rfl (Nat.le_of_ble_eq_true rfl) (c_takeFrom5 ok hq_q tw (fun h3 ok3 f28 f49 => zB_iff.mpr ?_))
    show G (22, [(0, .inl (.ref 49))], [], h3, 0, 0)
    refine zrn_ok HW 2 (zB_iff.mpr ?_)
    exact loop 9 (0 : Int32) h3 ok3 (by decide) (by decide) (by decide)
