theorem c_priceTold {n m : Int} {v : Bool} {μ : Int} {N : Nat} {scr : List zV} {d : Nat} {T : List Nat} {h : zH} {post : Option zV → zH → Bool} (ok : wOK (zPhi (n, m, some μ, v)) N T h) (k1 : ∀ h' : zH, wOK (zPhi (n, m, some μ, v)) N T h' → post (some (.inl (.int 1))) h' = true) (k0 : ∀ h' : zH, wOK (zPhi (n, m, some μ, v)) N T h' → post (some (.inl (.int 0))) h' = true) : zD zprog scr (d + 5) 213 [.inl (.ref 49)] h post = true := by
  have hq_q := ok.2.1.1.2.2.1
  have hst := p_stab (n, m, some μ, v)
  refine zD_intro (E := ze_X5_priceTold) rfl rfl (fun G HW => ?_)
  refine zrn_ok HW 3 (zB_iff.mpr (?_ : G (4, [(0, .inl (.ref 49))], [.inl (.int (99 : Int32)), .inl (.int (1 : Int32)), .inl (.ref 49)], h, 0, 0)))
  refine g_callV (E' := ze_X5_tells) HW rfl rfl (Nat.le_of_ble_eq_true rfl) (Nat.le_of_ble_eq_true rfl) (Nat.le_of_ble_eq_true rfl) ok.1 rfl hq_q rfl (Nat.le_of_ble_eq_true rfl) (c_tells ok (fun f1 h1 ok1 lo1 up1 t1 n1 => zB_iff.mpr ?_) (fun h1 ok1 n1 => zB_iff.mpr ?_))
  · show G (7, [(0, .inl (.ref 49))], [.inl (.int (1 : Int32))], h1, 0, 0)
    have lo1 : (1 : Int) ≤ f1.toInt := lo1
    have up1 : f1.toInt ≤ (99 : Int) := up1
    refine zrn_ok HW 3 (zB_iff.mpr (?_ : G (14, [(0, .inl (.ref 49))], [.inl (.ref 49), .inl (.ref 49)], h1, 0, 0)))
    have o3 : hget h1 49 33 = some (.inl (.ref 78)) := ((ok1.2.1.2.1 49 5 hq_q (Or.inl rfl)).1.1 (33, 29, 40) (by decide +kernel)).1
    have t3 : T[78]? = some 40 := ((ok1.2.1.2.1 49 5 hq_q (Or.inl rfl)).1.1 (33, 29, 40) (by decide +kernel)).2
    refine g_getf HW rfl ok1.1 hq_q rfl o3 ?_
    refine zrn_ok HW 1 (zB_iff.mpr (?_ : G (18, [(0, .inl (.ref 49))], [.inl (.int (0 : Int32)), .inl (.ref 78), .inl (.ref 49)], h1, 0, 0)))
    obtain ⟨x4, g4, e4, l4, u4⟩ := hi_val (i := 0) ok1.1 t3 (by show _ < 3; omega) rfl
    have l4 : ((-2147483648) : Int) ≤ x4.toInt := l4
    have u4 : x4.toInt ≤ (2147483647 : Int) := u4
    refine g_iald HW rfl ok1.1 t3 rfl (by decide) g4 ?_
    have ok5 : wOK (zPhi (n, m, some μ, v)) N T (hput h1 49 11 (.inl (.int x4))) := wOK_put hst ok1 hq_q rfl ⟨_, rfl, (by show (1 : Int) ≤ _; omega), (by show _ ≤ (495 : Int); omega)⟩
    refine g_putf HW rfl ok1.1 hq_q rfl (by decide) rfl ?_
    refine zrn_ok HW 2 (zB_iff.mpr (?_ : G (25, [(0, .inl (.ref 49))], [.inl (.ref 1000007), .inl (.ref 49)], (hput h1 49 11 (.inl (.int x4))), 0, 0)))
    refine g_callV (E' := ze_X5_isWord) HW rfl rfl (Nat.le_of_ble_eq_true rfl) (Nat.le_of_ble_eq_true rfl) (Nat.le_of_ble_eq_true rfl) ok5.1 rfl hq_q rfl (Nat.le_of_ble_eq_true rfl) (c_isWord7 ok5 (fun tk6 => zB_iff.mpr ?_) (zB_iff.mpr ?_))
    · show G (28, [(0, .inl (.ref 49))], [.inl (.int (1 : Int32))], (hput h1 49 11 (.inl (.int x4))), 0, 0)
      refine zrn_ok HW 4 (zB_iff.mpr (?_ : G (36, [(0, .inl (.ref 49))], [.inl (.int (495 : Int32)), .inl (.int (1 : Int32)), .inl (.ref 49)], (hput h1 49 11 (.inl (.int x4))), 0, 0)))
      refine g_callV (E' := ze_X5_tells) HW rfl rfl (Nat.le_of_ble_eq_true rfl) (Nat.le_of_ble_eq_true rfl) (Nat.le_of_ble_eq_true rfl) ok5.1 rfl hq_q rfl (Nat.le_of_ble_eq_true rfl) (c_tells ok5 (fun f7 h7 ok7 lo7 up7 t7 n7 => zB_iff.mpr ?_) (fun h7 ok7 n7 => zB_iff.mpr ?_))
      · show G (39, [(0, .inl (.ref 49))], [.inl (.int (1 : Int32))], h7, 0, 0)
        have lo7 : (1 : Int) ≤ f7.toInt := lo7
        have up7 : f7.toInt ≤ (495 : Int) := up7
        refine zrn_ok HW 3 (zB_iff.mpr (?_ : G (46, [(0, .inl (.ref 49))], [.inl (.ref 49), .inl (.ref 49)], h7, 0, 0)))
        have o9 : hget h7 49 33 = some (.inl (.ref 78)) := ((ok7.2.1.2.1 49 5 hq_q (Or.inl rfl)).1.1 (33, 29, 40) (by decide +kernel)).1
        have t9 : T[78]? = some 40 := ((ok7.2.1.2.1 49 5 hq_q (Or.inl rfl)).1.1 (33, 29, 40) (by decide +kernel)).2
        refine g_getf HW rfl ok7.1 hq_q rfl o9 ?_
        refine zrn_ok HW 1 (zB_iff.mpr (?_ : G (50, [(0, .inl (.ref 49))], [.inl (.int (0 : Int32)), .inl (.ref 78), .inl (.ref 49)], h7, 0, 0)))
        obtain ⟨x10, g10, e10, l10, u10⟩ := hi_val (i := 0) ok7.1 t9 (by show _ < 3; omega) rfl
        have l10 : ((-2147483648) : Int) ≤ x10.toInt := l10
        have u10 : x10.toInt ≤ (2147483647 : Int) := u10
        refine g_iald HW rfl ok7.1 t9 rfl (by decide) g10 ?_
        have ok11 : wOK (zPhi (n, m, some μ, v)) N T (hput h7 49 12 (.inl (.int x10))) := wOK_put hst ok7 hq_q rfl ⟨_, rfl, (by show (1 : Int) ≤ _; omega), (by show _ ≤ (495 : Int); omega)⟩
        refine g_putf HW rfl ok7.1 hq_q rfl (by decide) rfl ?_
        refine zrn_ok HW 2 ?_
        exact zret_z rfl rfl (k1 _ ok11)
      · show G (39, [(0, .inl (.ref 49))], [.inl (.int (0 : Int32))], h7, 0, 0)
        refine zrn_ok HW 3 ?_
        exact zret_z rfl rfl (k0 _ ok7)
    · show G (28, [(0, .inl (.ref 49))], [.inl (.int (0 : Int32))], (hput h1 49 11 (.inl (.int x4))), 0, 0)
      refine zrn_ok HW 3 ?_
      exact zret_z rfl rfl (k1 _ ok5)
  · show G (7, [(0, .inl (.ref 49))], [.inl (.int (0 : Int32))], h1, 0, 0)
    refine zrn_ok HW 3 ?_
    exact zret_z rfl rfl (k0 _ ok1)
theorem c_thingTold {n m : Int} {v : Bool} {μ : Int} {N : Nat} {scr : List zV} {d : Nat} {T : List Nat} {h : zH} {post : Option zV → zH → Bool} (ok : wOK (zPhi (n, m, some μ, v)) N T h) (hn : hi h 49 17 ≤ 7) (k1 : ∀ h' : zH, wOK (zPhi (n, m, some μ, v)) N T h' → post (some (.inl (.int 1))) h' = true) (k0 : ∀ h' : zH, wOK (zPhi (n, m, some μ, v)) N T h' → post (some (.inl (.int 0))) h' = true) : zD zprog scr (d + 5) 239 [.inl (.ref 49)] h post = true := by
  have hq_q := ok.2.1.1.2.2.1
  have hst := p_stab (n, m, some μ, v)
  refine zD_intro (E := ze_X5_thingTold) rfl rfl (fun G HW => ?_)
  refine zrn_ok HW 3 (zB_iff.mpr (?_ : G (3, [(0, .inl (.ref 49))], [.inl (.int (5 : Int32)), .inl (.int (0 : Int32)), .inl (.ref 49)], h, 0, 0)))
  refine g_callV (E' := ze_X5_tells) HW rfl rfl (Nat.le_of_ble_eq_true rfl) (Nat.le_of_ble_eq_true rfl) (Nat.le_of_ble_eq_true rfl) ok.1 rfl hq_q rfl (Nat.le_of_ble_eq_true rfl) (c_tells ok (fun f1 h1 ok1 lo1 up1 t1 n1 => zB_iff.mpr ?_) (fun h1 ok1 n1 => zB_iff.mpr ?_))
  · show G (6, [(0, .inl (.ref 49))], [.inl (.int (1 : Int32))], h1, 0, 0)
    have lo1 : (0 : Int) ≤ f1.toInt := lo1
    have up1 : f1.toInt ≤ (5 : Int) := up1
    refine zrn_ok HW 2 (zB_iff.mpr (?_ : G (12, [(0, .inl (.ref 49))], [.inl (.ref 49)], h1, 0, 0)))
    obtain ⟨x2, g2, e2, l2, u2⟩ := hi_val (i := 29) ok1.1 hq_q (by decide) rfl
    have l2 : (0 : Int) ≤ x2.toInt := l2
    have u2 : x2.toInt ≤ (4 : Int) := u2
    refine g_getf HW rfl ok1.1 hq_q rfl g2 ?_
    refine zrn_ok HW 2 (zbr_ex (cd := .ne) (x := x2) (y := (2 : Int32)) (fun hc3 => zB_iff.mpr ?_) (fun hc3 => zB_iff.mpr ?_))
    · -- pc 54
      have i3 : ¬ x2.toInt = (2 : Int) := zop_int.mp hc3
      refine zrn_ok HW 1 (zB_iff.mpr (?_ : G (55, [(0, .inl (.ref 49))], [.inl (.ref 49)], h1, 0, 0)))
      refine g_callV (E' := ze_X5_wrong) HW rfl rfl (Nat.le_of_ble_eq_true rfl) (Nat.le_of_ble_eq_true rfl) (Nat.le_of_ble_eq_true rfl) ok1.1 rfl hq_q rfl (Nat.le_of_ble_eq_true rfl) (c_wrong ok1 (fun h4 ok4 fr4 => zB_iff.mpr ?_))
      show G (58, [(0, .inl (.ref 49))], [.inl (.int (0 : Int32))], h4, 0, 0)
      refine zrn_ok HW 1 ?_
      exact zret_z rfl rfl (k0 _ ok4)
    · -- pc 19
      have i3 : ¬ (¬ x2.toInt = (2 : Int)) := fun e => hc3 (zop_int.mpr e)
      refine zrn_ok HW 2 (zB_iff.mpr (?_ : G (21, [(0, .inl (.ref 49))], [.inl (.ref 49), .inl (.ref 49)], h1, 0, 0)))
      obtain ⟨x5, g5, e5, l5, u5⟩ := hi_val (i := 31) ok1.1 hq_q (by decide) rfl
      have l5 : ((-2147483648) : Int) ≤ x5.toInt := l5
      have u5 : x5.toInt ≤ (2147483647 : Int) := u5
      refine g_getf HW rfl ok1.1 hq_q rfl g5 ?_
      refine g_callV (E' := ze_X5_isWinner) HW rfl rfl (Nat.le_of_ble_eq_true rfl) (Nat.le_of_ble_eq_true rfl) (Nat.le_of_ble_eq_true rfl) ok1.1 rfl hq_q rfl (Nat.le_of_ble_eq_true rfl) (c_isWinner ok1 hq_q (fun a6 b6 => zB_iff.mpr ?_) (zB_iff.mpr ?_))
      · show G (27, [(0, .inl (.ref 49))], [.inl (.int (1 : Int32))], h1, 0, 0)
        obtain ⟨sl6, -, eS6, -, uS6⟩ := hi_val (i := 9) ok1.1 hq_q (by decide) rfl
        have uS6 : sl6.toInt ≤ (60 : Int) := uS6
        refine zrn_ok HW 2 (zB_iff.mpr (?_ : G (31, [(0, .inl (.ref 49))], [.inl (.ref 49)], h1, 0, 0)))
        have o8 : hget h1 49 16 = some (.inl (.ref 66)) := ((ok1.2.1.2.1 49 5 hq_q (Or.inl rfl)).1.1 (16, 17, 31) (by decide +kernel)).1
        have t8 : T[66]? = some 31 := ((ok1.2.1.2.1 49 5 hq_q (Or.inl rfl)).1.1 (16, 17, 31) (by decide +kernel)).2
        refine g_getf HW rfl ok1.1 hq_q rfl o8 ?_
        refine zrn_ok HW 1 (zB_iff.mpr (?_ : G (35, [(0, .inl (.ref 49))], [.inl (.ref 49), .inl (.ref 66)], h1, 0, 0)))
        obtain ⟨x9, g9, e9, l9, u9⟩ := hi_val (i := 31) ok1.1 hq_q (by decide) rfl
        have l9 : ((-2147483648) : Int) ≤ x9.toInt := l9
        have u9 : x9.toInt ≤ (2147483647 : Int) := u9
        refine g_getf HW rfl ok1.1 hq_q rfl g9 ?_
        obtain ⟨x10, g10, e10, l10, u10⟩ := hi_val (i := (x9).toInt.toNat) ok1.1 t8 (by show _ < 61; omega) rfl
        have l10 : (0 : Int) ≤ x10.toInt := l10
        have u10 : x10.toInt ≤ (1 : Int) := u10
        refine g_iald HW rfl ok1.1 t8 rfl (by omega) g10 ?_
        refine zrn_ok HW 1 (zbr_ex (cd := .ne) (x := x10) (y := (0 : Int32)) (fun hc11 => zB_iff.mpr ?_) (fun hc11 => zB_iff.mpr ?_))
        · -- pc 54
          have i11 : ¬ x10.toInt = (0 : Int) := zop_int.mp hc11
          refine zrn_ok HW 1 (zB_iff.mpr (?_ : G (55, [(0, .inl (.ref 49))], [.inl (.ref 49)], h1, 0, 0)))
          refine g_callV (E' := ze_X5_wrong) HW rfl rfl (Nat.le_of_ble_eq_true rfl) (Nat.le_of_ble_eq_true rfl) (Nat.le_of_ble_eq_true rfl) ok1.1 rfl hq_q rfl (Nat.le_of_ble_eq_true rfl) (c_wrong ok1 (fun h12 ok12 fr12 => zB_iff.mpr ?_))
          show G (58, [(0, .inl (.ref 49))], [.inl (.int (0 : Int32))], h12, 0, 0)
          refine zrn_ok HW 1 ?_
          exact zret_z rfl rfl (k0 _ ok12)
        · -- pc 42
          have i11 : ¬ (¬ x10.toInt = (0 : Int)) := fun e => hc11 (zop_int.mpr e)
          refine zrn_ok HW 2 (zB_iff.mpr (?_ : G (44, [(0, .inl (.ref 49))], [.inl (.ref 49), .inl (.ref 49)], h1, 0, 0)))
          obtain ⟨x13, g13, e13, l13, u13⟩ := hi_val (i := 31) ok1.1 hq_q (by decide) rfl
          have l13 : ((-2147483648) : Int) ≤ x13.toInt := l13
          have u13 : x13.toInt ≤ (2147483647 : Int) := u13
          refine g_getf HW rfl ok1.1 hq_q rfl g13 ?_
          refine g_callV (E' := ze_X5_thingOn) HW rfl rfl (Nat.le_of_ble_eq_true rfl) (Nat.le_of_ble_eq_true rfl) (Nat.le_of_ble_eq_true rfl) ok1.1 rfl hq_q rfl (Nat.le_of_ble_eq_true rfl) (c_thingOn5 ok1.1 hq_q (ok1.2.1.2.1 49 5 hq_q (Or.inl rfl)).1 (fun t14 ta14 tb14 tc14 => zB_iff.mpr ?_) (fun tn14 => zB_iff.mpr ?_))
          · show G (50, [(0, .inl (.ref 49))], [.inl (.int (Int32.ofNat t14))], h1, 0, 0)
            obtain ⟨nT14, -, eT14, -, uT14⟩ := hi_val (i := 17) ok1.1 hq_q (by decide) rfl
            have uT14 : nT14.toInt ≤ (8 : Int) := uT14
            have ej14 := nI_int (k := t14) (by omega)
            refine zrn_ok HW 2 (zbr_ex (cd := .eq) (x := (Int32.ofNat t14)) (y := (-1 : Int32)) (fun hc15 => zB_iff.mpr ?_) (fun hc15 => zB_iff.mpr ?_))
            · -- pc 59
              have i15 : (Int32.ofNat t14).toInt = (-1 : Int) := zop_int.mp hc15
              refine zrn_ok HW 4 (zB_iff.mpr (?_ : G (63, [(0, .inl (.ref 49))], [.inl (.ref 49), .inl (.int (1 : Int32)), .inl (.int (1 : Int32)), .inl (.ref 49)], h1, 0, 0)))
              obtain ⟨x16, g16, e16, l16, u16⟩ := hi_val (i := 9) ok1.1 hq_q (by decide) rfl
              have l16 : (1 : Int) ≤ x16.toInt := l16
              have u16 : x16.toInt ≤ (60 : Int) := u16
              refine g_getf HW rfl ok1.1 hq_q rfl g16 ?_
              refine g_callV (E' := ze_X5_number) HW rfl rfl (Nat.le_of_ble_eq_true rfl) (Nat.le_of_ble_eq_true rfl) (Nat.le_of_ble_eq_true rfl) ok1.1 rfl hq_q rfl (Nat.le_of_ble_eq_true rfl) (c_number ok1 (i := (1 : Int32)) ⟨by decide, by decide⟩ (fun f17 h17 ok17 x17 lo17 up17 t17 o17 n17 => zB_iff.mpr ?_) (fun h17 ok17 n17 => zB_iff.mpr ?_))
              · show G (69, [(0, .inl (.ref 49))], [.inl (.int (1 : Int32))], h17, 0, 0)
                have lo17 : (1 : Int) ≤ f17.toInt := lo17
                have up17 : f17.toInt ≤ x16.toInt := up17
                have t17 : hi h17 78 1 = f17.toInt := t17
                have o17 : ∀ j, j ≠ 1 → hi h17 78 j = hi h1 78 j := o17
                refine zrn_ok HW 5 (zB_iff.mpr (?_ : G (77, [(0, .inl (.ref 49))], [.inl (.int (9 : Int32)), .inl (.int (0 : Int32)), .inl (.int (2 : Int32)), .inl (.ref 49)], h17, 0, 0)))
                refine g_callV (E' := ze_X5_number) HW rfl rfl (Nat.le_of_ble_eq_true rfl) (Nat.le_of_ble_eq_true rfl) (Nat.le_of_ble_eq_true rfl) ok17.1 rfl hq_q rfl (Nat.le_of_ble_eq_true rfl) (c_number ok17 (i := (2 : Int32)) ⟨by decide, by decide⟩ (fun f18 h18 ok18 x18 lo18 up18 t18 o18 n18 => zB_iff.mpr ?_) (fun h18 ok18 n18 => zB_iff.mpr ?_))
                · show G (80, [(0, .inl (.ref 49))], [.inl (.int (1 : Int32))], h18, 0, 0)
                  have lo18 : (0 : Int) ≤ f18.toInt := lo18
                  have up18 : f18.toInt ≤ (9 : Int) := up18
                  have t18 : hi h18 78 2 = f18.toInt := t18
                  have o18 : ∀ j, j ≠ 2 → hi h18 78 j = hi h17 78 j := o18
                  refine zrn_ok HW 3 (zB_iff.mpr (?_ : G (87, [(0, .inl (.ref 49))], [.inl (.ref 49), .inl (.ref 49)], h18, 0, 0)))
                  have o20 : hget h18 49 33 = some (.inl (.ref 78)) := ((ok18.2.1.2.1 49 5 hq_q (Or.inl rfl)).1.1 (33, 29, 40) (by decide +kernel)).1
                  have t20 : T[78]? = some 40 := ((ok18.2.1.2.1 49 5 hq_q (Or.inl rfl)).1.1 (33, 29, 40) (by decide +kernel)).2
                  refine g_getf HW rfl ok18.1 hq_q rfl o20 ?_
                  refine zrn_ok HW 1 (zB_iff.mpr (?_ : G (91, [(0, .inl (.ref 49))], [.inl (.int (0 : Int32)), .inl (.ref 78), .inl (.ref 49)], h18, 0, 0)))
                  obtain ⟨x21, g21, e21, l21, u21⟩ := hi_val (i := 0) ok18.1 t20 (by show _ < 3; omega) rfl
                  have l21 : ((-2147483648) : Int) ≤ x21.toInt := l21
                  have u21 : x21.toInt ≤ (2147483647 : Int) := u21
                  refine g_iald HW rfl ok18.1 t20 rfl (by decide) g21 ?_
                  refine zrn_ok HW 1 (zB_iff.mpr (?_ : G (93, [(0, .inl (.ref 49))], [.inl (.ref 49), .inl (.int x21), .inl (.ref 49)], h18, 0, 0)))
                  have o23 : hget h18 49 33 = some (.inl (.ref 78)) := ((ok18.2.1.2.1 49 5 hq_q (Or.inl rfl)).1.1 (33, 29, 40) (by decide +kernel)).1
                  have t23 : T[78]? = some 40 := ((ok18.2.1.2.1 49 5 hq_q (Or.inl rfl)).1.1 (33, 29, 40) (by decide +kernel)).2
                  refine g_getf HW rfl ok18.1 hq_q rfl o23 ?_
                  refine zrn_ok HW 1 (zB_iff.mpr (?_ : G (97, [(0, .inl (.ref 49))], [.inl (.int (1 : Int32)), .inl (.ref 78), .inl (.int x21), .inl (.ref 49)], h18, 0, 0)))
                  obtain ⟨x24, g24, e24, l24, u24⟩ := hi_val (i := 1) ok18.1 t23 (by show _ < 3; omega) rfl
                  have l24 : ((-2147483648) : Int) ≤ x24.toInt := l24
                  have u24 : x24.toInt ≤ (2147483647 : Int) := u24
                  refine g_iald HW rfl ok18.1 t23 rfl (by decide) g24 ?_
                  refine zrn_ok HW 1 (zB_iff.mpr (?_ : G (99, [(0, .inl (.ref 49))], [.inl (.ref 49), .inl (.int x24), .inl (.int x21), .inl (.ref 49)], h18, 0, 0)))
                  have o26 : hget h18 49 33 = some (.inl (.ref 78)) := ((ok18.2.1.2.1 49 5 hq_q (Or.inl rfl)).1.1 (33, 29, 40) (by decide +kernel)).1
                  have t26 : T[78]? = some 40 := ((ok18.2.1.2.1 49 5 hq_q (Or.inl rfl)).1.1 (33, 29, 40) (by decide +kernel)).2
                  refine g_getf HW rfl ok18.1 hq_q rfl o26 ?_
                  refine zrn_ok HW 1 (zB_iff.mpr (?_ : G (103, [(0, .inl (.ref 49))], [.inl (.int (2 : Int32)), .inl (.ref 78), .inl (.int x24), .inl (.int x21), .inl (.ref 49)], h18, 0, 0)))
                  obtain ⟨x27, g27, e27, l27, u27⟩ := hi_val (i := 2) ok18.1 t26 (by show _ < 3; omega) rfl
                  have l27 : ((-2147483648) : Int) ≤ x27.toInt := l27
                  have u27 : x27.toInt ≤ (2147483647 : Int) := u27
                  refine g_iald HW rfl ok18.1 t26 rfl (by decide) g27 ?_
                  exfalso
                  omega
                · show G (80, [(0, .inl (.ref 49))], [.inl (.int (0 : Int32))], h18, 0, 0)
                  refine zrn_ok HW 3 ?_
                  exact zret_z rfl rfl (k0 _ ok18)
              · show G (69, [(0, .inl (.ref 49))], [.inl (.int (0 : Int32))], h17, 0, 0)
                refine zrn_ok HW 3 ?_
                exact zret_z rfl rfl (k0 _ ok17)
            · -- pc 54
              have i15 : ¬ ((Int32.ofNat t14).toInt = (-1 : Int)) := fun e => hc15 (zop_int.mpr e)
              refine zrn_ok HW 1 (zB_iff.mpr (?_ : G (55, [(0, .inl (.ref 49))], [.inl (.ref 49)], h1, 0, 0)))
              refine g_callV (E' := ze_X5_wrong) HW rfl rfl (Nat.le_of_ble_eq_true rfl) (Nat.le_of_ble_eq_true rfl) (Nat.le_of_ble_eq_true rfl) ok1.1 rfl hq_q rfl (Nat.le_of_ble_eq_true rfl) (c_wrong ok1 (fun h29 ok29 fr29 => zB_iff.mpr ?_))
              show G (58, [(0, .inl (.ref 49))], [.inl (.int (0 : Int32))], h29, 0, 0)
              refine zrn_ok HW 1 ?_
              exact zret_z rfl rfl (k0 _ ok29)
          · show G (50, [(0, .inl (.ref 49))], [.inl (.int (-1 : Int32))], h1, 0, 0)
            refine zrn_ok HW 6 (zB_iff.mpr (?_ : G (63, [(0, .inl (.ref 49))], [.inl (.ref 49), .inl (.int (1 : Int32)), .inl (.int (1 : Int32)), .inl (.ref 49)], h1, 0, 0)))
            obtain ⟨x30, g30, e30, l30, u30⟩ := hi_val (i := 9) ok1.1 hq_q (by decide) rfl
            have l30 : (1 : Int) ≤ x30.toInt := l30
            have u30 : x30.toInt ≤ (60 : Int) := u30
            refine g_getf HW rfl ok1.1 hq_q rfl g30 ?_
            refine g_callV (E' := ze_X5_number) HW rfl rfl (Nat.le_of_ble_eq_true rfl) (Nat.le_of_ble_eq_true rfl) (Nat.le_of_ble_eq_true rfl) ok1.1 rfl hq_q rfl (Nat.le_of_ble_eq_true rfl) (c_number ok1 (i := (1 : Int32)) ⟨by decide, by decide⟩ (fun f31 h31 ok31 x31 lo31 up31 t31 o31 n31 => zB_iff.mpr ?_) (fun h31 ok31 n31 => zB_iff.mpr ?_))
            · show G (69, [(0, .inl (.ref 49))], [.inl (.int (1 : Int32))], h31, 0, 0)
              have lo31 : (1 : Int) ≤ f31.toInt := lo31
              have up31 : f31.toInt ≤ x30.toInt := up31
              have t31 : hi h31 78 1 = f31.toInt := t31
              have o31 : ∀ j, j ≠ 1 → hi h31 78 j = hi h1 78 j := o31
              refine zrn_ok HW 5 (zB_iff.mpr (?_ : G (77, [(0, .inl (.ref 49))], [.inl (.int (9 : Int32)), .inl (.int (0 : Int32)), .inl (.int (2 : Int32)), .inl (.ref 49)], h31, 0, 0)))
              refine g_callV (E' := ze_X5_number) HW rfl rfl (Nat.le_of_ble_eq_true rfl) (Nat.le_of_ble_eq_true rfl) (Nat.le_of_ble_eq_true rfl) ok31.1 rfl hq_q rfl (Nat.le_of_ble_eq_true rfl) (c_number ok31 (i := (2 : Int32)) ⟨by decide, by decide⟩ (fun f32 h32 ok32 x32 lo32 up32 t32 o32 n32 => zB_iff.mpr ?_) (fun h32 ok32 n32 => zB_iff.mpr ?_))
              · show G (80, [(0, .inl (.ref 49))], [.inl (.int (1 : Int32))], h32, 0, 0)
                have lo32 : (0 : Int) ≤ f32.toInt := lo32
                have up32 : f32.toInt ≤ (9 : Int) := up32
                have t32 : hi h32 78 2 = f32.toInt := t32
                have o32 : ∀ j, j ≠ 2 → hi h32 78 j = hi h31 78 j := o32
                refine zrn_ok HW 3 (zB_iff.mpr (?_ : G (87, [(0, .inl (.ref 49))], [.inl (.ref 49), .inl (.ref 49)], h32, 0, 0)))
                have o34 : hget h32 49 33 = some (.inl (.ref 78)) := ((ok32.2.1.2.1 49 5 hq_q (Or.inl rfl)).1.1 (33, 29, 40) (by decide +kernel)).1
                have t34 : T[78]? = some 40 := ((ok32.2.1.2.1 49 5 hq_q (Or.inl rfl)).1.1 (33, 29, 40) (by decide +kernel)).2
                refine g_getf HW rfl ok32.1 hq_q rfl o34 ?_
                refine zrn_ok HW 1 (zB_iff.mpr (?_ : G (91, [(0, .inl (.ref 49))], [.inl (.int (0 : Int32)), .inl (.ref 78), .inl (.ref 49)], h32, 0, 0)))
                obtain ⟨x35, g35, e35, l35, u35⟩ := hi_val (i := 0) ok32.1 t34 (by show _ < 3; omega) rfl
                have l35 : ((-2147483648) : Int) ≤ x35.toInt := l35
                have u35 : x35.toInt ≤ (2147483647 : Int) := u35
                refine g_iald HW rfl ok32.1 t34 rfl (by decide) g35 ?_
                refine zrn_ok HW 1 (zB_iff.mpr (?_ : G (93, [(0, .inl (.ref 49))], [.inl (.ref 49), .inl (.int x35), .inl (.ref 49)], h32, 0, 0)))
                have o37 : hget h32 49 33 = some (.inl (.ref 78)) := ((ok32.2.1.2.1 49 5 hq_q (Or.inl rfl)).1.1 (33, 29, 40) (by decide +kernel)).1
                have t37 : T[78]? = some 40 := ((ok32.2.1.2.1 49 5 hq_q (Or.inl rfl)).1.1 (33, 29, 40) (by decide +kernel)).2
                refine g_getf HW rfl ok32.1 hq_q rfl o37 ?_
                refine zrn_ok HW 1 (zB_iff.mpr (?_ : G (97, [(0, .inl (.ref 49))], [.inl (.int (1 : Int32)), .inl (.ref 78), .inl (.int x35), .inl (.ref 49)], h32, 0, 0)))
                obtain ⟨x38, g38, e38, l38, u38⟩ := hi_val (i := 1) ok32.1 t37 (by show _ < 3; omega) rfl
                have l38 : ((-2147483648) : Int) ≤ x38.toInt := l38
                have u38 : x38.toInt ≤ (2147483647 : Int) := u38
                refine g_iald HW rfl ok32.1 t37 rfl (by decide) g38 ?_
                refine zrn_ok HW 1 (zB_iff.mpr (?_ : G (99, [(0, .inl (.ref 49))], [.inl (.ref 49), .inl (.int x38), .inl (.int x35), .inl (.ref 49)], h32, 0, 0)))
                have o40 : hget h32 49 33 = some (.inl (.ref 78)) := ((ok32.2.1.2.1 49 5 hq_q (Or.inl rfl)).1.1 (33, 29, 40) (by decide +kernel)).1
                have t40 : T[78]? = some 40 := ((ok32.2.1.2.1 49 5 hq_q (Or.inl rfl)).1.1 (33, 29, 40) (by decide +kernel)).2
                refine g_getf HW rfl ok32.1 hq_q rfl o40 ?_
                refine zrn_ok HW 1 (zB_iff.mpr (?_ : G (103, [(0, .inl (.ref 49))], [.inl (.int (2 : Int32)), .inl (.ref 78), .inl (.int x38), .inl (.int x35), .inl (.ref 49)], h32, 0, 0)))
                obtain ⟨x41, g41, e41, l41, u41⟩ := hi_val (i := 2) ok32.1 t40 (by show _ < 3; omega) rfl
                have l41 : ((-2147483648) : Int) ≤ x41.toInt := l41
                have u41 : x41.toInt ≤ (2147483647 : Int) := u41
                refine g_iald HW rfl ok32.1 t40 rfl (by decide) g41 ?_
                have n13 := nFr_n n31 n32
                have s9 : hi h32 49 9 = hi h1 49 9 := nFr_hi n13 (by decide) (by decide)
                have s17 : hi h32 49 17 = hi h1 49 17 := nFr_hi n13 (by decide) (by decide)
                have s66 : ∀ j, hi h32 66 j = hi h1 66 j := fun j => nFr_hi n13 (Or.inl (by decide)) (by decide)
                have s68 : ∀ j, hi h32 68 j = hi h1 68 j := fun j => nFr_hi n13 (Or.inl (by decide)) (by decide)
                have s17b : hi h1 49 17 = hi h 49 17 := nFr_hi n1 (by decide) (by decide)
                have q0 := o31 0 (by decide)
                have q1 := o32 0 (by decide)
                have q2 := o32 1 (by decide)
                have ey : x38.toInt = f31.toInt := by omega
                have eys : x38.toInt.toNat = f31.toInt.toNat := by omega
                have fx5 : x5.toInt = f31.toInt := by omega
                have fx9 : x9.toInt = f31.toInt := by omega
                have fx13 : x13.toInt = f31.toInt := by omega
                refine g_callV (E' := ze_X5_addThing) HW rfl rfl (Nat.le_of_ble_eq_true rfl) (Nat.le_of_ble_eq_true rfl) (Nat.le_of_ble_eq_true rfl) ok32.1 rfl hq_q rfl (Nat.le_of_ble_eq_true rfl) (c_addThing ok32 ⟨by omega, by omega⟩ ⟨by omega, by omega⟩ ⟨by omega, by omega⟩ (by omega) (by rw [eys, s66]; rw [fx9] at e10; omega) (fun u hu9 => by rw [s68, ey]; rw [s17] at hu9; have := tn14 u hu9; rw [fx13] at this; exact this) (fun h42 ok42 => zB_iff.mpr ?_))
                show G (107, [(0, .inl (.ref 49))], [], h42, 0, 0)
                refine zrn_ok HW 2 ?_
                exact zret_z rfl rfl (k1 _ ok42)
              · show G (80, [(0, .inl (.ref 49))], [.inl (.int (0 : Int32))], h32, 0, 0)
                refine zrn_ok HW 3 ?_
                exact zret_z rfl rfl (k0 _ ok32)
            · show G (69, [(0, .inl (.ref 49))], [.inl (.int (0 : Int32))], h31, 0, 0)
              refine zrn_ok HW 3 ?_
              exact zret_z rfl rfl (k0 _ ok31)
      · show G (27, [(0, .inl (.ref 49))], [.inl (.int (0 : Int32))], h1, 0, 0)
        refine zrn_ok HW 2 (zB_iff.mpr (?_ : G (55, [(0, .inl (.ref 49))], [.inl (.ref 49)], h1, 0, 0)))
        refine g_callV (E' := ze_X5_wrong) HW rfl rfl (Nat.le_of_ble_eq_true rfl) (Nat.le_of_ble_eq_true rfl) (Nat.le_of_ble_eq_true rfl) ok1.1 rfl hq_q rfl (Nat.le_of_ble_eq_true rfl) (c_wrong ok1 (fun h43 ok43 fr43 => zB_iff.mpr ?_))
        show G (58, [(0, .inl (.ref 49))], [.inl (.int (0 : Int32))], h43, 0, 0)
        refine zrn_ok HW 1 ?_
        exact zret_z rfl rfl (k0 _ ok43)
  · show G (6, [(0, .inl (.ref 49))], [.inl (.int (0 : Int32))], h1, 0, 0)
    refine zrn_ok HW 3 ?_
    exact zret_z rfl rfl (k0 _ ok1)
