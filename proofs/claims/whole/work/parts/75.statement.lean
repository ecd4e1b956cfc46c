theorem c_statement {n m : Int} {v : Bool} {μ : Int} {N : Nat} {scr : List zV} {d : Nat} {T : List Nat} {h : zH} {post : Option zV → zH → Bool} (ok : wOK (zPhi (n, m, some μ, v)) N T h) (k1 : ∀ h' : zH, wOK (zPhi (n, m, some μ, v)) N T h' → post (some (.inl (.int 1))) h' = true) (k0 : ∀ h' : zH, wOK (zPhi (n, m, some μ, v)) N T h' → post (some (.inl (.int 0))) h' = true) : zD zprog scr (d + 6) 227 [.inl (.ref 49)] h post = true := by
  have hq_q := ok.2.1.1.2.2.1
  have hst := p_stab (n, m, some μ, v)
  refine zD_intro (E := ze_X5_statement) rfl rfl (fun G HW => ?_)
  have at244 : G (244, [(0, .inl (.ref 49))], [], h, 0, 0) := by
    refine zrn_ok HW 2 (zB_iff.mpr (?_ : G (247, [(0, .inl (.ref 49))], [.inl (.ref 1000006), .inl (.ref 49)], h, 0, 0)))
    refine g_callV (E' := ze_X5_isWord) HW rfl rfl (Nat.le_of_ble_eq_true rfl) (Nat.le_of_ble_eq_true rfl) (Nat.le_of_ble_eq_true rfl) ok.1 rfl hq_q rfl (Nat.le_of_ble_eq_true rfl) (c_isWord6 ok (fun tk1 => zB_iff.mpr ?_) (zB_iff.mpr ?_))
    · show G (250, [(0, .inl (.ref 49))], [.inl (.int (1 : Int32))], h, 0, 0)
      refine zrn_ok HW 2 (zB_iff.mpr (?_ : G (254, [(0, .inl (.ref 49))], [.inl (.ref 49)], h, 0, 0)))
      refine g_callV (E' := ze_X5_outTold) HW rfl rfl (Nat.le_of_ble_eq_true rfl) (Nat.le_of_ble_eq_true rfl) (Nat.le_of_ble_eq_true rfl) ok.1 rfl hq_q rfl (Nat.le_of_ble_eq_true rfl) (c_outTold ok (fun h2 ok2 => zB_iff.mpr ?_) (fun h2 ok2 => zB_iff.mpr ?_))
      · show G (257, [(0, .inl (.ref 49))], [.inl (.int (1 : Int32))], h2, 0, 0)
        refine zrn_ok HW 2 ?_
        exact zret_z rfl rfl (k1 _ ok2)
      · show G (257, [(0, .inl (.ref 49))], [.inl (.int (0 : Int32))], h2, 0, 0)
        refine zrn_ok HW 2 ?_
        exact zret_z rfl rfl (k0 _ ok2)
    · show G (250, [(0, .inl (.ref 49))], [.inl (.int (0 : Int32))], h, 0, 0)
      refine zrn_ok HW 2 (zB_iff.mpr (?_ : G (261, [(0, .inl (.ref 49))], [.inl (.ref 49)], h, 0, 0)))
      refine g_callV (E' := ze_X5_wrong) HW rfl rfl (Nat.le_of_ble_eq_true rfl) (Nat.le_of_ble_eq_true rfl) (Nat.le_of_ble_eq_true rfl) ok.1 rfl hq_q rfl (Nat.le_of_ble_eq_true rfl) (c_wrong ok (fun h3 ok3 fr3 => zB_iff.mpr ?_))
      show G (264, [(0, .inl (.ref 49))], [.inl (.int (0 : Int32))], h3, 0, 0)
      refine zrn_ok HW 1 ?_
      exact zret_z rfl rfl (k0 _ ok3)
  have at166 : G (166, [(0, .inl (.ref 49))], [], h, 0, 0) := by
    refine zrn_ok HW 2 (zB_iff.mpr (?_ : G (169, [(0, .inl (.ref 49))], [.inl (.ref 1000005), .inl (.ref 49)], h, 0, 0)))
    refine g_callV (E' := ze_X5_isWord) HW rfl rfl (Nat.le_of_ble_eq_true rfl) (Nat.le_of_ble_eq_true rfl) (Nat.le_of_ble_eq_true rfl) ok.1 rfl hq_q rfl (Nat.le_of_ble_eq_true rfl) (c_isWord5 ok (fun tk4 => zB_iff.mpr ?_) (zB_iff.mpr ?_))
    · show G (172, [(0, .inl (.ref 49))], [.inl (.int (1 : Int32))], h, 0, 0)
      refine zrn_ok HW 4 (zB_iff.mpr (?_ : G (178, [(0, .inl (.ref 49))], [.inl (.ref 49), .inl (.int (0 : Int32)), .inl (.ref 49)], h, 0, 0)))
      obtain ⟨x5, g5, e5, l5, u5⟩ := hi_val (i := 23) ok.1 hq_q (by decide) rfl
      have l5 : (0 : Int) ≤ x5.toInt := l5
      have u5 : x5.toInt ≤ (4 : Int) := u5
      refine g_getf HW rfl ok.1 hq_q rfl g5 ?_
      have y6 : -2147483648 ≤ x5.toInt - (1 : Int) → x5.toInt - (1 : Int) ≤ 2147483647 → (x5 - (1 : Int32)).toInt = x5.toInt - (1 : Int) := t_subC (x := x5) (y := (1 : Int32))
      refine zrn_ok HW 2 (zB_iff.mpr (?_ : G (183, [(0, .inl (.ref 49))], [.inl (.int (x5 - (1 : Int32))), .inl (.int (0 : Int32)), .inl (.ref 49)], h, 0, 0)))
      refine g_callV (E' := ze_X5_tells) HW rfl rfl (Nat.le_of_ble_eq_true rfl) (Nat.le_of_ble_eq_true rfl) (Nat.le_of_ble_eq_true rfl) ok.1 rfl hq_q rfl (Nat.le_of_ble_eq_true rfl) (c_tells ok (fun f7 h7 ok7 lo7 up7 t7 n7 => zB_iff.mpr ?_) (fun h7 ok7 n7 => zB_iff.mpr ?_))
      · show G (186, [(0, .inl (.ref 49))], [.inl (.int (1 : Int32))], h7, 0, 0)
        have lo7 : (0 : Int) ≤ f7.toInt := lo7
        have up7 : f7.toInt ≤ (x5 - (1 : Int32)).toInt := up7
        refine zrn_ok HW 5 (zB_iff.mpr (?_ : G (193, [(0, .inl (.ref 49))], [.inl (.ref 49), .inl (.int (0 : Int32)), .inl (.int (1 : Int32)), .inl (.ref 49)], h7, 0, 0)))
        obtain ⟨x8, g8, e8, l8, u8⟩ := hi_val (i := 17) ok7.1 hq_q (by decide) rfl
        have l8 : (0 : Int) ≤ x8.toInt := l8
        have u8 : x8.toInt ≤ (8 : Int) := u8
        refine g_getf HW rfl ok7.1 hq_q rfl g8 ?_
        have y9 : -2147483648 ≤ x8.toInt - (1 : Int) → x8.toInt - (1 : Int) ≤ 2147483647 → (x8 - (1 : Int32)).toInt = x8.toInt - (1 : Int) := t_subC (x := x8) (y := (1 : Int32))
        refine zrn_ok HW 2 (zB_iff.mpr (?_ : G (198, [(0, .inl (.ref 49))], [.inl (.int (x8 - (1 : Int32))), .inl (.int (0 : Int32)), .inl (.int (1 : Int32)), .inl (.ref 49)], h7, 0, 0)))
        refine g_callV (E' := ze_X5_number) HW rfl rfl (Nat.le_of_ble_eq_true rfl) (Nat.le_of_ble_eq_true rfl) (Nat.le_of_ble_eq_true rfl) ok7.1 rfl hq_q rfl (Nat.le_of_ble_eq_true rfl) (c_number ok7 (i := (1 : Int32)) ⟨by decide, by decide⟩ (fun f10 h10 ok10 x10 lo10 up10 t10 o10 n10 => zB_iff.mpr ?_) (fun h10 ok10 n10 => zB_iff.mpr ?_))
        · show G (201, [(0, .inl (.ref 49))], [.inl (.int (1 : Int32))], h10, 0, 0)
          have lo10 : (0 : Int) ≤ f10.toInt := lo10
          have up10 : f10.toInt ≤ (x8 - (1 : Int32)).toInt := up10
          have t10 : hi h10 78 1 = f10.toInt := t10
          have o10 : ∀ j, j ≠ 1 → hi h10 78 j = hi h7 78 j := o10
          refine zrn_ok HW 5 (zB_iff.mpr (?_ : G (210, [(0, .inl (.ref 49))], [.inl (.int (999 : Int32)), .inl (.int (0 : Int32)), .inl (.int (2 : Int32)), .inl (.ref 49)], h10, 0, 0)))
          refine g_callV (E' := ze_X5_number) HW rfl rfl (Nat.le_of_ble_eq_true rfl) (Nat.le_of_ble_eq_true rfl) (Nat.le_of_ble_eq_true rfl) ok10.1 rfl hq_q rfl (Nat.le_of_ble_eq_true rfl) (c_number ok10 (i := (2 : Int32)) ⟨by decide, by decide⟩ (fun f11 h11 ok11 x11 lo11 up11 t11 o11 n11 => zB_iff.mpr ?_) (fun h11 ok11 n11 => zB_iff.mpr ?_))
          · show G (213, [(0, .inl (.ref 49))], [.inl (.int (1 : Int32))], h11, 0, 0)
            have lo11 : (0 : Int) ≤ f11.toInt := lo11
            have up11 : f11.toInt ≤ (999 : Int) := up11
            have t11 : hi h11 78 2 = f11.toInt := t11
            have o11 : ∀ j, j ≠ 2 → hi h11 78 j = hi h10 78 j := o11
            have q0 := o10 0 (by decide)
            have q1 := o11 0 (by decide)
            have q2 := o11 1 (by decide)
            refine zrn_ok HW 2 (zB_iff.mpr (?_ : G (219, [(0, .inl (.ref 49))], [.inl (.ref 49)], h11, 0, 0)))
            have o13 : hget h11 49 25 = some (.inl (.ref 73)) := ((ok11.2.1.2.1 49 5 hq_q (Or.inl rfl)).1.1 (25, 24, 38) (by decide +kernel)).1
            have t13 : T[73]? = some 38 := ((ok11.2.1.2.1 49 5 hq_q (Or.inl rfl)).1.1 (25, 24, 38) (by decide +kernel)).2
            refine g_getf HW rfl ok11.1 hq_q rfl o13 ?_
            refine zrn_ok HW 1 (zB_iff.mpr (?_ : G (223, [(0, .inl (.ref 49))], [.inl (.ref 49), .inl (.ref 73)], h11, 0, 0)))
            have o15 : hget h11 49 33 = some (.inl (.ref 78)) := ((ok11.2.1.2.1 49 5 hq_q (Or.inl rfl)).1.1 (33, 29, 40) (by decide +kernel)).1
            have t15 : T[78]? = some 40 := ((ok11.2.1.2.1 49 5 hq_q (Or.inl rfl)).1.1 (33, 29, 40) (by decide +kernel)).2
            refine g_getf HW rfl ok11.1 hq_q rfl o15 ?_
            refine zrn_ok HW 1 (zB_iff.mpr (?_ : G (227, [(0, .inl (.ref 49))], [.inl (.int (0 : Int32)), .inl (.ref 78), .inl (.ref 73)], h11, 0, 0)))
            obtain ⟨x16, g16, e16, l16, u16⟩ := hi_val (i := 0) ok11.1 t15 (by show _ < 3; omega) rfl
            have l16 : ((-2147483648) : Int) ≤ x16.toInt := l16
            have u16 : x16.toInt ≤ (2147483647 : Int) := u16
            refine g_iald HW rfl ok11.1 t15 rfl (by decide) g16 ?_
            obtain ⟨v17, g17, s17⟩ := hOK_get (i := (x16).toInt.toNat) ok11.1 t13 (by show _ < 4; omega)
            obtain ⟨q17, rfl, hq17⟩ : ∃ q : Nat, v17 = .inl (.ref q) ∧ T[q]? = some 39 := s17
            refine g_aald HW rfl ok11.1 t13 ⟨by decide, by decide⟩ (by omega) g17 ?_
            refine zrn_ok HW 1 (zB_iff.mpr (?_ : G (230, [(0, .inl (.ref 49))], [.inl (.ref 49), .inl (.ref q17)], h11, 0, 0)))
            have o19 : hget h11 49 33 = some (.inl (.ref 78)) := ((ok11.2.1.2.1 49 5 hq_q (Or.inl rfl)).1.1 (33, 29, 40) (by decide +kernel)).1
            have t19 : T[78]? = some 40 := ((ok11.2.1.2.1 49 5 hq_q (Or.inl rfl)).1.1 (33, 29, 40) (by decide +kernel)).2
            refine g_getf HW rfl ok11.1 hq_q rfl o19 ?_
            refine zrn_ok HW 1 (zB_iff.mpr (?_ : G (234, [(0, .inl (.ref 49))], [.inl (.int (1 : Int32)), .inl (.ref 78), .inl (.ref q17)], h11, 0, 0)))
            obtain ⟨x20, g20, e20, l20, u20⟩ := hi_val (i := 1) ok11.1 t19 (by show _ < 3; omega) rfl
            have l20 : ((-2147483648) : Int) ≤ x20.toInt := l20
            have u20 : x20.toInt ≤ (2147483647 : Int) := u20
            refine g_iald HW rfl ok11.1 t19 rfl (by decide) g20 ?_
            refine zrn_ok HW 1 (zB_iff.mpr (?_ : G (236, [(0, .inl (.ref 49))], [.inl (.ref 49), .inl (.int x20), .inl (.ref q17)], h11, 0, 0)))
            have o22 : hget h11 49 33 = some (.inl (.ref 78)) := ((ok11.2.1.2.1 49 5 hq_q (Or.inl rfl)).1.1 (33, 29, 40) (by decide +kernel)).1
            have t22 : T[78]? = some 40 := ((ok11.2.1.2.1 49 5 hq_q (Or.inl rfl)).1.1 (33, 29, 40) (by decide +kernel)).2
            refine g_getf HW rfl ok11.1 hq_q rfl o22 ?_
            refine zrn_ok HW 1 (zB_iff.mpr (?_ : G (240, [(0, .inl (.ref 49))], [.inl (.int (2 : Int32)), .inl (.ref 78), .inl (.int x20), .inl (.ref q17)], h11, 0, 0)))
            obtain ⟨x23, g23, e23, l23, u23⟩ := hi_val (i := 2) ok11.1 t22 (by show _ < 3; omega) rfl
            have l23 : ((-2147483648) : Int) ≤ x23.toInt := l23
            have u23 : x23.toInt ≤ (2147483647 : Int) := u23
            refine g_iald HW rfl ok11.1 t22 rfl (by decide) g23 ?_
            have ok24 : wOK (zPhi (n, m, some μ, v)) N T (hput h11 q17 (x20).toInt.toNat (.inl (.int x23))) := wOK_put hst ok11 hq17 rfl ⟨_, rfl, t_lo _, t_hi _⟩
            refine g_iast HW rfl ok11.1 hq17 rfl (by omega) (by show _ < (8 : Int); omega) ?_
            refine zrn_ok HW 2 ?_
            exact zret_z rfl rfl (k1 _ ok24)
          · show G (213, [(0, .inl (.ref 49))], [.inl (.int (0 : Int32))], h11, 0, 0)
            refine zrn_ok HW 3 ?_
            exact zret_z rfl rfl (k0 _ ok11)
        · show G (201, [(0, .inl (.ref 49))], [.inl (.int (0 : Int32))], h10, 0, 0)
          refine zrn_ok HW 3 ?_
          exact zret_z rfl rfl (k0 _ ok10)
      · show G (186, [(0, .inl (.ref 49))], [.inl (.int (0 : Int32))], h7, 0, 0)
        refine zrn_ok HW 3 ?_
        exact zret_z rfl rfl (k0 _ ok7)
    · show G (172, [(0, .inl (.ref 49))], [.inl (.int (0 : Int32))], h, 0, 0)
      refine zrn_ok HW 1 (zB_iff.mpr (?_ : G (244, [(0, .inl (.ref 49))], [], h, 0, 0)))
      exact at244
  have at124 : G (124, [(0, .inl (.ref 49))], [], h, 0, 0) := by
    refine zrn_ok HW 2 (zB_iff.mpr (?_ : G (127, [(0, .inl (.ref 49))], [.inl (.ref 1000004), .inl (.ref 49)], h, 0, 0)))
    refine g_callV (E' := ze_X5_isWord) HW rfl rfl (Nat.le_of_ble_eq_true rfl) (Nat.le_of_ble_eq_true rfl) (Nat.le_of_ble_eq_true rfl) ok.1 rfl hq_q rfl (Nat.le_of_ble_eq_true rfl) (c_isWord4 ok (fun tk25 => zB_iff.mpr ?_) (zB_iff.mpr ?_))
    · show G (130, [(0, .inl (.ref 49))], [.inl (.int (1 : Int32))], h, 0, 0)
      refine zrn_ok HW 2 (zB_iff.mpr (?_ : G (134, [(0, .inl (.ref 49))], [.inl (.ref 49)], h, 0, 0)))
      obtain ⟨x26, g26, e26, l26, u26⟩ := hi_val (i := 23) ok.1 hq_q (by decide) rfl
      have l26 : (0 : Int) ≤ x26.toInt := l26
      have u26 : x26.toInt ≤ (4 : Int) := u26
      refine g_getf HW rfl ok.1 hq_q rfl g26 ?_
      refine zrn_ok HW 2 (zbr_ex (cd := .ge) (x := x26) (y := (4 : Int32)) (fun hc27 => zB_iff.mpr ?_) (fun hc27 => zB_iff.mpr ?_))
      · -- pc 166
        have i27 : x26.toInt ≥ (4 : Int) := zop_int.mp hc27
        exact at166
      · -- pc 141
        have i27 : ¬ (x26.toInt ≥ (4 : Int)) := fun e => hc27 (zop_int.mpr e)
        refine zrn_ok HW 3 (zB_iff.mpr (?_ : G (146, [(0, .inl (.ref 49))], [.inl (.int (9999 : Int32)), .inl (.int (0 : Int32)), .inl (.ref 49)], h, 0, 0)))
        refine g_callV (E' := ze_X5_tells) HW rfl rfl (Nat.le_of_ble_eq_true rfl) (Nat.le_of_ble_eq_true rfl) (Nat.le_of_ble_eq_true rfl) ok.1 rfl hq_q rfl (Nat.le_of_ble_eq_true rfl) (c_tells ok (fun f28 h28 ok28 lo28 up28 t28 n28 => zB_iff.mpr ?_) (fun h28 ok28 n28 => zB_iff.mpr ?_))
        · show G (149, [(0, .inl (.ref 49))], [.inl (.int (1 : Int32))], h28, 0, 0)
          have lo28 : (0 : Int) ≤ f28.toInt := lo28
          have up28 : f28.toInt ≤ (9999 : Int) := up28
          refine zrn_ok HW 5 (zB_iff.mpr (?_ : G (156, [(1, .inl (.int (1 : Int32))), (0, .inl (.ref 49))], [.inl (.ref 49), .inl (.ref 49)], h28, 0, 0)))
          have o30 : hget h28 49 33 = some (.inl (.ref 78)) := ((ok28.2.1.2.1 49 5 hq_q (Or.inl rfl)).1.1 (33, 29, 40) (by decide +kernel)).1
          have t30 : T[78]? = some 40 := ((ok28.2.1.2.1 49 5 hq_q (Or.inl rfl)).1.1 (33, 29, 40) (by decide +kernel)).2
          refine g_getf HW rfl ok28.1 hq_q rfl o30 ?_
          refine zrn_ok HW 1 (zB_iff.mpr (?_ : G (160, [(1, .inl (.int (1 : Int32))), (0, .inl (.ref 49))], [.inl (.int (0 : Int32)), .inl (.ref 78), .inl (.ref 49)], h28, 0, 0)))
          obtain ⟨x31, g31, e31, l31, u31⟩ := hi_val (i := 0) ok28.1 t30 (by show _ < 3; omega) rfl
          have l31 : ((-2147483648) : Int) ≤ x31.toInt := l31
          have u31 : x31.toInt ≤ (2147483647 : Int) := u31
          refine g_iald HW rfl ok28.1 t30 rfl (by decide) g31 ?_
          have z23 : hi h28 49 23 = hi h 49 23 := nFr_hi n28 (by decide) (by decide)
          refine g_callV (E' := ze_X5_addBuyer) HW rfl rfl (Nat.le_of_ble_eq_true rfl) (Nat.le_of_ble_eq_true rfl) (Nat.le_of_ble_eq_true rfl) ok28.1 rfl hq_q rfl (Nat.le_of_ble_eq_true rfl) (c_addBuyer ok28 (by omega) (fun h32 ok32 => zB_iff.mpr ?_))
          show G (164, [(1, .inl (.int (1 : Int32))), (0, .inl (.ref 49))], [], h32, 0, 0)
          refine zrn_ok HW 2 ?_
          exact zret_z rfl rfl (k1 _ ok32)
        · show G (149, [(0, .inl (.ref 49))], [.inl (.int (0 : Int32))], h28, 0, 0)
          refine zrn_ok HW 5 ?_
          exact zret_z rfl rfl (k0 _ ok28)
    · show G (130, [(0, .inl (.ref 49))], [.inl (.int (0 : Int32))], h, 0, 0)
      refine zrn_ok HW 1 (zB_iff.mpr (?_ : G (166, [(0, .inl (.ref 49))], [], h, 0, 0)))
      exact at166
  have at101 : G (101, [(0, .inl (.ref 49))], [], h, 0, 0) := by
    refine zrn_ok HW 2 (zB_iff.mpr (?_ : G (104, [(0, .inl (.ref 49))], [.inl (.ref 1000003), .inl (.ref 49)], h, 0, 0)))
    refine g_callV (E' := ze_X5_isWord) HW rfl rfl (Nat.le_of_ble_eq_true rfl) (Nat.le_of_ble_eq_true rfl) (Nat.le_of_ble_eq_true rfl) ok.1 rfl hq_q rfl (Nat.le_of_ble_eq_true rfl) (c_isWord3 ok (fun tk33 => zB_iff.mpr ?_) (zB_iff.mpr ?_))
    · show G (107, [(0, .inl (.ref 49))], [.inl (.int (1 : Int32))], h, 0, 0)
      refine zrn_ok HW 2 (zB_iff.mpr (?_ : G (111, [(0, .inl (.ref 49))], [.inl (.ref 49)], h, 0, 0)))
      obtain ⟨x34, g34, e34, l34, u34⟩ := hi_val (i := 17) ok.1 hq_q (by decide) rfl
      have l34 : (0 : Int) ≤ x34.toInt := l34
      have u34 : x34.toInt ≤ (8 : Int) := u34
      refine g_getf HW rfl ok.1 hq_q rfl g34 ?_
      refine zrn_ok HW 2 (zbr_ex (cd := .ge) (x := x34) (y := (8 : Int32)) (fun hc35 => zB_iff.mpr ?_) (fun hc35 => zB_iff.mpr ?_))
      · -- pc 124
        have i35 : x34.toInt ≥ (8 : Int) := zop_int.mp hc35
        exact at124
      · -- pc 119
        have i35 : ¬ (x34.toInt ≥ (8 : Int)) := fun e => hc35 (zop_int.mpr e)
        refine zrn_ok HW 1 (zB_iff.mpr (?_ : G (120, [(0, .inl (.ref 49))], [.inl (.ref 49)], h, 0, 0)))
        refine g_callV (E' := ze_X5_thingTold) HW rfl rfl (Nat.le_of_ble_eq_true rfl) (Nat.le_of_ble_eq_true rfl) (Nat.le_of_ble_eq_true rfl) ok.1 rfl hq_q rfl (Nat.le_of_ble_eq_true rfl) (c_thingTold ok (by omega) (fun h36 ok36 => zB_iff.mpr ?_) (fun h36 ok36 => zB_iff.mpr ?_))
        · show G (123, [(0, .inl (.ref 49))], [.inl (.int (1 : Int32))], h36, 0, 0)
          refine zrn_ok HW 1 ?_
          exact zret_z rfl rfl (k1 _ ok36)
        · show G (123, [(0, .inl (.ref 49))], [.inl (.int (0 : Int32))], h36, 0, 0)
          refine zrn_ok HW 1 ?_
          exact zret_z rfl rfl (k0 _ ok36)
    · show G (107, [(0, .inl (.ref 49))], [.inl (.int (0 : Int32))], h, 0, 0)
      refine zrn_ok HW 1 (zB_iff.mpr (?_ : G (124, [(0, .inl (.ref 49))], [], h, 0, 0)))
      exact at124
  have at87 : G (87, [(0, .inl (.ref 49))], [], h, 0, 0) := by
    refine zrn_ok HW 2 (zB_iff.mpr (?_ : G (90, [(0, .inl (.ref 49))], [.inl (.ref 1000002), .inl (.ref 49)], h, 0, 0)))
    refine g_callV (E' := ze_X5_isWord) HW rfl rfl (Nat.le_of_ble_eq_true rfl) (Nat.le_of_ble_eq_true rfl) (Nat.le_of_ble_eq_true rfl) ok.1 rfl hq_q rfl (Nat.le_of_ble_eq_true rfl) (c_isWord2 ok (fun tk37 => zB_iff.mpr ?_) (zB_iff.mpr ?_))
    · show G (93, [(0, .inl (.ref 49))], [.inl (.int (1 : Int32))], h, 0, 0)
      refine zrn_ok HW 2 (zB_iff.mpr (?_ : G (97, [(0, .inl (.ref 49))], [.inl (.ref 49)], h, 0, 0)))
      refine g_callV (E' := ze_X5_priceTold) HW rfl rfl (Nat.le_of_ble_eq_true rfl) (Nat.le_of_ble_eq_true rfl) (Nat.le_of_ble_eq_true rfl) ok.1 rfl hq_q rfl (Nat.le_of_ble_eq_true rfl) (c_priceTold ok (fun h38 ok38 => zB_iff.mpr ?_) (fun h38 ok38 => zB_iff.mpr ?_))
      · show G (100, [(0, .inl (.ref 49))], [.inl (.int (1 : Int32))], h38, 0, 0)
        refine zrn_ok HW 1 ?_
        exact zret_z rfl rfl (k1 _ ok38)
      · show G (100, [(0, .inl (.ref 49))], [.inl (.int (0 : Int32))], h38, 0, 0)
        refine zrn_ok HW 1 ?_
        exact zret_z rfl rfl (k0 _ ok38)
    · show G (93, [(0, .inl (.ref 49))], [.inl (.int (0 : Int32))], h, 0, 0)
      refine zrn_ok HW 1 (zB_iff.mpr (?_ : G (101, [(0, .inl (.ref 49))], [], h, 0, 0)))
      exact at101
  have at40 : G (40, [(0, .inl (.ref 49))], [], h, 0, 0) := by
    refine zrn_ok HW 2 (zB_iff.mpr (?_ : G (43, [(0, .inl (.ref 49))], [.inl (.ref 1000001), .inl (.ref 49)], h, 0, 0)))
    refine g_callV (E' := ze_X5_isWord) HW rfl rfl (Nat.le_of_ble_eq_true rfl) (Nat.le_of_ble_eq_true rfl) (Nat.le_of_ble_eq_true rfl) ok.1 rfl hq_q rfl (Nat.le_of_ble_eq_true rfl) (c_isWord1 ok (fun tk39 => zB_iff.mpr ?_) (zB_iff.mpr ?_))
    · show G (46, [(0, .inl (.ref 49))], [.inl (.int (1 : Int32))], h, 0, 0)
      refine zrn_ok HW 2 (zB_iff.mpr (?_ : G (50, [(0, .inl (.ref 49))], [.inl (.ref 49)], h, 0, 0)))
      obtain ⟨x40, g40, e40, l40, u40⟩ := hi_val (i := 17) ok.1 hq_q (by decide) rfl
      have l40 : (0 : Int) ≤ x40.toInt := l40
      have u40 : x40.toInt ≤ (8 : Int) := u40
      refine g_getf HW rfl ok.1 hq_q rfl g40 ?_
      refine zrn_ok HW 1 (zbr_ex (cd := .ne) (x := x40) (y := (0 : Int32)) (fun hc41 => zB_iff.mpr ?_) (fun hc41 => zB_iff.mpr ?_))
      · -- pc 87
        have i41 : ¬ x40.toInt = (0 : Int) := zop_int.mp hc41
        exact at87
      · -- pc 56
        have i41 : ¬ (¬ x40.toInt = (0 : Int)) := fun e => hc41 (zop_int.mpr e)
        refine zrn_ok HW 3 (zB_iff.mpr (?_ : G (60, [(0, .inl (.ref 49))], [.inl (.int (10 : Int32)), .inl (.int (2 : Int32)), .inl (.ref 49)], h, 0, 0)))
        refine g_callV (E' := ze_X5_tells) HW rfl rfl (Nat.le_of_ble_eq_true rfl) (Nat.le_of_ble_eq_true rfl) (Nat.le_of_ble_eq_true rfl) ok.1 rfl hq_q rfl (Nat.le_of_ble_eq_true rfl) (c_tells ok (fun f42 h42 ok42 lo42 up42 t42 n42 => zB_iff.mpr ?_) (fun h42 ok42 n42 => zB_iff.mpr ?_))
        · show G (63, [(0, .inl (.ref 49))], [.inl (.int (1 : Int32))], h42, 0, 0)
          have lo42 : (2 : Int) ≤ f42.toInt := lo42
          have up42 : f42.toInt ≤ (10 : Int) := up42
          refine zrn_ok HW 5 (zB_iff.mpr (?_ : G (70, [(1, .inl (.int (1 : Int32))), (0, .inl (.ref 49))], [.inl (.ref 49), .inl (.ref 49)], h42, 0, 0)))
          have o44 : hget h42 49 33 = some (.inl (.ref 78)) := ((ok42.2.1.2.1 49 5 hq_q (Or.inl rfl)).1.1 (33, 29, 40) (by decide +kernel)).1
          have t44 : T[78]? = some 40 := ((ok42.2.1.2.1 49 5 hq_q (Or.inl rfl)).1.1 (33, 29, 40) (by decide +kernel)).2
          refine g_getf HW rfl ok42.1 hq_q rfl o44 ?_
          refine zrn_ok HW 1 (zB_iff.mpr (?_ : G (74, [(1, .inl (.int (1 : Int32))), (0, .inl (.ref 49))], [.inl (.int (0 : Int32)), .inl (.ref 78), .inl (.ref 49)], h42, 0, 0)))
          obtain ⟨x45, g45, e45, l45, u45⟩ := hi_val (i := 0) ok42.1 t44 (by show _ < 3; omega) rfl
          have l45 : ((-2147483648) : Int) ≤ x45.toInt := l45
          have u45 : x45.toInt ≤ (2147483647 : Int) := u45
          refine g_iald HW rfl ok42.1 t44 rfl (by decide) g45 ?_
          refine zrn_ok HW 1 (zB_iff.mpr (?_ : G (82, [(1, .inl (.int (1 : Int32))), (0, .inl (.ref 49))], [.inl (.int x45), .inl (.ref 49)], h42, 0, 0)))
          have ok46 : wOK (zPhi (n, m, some μ, v)) N T (hput h42 49 10 (.inl (.int x45))) := wOK_put hst ok42 hq_q rfl ⟨_, rfl, (by show (2 : Int) ≤ _; omega), (by show _ ≤ (10 : Int); omega)⟩
          refine g_putf HW rfl ok42.1 hq_q rfl (by decide) rfl ?_
          refine zrn_ok HW 2 ?_
          exact zret_z rfl rfl (k1 _ ok46)
        · show G (63, [(0, .inl (.ref 49))], [.inl (.int (0 : Int32))], h42, 0, 0)
          refine zrn_ok HW 5 (zB_iff.mpr (?_ : G (79, [(1, .inl (.int (0 : Int32))), (0, .inl (.ref 49))], [.inl (.ref 49), .inl (.ref 49)], h42, 0, 0)))
          obtain ⟨x47, g47, e47, l47, u47⟩ := hi_val (i := 10) ok42.1 hq_q (by decide) rfl
          have l47 : (2 : Int) ≤ x47.toInt := l47
          have u47 : x47.toInt ≤ (10 : Int) := u47
          refine g_getf HW rfl ok42.1 hq_q rfl g47 ?_
          have ok48 : wOK (zPhi (n, m, some μ, v)) N T (hput h42 49 10 (.inl (.int x47))) := wOK_put hst ok42 hq_q rfl ⟨_, rfl, (by show (2 : Int) ≤ _; omega), (by show _ ≤ (10 : Int); omega)⟩
          refine g_putf HW rfl ok42.1 hq_q rfl (by decide) rfl ?_
          refine zrn_ok HW 2 ?_
          exact zret_z rfl rfl (k0 _ ok48)
    · show G (46, [(0, .inl (.ref 49))], [.inl (.int (0 : Int32))], h, 0, 0)
      refine zrn_ok HW 1 (zB_iff.mpr (?_ : G (87, [(0, .inl (.ref 49))], [], h, 0, 0)))
      exact at87
  refine zrn_ok HW 2 (zB_iff.mpr (?_ : G (3, [(0, .inl (.ref 49))], [.inl (.ref 1000000), .inl (.ref 49)], h, 0, 0)))
  refine g_callV (E' := ze_X5_isWord) HW rfl rfl (Nat.le_of_ble_eq_true rfl) (Nat.le_of_ble_eq_true rfl) (Nat.le_of_ble_eq_true rfl) ok.1 rfl hq_q rfl (Nat.le_of_ble_eq_true rfl) (c_isWord0 ok (fun tk49 => zB_iff.mpr ?_) (zB_iff.mpr ?_))
  · show G (6, [(0, .inl (.ref 49))], [.inl (.int (1 : Int32))], h, 0, 0)
    refine zrn_ok HW 2 (zB_iff.mpr (?_ : G (10, [(0, .inl (.ref 49))], [.inl (.ref 49)], h, 0, 0)))
    obtain ⟨x50, g50, e50, l50, u50⟩ := hi_val (i := 17) ok.1 hq_q (by decide) rfl
    have l50 : (0 : Int) ≤ x50.toInt := l50
    have u50 : x50.toInt ≤ (8 : Int) := u50
    refine g_getf HW rfl ok.1 hq_q rfl g50 ?_
    refine zrn_ok HW 1 (zbr_ex (cd := .ne) (x := x50) (y := (0 : Int32)) (fun hc51 => zB_iff.mpr ?_) (fun hc51 => zB_iff.mpr ?_))
    · -- pc 40
      have i51 : ¬ x50.toInt = (0 : Int) := zop_int.mp hc51
      exact at40
    · -- pc 16
      have i51 : ¬ (¬ x50.toInt = (0 : Int)) := fun e => hc51 (zop_int.mpr e)
      refine zrn_ok HW 3 (zB_iff.mpr (?_ : G (20, [(0, .inl (.ref 49))], [.inl (.int (60 : Int32)), .inl (.int (1 : Int32)), .inl (.ref 49)], h, 0, 0)))
      refine g_callV (E' := ze_X5_tells) HW rfl rfl (Nat.le_of_ble_eq_true rfl) (Nat.le_of_ble_eq_true rfl) (Nat.le_of_ble_eq_true rfl) ok.1 rfl hq_q rfl (Nat.le_of_ble_eq_true rfl) (c_tells ok (fun f52 h52 ok52 lo52 up52 t52 n52 => zB_iff.mpr ?_) (fun h52 ok52 n52 => zB_iff.mpr ?_))
      · show G (23, [(0, .inl (.ref 49))], [.inl (.int (1 : Int32))], h52, 0, 0)
        have lo52 : (1 : Int) ≤ f52.toInt := lo52
        have up52 : f52.toInt ≤ (60 : Int) := up52
        refine zrn_ok HW 5 (zB_iff.mpr (?_ : G (30, [(1, .inl (.int (1 : Int32))), (0, .inl (.ref 49))], [.inl (.ref 49), .inl (.ref 49)], h52, 0, 0)))
        have o54 : hget h52 49 33 = some (.inl (.ref 78)) := ((ok52.2.1.2.1 49 5 hq_q (Or.inl rfl)).1.1 (33, 29, 40) (by decide +kernel)).1
        have t54 : T[78]? = some 40 := ((ok52.2.1.2.1 49 5 hq_q (Or.inl rfl)).1.1 (33, 29, 40) (by decide +kernel)).2
        refine g_getf HW rfl ok52.1 hq_q rfl o54 ?_
        refine zrn_ok HW 1 (zB_iff.mpr (?_ : G (34, [(1, .inl (.int (1 : Int32))), (0, .inl (.ref 49))], [.inl (.int (0 : Int32)), .inl (.ref 78), .inl (.ref 49)], h52, 0, 0)))
        obtain ⟨x55, g55, e55, l55, u55⟩ := hi_val (i := 0) ok52.1 t54 (by show _ < 3; omega) rfl
        have l55 : ((-2147483648) : Int) ≤ x55.toInt := l55
        have u55 : x55.toInt ≤ (2147483647 : Int) := u55
        refine g_iald HW rfl ok52.1 t54 rfl (by decide) g55 ?_
        have z17 : hi h52 49 17 = hi h 49 17 := nFr_hi n52 (by decide) (by decide)
        refine g_callV (E' := ze_X5_becomeSlips) HW rfl rfl (Nat.le_of_ble_eq_true rfl) (Nat.le_of_ble_eq_true rfl) (Nat.le_of_ble_eq_true rfl) ok52.1 rfl hq_q rfl (Nat.le_of_ble_eq_true rfl) (c_becomeSlips ok52.1 ok52.2.1 hq_q (Or.inl rfl) ⟨by omega, by omega⟩ (by omega) (fun h56 k56 f56 l56 => zB_iff.mpr ?_))
        show G (38, [(1, .inl (.int (1 : Int32))), (0, .inl (.ref 49))], [], h56, 0, 0)
        refine zrn_ok HW 2 ?_
        exact zret_z rfl rfl (k1 _ (wOK_le ok52 k56 f56 (Nat.le_of_eq l56)))
      · show G (23, [(0, .inl (.ref 49))], [.inl (.int (0 : Int32))], h52, 0, 0)
        refine zrn_ok HW 5 ?_
        exact zret_z rfl rfl (k0 _ ok52)
  · show G (6, [(0, .inl (.ref 49))], [.inl (.int (0 : Int32))], h, 0, 0)
    refine zrn_ok HW 1 (zB_iff.mpr (?_ : G (40, [(0, .inl (.ref 49))], [], h, 0, 0)))
    exact at40
