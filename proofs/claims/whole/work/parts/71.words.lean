theorem c_wrong {P : pP} {N : Nat} {scr : List zV} {d : Nat} {T : List Nat} {h : zH} {post : Option zV → zH → Bool} (ok : wOK (zPhi P) N T h) (kk : ∀ h' : zH, wOK (zPhi P) N T h' → lFr h h' → post (some (.inl (.int 0))) h' = true) : zD zprog scr (d + 1) 249 [.inl (.ref 49)] h post = true := by
  have hq_q := ok.2.1.1.2.2.1
  have hst := p_stab P
  refine zD_intro (E := ze_X5_wrong) rfl rfl (fun G HW => ?_)
  refine zrn_ok HW 2 (zB_iff.mpr (?_ : G (2, [(0, .inl (.ref 49))], [.inl (.ref 49), .inl (.ref 49)], h, 0, 0)))
  obtain ⟨x1, g1, e1, l1, u1⟩ := hi_val (i := 30) ok.1 hq_q (by decide) rfl
  have l1 : (0 : Int) ≤ x1.toInt := l1
  have u1 : x1.toInt ≤ (250 : Int) := u1
  refine g_getf HW rfl ok.1 hq_q rfl g1 ?_
  have ok2 : wOK (zPhi P) N T (hput h 49 32 (.inl (.int x1))) := wOK_put hst ok hq_q rfl ⟨_, rfl, t_lo _, t_hi _⟩
  refine g_putf HW rfl ok.1 hq_q rfl (by decide) rfl ?_
  refine zrn_ok HW 2 ?_
  exact zret_z rfl rfl (kk _ ok2 (lFr_put (fun _ _ _ => rfl) (by decide)))
theorem c_isWord0 {P : pP} {N : Nat} {scr : List zV} {d : Nat} {T : List Nat} {h : zH} {post : Option zV → zH → Bool} (ok : wOK (zPhi P) N T h) (k1 : hi h 49 29 = 1 → post (some (.inl (.int 1))) h = true) (k0 : post (some (.inl (.int 0))) h = true) : zD zprog scr (d + 1) 21 [.inl (.ref 49), .inl (.ref 1000000)] h post = true := by
  have hq_q := ok.2.1.1.2.2.1
  refine zD_intro (E := ze_X5_isWord) rfl rfl (fun G HW => ?_)
  refine zrn_ok HW 1 (zB_iff.mpr (?_ : G (1, [(0, .inl (.ref 49)), (1, .inl (.ref 1000000))], [.inl (.ref 49)], h, 0, 0)))
  obtain ⟨x1, g1, e1, l1, u1⟩ := hi_val (i := 29) ok.1 hq_q (by decide) rfl
  have l1 : (0 : Int) ≤ x1.toInt := l1
  have u1 : x1.toInt ≤ (4 : Int) := u1
  refine g_getf HW rfl ok.1 hq_q rfl g1 ?_
  refine zrn_ok HW 2 (zbr_ex (cd := .ne) (x := x1) (y := (1 : Int32)) (fun hc2 => zB_iff.mpr ?_) (fun hc2 => zB_iff.mpr ?_))
  · -- pc 24
    have i2 : ¬ x1.toInt = (1 : Int) := zop_int.mp hc2
    refine zrn_ok HW 2 ?_
    exact zret_z rfl rfl k0
  · -- pc 8
    have i2 : ¬ (¬ x1.toInt = (1 : Int)) := fun e => hc2 (zop_int.mpr e)
    refine zrn_ok HW 1 (zB_iff.mpr (?_ : G (9, [(0, .inl (.ref 49)), (1, .inl (.ref 1000000))], [.inl (.ref 49)], h, 0, 0)))
    obtain ⟨x3, g3, e3, l3, u3⟩ := hi_val (i := 28) ok.1 hq_q (by decide) rfl
    have l3 : (0 : Int) ≤ x3.toInt := l3
    have u3 : x3.toInt ≤ (250 : Int) := u3
    refine g_getf HW rfl ok.1 hq_q rfl g3 ?_
    refine zrn_ok HW 1 (zB_iff.mpr (?_ : G (13, [(0, .inl (.ref 49)), (1, .inl (.ref 1000000))], [.inl (.ref 49), .inl (.int x3)], h, 0, 0)))
    obtain ⟨x4, g4, e4, l4, u4⟩ := hi_val (i := 30) ok.1 hq_q (by decide) rfl
    have l4 : (0 : Int) ≤ x4.toInt := l4
    have u4 : x4.toInt ≤ (250 : Int) := u4
    refine g_getf HW rfl ok.1 hq_q rfl g4 ?_
    have y5 : -2147483648 ≤ x3.toInt - x4.toInt → x3.toInt - x4.toInt ≤ 2147483647 → (x3 - x4).toInt = x3.toInt - x4.toInt := t_subC (x := x3) (y := x4)
    refine zrn_ok HW 4 (zbr_ex (cd := .eq) (x := (x3 - x4)) (y := (5 : Int32)) (fun hc6 => zB_iff.mpr ?_) (fun hc6 => zB_iff.mpr ?_))
    · -- pc 26
      have i6 : (x3 - x4).toInt = (5 : Int) := zop_int.mp hc6
      refine zrn_ok HW 7 (zB_iff.mpr (?_ : G (37, [(2, .inl (.int (0 : Int32))), (0, .inl (.ref 49)), (1, .inl (.ref 1000000))], [.inl (.ref 49)], h, 0, 0)))
      have o8 : hget h 49 6 = some (.inl (.ref 64)) := ((ok.2.1.2.1 49 5 hq_q (Or.inl rfl)).1.1 (6, 15, 18) (by decide +kernel)).1
      have t8 : T[64]? = some 18 := ((ok.2.1.2.1 49 5 hq_q (Or.inl rfl)).1.1 (6, 15, 18) (by decide +kernel)).2
      refine g_getf HW rfl ok.1 hq_q rfl o8 ?_
      refine zrn_ok HW 1 (zB_iff.mpr (?_ : G (41, [(2, .inl (.int (0 : Int32))), (0, .inl (.ref 49)), (1, .inl (.ref 1000000))], [.inl (.ref 49), .inl (.ref 64)], h, 0, 0)))
      obtain ⟨x9, g9, e9, l9, u9⟩ := hi_val (i := 30) ok.1 hq_q (by decide) rfl
      have l9 : (0 : Int) ≤ x9.toInt := l9
      have u9 : x9.toInt ≤ (250 : Int) := u9
      refine g_getf HW rfl ok.1 hq_q rfl g9 ?_
      have y10 : -2147483648 ≤ x9.toInt + (0 : Int) → x9.toInt + (0 : Int) ≤ 2147483647 → (x9 + (0 : Int32)).toInt = x9.toInt + (0 : Int) := t_addC (x := x9) (y := (0 : Int32))
      refine zrn_ok HW 2 (zB_iff.mpr (?_ : G (46, [(2, .inl (.int (0 : Int32))), (0, .inl (.ref 49)), (1, .inl (.ref 1000000))], [.inl (.int (x9 + (0 : Int32))), .inl (.ref 64)], h, 0, 0)))
      obtain ⟨x11, g11, e11, l11, u11⟩ := hi_val (i := ((x9 + (0 : Int32))).toInt.toNat) ok.1 t8 (by show _ < 250; omega) rfl
      have l11 : (0 : Int) ≤ x11.toInt := l11
      have u11 : x11.toInt ≤ (255 : Int) := u11
      refine g_iald HW rfl ok.1 t8 rfl (by omega) g11 ?_
      refine zrn_ok HW 4 (zbr_ex (cd := .eq) (x := x11) (y := (115 : Int32)) (fun hc12 => zB_iff.mpr ?_) (fun hc12 => zB_iff.mpr ?_))
      · -- pc 57
        have i12 : x11.toInt = (115 : Int) := zop_int.mp hc12
        refine zrn_ok HW 7 (zB_iff.mpr (?_ : G (37, [(2, .inl (.int (1 : Int32))), (0, .inl (.ref 49)), (1, .inl (.ref 1000000))], [.inl (.ref 49)], h, 0, 0)))
        have o14 : hget h 49 6 = some (.inl (.ref 64)) := ((ok.2.1.2.1 49 5 hq_q (Or.inl rfl)).1.1 (6, 15, 18) (by decide +kernel)).1
        have t14 : T[64]? = some 18 := ((ok.2.1.2.1 49 5 hq_q (Or.inl rfl)).1.1 (6, 15, 18) (by decide +kernel)).2
        refine g_getf HW rfl ok.1 hq_q rfl o14 ?_
        refine zrn_ok HW 1 (zB_iff.mpr (?_ : G (41, [(2, .inl (.int (1 : Int32))), (0, .inl (.ref 49)), (1, .inl (.ref 1000000))], [.inl (.ref 49), .inl (.ref 64)], h, 0, 0)))
        obtain ⟨x15, g15, e15, l15, u15⟩ := hi_val (i := 30) ok.1 hq_q (by decide) rfl
        have l15 : (0 : Int) ≤ x15.toInt := l15
        have u15 : x15.toInt ≤ (250 : Int) := u15
        refine g_getf HW rfl ok.1 hq_q rfl g15 ?_
        have y16 : -2147483648 ≤ x15.toInt + (1 : Int) → x15.toInt + (1 : Int) ≤ 2147483647 → (x15 + (1 : Int32)).toInt = x15.toInt + (1 : Int) := t_addC (x := x15) (y := (1 : Int32))
        refine zrn_ok HW 2 (zB_iff.mpr (?_ : G (46, [(2, .inl (.int (1 : Int32))), (0, .inl (.ref 49)), (1, .inl (.ref 1000000))], [.inl (.int (x15 + (1 : Int32))), .inl (.ref 64)], h, 0, 0)))
        obtain ⟨x17, g17, e17, l17, u17⟩ := hi_val (i := ((x15 + (1 : Int32))).toInt.toNat) ok.1 t14 (by show _ < 250; omega) rfl
        have l17 : (0 : Int) ≤ x17.toInt := l17
        have u17 : x17.toInt ≤ (255 : Int) := u17
        refine g_iald HW rfl ok.1 t14 rfl (by omega) g17 ?_
        refine zrn_ok HW 4 (zbr_ex (cd := .eq) (x := x17) (y := (108 : Int32)) (fun hc18 => zB_iff.mpr ?_) (fun hc18 => zB_iff.mpr ?_))
        · -- pc 57
          have i18 : x17.toInt = (108 : Int) := zop_int.mp hc18
          refine zrn_ok HW 7 (zB_iff.mpr (?_ : G (37, [(2, .inl (.int (2 : Int32))), (0, .inl (.ref 49)), (1, .inl (.ref 1000000))], [.inl (.ref 49)], h, 0, 0)))
          have o20 : hget h 49 6 = some (.inl (.ref 64)) := ((ok.2.1.2.1 49 5 hq_q (Or.inl rfl)).1.1 (6, 15, 18) (by decide +kernel)).1
          have t20 : T[64]? = some 18 := ((ok.2.1.2.1 49 5 hq_q (Or.inl rfl)).1.1 (6, 15, 18) (by decide +kernel)).2
          refine g_getf HW rfl ok.1 hq_q rfl o20 ?_
          refine zrn_ok HW 1 (zB_iff.mpr (?_ : G (41, [(2, .inl (.int (2 : Int32))), (0, .inl (.ref 49)), (1, .inl (.ref 1000000))], [.inl (.ref 49), .inl (.ref 64)], h, 0, 0)))
          obtain ⟨x21, g21, e21, l21, u21⟩ := hi_val (i := 30) ok.1 hq_q (by decide) rfl
          have l21 : (0 : Int) ≤ x21.toInt := l21
          have u21 : x21.toInt ≤ (250 : Int) := u21
          refine g_getf HW rfl ok.1 hq_q rfl g21 ?_
          have y22 : -2147483648 ≤ x21.toInt + (2 : Int) → x21.toInt + (2 : Int) ≤ 2147483647 → (x21 + (2 : Int32)).toInt = x21.toInt + (2 : Int) := t_addC (x := x21) (y := (2 : Int32))
          refine zrn_ok HW 2 (zB_iff.mpr (?_ : G (46, [(2, .inl (.int (2 : Int32))), (0, .inl (.ref 49)), (1, .inl (.ref 1000000))], [.inl (.int (x21 + (2 : Int32))), .inl (.ref 64)], h, 0, 0)))
          obtain ⟨x23, g23, e23, l23, u23⟩ := hi_val (i := ((x21 + (2 : Int32))).toInt.toNat) ok.1 t20 (by show _ < 250; omega) rfl
          have l23 : (0 : Int) ≤ x23.toInt := l23
          have u23 : x23.toInt ≤ (255 : Int) := u23
          refine g_iald HW rfl ok.1 t20 rfl (by omega) g23 ?_
          refine zrn_ok HW 4 (zbr_ex (cd := .eq) (x := x23) (y := (105 : Int32)) (fun hc24 => zB_iff.mpr ?_) (fun hc24 => zB_iff.mpr ?_))
          · -- pc 57
            have i24 : x23.toInt = (105 : Int) := zop_int.mp hc24
            refine zrn_ok HW 7 (zB_iff.mpr (?_ : G (37, [(2, .inl (.int (3 : Int32))), (0, .inl (.ref 49)), (1, .inl (.ref 1000000))], [.inl (.ref 49)], h, 0, 0)))
            have o26 : hget h 49 6 = some (.inl (.ref 64)) := ((ok.2.1.2.1 49 5 hq_q (Or.inl rfl)).1.1 (6, 15, 18) (by decide +kernel)).1
            have t26 : T[64]? = some 18 := ((ok.2.1.2.1 49 5 hq_q (Or.inl rfl)).1.1 (6, 15, 18) (by decide +kernel)).2
            refine g_getf HW rfl ok.1 hq_q rfl o26 ?_
            refine zrn_ok HW 1 (zB_iff.mpr (?_ : G (41, [(2, .inl (.int (3 : Int32))), (0, .inl (.ref 49)), (1, .inl (.ref 1000000))], [.inl (.ref 49), .inl (.ref 64)], h, 0, 0)))
            obtain ⟨x27, g27, e27, l27, u27⟩ := hi_val (i := 30) ok.1 hq_q (by decide) rfl
            have l27 : (0 : Int) ≤ x27.toInt := l27
            have u27 : x27.toInt ≤ (250 : Int) := u27
            refine g_getf HW rfl ok.1 hq_q rfl g27 ?_
            have y28 : -2147483648 ≤ x27.toInt + (3 : Int) → x27.toInt + (3 : Int) ≤ 2147483647 → (x27 + (3 : Int32)).toInt = x27.toInt + (3 : Int) := t_addC (x := x27) (y := (3 : Int32))
            refine zrn_ok HW 2 (zB_iff.mpr (?_ : G (46, [(2, .inl (.int (3 : Int32))), (0, .inl (.ref 49)), (1, .inl (.ref 1000000))], [.inl (.int (x27 + (3 : Int32))), .inl (.ref 64)], h, 0, 0)))
            obtain ⟨x29, g29, e29, l29, u29⟩ := hi_val (i := ((x27 + (3 : Int32))).toInt.toNat) ok.1 t26 (by show _ < 250; omega) rfl
            have l29 : (0 : Int) ≤ x29.toInt := l29
            have u29 : x29.toInt ≤ (255 : Int) := u29
            refine g_iald HW rfl ok.1 t26 rfl (by omega) g29 ?_
            refine zrn_ok HW 4 (zbr_ex (cd := .eq) (x := x29) (y := (112 : Int32)) (fun hc30 => zB_iff.mpr ?_) (fun hc30 => zB_iff.mpr ?_))
            · -- pc 57
              have i30 : x29.toInt = (112 : Int) := zop_int.mp hc30
              refine zrn_ok HW 7 (zB_iff.mpr (?_ : G (37, [(2, .inl (.int (4 : Int32))), (0, .inl (.ref 49)), (1, .inl (.ref 1000000))], [.inl (.ref 49)], h, 0, 0)))
              have o32 : hget h 49 6 = some (.inl (.ref 64)) := ((ok.2.1.2.1 49 5 hq_q (Or.inl rfl)).1.1 (6, 15, 18) (by decide +kernel)).1
              have t32 : T[64]? = some 18 := ((ok.2.1.2.1 49 5 hq_q (Or.inl rfl)).1.1 (6, 15, 18) (by decide +kernel)).2
              refine g_getf HW rfl ok.1 hq_q rfl o32 ?_
              refine zrn_ok HW 1 (zB_iff.mpr (?_ : G (41, [(2, .inl (.int (4 : Int32))), (0, .inl (.ref 49)), (1, .inl (.ref 1000000))], [.inl (.ref 49), .inl (.ref 64)], h, 0, 0)))
              obtain ⟨x33, g33, e33, l33, u33⟩ := hi_val (i := 30) ok.1 hq_q (by decide) rfl
              have l33 : (0 : Int) ≤ x33.toInt := l33
              have u33 : x33.toInt ≤ (250 : Int) := u33
              refine g_getf HW rfl ok.1 hq_q rfl g33 ?_
              have y34 : -2147483648 ≤ x33.toInt + (4 : Int) → x33.toInt + (4 : Int) ≤ 2147483647 → (x33 + (4 : Int32)).toInt = x33.toInt + (4 : Int) := t_addC (x := x33) (y := (4 : Int32))
              refine zrn_ok HW 2 (zB_iff.mpr (?_ : G (46, [(2, .inl (.int (4 : Int32))), (0, .inl (.ref 49)), (1, .inl (.ref 1000000))], [.inl (.int (x33 + (4 : Int32))), .inl (.ref 64)], h, 0, 0)))
              obtain ⟨x35, g35, e35, l35, u35⟩ := hi_val (i := ((x33 + (4 : Int32))).toInt.toNat) ok.1 t32 (by show _ < 250; omega) rfl
              have l35 : (0 : Int) ≤ x35.toInt := l35
              have u35 : x35.toInt ≤ (255 : Int) := u35
              refine g_iald HW rfl ok.1 t32 rfl (by omega) g35 ?_
              refine zrn_ok HW 4 (zbr_ex (cd := .eq) (x := x35) (y := (115 : Int32)) (fun hc36 => zB_iff.mpr ?_) (fun hc36 => zB_iff.mpr ?_))
              · -- pc 57
                have i36 : x35.toInt = (115 : Int) := zop_int.mp hc36
                refine zrn_ok HW 8 ?_
                exact zret_z rfl rfl (k1 (by omega))
              · -- pc 55
                have i36 : ¬ (x35.toInt = (115 : Int)) := fun e => hc36 (zop_int.mpr e)
                refine zrn_ok HW 2 ?_
                exact zret_z rfl rfl k0
            · -- pc 55
              have i30 : ¬ (x29.toInt = (112 : Int)) := fun e => hc30 (zop_int.mpr e)
              refine zrn_ok HW 2 ?_
              exact zret_z rfl rfl k0
          · -- pc 55
            have i24 : ¬ (x23.toInt = (105 : Int)) := fun e => hc24 (zop_int.mpr e)
            refine zrn_ok HW 2 ?_
            exact zret_z rfl rfl k0
        · -- pc 55
          have i18 : ¬ (x17.toInt = (108 : Int)) := fun e => hc18 (zop_int.mpr e)
          refine zrn_ok HW 2 ?_
          exact zret_z rfl rfl k0
      · -- pc 55
        have i12 : ¬ (x11.toInt = (115 : Int)) := fun e => hc12 (zop_int.mpr e)
        refine zrn_ok HW 2 ?_
        exact zret_z rfl rfl k0
    · -- pc 24
      have i6 : ¬ ((x3 - x4).toInt = (5 : Int)) := fun e => hc6 (zop_int.mpr e)
      refine zrn_ok HW 2 ?_
      exact zret_z rfl rfl k0
theorem c_isWord1 {P : pP} {N : Nat} {scr : List zV} {d : Nat} {T : List Nat} {h : zH} {post : Option zV → zH → Bool} (ok : wOK (zPhi P) N T h) (k1 : hi h 49 29 = 1 → post (some (.inl (.int 1))) h = true) (k0 : post (some (.inl (.int 0))) h = true) : zD zprog scr (d + 1) 21 [.inl (.ref 49), .inl (.ref 1000001)] h post = true := by
  have hq_q := ok.2.1.1.2.2.1
  refine zD_intro (E := ze_X5_isWord) rfl rfl (fun G HW => ?_)
  refine zrn_ok HW 1 (zB_iff.mpr (?_ : G (1, [(0, .inl (.ref 49)), (1, .inl (.ref 1000001))], [.inl (.ref 49)], h, 0, 0)))
  obtain ⟨x1, g1, e1, l1, u1⟩ := hi_val (i := 29) ok.1 hq_q (by decide) rfl
  have l1 : (0 : Int) ≤ x1.toInt := l1
  have u1 : x1.toInt ≤ (4 : Int) := u1
  refine g_getf HW rfl ok.1 hq_q rfl g1 ?_
  refine zrn_ok HW 2 (zbr_ex (cd := .ne) (x := x1) (y := (1 : Int32)) (fun hc2 => zB_iff.mpr ?_) (fun hc2 => zB_iff.mpr ?_))
  · -- pc 24
    have i2 : ¬ x1.toInt = (1 : Int) := zop_int.mp hc2
    refine zrn_ok HW 2 ?_
    exact zret_z rfl rfl k0
  · -- pc 8
    have i2 : ¬ (¬ x1.toInt = (1 : Int)) := fun e => hc2 (zop_int.mpr e)
    refine zrn_ok HW 1 (zB_iff.mpr (?_ : G (9, [(0, .inl (.ref 49)), (1, .inl (.ref 1000001))], [.inl (.ref 49)], h, 0, 0)))
    obtain ⟨x3, g3, e3, l3, u3⟩ := hi_val (i := 28) ok.1 hq_q (by decide) rfl
    have l3 : (0 : Int) ≤ x3.toInt := l3
    have u3 : x3.toInt ≤ (250 : Int) := u3
    refine g_getf HW rfl ok.1 hq_q rfl g3 ?_
    refine zrn_ok HW 1 (zB_iff.mpr (?_ : G (13, [(0, .inl (.ref 49)), (1, .inl (.ref 1000001))], [.inl (.ref 49), .inl (.int x3)], h, 0, 0)))
    obtain ⟨x4, g4, e4, l4, u4⟩ := hi_val (i := 30) ok.1 hq_q (by decide) rfl
    have l4 : (0 : Int) ≤ x4.toInt := l4
    have u4 : x4.toInt ≤ (250 : Int) := u4
    refine g_getf HW rfl ok.1 hq_q rfl g4 ?_
    have y5 : -2147483648 ≤ x3.toInt - x4.toInt → x3.toInt - x4.toInt ≤ 2147483647 → (x3 - x4).toInt = x3.toInt - x4.toInt := t_subC (x := x3) (y := x4)
    refine zrn_ok HW 4 (zbr_ex (cd := .eq) (x := (x3 - x4)) (y := (4 : Int32)) (fun hc6 => zB_iff.mpr ?_) (fun hc6 => zB_iff.mpr ?_))
    · -- pc 26
      have i6 : (x3 - x4).toInt = (4 : Int) := zop_int.mp hc6
      refine zrn_ok HW 7 (zB_iff.mpr (?_ : G (37, [(2, .inl (.int (0 : Int32))), (0, .inl (.ref 49)), (1, .inl (.ref 1000001))], [.inl (.ref 49)], h, 0, 0)))
      have o8 : hget h 49 6 = some (.inl (.ref 64)) := ((ok.2.1.2.1 49 5 hq_q (Or.inl rfl)).1.1 (6, 15, 18) (by decide +kernel)).1
      have t8 : T[64]? = some 18 := ((ok.2.1.2.1 49 5 hq_q (Or.inl rfl)).1.1 (6, 15, 18) (by decide +kernel)).2
      refine g_getf HW rfl ok.1 hq_q rfl o8 ?_
      refine zrn_ok HW 1 (zB_iff.mpr (?_ : G (41, [(2, .inl (.int (0 : Int32))), (0, .inl (.ref 49)), (1, .inl (.ref 1000001))], [.inl (.ref 49), .inl (.ref 64)], h, 0, 0)))
      obtain ⟨x9, g9, e9, l9, u9⟩ := hi_val (i := 30) ok.1 hq_q (by decide) rfl
      have l9 : (0 : Int) ≤ x9.toInt := l9
      have u9 : x9.toInt ≤ (250 : Int) := u9
      refine g_getf HW rfl ok.1 hq_q rfl g9 ?_
      have y10 : -2147483648 ≤ x9.toInt + (0 : Int) → x9.toInt + (0 : Int) ≤ 2147483647 → (x9 + (0 : Int32)).toInt = x9.toInt + (0 : Int) := t_addC (x := x9) (y := (0 : Int32))
      refine zrn_ok HW 2 (zB_iff.mpr (?_ : G (46, [(2, .inl (.int (0 : Int32))), (0, .inl (.ref 49)), (1, .inl (.ref 1000001))], [.inl (.int (x9 + (0 : Int32))), .inl (.ref 64)], h, 0, 0)))
      obtain ⟨x11, g11, e11, l11, u11⟩ := hi_val (i := ((x9 + (0 : Int32))).toInt.toNat) ok.1 t8 (by show _ < 250; omega) rfl
      have l11 : (0 : Int) ≤ x11.toInt := l11
      have u11 : x11.toInt ≤ (255 : Int) := u11
      refine g_iald HW rfl ok.1 t8 rfl (by omega) g11 ?_
      refine zrn_ok HW 4 (zbr_ex (cd := .eq) (x := x11) (y := (114 : Int32)) (fun hc12 => zB_iff.mpr ?_) (fun hc12 => zB_iff.mpr ?_))
      · -- pc 57
        have i12 : x11.toInt = (114 : Int) := zop_int.mp hc12
        refine zrn_ok HW 7 (zB_iff.mpr (?_ : G (37, [(2, .inl (.int (1 : Int32))), (0, .inl (.ref 49)), (1, .inl (.ref 1000001))], [.inl (.ref 49)], h, 0, 0)))
        have o14 : hget h 49 6 = some (.inl (.ref 64)) := ((ok.2.1.2.1 49 5 hq_q (Or.inl rfl)).1.1 (6, 15, 18) (by decide +kernel)).1
        have t14 : T[64]? = some 18 := ((ok.2.1.2.1 49 5 hq_q (Or.inl rfl)).1.1 (6, 15, 18) (by decide +kernel)).2
        refine g_getf HW rfl ok.1 hq_q rfl o14 ?_
        refine zrn_ok HW 1 (zB_iff.mpr (?_ : G (41, [(2, .inl (.int (1 : Int32))), (0, .inl (.ref 49)), (1, .inl (.ref 1000001))], [.inl (.ref 49), .inl (.ref 64)], h, 0, 0)))
        obtain ⟨x15, g15, e15, l15, u15⟩ := hi_val (i := 30) ok.1 hq_q (by decide) rfl
        have l15 : (0 : Int) ≤ x15.toInt := l15
        have u15 : x15.toInt ≤ (250 : Int) := u15
        refine g_getf HW rfl ok.1 hq_q rfl g15 ?_
        have y16 : -2147483648 ≤ x15.toInt + (1 : Int) → x15.toInt + (1 : Int) ≤ 2147483647 → (x15 + (1 : Int32)).toInt = x15.toInt + (1 : Int) := t_addC (x := x15) (y := (1 : Int32))
        refine zrn_ok HW 2 (zB_iff.mpr (?_ : G (46, [(2, .inl (.int (1 : Int32))), (0, .inl (.ref 49)), (1, .inl (.ref 1000001))], [.inl (.int (x15 + (1 : Int32))), .inl (.ref 64)], h, 0, 0)))
        obtain ⟨x17, g17, e17, l17, u17⟩ := hi_val (i := ((x15 + (1 : Int32))).toInt.toNat) ok.1 t14 (by show _ < 250; omega) rfl
        have l17 : (0 : Int) ≤ x17.toInt := l17
        have u17 : x17.toInt ≤ (255 : Int) := u17
        refine g_iald HW rfl ok.1 t14 rfl (by omega) g17 ?_
        refine zrn_ok HW 4 (zbr_ex (cd := .eq) (x := x17) (y := (117 : Int32)) (fun hc18 => zB_iff.mpr ?_) (fun hc18 => zB_iff.mpr ?_))
        · -- pc 57
          have i18 : x17.toInt = (117 : Int) := zop_int.mp hc18
          refine zrn_ok HW 7 (zB_iff.mpr (?_ : G (37, [(2, .inl (.int (2 : Int32))), (0, .inl (.ref 49)), (1, .inl (.ref 1000001))], [.inl (.ref 49)], h, 0, 0)))
          have o20 : hget h 49 6 = some (.inl (.ref 64)) := ((ok.2.1.2.1 49 5 hq_q (Or.inl rfl)).1.1 (6, 15, 18) (by decide +kernel)).1
          have t20 : T[64]? = some 18 := ((ok.2.1.2.1 49 5 hq_q (Or.inl rfl)).1.1 (6, 15, 18) (by decide +kernel)).2
          refine g_getf HW rfl ok.1 hq_q rfl o20 ?_
          refine zrn_ok HW 1 (zB_iff.mpr (?_ : G (41, [(2, .inl (.int (2 : Int32))), (0, .inl (.ref 49)), (1, .inl (.ref 1000001))], [.inl (.ref 49), .inl (.ref 64)], h, 0, 0)))
          obtain ⟨x21, g21, e21, l21, u21⟩ := hi_val (i := 30) ok.1 hq_q (by decide) rfl
          have l21 : (0 : Int) ≤ x21.toInt := l21
          have u21 : x21.toInt ≤ (250 : Int) := u21
          refine g_getf HW rfl ok.1 hq_q rfl g21 ?_
          have y22 : -2147483648 ≤ x21.toInt + (2 : Int) → x21.toInt + (2 : Int) ≤ 2147483647 → (x21 + (2 : Int32)).toInt = x21.toInt + (2 : Int) := t_addC (x := x21) (y := (2 : Int32))
          refine zrn_ok HW 2 (zB_iff.mpr (?_ : G (46, [(2, .inl (.int (2 : Int32))), (0, .inl (.ref 49)), (1, .inl (.ref 1000001))], [.inl (.int (x21 + (2 : Int32))), .inl (.ref 64)], h, 0, 0)))
          obtain ⟨x23, g23, e23, l23, u23⟩ := hi_val (i := ((x21 + (2 : Int32))).toInt.toNat) ok.1 t20 (by show _ < 250; omega) rfl
          have l23 : (0 : Int) ≤ x23.toInt := l23
          have u23 : x23.toInt ≤ (255 : Int) := u23
          refine g_iald HW rfl ok.1 t20 rfl (by omega) g23 ?_
          refine zrn_ok HW 4 (zbr_ex (cd := .eq) (x := x23) (y := (108 : Int32)) (fun hc24 => zB_iff.mpr ?_) (fun hc24 => zB_iff.mpr ?_))
          · -- pc 57
            have i24 : x23.toInt = (108 : Int) := zop_int.mp hc24
            refine zrn_ok HW 7 (zB_iff.mpr (?_ : G (37, [(2, .inl (.int (3 : Int32))), (0, .inl (.ref 49)), (1, .inl (.ref 1000001))], [.inl (.ref 49)], h, 0, 0)))
            have o26 : hget h 49 6 = some (.inl (.ref 64)) := ((ok.2.1.2.1 49 5 hq_q (Or.inl rfl)).1.1 (6, 15, 18) (by decide +kernel)).1
            have t26 : T[64]? = some 18 := ((ok.2.1.2.1 49 5 hq_q (Or.inl rfl)).1.1 (6, 15, 18) (by decide +kernel)).2
            refine g_getf HW rfl ok.1 hq_q rfl o26 ?_
            refine zrn_ok HW 1 (zB_iff.mpr (?_ : G (41, [(2, .inl (.int (3 : Int32))), (0, .inl (.ref 49)), (1, .inl (.ref 1000001))], [.inl (.ref 49), .inl (.ref 64)], h, 0, 0)))
            obtain ⟨x27, g27, e27, l27, u27⟩ := hi_val (i := 30) ok.1 hq_q (by decide) rfl
            have l27 : (0 : Int) ≤ x27.toInt := l27
            have u27 : x27.toInt ≤ (250 : Int) := u27
            refine g_getf HW rfl ok.1 hq_q rfl g27 ?_
            have y28 : -2147483648 ≤ x27.toInt + (3 : Int) → x27.toInt + (3 : Int) ≤ 2147483647 → (x27 + (3 : Int32)).toInt = x27.toInt + (3 : Int) := t_addC (x := x27) (y := (3 : Int32))
            refine zrn_ok HW 2 (zB_iff.mpr (?_ : G (46, [(2, .inl (.int (3 : Int32))), (0, .inl (.ref 49)), (1, .inl (.ref 1000001))], [.inl (.int (x27 + (3 : Int32))), .inl (.ref 64)], h, 0, 0)))
            obtain ⟨x29, g29, e29, l29, u29⟩ := hi_val (i := ((x27 + (3 : Int32))).toInt.toNat) ok.1 t26 (by show _ < 250; omega) rfl
            have l29 : (0 : Int) ≤ x29.toInt := l29
            have u29 : x29.toInt ≤ (255 : Int) := u29
            refine g_iald HW rfl ok.1 t26 rfl (by omega) g29 ?_
            refine zrn_ok HW 4 (zbr_ex (cd := .eq) (x := x29) (y := (101 : Int32)) (fun hc30 => zB_iff.mpr ?_) (fun hc30 => zB_iff.mpr ?_))
            · -- pc 57
              have i30 : x29.toInt = (101 : Int) := zop_int.mp hc30
              refine zrn_ok HW 8 ?_
              exact zret_z rfl rfl (k1 (by omega))
            · -- pc 55
              have i30 : ¬ (x29.toInt = (101 : Int)) := fun e => hc30 (zop_int.mpr e)
              refine zrn_ok HW 2 ?_
              exact zret_z rfl rfl k0
          · -- pc 55
            have i24 : ¬ (x23.toInt = (108 : Int)) := fun e => hc24 (zop_int.mpr e)
            refine zrn_ok HW 2 ?_
            exact zret_z rfl rfl k0
        · -- pc 55
          have i18 : ¬ (x17.toInt = (117 : Int)) := fun e => hc18 (zop_int.mpr e)
          refine zrn_ok HW 2 ?_
          exact zret_z rfl rfl k0
      · -- pc 55
        have i12 : ¬ (x11.toInt = (114 : Int)) := fun e => hc12 (zop_int.mpr e)
        refine zrn_ok HW 2 ?_
        exact zret_z rfl rfl k0
    · -- pc 24
      have i6 : ¬ ((x3 - x4).toInt = (4 : Int)) := fun e => hc6 (zop_int.mpr e)
      refine zrn_ok HW 2 ?_
      exact zret_z rfl rfl k0
theorem c_isWord2 {P : pP} {N : Nat} {scr : List zV} {d : Nat} {T : List Nat} {h : zH} {post : Option zV → zH → Bool} (ok : wOK (zPhi P) N T h) (k1 : hi h 49 29 = 1 → post (some (.inl (.int 1))) h = true) (k0 : post (some (.inl (.int 0))) h = true) : zD zprog scr (d + 1) 21 [.inl (.ref 49), .inl (.ref 1000002)] h post = true := by
  have hq_q := ok.2.1.1.2.2.1
  refine zD_intro (E := ze_X5_isWord) rfl rfl (fun G HW => ?_)
  refine zrn_ok HW 1 (zB_iff.mpr (?_ : G (1, [(0, .inl (.ref 49)), (1, .inl (.ref 1000002))], [.inl (.ref 49)], h, 0, 0)))
  obtain ⟨x1, g1, e1, l1, u1⟩ := hi_val (i := 29) ok.1 hq_q (by decide) rfl
  have l1 : (0 : Int) ≤ x1.toInt := l1
  have u1 : x1.toInt ≤ (4 : Int) := u1
  refine g_getf HW rfl ok.1 hq_q rfl g1 ?_
  refine zrn_ok HW 2 (zbr_ex (cd := .ne) (x := x1) (y := (1 : Int32)) (fun hc2 => zB_iff.mpr ?_) (fun hc2 => zB_iff.mpr ?_))
  · -- pc 24
    have i2 : ¬ x1.toInt = (1 : Int) := zop_int.mp hc2
    refine zrn_ok HW 2 ?_
    exact zret_z rfl rfl k0
  · -- pc 8
    have i2 : ¬ (¬ x1.toInt = (1 : Int)) := fun e => hc2 (zop_int.mpr e)
    refine zrn_ok HW 1 (zB_iff.mpr (?_ : G (9, [(0, .inl (.ref 49)), (1, .inl (.ref 1000002))], [.inl (.ref 49)], h, 0, 0)))
    obtain ⟨x3, g3, e3, l3, u3⟩ := hi_val (i := 28) ok.1 hq_q (by decide) rfl
    have l3 : (0 : Int) ≤ x3.toInt := l3
    have u3 : x3.toInt ≤ (250 : Int) := u3
    refine g_getf HW rfl ok.1 hq_q rfl g3 ?_
    refine zrn_ok HW 1 (zB_iff.mpr (?_ : G (13, [(0, .inl (.ref 49)), (1, .inl (.ref 1000002))], [.inl (.ref 49), .inl (.int x3)], h, 0, 0)))
    obtain ⟨x4, g4, e4, l4, u4⟩ := hi_val (i := 30) ok.1 hq_q (by decide) rfl
    have l4 : (0 : Int) ≤ x4.toInt := l4
    have u4 : x4.toInt ≤ (250 : Int) := u4
    refine g_getf HW rfl ok.1 hq_q rfl g4 ?_
    have y5 : -2147483648 ≤ x3.toInt - x4.toInt → x3.toInt - x4.toInt ≤ 2147483647 → (x3 - x4).toInt = x3.toInt - x4.toInt := t_subC (x := x3) (y := x4)
    refine zrn_ok HW 4 (zbr_ex (cd := .eq) (x := (x3 - x4)) (y := (5 : Int32)) (fun hc6 => zB_iff.mpr ?_) (fun hc6 => zB_iff.mpr ?_))
    · -- pc 26
      have i6 : (x3 - x4).toInt = (5 : Int) := zop_int.mp hc6
      refine zrn_ok HW 7 (zB_iff.mpr (?_ : G (37, [(2, .inl (.int (0 : Int32))), (0, .inl (.ref 49)), (1, .inl (.ref 1000002))], [.inl (.ref 49)], h, 0, 0)))
      have o8 : hget h 49 6 = some (.inl (.ref 64)) := ((ok.2.1.2.1 49 5 hq_q (Or.inl rfl)).1.1 (6, 15, 18) (by decide +kernel)).1
      have t8 : T[64]? = some 18 := ((ok.2.1.2.1 49 5 hq_q (Or.inl rfl)).1.1 (6, 15, 18) (by decide +kernel)).2
      refine g_getf HW rfl ok.1 hq_q rfl o8 ?_
      refine zrn_ok HW 1 (zB_iff.mpr (?_ : G (41, [(2, .inl (.int (0 : Int32))), (0, .inl (.ref 49)), (1, .inl (.ref 1000002))], [.inl (.ref 49), .inl (.ref 64)], h, 0, 0)))
      obtain ⟨x9, g9, e9, l9, u9⟩ := hi_val (i := 30) ok.1 hq_q (by decide) rfl
      have l9 : (0 : Int) ≤ x9.toInt := l9
      have u9 : x9.toInt ≤ (250 : Int) := u9
      refine g_getf HW rfl ok.1 hq_q rfl g9 ?_
      have y10 : -2147483648 ≤ x9.toInt + (0 : Int) → x9.toInt + (0 : Int) ≤ 2147483647 → (x9 + (0 : Int32)).toInt = x9.toInt + (0 : Int) := t_addC (x := x9) (y := (0 : Int32))
      refine zrn_ok HW 2 (zB_iff.mpr (?_ : G (46, [(2, .inl (.int (0 : Int32))), (0, .inl (.ref 49)), (1, .inl (.ref 1000002))], [.inl (.int (x9 + (0 : Int32))), .inl (.ref 64)], h, 0, 0)))
      obtain ⟨x11, g11, e11, l11, u11⟩ := hi_val (i := ((x9 + (0 : Int32))).toInt.toNat) ok.1 t8 (by show _ < 250; omega) rfl
      have l11 : (0 : Int) ≤ x11.toInt := l11
      have u11 : x11.toInt ≤ (255 : Int) := u11
      refine g_iald HW rfl ok.1 t8 rfl (by omega) g11 ?_
      refine zrn_ok HW 4 (zbr_ex (cd := .eq) (x := x11) (y := (112 : Int32)) (fun hc12 => zB_iff.mpr ?_) (fun hc12 => zB_iff.mpr ?_))
      · -- pc 57
        have i12 : x11.toInt = (112 : Int) := zop_int.mp hc12
        refine zrn_ok HW 7 (zB_iff.mpr (?_ : G (37, [(2, .inl (.int (1 : Int32))), (0, .inl (.ref 49)), (1, .inl (.ref 1000002))], [.inl (.ref 49)], h, 0, 0)))
        have o14 : hget h 49 6 = some (.inl (.ref 64)) := ((ok.2.1.2.1 49 5 hq_q (Or.inl rfl)).1.1 (6, 15, 18) (by decide +kernel)).1
        have t14 : T[64]? = some 18 := ((ok.2.1.2.1 49 5 hq_q (Or.inl rfl)).1.1 (6, 15, 18) (by decide +kernel)).2
        refine g_getf HW rfl ok.1 hq_q rfl o14 ?_
        refine zrn_ok HW 1 (zB_iff.mpr (?_ : G (41, [(2, .inl (.int (1 : Int32))), (0, .inl (.ref 49)), (1, .inl (.ref 1000002))], [.inl (.ref 49), .inl (.ref 64)], h, 0, 0)))
        obtain ⟨x15, g15, e15, l15, u15⟩ := hi_val (i := 30) ok.1 hq_q (by decide) rfl
        have l15 : (0 : Int) ≤ x15.toInt := l15
        have u15 : x15.toInt ≤ (250 : Int) := u15
        refine g_getf HW rfl ok.1 hq_q rfl g15 ?_
        have y16 : -2147483648 ≤ x15.toInt + (1 : Int) → x15.toInt + (1 : Int) ≤ 2147483647 → (x15 + (1 : Int32)).toInt = x15.toInt + (1 : Int) := t_addC (x := x15) (y := (1 : Int32))
        refine zrn_ok HW 2 (zB_iff.mpr (?_ : G (46, [(2, .inl (.int (1 : Int32))), (0, .inl (.ref 49)), (1, .inl (.ref 1000002))], [.inl (.int (x15 + (1 : Int32))), .inl (.ref 64)], h, 0, 0)))
        obtain ⟨x17, g17, e17, l17, u17⟩ := hi_val (i := ((x15 + (1 : Int32))).toInt.toNat) ok.1 t14 (by show _ < 250; omega) rfl
        have l17 : (0 : Int) ≤ x17.toInt := l17
        have u17 : x17.toInt ≤ (255 : Int) := u17
        refine g_iald HW rfl ok.1 t14 rfl (by omega) g17 ?_
        refine zrn_ok HW 4 (zbr_ex (cd := .eq) (x := x17) (y := (114 : Int32)) (fun hc18 => zB_iff.mpr ?_) (fun hc18 => zB_iff.mpr ?_))
        · -- pc 57
          have i18 : x17.toInt = (114 : Int) := zop_int.mp hc18
          refine zrn_ok HW 7 (zB_iff.mpr (?_ : G (37, [(2, .inl (.int (2 : Int32))), (0, .inl (.ref 49)), (1, .inl (.ref 1000002))], [.inl (.ref 49)], h, 0, 0)))
          have o20 : hget h 49 6 = some (.inl (.ref 64)) := ((ok.2.1.2.1 49 5 hq_q (Or.inl rfl)).1.1 (6, 15, 18) (by decide +kernel)).1
          have t20 : T[64]? = some 18 := ((ok.2.1.2.1 49 5 hq_q (Or.inl rfl)).1.1 (6, 15, 18) (by decide +kernel)).2
          refine g_getf HW rfl ok.1 hq_q rfl o20 ?_
          refine zrn_ok HW 1 (zB_iff.mpr (?_ : G (41, [(2, .inl (.int (2 : Int32))), (0, .inl (.ref 49)), (1, .inl (.ref 1000002))], [.inl (.ref 49), .inl (.ref 64)], h, 0, 0)))
          obtain ⟨x21, g21, e21, l21, u21⟩ := hi_val (i := 30) ok.1 hq_q (by decide) rfl
          have l21 : (0 : Int) ≤ x21.toInt := l21
          have u21 : x21.toInt ≤ (250 : Int) := u21
          refine g_getf HW rfl ok.1 hq_q rfl g21 ?_
          have y22 : -2147483648 ≤ x21.toInt + (2 : Int) → x21.toInt + (2 : Int) ≤ 2147483647 → (x21 + (2 : Int32)).toInt = x21.toInt + (2 : Int) := t_addC (x := x21) (y := (2 : Int32))
          refine zrn_ok HW 2 (zB_iff.mpr (?_ : G (46, [(2, .inl (.int (2 : Int32))), (0, .inl (.ref 49)), (1, .inl (.ref 1000002))], [.inl (.int (x21 + (2 : Int32))), .inl (.ref 64)], h, 0, 0)))
          obtain ⟨x23, g23, e23, l23, u23⟩ := hi_val (i := ((x21 + (2 : Int32))).toInt.toNat) ok.1 t20 (by show _ < 250; omega) rfl
          have l23 : (0 : Int) ≤ x23.toInt := l23
          have u23 : x23.toInt ≤ (255 : Int) := u23
          refine g_iald HW rfl ok.1 t20 rfl (by omega) g23 ?_
          refine zrn_ok HW 4 (zbr_ex (cd := .eq) (x := x23) (y := (105 : Int32)) (fun hc24 => zB_iff.mpr ?_) (fun hc24 => zB_iff.mpr ?_))
          · -- pc 57
            have i24 : x23.toInt = (105 : Int) := zop_int.mp hc24
            refine zrn_ok HW 7 (zB_iff.mpr (?_ : G (37, [(2, .inl (.int (3 : Int32))), (0, .inl (.ref 49)), (1, .inl (.ref 1000002))], [.inl (.ref 49)], h, 0, 0)))
            have o26 : hget h 49 6 = some (.inl (.ref 64)) := ((ok.2.1.2.1 49 5 hq_q (Or.inl rfl)).1.1 (6, 15, 18) (by decide +kernel)).1
            have t26 : T[64]? = some 18 := ((ok.2.1.2.1 49 5 hq_q (Or.inl rfl)).1.1 (6, 15, 18) (by decide +kernel)).2
            refine g_getf HW rfl ok.1 hq_q rfl o26 ?_
            refine zrn_ok HW 1 (zB_iff.mpr (?_ : G (41, [(2, .inl (.int (3 : Int32))), (0, .inl (.ref 49)), (1, .inl (.ref 1000002))], [.inl (.ref 49), .inl (.ref 64)], h, 0, 0)))
            obtain ⟨x27, g27, e27, l27, u27⟩ := hi_val (i := 30) ok.1 hq_q (by decide) rfl
            have l27 : (0 : Int) ≤ x27.toInt := l27
            have u27 : x27.toInt ≤ (250 : Int) := u27
            refine g_getf HW rfl ok.1 hq_q rfl g27 ?_
            have y28 : -2147483648 ≤ x27.toInt + (3 : Int) → x27.toInt + (3 : Int) ≤ 2147483647 → (x27 + (3 : Int32)).toInt = x27.toInt + (3 : Int) := t_addC (x := x27) (y := (3 : Int32))
            refine zrn_ok HW 2 (zB_iff.mpr (?_ : G (46, [(2, .inl (.int (3 : Int32))), (0, .inl (.ref 49)), (1, .inl (.ref 1000002))], [.inl (.int (x27 + (3 : Int32))), .inl (.ref 64)], h, 0, 0)))
            obtain ⟨x29, g29, e29, l29, u29⟩ := hi_val (i := ((x27 + (3 : Int32))).toInt.toNat) ok.1 t26 (by show _ < 250; omega) rfl
            have l29 : (0 : Int) ≤ x29.toInt := l29
            have u29 : x29.toInt ≤ (255 : Int) := u29
            refine g_iald HW rfl ok.1 t26 rfl (by omega) g29 ?_
            refine zrn_ok HW 4 (zbr_ex (cd := .eq) (x := x29) (y := (99 : Int32)) (fun hc30 => zB_iff.mpr ?_) (fun hc30 => zB_iff.mpr ?_))
            · -- pc 57
              have i30 : x29.toInt = (99 : Int) := zop_int.mp hc30
              refine zrn_ok HW 7 (zB_iff.mpr (?_ : G (37, [(2, .inl (.int (4 : Int32))), (0, .inl (.ref 49)), (1, .inl (.ref 1000002))], [.inl (.ref 49)], h, 0, 0)))
              have o32 : hget h 49 6 = some (.inl (.ref 64)) := ((ok.2.1.2.1 49 5 hq_q (Or.inl rfl)).1.1 (6, 15, 18) (by decide +kernel)).1
              have t32 : T[64]? = some 18 := ((ok.2.1.2.1 49 5 hq_q (Or.inl rfl)).1.1 (6, 15, 18) (by decide +kernel)).2
              refine g_getf HW rfl ok.1 hq_q rfl o32 ?_
              refine zrn_ok HW 1 (zB_iff.mpr (?_ : G (41, [(2, .inl (.int (4 : Int32))), (0, .inl (.ref 49)), (1, .inl (.ref 1000002))], [.inl (.ref 49), .inl (.ref 64)], h, 0, 0)))
              obtain ⟨x33, g33, e33, l33, u33⟩ := hi_val (i := 30) ok.1 hq_q (by decide) rfl
              have l33 : (0 : Int) ≤ x33.toInt := l33
              have u33 : x33.toInt ≤ (250 : Int) := u33
              refine g_getf HW rfl ok.1 hq_q rfl g33 ?_
              have y34 : -2147483648 ≤ x33.toInt + (4 : Int) → x33.toInt + (4 : Int) ≤ 2147483647 → (x33 + (4 : Int32)).toInt = x33.toInt + (4 : Int) := t_addC (x := x33) (y := (4 : Int32))
              refine zrn_ok HW 2 (zB_iff.mpr (?_ : G (46, [(2, .inl (.int (4 : Int32))), (0, .inl (.ref 49)), (1, .inl (.ref 1000002))], [.inl (.int (x33 + (4 : Int32))), .inl (.ref 64)], h, 0, 0)))
              obtain ⟨x35, g35, e35, l35, u35⟩ := hi_val (i := ((x33 + (4 : Int32))).toInt.toNat) ok.1 t32 (by show _ < 250; omega) rfl
              have l35 : (0 : Int) ≤ x35.toInt := l35
              have u35 : x35.toInt ≤ (255 : Int) := u35
              refine g_iald HW rfl ok.1 t32 rfl (by omega) g35 ?_
              refine zrn_ok HW 4 (zbr_ex (cd := .eq) (x := x35) (y := (101 : Int32)) (fun hc36 => zB_iff.mpr ?_) (fun hc36 => zB_iff.mpr ?_))
              · -- pc 57
                have i36 : x35.toInt = (101 : Int) := zop_int.mp hc36
                refine zrn_ok HW 8 ?_
                exact zret_z rfl rfl (k1 (by omega))
              · -- pc 55
                have i36 : ¬ (x35.toInt = (101 : Int)) := fun e => hc36 (zop_int.mpr e)
                refine zrn_ok HW 2 ?_
                exact zret_z rfl rfl k0
            · -- pc 55
              have i30 : ¬ (x29.toInt = (99 : Int)) := fun e => hc30 (zop_int.mpr e)
              refine zrn_ok HW 2 ?_
              exact zret_z rfl rfl k0
          · -- pc 55
            have i24 : ¬ (x23.toInt = (105 : Int)) := fun e => hc24 (zop_int.mpr e)
            refine zrn_ok HW 2 ?_
            exact zret_z rfl rfl k0
        · -- pc 55
          have i18 : ¬ (x17.toInt = (114 : Int)) := fun e => hc18 (zop_int.mpr e)
          refine zrn_ok HW 2 ?_
          exact zret_z rfl rfl k0
      · -- pc 55
        have i12 : ¬ (x11.toInt = (112 : Int)) := fun e => hc12 (zop_int.mpr e)
        refine zrn_ok HW 2 ?_
        exact zret_z rfl rfl k0
    · -- pc 24
      have i6 : ¬ ((x3 - x4).toInt = (5 : Int)) := fun e => hc6 (zop_int.mpr e)
      refine zrn_ok HW 2 ?_
      exact zret_z rfl rfl k0
theorem c_isWord3 {P : pP} {N : Nat} {scr : List zV} {d : Nat} {T : List Nat} {h : zH} {post : Option zV → zH → Bool} (ok : wOK (zPhi P) N T h) (k1 : hi h 49 29 = 1 → post (some (.inl (.int 1))) h = true) (k0 : post (some (.inl (.int 0))) h = true) : zD zprog scr (d + 1) 21 [.inl (.ref 49), .inl (.ref 1000003)] h post = true := by
  have hq_q := ok.2.1.1.2.2.1
  refine zD_intro (E := ze_X5_isWord) rfl rfl (fun G HW => ?_)
  refine zrn_ok HW 1 (zB_iff.mpr (?_ : G (1, [(0, .inl (.ref 49)), (1, .inl (.ref 1000003))], [.inl (.ref 49)], h, 0, 0)))
  obtain ⟨x1, g1, e1, l1, u1⟩ := hi_val (i := 29) ok.1 hq_q (by decide) rfl
  have l1 : (0 : Int) ≤ x1.toInt := l1
  have u1 : x1.toInt ≤ (4 : Int) := u1
  refine g_getf HW rfl ok.1 hq_q rfl g1 ?_
  refine zrn_ok HW 2 (zbr_ex (cd := .ne) (x := x1) (y := (1 : Int32)) (fun hc2 => zB_iff.mpr ?_) (fun hc2 => zB_iff.mpr ?_))
  · -- pc 24
    have i2 : ¬ x1.toInt = (1 : Int) := zop_int.mp hc2
    refine zrn_ok HW 2 ?_
    exact zret_z rfl rfl k0
  · -- pc 8
    have i2 : ¬ (¬ x1.toInt = (1 : Int)) := fun e => hc2 (zop_int.mpr e)
    refine zrn_ok HW 1 (zB_iff.mpr (?_ : G (9, [(0, .inl (.ref 49)), (1, .inl (.ref 1000003))], [.inl (.ref 49)], h, 0, 0)))
    obtain ⟨x3, g3, e3, l3, u3⟩ := hi_val (i := 28) ok.1 hq_q (by decide) rfl
    have l3 : (0 : Int) ≤ x3.toInt := l3
    have u3 : x3.toInt ≤ (250 : Int) := u3
    refine g_getf HW rfl ok.1 hq_q rfl g3 ?_
    refine zrn_ok HW 1 (zB_iff.mpr (?_ : G (13, [(0, .inl (.ref 49)), (1, .inl (.ref 1000003))], [.inl (.ref 49), .inl (.int x3)], h, 0, 0)))
    obtain ⟨x4, g4, e4, l4, u4⟩ := hi_val (i := 30) ok.1 hq_q (by decide) rfl
    have l4 : (0 : Int) ≤ x4.toInt := l4
    have u4 : x4.toInt ≤ (250 : Int) := u4
    refine g_getf HW rfl ok.1 hq_q rfl g4 ?_
    have y5 : -2147483648 ≤ x3.toInt - x4.toInt → x3.toInt - x4.toInt ≤ 2147483647 → (x3 - x4).toInt = x3.toInt - x4.toInt := t_subC (x := x3) (y := x4)
    refine zrn_ok HW 4 (zbr_ex (cd := .eq) (x := (x3 - x4)) (y := (5 : Int32)) (fun hc6 => zB_iff.mpr ?_) (fun hc6 => zB_iff.mpr ?_))
    · -- pc 26
      have i6 : (x3 - x4).toInt = (5 : Int) := zop_int.mp hc6
      refine zrn_ok HW 7 (zB_iff.mpr (?_ : G (37, [(2, .inl (.int (0 : Int32))), (0, .inl (.ref 49)), (1, .inl (.ref 1000003))], [.inl (.ref 49)], h, 0, 0)))
      have o8 : hget h 49 6 = some (.inl (.ref 64)) := ((ok.2.1.2.1 49 5 hq_q (Or.inl rfl)).1.1 (6, 15, 18) (by decide +kernel)).1
      have t8 : T[64]? = some 18 := ((ok.2.1.2.1 49 5 hq_q (Or.inl rfl)).1.1 (6, 15, 18) (by decide +kernel)).2
      refine g_getf HW rfl ok.1 hq_q rfl o8 ?_
      refine zrn_ok HW 1 (zB_iff.mpr (?_ : G (41, [(2, .inl (.int (0 : Int32))), (0, .inl (.ref 49)), (1, .inl (.ref 1000003))], [.inl (.ref 49), .inl (.ref 64)], h, 0, 0)))
      obtain ⟨x9, g9, e9, l9, u9⟩ := hi_val (i := 30) ok.1 hq_q (by decide) rfl
      have l9 : (0 : Int) ≤ x9.toInt := l9
      have u9 : x9.toInt ≤ (250 : Int) := u9
      refine g_getf HW rfl ok.1 hq_q rfl g9 ?_
      have y10 : -2147483648 ≤ x9.toInt + (0 : Int) → x9.toInt + (0 : Int) ≤ 2147483647 → (x9 + (0 : Int32)).toInt = x9.toInt + (0 : Int) := t_addC (x := x9) (y := (0 : Int32))
      refine zrn_ok HW 2 (zB_iff.mpr (?_ : G (46, [(2, .inl (.int (0 : Int32))), (0, .inl (.ref 49)), (1, .inl (.ref 1000003))], [.inl (.int (x9 + (0 : Int32))), .inl (.ref 64)], h, 0, 0)))
      obtain ⟨x11, g11, e11, l11, u11⟩ := hi_val (i := ((x9 + (0 : Int32))).toInt.toNat) ok.1 t8 (by show _ < 250; omega) rfl
      have l11 : (0 : Int) ≤ x11.toInt := l11
      have u11 : x11.toInt ≤ (255 : Int) := u11
      refine g_iald HW rfl ok.1 t8 rfl (by omega) g11 ?_
      refine zrn_ok HW 4 (zbr_ex (cd := .eq) (x := x11) (y := (116 : Int32)) (fun hc12 => zB_iff.mpr ?_) (fun hc12 => zB_iff.mpr ?_))
      · -- pc 57
        have i12 : x11.toInt = (116 : Int) := zop_int.mp hc12
        refine zrn_ok HW 7 (zB_iff.mpr (?_ : G (37, [(2, .inl (.int (1 : Int32))), (0, .inl (.ref 49)), (1, .inl (.ref 1000003))], [.inl (.ref 49)], h, 0, 0)))
        have o14 : hget h 49 6 = some (.inl (.ref 64)) := ((ok.2.1.2.1 49 5 hq_q (Or.inl rfl)).1.1 (6, 15, 18) (by decide +kernel)).1
        have t14 : T[64]? = some 18 := ((ok.2.1.2.1 49 5 hq_q (Or.inl rfl)).1.1 (6, 15, 18) (by decide +kernel)).2
        refine g_getf HW rfl ok.1 hq_q rfl o14 ?_
        refine zrn_ok HW 1 (zB_iff.mpr (?_ : G (41, [(2, .inl (.int (1 : Int32))), (0, .inl (.ref 49)), (1, .inl (.ref 1000003))], [.inl (.ref 49), .inl (.ref 64)], h, 0, 0)))
        obtain ⟨x15, g15, e15, l15, u15⟩ := hi_val (i := 30) ok.1 hq_q (by decide) rfl
        have l15 : (0 : Int) ≤ x15.toInt := l15
        have u15 : x15.toInt ≤ (250 : Int) := u15
        refine g_getf HW rfl ok.1 hq_q rfl g15 ?_
        have y16 : -2147483648 ≤ x15.toInt + (1 : Int) → x15.toInt + (1 : Int) ≤ 2147483647 → (x15 + (1 : Int32)).toInt = x15.toInt + (1 : Int) := t_addC (x := x15) (y := (1 : Int32))
        refine zrn_ok HW 2 (zB_iff.mpr (?_ : G (46, [(2, .inl (.int (1 : Int32))), (0, .inl (.ref 49)), (1, .inl (.ref 1000003))], [.inl (.int (x15 + (1 : Int32))), .inl (.ref 64)], h, 0, 0)))
        obtain ⟨x17, g17, e17, l17, u17⟩ := hi_val (i := ((x15 + (1 : Int32))).toInt.toNat) ok.1 t14 (by show _ < 250; omega) rfl
        have l17 : (0 : Int) ≤ x17.toInt := l17
        have u17 : x17.toInt ≤ (255 : Int) := u17
        refine g_iald HW rfl ok.1 t14 rfl (by omega) g17 ?_
        refine zrn_ok HW 4 (zbr_ex (cd := .eq) (x := x17) (y := (104 : Int32)) (fun hc18 => zB_iff.mpr ?_) (fun hc18 => zB_iff.mpr ?_))
        · -- pc 57
          have i18 : x17.toInt = (104 : Int) := zop_int.mp hc18
          refine zrn_ok HW 7 (zB_iff.mpr (?_ : G (37, [(2, .inl (.int (2 : Int32))), (0, .inl (.ref 49)), (1, .inl (.ref 1000003))], [.inl (.ref 49)], h, 0, 0)))
          have o20 : hget h 49 6 = some (.inl (.ref 64)) := ((ok.2.1.2.1 49 5 hq_q (Or.inl rfl)).1.1 (6, 15, 18) (by decide +kernel)).1
          have t20 : T[64]? = some 18 := ((ok.2.1.2.1 49 5 hq_q (Or.inl rfl)).1.1 (6, 15, 18) (by decide +kernel)).2
          refine g_getf HW rfl ok.1 hq_q rfl o20 ?_
          refine zrn_ok HW 1 (zB_iff.mpr (?_ : G (41, [(2, .inl (.int (2 : Int32))), (0, .inl (.ref 49)), (1, .inl (.ref 1000003))], [.inl (.ref 49), .inl (.ref 64)], h, 0, 0)))
          obtain ⟨x21, g21, e21, l21, u21⟩ := hi_val (i := 30) ok.1 hq_q (by decide) rfl
          have l21 : (0 : Int) ≤ x21.toInt := l21
          have u21 : x21.toInt ≤ (250 : Int) := u21
          refine g_getf HW rfl ok.1 hq_q rfl g21 ?_
          have y22 : -2147483648 ≤ x21.toInt + (2 : Int) → x21.toInt + (2 : Int) ≤ 2147483647 → (x21 + (2 : Int32)).toInt = x21.toInt + (2 : Int) := t_addC (x := x21) (y := (2 : Int32))
          refine zrn_ok HW 2 (zB_iff.mpr (?_ : G (46, [(2, .inl (.int (2 : Int32))), (0, .inl (.ref 49)), (1, .inl (.ref 1000003))], [.inl (.int (x21 + (2 : Int32))), .inl (.ref 64)], h, 0, 0)))
          obtain ⟨x23, g23, e23, l23, u23⟩ := hi_val (i := ((x21 + (2 : Int32))).toInt.toNat) ok.1 t20 (by show _ < 250; omega) rfl
          have l23 : (0 : Int) ≤ x23.toInt := l23
          have u23 : x23.toInt ≤ (255 : Int) := u23
          refine g_iald HW rfl ok.1 t20 rfl (by omega) g23 ?_
          refine zrn_ok HW 4 (zbr_ex (cd := .eq) (x := x23) (y := (105 : Int32)) (fun hc24 => zB_iff.mpr ?_) (fun hc24 => zB_iff.mpr ?_))
          · -- pc 57
            have i24 : x23.toInt = (105 : Int) := zop_int.mp hc24
            refine zrn_ok HW 7 (zB_iff.mpr (?_ : G (37, [(2, .inl (.int (3 : Int32))), (0, .inl (.ref 49)), (1, .inl (.ref 1000003))], [.inl (.ref 49)], h, 0, 0)))
            have o26 : hget h 49 6 = some (.inl (.ref 64)) := ((ok.2.1.2.1 49 5 hq_q (Or.inl rfl)).1.1 (6, 15, 18) (by decide +kernel)).1
            have t26 : T[64]? = some 18 := ((ok.2.1.2.1 49 5 hq_q (Or.inl rfl)).1.1 (6, 15, 18) (by decide +kernel)).2
            refine g_getf HW rfl ok.1 hq_q rfl o26 ?_
            refine zrn_ok HW 1 (zB_iff.mpr (?_ : G (41, [(2, .inl (.int (3 : Int32))), (0, .inl (.ref 49)), (1, .inl (.ref 1000003))], [.inl (.ref 49), .inl (.ref 64)], h, 0, 0)))
            obtain ⟨x27, g27, e27, l27, u27⟩ := hi_val (i := 30) ok.1 hq_q (by decide) rfl
            have l27 : (0 : Int) ≤ x27.toInt := l27
            have u27 : x27.toInt ≤ (250 : Int) := u27
            refine g_getf HW rfl ok.1 hq_q rfl g27 ?_
            have y28 : -2147483648 ≤ x27.toInt + (3 : Int) → x27.toInt + (3 : Int) ≤ 2147483647 → (x27 + (3 : Int32)).toInt = x27.toInt + (3 : Int) := t_addC (x := x27) (y := (3 : Int32))
            refine zrn_ok HW 2 (zB_iff.mpr (?_ : G (46, [(2, .inl (.int (3 : Int32))), (0, .inl (.ref 49)), (1, .inl (.ref 1000003))], [.inl (.int (x27 + (3 : Int32))), .inl (.ref 64)], h, 0, 0)))
            obtain ⟨x29, g29, e29, l29, u29⟩ := hi_val (i := ((x27 + (3 : Int32))).toInt.toNat) ok.1 t26 (by show _ < 250; omega) rfl
            have l29 : (0 : Int) ≤ x29.toInt := l29
            have u29 : x29.toInt ≤ (255 : Int) := u29
            refine g_iald HW rfl ok.1 t26 rfl (by omega) g29 ?_
            refine zrn_ok HW 4 (zbr_ex (cd := .eq) (x := x29) (y := (110 : Int32)) (fun hc30 => zB_iff.mpr ?_) (fun hc30 => zB_iff.mpr ?_))
            · -- pc 57
              have i30 : x29.toInt = (110 : Int) := zop_int.mp hc30
              refine zrn_ok HW 7 (zB_iff.mpr (?_ : G (37, [(2, .inl (.int (4 : Int32))), (0, .inl (.ref 49)), (1, .inl (.ref 1000003))], [.inl (.ref 49)], h, 0, 0)))
              have o32 : hget h 49 6 = some (.inl (.ref 64)) := ((ok.2.1.2.1 49 5 hq_q (Or.inl rfl)).1.1 (6, 15, 18) (by decide +kernel)).1
              have t32 : T[64]? = some 18 := ((ok.2.1.2.1 49 5 hq_q (Or.inl rfl)).1.1 (6, 15, 18) (by decide +kernel)).2
              refine g_getf HW rfl ok.1 hq_q rfl o32 ?_
              refine zrn_ok HW 1 (zB_iff.mpr (?_ : G (41, [(2, .inl (.int (4 : Int32))), (0, .inl (.ref 49)), (1, .inl (.ref 1000003))], [.inl (.ref 49), .inl (.ref 64)], h, 0, 0)))
              obtain ⟨x33, g33, e33, l33, u33⟩ := hi_val (i := 30) ok.1 hq_q (by decide) rfl
              have l33 : (0 : Int) ≤ x33.toInt := l33
              have u33 : x33.toInt ≤ (250 : Int) := u33
              refine g_getf HW rfl ok.1 hq_q rfl g33 ?_
              have y34 : -2147483648 ≤ x33.toInt + (4 : Int) → x33.toInt + (4 : Int) ≤ 2147483647 → (x33 + (4 : Int32)).toInt = x33.toInt + (4 : Int) := t_addC (x := x33) (y := (4 : Int32))
              refine zrn_ok HW 2 (zB_iff.mpr (?_ : G (46, [(2, .inl (.int (4 : Int32))), (0, .inl (.ref 49)), (1, .inl (.ref 1000003))], [.inl (.int (x33 + (4 : Int32))), .inl (.ref 64)], h, 0, 0)))
              obtain ⟨x35, g35, e35, l35, u35⟩ := hi_val (i := ((x33 + (4 : Int32))).toInt.toNat) ok.1 t32 (by show _ < 250; omega) rfl
              have l35 : (0 : Int) ≤ x35.toInt := l35
              have u35 : x35.toInt ≤ (255 : Int) := u35
              refine g_iald HW rfl ok.1 t32 rfl (by omega) g35 ?_
              refine zrn_ok HW 4 (zbr_ex (cd := .eq) (x := x35) (y := (103 : Int32)) (fun hc36 => zB_iff.mpr ?_) (fun hc36 => zB_iff.mpr ?_))
              · -- pc 57
                have i36 : x35.toInt = (103 : Int) := zop_int.mp hc36
                refine zrn_ok HW 8 ?_
                exact zret_z rfl rfl (k1 (by omega))
              · -- pc 55
                have i36 : ¬ (x35.toInt = (103 : Int)) := fun e => hc36 (zop_int.mpr e)
                refine zrn_ok HW 2 ?_
                exact zret_z rfl rfl k0
            · -- pc 55
              have i30 : ¬ (x29.toInt = (110 : Int)) := fun e => hc30 (zop_int.mpr e)
              refine zrn_ok HW 2 ?_
              exact zret_z rfl rfl k0
          · -- pc 55
            have i24 : ¬ (x23.toInt = (105 : Int)) := fun e => hc24 (zop_int.mpr e)
            refine zrn_ok HW 2 ?_
            exact zret_z rfl rfl k0
        · -- pc 55
          have i18 : ¬ (x17.toInt = (104 : Int)) := fun e => hc18 (zop_int.mpr e)
          refine zrn_ok HW 2 ?_
          exact zret_z rfl rfl k0
      · -- pc 55
        have i12 : ¬ (x11.toInt = (116 : Int)) := fun e => hc12 (zop_int.mpr e)
        refine zrn_ok HW 2 ?_
        exact zret_z rfl rfl k0
    · -- pc 24
      have i6 : ¬ ((x3 - x4).toInt = (5 : Int)) := fun e => hc6 (zop_int.mpr e)
      refine zrn_ok HW 2 ?_
      exact zret_z rfl rfl k0
theorem c_isWord4 {P : pP} {N : Nat} {scr : List zV} {d : Nat} {T : List Nat} {h : zH} {post : Option zV → zH → Bool} (ok : wOK (zPhi P) N T h) (k1 : hi h 49 29 = 1 → post (some (.inl (.int 1))) h = true) (k0 : post (some (.inl (.int 0))) h = true) : zD zprog scr (d + 1) 21 [.inl (.ref 49), .inl (.ref 1000004)] h post = true := by
  have hq_q := ok.2.1.1.2.2.1
  refine zD_intro (E := ze_X5_isWord) rfl rfl (fun G HW => ?_)
  refine zrn_ok HW 1 (zB_iff.mpr (?_ : G (1, [(0, .inl (.ref 49)), (1, .inl (.ref 1000004))], [.inl (.ref 49)], h, 0, 0)))
  obtain ⟨x1, g1, e1, l1, u1⟩ := hi_val (i := 29) ok.1 hq_q (by decide) rfl
  have l1 : (0 : Int) ≤ x1.toInt := l1
  have u1 : x1.toInt ≤ (4 : Int) := u1
  refine g_getf HW rfl ok.1 hq_q rfl g1 ?_
  refine zrn_ok HW 2 (zbr_ex (cd := .ne) (x := x1) (y := (1 : Int32)) (fun hc2 => zB_iff.mpr ?_) (fun hc2 => zB_iff.mpr ?_))
  · -- pc 24
    have i2 : ¬ x1.toInt = (1 : Int) := zop_int.mp hc2
    refine zrn_ok HW 2 ?_
    exact zret_z rfl rfl k0
  · -- pc 8
    have i2 : ¬ (¬ x1.toInt = (1 : Int)) := fun e => hc2 (zop_int.mpr e)
    refine zrn_ok HW 1 (zB_iff.mpr (?_ : G (9, [(0, .inl (.ref 49)), (1, .inl (.ref 1000004))], [.inl (.ref 49)], h, 0, 0)))
    obtain ⟨x3, g3, e3, l3, u3⟩ := hi_val (i := 28) ok.1 hq_q (by decide) rfl
    have l3 : (0 : Int) ≤ x3.toInt := l3
    have u3 : x3.toInt ≤ (250 : Int) := u3
    refine g_getf HW rfl ok.1 hq_q rfl g3 ?_
    refine zrn_ok HW 1 (zB_iff.mpr (?_ : G (13, [(0, .inl (.ref 49)), (1, .inl (.ref 1000004))], [.inl (.ref 49), .inl (.int x3)], h, 0, 0)))
    obtain ⟨x4, g4, e4, l4, u4⟩ := hi_val (i := 30) ok.1 hq_q (by decide) rfl
    have l4 : (0 : Int) ≤ x4.toInt := l4
    have u4 : x4.toInt ≤ (250 : Int) := u4
    refine g_getf HW rfl ok.1 hq_q rfl g4 ?_
    have y5 : -2147483648 ≤ x3.toInt - x4.toInt → x3.toInt - x4.toInt ≤ 2147483647 → (x3 - x4).toInt = x3.toInt - x4.toInt := t_subC (x := x3) (y := x4)
    refine zrn_ok HW 4 (zbr_ex (cd := .eq) (x := (x3 - x4)) (y := (5 : Int32)) (fun hc6 => zB_iff.mpr ?_) (fun hc6 => zB_iff.mpr ?_))
    · -- pc 26
      have i6 : (x3 - x4).toInt = (5 : Int) := zop_int.mp hc6
      refine zrn_ok HW 7 (zB_iff.mpr (?_ : G (37, [(2, .inl (.int (0 : Int32))), (0, .inl (.ref 49)), (1, .inl (.ref 1000004))], [.inl (.ref 49)], h, 0, 0)))
      have o8 : hget h 49 6 = some (.inl (.ref 64)) := ((ok.2.1.2.1 49 5 hq_q (Or.inl rfl)).1.1 (6, 15, 18) (by decide +kernel)).1
      have t8 : T[64]? = some 18 := ((ok.2.1.2.1 49 5 hq_q (Or.inl rfl)).1.1 (6, 15, 18) (by decide +kernel)).2
      refine g_getf HW rfl ok.1 hq_q rfl o8 ?_
      refine zrn_ok HW 1 (zB_iff.mpr (?_ : G (41, [(2, .inl (.int (0 : Int32))), (0, .inl (.ref 49)), (1, .inl (.ref 1000004))], [.inl (.ref 49), .inl (.ref 64)], h, 0, 0)))
      obtain ⟨x9, g9, e9, l9, u9⟩ := hi_val (i := 30) ok.1 hq_q (by decide) rfl
      have l9 : (0 : Int) ≤ x9.toInt := l9
      have u9 : x9.toInt ≤ (250 : Int) := u9
      refine g_getf HW rfl ok.1 hq_q rfl g9 ?_
      have y10 : -2147483648 ≤ x9.toInt + (0 : Int) → x9.toInt + (0 : Int) ≤ 2147483647 → (x9 + (0 : Int32)).toInt = x9.toInt + (0 : Int) := t_addC (x := x9) (y := (0 : Int32))
      refine zrn_ok HW 2 (zB_iff.mpr (?_ : G (46, [(2, .inl (.int (0 : Int32))), (0, .inl (.ref 49)), (1, .inl (.ref 1000004))], [.inl (.int (x9 + (0 : Int32))), .inl (.ref 64)], h, 0, 0)))
      obtain ⟨x11, g11, e11, l11, u11⟩ := hi_val (i := ((x9 + (0 : Int32))).toInt.toNat) ok.1 t8 (by show _ < 250; omega) rfl
      have l11 : (0 : Int) ≤ x11.toInt := l11
      have u11 : x11.toInt ≤ (255 : Int) := u11
      refine g_iald HW rfl ok.1 t8 rfl (by omega) g11 ?_
      refine zrn_ok HW 4 (zbr_ex (cd := .eq) (x := x11) (y := (98 : Int32)) (fun hc12 => zB_iff.mpr ?_) (fun hc12 => zB_iff.mpr ?_))
      · -- pc 57
        have i12 : x11.toInt = (98 : Int) := zop_int.mp hc12
        refine zrn_ok HW 7 (zB_iff.mpr (?_ : G (37, [(2, .inl (.int (1 : Int32))), (0, .inl (.ref 49)), (1, .inl (.ref 1000004))], [.inl (.ref 49)], h, 0, 0)))
        have o14 : hget h 49 6 = some (.inl (.ref 64)) := ((ok.2.1.2.1 49 5 hq_q (Or.inl rfl)).1.1 (6, 15, 18) (by decide +kernel)).1
        have t14 : T[64]? = some 18 := ((ok.2.1.2.1 49 5 hq_q (Or.inl rfl)).1.1 (6, 15, 18) (by decide +kernel)).2
        refine g_getf HW rfl ok.1 hq_q rfl o14 ?_
        refine zrn_ok HW 1 (zB_iff.mpr (?_ : G (41, [(2, .inl (.int (1 : Int32))), (0, .inl (.ref 49)), (1, .inl (.ref 1000004))], [.inl (.ref 49), .inl (.ref 64)], h, 0, 0)))
        obtain ⟨x15, g15, e15, l15, u15⟩ := hi_val (i := 30) ok.1 hq_q (by decide) rfl
        have l15 : (0 : Int) ≤ x15.toInt := l15
        have u15 : x15.toInt ≤ (250 : Int) := u15
        refine g_getf HW rfl ok.1 hq_q rfl g15 ?_
        have y16 : -2147483648 ≤ x15.toInt + (1 : Int) → x15.toInt + (1 : Int) ≤ 2147483647 → (x15 + (1 : Int32)).toInt = x15.toInt + (1 : Int) := t_addC (x := x15) (y := (1 : Int32))
        refine zrn_ok HW 2 (zB_iff.mpr (?_ : G (46, [(2, .inl (.int (1 : Int32))), (0, .inl (.ref 49)), (1, .inl (.ref 1000004))], [.inl (.int (x15 + (1 : Int32))), .inl (.ref 64)], h, 0, 0)))
        obtain ⟨x17, g17, e17, l17, u17⟩ := hi_val (i := ((x15 + (1 : Int32))).toInt.toNat) ok.1 t14 (by show _ < 250; omega) rfl
        have l17 : (0 : Int) ≤ x17.toInt := l17
        have u17 : x17.toInt ≤ (255 : Int) := u17
        refine g_iald HW rfl ok.1 t14 rfl (by omega) g17 ?_
        refine zrn_ok HW 4 (zbr_ex (cd := .eq) (x := x17) (y := (117 : Int32)) (fun hc18 => zB_iff.mpr ?_) (fun hc18 => zB_iff.mpr ?_))
        · -- pc 57
          have i18 : x17.toInt = (117 : Int) := zop_int.mp hc18
          refine zrn_ok HW 7 (zB_iff.mpr (?_ : G (37, [(2, .inl (.int (2 : Int32))), (0, .inl (.ref 49)), (1, .inl (.ref 1000004))], [.inl (.ref 49)], h, 0, 0)))
          have o20 : hget h 49 6 = some (.inl (.ref 64)) := ((ok.2.1.2.1 49 5 hq_q (Or.inl rfl)).1.1 (6, 15, 18) (by decide +kernel)).1
          have t20 : T[64]? = some 18 := ((ok.2.1.2.1 49 5 hq_q (Or.inl rfl)).1.1 (6, 15, 18) (by decide +kernel)).2
          refine g_getf HW rfl ok.1 hq_q rfl o20 ?_
          refine zrn_ok HW 1 (zB_iff.mpr (?_ : G (41, [(2, .inl (.int (2 : Int32))), (0, .inl (.ref 49)), (1, .inl (.ref 1000004))], [.inl (.ref 49), .inl (.ref 64)], h, 0, 0)))
          obtain ⟨x21, g21, e21, l21, u21⟩ := hi_val (i := 30) ok.1 hq_q (by decide) rfl
          have l21 : (0 : Int) ≤ x21.toInt := l21
          have u21 : x21.toInt ≤ (250 : Int) := u21
          refine g_getf HW rfl ok.1 hq_q rfl g21 ?_
          have y22 : -2147483648 ≤ x21.toInt + (2 : Int) → x21.toInt + (2 : Int) ≤ 2147483647 → (x21 + (2 : Int32)).toInt = x21.toInt + (2 : Int) := t_addC (x := x21) (y := (2 : Int32))
          refine zrn_ok HW 2 (zB_iff.mpr (?_ : G (46, [(2, .inl (.int (2 : Int32))), (0, .inl (.ref 49)), (1, .inl (.ref 1000004))], [.inl (.int (x21 + (2 : Int32))), .inl (.ref 64)], h, 0, 0)))
          obtain ⟨x23, g23, e23, l23, u23⟩ := hi_val (i := ((x21 + (2 : Int32))).toInt.toNat) ok.1 t20 (by show _ < 250; omega) rfl
          have l23 : (0 : Int) ≤ x23.toInt := l23
          have u23 : x23.toInt ≤ (255 : Int) := u23
          refine g_iald HW rfl ok.1 t20 rfl (by omega) g23 ?_
          refine zrn_ok HW 4 (zbr_ex (cd := .eq) (x := x23) (y := (121 : Int32)) (fun hc24 => zB_iff.mpr ?_) (fun hc24 => zB_iff.mpr ?_))
          · -- pc 57
            have i24 : x23.toInt = (121 : Int) := zop_int.mp hc24
            refine zrn_ok HW 7 (zB_iff.mpr (?_ : G (37, [(2, .inl (.int (3 : Int32))), (0, .inl (.ref 49)), (1, .inl (.ref 1000004))], [.inl (.ref 49)], h, 0, 0)))
            have o26 : hget h 49 6 = some (.inl (.ref 64)) := ((ok.2.1.2.1 49 5 hq_q (Or.inl rfl)).1.1 (6, 15, 18) (by decide +kernel)).1
            have t26 : T[64]? = some 18 := ((ok.2.1.2.1 49 5 hq_q (Or.inl rfl)).1.1 (6, 15, 18) (by decide +kernel)).2
            refine g_getf HW rfl ok.1 hq_q rfl o26 ?_
            refine zrn_ok HW 1 (zB_iff.mpr (?_ : G (41, [(2, .inl (.int (3 : Int32))), (0, .inl (.ref 49)), (1, .inl (.ref 1000004))], [.inl (.ref 49), .inl (.ref 64)], h, 0, 0)))
            obtain ⟨x27, g27, e27, l27, u27⟩ := hi_val (i := 30) ok.1 hq_q (by decide) rfl
            have l27 : (0 : Int) ≤ x27.toInt := l27
            have u27 : x27.toInt ≤ (250 : Int) := u27
            refine g_getf HW rfl ok.1 hq_q rfl g27 ?_
            have y28 : -2147483648 ≤ x27.toInt + (3 : Int) → x27.toInt + (3 : Int) ≤ 2147483647 → (x27 + (3 : Int32)).toInt = x27.toInt + (3 : Int) := t_addC (x := x27) (y := (3 : Int32))
            refine zrn_ok HW 2 (zB_iff.mpr (?_ : G (46, [(2, .inl (.int (3 : Int32))), (0, .inl (.ref 49)), (1, .inl (.ref 1000004))], [.inl (.int (x27 + (3 : Int32))), .inl (.ref 64)], h, 0, 0)))
            obtain ⟨x29, g29, e29, l29, u29⟩ := hi_val (i := ((x27 + (3 : Int32))).toInt.toNat) ok.1 t26 (by show _ < 250; omega) rfl
            have l29 : (0 : Int) ≤ x29.toInt := l29
            have u29 : x29.toInt ≤ (255 : Int) := u29
            refine g_iald HW rfl ok.1 t26 rfl (by omega) g29 ?_
            refine zrn_ok HW 4 (zbr_ex (cd := .eq) (x := x29) (y := (101 : Int32)) (fun hc30 => zB_iff.mpr ?_) (fun hc30 => zB_iff.mpr ?_))
            · -- pc 57
              have i30 : x29.toInt = (101 : Int) := zop_int.mp hc30
              refine zrn_ok HW 7 (zB_iff.mpr (?_ : G (37, [(2, .inl (.int (4 : Int32))), (0, .inl (.ref 49)), (1, .inl (.ref 1000004))], [.inl (.ref 49)], h, 0, 0)))
              have o32 : hget h 49 6 = some (.inl (.ref 64)) := ((ok.2.1.2.1 49 5 hq_q (Or.inl rfl)).1.1 (6, 15, 18) (by decide +kernel)).1
              have t32 : T[64]? = some 18 := ((ok.2.1.2.1 49 5 hq_q (Or.inl rfl)).1.1 (6, 15, 18) (by decide +kernel)).2
              refine g_getf HW rfl ok.1 hq_q rfl o32 ?_
              refine zrn_ok HW 1 (zB_iff.mpr (?_ : G (41, [(2, .inl (.int (4 : Int32))), (0, .inl (.ref 49)), (1, .inl (.ref 1000004))], [.inl (.ref 49), .inl (.ref 64)], h, 0, 0)))
              obtain ⟨x33, g33, e33, l33, u33⟩ := hi_val (i := 30) ok.1 hq_q (by decide) rfl
              have l33 : (0 : Int) ≤ x33.toInt := l33
              have u33 : x33.toInt ≤ (250 : Int) := u33
              refine g_getf HW rfl ok.1 hq_q rfl g33 ?_
              have y34 : -2147483648 ≤ x33.toInt + (4 : Int) → x33.toInt + (4 : Int) ≤ 2147483647 → (x33 + (4 : Int32)).toInt = x33.toInt + (4 : Int) := t_addC (x := x33) (y := (4 : Int32))
              refine zrn_ok HW 2 (zB_iff.mpr (?_ : G (46, [(2, .inl (.int (4 : Int32))), (0, .inl (.ref 49)), (1, .inl (.ref 1000004))], [.inl (.int (x33 + (4 : Int32))), .inl (.ref 64)], h, 0, 0)))
              obtain ⟨x35, g35, e35, l35, u35⟩ := hi_val (i := ((x33 + (4 : Int32))).toInt.toNat) ok.1 t32 (by show _ < 250; omega) rfl
              have l35 : (0 : Int) ≤ x35.toInt := l35
              have u35 : x35.toInt ≤ (255 : Int) := u35
              refine g_iald HW rfl ok.1 t32 rfl (by omega) g35 ?_
              refine zrn_ok HW 4 (zbr_ex (cd := .eq) (x := x35) (y := (114 : Int32)) (fun hc36 => zB_iff.mpr ?_) (fun hc36 => zB_iff.mpr ?_))
              · -- pc 57
                have i36 : x35.toInt = (114 : Int) := zop_int.mp hc36
                refine zrn_ok HW 8 ?_
                exact zret_z rfl rfl (k1 (by omega))
              · -- pc 55
                have i36 : ¬ (x35.toInt = (114 : Int)) := fun e => hc36 (zop_int.mpr e)
                refine zrn_ok HW 2 ?_
                exact zret_z rfl rfl k0
            · -- pc 55
              have i30 : ¬ (x29.toInt = (101 : Int)) := fun e => hc30 (zop_int.mpr e)
              refine zrn_ok HW 2 ?_
              exact zret_z rfl rfl k0
          · -- pc 55
            have i24 : ¬ (x23.toInt = (121 : Int)) := fun e => hc24 (zop_int.mpr e)
            refine zrn_ok HW 2 ?_
            exact zret_z rfl rfl k0
        · -- pc 55
          have i18 : ¬ (x17.toInt = (117 : Int)) := fun e => hc18 (zop_int.mpr e)
          refine zrn_ok HW 2 ?_
          exact zret_z rfl rfl k0
      · -- pc 55
        have i12 : ¬ (x11.toInt = (98 : Int)) := fun e => hc12 (zop_int.mpr e)
        refine zrn_ok HW 2 ?_
        exact zret_z rfl rfl k0
    · -- pc 24
      have i6 : ¬ ((x3 - x4).toInt = (5 : Int)) := fun e => hc6 (zop_int.mpr e)
      refine zrn_ok HW 2 ?_
      exact zret_z rfl rfl k0
theorem c_isWord5 {P : pP} {N : Nat} {scr : List zV} {d : Nat} {T : List Nat} {h : zH} {post : Option zV → zH → Bool} (ok : wOK (zPhi P) N T h) (k1 : hi h 49 29 = 1 → post (some (.inl (.int 1))) h = true) (k0 : post (some (.inl (.int 0))) h = true) : zD zprog scr (d + 1) 21 [.inl (.ref 49), .inl (.ref 1000005)] h post = true := by
  have hq_q := ok.2.1.1.2.2.1
  refine zD_intro (E := ze_X5_isWord) rfl rfl (fun G HW => ?_)
  refine zrn_ok HW 1 (zB_iff.mpr (?_ : G (1, [(0, .inl (.ref 49)), (1, .inl (.ref 1000005))], [.inl (.ref 49)], h, 0, 0)))
  obtain ⟨x1, g1, e1, l1, u1⟩ := hi_val (i := 29) ok.1 hq_q (by decide) rfl
  have l1 : (0 : Int) ≤ x1.toInt := l1
  have u1 : x1.toInt ≤ (4 : Int) := u1
  refine g_getf HW rfl ok.1 hq_q rfl g1 ?_
  refine zrn_ok HW 2 (zbr_ex (cd := .ne) (x := x1) (y := (1 : Int32)) (fun hc2 => zB_iff.mpr ?_) (fun hc2 => zB_iff.mpr ?_))
  · -- pc 24
    have i2 : ¬ x1.toInt = (1 : Int) := zop_int.mp hc2
    refine zrn_ok HW 2 ?_
    exact zret_z rfl rfl k0
  · -- pc 8
    have i2 : ¬ (¬ x1.toInt = (1 : Int)) := fun e => hc2 (zop_int.mpr e)
    refine zrn_ok HW 1 (zB_iff.mpr (?_ : G (9, [(0, .inl (.ref 49)), (1, .inl (.ref 1000005))], [.inl (.ref 49)], h, 0, 0)))
    obtain ⟨x3, g3, e3, l3, u3⟩ := hi_val (i := 28) ok.1 hq_q (by decide) rfl
    have l3 : (0 : Int) ≤ x3.toInt := l3
    have u3 : x3.toInt ≤ (250 : Int) := u3
    refine g_getf HW rfl ok.1 hq_q rfl g3 ?_
    refine zrn_ok HW 1 (zB_iff.mpr (?_ : G (13, [(0, .inl (.ref 49)), (1, .inl (.ref 1000005))], [.inl (.ref 49), .inl (.int x3)], h, 0, 0)))
    obtain ⟨x4, g4, e4, l4, u4⟩ := hi_val (i := 30) ok.1 hq_q (by decide) rfl
    have l4 : (0 : Int) ≤ x4.toInt := l4
    have u4 : x4.toInt ≤ (250 : Int) := u4
    refine g_getf HW rfl ok.1 hq_q rfl g4 ?_
    have y5 : -2147483648 ≤ x3.toInt - x4.toInt → x3.toInt - x4.toInt ≤ 2147483647 → (x3 - x4).toInt = x3.toInt - x4.toInt := t_subC (x := x3) (y := x4)
    refine zrn_ok HW 4 (zbr_ex (cd := .eq) (x := (x3 - x4)) (y := (5 : Int32)) (fun hc6 => zB_iff.mpr ?_) (fun hc6 => zB_iff.mpr ?_))
    · -- pc 26
      have i6 : (x3 - x4).toInt = (5 : Int) := zop_int.mp hc6
      refine zrn_ok HW 7 (zB_iff.mpr (?_ : G (37, [(2, .inl (.int (0 : Int32))), (0, .inl (.ref 49)), (1, .inl (.ref 1000005))], [.inl (.ref 49)], h, 0, 0)))
      have o8 : hget h 49 6 = some (.inl (.ref 64)) := ((ok.2.1.2.1 49 5 hq_q (Or.inl rfl)).1.1 (6, 15, 18) (by decide +kernel)).1
      have t8 : T[64]? = some 18 := ((ok.2.1.2.1 49 5 hq_q (Or.inl rfl)).1.1 (6, 15, 18) (by decide +kernel)).2
      refine g_getf HW rfl ok.1 hq_q rfl o8 ?_
      refine zrn_ok HW 1 (zB_iff.mpr (?_ : G (41, [(2, .inl (.int (0 : Int32))), (0, .inl (.ref 49)), (1, .inl (.ref 1000005))], [.inl (.ref 49), .inl (.ref 64)], h, 0, 0)))
      obtain ⟨x9, g9, e9, l9, u9⟩ := hi_val (i := 30) ok.1 hq_q (by decide) rfl
      have l9 : (0 : Int) ≤ x9.toInt := l9
      have u9 : x9.toInt ≤ (250 : Int) := u9
      refine g_getf HW rfl ok.1 hq_q rfl g9 ?_
      have y10 : -2147483648 ≤ x9.toInt + (0 : Int) → x9.toInt + (0 : Int) ≤ 2147483647 → (x9 + (0 : Int32)).toInt = x9.toInt + (0 : Int) := t_addC (x := x9) (y := (0 : Int32))
      refine zrn_ok HW 2 (zB_iff.mpr (?_ : G (46, [(2, .inl (.int (0 : Int32))), (0, .inl (.ref 49)), (1, .inl (.ref 1000005))], [.inl (.int (x9 + (0 : Int32))), .inl (.ref 64)], h, 0, 0)))
      obtain ⟨x11, g11, e11, l11, u11⟩ := hi_val (i := ((x9 + (0 : Int32))).toInt.toNat) ok.1 t8 (by show _ < 250; omega) rfl
      have l11 : (0 : Int) ≤ x11.toInt := l11
      have u11 : x11.toInt ≤ (255 : Int) := u11
      refine g_iald HW rfl ok.1 t8 rfl (by omega) g11 ?_
      refine zrn_ok HW 4 (zbr_ex (cd := .eq) (x := x11) (y := (108 : Int32)) (fun hc12 => zB_iff.mpr ?_) (fun hc12 => zB_iff.mpr ?_))
      · -- pc 57
        have i12 : x11.toInt = (108 : Int) := zop_int.mp hc12
        refine zrn_ok HW 7 (zB_iff.mpr (?_ : G (37, [(2, .inl (.int (1 : Int32))), (0, .inl (.ref 49)), (1, .inl (.ref 1000005))], [.inl (.ref 49)], h, 0, 0)))
        have o14 : hget h 49 6 = some (.inl (.ref 64)) := ((ok.2.1.2.1 49 5 hq_q (Or.inl rfl)).1.1 (6, 15, 18) (by decide +kernel)).1
        have t14 : T[64]? = some 18 := ((ok.2.1.2.1 49 5 hq_q (Or.inl rfl)).1.1 (6, 15, 18) (by decide +kernel)).2
        refine g_getf HW rfl ok.1 hq_q rfl o14 ?_
        refine zrn_ok HW 1 (zB_iff.mpr (?_ : G (41, [(2, .inl (.int (1 : Int32))), (0, .inl (.ref 49)), (1, .inl (.ref 1000005))], [.inl (.ref 49), .inl (.ref 64)], h, 0, 0)))
        obtain ⟨x15, g15, e15, l15, u15⟩ := hi_val (i := 30) ok.1 hq_q (by decide) rfl
        have l15 : (0 : Int) ≤ x15.toInt := l15
        have u15 : x15.toInt ≤ (250 : Int) := u15
        refine g_getf HW rfl ok.1 hq_q rfl g15 ?_
        have y16 : -2147483648 ≤ x15.toInt + (1 : Int) → x15.toInt + (1 : Int) ≤ 2147483647 → (x15 + (1 : Int32)).toInt = x15.toInt + (1 : Int) := t_addC (x := x15) (y := (1 : Int32))
        refine zrn_ok HW 2 (zB_iff.mpr (?_ : G (46, [(2, .inl (.int (1 : Int32))), (0, .inl (.ref 49)), (1, .inl (.ref 1000005))], [.inl (.int (x15 + (1 : Int32))), .inl (.ref 64)], h, 0, 0)))
        obtain ⟨x17, g17, e17, l17, u17⟩ := hi_val (i := ((x15 + (1 : Int32))).toInt.toNat) ok.1 t14 (by show _ < 250; omega) rfl
        have l17 : (0 : Int) ≤ x17.toInt := l17
        have u17 : x17.toInt ≤ (255 : Int) := u17
        refine g_iald HW rfl ok.1 t14 rfl (by omega) g17 ?_
        refine zrn_ok HW 4 (zbr_ex (cd := .eq) (x := x17) (y := (105 : Int32)) (fun hc18 => zB_iff.mpr ?_) (fun hc18 => zB_iff.mpr ?_))
        · -- pc 57
          have i18 : x17.toInt = (105 : Int) := zop_int.mp hc18
          refine zrn_ok HW 7 (zB_iff.mpr (?_ : G (37, [(2, .inl (.int (2 : Int32))), (0, .inl (.ref 49)), (1, .inl (.ref 1000005))], [.inl (.ref 49)], h, 0, 0)))
          have o20 : hget h 49 6 = some (.inl (.ref 64)) := ((ok.2.1.2.1 49 5 hq_q (Or.inl rfl)).1.1 (6, 15, 18) (by decide +kernel)).1
          have t20 : T[64]? = some 18 := ((ok.2.1.2.1 49 5 hq_q (Or.inl rfl)).1.1 (6, 15, 18) (by decide +kernel)).2
          refine g_getf HW rfl ok.1 hq_q rfl o20 ?_
          refine zrn_ok HW 1 (zB_iff.mpr (?_ : G (41, [(2, .inl (.int (2 : Int32))), (0, .inl (.ref 49)), (1, .inl (.ref 1000005))], [.inl (.ref 49), .inl (.ref 64)], h, 0, 0)))
          obtain ⟨x21, g21, e21, l21, u21⟩ := hi_val (i := 30) ok.1 hq_q (by decide) rfl
          have l21 : (0 : Int) ≤ x21.toInt := l21
          have u21 : x21.toInt ≤ (250 : Int) := u21
          refine g_getf HW rfl ok.1 hq_q rfl g21 ?_
          have y22 : -2147483648 ≤ x21.toInt + (2 : Int) → x21.toInt + (2 : Int) ≤ 2147483647 → (x21 + (2 : Int32)).toInt = x21.toInt + (2 : Int) := t_addC (x := x21) (y := (2 : Int32))
          refine zrn_ok HW 2 (zB_iff.mpr (?_ : G (46, [(2, .inl (.int (2 : Int32))), (0, .inl (.ref 49)), (1, .inl (.ref 1000005))], [.inl (.int (x21 + (2 : Int32))), .inl (.ref 64)], h, 0, 0)))
          obtain ⟨x23, g23, e23, l23, u23⟩ := hi_val (i := ((x21 + (2 : Int32))).toInt.toNat) ok.1 t20 (by show _ < 250; omega) rfl
          have l23 : (0 : Int) ≤ x23.toInt := l23
          have u23 : x23.toInt ≤ (255 : Int) := u23
          refine g_iald HW rfl ok.1 t20 rfl (by omega) g23 ?_
          refine zrn_ok HW 4 (zbr_ex (cd := .eq) (x := x23) (y := (107 : Int32)) (fun hc24 => zB_iff.mpr ?_) (fun hc24 => zB_iff.mpr ?_))
          · -- pc 57
            have i24 : x23.toInt = (107 : Int) := zop_int.mp hc24
            refine zrn_ok HW 7 (zB_iff.mpr (?_ : G (37, [(2, .inl (.int (3 : Int32))), (0, .inl (.ref 49)), (1, .inl (.ref 1000005))], [.inl (.ref 49)], h, 0, 0)))
            have o26 : hget h 49 6 = some (.inl (.ref 64)) := ((ok.2.1.2.1 49 5 hq_q (Or.inl rfl)).1.1 (6, 15, 18) (by decide +kernel)).1
            have t26 : T[64]? = some 18 := ((ok.2.1.2.1 49 5 hq_q (Or.inl rfl)).1.1 (6, 15, 18) (by decide +kernel)).2
            refine g_getf HW rfl ok.1 hq_q rfl o26 ?_
            refine zrn_ok HW 1 (zB_iff.mpr (?_ : G (41, [(2, .inl (.int (3 : Int32))), (0, .inl (.ref 49)), (1, .inl (.ref 1000005))], [.inl (.ref 49), .inl (.ref 64)], h, 0, 0)))
            obtain ⟨x27, g27, e27, l27, u27⟩ := hi_val (i := 30) ok.1 hq_q (by decide) rfl
            have l27 : (0 : Int) ≤ x27.toInt := l27
            have u27 : x27.toInt ≤ (250 : Int) := u27
            refine g_getf HW rfl ok.1 hq_q rfl g27 ?_
            have y28 : -2147483648 ≤ x27.toInt + (3 : Int) → x27.toInt + (3 : Int) ≤ 2147483647 → (x27 + (3 : Int32)).toInt = x27.toInt + (3 : Int) := t_addC (x := x27) (y := (3 : Int32))
            refine zrn_ok HW 2 (zB_iff.mpr (?_ : G (46, [(2, .inl (.int (3 : Int32))), (0, .inl (.ref 49)), (1, .inl (.ref 1000005))], [.inl (.int (x27 + (3 : Int32))), .inl (.ref 64)], h, 0, 0)))
            obtain ⟨x29, g29, e29, l29, u29⟩ := hi_val (i := ((x27 + (3 : Int32))).toInt.toNat) ok.1 t26 (by show _ < 250; omega) rfl
            have l29 : (0 : Int) ≤ x29.toInt := l29
            have u29 : x29.toInt ≤ (255 : Int) := u29
            refine g_iald HW rfl ok.1 t26 rfl (by omega) g29 ?_
            refine zrn_ok HW 4 (zbr_ex (cd := .eq) (x := x29) (y := (101 : Int32)) (fun hc30 => zB_iff.mpr ?_) (fun hc30 => zB_iff.mpr ?_))
            · -- pc 57
              have i30 : x29.toInt = (101 : Int) := zop_int.mp hc30
              refine zrn_ok HW 7 (zB_iff.mpr (?_ : G (37, [(2, .inl (.int (4 : Int32))), (0, .inl (.ref 49)), (1, .inl (.ref 1000005))], [.inl (.ref 49)], h, 0, 0)))
              have o32 : hget h 49 6 = some (.inl (.ref 64)) := ((ok.2.1.2.1 49 5 hq_q (Or.inl rfl)).1.1 (6, 15, 18) (by decide +kernel)).1
              have t32 : T[64]? = some 18 := ((ok.2.1.2.1 49 5 hq_q (Or.inl rfl)).1.1 (6, 15, 18) (by decide +kernel)).2
              refine g_getf HW rfl ok.1 hq_q rfl o32 ?_
              refine zrn_ok HW 1 (zB_iff.mpr (?_ : G (41, [(2, .inl (.int (4 : Int32))), (0, .inl (.ref 49)), (1, .inl (.ref 1000005))], [.inl (.ref 49), .inl (.ref 64)], h, 0, 0)))
              obtain ⟨x33, g33, e33, l33, u33⟩ := hi_val (i := 30) ok.1 hq_q (by decide) rfl
              have l33 : (0 : Int) ≤ x33.toInt := l33
              have u33 : x33.toInt ≤ (250 : Int) := u33
              refine g_getf HW rfl ok.1 hq_q rfl g33 ?_
              have y34 : -2147483648 ≤ x33.toInt + (4 : Int) → x33.toInt + (4 : Int) ≤ 2147483647 → (x33 + (4 : Int32)).toInt = x33.toInt + (4 : Int) := t_addC (x := x33) (y := (4 : Int32))
              refine zrn_ok HW 2 (zB_iff.mpr (?_ : G (46, [(2, .inl (.int (4 : Int32))), (0, .inl (.ref 49)), (1, .inl (.ref 1000005))], [.inl (.int (x33 + (4 : Int32))), .inl (.ref 64)], h, 0, 0)))
              obtain ⟨x35, g35, e35, l35, u35⟩ := hi_val (i := ((x33 + (4 : Int32))).toInt.toNat) ok.1 t32 (by show _ < 250; omega) rfl
              have l35 : (0 : Int) ≤ x35.toInt := l35
              have u35 : x35.toInt ≤ (255 : Int) := u35
              refine g_iald HW rfl ok.1 t32 rfl (by omega) g35 ?_
              refine zrn_ok HW 4 (zbr_ex (cd := .eq) (x := x35) (y := (115 : Int32)) (fun hc36 => zB_iff.mpr ?_) (fun hc36 => zB_iff.mpr ?_))
              · -- pc 57
                have i36 : x35.toInt = (115 : Int) := zop_int.mp hc36
                refine zrn_ok HW 8 ?_
                exact zret_z rfl rfl (k1 (by omega))
              · -- pc 55
                have i36 : ¬ (x35.toInt = (115 : Int)) := fun e => hc36 (zop_int.mpr e)
                refine zrn_ok HW 2 ?_
                exact zret_z rfl rfl k0
            · -- pc 55
              have i30 : ¬ (x29.toInt = (101 : Int)) := fun e => hc30 (zop_int.mpr e)
              refine zrn_ok HW 2 ?_
              exact zret_z rfl rfl k0
          · -- pc 55
            have i24 : ¬ (x23.toInt = (107 : Int)) := fun e => hc24 (zop_int.mpr e)
            refine zrn_ok HW 2 ?_
            exact zret_z rfl rfl k0
        · -- pc 55
          have i18 : ¬ (x17.toInt = (105 : Int)) := fun e => hc18 (zop_int.mpr e)
          refine zrn_ok HW 2 ?_
          exact zret_z rfl rfl k0
      · -- pc 55
        have i12 : ¬ (x11.toInt = (108 : Int)) := fun e => hc12 (zop_int.mpr e)
        refine zrn_ok HW 2 ?_
        exact zret_z rfl rfl k0
    · -- pc 24
      have i6 : ¬ ((x3 - x4).toInt = (5 : Int)) := fun e => hc6 (zop_int.mpr e)
      refine zrn_ok HW 2 ?_
      exact zret_z rfl rfl k0
theorem c_isWord6 {P : pP} {N : Nat} {scr : List zV} {d : Nat} {T : List Nat} {h : zH} {post : Option zV → zH → Bool} (ok : wOK (zPhi P) N T h) (k1 : hi h 49 29 = 1 → post (some (.inl (.int 1))) h = true) (k0 : post (some (.inl (.int 0))) h = true) : zD zprog scr (d + 1) 21 [.inl (.ref 49), .inl (.ref 1000006)] h post = true := by
  have hq_q := ok.2.1.1.2.2.1
  refine zD_intro (E := ze_X5_isWord) rfl rfl (fun G HW => ?_)
  refine zrn_ok HW 1 (zB_iff.mpr (?_ : G (1, [(0, .inl (.ref 49)), (1, .inl (.ref 1000006))], [.inl (.ref 49)], h, 0, 0)))
  obtain ⟨x1, g1, e1, l1, u1⟩ := hi_val (i := 29) ok.1 hq_q (by decide) rfl
  have l1 : (0 : Int) ≤ x1.toInt := l1
  have u1 : x1.toInt ≤ (4 : Int) := u1
  refine g_getf HW rfl ok.1 hq_q rfl g1 ?_
  refine zrn_ok HW 2 (zbr_ex (cd := .ne) (x := x1) (y := (1 : Int32)) (fun hc2 => zB_iff.mpr ?_) (fun hc2 => zB_iff.mpr ?_))
  · -- pc 24
    have i2 : ¬ x1.toInt = (1 : Int) := zop_int.mp hc2
    refine zrn_ok HW 2 ?_
    exact zret_z rfl rfl k0
  · -- pc 8
    have i2 : ¬ (¬ x1.toInt = (1 : Int)) := fun e => hc2 (zop_int.mpr e)
    refine zrn_ok HW 1 (zB_iff.mpr (?_ : G (9, [(0, .inl (.ref 49)), (1, .inl (.ref 1000006))], [.inl (.ref 49)], h, 0, 0)))
    obtain ⟨x3, g3, e3, l3, u3⟩ := hi_val (i := 28) ok.1 hq_q (by decide) rfl
    have l3 : (0 : Int) ≤ x3.toInt := l3
    have u3 : x3.toInt ≤ (250 : Int) := u3
    refine g_getf HW rfl ok.1 hq_q rfl g3 ?_
    refine zrn_ok HW 1 (zB_iff.mpr (?_ : G (13, [(0, .inl (.ref 49)), (1, .inl (.ref 1000006))], [.inl (.ref 49), .inl (.int x3)], h, 0, 0)))
    obtain ⟨x4, g4, e4, l4, u4⟩ := hi_val (i := 30) ok.1 hq_q (by decide) rfl
    have l4 : (0 : Int) ≤ x4.toInt := l4
    have u4 : x4.toInt ≤ (250 : Int) := u4
    refine g_getf HW rfl ok.1 hq_q rfl g4 ?_
    have y5 : -2147483648 ≤ x3.toInt - x4.toInt → x3.toInt - x4.toInt ≤ 2147483647 → (x3 - x4).toInt = x3.toInt - x4.toInt := t_subC (x := x3) (y := x4)
    refine zrn_ok HW 4 (zbr_ex (cd := .eq) (x := (x3 - x4)) (y := (3 : Int32)) (fun hc6 => zB_iff.mpr ?_) (fun hc6 => zB_iff.mpr ?_))
    · -- pc 26
      have i6 : (x3 - x4).toInt = (3 : Int) := zop_int.mp hc6
      refine zrn_ok HW 7 (zB_iff.mpr (?_ : G (37, [(2, .inl (.int (0 : Int32))), (0, .inl (.ref 49)), (1, .inl (.ref 1000006))], [.inl (.ref 49)], h, 0, 0)))
      have o8 : hget h 49 6 = some (.inl (.ref 64)) := ((ok.2.1.2.1 49 5 hq_q (Or.inl rfl)).1.1 (6, 15, 18) (by decide +kernel)).1
      have t8 : T[64]? = some 18 := ((ok.2.1.2.1 49 5 hq_q (Or.inl rfl)).1.1 (6, 15, 18) (by decide +kernel)).2
      refine g_getf HW rfl ok.1 hq_q rfl o8 ?_
      refine zrn_ok HW 1 (zB_iff.mpr (?_ : G (41, [(2, .inl (.int (0 : Int32))), (0, .inl (.ref 49)), (1, .inl (.ref 1000006))], [.inl (.ref 49), .inl (.ref 64)], h, 0, 0)))
      obtain ⟨x9, g9, e9, l9, u9⟩ := hi_val (i := 30) ok.1 hq_q (by decide) rfl
      have l9 : (0 : Int) ≤ x9.toInt := l9
      have u9 : x9.toInt ≤ (250 : Int) := u9
      refine g_getf HW rfl ok.1 hq_q rfl g9 ?_
      have y10 : -2147483648 ≤ x9.toInt + (0 : Int) → x9.toInt + (0 : Int) ≤ 2147483647 → (x9 + (0 : Int32)).toInt = x9.toInt + (0 : Int) := t_addC (x := x9) (y := (0 : Int32))
      refine zrn_ok HW 2 (zB_iff.mpr (?_ : G (46, [(2, .inl (.int (0 : Int32))), (0, .inl (.ref 49)), (1, .inl (.ref 1000006))], [.inl (.int (x9 + (0 : Int32))), .inl (.ref 64)], h, 0, 0)))
      obtain ⟨x11, g11, e11, l11, u11⟩ := hi_val (i := ((x9 + (0 : Int32))).toInt.toNat) ok.1 t8 (by show _ < 250; omega) rfl
      have l11 : (0 : Int) ≤ x11.toInt := l11
      have u11 : x11.toInt ≤ (255 : Int) := u11
      refine g_iald HW rfl ok.1 t8 rfl (by omega) g11 ?_
      refine zrn_ok HW 4 (zbr_ex (cd := .eq) (x := x11) (y := (111 : Int32)) (fun hc12 => zB_iff.mpr ?_) (fun hc12 => zB_iff.mpr ?_))
      · -- pc 57
        have i12 : x11.toInt = (111 : Int) := zop_int.mp hc12
        refine zrn_ok HW 7 (zB_iff.mpr (?_ : G (37, [(2, .inl (.int (1 : Int32))), (0, .inl (.ref 49)), (1, .inl (.ref 1000006))], [.inl (.ref 49)], h, 0, 0)))
        have o14 : hget h 49 6 = some (.inl (.ref 64)) := ((ok.2.1.2.1 49 5 hq_q (Or.inl rfl)).1.1 (6, 15, 18) (by decide +kernel)).1
        have t14 : T[64]? = some 18 := ((ok.2.1.2.1 49 5 hq_q (Or.inl rfl)).1.1 (6, 15, 18) (by decide +kernel)).2
        refine g_getf HW rfl ok.1 hq_q rfl o14 ?_
        refine zrn_ok HW 1 (zB_iff.mpr (?_ : G (41, [(2, .inl (.int (1 : Int32))), (0, .inl (.ref 49)), (1, .inl (.ref 1000006))], [.inl (.ref 49), .inl (.ref 64)], h, 0, 0)))
        obtain ⟨x15, g15, e15, l15, u15⟩ := hi_val (i := 30) ok.1 hq_q (by decide) rfl
        have l15 : (0 : Int) ≤ x15.toInt := l15
        have u15 : x15.toInt ≤ (250 : Int) := u15
        refine g_getf HW rfl ok.1 hq_q rfl g15 ?_
        have y16 : -2147483648 ≤ x15.toInt + (1 : Int) → x15.toInt + (1 : Int) ≤ 2147483647 → (x15 + (1 : Int32)).toInt = x15.toInt + (1 : Int) := t_addC (x := x15) (y := (1 : Int32))
        refine zrn_ok HW 2 (zB_iff.mpr (?_ : G (46, [(2, .inl (.int (1 : Int32))), (0, .inl (.ref 49)), (1, .inl (.ref 1000006))], [.inl (.int (x15 + (1 : Int32))), .inl (.ref 64)], h, 0, 0)))
        obtain ⟨x17, g17, e17, l17, u17⟩ := hi_val (i := ((x15 + (1 : Int32))).toInt.toNat) ok.1 t14 (by show _ < 250; omega) rfl
        have l17 : (0 : Int) ≤ x17.toInt := l17
        have u17 : x17.toInt ≤ (255 : Int) := u17
        refine g_iald HW rfl ok.1 t14 rfl (by omega) g17 ?_
        refine zrn_ok HW 4 (zbr_ex (cd := .eq) (x := x17) (y := (117 : Int32)) (fun hc18 => zB_iff.mpr ?_) (fun hc18 => zB_iff.mpr ?_))
        · -- pc 57
          have i18 : x17.toInt = (117 : Int) := zop_int.mp hc18
          refine zrn_ok HW 7 (zB_iff.mpr (?_ : G (37, [(2, .inl (.int (2 : Int32))), (0, .inl (.ref 49)), (1, .inl (.ref 1000006))], [.inl (.ref 49)], h, 0, 0)))
          have o20 : hget h 49 6 = some (.inl (.ref 64)) := ((ok.2.1.2.1 49 5 hq_q (Or.inl rfl)).1.1 (6, 15, 18) (by decide +kernel)).1
          have t20 : T[64]? = some 18 := ((ok.2.1.2.1 49 5 hq_q (Or.inl rfl)).1.1 (6, 15, 18) (by decide +kernel)).2
          refine g_getf HW rfl ok.1 hq_q rfl o20 ?_
          refine zrn_ok HW 1 (zB_iff.mpr (?_ : G (41, [(2, .inl (.int (2 : Int32))), (0, .inl (.ref 49)), (1, .inl (.ref 1000006))], [.inl (.ref 49), .inl (.ref 64)], h, 0, 0)))
          obtain ⟨x21, g21, e21, l21, u21⟩ := hi_val (i := 30) ok.1 hq_q (by decide) rfl
          have l21 : (0 : Int) ≤ x21.toInt := l21
          have u21 : x21.toInt ≤ (250 : Int) := u21
          refine g_getf HW rfl ok.1 hq_q rfl g21 ?_
          have y22 : -2147483648 ≤ x21.toInt + (2 : Int) → x21.toInt + (2 : Int) ≤ 2147483647 → (x21 + (2 : Int32)).toInt = x21.toInt + (2 : Int) := t_addC (x := x21) (y := (2 : Int32))
          refine zrn_ok HW 2 (zB_iff.mpr (?_ : G (46, [(2, .inl (.int (2 : Int32))), (0, .inl (.ref 49)), (1, .inl (.ref 1000006))], [.inl (.int (x21 + (2 : Int32))), .inl (.ref 64)], h, 0, 0)))
          obtain ⟨x23, g23, e23, l23, u23⟩ := hi_val (i := ((x21 + (2 : Int32))).toInt.toNat) ok.1 t20 (by show _ < 250; omega) rfl
          have l23 : (0 : Int) ≤ x23.toInt := l23
          have u23 : x23.toInt ≤ (255 : Int) := u23
          refine g_iald HW rfl ok.1 t20 rfl (by omega) g23 ?_
          refine zrn_ok HW 4 (zbr_ex (cd := .eq) (x := x23) (y := (116 : Int32)) (fun hc24 => zB_iff.mpr ?_) (fun hc24 => zB_iff.mpr ?_))
          · -- pc 57
            have i24 : x23.toInt = (116 : Int) := zop_int.mp hc24
            refine zrn_ok HW 8 ?_
            exact zret_z rfl rfl (k1 (by omega))
          · -- pc 55
            have i24 : ¬ (x23.toInt = (116 : Int)) := fun e => hc24 (zop_int.mpr e)
            refine zrn_ok HW 2 ?_
            exact zret_z rfl rfl k0
        · -- pc 55
          have i18 : ¬ (x17.toInt = (117 : Int)) := fun e => hc18 (zop_int.mpr e)
          refine zrn_ok HW 2 ?_
          exact zret_z rfl rfl k0
      · -- pc 55
        have i12 : ¬ (x11.toInt = (111 : Int)) := fun e => hc12 (zop_int.mpr e)
        refine zrn_ok HW 2 ?_
        exact zret_z rfl rfl k0
    · -- pc 24
      have i6 : ¬ ((x3 - x4).toInt = (3 : Int)) := fun e => hc6 (zop_int.mpr e)
      refine zrn_ok HW 2 ?_
      exact zret_z rfl rfl k0
theorem c_isWord7 {P : pP} {N : Nat} {scr : List zV} {d : Nat} {T : List Nat} {h : zH} {post : Option zV → zH → Bool} (ok : wOK (zPhi P) N T h) (k1 : hi h 49 29 = 1 → post (some (.inl (.int 1))) h = true) (k0 : post (some (.inl (.int 0))) h = true) : zD zprog scr (d + 1) 21 [.inl (.ref 49), .inl (.ref 1000007)] h post = true := by
  have hq_q := ok.2.1.1.2.2.1
  refine zD_intro (E := ze_X5_isWord) rfl rfl (fun G HW => ?_)
  refine zrn_ok HW 1 (zB_iff.mpr (?_ : G (1, [(0, .inl (.ref 49)), (1, .inl (.ref 1000007))], [.inl (.ref 49)], h, 0, 0)))
  obtain ⟨x1, g1, e1, l1, u1⟩ := hi_val (i := 29) ok.1 hq_q (by decide) rfl
  have l1 : (0 : Int) ≤ x1.toInt := l1
  have u1 : x1.toInt ≤ (4 : Int) := u1
  refine g_getf HW rfl ok.1 hq_q rfl g1 ?_
  refine zrn_ok HW 2 (zbr_ex (cd := .ne) (x := x1) (y := (1 : Int32)) (fun hc2 => zB_iff.mpr ?_) (fun hc2 => zB_iff.mpr ?_))
  · -- pc 24
    have i2 : ¬ x1.toInt = (1 : Int) := zop_int.mp hc2
    refine zrn_ok HW 2 ?_
    exact zret_z rfl rfl k0
  · -- pc 8
    have i2 : ¬ (¬ x1.toInt = (1 : Int)) := fun e => hc2 (zop_int.mpr e)
    refine zrn_ok HW 1 (zB_iff.mpr (?_ : G (9, [(0, .inl (.ref 49)), (1, .inl (.ref 1000007))], [.inl (.ref 49)], h, 0, 0)))
    obtain ⟨x3, g3, e3, l3, u3⟩ := hi_val (i := 28) ok.1 hq_q (by decide) rfl
    have l3 : (0 : Int) ≤ x3.toInt := l3
    have u3 : x3.toInt ≤ (250 : Int) := u3
    refine g_getf HW rfl ok.1 hq_q rfl g3 ?_
    refine zrn_ok HW 1 (zB_iff.mpr (?_ : G (13, [(0, .inl (.ref 49)), (1, .inl (.ref 1000007))], [.inl (.ref 49), .inl (.int x3)], h, 0, 0)))
    obtain ⟨x4, g4, e4, l4, u4⟩ := hi_val (i := 30) ok.1 hq_q (by decide) rfl
    have l4 : (0 : Int) ≤ x4.toInt := l4
    have u4 : x4.toInt ≤ (250 : Int) := u4
    refine g_getf HW rfl ok.1 hq_q rfl g4 ?_
    have y5 : -2147483648 ≤ x3.toInt - x4.toInt → x3.toInt - x4.toInt ≤ 2147483647 → (x3 - x4).toInt = x3.toInt - x4.toInt := t_subC (x := x3) (y := x4)
    refine zrn_ok HW 4 (zbr_ex (cd := .eq) (x := (x3 - x4)) (y := (4 : Int32)) (fun hc6 => zB_iff.mpr ?_) (fun hc6 => zB_iff.mpr ?_))
    · -- pc 26
      have i6 : (x3 - x4).toInt = (4 : Int) := zop_int.mp hc6
      refine zrn_ok HW 7 (zB_iff.mpr (?_ : G (37, [(2, .inl (.int (0 : Int32))), (0, .inl (.ref 49)), (1, .inl (.ref 1000007))], [.inl (.ref 49)], h, 0, 0)))
      have o8 : hget h 49 6 = some (.inl (.ref 64)) := ((ok.2.1.2.1 49 5 hq_q (Or.inl rfl)).1.1 (6, 15, 18) (by decide +kernel)).1
      have t8 : T[64]? = some 18 := ((ok.2.1.2.1 49 5 hq_q (Or.inl rfl)).1.1 (6, 15, 18) (by decide +kernel)).2
      refine g_getf HW rfl ok.1 hq_q rfl o8 ?_
      refine zrn_ok HW 1 (zB_iff.mpr (?_ : G (41, [(2, .inl (.int (0 : Int32))), (0, .inl (.ref 49)), (1, .inl (.ref 1000007))], [.inl (.ref 49), .inl (.ref 64)], h, 0, 0)))
      obtain ⟨x9, g9, e9, l9, u9⟩ := hi_val (i := 30) ok.1 hq_q (by decide) rfl
      have l9 : (0 : Int) ≤ x9.toInt := l9
      have u9 : x9.toInt ≤ (250 : Int) := u9
      refine g_getf HW rfl ok.1 hq_q rfl g9 ?_
      have y10 : -2147483648 ≤ x9.toInt + (0 : Int) → x9.toInt + (0 : Int) ≤ 2147483647 → (x9 + (0 : Int32)).toInt = x9.toInt + (0 : Int) := t_addC (x := x9) (y := (0 : Int32))
      refine zrn_ok HW 2 (zB_iff.mpr (?_ : G (46, [(2, .inl (.int (0 : Int32))), (0, .inl (.ref 49)), (1, .inl (.ref 1000007))], [.inl (.int (x9 + (0 : Int32))), .inl (.ref 64)], h, 0, 0)))
      obtain ⟨x11, g11, e11, l11, u11⟩ := hi_val (i := ((x9 + (0 : Int32))).toInt.toNat) ok.1 t8 (by show _ < 250; omega) rfl
      have l11 : (0 : Int) ≤ x11.toInt := l11
      have u11 : x11.toInt ≤ (255 : Int) := u11
      refine g_iald HW rfl ok.1 t8 rfl (by omega) g11 ?_
      refine zrn_ok HW 4 (zbr_ex (cd := .eq) (x := x11) (y := (102 : Int32)) (fun hc12 => zB_iff.mpr ?_) (fun hc12 => zB_iff.mpr ?_))
      · -- pc 57
        have i12 : x11.toInt = (102 : Int) := zop_int.mp hc12
        refine zrn_ok HW 7 (zB_iff.mpr (?_ : G (37, [(2, .inl (.int (1 : Int32))), (0, .inl (.ref 49)), (1, .inl (.ref 1000007))], [.inl (.ref 49)], h, 0, 0)))
        have o14 : hget h 49 6 = some (.inl (.ref 64)) := ((ok.2.1.2.1 49 5 hq_q (Or.inl rfl)).1.1 (6, 15, 18) (by decide +kernel)).1
        have t14 : T[64]? = some 18 := ((ok.2.1.2.1 49 5 hq_q (Or.inl rfl)).1.1 (6, 15, 18) (by decide +kernel)).2
        refine g_getf HW rfl ok.1 hq_q rfl o14 ?_
        refine zrn_ok HW 1 (zB_iff.mpr (?_ : G (41, [(2, .inl (.int (1 : Int32))), (0, .inl (.ref 49)), (1, .inl (.ref 1000007))], [.inl (.ref 49), .inl (.ref 64)], h, 0, 0)))
        obtain ⟨x15, g15, e15, l15, u15⟩ := hi_val (i := 30) ok.1 hq_q (by decide) rfl
        have l15 : (0 : Int) ≤ x15.toInt := l15
        have u15 : x15.toInt ≤ (250 : Int) := u15
        refine g_getf HW rfl ok.1 hq_q rfl g15 ?_
        have y16 : -2147483648 ≤ x15.toInt + (1 : Int) → x15.toInt + (1 : Int) ≤ 2147483647 → (x15 + (1 : Int32)).toInt = x15.toInt + (1 : Int) := t_addC (x := x15) (y := (1 : Int32))
        refine zrn_ok HW 2 (zB_iff.mpr (?_ : G (46, [(2, .inl (.int (1 : Int32))), (0, .inl (.ref 49)), (1, .inl (.ref 1000007))], [.inl (.int (x15 + (1 : Int32))), .inl (.ref 64)], h, 0, 0)))
        obtain ⟨x17, g17, e17, l17, u17⟩ := hi_val (i := ((x15 + (1 : Int32))).toInt.toNat) ok.1 t14 (by show _ < 250; omega) rfl
        have l17 : (0 : Int) ≤ x17.toInt := l17
        have u17 : x17.toInt ≤ (255 : Int) := u17
        refine g_iald HW rfl ok.1 t14 rfl (by omega) g17 ?_
        refine zrn_ok HW 4 (zbr_ex (cd := .eq) (x := x17) (y := (105 : Int32)) (fun hc18 => zB_iff.mpr ?_) (fun hc18 => zB_iff.mpr ?_))
        · -- pc 57
          have i18 : x17.toInt = (105 : Int) := zop_int.mp hc18
          refine zrn_ok HW 7 (zB_iff.mpr (?_ : G (37, [(2, .inl (.int (2 : Int32))), (0, .inl (.ref 49)), (1, .inl (.ref 1000007))], [.inl (.ref 49)], h, 0, 0)))
          have o20 : hget h 49 6 = some (.inl (.ref 64)) := ((ok.2.1.2.1 49 5 hq_q (Or.inl rfl)).1.1 (6, 15, 18) (by decide +kernel)).1
          have t20 : T[64]? = some 18 := ((ok.2.1.2.1 49 5 hq_q (Or.inl rfl)).1.1 (6, 15, 18) (by decide +kernel)).2
          refine g_getf HW rfl ok.1 hq_q rfl o20 ?_
          refine zrn_ok HW 1 (zB_iff.mpr (?_ : G (41, [(2, .inl (.int (2 : Int32))), (0, .inl (.ref 49)), (1, .inl (.ref 1000007))], [.inl (.ref 49), .inl (.ref 64)], h, 0, 0)))
          obtain ⟨x21, g21, e21, l21, u21⟩ := hi_val (i := 30) ok.1 hq_q (by decide) rfl
          have l21 : (0 : Int) ≤ x21.toInt := l21
          have u21 : x21.toInt ≤ (250 : Int) := u21
          refine g_getf HW rfl ok.1 hq_q rfl g21 ?_
          have y22 : -2147483648 ≤ x21.toInt + (2 : Int) → x21.toInt + (2 : Int) ≤ 2147483647 → (x21 + (2 : Int32)).toInt = x21.toInt + (2 : Int) := t_addC (x := x21) (y := (2 : Int32))
          refine zrn_ok HW 2 (zB_iff.mpr (?_ : G (46, [(2, .inl (.int (2 : Int32))), (0, .inl (.ref 49)), (1, .inl (.ref 1000007))], [.inl (.int (x21 + (2 : Int32))), .inl (.ref 64)], h, 0, 0)))
          obtain ⟨x23, g23, e23, l23, u23⟩ := hi_val (i := ((x21 + (2 : Int32))).toInt.toNat) ok.1 t20 (by show _ < 250; omega) rfl
          have l23 : (0 : Int) ≤ x23.toInt := l23
          have u23 : x23.toInt ≤ (255 : Int) := u23
          refine g_iald HW rfl ok.1 t20 rfl (by omega) g23 ?_
          refine zrn_ok HW 4 (zbr_ex (cd := .eq) (x := x23) (y := (118 : Int32)) (fun hc24 => zB_iff.mpr ?_) (fun hc24 => zB_iff.mpr ?_))
          · -- pc 57
            have i24 : x23.toInt = (118 : Int) := zop_int.mp hc24
            refine zrn_ok HW 7 (zB_iff.mpr (?_ : G (37, [(2, .inl (.int (3 : Int32))), (0, .inl (.ref 49)), (1, .inl (.ref 1000007))], [.inl (.ref 49)], h, 0, 0)))
            have o26 : hget h 49 6 = some (.inl (.ref 64)) := ((ok.2.1.2.1 49 5 hq_q (Or.inl rfl)).1.1 (6, 15, 18) (by decide +kernel)).1
            have t26 : T[64]? = some 18 := ((ok.2.1.2.1 49 5 hq_q (Or.inl rfl)).1.1 (6, 15, 18) (by decide +kernel)).2
            refine g_getf HW rfl ok.1 hq_q rfl o26 ?_
            refine zrn_ok HW 1 (zB_iff.mpr (?_ : G (41, [(2, .inl (.int (3 : Int32))), (0, .inl (.ref 49)), (1, .inl (.ref 1000007))], [.inl (.ref 49), .inl (.ref 64)], h, 0, 0)))
            obtain ⟨x27, g27, e27, l27, u27⟩ := hi_val (i := 30) ok.1 hq_q (by decide) rfl
            have l27 : (0 : Int) ≤ x27.toInt := l27
            have u27 : x27.toInt ≤ (250 : Int) := u27
            refine g_getf HW rfl ok.1 hq_q rfl g27 ?_
            have y28 : -2147483648 ≤ x27.toInt + (3 : Int) → x27.toInt + (3 : Int) ≤ 2147483647 → (x27 + (3 : Int32)).toInt = x27.toInt + (3 : Int) := t_addC (x := x27) (y := (3 : Int32))
            refine zrn_ok HW 2 (zB_iff.mpr (?_ : G (46, [(2, .inl (.int (3 : Int32))), (0, .inl (.ref 49)), (1, .inl (.ref 1000007))], [.inl (.int (x27 + (3 : Int32))), .inl (.ref 64)], h, 0, 0)))
            obtain ⟨x29, g29, e29, l29, u29⟩ := hi_val (i := ((x27 + (3 : Int32))).toInt.toNat) ok.1 t26 (by show _ < 250; omega) rfl
            have l29 : (0 : Int) ≤ x29.toInt := l29
            have u29 : x29.toInt ≤ (255 : Int) := u29
            refine g_iald HW rfl ok.1 t26 rfl (by omega) g29 ?_
            refine zrn_ok HW 4 (zbr_ex (cd := .eq) (x := x29) (y := (101 : Int32)) (fun hc30 => zB_iff.mpr ?_) (fun hc30 => zB_iff.mpr ?_))
            · -- pc 57
              have i30 : x29.toInt = (101 : Int) := zop_int.mp hc30
              refine zrn_ok HW 8 ?_
              exact zret_z rfl rfl (k1 (by omega))
            · -- pc 55
              have i30 : ¬ (x29.toInt = (101 : Int)) := fun e => hc30 (zop_int.mpr e)
              refine zrn_ok HW 2 ?_
              exact zret_z rfl rfl k0
          · -- pc 55
            have i24 : ¬ (x23.toInt = (118 : Int)) := fun e => hc24 (zop_int.mpr e)
            refine zrn_ok HW 2 ?_
            exact zret_z rfl rfl k0
        · -- pc 55
          have i18 : ¬ (x17.toInt = (105 : Int)) := fun e => hc18 (zop_int.mpr e)
          refine zrn_ok HW 2 ?_
          exact zret_z rfl rfl k0
      · -- pc 55
        have i12 : ¬ (x11.toInt = (102 : Int)) := fun e => hc12 (zop_int.mpr e)
        refine zrn_ok HW 2 ?_
        exact zret_z rfl rfl k0
    · -- pc 24
      have i6 : ¬ ((x3 - x4).toInt = (4 : Int)) := fun e => hc6 (zop_int.mpr e)
      refine zrn_ok HW 2 ?_
      exact zret_z rfl rfl k0
