theorem tq_X2_isWord_0 {scr : List zV} {Φ : List Nat → zH → Prop} (hst : tStab zty 43 Φ) : tM zty Φ zprog scr zhts zsm 8 te_X2_isWord_0 := by
  refine t_hand2 (E := ze_X2_isWord) (D0 := 0) rfl rfl (by decide +kernel) (fun d T h vs post G hd hok hΦ hlen hvs hp IH HW => ?_)
  obtain ⟨v_q, vs, rfl, k_q, hvs⟩ := okAs_cons hvs
  obtain ⟨v_w, vs, rfl, k_w, hvs⟩ := okAs_cons hvs
  obtain rfl := okAs_nil hvs
  obtain ⟨q, rfl, hq_q⟩ := tref_sp rfl k_q
  have hq_q : T[q]? = some 2 := hq_q
  obtain rfl : v_w = .inl (.ref 1000000) := k_w
  have ok : wOK Φ h.length T h := ⟨hok, hΦ, Nat.le_refl _⟩
  have RET : ∀ (y : Int32) (T' : List Nat) (h' : zH), tExt T T' → wOK Φ h.length T' h' → 0 ≤ y.toInt → y.toInt ≤ 1 → post (some (.inl (.int y))) h' = true := fun y T' h' m' ok' b1 b2 => hp _ T' h' m' ok'.1 ok'.2.1 (by have := ok'.2.2; omega) ⟨_, rfl, okA_I b1 b2, fun c hc => by cases hc⟩
  refine zrn_ok HW 4 (zB_iff.mpr (?_ : G (6, [(2, .inl (.int (5 : Int32))), (0, .inl (.ref q)), (1, .inl (.ref 1000000))], [.inl (.ref q)], h, 0, 0)))
  obtain ⟨x1, g1, e1, l1, u1⟩ := hi_val (i := 2) ok.1 hq_q (by decide) rfl
  have l1 : (0 : Int) ≤ x1.toInt := l1
  have u1 : x1.toInt ≤ (5 : Int) := u1
  refine g_getf HW rfl ok.1 hq_q rfl g1 ?_
  refine zrn_ok HW 2 (zbr_ex (cd := .ne) (x := x1) (y := (1 : Int32)) (fun hc2 => zB_iff.mpr ?_) (fun hc2 => zB_iff.mpr ?_))
  · -- pc 26
    have i2 : ¬ x1.toInt = (1 : Int) := zop_int.mp hc2
    refine zrn_ok HW 2 ?_
    exact zret_z rfl rfl (RET (0 : Int32) T h (tExt_rf T) ok (by decide) (by decide))
  · -- pc 13
    have i2 : ¬ (¬ x1.toInt = (1 : Int)) := fun e => hc2 (zop_int.mpr e)
    refine zrn_ok HW 1 (zB_iff.mpr (?_ : G (14, [(2, .inl (.int (5 : Int32))), (0, .inl (.ref q)), (1, .inl (.ref 1000000))], [.inl (.ref q)], h, 0, 0)))
    obtain ⟨x3, g3, e3, l3, u3⟩ := hi_val (i := 4) ok.1 hq_q (by decide) rfl
    have l3 : (0 : Int) ≤ x3.toInt := l3
    have u3 : x3.toInt ≤ (250 : Int) := u3
    refine g_getf HW rfl ok.1 hq_q rfl g3 ?_
    refine zrn_ok HW 1 (zB_iff.mpr (?_ : G (18, [(2, .inl (.int (5 : Int32))), (0, .inl (.ref q)), (1, .inl (.ref 1000000))], [.inl (.ref q), .inl (.int x3)], h, 0, 0)))
    obtain ⟨x4, g4, e4, l4, u4⟩ := hi_val (i := 3) ok.1 hq_q (by decide) rfl
    have l4 : (0 : Int) ≤ x4.toInt := l4
    have u4 : x4.toInt ≤ (250 : Int) := u4
    refine g_getf HW rfl ok.1 hq_q rfl g4 ?_
    have y5 : -2147483648 ≤ x3.toInt - x4.toInt → x3.toInt - x4.toInt ≤ 2147483647 → (x3 - x4).toInt = x3.toInt - x4.toInt := t_subC (x := x3) (y := x4)
    refine zrn_ok HW 3 (zbr_ex (cd := .eq) (x := (x3 - x4)) (y := (5 : Int32)) (fun hc6 => zB_iff.mpr ?_) (fun hc6 => zB_iff.mpr ?_))
    · -- pc 28
      have i6 : (x3 - x4).toInt = (5 : Int) := zop_int.mp hc6
      refine zrn_ok HW 6 (zB_iff.mpr (?_ : G (36, [(3, .inl (.int (0 : Int32))), (2, .inl (.int (5 : Int32))), (0, .inl (.ref q)), (1, .inl (.ref 1000000))], [.inl (.ref q)], h, 0, 0)))
      obtain ⟨v7, g7, s7⟩ := hOK_get (i := 0) ok.1 hq_q (by decide)
      obtain ⟨q7, rfl, hq7⟩ : ∃ q : Nat, v7 = .inl (.ref q) ∧ T[q]? = some 18 := s7
      refine g_getf HW rfl ok.1 hq_q rfl g7 ?_
      refine zrn_ok HW 1 (zB_iff.mpr (?_ : G (40, [(3, .inl (.int (0 : Int32))), (2, .inl (.int (5 : Int32))), (0, .inl (.ref q)), (1, .inl (.ref 1000000))], [.inl (.ref q), .inl (.ref q7)], h, 0, 0)))
      obtain ⟨x8, g8, e8, l8, u8⟩ := hi_val (i := 3) ok.1 hq_q (by decide) rfl
      have l8 : (0 : Int) ≤ x8.toInt := l8
      have u8 : x8.toInt ≤ (250 : Int) := u8
      refine g_getf HW rfl ok.1 hq_q rfl g8 ?_
      have y9 : -2147483648 ≤ x8.toInt + (0 : Int) → x8.toInt + (0 : Int) ≤ 2147483647 → (x8 + (0 : Int32)).toInt = x8.toInt + (0 : Int) := t_addC (x := x8) (y := (0 : Int32))
      refine zrn_ok HW 2 (zB_iff.mpr (?_ : G (45, [(3, .inl (.int (0 : Int32))), (2, .inl (.int (5 : Int32))), (0, .inl (.ref q)), (1, .inl (.ref 1000000))], [.inl (.int (x8 + (0 : Int32))), .inl (.ref q7)], h, 0, 0)))
      obtain ⟨x10, g10, e10, l10, u10⟩ := hi_val (i := ((x8 + (0 : Int32))).toInt.toNat) ok.1 hq7 (by show _ < 250; omega) rfl
      have l10 : (0 : Int) ≤ x10.toInt := l10
      have u10 : x10.toInt ≤ (255 : Int) := u10
      refine g_iald HW rfl ok.1 hq7 rfl (by omega) g10 ?_
      refine zrn_ok HW 4 (zbr_ex (cd := .eq) (x := x10) (y := (115 : Int32)) (fun hc11 => zB_iff.mpr ?_) (fun hc11 => zB_iff.mpr ?_))
      · -- pc 56
        have i11 : x10.toInt = (115 : Int) := zop_int.mp hc11
        refine zrn_ok HW 6 (zB_iff.mpr (?_ : G (36, [(3, .inl (.int (1 : Int32))), (2, .inl (.int (5 : Int32))), (0, .inl (.ref q)), (1, .inl (.ref 1000000))], [.inl (.ref q)], h, 0, 0)))
        obtain ⟨v12, g12, s12⟩ := hOK_get (i := 0) ok.1 hq_q (by decide)
        obtain ⟨q12, rfl, hq12⟩ : ∃ q : Nat, v12 = .inl (.ref q) ∧ T[q]? = some 18 := s12
        refine g_getf HW rfl ok.1 hq_q rfl g12 ?_
        refine zrn_ok HW 1 (zB_iff.mpr (?_ : G (40, [(3, .inl (.int (1 : Int32))), (2, .inl (.int (5 : Int32))), (0, .inl (.ref q)), (1, .inl (.ref 1000000))], [.inl (.ref q), .inl (.ref q12)], h, 0, 0)))
        obtain ⟨x13, g13, e13, l13, u13⟩ := hi_val (i := 3) ok.1 hq_q (by decide) rfl
        have l13 : (0 : Int) ≤ x13.toInt := l13
        have u13 : x13.toInt ≤ (250 : Int) := u13
        refine g_getf HW rfl ok.1 hq_q rfl g13 ?_
        have y14 : -2147483648 ≤ x13.toInt + (1 : Int) → x13.toInt + (1 : Int) ≤ 2147483647 → (x13 + (1 : Int32)).toInt = x13.toInt + (1 : Int) := t_addC (x := x13) (y := (1 : Int32))
        refine zrn_ok HW 2 (zB_iff.mpr (?_ : G (45, [(3, .inl (.int (1 : Int32))), (2, .inl (.int (5 : Int32))), (0, .inl (.ref q)), (1, .inl (.ref 1000000))], [.inl (.int (x13 + (1 : Int32))), .inl (.ref q12)], h, 0, 0)))
        obtain ⟨x15, g15, e15, l15, u15⟩ := hi_val (i := ((x13 + (1 : Int32))).toInt.toNat) ok.1 hq12 (by show _ < 250; omega) rfl
        have l15 : (0 : Int) ≤ x15.toInt := l15
        have u15 : x15.toInt ≤ (255 : Int) := u15
        refine g_iald HW rfl ok.1 hq12 rfl (by omega) g15 ?_
        refine zrn_ok HW 4 (zbr_ex (cd := .eq) (x := x15) (y := (108 : Int32)) (fun hc16 => zB_iff.mpr ?_) (fun hc16 => zB_iff.mpr ?_))
        · -- pc 56
          have i16 : x15.toInt = (108 : Int) := zop_int.mp hc16
          refine zrn_ok HW 6 (zB_iff.mpr (?_ : G (36, [(3, .inl (.int (2 : Int32))), (2, .inl (.int (5 : Int32))), (0, .inl (.ref q)), (1, .inl (.ref 1000000))], [.inl (.ref q)], h, 0, 0)))
          obtain ⟨v17, g17, s17⟩ := hOK_get (i := 0) ok.1 hq_q (by decide)
          obtain ⟨q17, rfl, hq17⟩ : ∃ q : Nat, v17 = .inl (.ref q) ∧ T[q]? = some 18 := s17
          refine g_getf HW rfl ok.1 hq_q rfl g17 ?_
          refine zrn_ok HW 1 (zB_iff.mpr (?_ : G (40, [(3, .inl (.int (2 : Int32))), (2, .inl (.int (5 : Int32))), (0, .inl (.ref q)), (1, .inl (.ref 1000000))], [.inl (.ref q), .inl (.ref q17)], h, 0, 0)))
          obtain ⟨x18, g18, e18, l18, u18⟩ := hi_val (i := 3) ok.1 hq_q (by decide) rfl
          have l18 : (0 : Int) ≤ x18.toInt := l18
          have u18 : x18.toInt ≤ (250 : Int) := u18
          refine g_getf HW rfl ok.1 hq_q rfl g18 ?_
          have y19 : -2147483648 ≤ x18.toInt + (2 : Int) → x18.toInt + (2 : Int) ≤ 2147483647 → (x18 + (2 : Int32)).toInt = x18.toInt + (2 : Int) := t_addC (x := x18) (y := (2 : Int32))
          refine zrn_ok HW 2 (zB_iff.mpr (?_ : G (45, [(3, .inl (.int (2 : Int32))), (2, .inl (.int (5 : Int32))), (0, .inl (.ref q)), (1, .inl (.ref 1000000))], [.inl (.int (x18 + (2 : Int32))), .inl (.ref q17)], h, 0, 0)))
          obtain ⟨x20, g20, e20, l20, u20⟩ := hi_val (i := ((x18 + (2 : Int32))).toInt.toNat) ok.1 hq17 (by show _ < 250; omega) rfl
          have l20 : (0 : Int) ≤ x20.toInt := l20
          have u20 : x20.toInt ≤ (255 : Int) := u20
          refine g_iald HW rfl ok.1 hq17 rfl (by omega) g20 ?_
          refine zrn_ok HW 4 (zbr_ex (cd := .eq) (x := x20) (y := (105 : Int32)) (fun hc21 => zB_iff.mpr ?_) (fun hc21 => zB_iff.mpr ?_))
          · -- pc 56
            have i21 : x20.toInt = (105 : Int) := zop_int.mp hc21
            refine zrn_ok HW 6 (zB_iff.mpr (?_ : G (36, [(3, .inl (.int (3 : Int32))), (2, .inl (.int (5 : Int32))), (0, .inl (.ref q)), (1, .inl (.ref 1000000))], [.inl (.ref q)], h, 0, 0)))
            obtain ⟨v22, g22, s22⟩ := hOK_get (i := 0) ok.1 hq_q (by decide)
            obtain ⟨q22, rfl, hq22⟩ : ∃ q : Nat, v22 = .inl (.ref q) ∧ T[q]? = some 18 := s22
            refine g_getf HW rfl ok.1 hq_q rfl g22 ?_
            refine zrn_ok HW 1 (zB_iff.mpr (?_ : G (40, [(3, .inl (.int (3 : Int32))), (2, .inl (.int (5 : Int32))), (0, .inl (.ref q)), (1, .inl (.ref 1000000))], [.inl (.ref q), .inl (.ref q22)], h, 0, 0)))
            obtain ⟨x23, g23, e23, l23, u23⟩ := hi_val (i := 3) ok.1 hq_q (by decide) rfl
            have l23 : (0 : Int) ≤ x23.toInt := l23
            have u23 : x23.toInt ≤ (250 : Int) := u23
            refine g_getf HW rfl ok.1 hq_q rfl g23 ?_
            have y24 : -2147483648 ≤ x23.toInt + (3 : Int) → x23.toInt + (3 : Int) ≤ 2147483647 → (x23 + (3 : Int32)).toInt = x23.toInt + (3 : Int) := t_addC (x := x23) (y := (3 : Int32))
            refine zrn_ok HW 2 (zB_iff.mpr (?_ : G (45, [(3, .inl (.int (3 : Int32))), (2, .inl (.int (5 : Int32))), (0, .inl (.ref q)), (1, .inl (.ref 1000000))], [.inl (.int (x23 + (3 : Int32))), .inl (.ref q22)], h, 0, 0)))
            obtain ⟨x25, g25, e25, l25, u25⟩ := hi_val (i := ((x23 + (3 : Int32))).toInt.toNat) ok.1 hq22 (by show _ < 250; omega) rfl
            have l25 : (0 : Int) ≤ x25.toInt := l25
            have u25 : x25.toInt ≤ (255 : Int) := u25
            refine g_iald HW rfl ok.1 hq22 rfl (by omega) g25 ?_
            refine zrn_ok HW 4 (zbr_ex (cd := .eq) (x := x25) (y := (112 : Int32)) (fun hc26 => zB_iff.mpr ?_) (fun hc26 => zB_iff.mpr ?_))
            · -- pc 56
              have i26 : x25.toInt = (112 : Int) := zop_int.mp hc26
              refine zrn_ok HW 6 (zB_iff.mpr (?_ : G (36, [(3, .inl (.int (4 : Int32))), (2, .inl (.int (5 : Int32))), (0, .inl (.ref q)), (1, .inl (.ref 1000000))], [.inl (.ref q)], h, 0, 0)))
              obtain ⟨v27, g27, s27⟩ := hOK_get (i := 0) ok.1 hq_q (by decide)
              obtain ⟨q27, rfl, hq27⟩ : ∃ q : Nat, v27 = .inl (.ref q) ∧ T[q]? = some 18 := s27
              refine g_getf HW rfl ok.1 hq_q rfl g27 ?_
              refine zrn_ok HW 1 (zB_iff.mpr (?_ : G (40, [(3, .inl (.int (4 : Int32))), (2, .inl (.int (5 : Int32))), (0, .inl (.ref q)), (1, .inl (.ref 1000000))], [.inl (.ref q), .inl (.ref q27)], h, 0, 0)))
              obtain ⟨x28, g28, e28, l28, u28⟩ := hi_val (i := 3) ok.1 hq_q (by decide) rfl
              have l28 : (0 : Int) ≤ x28.toInt := l28
              have u28 : x28.toInt ≤ (250 : Int) := u28
              refine g_getf HW rfl ok.1 hq_q rfl g28 ?_
              have y29 : -2147483648 ≤ x28.toInt + (4 : Int) → x28.toInt + (4 : Int) ≤ 2147483647 → (x28 + (4 : Int32)).toInt = x28.toInt + (4 : Int) := t_addC (x := x28) (y := (4 : Int32))
              refine zrn_ok HW 2 (zB_iff.mpr (?_ : G (45, [(3, .inl (.int (4 : Int32))), (2, .inl (.int (5 : Int32))), (0, .inl (.ref q)), (1, .inl (.ref 1000000))], [.inl (.int (x28 + (4 : Int32))), .inl (.ref q27)], h, 0, 0)))
              obtain ⟨x30, g30, e30, l30, u30⟩ := hi_val (i := ((x28 + (4 : Int32))).toInt.toNat) ok.1 hq27 (by show _ < 250; omega) rfl
              have l30 : (0 : Int) ≤ x30.toInt := l30
              have u30 : x30.toInt ≤ (255 : Int) := u30
              refine g_iald HW rfl ok.1 hq27 rfl (by omega) g30 ?_
              refine zrn_ok HW 4 (zbr_ex (cd := .eq) (x := x30) (y := (115 : Int32)) (fun hc31 => zB_iff.mpr ?_) (fun hc31 => zB_iff.mpr ?_))
              · -- pc 56
                have i31 : x30.toInt = (115 : Int) := zop_int.mp hc31
                refine zrn_ok HW 7 ?_
                exact zret_z rfl rfl (RET (1 : Int32) T h (tExt_rf T) ok (by decide) (by decide))
              · -- pc 54
                have i31 : ¬ (x30.toInt = (115 : Int)) := fun e => hc31 (zop_int.mpr e)
                refine zrn_ok HW 2 ?_
                exact zret_z rfl rfl (RET (0 : Int32) T h (tExt_rf T) ok (by decide) (by decide))
            · -- pc 54
              have i26 : ¬ (x25.toInt = (112 : Int)) := fun e => hc26 (zop_int.mpr e)
              refine zrn_ok HW 2 ?_
              exact zret_z rfl rfl (RET (0 : Int32) T h (tExt_rf T) ok (by decide) (by decide))
          · -- pc 54
            have i21 : ¬ (x20.toInt = (105 : Int)) := fun e => hc21 (zop_int.mpr e)
            refine zrn_ok HW 2 ?_
            exact zret_z rfl rfl (RET (0 : Int32) T h (tExt_rf T) ok (by decide) (by decide))
        · -- pc 54
          have i16 : ¬ (x15.toInt = (108 : Int)) := fun e => hc16 (zop_int.mpr e)
          refine zrn_ok HW 2 ?_
          exact zret_z rfl rfl (RET (0 : Int32) T h (tExt_rf T) ok (by decide) (by decide))
      · -- pc 54
        have i11 : ¬ (x10.toInt = (115 : Int)) := fun e => hc11 (zop_int.mpr e)
        refine zrn_ok HW 2 ?_
        exact zret_z rfl rfl (RET (0 : Int32) T h (tExt_rf T) ok (by decide) (by decide))
    · -- pc 26
      have i6 : ¬ ((x3 - x4).toInt = (5 : Int)) := fun e => hc6 (zop_int.mpr e)
      refine zrn_ok HW 2 ?_
      exact zret_z rfl rfl (RET (0 : Int32) T h (tExt_rf T) ok (by decide) (by decide))
theorem tq_X2_isWord_1 {scr : List zV} {Φ : List Nat → zH → Prop} (hst : tStab zty 43 Φ) : tM zty Φ zprog scr zhts zsm 8 te_X2_isWord_1 := by
  refine t_hand2 (E := ze_X2_isWord) (D0 := 0) rfl rfl (by decide +kernel) (fun d T h vs post G hd hok hΦ hlen hvs hp IH HW => ?_)
  obtain ⟨v_q, vs, rfl, k_q, hvs⟩ := okAs_cons hvs
  obtain ⟨v_w, vs, rfl, k_w, hvs⟩ := okAs_cons hvs
  obtain rfl := okAs_nil hvs
  obtain ⟨q, rfl, hq_q⟩ := tref_sp rfl k_q
  have hq_q : T[q]? = some 2 := hq_q
  obtain rfl : v_w = .inl (.ref 1000001) := k_w
  have ok : wOK Φ h.length T h := ⟨hok, hΦ, Nat.le_refl _⟩
  have RET : ∀ (y : Int32) (T' : List Nat) (h' : zH), tExt T T' → wOK Φ h.length T' h' → 0 ≤ y.toInt → y.toInt ≤ 1 → post (some (.inl (.int y))) h' = true := fun y T' h' m' ok' b1 b2 => hp _ T' h' m' ok'.1 ok'.2.1 (by have := ok'.2.2; omega) ⟨_, rfl, okA_I b1 b2, fun c hc => by cases hc⟩
  refine zrn_ok HW 4 (zB_iff.mpr (?_ : G (6, [(2, .inl (.int (4 : Int32))), (0, .inl (.ref q)), (1, .inl (.ref 1000001))], [.inl (.ref q)], h, 0, 0)))
  obtain ⟨x1, g1, e1, l1, u1⟩ := hi_val (i := 2) ok.1 hq_q (by decide) rfl
  have l1 : (0 : Int) ≤ x1.toInt := l1
  have u1 : x1.toInt ≤ (5 : Int) := u1
  refine g_getf HW rfl ok.1 hq_q rfl g1 ?_
  refine zrn_ok HW 2 (zbr_ex (cd := .ne) (x := x1) (y := (1 : Int32)) (fun hc2 => zB_iff.mpr ?_) (fun hc2 => zB_iff.mpr ?_))
  · -- pc 26
    have i2 : ¬ x1.toInt = (1 : Int) := zop_int.mp hc2
    refine zrn_ok HW 2 ?_
    exact zret_z rfl rfl (RET (0 : Int32) T h (tExt_rf T) ok (by decide) (by decide))
  · -- pc 13
    have i2 : ¬ (¬ x1.toInt = (1 : Int)) := fun e => hc2 (zop_int.mpr e)
    refine zrn_ok HW 1 (zB_iff.mpr (?_ : G (14, [(2, .inl (.int (4 : Int32))), (0, .inl (.ref q)), (1, .inl (.ref 1000001))], [.inl (.ref q)], h, 0, 0)))
    obtain ⟨x3, g3, e3, l3, u3⟩ := hi_val (i := 4) ok.1 hq_q (by decide) rfl
    have l3 : (0 : Int) ≤ x3.toInt := l3
    have u3 : x3.toInt ≤ (250 : Int) := u3
    refine g_getf HW rfl ok.1 hq_q rfl g3 ?_
    refine zrn_ok HW 1 (zB_iff.mpr (?_ : G (18, [(2, .inl (.int (4 : Int32))), (0, .inl (.ref q)), (1, .inl (.ref 1000001))], [.inl (.ref q), .inl (.int x3)], h, 0, 0)))
    obtain ⟨x4, g4, e4, l4, u4⟩ := hi_val (i := 3) ok.1 hq_q (by decide) rfl
    have l4 : (0 : Int) ≤ x4.toInt := l4
    have u4 : x4.toInt ≤ (250 : Int) := u4
    refine g_getf HW rfl ok.1 hq_q rfl g4 ?_
    have y5 : -2147483648 ≤ x3.toInt - x4.toInt → x3.toInt - x4.toInt ≤ 2147483647 → (x3 - x4).toInt = x3.toInt - x4.toInt := t_subC (x := x3) (y := x4)
    refine zrn_ok HW 3 (zbr_ex (cd := .eq) (x := (x3 - x4)) (y := (4 : Int32)) (fun hc6 => zB_iff.mpr ?_) (fun hc6 => zB_iff.mpr ?_))
    · -- pc 28
      have i6 : (x3 - x4).toInt = (4 : Int) := zop_int.mp hc6
      refine zrn_ok HW 6 (zB_iff.mpr (?_ : G (36, [(3, .inl (.int (0 : Int32))), (2, .inl (.int (4 : Int32))), (0, .inl (.ref q)), (1, .inl (.ref 1000001))], [.inl (.ref q)], h, 0, 0)))
      obtain ⟨v7, g7, s7⟩ := hOK_get (i := 0) ok.1 hq_q (by decide)
      obtain ⟨q7, rfl, hq7⟩ : ∃ q : Nat, v7 = .inl (.ref q) ∧ T[q]? = some 18 := s7
      refine g_getf HW rfl ok.1 hq_q rfl g7 ?_
      refine zrn_ok HW 1 (zB_iff.mpr (?_ : G (40, [(3, .inl (.int (0 : Int32))), (2, .inl (.int (4 : Int32))), (0, .inl (.ref q)), (1, .inl (.ref 1000001))], [.inl (.ref q), .inl (.ref q7)], h, 0, 0)))
      obtain ⟨x8, g8, e8, l8, u8⟩ := hi_val (i := 3) ok.1 hq_q (by decide) rfl
      have l8 : (0 : Int) ≤ x8.toInt := l8
      have u8 : x8.toInt ≤ (250 : Int) := u8
      refine g_getf HW rfl ok.1 hq_q rfl g8 ?_
      have y9 : -2147483648 ≤ x8.toInt + (0 : Int) → x8.toInt + (0 : Int) ≤ 2147483647 → (x8 + (0 : Int32)).toInt = x8.toInt + (0 : Int) := t_addC (x := x8) (y := (0 : Int32))
      refine zrn_ok HW 2 (zB_iff.mpr (?_ : G (45, [(3, .inl (.int (0 : Int32))), (2, .inl (.int (4 : Int32))), (0, .inl (.ref q)), (1, .inl (.ref 1000001))], [.inl (.int (x8 + (0 : Int32))), .inl (.ref q7)], h, 0, 0)))
      obtain ⟨x10, g10, e10, l10, u10⟩ := hi_val (i := ((x8 + (0 : Int32))).toInt.toNat) ok.1 hq7 (by show _ < 250; omega) rfl
      have l10 : (0 : Int) ≤ x10.toInt := l10
      have u10 : x10.toInt ≤ (255 : Int) := u10
      refine g_iald HW rfl ok.1 hq7 rfl (by omega) g10 ?_
      refine zrn_ok HW 4 (zbr_ex (cd := .eq) (x := x10) (y := (114 : Int32)) (fun hc11 => zB_iff.mpr ?_) (fun hc11 => zB_iff.mpr ?_))
      · -- pc 56
        have i11 : x10.toInt = (114 : Int) := zop_int.mp hc11
        refine zrn_ok HW 6 (zB_iff.mpr (?_ : G (36, [(3, .inl (.int (1 : Int32))), (2, .inl (.int (4 : Int32))), (0, .inl (.ref q)), (1, .inl (.ref 1000001))], [.inl (.ref q)], h, 0, 0)))
        obtain ⟨v12, g12, s12⟩ := hOK_get (i := 0) ok.1 hq_q (by decide)
        obtain ⟨q12, rfl, hq12⟩ : ∃ q : Nat, v12 = .inl (.ref q) ∧ T[q]? = some 18 := s12
        refine g_getf HW rfl ok.1 hq_q rfl g12 ?_
        refine zrn_ok HW 1 (zB_iff.mpr (?_ : G (40, [(3, .inl (.int (1 : Int32))), (2, .inl (.int (4 : Int32))), (0, .inl (.ref q)), (1, .inl (.ref 1000001))], [.inl (.ref q), .inl (.ref q12)], h, 0, 0)))
        obtain ⟨x13, g13, e13, l13, u13⟩ := hi_val (i := 3) ok.1 hq_q (by decide) rfl
        have l13 : (0 : Int) ≤ x13.toInt := l13
        have u13 : x13.toInt ≤ (250 : Int) := u13
        refine g_getf HW rfl ok.1 hq_q rfl g13 ?_
        have y14 : -2147483648 ≤ x13.toInt + (1 : Int) → x13.toInt + (1 : Int) ≤ 2147483647 → (x13 + (1 : Int32)).toInt = x13.toInt + (1 : Int) := t_addC (x := x13) (y := (1 : Int32))
        refine zrn_ok HW 2 (zB_iff.mpr (?_ : G (45, [(3, .inl (.int (1 : Int32))), (2, .inl (.int (4 : Int32))), (0, .inl (.ref q)), (1, .inl (.ref 1000001))], [.inl (.int (x13 + (1 : Int32))), .inl (.ref q12)], h, 0, 0)))
        obtain ⟨x15, g15, e15, l15, u15⟩ := hi_val (i := ((x13 + (1 : Int32))).toInt.toNat) ok.1 hq12 (by show _ < 250; omega) rfl
        have l15 : (0 : Int) ≤ x15.toInt := l15
        have u15 : x15.toInt ≤ (255 : Int) := u15
        refine g_iald HW rfl ok.1 hq12 rfl (by omega) g15 ?_
        refine zrn_ok HW 4 (zbr_ex (cd := .eq) (x := x15) (y := (117 : Int32)) (fun hc16 => zB_iff.mpr ?_) (fun hc16 => zB_iff.mpr ?_))
        · -- pc 56
          have i16 : x15.toInt = (117 : Int) := zop_int.mp hc16
          refine zrn_ok HW 6 (zB_iff.mpr (?_ : G (36, [(3, .inl (.int (2 : Int32))), (2, .inl (.int (4 : Int32))), (0, .inl (.ref q)), (1, .inl (.ref 1000001))], [.inl (.ref q)], h, 0, 0)))
          obtain ⟨v17, g17, s17⟩ := hOK_get (i := 0) ok.1 hq_q (by decide)
          obtain ⟨q17, rfl, hq17⟩ : ∃ q : Nat, v17 = .inl (.ref q) ∧ T[q]? = some 18 := s17
          refine g_getf HW rfl ok.1 hq_q rfl g17 ?_
          refine zrn_ok HW 1 (zB_iff.mpr (?_ : G (40, [(3, .inl (.int (2 : Int32))), (2, .inl (.int (4 : Int32))), (0, .inl (.ref q)), (1, .inl (.ref 1000001))], [.inl (.ref q), .inl (.ref q17)], h, 0, 0)))
          obtain ⟨x18, g18, e18, l18, u18⟩ := hi_val (i := 3) ok.1 hq_q (by decide) rfl
          have l18 : (0 : Int) ≤ x18.toInt := l18
          have u18 : x18.toInt ≤ (250 : Int) := u18
          refine g_getf HW rfl ok.1 hq_q rfl g18 ?_
          have y19 : -2147483648 ≤ x18.toInt + (2 : Int) → x18.toInt + (2 : Int) ≤ 2147483647 → (x18 + (2 : Int32)).toInt = x18.toInt + (2 : Int) := t_addC (x := x18) (y := (2 : Int32))
          refine zrn_ok HW 2 (zB_iff.mpr (?_ : G (45, [(3, .inl (.int (2 : Int32))), (2, .inl (.int (4 : Int32))), (0, .inl (.ref q)), (1, .inl (.ref 1000001))], [.inl (.int (x18 + (2 : Int32))), .inl (.ref q17)], h, 0, 0)))
          obtain ⟨x20, g20, e20, l20, u20⟩ := hi_val (i := ((x18 + (2 : Int32))).toInt.toNat) ok.1 hq17 (by show _ < 250; omega) rfl
          have l20 : (0 : Int) ≤ x20.toInt := l20
          have u20 : x20.toInt ≤ (255 : Int) := u20
          refine g_iald HW rfl ok.1 hq17 rfl (by omega) g20 ?_
          refine zrn_ok HW 4 (zbr_ex (cd := .eq) (x := x20) (y := (108 : Int32)) (fun hc21 => zB_iff.mpr ?_) (fun hc21 => zB_iff.mpr ?_))
          · -- pc 56
            have i21 : x20.toInt = (108 : Int) := zop_int.mp hc21
            refine zrn_ok HW 6 (zB_iff.mpr (?_ : G (36, [(3, .inl (.int (3 : Int32))), (2, .inl (.int (4 : Int32))), (0, .inl (.ref q)), (1, .inl (.ref 1000001))], [.inl (.ref q)], h, 0, 0)))
            obtain ⟨v22, g22, s22⟩ := hOK_get (i := 0) ok.1 hq_q (by decide)
            obtain ⟨q22, rfl, hq22⟩ : ∃ q : Nat, v22 = .inl (.ref q) ∧ T[q]? = some 18 := s22
            refine g_getf HW rfl ok.1 hq_q rfl g22 ?_
            refine zrn_ok HW 1 (zB_iff.mpr (?_ : G (40, [(3, .inl (.int (3 : Int32))), (2, .inl (.int (4 : Int32))), (0, .inl (.ref q)), (1, .inl (.ref 1000001))], [.inl (.ref q), .inl (.ref q22)], h, 0, 0)))
            obtain ⟨x23, g23, e23, l23, u23⟩ := hi_val (i := 3) ok.1 hq_q (by decide) rfl
            have l23 : (0 : Int) ≤ x23.toInt := l23
            have u23 : x23.toInt ≤ (250 : Int) := u23
            refine g_getf HW rfl ok.1 hq_q rfl g23 ?_
            have y24 : -2147483648 ≤ x23.toInt + (3 : Int) → x23.toInt + (3 : Int) ≤ 2147483647 → (x23 + (3 : Int32)).toInt = x23.toInt + (3 : Int) := t_addC (x := x23) (y := (3 : Int32))
            refine zrn_ok HW 2 (zB_iff.mpr (?_ : G (45, [(3, .inl (.int (3 : Int32))), (2, .inl (.int (4 : Int32))), (0, .inl (.ref q)), (1, .inl (.ref 1000001))], [.inl (.int (x23 + (3 : Int32))), .inl (.ref q22)], h, 0, 0)))
            obtain ⟨x25, g25, e25, l25, u25⟩ := hi_val (i := ((x23 + (3 : Int32))).toInt.toNat) ok.1 hq22 (by show _ < 250; omega) rfl
            have l25 : (0 : Int) ≤ x25.toInt := l25
            have u25 : x25.toInt ≤ (255 : Int) := u25
            refine g_iald HW rfl ok.1 hq22 rfl (by omega) g25 ?_
            refine zrn_ok HW 4 (zbr_ex (cd := .eq) (x := x25) (y := (101 : Int32)) (fun hc26 => zB_iff.mpr ?_) (fun hc26 => zB_iff.mpr ?_))
            · -- pc 56
              have i26 : x25.toInt = (101 : Int) := zop_int.mp hc26
              refine zrn_ok HW 7 ?_
              exact zret_z rfl rfl (RET (1 : Int32) T h (tExt_rf T) ok (by decide) (by decide))
            · -- pc 54
              have i26 : ¬ (x25.toInt = (101 : Int)) := fun e => hc26 (zop_int.mpr e)
              refine zrn_ok HW 2 ?_
              exact zret_z rfl rfl (RET (0 : Int32) T h (tExt_rf T) ok (by decide) (by decide))
          · -- pc 54
            have i21 : ¬ (x20.toInt = (108 : Int)) := fun e => hc21 (zop_int.mpr e)
            refine zrn_ok HW 2 ?_
            exact zret_z rfl rfl (RET (0 : Int32) T h (tExt_rf T) ok (by decide) (by decide))
        · -- pc 54
          have i16 : ¬ (x15.toInt = (117 : Int)) := fun e => hc16 (zop_int.mpr e)
          refine zrn_ok HW 2 ?_
          exact zret_z rfl rfl (RET (0 : Int32) T h (tExt_rf T) ok (by decide) (by decide))
      · -- pc 54
        have i11 : ¬ (x10.toInt = (114 : Int)) := fun e => hc11 (zop_int.mpr e)
        refine zrn_ok HW 2 ?_
        exact zret_z rfl rfl (RET (0 : Int32) T h (tExt_rf T) ok (by decide) (by decide))
    · -- pc 26
      have i6 : ¬ ((x3 - x4).toInt = (4 : Int)) := fun e => hc6 (zop_int.mpr e)
      refine zrn_ok HW 2 ?_
      exact zret_z rfl rfl (RET (0 : Int32) T h (tExt_rf T) ok (by decide) (by decide))
theorem tq_X2_isWord_2 {scr : List zV} {Φ : List Nat → zH → Prop} (hst : tStab zty 43 Φ) : tM zty Φ zprog scr zhts zsm 8 te_X2_isWord_2 := by
  refine t_hand2 (E := ze_X2_isWord) (D0 := 0) rfl rfl (by decide +kernel) (fun d T h vs post G hd hok hΦ hlen hvs hp IH HW => ?_)
  obtain ⟨v_q, vs, rfl, k_q, hvs⟩ := okAs_cons hvs
  obtain ⟨v_w, vs, rfl, k_w, hvs⟩ := okAs_cons hvs
  obtain rfl := okAs_nil hvs
  obtain ⟨q, rfl, hq_q⟩ := tref_sp rfl k_q
  have hq_q : T[q]? = some 2 := hq_q
  obtain rfl : v_w = .inl (.ref 1000002) := k_w
  have ok : wOK Φ h.length T h := ⟨hok, hΦ, Nat.le_refl _⟩
  have RET : ∀ (y : Int32) (T' : List Nat) (h' : zH), tExt T T' → wOK Φ h.length T' h' → 0 ≤ y.toInt → y.toInt ≤ 1 → post (some (.inl (.int y))) h' = true := fun y T' h' m' ok' b1 b2 => hp _ T' h' m' ok'.1 ok'.2.1 (by have := ok'.2.2; omega) ⟨_, rfl, okA_I b1 b2, fun c hc => by cases hc⟩
  refine zrn_ok HW 4 (zB_iff.mpr (?_ : G (6, [(2, .inl (.int (5 : Int32))), (0, .inl (.ref q)), (1, .inl (.ref 1000002))], [.inl (.ref q)], h, 0, 0)))
  obtain ⟨x1, g1, e1, l1, u1⟩ := hi_val (i := 2) ok.1 hq_q (by decide) rfl
  have l1 : (0 : Int) ≤ x1.toInt := l1
  have u1 : x1.toInt ≤ (5 : Int) := u1
  refine g_getf HW rfl ok.1 hq_q rfl g1 ?_
  refine zrn_ok HW 2 (zbr_ex (cd := .ne) (x := x1) (y := (1 : Int32)) (fun hc2 => zB_iff.mpr ?_) (fun hc2 => zB_iff.mpr ?_))
  · -- pc 26
    have i2 : ¬ x1.toInt = (1 : Int) := zop_int.mp hc2
    refine zrn_ok HW 2 ?_
    exact zret_z rfl rfl (RET (0 : Int32) T h (tExt_rf T) ok (by decide) (by decide))
  · -- pc 13
    have i2 : ¬ (¬ x1.toInt = (1 : Int)) := fun e => hc2 (zop_int.mpr e)
    refine zrn_ok HW 1 (zB_iff.mpr (?_ : G (14, [(2, .inl (.int (5 : Int32))), (0, .inl (.ref q)), (1, .inl (.ref 1000002))], [.inl (.ref q)], h, 0, 0)))
    obtain ⟨x3, g3, e3, l3, u3⟩ := hi_val (i := 4) ok.1 hq_q (by decide) rfl
    have l3 : (0 : Int) ≤ x3.toInt := l3
    have u3 : x3.toInt ≤ (250 : Int) := u3
    refine g_getf HW rfl ok.1 hq_q rfl g3 ?_
    refine zrn_ok HW 1 (zB_iff.mpr (?_ : G (18, [(2, .inl (.int (5 : Int32))), (0, .inl (.ref q)), (1, .inl (.ref 1000002))], [.inl (.ref q), .inl (.int x3)], h, 0, 0)))
    obtain ⟨x4, g4, e4, l4, u4⟩ := hi_val (i := 3) ok.1 hq_q (by decide) rfl
    have l4 : (0 : Int) ≤ x4.toInt := l4
    have u4 : x4.toInt ≤ (250 : Int) := u4
    refine g_getf HW rfl ok.1 hq_q rfl g4 ?_
    have y5 : -2147483648 ≤ x3.toInt - x4.toInt → x3.toInt - x4.toInt ≤ 2147483647 → (x3 - x4).toInt = x3.toInt - x4.toInt := t_subC (x := x3) (y := x4)
    refine zrn_ok HW 3 (zbr_ex (cd := .eq) (x := (x3 - x4)) (y := (5 : Int32)) (fun hc6 => zB_iff.mpr ?_) (fun hc6 => zB_iff.mpr ?_))
    · -- pc 28
      have i6 : (x3 - x4).toInt = (5 : Int) := zop_int.mp hc6
      refine zrn_ok HW 6 (zB_iff.mpr (?_ : G (36, [(3, .inl (.int (0 : Int32))), (2, .inl (.int (5 : Int32))), (0, .inl (.ref q)), (1, .inl (.ref 1000002))], [.inl (.ref q)], h, 0, 0)))
      obtain ⟨v7, g7, s7⟩ := hOK_get (i := 0) ok.1 hq_q (by decide)
      obtain ⟨q7, rfl, hq7⟩ : ∃ q : Nat, v7 = .inl (.ref q) ∧ T[q]? = some 18 := s7
      refine g_getf HW rfl ok.1 hq_q rfl g7 ?_
      refine zrn_ok HW 1 (zB_iff.mpr (?_ : G (40, [(3, .inl (.int (0 : Int32))), (2, .inl (.int (5 : Int32))), (0, .inl (.ref q)), (1, .inl (.ref 1000002))], [.inl (.ref q), .inl (.ref q7)], h, 0, 0)))
      obtain ⟨x8, g8, e8, l8, u8⟩ := hi_val (i := 3) ok.1 hq_q (by decide) rfl
      have l8 : (0 : Int) ≤ x8.toInt := l8
      have u8 : x8.toInt ≤ (250 : Int) := u8
      refine g_getf HW rfl ok.1 hq_q rfl g8 ?_
      have y9 : -2147483648 ≤ x8.toInt + (0 : Int) → x8.toInt + (0 : Int) ≤ 2147483647 → (x8 + (0 : Int32)).toInt = x8.toInt + (0 : Int) := t_addC (x := x8) (y := (0 : Int32))
      refine zrn_ok HW 2 (zB_iff.mpr (?_ : G (45, [(3, .inl (.int (0 : Int32))), (2, .inl (.int (5 : Int32))), (0, .inl (.ref q)), (1, .inl (.ref 1000002))], [.inl (.int (x8 + (0 : Int32))), .inl (.ref q7)], h, 0, 0)))
      obtain ⟨x10, g10, e10, l10, u10⟩ := hi_val (i := ((x8 + (0 : Int32))).toInt.toNat) ok.1 hq7 (by show _ < 250; omega) rfl
      have l10 : (0 : Int) ≤ x10.toInt := l10
      have u10 : x10.toInt ≤ (255 : Int) := u10
      refine g_iald HW rfl ok.1 hq7 rfl (by omega) g10 ?_
      refine zrn_ok HW 4 (zbr_ex (cd := .eq) (x := x10) (y := (112 : Int32)) (fun hc11 => zB_iff.mpr ?_) (fun hc11 => zB_iff.mpr ?_))
      · -- pc 56
        have i11 : x10.toInt = (112 : Int) := zop_int.mp hc11
        refine zrn_ok HW 6 (zB_iff.mpr (?_ : G (36, [(3, .inl (.int (1 : Int32))), (2, .inl (.int (5 : Int32))), (0, .inl (.ref q)), (1, .inl (.ref 1000002))], [.inl (.ref q)], h, 0, 0)))
        obtain ⟨v12, g12, s12⟩ := hOK_get (i := 0) ok.1 hq_q (by decide)
        obtain ⟨q12, rfl, hq12⟩ : ∃ q : Nat, v12 = .inl (.ref q) ∧ T[q]? = some 18 := s12
        refine g_getf HW rfl ok.1 hq_q rfl g12 ?_
        refine zrn_ok HW 1 (zB_iff.mpr (?_ : G (40, [(3, .inl (.int (1 : Int32))), (2, .inl (.int (5 : Int32))), (0, .inl (.ref q)), (1, .inl (.ref 1000002))], [.inl (.ref q), .inl (.ref q12)], h, 0, 0)))
        obtain ⟨x13, g13, e13, l13, u13⟩ := hi_val (i := 3) ok.1 hq_q (by decide) rfl
        have l13 : (0 : Int) ≤ x13.toInt := l13
        have u13 : x13.toInt ≤ (250 : Int) := u13
        refine g_getf HW rfl ok.1 hq_q rfl g13 ?_
        have y14 : -2147483648 ≤ x13.toInt + (1 : Int) → x13.toInt + (1 : Int) ≤ 2147483647 → (x13 + (1 : Int32)).toInt = x13.toInt + (1 : Int) := t_addC (x := x13) (y := (1 : Int32))
        refine zrn_ok HW 2 (zB_iff.mpr (?_ : G (45, [(3, .inl (.int (1 : Int32))), (2, .inl (.int (5 : Int32))), (0, .inl (.ref q)), (1, .inl (.ref 1000002))], [.inl (.int (x13 + (1 : Int32))), .inl (.ref q12)], h, 0, 0)))
        obtain ⟨x15, g15, e15, l15, u15⟩ := hi_val (i := ((x13 + (1 : Int32))).toInt.toNat) ok.1 hq12 (by show _ < 250; omega) rfl
        have l15 : (0 : Int) ≤ x15.toInt := l15
        have u15 : x15.toInt ≤ (255 : Int) := u15
        refine g_iald HW rfl ok.1 hq12 rfl (by omega) g15 ?_
        refine zrn_ok HW 4 (zbr_ex (cd := .eq) (x := x15) (y := (114 : Int32)) (fun hc16 => zB_iff.mpr ?_) (fun hc16 => zB_iff.mpr ?_))
        · -- pc 56
          have i16 : x15.toInt = (114 : Int) := zop_int.mp hc16
          refine zrn_ok HW 6 (zB_iff.mpr (?_ : G (36, [(3, .inl (.int (2 : Int32))), (2, .inl (.int (5 : Int32))), (0, .inl (.ref q)), (1, .inl (.ref 1000002))], [.inl (.ref q)], h, 0, 0)))
          obtain ⟨v17, g17, s17⟩ := hOK_get (i := 0) ok.1 hq_q (by decide)
          obtain ⟨q17, rfl, hq17⟩ : ∃ q : Nat, v17 = .inl (.ref q) ∧ T[q]? = some 18 := s17
          refine g_getf HW rfl ok.1 hq_q rfl g17 ?_
          refine zrn_ok HW 1 (zB_iff.mpr (?_ : G (40, [(3, .inl (.int (2 : Int32))), (2, .inl (.int (5 : Int32))), (0, .inl (.ref q)), (1, .inl (.ref 1000002))], [.inl (.ref q), .inl (.ref q17)], h, 0, 0)))
          obtain ⟨x18, g18, e18, l18, u18⟩ := hi_val (i := 3) ok.1 hq_q (by decide) rfl
          have l18 : (0 : Int) ≤ x18.toInt := l18
          have u18 : x18.toInt ≤ (250 : Int) := u18
          refine g_getf HW rfl ok.1 hq_q rfl g18 ?_
          have y19 : -2147483648 ≤ x18.toInt + (2 : Int) → x18.toInt + (2 : Int) ≤ 2147483647 → (x18 + (2 : Int32)).toInt = x18.toInt + (2 : Int) := t_addC (x := x18) (y := (2 : Int32))
          refine zrn_ok HW 2 (zB_iff.mpr (?_ : G (45, [(3, .inl (.int (2 : Int32))), (2, .inl (.int (5 : Int32))), (0, .inl (.ref q)), (1, .inl (.ref 1000002))], [.inl (.int (x18 + (2 : Int32))), .inl (.ref q17)], h, 0, 0)))
          obtain ⟨x20, g20, e20, l20, u20⟩ := hi_val (i := ((x18 + (2 : Int32))).toInt.toNat) ok.1 hq17 (by show _ < 250; omega) rfl
          have l20 : (0 : Int) ≤ x20.toInt := l20
          have u20 : x20.toInt ≤ (255 : Int) := u20
          refine g_iald HW rfl ok.1 hq17 rfl (by omega) g20 ?_
          refine zrn_ok HW 4 (zbr_ex (cd := .eq) (x := x20) (y := (105 : Int32)) (fun hc21 => zB_iff.mpr ?_) (fun hc21 => zB_iff.mpr ?_))
          · -- pc 56
            have i21 : x20.toInt = (105 : Int) := zop_int.mp hc21
            refine zrn_ok HW 6 (zB_iff.mpr (?_ : G (36, [(3, .inl (.int (3 : Int32))), (2, .inl (.int (5 : Int32))), (0, .inl (.ref q)), (1, .inl (.ref 1000002))], [.inl (.ref q)], h, 0, 0)))
            obtain ⟨v22, g22, s22⟩ := hOK_get (i := 0) ok.1 hq_q (by decide)
            obtain ⟨q22, rfl, hq22⟩ : ∃ q : Nat, v22 = .inl (.ref q) ∧ T[q]? = some 18 := s22
            refine g_getf HW rfl ok.1 hq_q rfl g22 ?_
            refine zrn_ok HW 1 (zB_iff.mpr (?_ : G (40, [(3, .inl (.int (3 : Int32))), (2, .inl (.int (5 : Int32))), (0, .inl (.ref q)), (1, .inl (.ref 1000002))], [.inl (.ref q), .inl (.ref q22)], h, 0, 0)))
            obtain ⟨x23, g23, e23, l23, u23⟩ := hi_val (i := 3) ok.1 hq_q (by decide) rfl
            have l23 : (0 : Int) ≤ x23.toInt := l23
            have u23 : x23.toInt ≤ (250 : Int) := u23
            refine g_getf HW rfl ok.1 hq_q rfl g23 ?_
            have y24 : -2147483648 ≤ x23.toInt + (3 : Int) → x23.toInt + (3 : Int) ≤ 2147483647 → (x23 + (3 : Int32)).toInt = x23.toInt + (3 : Int) := t_addC (x := x23) (y := (3 : Int32))
            refine zrn_ok HW 2 (zB_iff.mpr (?_ : G (45, [(3, .inl (.int (3 : Int32))), (2, .inl (.int (5 : Int32))), (0, .inl (.ref q)), (1, .inl (.ref 1000002))], [.inl (.int (x23 + (3 : Int32))), .inl (.ref q22)], h, 0, 0)))
            obtain ⟨x25, g25, e25, l25, u25⟩ := hi_val (i := ((x23 + (3 : Int32))).toInt.toNat) ok.1 hq22 (by show _ < 250; omega) rfl
            have l25 : (0 : Int) ≤ x25.toInt := l25
            have u25 : x25.toInt ≤ (255 : Int) := u25
            refine g_iald HW rfl ok.1 hq22 rfl (by omega) g25 ?_
            refine zrn_ok HW 4 (zbr_ex (cd := .eq) (x := x25) (y := (99 : Int32)) (fun hc26 => zB_iff.mpr ?_) (fun hc26 => zB_iff.mpr ?_))
            · -- pc 56
              have i26 : x25.toInt = (99 : Int) := zop_int.mp hc26
              refine zrn_ok HW 6 (zB_iff.mpr (?_ : G (36, [(3, .inl (.int (4 : Int32))), (2, .inl (.int (5 : Int32))), (0, .inl (.ref q)), (1, .inl (.ref 1000002))], [.inl (.ref q)], h, 0, 0)))
              obtain ⟨v27, g27, s27⟩ := hOK_get (i := 0) ok.1 hq_q (by decide)
              obtain ⟨q27, rfl, hq27⟩ : ∃ q : Nat, v27 = .inl (.ref q) ∧ T[q]? = some 18 := s27
              refine g_getf HW rfl ok.1 hq_q rfl g27 ?_
              refine zrn_ok HW 1 (zB_iff.mpr (?_ : G (40, [(3, .inl (.int (4 : Int32))), (2, .inl (.int (5 : Int32))), (0, .inl (.ref q)), (1, .inl (.ref 1000002))], [.inl (.ref q), .inl (.ref q27)], h, 0, 0)))
              obtain ⟨x28, g28, e28, l28, u28⟩ := hi_val (i := 3) ok.1 hq_q (by decide) rfl
              have l28 : (0 : Int) ≤ x28.toInt := l28
              have u28 : x28.toInt ≤ (250 : Int) := u28
              refine g_getf HW rfl ok.1 hq_q rfl g28 ?_
              have y29 : -2147483648 ≤ x28.toInt + (4 : Int) → x28.toInt + (4 : Int) ≤ 2147483647 → (x28 + (4 : Int32)).toInt = x28.toInt + (4 : Int) := t_addC (x := x28) (y := (4 : Int32))
              refine zrn_ok HW 2 (zB_iff.mpr (?_ : G (45, [(3, .inl (.int (4 : Int32))), (2, .inl (.int (5 : Int32))), (0, .inl (.ref q)), (1, .inl (.ref 1000002))], [.inl (.int (x28 + (4 : Int32))), .inl (.ref q27)], h, 0, 0)))
              obtain ⟨x30, g30, e30, l30, u30⟩ := hi_val (i := ((x28 + (4 : Int32))).toInt.toNat) ok.1 hq27 (by show _ < 250; omega) rfl
              have l30 : (0 : Int) ≤ x30.toInt := l30
              have u30 : x30.toInt ≤ (255 : Int) := u30
              refine g_iald HW rfl ok.1 hq27 rfl (by omega) g30 ?_
              refine zrn_ok HW 4 (zbr_ex (cd := .eq) (x := x30) (y := (101 : Int32)) (fun hc31 => zB_iff.mpr ?_) (fun hc31 => zB_iff.mpr ?_))
              · -- pc 56
                have i31 : x30.toInt = (101 : Int) := zop_int.mp hc31
                refine zrn_ok HW 7 ?_
                exact zret_z rfl rfl (RET (1 : Int32) T h (tExt_rf T) ok (by decide) (by decide))
              · -- pc 54
                have i31 : ¬ (x30.toInt = (101 : Int)) := fun e => hc31 (zop_int.mpr e)
                refine zrn_ok HW 2 ?_
                exact zret_z rfl rfl (RET (0 : Int32) T h (tExt_rf T) ok (by decide) (by decide))
            · -- pc 54
              have i26 : ¬ (x25.toInt = (99 : Int)) := fun e => hc26 (zop_int.mpr e)
              refine zrn_ok HW 2 ?_
              exact zret_z rfl rfl (RET (0 : Int32) T h (tExt_rf T) ok (by decide) (by decide))
          · -- pc 54
            have i21 : ¬ (x20.toInt = (105 : Int)) := fun e => hc21 (zop_int.mpr e)
            refine zrn_ok HW 2 ?_
            exact zret_z rfl rfl (RET (0 : Int32) T h (tExt_rf T) ok (by decide) (by decide))
        · -- pc 54
          have i16 : ¬ (x15.toInt = (114 : Int)) := fun e => hc16 (zop_int.mpr e)
          refine zrn_ok HW 2 ?_
          exact zret_z rfl rfl (RET (0 : Int32) T h (tExt_rf T) ok (by decide) (by decide))
      · -- pc 54
        have i11 : ¬ (x10.toInt = (112 : Int)) := fun e => hc11 (zop_int.mpr e)
        refine zrn_ok HW 2 ?_
        exact zret_z rfl rfl (RET (0 : Int32) T h (tExt_rf T) ok (by decide) (by decide))
    · -- pc 26
      have i6 : ¬ ((x3 - x4).toInt = (5 : Int)) := fun e => hc6 (zop_int.mpr e)
      refine zrn_ok HW 2 ?_
      exact zret_z rfl rfl (RET (0 : Int32) T h (tExt_rf T) ok (by decide) (by decide))
theorem tq_X2_isWord_3 {scr : List zV} {Φ : List Nat → zH → Prop} (hst : tStab zty 43 Φ) : tM zty Φ zprog scr zhts zsm 8 te_X2_isWord_3 := by
  refine t_hand2 (E := ze_X2_isWord) (D0 := 0) rfl rfl (by decide +kernel) (fun d T h vs post G hd hok hΦ hlen hvs hp IH HW => ?_)
  obtain ⟨v_q, vs, rfl, k_q, hvs⟩ := okAs_cons hvs
  obtain ⟨v_w, vs, rfl, k_w, hvs⟩ := okAs_cons hvs
  obtain rfl := okAs_nil hvs
  obtain ⟨q, rfl, hq_q⟩ := tref_sp rfl k_q
  have hq_q : T[q]? = some 2 := hq_q
  obtain rfl : v_w = .inl (.ref 1000003) := k_w
  have ok : wOK Φ h.length T h := ⟨hok, hΦ, Nat.le_refl _⟩
  have RET : ∀ (y : Int32) (T' : List Nat) (h' : zH), tExt T T' → wOK Φ h.length T' h' → 0 ≤ y.toInt → y.toInt ≤ 1 → post (some (.inl (.int y))) h' = true := fun y T' h' m' ok' b1 b2 => hp _ T' h' m' ok'.1 ok'.2.1 (by have := ok'.2.2; omega) ⟨_, rfl, okA_I b1 b2, fun c hc => by cases hc⟩
  refine zrn_ok HW 4 (zB_iff.mpr (?_ : G (6, [(2, .inl (.int (5 : Int32))), (0, .inl (.ref q)), (1, .inl (.ref 1000003))], [.inl (.ref q)], h, 0, 0)))
  obtain ⟨x1, g1, e1, l1, u1⟩ := hi_val (i := 2) ok.1 hq_q (by decide) rfl
  have l1 : (0 : Int) ≤ x1.toInt := l1
  have u1 : x1.toInt ≤ (5 : Int) := u1
  refine g_getf HW rfl ok.1 hq_q rfl g1 ?_
  refine zrn_ok HW 2 (zbr_ex (cd := .ne) (x := x1) (y := (1 : Int32)) (fun hc2 => zB_iff.mpr ?_) (fun hc2 => zB_iff.mpr ?_))
  · -- pc 26
    have i2 : ¬ x1.toInt = (1 : Int) := zop_int.mp hc2
    refine zrn_ok HW 2 ?_
    exact zret_z rfl rfl (RET (0 : Int32) T h (tExt_rf T) ok (by decide) (by decide))
  · -- pc 13
    have i2 : ¬ (¬ x1.toInt = (1 : Int)) := fun e => hc2 (zop_int.mpr e)
    refine zrn_ok HW 1 (zB_iff.mpr (?_ : G (14, [(2, .inl (.int (5 : Int32))), (0, .inl (.ref q)), (1, .inl (.ref 1000003))], [.inl (.ref q)], h, 0, 0)))
    obtain ⟨x3, g3, e3, l3, u3⟩ := hi_val (i := 4) ok.1 hq_q (by decide) rfl
    have l3 : (0 : Int) ≤ x3.toInt := l3
    have u3 : x3.toInt ≤ (250 : Int) := u3
    refine g_getf HW rfl ok.1 hq_q rfl g3 ?_
    refine zrn_ok HW 1 (zB_iff.mpr (?_ : G (18, [(2, .inl (.int (5 : Int32))), (0, .inl (.ref q)), (1, .inl (.ref 1000003))], [.inl (.ref q), .inl (.int x3)], h, 0, 0)))
    obtain ⟨x4, g4, e4, l4, u4⟩ := hi_val (i := 3) ok.1 hq_q (by decide) rfl
    have l4 : (0 : Int) ≤ x4.toInt := l4
    have u4 : x4.toInt ≤ (250 : Int) := u4
    refine g_getf HW rfl ok.1 hq_q rfl g4 ?_
    have y5 : -2147483648 ≤ x3.toInt - x4.toInt → x3.toInt - x4.toInt ≤ 2147483647 → (x3 - x4).toInt = x3.toInt - x4.toInt := t_subC (x := x3) (y := x4)
    refine zrn_ok HW 3 (zbr_ex (cd := .eq) (x := (x3 - x4)) (y := (5 : Int32)) (fun hc6 => zB_iff.mpr ?_) (fun hc6 => zB_iff.mpr ?_))
    · -- pc 28
      have i6 : (x3 - x4).toInt = (5 : Int) := zop_int.mp hc6
      refine zrn_ok HW 6 (zB_iff.mpr (?_ : G (36, [(3, .inl (.int (0 : Int32))), (2, .inl (.int (5 : Int32))), (0, .inl (.ref q)), (1, .inl (.ref 1000003))], [.inl (.ref q)], h, 0, 0)))
      obtain ⟨v7, g7, s7⟩ := hOK_get (i := 0) ok.1 hq_q (by decide)
      obtain ⟨q7, rfl, hq7⟩ : ∃ q : Nat, v7 = .inl (.ref q) ∧ T[q]? = some 18 := s7
      refine g_getf HW rfl ok.1 hq_q rfl g7 ?_
      refine zrn_ok HW 1 (zB_iff.mpr (?_ : G (40, [(3, .inl (.int (0 : Int32))), (2, .inl (.int (5 : Int32))), (0, .inl (.ref q)), (1, .inl (.ref 1000003))], [.inl (.ref q), .inl (.ref q7)], h, 0, 0)))
      obtain ⟨x8, g8, e8, l8, u8⟩ := hi_val (i := 3) ok.1 hq_q (by decide) rfl
      have l8 : (0 : Int) ≤ x8.toInt := l8
      have u8 : x8.toInt ≤ (250 : Int) := u8
      refine g_getf HW rfl ok.1 hq_q rfl g8 ?_
      have y9 : -2147483648 ≤ x8.toInt + (0 : Int) → x8.toInt + (0 : Int) ≤ 2147483647 → (x8 + (0 : Int32)).toInt = x8.toInt + (0 : Int) := t_addC (x := x8) (y := (0 : Int32))
      refine zrn_ok HW 2 (zB_iff.mpr (?_ : G (45, [(3, .inl (.int (0 : Int32))), (2, .inl (.int (5 : Int32))), (0, .inl (.ref q)), (1, .inl (.ref 1000003))], [.inl (.int (x8 + (0 : Int32))), .inl (.ref q7)], h, 0, 0)))
      obtain ⟨x10, g10, e10, l10, u10⟩ := hi_val (i := ((x8 + (0 : Int32))).toInt.toNat) ok.1 hq7 (by show _ < 250; omega) rfl
      have l10 : (0 : Int) ≤ x10.toInt := l10
      have u10 : x10.toInt ≤ (255 : Int) := u10
      refine g_iald HW rfl ok.1 hq7 rfl (by omega) g10 ?_
      refine zrn_ok HW 4 (zbr_ex (cd := .eq) (x := x10) (y := (116 : Int32)) (fun hc11 => zB_iff.mpr ?_) (fun hc11 => zB_iff.mpr ?_))
      · -- pc 56
        have i11 : x10.toInt = (116 : Int) := zop_int.mp hc11
        refine zrn_ok HW 6 (zB_iff.mpr (?_ : G (36, [(3, .inl (.int (1 : Int32))), (2, .inl (.int (5 : Int32))), (0, .inl (.ref q)), (1, .inl (.ref 1000003))], [.inl (.ref q)], h, 0, 0)))
        obtain ⟨v12, g12, s12⟩ := hOK_get (i := 0) ok.1 hq_q (by decide)
        obtain ⟨q12, rfl, hq12⟩ : ∃ q : Nat, v12 = .inl (.ref q) ∧ T[q]? = some 18 := s12
        refine g_getf HW rfl ok.1 hq_q rfl g12 ?_
        refine zrn_ok HW 1 (zB_iff.mpr (?_ : G (40, [(3, .inl (.int (1 : Int32))), (2, .inl (.int (5 : Int32))), (0, .inl (.ref q)), (1, .inl (.ref 1000003))], [.inl (.ref q), .inl (.ref q12)], h, 0, 0)))
        obtain ⟨x13, g13, e13, l13, u13⟩ := hi_val (i := 3) ok.1 hq_q (by decide) rfl
        have l13 : (0 : Int) ≤ x13.toInt := l13
        have u13 : x13.toInt ≤ (250 : Int) := u13
        refine g_getf HW rfl ok.1 hq_q rfl g13 ?_
        have y14 : -2147483648 ≤ x13.toInt + (1 : Int) → x13.toInt + (1 : Int) ≤ 2147483647 → (x13 + (1 : Int32)).toInt = x13.toInt + (1 : Int) := t_addC (x := x13) (y := (1 : Int32))
        refine zrn_ok HW 2 (zB_iff.mpr (?_ : G (45, [(3, .inl (.int (1 : Int32))), (2, .inl (.int (5 : Int32))), (0, .inl (.ref q)), (1, .inl (.ref 1000003))], [.inl (.int (x13 + (1 : Int32))), .inl (.ref q12)], h, 0, 0)))
        obtain ⟨x15, g15, e15, l15, u15⟩ := hi_val (i := ((x13 + (1 : Int32))).toInt.toNat) ok.1 hq12 (by show _ < 250; omega) rfl
        have l15 : (0 : Int) ≤ x15.toInt := l15
        have u15 : x15.toInt ≤ (255 : Int) := u15
        refine g_iald HW rfl ok.1 hq12 rfl (by omega) g15 ?_
        refine zrn_ok HW 4 (zbr_ex (cd := .eq) (x := x15) (y := (104 : Int32)) (fun hc16 => zB_iff.mpr ?_) (fun hc16 => zB_iff.mpr ?_))
        · -- pc 56
          have i16 : x15.toInt = (104 : Int) := zop_int.mp hc16
          refine zrn_ok HW 6 (zB_iff.mpr (?_ : G (36, [(3, .inl (.int (2 : Int32))), (2, .inl (.int (5 : Int32))), (0, .inl (.ref q)), (1, .inl (.ref 1000003))], [.inl (.ref q)], h, 0, 0)))
          obtain ⟨v17, g17, s17⟩ := hOK_get (i := 0) ok.1 hq_q (by decide)
          obtain ⟨q17, rfl, hq17⟩ : ∃ q : Nat, v17 = .inl (.ref q) ∧ T[q]? = some 18 := s17
          refine g_getf HW rfl ok.1 hq_q rfl g17 ?_
          refine zrn_ok HW 1 (zB_iff.mpr (?_ : G (40, [(3, .inl (.int (2 : Int32))), (2, .inl (.int (5 : Int32))), (0, .inl (.ref q)), (1, .inl (.ref 1000003))], [.inl (.ref q), .inl (.ref q17)], h, 0, 0)))
          obtain ⟨x18, g18, e18, l18, u18⟩ := hi_val (i := 3) ok.1 hq_q (by decide) rfl
          have l18 : (0 : Int) ≤ x18.toInt := l18
          have u18 : x18.toInt ≤ (250 : Int) := u18
          refine g_getf HW rfl ok.1 hq_q rfl g18 ?_
          have y19 : -2147483648 ≤ x18.toInt + (2 : Int) → x18.toInt + (2 : Int) ≤ 2147483647 → (x18 + (2 : Int32)).toInt = x18.toInt + (2 : Int) := t_addC (x := x18) (y := (2 : Int32))
          refine zrn_ok HW 2 (zB_iff.mpr (?_ : G (45, [(3, .inl (.int (2 : Int32))), (2, .inl (.int (5 : Int32))), (0, .inl (.ref q)), (1, .inl (.ref 1000003))], [.inl (.int (x18 + (2 : Int32))), .inl (.ref q17)], h, 0, 0)))
          obtain ⟨x20, g20, e20, l20, u20⟩ := hi_val (i := ((x18 + (2 : Int32))).toInt.toNat) ok.1 hq17 (by show _ < 250; omega) rfl
          have l20 : (0 : Int) ≤ x20.toInt := l20
          have u20 : x20.toInt ≤ (255 : Int) := u20
          refine g_iald HW rfl ok.1 hq17 rfl (by omega) g20 ?_
          refine zrn_ok HW 4 (zbr_ex (cd := .eq) (x := x20) (y := (105 : Int32)) (fun hc21 => zB_iff.mpr ?_) (fun hc21 => zB_iff.mpr ?_))
          · -- pc 56
            have i21 : x20.toInt = (105 : Int) := zop_int.mp hc21
            refine zrn_ok HW 6 (zB_iff.mpr (?_ : G (36, [(3, .inl (.int (3 : Int32))), (2, .inl (.int (5 : Int32))), (0, .inl (.ref q)), (1, .inl (.ref 1000003))], [.inl (.ref q)], h, 0, 0)))
            obtain ⟨v22, g22, s22⟩ := hOK_get (i := 0) ok.1 hq_q (by decide)
            obtain ⟨q22, rfl, hq22⟩ : ∃ q : Nat, v22 = .inl (.ref q) ∧ T[q]? = some 18 := s22
            refine g_getf HW rfl ok.1 hq_q rfl g22 ?_
            refine zrn_ok HW 1 (zB_iff.mpr (?_ : G (40, [(3, .inl (.int (3 : Int32))), (2, .inl (.int (5 : Int32))), (0, .inl (.ref q)), (1, .inl (.ref 1000003))], [.inl (.ref q), .inl (.ref q22)], h, 0, 0)))
            obtain ⟨x23, g23, e23, l23, u23⟩ := hi_val (i := 3) ok.1 hq_q (by decide) rfl
            have l23 : (0 : Int) ≤ x23.toInt := l23
            have u23 : x23.toInt ≤ (250 : Int) := u23
            refine g_getf HW rfl ok.1 hq_q rfl g23 ?_
            have y24 : -2147483648 ≤ x23.toInt + (3 : Int) → x23.toInt + (3 : Int) ≤ 2147483647 → (x23 + (3 : Int32)).toInt = x23.toInt + (3 : Int) := t_addC (x := x23) (y := (3 : Int32))
            refine zrn_ok HW 2 (zB_iff.mpr (?_ : G (45, [(3, .inl (.int (3 : Int32))), (2, .inl (.int (5 : Int32))), (0, .inl (.ref q)), (1, .inl (.ref 1000003))], [.inl (.int (x23 + (3 : Int32))), .inl (.ref q22)], h, 0, 0)))
            obtain ⟨x25, g25, e25, l25, u25⟩ := hi_val (i := ((x23 + (3 : Int32))).toInt.toNat) ok.1 hq22 (by show _ < 250; omega) rfl
            have l25 : (0 : Int) ≤ x25.toInt := l25
            have u25 : x25.toInt ≤ (255 : Int) := u25
            refine g_iald HW rfl ok.1 hq22 rfl (by omega) g25 ?_
            refine zrn_ok HW 4 (zbr_ex (cd := .eq) (x := x25) (y := (110 : Int32)) (fun hc26 => zB_iff.mpr ?_) (fun hc26 => zB_iff.mpr ?_))
            · -- pc 56
              have i26 : x25.toInt = (110 : Int) := zop_int.mp hc26
              refine zrn_ok HW 6 (zB_iff.mpr (?_ : G (36, [(3, .inl (.int (4 : Int32))), (2, .inl (.int (5 : Int32))), (0, .inl (.ref q)), (1, .inl (.ref 1000003))], [.inl (.ref q)], h, 0, 0)))
              obtain ⟨v27, g27, s27⟩ := hOK_get (i := 0) ok.1 hq_q (by decide)
              obtain ⟨q27, rfl, hq27⟩ : ∃ q : Nat, v27 = .inl (.ref q) ∧ T[q]? = some 18 := s27
              refine g_getf HW rfl ok.1 hq_q rfl g27 ?_
              refine zrn_ok HW 1 (zB_iff.mpr (?_ : G (40, [(3, .inl (.int (4 : Int32))), (2, .inl (.int (5 : Int32))), (0, .inl (.ref q)), (1, .inl (.ref 1000003))], [.inl (.ref q), .inl (.ref q27)], h, 0, 0)))
              obtain ⟨x28, g28, e28, l28, u28⟩ := hi_val (i := 3) ok.1 hq_q (by decide) rfl
              have l28 : (0 : Int) ≤ x28.toInt := l28
              have u28 : x28.toInt ≤ (250 : Int) := u28
              refine g_getf HW rfl ok.1 hq_q rfl g28 ?_
              have y29 : -2147483648 ≤ x28.toInt + (4 : Int) → x28.toInt + (4 : Int) ≤ 2147483647 → (x28 + (4 : Int32)).toInt = x28.toInt + (4 : Int) := t_addC (x := x28) (y := (4 : Int32))
              refine zrn_ok HW 2 (zB_iff.mpr (?_ : G (45, [(3, .inl (.int (4 : Int32))), (2, .inl (.int (5 : Int32))), (0, .inl (.ref q)), (1, .inl (.ref 1000003))], [.inl (.int (x28 + (4 : Int32))), .inl (.ref q27)], h, 0, 0)))
              obtain ⟨x30, g30, e30, l30, u30⟩ := hi_val (i := ((x28 + (4 : Int32))).toInt.toNat) ok.1 hq27 (by show _ < 250; omega) rfl
              have l30 : (0 : Int) ≤ x30.toInt := l30
              have u30 : x30.toInt ≤ (255 : Int) := u30
              refine g_iald HW rfl ok.1 hq27 rfl (by omega) g30 ?_
              refine zrn_ok HW 4 (zbr_ex (cd := .eq) (x := x30) (y := (103 : Int32)) (fun hc31 => zB_iff.mpr ?_) (fun hc31 => zB_iff.mpr ?_))
              · -- pc 56
                have i31 : x30.toInt = (103 : Int) := zop_int.mp hc31
                refine zrn_ok HW 7 ?_
                exact zret_z rfl rfl (RET (1 : Int32) T h (tExt_rf T) ok (by decide) (by decide))
              · -- pc 54
                have i31 : ¬ (x30.toInt = (103 : Int)) := fun e => hc31 (zop_int.mpr e)
                refine zrn_ok HW 2 ?_
                exact zret_z rfl rfl (RET (0 : Int32) T h (tExt_rf T) ok (by decide) (by decide))
            · -- pc 54
              have i26 : ¬ (x25.toInt = (110 : Int)) := fun e => hc26 (zop_int.mpr e)
              refine zrn_ok HW 2 ?_
              exact zret_z rfl rfl (RET (0 : Int32) T h (tExt_rf T) ok (by decide) (by decide))
          · -- pc 54
            have i21 : ¬ (x20.toInt = (105 : Int)) := fun e => hc21 (zop_int.mpr e)
            refine zrn_ok HW 2 ?_
            exact zret_z rfl rfl (RET (0 : Int32) T h (tExt_rf T) ok (by decide) (by decide))
        · -- pc 54
          have i16 : ¬ (x15.toInt = (104 : Int)) := fun e => hc16 (zop_int.mpr e)
          refine zrn_ok HW 2 ?_
          exact zret_z rfl rfl (RET (0 : Int32) T h (tExt_rf T) ok (by decide) (by decide))
      · -- pc 54
        have i11 : ¬ (x10.toInt = (116 : Int)) := fun e => hc11 (zop_int.mpr e)
        refine zrn_ok HW 2 ?_
        exact zret_z rfl rfl (RET (0 : Int32) T h (tExt_rf T) ok (by decide) (by decide))
    · -- pc 26
      have i6 : ¬ ((x3 - x4).toInt = (5 : Int)) := fun e => hc6 (zop_int.mpr e)
      refine zrn_ok HW 2 ?_
      exact zret_z rfl rfl (RET (0 : Int32) T h (tExt_rf T) ok (by decide) (by decide))
theorem tq_X2_isWord_4 {scr : List zV} {Φ : List Nat → zH → Prop} (hst : tStab zty 43 Φ) : tM zty Φ zprog scr zhts zsm 8 te_X2_isWord_4 := by
  refine t_hand2 (E := ze_X2_isWord) (D0 := 0) rfl rfl (by decide +kernel) (fun d T h vs post G hd hok hΦ hlen hvs hp IH HW => ?_)
  obtain ⟨v_q, vs, rfl, k_q, hvs⟩ := okAs_cons hvs
  obtain ⟨v_w, vs, rfl, k_w, hvs⟩ := okAs_cons hvs
  obtain rfl := okAs_nil hvs
  obtain ⟨q, rfl, hq_q⟩ := tref_sp rfl k_q
  have hq_q : T[q]? = some 2 := hq_q
  obtain rfl : v_w = .inl (.ref 1000004) := k_w
  have ok : wOK Φ h.length T h := ⟨hok, hΦ, Nat.le_refl _⟩
  have RET : ∀ (y : Int32) (T' : List Nat) (h' : zH), tExt T T' → wOK Φ h.length T' h' → 0 ≤ y.toInt → y.toInt ≤ 1 → post (some (.inl (.int y))) h' = true := fun y T' h' m' ok' b1 b2 => hp _ T' h' m' ok'.1 ok'.2.1 (by have := ok'.2.2; omega) ⟨_, rfl, okA_I b1 b2, fun c hc => by cases hc⟩
  refine zrn_ok HW 4 (zB_iff.mpr (?_ : G (6, [(2, .inl (.int (5 : Int32))), (0, .inl (.ref q)), (1, .inl (.ref 1000004))], [.inl (.ref q)], h, 0, 0)))
  obtain ⟨x1, g1, e1, l1, u1⟩ := hi_val (i := 2) ok.1 hq_q (by decide) rfl
  have l1 : (0 : Int) ≤ x1.toInt := l1
  have u1 : x1.toInt ≤ (5 : Int) := u1
  refine g_getf HW rfl ok.1 hq_q rfl g1 ?_
  refine zrn_ok HW 2 (zbr_ex (cd := .ne) (x := x1) (y := (1 : Int32)) (fun hc2 => zB_iff.mpr ?_) (fun hc2 => zB_iff.mpr ?_))
  · -- pc 26
    have i2 : ¬ x1.toInt = (1 : Int) := zop_int.mp hc2
    refine zrn_ok HW 2 ?_
    exact zret_z rfl rfl (RET (0 : Int32) T h (tExt_rf T) ok (by decide) (by decide))
  · -- pc 13
    have i2 : ¬ (¬ x1.toInt = (1 : Int)) := fun e => hc2 (zop_int.mpr e)
    refine zrn_ok HW 1 (zB_iff.mpr (?_ : G (14, [(2, .inl (.int (5 : Int32))), (0, .inl (.ref q)), (1, .inl (.ref 1000004))], [.inl (.ref q)], h, 0, 0)))
    obtain ⟨x3, g3, e3, l3, u3⟩ := hi_val (i := 4) ok.1 hq_q (by decide) rfl
    have l3 : (0 : Int) ≤ x3.toInt := l3
    have u3 : x3.toInt ≤ (250 : Int) := u3
    refine g_getf HW rfl ok.1 hq_q rfl g3 ?_
    refine zrn_ok HW 1 (zB_iff.mpr (?_ : G (18, [(2, .inl (.int (5 : Int32))), (0, .inl (.ref q)), (1, .inl (.ref 1000004))], [.inl (.ref q), .inl (.int x3)], h, 0, 0)))
    obtain ⟨x4, g4, e4, l4, u4⟩ := hi_val (i := 3) ok.1 hq_q (by decide) rfl
    have l4 : (0 : Int) ≤ x4.toInt := l4
    have u4 : x4.toInt ≤ (250 : Int) := u4
    refine g_getf HW rfl ok.1 hq_q rfl g4 ?_
    have y5 : -2147483648 ≤ x3.toInt - x4.toInt → x3.toInt - x4.toInt ≤ 2147483647 → (x3 - x4).toInt = x3.toInt - x4.toInt := t_subC (x := x3) (y := x4)
    refine zrn_ok HW 3 (zbr_ex (cd := .eq) (x := (x3 - x4)) (y := (5 : Int32)) (fun hc6 => zB_iff.mpr ?_) (fun hc6 => zB_iff.mpr ?_))
    · -- pc 28
      have i6 : (x3 - x4).toInt = (5 : Int) := zop_int.mp hc6
      refine zrn_ok HW 6 (zB_iff.mpr (?_ : G (36, [(3, .inl (.int (0 : Int32))), (2, .inl (.int (5 : Int32))), (0, .inl (.ref q)), (1, .inl (.ref 1000004))], [.inl (.ref q)], h, 0, 0)))
      obtain ⟨v7, g7, s7⟩ := hOK_get (i := 0) ok.1 hq_q (by decide)
      obtain ⟨q7, rfl, hq7⟩ : ∃ q : Nat, v7 = .inl (.ref q) ∧ T[q]? = some 18 := s7
      refine g_getf HW rfl ok.1 hq_q rfl g7 ?_
      refine zrn_ok HW 1 (zB_iff.mpr (?_ : G (40, [(3, .inl (.int (0 : Int32))), (2, .inl (.int (5 : Int32))), (0, .inl (.ref q)), (1, .inl (.ref 1000004))], [.inl (.ref q), .inl (.ref q7)], h, 0, 0)))
      obtain ⟨x8, g8, e8, l8, u8⟩ := hi_val (i := 3) ok.1 hq_q (by decide) rfl
      have l8 : (0 : Int) ≤ x8.toInt := l8
      have u8 : x8.toInt ≤ (250 : Int) := u8
      refine g_getf HW rfl ok.1 hq_q rfl g8 ?_
      have y9 : -2147483648 ≤ x8.toInt + (0 : Int) → x8.toInt + (0 : Int) ≤ 2147483647 → (x8 + (0 : Int32)).toInt = x8.toInt + (0 : Int) := t_addC (x := x8) (y := (0 : Int32))
      refine zrn_ok HW 2 (zB_iff.mpr (?_ : G (45, [(3, .inl (.int (0 : Int32))), (2, .inl (.int (5 : Int32))), (0, .inl (.ref q)), (1, .inl (.ref 1000004))], [.inl (.int (x8 + (0 : Int32))), .inl (.ref q7)], h, 0, 0)))
      obtain ⟨x10, g10, e10, l10, u10⟩ := hi_val (i := ((x8 + (0 : Int32))).toInt.toNat) ok.1 hq7 (by show _ < 250; omega) rfl
      have l10 : (0 : Int) ≤ x10.toInt := l10
      have u10 : x10.toInt ≤ (255 : Int) := u10
      refine g_iald HW rfl ok.1 hq7 rfl (by omega) g10 ?_
      refine zrn_ok HW 4 (zbr_ex (cd := .eq) (x := x10) (y := (98 : Int32)) (fun hc11 => zB_iff.mpr ?_) (fun hc11 => zB_iff.mpr ?_))
      · -- pc 56
        have i11 : x10.toInt = (98 : Int) := zop_int.mp hc11
        refine zrn_ok HW 6 (zB_iff.mpr (?_ : G (36, [(3, .inl (.int (1 : Int32))), (2, .inl (.int (5 : Int32))), (0, .inl (.ref q)), (1, .inl (.ref 1000004))], [.inl (.ref q)], h, 0, 0)))
        obtain ⟨v12, g12, s12⟩ := hOK_get (i := 0) ok.1 hq_q (by decide)
        obtain ⟨q12, rfl, hq12⟩ : ∃ q : Nat, v12 = .inl (.ref q) ∧ T[q]? = some 18 := s12
        refine g_getf HW rfl ok.1 hq_q rfl g12 ?_
        refine zrn_ok HW 1 (zB_iff.mpr (?_ : G (40, [(3, .inl (.int (1 : Int32))), (2, .inl (.int (5 : Int32))), (0, .inl (.ref q)), (1, .inl (.ref 1000004))], [.inl (.ref q), .inl (.ref q12)], h, 0, 0)))
        obtain ⟨x13, g13, e13, l13, u13⟩ := hi_val (i := 3) ok.1 hq_q (by decide) rfl
        have l13 : (0 : Int) ≤ x13.toInt := l13
        have u13 : x13.toInt ≤ (250 : Int) := u13
        refine g_getf HW rfl ok.1 hq_q rfl g13 ?_
        have y14 : -2147483648 ≤ x13.toInt + (1 : Int) → x13.toInt + (1 : Int) ≤ 2147483647 → (x13 + (1 : Int32)).toInt = x13.toInt + (1 : Int) := t_addC (x := x13) (y := (1 : Int32))
        refine zrn_ok HW 2 (zB_iff.mpr (?_ : G (45, [(3, .inl (.int (1 : Int32))), (2, .inl (.int (5 : Int32))), (0, .inl (.ref q)), (1, .inl (.ref 1000004))], [.inl (.int (x13 + (1 : Int32))), .inl (.ref q12)], h, 0, 0)))
        obtain ⟨x15, g15, e15, l15, u15⟩ := hi_val (i := ((x13 + (1 : Int32))).toInt.toNat) ok.1 hq12 (by show _ < 250; omega) rfl
        have l15 : (0 : Int) ≤ x15.toInt := l15
        have u15 : x15.toInt ≤ (255 : Int) := u15
        refine g_iald HW rfl ok.1 hq12 rfl (by omega) g15 ?_
        refine zrn_ok HW 4 (zbr_ex (cd := .eq) (x := x15) (y := (117 : Int32)) (fun hc16 => zB_iff.mpr ?_) (fun hc16 => zB_iff.mpr ?_))
        · -- pc 56
          have i16 : x15.toInt = (117 : Int) := zop_int.mp hc16
          refine zrn_ok HW 6 (zB_iff.mpr (?_ : G (36, [(3, .inl (.int (2 : Int32))), (2, .inl (.int (5 : Int32))), (0, .inl (.ref q)), (1, .inl (.ref 1000004))], [.inl (.ref q)], h, 0, 0)))
          obtain ⟨v17, g17, s17⟩ := hOK_get (i := 0) ok.1 hq_q (by decide)
          obtain ⟨q17, rfl, hq17⟩ : ∃ q : Nat, v17 = .inl (.ref q) ∧ T[q]? = some 18 := s17
          refine g_getf HW rfl ok.1 hq_q rfl g17 ?_
          refine zrn_ok HW 1 (zB_iff.mpr (?_ : G (40, [(3, .inl (.int (2 : Int32))), (2, .inl (.int (5 : Int32))), (0, .inl (.ref q)), (1, .inl (.ref 1000004))], [.inl (.ref q), .inl (.ref q17)], h, 0, 0)))
          obtain ⟨x18, g18, e18, l18, u18⟩ := hi_val (i := 3) ok.1 hq_q (by decide) rfl
          have l18 : (0 : Int) ≤ x18.toInt := l18
          have u18 : x18.toInt ≤ (250 : Int) := u18
          refine g_getf HW rfl ok.1 hq_q rfl g18 ?_
          have y19 : -2147483648 ≤ x18.toInt + (2 : Int) → x18.toInt + (2 : Int) ≤ 2147483647 → (x18 + (2 : Int32)).toInt = x18.toInt + (2 : Int) := t_addC (x := x18) (y := (2 : Int32))
          refine zrn_ok HW 2 (zB_iff.mpr (?_ : G (45, [(3, .inl (.int (2 : Int32))), (2, .inl (.int (5 : Int32))), (0, .inl (.ref q)), (1, .inl (.ref 1000004))], [.inl (.int (x18 + (2 : Int32))), .inl (.ref q17)], h, 0, 0)))
          obtain ⟨x20, g20, e20, l20, u20⟩ := hi_val (i := ((x18 + (2 : Int32))).toInt.toNat) ok.1 hq17 (by show _ < 250; omega) rfl
          have l20 : (0 : Int) ≤ x20.toInt := l20
          have u20 : x20.toInt ≤ (255 : Int) := u20
          refine g_iald HW rfl ok.1 hq17 rfl (by omega) g20 ?_
          refine zrn_ok HW 4 (zbr_ex (cd := .eq) (x := x20) (y := (121 : Int32)) (fun hc21 => zB_iff.mpr ?_) (fun hc21 => zB_iff.mpr ?_))
          · -- pc 56
            have i21 : x20.toInt = (121 : Int) := zop_int.mp hc21
            refine zrn_ok HW 6 (zB_iff.mpr (?_ : G (36, [(3, .inl (.int (3 : Int32))), (2, .inl (.int (5 : Int32))), (0, .inl (.ref q)), (1, .inl (.ref 1000004))], [.inl (.ref q)], h, 0, 0)))
            obtain ⟨v22, g22, s22⟩ := hOK_get (i := 0) ok.1 hq_q (by decide)
            obtain ⟨q22, rfl, hq22⟩ : ∃ q : Nat, v22 = .inl (.ref q) ∧ T[q]? = some 18 := s22
            refine g_getf HW rfl ok.1 hq_q rfl g22 ?_
            refine zrn_ok HW 1 (zB_iff.mpr (?_ : G (40, [(3, .inl (.int (3 : Int32))), (2, .inl (.int (5 : Int32))), (0, .inl (.ref q)), (1, .inl (.ref 1000004))], [.inl (.ref q), .inl (.ref q22)], h, 0, 0)))
            obtain ⟨x23, g23, e23, l23, u23⟩ := hi_val (i := 3) ok.1 hq_q (by decide) rfl
            have l23 : (0 : Int) ≤ x23.toInt := l23
            have u23 : x23.toInt ≤ (250 : Int) := u23
            refine g_getf HW rfl ok.1 hq_q rfl g23 ?_
            have y24 : -2147483648 ≤ x23.toInt + (3 : Int) → x23.toInt + (3 : Int) ≤ 2147483647 → (x23 + (3 : Int32)).toInt = x23.toInt + (3 : Int) := t_addC (x := x23) (y := (3 : Int32))
            refine zrn_ok HW 2 (zB_iff.mpr (?_ : G (45, [(3, .inl (.int (3 : Int32))), (2, .inl (.int (5 : Int32))), (0, .inl (.ref q)), (1, .inl (.ref 1000004))], [.inl (.int (x23 + (3 : Int32))), .inl (.ref q22)], h, 0, 0)))
            obtain ⟨x25, g25, e25, l25, u25⟩ := hi_val (i := ((x23 + (3 : Int32))).toInt.toNat) ok.1 hq22 (by show _ < 250; omega) rfl
            have l25 : (0 : Int) ≤ x25.toInt := l25
            have u25 : x25.toInt ≤ (255 : Int) := u25
            refine g_iald HW rfl ok.1 hq22 rfl (by omega) g25 ?_
            refine zrn_ok HW 4 (zbr_ex (cd := .eq) (x := x25) (y := (101 : Int32)) (fun hc26 => zB_iff.mpr ?_) (fun hc26 => zB_iff.mpr ?_))
            · -- pc 56
              have i26 : x25.toInt = (101 : Int) := zop_int.mp hc26
              refine zrn_ok HW 6 (zB_iff.mpr (?_ : G (36, [(3, .inl (.int (4 : Int32))), (2, .inl (.int (5 : Int32))), (0, .inl (.ref q)), (1, .inl (.ref 1000004))], [.inl (.ref q)], h, 0, 0)))
              obtain ⟨v27, g27, s27⟩ := hOK_get (i := 0) ok.1 hq_q (by decide)
              obtain ⟨q27, rfl, hq27⟩ : ∃ q : Nat, v27 = .inl (.ref q) ∧ T[q]? = some 18 := s27
              refine g_getf HW rfl ok.1 hq_q rfl g27 ?_
              refine zrn_ok HW 1 (zB_iff.mpr (?_ : G (40, [(3, .inl (.int (4 : Int32))), (2, .inl (.int (5 : Int32))), (0, .inl (.ref q)), (1, .inl (.ref 1000004))], [.inl (.ref q), .inl (.ref q27)], h, 0, 0)))
              obtain ⟨x28, g28, e28, l28, u28⟩ := hi_val (i := 3) ok.1 hq_q (by decide) rfl
              have l28 : (0 : Int) ≤ x28.toInt := l28
              have u28 : x28.toInt ≤ (250 : Int) := u28
              refine g_getf HW rfl ok.1 hq_q rfl g28 ?_
              have y29 : -2147483648 ≤ x28.toInt + (4 : Int) → x28.toInt + (4 : Int) ≤ 2147483647 → (x28 + (4 : Int32)).toInt = x28.toInt + (4 : Int) := t_addC (x := x28) (y := (4 : Int32))
              refine zrn_ok HW 2 (zB_iff.mpr (?_ : G (45, [(3, .inl (.int (4 : Int32))), (2, .inl (.int (5 : Int32))), (0, .inl (.ref q)), (1, .inl (.ref 1000004))], [.inl (.int (x28 + (4 : Int32))), .inl (.ref q27)], h, 0, 0)))
              obtain ⟨x30, g30, e30, l30, u30⟩ := hi_val (i := ((x28 + (4 : Int32))).toInt.toNat) ok.1 hq27 (by show _ < 250; omega) rfl
              have l30 : (0 : Int) ≤ x30.toInt := l30
              have u30 : x30.toInt ≤ (255 : Int) := u30
              refine g_iald HW rfl ok.1 hq27 rfl (by omega) g30 ?_
              refine zrn_ok HW 4 (zbr_ex (cd := .eq) (x := x30) (y := (114 : Int32)) (fun hc31 => zB_iff.mpr ?_) (fun hc31 => zB_iff.mpr ?_))
              · -- pc 56
                have i31 : x30.toInt = (114 : Int) := zop_int.mp hc31
                refine zrn_ok HW 7 ?_
                exact zret_z rfl rfl (RET (1 : Int32) T h (tExt_rf T) ok (by decide) (by decide))
              · -- pc 54
                have i31 : ¬ (x30.toInt = (114 : Int)) := fun e => hc31 (zop_int.mpr e)
                refine zrn_ok HW 2 ?_
                exact zret_z rfl rfl (RET (0 : Int32) T h (tExt_rf T) ok (by decide) (by decide))
            · -- pc 54
              have i26 : ¬ (x25.toInt = (101 : Int)) := fun e => hc26 (zop_int.mpr e)
              refine zrn_ok HW 2 ?_
              exact zret_z rfl rfl (RET (0 : Int32) T h (tExt_rf T) ok (by decide) (by decide))
          · -- pc 54
            have i21 : ¬ (x20.toInt = (121 : Int)) := fun e => hc21 (zop_int.mpr e)
            refine zrn_ok HW 2 ?_
            exact zret_z rfl rfl (RET (0 : Int32) T h (tExt_rf T) ok (by decide) (by decide))
        · -- pc 54
          have i16 : ¬ (x15.toInt = (117 : Int)) := fun e => hc16 (zop_int.mpr e)
          refine zrn_ok HW 2 ?_
          exact zret_z rfl rfl (RET (0 : Int32) T h (tExt_rf T) ok (by decide) (by decide))
      · -- pc 54
        have i11 : ¬ (x10.toInt = (98 : Int)) := fun e => hc11 (zop_int.mpr e)
        refine zrn_ok HW 2 ?_
        exact zret_z rfl rfl (RET (0 : Int32) T h (tExt_rf T) ok (by decide) (by decide))
    · -- pc 26
      have i6 : ¬ ((x3 - x4).toInt = (5 : Int)) := fun e => hc6 (zop_int.mpr e)
      refine zrn_ok HW 2 ?_
      exact zret_z rfl rfl (RET (0 : Int32) T h (tExt_rf T) ok (by decide) (by decide))
theorem tq_X2_isWord_5 {scr : List zV} {Φ : List Nat → zH → Prop} (hst : tStab zty 43 Φ) : tM zty Φ zprog scr zhts zsm 8 te_X2_isWord_5 := by
  refine t_hand2 (E := ze_X2_isWord) (D0 := 0) rfl rfl (by decide +kernel) (fun d T h vs post G hd hok hΦ hlen hvs hp IH HW => ?_)
  obtain ⟨v_q, vs, rfl, k_q, hvs⟩ := okAs_cons hvs
  obtain ⟨v_w, vs, rfl, k_w, hvs⟩ := okAs_cons hvs
  obtain rfl := okAs_nil hvs
  obtain ⟨q, rfl, hq_q⟩ := tref_sp rfl k_q
  have hq_q : T[q]? = some 2 := hq_q
  obtain rfl : v_w = .inl (.ref 1000005) := k_w
  have ok : wOK Φ h.length T h := ⟨hok, hΦ, Nat.le_refl _⟩
  have RET : ∀ (y : Int32) (T' : List Nat) (h' : zH), tExt T T' → wOK Φ h.length T' h' → 0 ≤ y.toInt → y.toInt ≤ 1 → post (some (.inl (.int y))) h' = true := fun y T' h' m' ok' b1 b2 => hp _ T' h' m' ok'.1 ok'.2.1 (by have := ok'.2.2; omega) ⟨_, rfl, okA_I b1 b2, fun c hc => by cases hc⟩
  refine zrn_ok HW 4 (zB_iff.mpr (?_ : G (6, [(2, .inl (.int (5 : Int32))), (0, .inl (.ref q)), (1, .inl (.ref 1000005))], [.inl (.ref q)], h, 0, 0)))
  obtain ⟨x1, g1, e1, l1, u1⟩ := hi_val (i := 2) ok.1 hq_q (by decide) rfl
  have l1 : (0 : Int) ≤ x1.toInt := l1
  have u1 : x1.toInt ≤ (5 : Int) := u1
  refine g_getf HW rfl ok.1 hq_q rfl g1 ?_
  refine zrn_ok HW 2 (zbr_ex (cd := .ne) (x := x1) (y := (1 : Int32)) (fun hc2 => zB_iff.mpr ?_) (fun hc2 => zB_iff.mpr ?_))
  · -- pc 26
    have i2 : ¬ x1.toInt = (1 : Int) := zop_int.mp hc2
    refine zrn_ok HW 2 ?_
    exact zret_z rfl rfl (RET (0 : Int32) T h (tExt_rf T) ok (by decide) (by decide))
  · -- pc 13
    have i2 : ¬ (¬ x1.toInt = (1 : Int)) := fun e => hc2 (zop_int.mpr e)
    refine zrn_ok HW 1 (zB_iff.mpr (?_ : G (14, [(2, .inl (.int (5 : Int32))), (0, .inl (.ref q)), (1, .inl (.ref 1000005))], [.inl (.ref q)], h, 0, 0)))
    obtain ⟨x3, g3, e3, l3, u3⟩ := hi_val (i := 4) ok.1 hq_q (by decide) rfl
    have l3 : (0 : Int) ≤ x3.toInt := l3
    have u3 : x3.toInt ≤ (250 : Int) := u3
    refine g_getf HW rfl ok.1 hq_q rfl g3 ?_
    refine zrn_ok HW 1 (zB_iff.mpr (?_ : G (18, [(2, .inl (.int (5 : Int32))), (0, .inl (.ref q)), (1, .inl (.ref 1000005))], [.inl (.ref q), .inl (.int x3)], h, 0, 0)))
    obtain ⟨x4, g4, e4, l4, u4⟩ := hi_val (i := 3) ok.1 hq_q (by decide) rfl
    have l4 : (0 : Int) ≤ x4.toInt := l4
    have u4 : x4.toInt ≤ (250 : Int) := u4
    refine g_getf HW rfl ok.1 hq_q rfl g4 ?_
    have y5 : -2147483648 ≤ x3.toInt - x4.toInt → x3.toInt - x4.toInt ≤ 2147483647 → (x3 - x4).toInt = x3.toInt - x4.toInt := t_subC (x := x3) (y := x4)
    refine zrn_ok HW 3 (zbr_ex (cd := .eq) (x := (x3 - x4)) (y := (5 : Int32)) (fun hc6 => zB_iff.mpr ?_) (fun hc6 => zB_iff.mpr ?_))
    · -- pc 28
      have i6 : (x3 - x4).toInt = (5 : Int) := zop_int.mp hc6
      refine zrn_ok HW 6 (zB_iff.mpr (?_ : G (36, [(3, .inl (.int (0 : Int32))), (2, .inl (.int (5 : Int32))), (0, .inl (.ref q)), (1, .inl (.ref 1000005))], [.inl (.ref q)], h, 0, 0)))
      obtain ⟨v7, g7, s7⟩ := hOK_get (i := 0) ok.1 hq_q (by decide)
      obtain ⟨q7, rfl, hq7⟩ : ∃ q : Nat, v7 = .inl (.ref q) ∧ T[q]? = some 18 := s7
      refine g_getf HW rfl ok.1 hq_q rfl g7 ?_
      refine zrn_ok HW 1 (zB_iff.mpr (?_ : G (40, [(3, .inl (.int (0 : Int32))), (2, .inl (.int (5 : Int32))), (0, .inl (.ref q)), (1, .inl (.ref 1000005))], [.inl (.ref q), .inl (.ref q7)], h, 0, 0)))
      obtain ⟨x8, g8, e8, l8, u8⟩ := hi_val (i := 3) ok.1 hq_q (by decide) rfl
      have l8 : (0 : Int) ≤ x8.toInt := l8
      have u8 : x8.toInt ≤ (250 : Int) := u8
      refine g_getf HW rfl ok.1 hq_q rfl g8 ?_
      have y9 : -2147483648 ≤ x8.toInt + (0 : Int) → x8.toInt + (0 : Int) ≤ 2147483647 → (x8 + (0 : Int32)).toInt = x8.toInt + (0 : Int) := t_addC (x := x8) (y := (0 : Int32))
      refine zrn_ok HW 2 (zB_iff.mpr (?_ : G (45, [(3, .inl (.int (0 : Int32))), (2, .inl (.int (5 : Int32))), (0, .inl (.ref q)), (1, .inl (.ref 1000005))], [.inl (.int (x8 + (0 : Int32))), .inl (.ref q7)], h, 0, 0)))
      obtain ⟨x10, g10, e10, l10, u10⟩ := hi_val (i := ((x8 + (0 : Int32))).toInt.toNat) ok.1 hq7 (by show _ < 250; omega) rfl
      have l10 : (0 : Int) ≤ x10.toInt := l10
      have u10 : x10.toInt ≤ (255 : Int) := u10
      refine g_iald HW rfl ok.1 hq7 rfl (by omega) g10 ?_
      refine zrn_ok HW 4 (zbr_ex (cd := .eq) (x := x10) (y := (108 : Int32)) (fun hc11 => zB_iff.mpr ?_) (fun hc11 => zB_iff.mpr ?_))
      · -- pc 56
        have i11 : x10.toInt = (108 : Int) := zop_int.mp hc11
        refine zrn_ok HW 6 (zB_iff.mpr (?_ : G (36, [(3, .inl (.int (1 : Int32))), (2, .inl (.int (5 : Int32))), (0, .inl (.ref q)), (1, .inl (.ref 1000005))], [.inl (.ref q)], h, 0, 0)))
        obtain ⟨v12, g12, s12⟩ := hOK_get (i := 0) ok.1 hq_q (by decide)
        obtain ⟨q12, rfl, hq12⟩ : ∃ q : Nat, v12 = .inl (.ref q) ∧ T[q]? = some 18 := s12
        refine g_getf HW rfl ok.1 hq_q rfl g12 ?_
        refine zrn_ok HW 1 (zB_iff.mpr (?_ : G (40, [(3, .inl (.int (1 : Int32))), (2, .inl (.int (5 : Int32))), (0, .inl (.ref q)), (1, .inl (.ref 1000005))], [.inl (.ref q), .inl (.ref q12)], h, 0, 0)))
        obtain ⟨x13, g13, e13, l13, u13⟩ := hi_val (i := 3) ok.1 hq_q (by decide) rfl
        have l13 : (0 : Int) ≤ x13.toInt := l13
        have u13 : x13.toInt ≤ (250 : Int) := u13
        refine g_getf HW rfl ok.1 hq_q rfl g13 ?_
        have y14 : -2147483648 ≤ x13.toInt + (1 : Int) → x13.toInt + (1 : Int) ≤ 2147483647 → (x13 + (1 : Int32)).toInt = x13.toInt + (1 : Int) := t_addC (x := x13) (y := (1 : Int32))
        refine zrn_ok HW 2 (zB_iff.mpr (?_ : G (45, [(3, .inl (.int (1 : Int32))), (2, .inl (.int (5 : Int32))), (0, .inl (.ref q)), (1, .inl (.ref 1000005))], [.inl (.int (x13 + (1 : Int32))), .inl (.ref q12)], h, 0, 0)))
        obtain ⟨x15, g15, e15, l15, u15⟩ := hi_val (i := ((x13 + (1 : Int32))).toInt.toNat) ok.1 hq12 (by show _ < 250; omega) rfl
        have l15 : (0 : Int) ≤ x15.toInt := l15
        have u15 : x15.toInt ≤ (255 : Int) := u15
        refine g_iald HW rfl ok.1 hq12 rfl (by omega) g15 ?_
        refine zrn_ok HW 4 (zbr_ex (cd := .eq) (x := x15) (y := (105 : Int32)) (fun hc16 => zB_iff.mpr ?_) (fun hc16 => zB_iff.mpr ?_))
        · -- pc 56
          have i16 : x15.toInt = (105 : Int) := zop_int.mp hc16
          refine zrn_ok HW 6 (zB_iff.mpr (?_ : G (36, [(3, .inl (.int (2 : Int32))), (2, .inl (.int (5 : Int32))), (0, .inl (.ref q)), (1, .inl (.ref 1000005))], [.inl (.ref q)], h, 0, 0)))
          obtain ⟨v17, g17, s17⟩ := hOK_get (i := 0) ok.1 hq_q (by decide)
          obtain ⟨q17, rfl, hq17⟩ : ∃ q : Nat, v17 = .inl (.ref q) ∧ T[q]? = some 18 := s17
          refine g_getf HW rfl ok.1 hq_q rfl g17 ?_
          refine zrn_ok HW 1 (zB_iff.mpr (?_ : G (40, [(3, .inl (.int (2 : Int32))), (2, .inl (.int (5 : Int32))), (0, .inl (.ref q)), (1, .inl (.ref 1000005))], [.inl (.ref q), .inl (.ref q17)], h, 0, 0)))
          obtain ⟨x18, g18, e18, l18, u18⟩ := hi_val (i := 3) ok.1 hq_q (by decide) rfl
          have l18 : (0 : Int) ≤ x18.toInt := l18
          have u18 : x18.toInt ≤ (250 : Int) := u18
          refine g_getf HW rfl ok.1 hq_q rfl g18 ?_
          have y19 : -2147483648 ≤ x18.toInt + (2 : Int) → x18.toInt + (2 : Int) ≤ 2147483647 → (x18 + (2 : Int32)).toInt = x18.toInt + (2 : Int) := t_addC (x := x18) (y := (2 : Int32))
          refine zrn_ok HW 2 (zB_iff.mpr (?_ : G (45, [(3, .inl (.int (2 : Int32))), (2, .inl (.int (5 : Int32))), (0, .inl (.ref q)), (1, .inl (.ref 1000005))], [.inl (.int (x18 + (2 : Int32))), .inl (.ref q17)], h, 0, 0)))
          obtain ⟨x20, g20, e20, l20, u20⟩ := hi_val (i := ((x18 + (2 : Int32))).toInt.toNat) ok.1 hq17 (by show _ < 250; omega) rfl
          have l20 : (0 : Int) ≤ x20.toInt := l20
          have u20 : x20.toInt ≤ (255 : Int) := u20
          refine g_iald HW rfl ok.1 hq17 rfl (by omega) g20 ?_
          refine zrn_ok HW 4 (zbr_ex (cd := .eq) (x := x20) (y := (107 : Int32)) (fun hc21 => zB_iff.mpr ?_) (fun hc21 => zB_iff.mpr ?_))
          · -- pc 56
            have i21 : x20.toInt = (107 : Int) := zop_int.mp hc21
            refine zrn_ok HW 6 (zB_iff.mpr (?_ : G (36, [(3, .inl (.int (3 : Int32))), (2, .inl (.int (5 : Int32))), (0, .inl (.ref q)), (1, .inl (.ref 1000005))], [.inl (.ref q)], h, 0, 0)))
            obtain ⟨v22, g22, s22⟩ := hOK_get (i := 0) ok.1 hq_q (by decide)
            obtain ⟨q22, rfl, hq22⟩ : ∃ q : Nat, v22 = .inl (.ref q) ∧ T[q]? = some 18 := s22
            refine g_getf HW rfl ok.1 hq_q rfl g22 ?_
            refine zrn_ok HW 1 (zB_iff.mpr (?_ : G (40, [(3, .inl (.int (3 : Int32))), (2, .inl (.int (5 : Int32))), (0, .inl (.ref q)), (1, .inl (.ref 1000005))], [.inl (.ref q), .inl (.ref q22)], h, 0, 0)))
            obtain ⟨x23, g23, e23, l23, u23⟩ := hi_val (i := 3) ok.1 hq_q (by decide) rfl
            have l23 : (0 : Int) ≤ x23.toInt := l23
            have u23 : x23.toInt ≤ (250 : Int) := u23
            refine g_getf HW rfl ok.1 hq_q rfl g23 ?_
            have y24 : -2147483648 ≤ x23.toInt + (3 : Int) → x23.toInt + (3 : Int) ≤ 2147483647 → (x23 + (3 : Int32)).toInt = x23.toInt + (3 : Int) := t_addC (x := x23) (y := (3 : Int32))
            refine zrn_ok HW 2 (zB_iff.mpr (?_ : G (45, [(3, .inl (.int (3 : Int32))), (2, .inl (.int (5 : Int32))), (0, .inl (.ref q)), (1, .inl (.ref 1000005))], [.inl (.int (x23 + (3 : Int32))), .inl (.ref q22)], h, 0, 0)))
            obtain ⟨x25, g25, e25, l25, u25⟩ := hi_val (i := ((x23 + (3 : Int32))).toInt.toNat) ok.1 hq22 (by show _ < 250; omega) rfl
            have l25 : (0 : Int) ≤ x25.toInt := l25
            have u25 : x25.toInt ≤ (255 : Int) := u25
            refine g_iald HW rfl ok.1 hq22 rfl (by omega) g25 ?_
            refine zrn_ok HW 4 (zbr_ex (cd := .eq) (x := x25) (y := (101 : Int32)) (fun hc26 => zB_iff.mpr ?_) (fun hc26 => zB_iff.mpr ?_))
            · -- pc 56
              have i26 : x25.toInt = (101 : Int) := zop_int.mp hc26
              refine zrn_ok HW 6 (zB_iff.mpr (?_ : G (36, [(3, .inl (.int (4 : Int32))), (2, .inl (.int (5 : Int32))), (0, .inl (.ref q)), (1, .inl (.ref 1000005))], [.inl (.ref q)], h, 0, 0)))
              obtain ⟨v27, g27, s27⟩ := hOK_get (i := 0) ok.1 hq_q (by decide)
              obtain ⟨q27, rfl, hq27⟩ : ∃ q : Nat, v27 = .inl (.ref q) ∧ T[q]? = some 18 := s27
              refine g_getf HW rfl ok.1 hq_q rfl g27 ?_
              refine zrn_ok HW 1 (zB_iff.mpr (?_ : G (40, [(3, .inl (.int (4 : Int32))), (2, .inl (.int (5 : Int32))), (0, .inl (.ref q)), (1, .inl (.ref 1000005))], [.inl (.ref q), .inl (.ref q27)], h, 0, 0)))
              obtain ⟨x28, g28, e28, l28, u28⟩ := hi_val (i := 3) ok.1 hq_q (by decide) rfl
              have l28 : (0 : Int) ≤ x28.toInt := l28
              have u28 : x28.toInt ≤ (250 : Int) := u28
              refine g_getf HW rfl ok.1 hq_q rfl g28 ?_
              have y29 : -2147483648 ≤ x28.toInt + (4 : Int) → x28.toInt + (4 : Int) ≤ 2147483647 → (x28 + (4 : Int32)).toInt = x28.toInt + (4 : Int) := t_addC (x := x28) (y := (4 : Int32))
              refine zrn_ok HW 2 (zB_iff.mpr (?_ : G (45, [(3, .inl (.int (4 : Int32))), (2, .inl (.int (5 : Int32))), (0, .inl (.ref q)), (1, .inl (.ref 1000005))], [.inl (.int (x28 + (4 : Int32))), .inl (.ref q27)], h, 0, 0)))
              obtain ⟨x30, g30, e30, l30, u30⟩ := hi_val (i := ((x28 + (4 : Int32))).toInt.toNat) ok.1 hq27 (by show _ < 250; omega) rfl
              have l30 : (0 : Int) ≤ x30.toInt := l30
              have u30 : x30.toInt ≤ (255 : Int) := u30
              refine g_iald HW rfl ok.1 hq27 rfl (by omega) g30 ?_
              refine zrn_ok HW 4 (zbr_ex (cd := .eq) (x := x30) (y := (115 : Int32)) (fun hc31 => zB_iff.mpr ?_) (fun hc31 => zB_iff.mpr ?_))
              · -- pc 56
                have i31 : x30.toInt = (115 : Int) := zop_int.mp hc31
                refine zrn_ok HW 7 ?_
                exact zret_z rfl rfl (RET (1 : Int32) T h (tExt_rf T) ok (by decide) (by decide))
              · -- pc 54
                have i31 : ¬ (x30.toInt = (115 : Int)) := fun e => hc31 (zop_int.mpr e)
                refine zrn_ok HW 2 ?_
                exact zret_z rfl rfl (RET (0 : Int32) T h (tExt_rf T) ok (by decide) (by decide))
            · -- pc 54
              have i26 : ¬ (x25.toInt = (101 : Int)) := fun e => hc26 (zop_int.mpr e)
              refine zrn_ok HW 2 ?_
              exact zret_z rfl rfl (RET (0 : Int32) T h (tExt_rf T) ok (by decide) (by decide))
          · -- pc 54
            have i21 : ¬ (x20.toInt = (107 : Int)) := fun e => hc21 (zop_int.mpr e)
            refine zrn_ok HW 2 ?_
            exact zret_z rfl rfl (RET (0 : Int32) T h (tExt_rf T) ok (by decide) (by decide))
        · -- pc 54
          have i16 : ¬ (x15.toInt = (105 : Int)) := fun e => hc16 (zop_int.mpr e)
          refine zrn_ok HW 2 ?_
          exact zret_z rfl rfl (RET (0 : Int32) T h (tExt_rf T) ok (by decide) (by decide))
      · -- pc 54
        have i11 : ¬ (x10.toInt = (108 : Int)) := fun e => hc11 (zop_int.mpr e)
        refine zrn_ok HW 2 ?_
        exact zret_z rfl rfl (RET (0 : Int32) T h (tExt_rf T) ok (by decide) (by decide))
    · -- pc 26
      have i6 : ¬ ((x3 - x4).toInt = (5 : Int)) := fun e => hc6 (zop_int.mpr e)
      refine zrn_ok HW 2 ?_
      exact zret_z rfl rfl (RET (0 : Int32) T h (tExt_rf T) ok (by decide) (by decide))
theorem tq_X2_isWord_6 {scr : List zV} {Φ : List Nat → zH → Prop} (hst : tStab zty 43 Φ) : tM zty Φ zprog scr zhts zsm 8 te_X2_isWord_6 := by
  refine t_hand2 (E := ze_X2_isWord) (D0 := 0) rfl rfl (by decide +kernel) (fun d T h vs post G hd hok hΦ hlen hvs hp IH HW => ?_)
  obtain ⟨v_q, vs, rfl, k_q, hvs⟩ := okAs_cons hvs
  obtain ⟨v_w, vs, rfl, k_w, hvs⟩ := okAs_cons hvs
  obtain rfl := okAs_nil hvs
  obtain ⟨q, rfl, hq_q⟩ := tref_sp rfl k_q
  have hq_q : T[q]? = some 2 := hq_q
  obtain rfl : v_w = .inl (.ref 1000006) := k_w
  have ok : wOK Φ h.length T h := ⟨hok, hΦ, Nat.le_refl _⟩
  have RET : ∀ (y : Int32) (T' : List Nat) (h' : zH), tExt T T' → wOK Φ h.length T' h' → 0 ≤ y.toInt → y.toInt ≤ 1 → post (some (.inl (.int y))) h' = true := fun y T' h' m' ok' b1 b2 => hp _ T' h' m' ok'.1 ok'.2.1 (by have := ok'.2.2; omega) ⟨_, rfl, okA_I b1 b2, fun c hc => by cases hc⟩
  refine zrn_ok HW 4 (zB_iff.mpr (?_ : G (6, [(2, .inl (.int (3 : Int32))), (0, .inl (.ref q)), (1, .inl (.ref 1000006))], [.inl (.ref q)], h, 0, 0)))
  obtain ⟨x1, g1, e1, l1, u1⟩ := hi_val (i := 2) ok.1 hq_q (by decide) rfl
  have l1 : (0 : Int) ≤ x1.toInt := l1
  have u1 : x1.toInt ≤ (5 : Int) := u1
  refine g_getf HW rfl ok.1 hq_q rfl g1 ?_
  refine zrn_ok HW 2 (zbr_ex (cd := .ne) (x := x1) (y := (1 : Int32)) (fun hc2 => zB_iff.mpr ?_) (fun hc2 => zB_iff.mpr ?_))
  · -- pc 26
    have i2 : ¬ x1.toInt = (1 : Int) := zop_int.mp hc2
    refine zrn_ok HW 2 ?_
    exact zret_z rfl rfl (RET (0 : Int32) T h (tExt_rf T) ok (by decide) (by decide))
  · -- pc 13
    have i2 : ¬ (¬ x1.toInt = (1 : Int)) := fun e => hc2 (zop_int.mpr e)
    refine zrn_ok HW 1 (zB_iff.mpr (?_ : G (14, [(2, .inl (.int (3 : Int32))), (0, .inl (.ref q)), (1, .inl (.ref 1000006))], [.inl (.ref q)], h, 0, 0)))
    obtain ⟨x3, g3, e3, l3, u3⟩ := hi_val (i := 4) ok.1 hq_q (by decide) rfl
    have l3 : (0 : Int) ≤ x3.toInt := l3
    have u3 : x3.toInt ≤ (250 : Int) := u3
    refine g_getf HW rfl ok.1 hq_q rfl g3 ?_
    refine zrn_ok HW 1 (zB_iff.mpr (?_ : G (18, [(2, .inl (.int (3 : Int32))), (0, .inl (.ref q)), (1, .inl (.ref 1000006))], [.inl (.ref q), .inl (.int x3)], h, 0, 0)))
    obtain ⟨x4, g4, e4, l4, u4⟩ := hi_val (i := 3) ok.1 hq_q (by decide) rfl
    have l4 : (0 : Int) ≤ x4.toInt := l4
    have u4 : x4.toInt ≤ (250 : Int) := u4
    refine g_getf HW rfl ok.1 hq_q rfl g4 ?_
    have y5 : -2147483648 ≤ x3.toInt - x4.toInt → x3.toInt - x4.toInt ≤ 2147483647 → (x3 - x4).toInt = x3.toInt - x4.toInt := t_subC (x := x3) (y := x4)
    refine zrn_ok HW 3 (zbr_ex (cd := .eq) (x := (x3 - x4)) (y := (3 : Int32)) (fun hc6 => zB_iff.mpr ?_) (fun hc6 => zB_iff.mpr ?_))
    · -- pc 28
      have i6 : (x3 - x4).toInt = (3 : Int) := zop_int.mp hc6
      refine zrn_ok HW 6 (zB_iff.mpr (?_ : G (36, [(3, .inl (.int (0 : Int32))), (2, .inl (.int (3 : Int32))), (0, .inl (.ref q)), (1, .inl (.ref 1000006))], [.inl (.ref q)], h, 0, 0)))
      obtain ⟨v7, g7, s7⟩ := hOK_get (i := 0) ok.1 hq_q (by decide)
      obtain ⟨q7, rfl, hq7⟩ : ∃ q : Nat, v7 = .inl (.ref q) ∧ T[q]? = some 18 := s7
      refine g_getf HW rfl ok.1 hq_q rfl g7 ?_
      refine zrn_ok HW 1 (zB_iff.mpr (?_ : G (40, [(3, .inl (.int (0 : Int32))), (2, .inl (.int (3 : Int32))), (0, .inl (.ref q)), (1, .inl (.ref 1000006))], [.inl (.ref q), .inl (.ref q7)], h, 0, 0)))
      obtain ⟨x8, g8, e8, l8, u8⟩ := hi_val (i := 3) ok.1 hq_q (by decide) rfl
      have l8 : (0 : Int) ≤ x8.toInt := l8
      have u8 : x8.toInt ≤ (250 : Int) := u8
      refine g_getf HW rfl ok.1 hq_q rfl g8 ?_
      have y9 : -2147483648 ≤ x8.toInt + (0 : Int) → x8.toInt + (0 : Int) ≤ 2147483647 → (x8 + (0 : Int32)).toInt = x8.toInt + (0 : Int) := t_addC (x := x8) (y := (0 : Int32))
      refine zrn_ok HW 2 (zB_iff.mpr (?_ : G (45, [(3, .inl (.int (0 : Int32))), (2, .inl (.int (3 : Int32))), (0, .inl (.ref q)), (1, .inl (.ref 1000006))], [.inl (.int (x8 + (0 : Int32))), .inl (.ref q7)], h, 0, 0)))
      obtain ⟨x10, g10, e10, l10, u10⟩ := hi_val (i := ((x8 + (0 : Int32))).toInt.toNat) ok.1 hq7 (by show _ < 250; omega) rfl
      have l10 : (0 : Int) ≤ x10.toInt := l10
      have u10 : x10.toInt ≤ (255 : Int) := u10
      refine g_iald HW rfl ok.1 hq7 rfl (by omega) g10 ?_
      refine zrn_ok HW 4 (zbr_ex (cd := .eq) (x := x10) (y := (111 : Int32)) (fun hc11 => zB_iff.mpr ?_) (fun hc11 => zB_iff.mpr ?_))
      · -- pc 56
        have i11 : x10.toInt = (111 : Int) := zop_int.mp hc11
        refine zrn_ok HW 6 (zB_iff.mpr (?_ : G (36, [(3, .inl (.int (1 : Int32))), (2, .inl (.int (3 : Int32))), (0, .inl (.ref q)), (1, .inl (.ref 1000006))], [.inl (.ref q)], h, 0, 0)))
        obtain ⟨v12, g12, s12⟩ := hOK_get (i := 0) ok.1 hq_q (by decide)
        obtain ⟨q12, rfl, hq12⟩ : ∃ q : Nat, v12 = .inl (.ref q) ∧ T[q]? = some 18 := s12
        refine g_getf HW rfl ok.1 hq_q rfl g12 ?_
        refine zrn_ok HW 1 (zB_iff.mpr (?_ : G (40, [(3, .inl (.int (1 : Int32))), (2, .inl (.int (3 : Int32))), (0, .inl (.ref q)), (1, .inl (.ref 1000006))], [.inl (.ref q), .inl (.ref q12)], h, 0, 0)))
        obtain ⟨x13, g13, e13, l13, u13⟩ := hi_val (i := 3) ok.1 hq_q (by decide) rfl
        have l13 : (0 : Int) ≤ x13.toInt := l13
        have u13 : x13.toInt ≤ (250 : Int) := u13
        refine g_getf HW rfl ok.1 hq_q rfl g13 ?_
        have y14 : -2147483648 ≤ x13.toInt + (1 : Int) → x13.toInt + (1 : Int) ≤ 2147483647 → (x13 + (1 : Int32)).toInt = x13.toInt + (1 : Int) := t_addC (x := x13) (y := (1 : Int32))
        refine zrn_ok HW 2 (zB_iff.mpr (?_ : G (45, [(3, .inl (.int (1 : Int32))), (2, .inl (.int (3 : Int32))), (0, .inl (.ref q)), (1, .inl (.ref 1000006))], [.inl (.int (x13 + (1 : Int32))), .inl (.ref q12)], h, 0, 0)))
        obtain ⟨x15, g15, e15, l15, u15⟩ := hi_val (i := ((x13 + (1 : Int32))).toInt.toNat) ok.1 hq12 (by show _ < 250; omega) rfl
        have l15 : (0 : Int) ≤ x15.toInt := l15
        have u15 : x15.toInt ≤ (255 : Int) := u15
        refine g_iald HW rfl ok.1 hq12 rfl (by omega) g15 ?_
        refine zrn_ok HW 4 (zbr_ex (cd := .eq) (x := x15) (y := (117 : Int32)) (fun hc16 => zB_iff.mpr ?_) (fun hc16 => zB_iff.mpr ?_))
        · -- pc 56
          have i16 : x15.toInt = (117 : Int) := zop_int.mp hc16
          refine zrn_ok HW 6 (zB_iff.mpr (?_ : G (36, [(3, .inl (.int (2 : Int32))), (2, .inl (.int (3 : Int32))), (0, .inl (.ref q)), (1, .inl (.ref 1000006))], [.inl (.ref q)], h, 0, 0)))
          obtain ⟨v17, g17, s17⟩ := hOK_get (i := 0) ok.1 hq_q (by decide)
          obtain ⟨q17, rfl, hq17⟩ : ∃ q : Nat, v17 = .inl (.ref q) ∧ T[q]? = some 18 := s17
          refine g_getf HW rfl ok.1 hq_q rfl g17 ?_
          refine zrn_ok HW 1 (zB_iff.mpr (?_ : G (40, [(3, .inl (.int (2 : Int32))), (2, .inl (.int (3 : Int32))), (0, .inl (.ref q)), (1, .inl (.ref 1000006))], [.inl (.ref q), .inl (.ref q17)], h, 0, 0)))
          obtain ⟨x18, g18, e18, l18, u18⟩ := hi_val (i := 3) ok.1 hq_q (by decide) rfl
          have l18 : (0 : Int) ≤ x18.toInt := l18
          have u18 : x18.toInt ≤ (250 : Int) := u18
          refine g_getf HW rfl ok.1 hq_q rfl g18 ?_
          have y19 : -2147483648 ≤ x18.toInt + (2 : Int) → x18.toInt + (2 : Int) ≤ 2147483647 → (x18 + (2 : Int32)).toInt = x18.toInt + (2 : Int) := t_addC (x := x18) (y := (2 : Int32))
          refine zrn_ok HW 2 (zB_iff.mpr (?_ : G (45, [(3, .inl (.int (2 : Int32))), (2, .inl (.int (3 : Int32))), (0, .inl (.ref q)), (1, .inl (.ref 1000006))], [.inl (.int (x18 + (2 : Int32))), .inl (.ref q17)], h, 0, 0)))
          obtain ⟨x20, g20, e20, l20, u20⟩ := hi_val (i := ((x18 + (2 : Int32))).toInt.toNat) ok.1 hq17 (by show _ < 250; omega) rfl
          have l20 : (0 : Int) ≤ x20.toInt := l20
          have u20 : x20.toInt ≤ (255 : Int) := u20
          refine g_iald HW rfl ok.1 hq17 rfl (by omega) g20 ?_
          refine zrn_ok HW 4 (zbr_ex (cd := .eq) (x := x20) (y := (116 : Int32)) (fun hc21 => zB_iff.mpr ?_) (fun hc21 => zB_iff.mpr ?_))
          · -- pc 56
            have i21 : x20.toInt = (116 : Int) := zop_int.mp hc21
            refine zrn_ok HW 7 ?_
            exact zret_z rfl rfl (RET (1 : Int32) T h (tExt_rf T) ok (by decide) (by decide))
          · -- pc 54
            have i21 : ¬ (x20.toInt = (116 : Int)) := fun e => hc21 (zop_int.mpr e)
            refine zrn_ok HW 2 ?_
            exact zret_z rfl rfl (RET (0 : Int32) T h (tExt_rf T) ok (by decide) (by decide))
        · -- pc 54
          have i16 : ¬ (x15.toInt = (117 : Int)) := fun e => hc16 (zop_int.mpr e)
          refine zrn_ok HW 2 ?_
          exact zret_z rfl rfl (RET (0 : Int32) T h (tExt_rf T) ok (by decide) (by decide))
      · -- pc 54
        have i11 : ¬ (x10.toInt = (111 : Int)) := fun e => hc11 (zop_int.mpr e)
        refine zrn_ok HW 2 ?_
        exact zret_z rfl rfl (RET (0 : Int32) T h (tExt_rf T) ok (by decide) (by decide))
    · -- pc 26
      have i6 : ¬ ((x3 - x4).toInt = (3 : Int)) := fun e => hc6 (zop_int.mpr e)
      refine zrn_ok HW 2 ?_
      exact zret_z rfl rfl (RET (0 : Int32) T h (tExt_rf T) ok (by decide) (by decide))
theorem tq_X2_isWord_7 {scr : List zV} {Φ : List Nat → zH → Prop} (hst : tStab zty 43 Φ) : tM zty Φ zprog scr zhts zsm 8 te_X2_isWord_7 := by
  refine t_hand2 (E := ze_X2_isWord) (D0 := 0) rfl rfl (by decide +kernel) (fun d T h vs post G hd hok hΦ hlen hvs hp IH HW => ?_)
  obtain ⟨v_q, vs, rfl, k_q, hvs⟩ := okAs_cons hvs
  obtain ⟨v_w, vs, rfl, k_w, hvs⟩ := okAs_cons hvs
  obtain rfl := okAs_nil hvs
  obtain ⟨q, rfl, hq_q⟩ := tref_sp rfl k_q
  have hq_q : T[q]? = some 2 := hq_q
  obtain rfl : v_w = .inl (.ref 1000007) := k_w
  have ok : wOK Φ h.length T h := ⟨hok, hΦ, Nat.le_refl _⟩
  have RET : ∀ (y : Int32) (T' : List Nat) (h' : zH), tExt T T' → wOK Φ h.length T' h' → 0 ≤ y.toInt → y.toInt ≤ 1 → post (some (.inl (.int y))) h' = true := fun y T' h' m' ok' b1 b2 => hp _ T' h' m' ok'.1 ok'.2.1 (by have := ok'.2.2; omega) ⟨_, rfl, okA_I b1 b2, fun c hc => by cases hc⟩
  refine zrn_ok HW 4 (zB_iff.mpr (?_ : G (6, [(2, .inl (.int (4 : Int32))), (0, .inl (.ref q)), (1, .inl (.ref 1000007))], [.inl (.ref q)], h, 0, 0)))
  obtain ⟨x1, g1, e1, l1, u1⟩ := hi_val (i := 2) ok.1 hq_q (by decide) rfl
  have l1 : (0 : Int) ≤ x1.toInt := l1
  have u1 : x1.toInt ≤ (5 : Int) := u1
  refine g_getf HW rfl ok.1 hq_q rfl g1 ?_
  refine zrn_ok HW 2 (zbr_ex (cd := .ne) (x := x1) (y := (1 : Int32)) (fun hc2 => zB_iff.mpr ?_) (fun hc2 => zB_iff.mpr ?_))
  · -- pc 26
    have i2 : ¬ x1.toInt = (1 : Int) := zop_int.mp hc2
    refine zrn_ok HW 2 ?_
    exact zret_z rfl rfl (RET (0 : Int32) T h (tExt_rf T) ok (by decide) (by decide))
  · -- pc 13
    have i2 : ¬ (¬ x1.toInt = (1 : Int)) := fun e => hc2 (zop_int.mpr e)
    refine zrn_ok HW 1 (zB_iff.mpr (?_ : G (14, [(2, .inl (.int (4 : Int32))), (0, .inl (.ref q)), (1, .inl (.ref 1000007))], [.inl (.ref q)], h, 0, 0)))
    obtain ⟨x3, g3, e3, l3, u3⟩ := hi_val (i := 4) ok.1 hq_q (by decide) rfl
    have l3 : (0 : Int) ≤ x3.toInt := l3
    have u3 : x3.toInt ≤ (250 : Int) := u3
    refine g_getf HW rfl ok.1 hq_q rfl g3 ?_
    refine zrn_ok HW 1 (zB_iff.mpr (?_ : G (18, [(2, .inl (.int (4 : Int32))), (0, .inl (.ref q)), (1, .inl (.ref 1000007))], [.inl (.ref q), .inl (.int x3)], h, 0, 0)))
    obtain ⟨x4, g4, e4, l4, u4⟩ := hi_val (i := 3) ok.1 hq_q (by decide) rfl
    have l4 : (0 : Int) ≤ x4.toInt := l4
    have u4 : x4.toInt ≤ (250 : Int) := u4
    refine g_getf HW rfl ok.1 hq_q rfl g4 ?_
    have y5 : -2147483648 ≤ x3.toInt - x4.toInt → x3.toInt - x4.toInt ≤ 2147483647 → (x3 - x4).toInt = x3.toInt - x4.toInt := t_subC (x := x3) (y := x4)
    refine zrn_ok HW 3 (zbr_ex (cd := .eq) (x := (x3 - x4)) (y := (4 : Int32)) (fun hc6 => zB_iff.mpr ?_) (fun hc6 => zB_iff.mpr ?_))
    · -- pc 28
      have i6 : (x3 - x4).toInt = (4 : Int) := zop_int.mp hc6
      refine zrn_ok HW 6 (zB_iff.mpr (?_ : G (36, [(3, .inl (.int (0 : Int32))), (2, .inl (.int (4 : Int32))), (0, .inl (.ref q)), (1, .inl (.ref 1000007))], [.inl (.ref q)], h, 0, 0)))
      obtain ⟨v7, g7, s7⟩ := hOK_get (i := 0) ok.1 hq_q (by decide)
      obtain ⟨q7, rfl, hq7⟩ : ∃ q : Nat, v7 = .inl (.ref q) ∧ T[q]? = some 18 := s7
      refine g_getf HW rfl ok.1 hq_q rfl g7 ?_
      refine zrn_ok HW 1 (zB_iff.mpr (?_ : G (40, [(3, .inl (.int (0 : Int32))), (2, .inl (.int (4 : Int32))), (0, .inl (.ref q)), (1, .inl (.ref 1000007))], [.inl (.ref q), .inl (.ref q7)], h, 0, 0)))
      obtain ⟨x8, g8, e8, l8, u8⟩ := hi_val (i := 3) ok.1 hq_q (by decide) rfl
      have l8 : (0 : Int) ≤ x8.toInt := l8
      have u8 : x8.toInt ≤ (250 : Int) := u8
      refine g_getf HW rfl ok.1 hq_q rfl g8 ?_
      have y9 : -2147483648 ≤ x8.toInt + (0 : Int) → x8.toInt + (0 : Int) ≤ 2147483647 → (x8 + (0 : Int32)).toInt = x8.toInt + (0 : Int) := t_addC (x := x8) (y := (0 : Int32))
      refine zrn_ok HW 2 (zB_iff.mpr (?_ : G (45, [(3, .inl (.int (0 : Int32))), (2, .inl (.int (4 : Int32))), (0, .inl (.ref q)), (1, .inl (.ref 1000007))], [.inl (.int (x8 + (0 : Int32))), .inl (.ref q7)], h, 0, 0)))
      obtain ⟨x10, g10, e10, l10, u10⟩ := hi_val (i := ((x8 + (0 : Int32))).toInt.toNat) ok.1 hq7 (by show _ < 250; omega) rfl
      have l10 : (0 : Int) ≤ x10.toInt := l10
      have u10 : x10.toInt ≤ (255 : Int) := u10
      refine g_iald HW rfl ok.1 hq7 rfl (by omega) g10 ?_
      refine zrn_ok HW 4 (zbr_ex (cd := .eq) (x := x10) (y := (102 : Int32)) (fun hc11 => zB_iff.mpr ?_) (fun hc11 => zB_iff.mpr ?_))
      · -- pc 56
        have i11 : x10.toInt = (102 : Int) := zop_int.mp hc11
        refine zrn_ok HW 6 (zB_iff.mpr (?_ : G (36, [(3, .inl (.int (1 : Int32))), (2, .inl (.int (4 : Int32))), (0, .inl (.ref q)), (1, .inl (.ref 1000007))], [.inl (.ref q)], h, 0, 0)))
        obtain ⟨v12, g12, s12⟩ := hOK_get (i := 0) ok.1 hq_q (by decide)
        obtain ⟨q12, rfl, hq12⟩ : ∃ q : Nat, v12 = .inl (.ref q) ∧ T[q]? = some 18 := s12
        refine g_getf HW rfl ok.1 hq_q rfl g12 ?_
        refine zrn_ok HW 1 (zB_iff.mpr (?_ : G (40, [(3, .inl (.int (1 : Int32))), (2, .inl (.int (4 : Int32))), (0, .inl (.ref q)), (1, .inl (.ref 1000007))], [.inl (.ref q), .inl (.ref q12)], h, 0, 0)))
        obtain ⟨x13, g13, e13, l13, u13⟩ := hi_val (i := 3) ok.1 hq_q (by decide) rfl
        have l13 : (0 : Int) ≤ x13.toInt := l13
        have u13 : x13.toInt ≤ (250 : Int) := u13
        refine g_getf HW rfl ok.1 hq_q rfl g13 ?_
        have y14 : -2147483648 ≤ x13.toInt + (1 : Int) → x13.toInt + (1 : Int) ≤ 2147483647 → (x13 + (1 : Int32)).toInt = x13.toInt + (1 : Int) := t_addC (x := x13) (y := (1 : Int32))
        refine zrn_ok HW 2 (zB_iff.mpr (?_ : G (45, [(3, .inl (.int (1 : Int32))), (2, .inl (.int (4 : Int32))), (0, .inl (.ref q)), (1, .inl (.ref 1000007))], [.inl (.int (x13 + (1 : Int32))), .inl (.ref q12)], h, 0, 0)))
        obtain ⟨x15, g15, e15, l15, u15⟩ := hi_val (i := ((x13 + (1 : Int32))).toInt.toNat) ok.1 hq12 (by show _ < 250; omega) rfl
        have l15 : (0 : Int) ≤ x15.toInt := l15
        have u15 : x15.toInt ≤ (255 : Int) := u15
        refine g_iald HW rfl ok.1 hq12 rfl (by omega) g15 ?_
        refine zrn_ok HW 4 (zbr_ex (cd := .eq) (x := x15) (y := (105 : Int32)) (fun hc16 => zB_iff.mpr ?_) (fun hc16 => zB_iff.mpr ?_))
        · -- pc 56
          have i16 : x15.toInt = (105 : Int) := zop_int.mp hc16
          refine zrn_ok HW 6 (zB_iff.mpr (?_ : G (36, [(3, .inl (.int (2 : Int32))), (2, .inl (.int (4 : Int32))), (0, .inl (.ref q)), (1, .inl (.ref 1000007))], [.inl (.ref q)], h, 0, 0)))
          obtain ⟨v17, g17, s17⟩ := hOK_get (i := 0) ok.1 hq_q (by decide)
          obtain ⟨q17, rfl, hq17⟩ : ∃ q : Nat, v17 = .inl (.ref q) ∧ T[q]? = some 18 := s17
          refine g_getf HW rfl ok.1 hq_q rfl g17 ?_
          refine zrn_ok HW 1 (zB_iff.mpr (?_ : G (40, [(3, .inl (.int (2 : Int32))), (2, .inl (.int (4 : Int32))), (0, .inl (.ref q)), (1, .inl (.ref 1000007))], [.inl (.ref q), .inl (.ref q17)], h, 0, 0)))
          obtain ⟨x18, g18, e18, l18, u18⟩ := hi_val (i := 3) ok.1 hq_q (by decide) rfl
          have l18 : (0 : Int) ≤ x18.toInt := l18
          have u18 : x18.toInt ≤ (250 : Int) := u18
          refine g_getf HW rfl ok.1 hq_q rfl g18 ?_
          have y19 : -2147483648 ≤ x18.toInt + (2 : Int) → x18.toInt + (2 : Int) ≤ 2147483647 → (x18 + (2 : Int32)).toInt = x18.toInt + (2 : Int) := t_addC (x := x18) (y := (2 : Int32))
          refine zrn_ok HW 2 (zB_iff.mpr (?_ : G (45, [(3, .inl (.int (2 : Int32))), (2, .inl (.int (4 : Int32))), (0, .inl (.ref q)), (1, .inl (.ref 1000007))], [.inl (.int (x18 + (2 : Int32))), .inl (.ref q17)], h, 0, 0)))
          obtain ⟨x20, g20, e20, l20, u20⟩ := hi_val (i := ((x18 + (2 : Int32))).toInt.toNat) ok.1 hq17 (by show _ < 250; omega) rfl
          have l20 : (0 : Int) ≤ x20.toInt := l20
          have u20 : x20.toInt ≤ (255 : Int) := u20
          refine g_iald HW rfl ok.1 hq17 rfl (by omega) g20 ?_
          refine zrn_ok HW 4 (zbr_ex (cd := .eq) (x := x20) (y := (118 : Int32)) (fun hc21 => zB_iff.mpr ?_) (fun hc21 => zB_iff.mpr ?_))
          · -- pc 56
            have i21 : x20.toInt = (118 : Int) := zop_int.mp hc21
            refine zrn_ok HW 6 (zB_iff.mpr (?_ : G (36, [(3, .inl (.int (3 : Int32))), (2, .inl (.int (4 : Int32))), (0, .inl (.ref q)), (1, .inl (.ref 1000007))], [.inl (.ref q)], h, 0, 0)))
            obtain ⟨v22, g22, s22⟩ := hOK_get (i := 0) ok.1 hq_q (by decide)
            obtain ⟨q22, rfl, hq22⟩ : ∃ q : Nat, v22 = .inl (.ref q) ∧ T[q]? = some 18 := s22
            refine g_getf HW rfl ok.1 hq_q rfl g22 ?_
            refine zrn_ok HW 1 (zB_iff.mpr (?_ : G (40, [(3, .inl (.int (3 : Int32))), (2, .inl (.int (4 : Int32))), (0, .inl (.ref q)), (1, .inl (.ref 1000007))], [.inl (.ref q), .inl (.ref q22)], h, 0, 0)))
            obtain ⟨x23, g23, e23, l23, u23⟩ := hi_val (i := 3) ok.1 hq_q (by decide) rfl
            have l23 : (0 : Int) ≤ x23.toInt := l23
            have u23 : x23.toInt ≤ (250 : Int) := u23
            refine g_getf HW rfl ok.1 hq_q rfl g23 ?_
            have y24 : -2147483648 ≤ x23.toInt + (3 : Int) → x23.toInt + (3 : Int) ≤ 2147483647 → (x23 + (3 : Int32)).toInt = x23.toInt + (3 : Int) := t_addC (x := x23) (y := (3 : Int32))
            refine zrn_ok HW 2 (zB_iff.mpr (?_ : G (45, [(3, .inl (.int (3 : Int32))), (2, .inl (.int (4 : Int32))), (0, .inl (.ref q)), (1, .inl (.ref 1000007))], [.inl (.int (x23 + (3 : Int32))), .inl (.ref q22)], h, 0, 0)))
            obtain ⟨x25, g25, e25, l25, u25⟩ := hi_val (i := ((x23 + (3 : Int32))).toInt.toNat) ok.1 hq22 (by show _ < 250; omega) rfl
            have l25 : (0 : Int) ≤ x25.toInt := l25
            have u25 : x25.toInt ≤ (255 : Int) := u25
            refine g_iald HW rfl ok.1 hq22 rfl (by omega) g25 ?_
            refine zrn_ok HW 4 (zbr_ex (cd := .eq) (x := x25) (y := (101 : Int32)) (fun hc26 => zB_iff.mpr ?_) (fun hc26 => zB_iff.mpr ?_))
            · -- pc 56
              have i26 : x25.toInt = (101 : Int) := zop_int.mp hc26
              refine zrn_ok HW 7 ?_
              exact zret_z rfl rfl (RET (1 : Int32) T h (tExt_rf T) ok (by decide) (by decide))
            · -- pc 54
              have i26 : ¬ (x25.toInt = (101 : Int)) := fun e => hc26 (zop_int.mpr e)
              refine zrn_ok HW 2 ?_
              exact zret_z rfl rfl (RET (0 : Int32) T h (tExt_rf T) ok (by decide) (by decide))
          · -- pc 54
            have i21 : ¬ (x20.toInt = (118 : Int)) := fun e => hc21 (zop_int.mpr e)
            refine zrn_ok HW 2 ?_
            exact zret_z rfl rfl (RET (0 : Int32) T h (tExt_rf T) ok (by decide) (by decide))
        · -- pc 54
          have i16 : ¬ (x15.toInt = (105 : Int)) := fun e => hc16 (zop_int.mpr e)
          refine zrn_ok HW 2 ?_
          exact zret_z rfl rfl (RET (0 : Int32) T h (tExt_rf T) ok (by decide) (by decide))
      · -- pc 54
        have i11 : ¬ (x10.toInt = (102 : Int)) := fun e => hc11 (zop_int.mpr e)
        refine zrn_ok HW 2 ?_
        exact zret_z rfl rfl (RET (0 : Int32) T h (tExt_rf T) ok (by decide) (by decide))
    · -- pc 26
      have i6 : ¬ ((x3 - x4).toInt = (4 : Int)) := fun e => hc6 (zop_int.mpr e)
      refine zrn_ok HW 2 ?_
      exact zret_z rfl rfl (RET (0 : Int32) T h (tExt_rf T) ok (by decide) (by decide))
