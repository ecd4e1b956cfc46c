theorem tq_X1_addBuyer_0 {scr : List zV} {Φ : List Nat → zH → Prop} (hst : tStab zty 43 Φ) : tM zty Φ zprog scr zhts zsm 30 te_X1_addBuyer_0 := by
  refine t_hand (E := ze_X1_addBuyer) (D0 := 0) rfl rfl (by decide +kernel) (fun d T h vs post G hd hok hΦ hlen hvs hp IH HW => ?_)
  obtain ⟨v_q, vs, rfl, k_q, hvs⟩ := okAs_cons hvs
  obtain ⟨v_x, vs, rfl, k_x, hvs⟩ := okAs_cons hvs
  obtain rfl := okAs_nil hvs
  obtain ⟨q, rfl, hq_q⟩ := tref_sp rfl k_q
  have hq_q : T[q]? = some 1 := hq_q
  obtain ⟨x, rfl, bl_x, bu_x⟩ := tint_sp rfl k_x
  have bl_x : ((-2147483648) : Int) ≤ x.toInt := bl_x
  have bu_x : x.toInt ≤ (2147483647 : Int) := bu_x
  have ok : wOK Φ h.length T h := ⟨hok, hΦ, Nat.le_refl _⟩
  have RET : ∀ (y : Int32) (T' : List Nat) (h' : zH), tExt T T' → wOK Φ h.length T' h' → post (some (.inl (.int y))) h' = true := fun y T' h' m' ok' => hp _ T' h' m' ok'.1 ok'.2.1 (by have := ok'.2.2; omega) ⟨_, rfl, okA_If y, fun c hc => by cases hc⟩
  refine zrn_ok HW 1 (zB_iff.mpr (?_ : G (1, [(0, .inl (.ref q)), (1, .inl (.int x))], [.inl (.ref q)], h, 0, 0)))
  obtain ⟨x1, g1, e1, l1, u1⟩ := hi_val (i := 14) ok.1 hq_q (by decide) rfl
  have l1 : (0 : Int) ≤ x1.toInt := l1
  have u1 : x1.toInt ≤ (4 : Int) := u1
  refine g_getf HW rfl ok.1 hq_q rfl g1 ?_
  refine zrn_ok HW 4 (zbr_ex (cd := .lt) (x := x1) (y := (4 : Int32)) (fun hc2 => zB_iff.mpr ?_) (fun hc2 => zB_iff.mpr ?_))
  · -- pc 12
    have c2 := zlt_i hc2
    have c2 : x1.toInt < 4 := c2
    refine zrn_ok HW 1 (zB_iff.mpr (?_ : G (13, [(2, .inl (.int x1)), (0, .inl (.ref q)), (1, .inl (.int x))], [.inl (.ref q)], h, 0, 0)))
    obtain ⟨v3, g3, s3⟩ := hOK_get (i := 15) ok.1 hq_q (by decide)
    obtain ⟨q3, rfl, hq3⟩ : ∃ q : Nat, v3 = .inl (.ref q) ∧ T[q]? = some 16 := s3
    refine g_getf HW rfl ok.1 hq_q rfl g3 ?_
    refine zrn_ok HW 2 (zB_iff.mpr (?_ : G (18, [(2, .inl (.int x1)), (0, .inl (.ref q)), (1, .inl (.int x))], [.inl (.int x), .inl (.int x1), .inl (.ref q3)], h, 0, 0)))
    have ok4 : wOK Φ h.length T (hput h q3 (x1).toInt.toNat (.inl (.int x))) := wOK_put hst ok hq3 rfl ⟨_, rfl, t_lo _, t_hi _⟩
    refine g_iast HW rfl ok.1 hq3 rfl (by omega) (by show _ < (4 : Int); omega) ?_
    refine zrn_ok HW 2 (zB_iff.mpr (?_ : G (21, [(2, .inl (.int x1)), (0, .inl (.ref q)), (1, .inl (.int x))], [.inl (.ref q), .inl (.ref q)], (hput h q3 (x1).toInt.toNat (.inl (.int x))), 0, 0)))
    obtain ⟨x5, g5, e5, l5, u5⟩ := hi_val (i := 14) ok4.1 hq_q (by decide) rfl
    have l5 : (0 : Int) ≤ x5.toInt := l5
    have u5 : x5.toInt ≤ (4 : Int) := u5
    refine g_getf HW rfl ok4.1 hq_q rfl g5 ?_
    have e5 := hi_ne (Or.inl (ty_ne hq_q hq3 (by decide))) e5
    have i5 := t_inc (x := x5) (by omega)
    refine zrn_ok HW 2 (zB_iff.mpr (?_ : G (26, [(2, .inl (.int x1)), (0, .inl (.ref q)), (1, .inl (.int x))], [.inl (.int (x5 + (1 : Int32))), .inl (.ref q)], (hput h q3 (x1).toInt.toNat (.inl (.int x))), 0, 0)))
    have ok6 : wOK Φ h.length T (hput (hput h q3 (x1).toInt.toNat (.inl (.int x))) q 14 (.inl (.int (x5 + (1 : Int32))))) := wOK_put hst ok4 hq_q rfl ⟨_, rfl, (by show (0 : Int) ≤ _; omega), (by show _ ≤ (4 : Int); omega)⟩
    refine g_putf HW rfl ok4.1 hq_q rfl (by decide) rfl ?_
    refine zrn_ok HW 2 ?_
    exact zret_i rfl rfl (RET x1 T (hput (hput h q3 (x1).toInt.toNat (.inl (.int x))) q 14 (.inl (.int (x5 + (1 : Int32))))) (tExt_rf T) ok6)
  · -- pc 10
    refine zrn_ok HW 2 ?_
    exact zret_i rfl rfl (RET (-1 : Int32) T h (tExt_rf T) ok)
theorem tq_X1_addThing_0 {scr : List zV} {Φ : List Nat → zH → Prop} (hst : tStab zty 43 Φ) : tM zty Φ zprog scr zhts zsm 31 te_X1_addThing_0 := by
  refine t_hand (E := ze_X1_addThing) (D0 := 0) rfl rfl (by decide +kernel) (fun d T h vs post G hd hok hΦ hlen hvs hp IH HW => ?_)
  obtain ⟨v_q, vs, rfl, k_q, hvs⟩ := okAs_cons hvs
  obtain ⟨v_x, vs, rfl, k_x, hvs⟩ := okAs_cons hvs
  obtain ⟨v_y, vs, rfl, k_y, hvs⟩ := okAs_cons hvs
  obtain ⟨v_z, vs, rfl, k_z, hvs⟩ := okAs_cons hvs
  obtain rfl := okAs_nil hvs
  obtain ⟨q, rfl, hq_q⟩ := tref_sp rfl k_q
  have hq_q : T[q]? = some 1 := hq_q
  obtain ⟨x, rfl, bl_x, bu_x⟩ := tint_sp rfl k_x
  have bl_x : ((-2147483648) : Int) ≤ x.toInt := bl_x
  have bu_x : x.toInt ≤ (2147483647 : Int) := bu_x
  obtain ⟨y, rfl, bl_y, bu_y⟩ := tint_sp rfl k_y
  have bl_y : ((-2147483648) : Int) ≤ y.toInt := bl_y
  have bu_y : y.toInt ≤ (2147483647 : Int) := bu_y
  obtain ⟨z, rfl, bl_z, bu_z⟩ := tint_sp rfl k_z
  have bl_z : ((-2147483648) : Int) ≤ z.toInt := bl_z
  have bu_z : z.toInt ≤ (2147483647 : Int) := bu_z
  have ok : wOK Φ h.length T h := ⟨hok, hΦ, Nat.le_refl _⟩
  have RET : ∀ (y : Int32) (T' : List Nat) (h' : zH), tExt T T' → wOK Φ h.length T' h' → post (some (.inl (.int y))) h' = true := fun y T' h' m' ok' => hp _ T' h' m' ok'.1 ok'.2.1 (by have := ok'.2.2; omega) ⟨_, rfl, okA_If y, fun c hc => by cases hc⟩
  refine zrn_ok HW 1 (zB_iff.mpr (?_ : G (1, [(0, .inl (.ref q)), (1, .inl (.int x)), (2, .inl (.int y)), (3, .inl (.int z))], [.inl (.ref q)], h, 0, 0)))
  obtain ⟨x1, g1, e1, l1, u1⟩ := hi_val (i := 8) ok.1 hq_q (by decide) rfl
  have l1 : (0 : Int) ≤ x1.toInt := l1
  have u1 : x1.toInt ≤ (8 : Int) := u1
  refine g_getf HW rfl ok.1 hq_q rfl g1 ?_
  refine zrn_ok HW 4 (zbr_ex (cd := .lt) (x := x1) (y := (8 : Int32)) (fun hc2 => zB_iff.mpr ?_) (fun hc2 => zB_iff.mpr ?_))
  · -- pc 15
    have c2 := zlt_i hc2
    have c2 : x1.toInt < 8 := c2
    refine zrn_ok HW 1 (zB_iff.mpr (?_ : G (16, [(4, .inl (.int x1)), (0, .inl (.ref q)), (1, .inl (.int x)), (2, .inl (.int y)), (3, .inl (.int z))], [.inl (.ref q)], h, 0, 0)))
    obtain ⟨v3, g3, s3⟩ := hOK_get (i := 9) ok.1 hq_q (by decide)
    obtain ⟨q3, rfl, hq3⟩ : ∃ q : Nat, v3 = .inl (.ref q) ∧ T[q]? = some 11 := s3
    refine g_getf HW rfl ok.1 hq_q rfl g3 ?_
    refine zrn_ok HW 2 (zB_iff.mpr (?_ : G (22, [(4, .inl (.int x1)), (0, .inl (.ref q)), (1, .inl (.int x)), (2, .inl (.int y)), (3, .inl (.int z))], [.inl (.int x), .inl (.int x1), .inl (.ref q3)], h, 0, 0)))
    have ok4 : wOK Φ h.length T (hput h q3 (x1).toInt.toNat (.inl (.int x))) := wOK_put hst ok hq3 rfl ⟨_, rfl, t_lo _, t_hi _⟩
    refine g_iast HW rfl ok.1 hq3 rfl (by omega) (by show _ < (8 : Int); omega) ?_
    refine zrn_ok HW 1 (zB_iff.mpr (?_ : G (24, [(4, .inl (.int x1)), (0, .inl (.ref q)), (1, .inl (.int x)), (2, .inl (.int y)), (3, .inl (.int z))], [.inl (.ref q)], (hput h q3 (x1).toInt.toNat (.inl (.int x))), 0, 0)))
    obtain ⟨v5, g5, s5⟩ := hOK_get (i := 10) ok4.1 hq_q (by decide)
    obtain ⟨q5, rfl, hq5⟩ : ∃ q : Nat, v5 = .inl (.ref q) ∧ T[q]? = some 12 := s5
    refine g_getf HW rfl ok4.1 hq_q rfl g5 ?_
    refine zrn_ok HW 2 (zB_iff.mpr (?_ : G (30, [(4, .inl (.int x1)), (0, .inl (.ref q)), (1, .inl (.int x)), (2, .inl (.int y)), (3, .inl (.int z))], [.inl (.int y), .inl (.int x1), .inl (.ref q5)], (hput h q3 (x1).toInt.toNat (.inl (.int x))), 0, 0)))
    have ok6 : wOK Φ h.length T (hput (hput h q3 (x1).toInt.toNat (.inl (.int x))) q5 (x1).toInt.toNat (.inl (.int y))) := wOK_put hst ok4 hq5 rfl ⟨_, rfl, t_lo _, t_hi _⟩
    refine g_iast HW rfl ok4.1 hq5 rfl (by omega) (by show _ < (8 : Int); omega) ?_
    refine zrn_ok HW 1 (zB_iff.mpr (?_ : G (32, [(4, .inl (.int x1)), (0, .inl (.ref q)), (1, .inl (.int x)), (2, .inl (.int y)), (3, .inl (.int z))], [.inl (.ref q)], (hput (hput h q3 (x1).toInt.toNat (.inl (.int x))) q5 (x1).toInt.toNat (.inl (.int y))), 0, 0)))
    obtain ⟨v7, g7, s7⟩ := hOK_get (i := 11) ok6.1 hq_q (by decide)
    obtain ⟨q7, rfl, hq7⟩ : ∃ q : Nat, v7 = .inl (.ref q) ∧ T[q]? = some 13 := s7
    refine g_getf HW rfl ok6.1 hq_q rfl g7 ?_
    refine zrn_ok HW 2 (zB_iff.mpr (?_ : G (38, [(4, .inl (.int x1)), (0, .inl (.ref q)), (1, .inl (.int x)), (2, .inl (.int y)), (3, .inl (.int z))], [.inl (.int z), .inl (.int x1), .inl (.ref q7)], (hput (hput h q3 (x1).toInt.toNat (.inl (.int x))) q5 (x1).toInt.toNat (.inl (.int y))), 0, 0)))
    have ok8 : wOK Φ h.length T (hput (hput (hput h q3 (x1).toInt.toNat (.inl (.int x))) q5 (x1).toInt.toNat (.inl (.int y))) q7 (x1).toInt.toNat (.inl (.int z))) := wOK_put hst ok6 hq7 rfl ⟨_, rfl, t_lo _, t_hi _⟩
    refine g_iast HW rfl ok6.1 hq7 rfl (by omega) (by show _ < (8 : Int); omega) ?_
    refine zrn_ok HW 1 (zB_iff.mpr (?_ : G (40, [(4, .inl (.int x1)), (0, .inl (.ref q)), (1, .inl (.int x)), (2, .inl (.int y)), (3, .inl (.int z))], [.inl (.ref q)], (hput (hput (hput h q3 (x1).toInt.toNat (.inl (.int x))) q5 (x1).toInt.toNat (.inl (.int y))) q7 (x1).toInt.toNat (.inl (.int z))), 0, 0)))
    obtain ⟨v9, g9, s9⟩ := hOK_get (i := 12) ok8.1 hq_q (by decide)
    obtain ⟨q9, rfl, hq9⟩ : ∃ q : Nat, v9 = .inl (.ref q) ∧ T[q]? = some 14 := s9
    refine g_getf HW rfl ok8.1 hq_q rfl g9 ?_
    refine zrn_ok HW 2 (zB_iff.mpr (?_ : G (46, [(4, .inl (.int x1)), (0, .inl (.ref q)), (1, .inl (.int x)), (2, .inl (.int y)), (3, .inl (.int z))], [.inl (.int (0 : Int32)), .inl (.int x1), .inl (.ref q9)], (hput (hput (hput h q3 (x1).toInt.toNat (.inl (.int x))) q5 (x1).toInt.toNat (.inl (.int y))) q7 (x1).toInt.toNat (.inl (.int z))), 0, 0)))
    have ok10 : wOK Φ h.length T (hput (hput (hput (hput h q3 (x1).toInt.toNat (.inl (.int x))) q5 (x1).toInt.toNat (.inl (.int y))) q7 (x1).toInt.toNat (.inl (.int z))) q9 (x1).toInt.toNat (.inl (.int (0 : Int32)))) := wOK_put hst ok8 hq9 rfl ⟨_, rfl, (by show ((-2147483648) : Int) ≤ Int32.toInt (0 : Int32); decide), (by show Int32.toInt (0 : Int32) ≤ ((2147483647) : Int); decide)⟩
    refine g_iast HW rfl ok8.1 hq9 rfl (by omega) (by show _ < (8 : Int); omega) ?_
    refine zrn_ok HW 1 (zB_iff.mpr (?_ : G (48, [(4, .inl (.int x1)), (0, .inl (.ref q)), (1, .inl (.int x)), (2, .inl (.int y)), (3, .inl (.int z))], [.inl (.ref q)], (hput (hput (hput (hput h q3 (x1).toInt.toNat (.inl (.int x))) q5 (x1).toInt.toNat (.inl (.int y))) q7 (x1).toInt.toNat (.inl (.int z))) q9 (x1).toInt.toNat (.inl (.int (0 : Int32)))), 0, 0)))
    obtain ⟨v11, g11, s11⟩ := hOK_get (i := 13) ok10.1 hq_q (by decide)
    obtain ⟨q11, rfl, hq11⟩ : ∃ q : Nat, v11 = .inl (.ref q) ∧ T[q]? = some 15 := s11
    refine g_getf HW rfl ok10.1 hq_q rfl g11 ?_
    refine zrn_ok HW 2 (zB_iff.mpr (?_ : G (54, [(4, .inl (.int x1)), (0, .inl (.ref q)), (1, .inl (.int x)), (2, .inl (.int y)), (3, .inl (.int z))], [.inl (.int (-1 : Int32)), .inl (.int x1), .inl (.ref q11)], (hput (hput (hput (hput h q3 (x1).toInt.toNat (.inl (.int x))) q5 (x1).toInt.toNat (.inl (.int y))) q7 (x1).toInt.toNat (.inl (.int z))) q9 (x1).toInt.toNat (.inl (.int (0 : Int32)))), 0, 0)))
    have ok12 : wOK Φ h.length T (hput (hput (hput (hput (hput h q3 (x1).toInt.toNat (.inl (.int x))) q5 (x1).toInt.toNat (.inl (.int y))) q7 (x1).toInt.toNat (.inl (.int z))) q9 (x1).toInt.toNat (.inl (.int (0 : Int32)))) q11 (x1).toInt.toNat (.inl (.int (-1 : Int32)))) := wOK_put hst ok10 hq11 rfl ⟨_, rfl, (by show ((-1) : Int) ≤ Int32.toInt (-1 : Int32); decide), (by show Int32.toInt (-1 : Int32) ≤ ((3) : Int); decide)⟩
    refine g_iast HW rfl ok10.1 hq11 rfl (by omega) (by show _ < (8 : Int); omega) ?_
    refine zrn_ok HW 2 (zB_iff.mpr (?_ : G (57, [(4, .inl (.int x1)), (0, .inl (.ref q)), (1, .inl (.int x)), (2, .inl (.int y)), (3, .inl (.int z))], [.inl (.ref q), .inl (.ref q)], (hput (hput (hput (hput (hput h q3 (x1).toInt.toNat (.inl (.int x))) q5 (x1).toInt.toNat (.inl (.int y))) q7 (x1).toInt.toNat (.inl (.int z))) q9 (x1).toInt.toNat (.inl (.int (0 : Int32)))) q11 (x1).toInt.toNat (.inl (.int (-1 : Int32)))), 0, 0)))
    obtain ⟨x13, g13, e13, l13, u13⟩ := hi_val (i := 8) ok12.1 hq_q (by decide) rfl
    have l13 : (0 : Int) ≤ x13.toInt := l13
    have u13 : x13.toInt ≤ (8 : Int) := u13
    refine g_getf HW rfl ok12.1 hq_q rfl g13 ?_
    have e13 := hi_ne (Or.inl (ty_ne hq_q hq3 (by decide))) (hi_ne (Or.inl (ty_ne hq_q hq5 (by decide))) (hi_ne (Or.inl (ty_ne hq_q hq7 (by decide))) (hi_ne (Or.inl (ty_ne hq_q hq9 (by decide))) (hi_ne (Or.inl (ty_ne hq_q hq11 (by decide))) e13))))
    have i13 := t_inc (x := x13) (by omega)
    refine zrn_ok HW 2 (zB_iff.mpr (?_ : G (62, [(4, .inl (.int x1)), (0, .inl (.ref q)), (1, .inl (.int x)), (2, .inl (.int y)), (3, .inl (.int z))], [.inl (.int (x13 + (1 : Int32))), .inl (.ref q)], (hput (hput (hput (hput (hput h q3 (x1).toInt.toNat (.inl (.int x))) q5 (x1).toInt.toNat (.inl (.int y))) q7 (x1).toInt.toNat (.inl (.int z))) q9 (x1).toInt.toNat (.inl (.int (0 : Int32)))) q11 (x1).toInt.toNat (.inl (.int (-1 : Int32)))), 0, 0)))
    have ok14 : wOK Φ h.length T (hput (hput (hput (hput (hput (hput h q3 (x1).toInt.toNat (.inl (.int x))) q5 (x1).toInt.toNat (.inl (.int y))) q7 (x1).toInt.toNat (.inl (.int z))) q9 (x1).toInt.toNat (.inl (.int (0 : Int32)))) q11 (x1).toInt.toNat (.inl (.int (-1 : Int32)))) q 8 (.inl (.int (x13 + (1 : Int32))))) := wOK_put hst ok12 hq_q rfl ⟨_, rfl, (by show (0 : Int) ≤ _; omega), (by show _ ≤ (8 : Int); omega)⟩
    refine g_putf HW rfl ok12.1 hq_q rfl (by decide) rfl ?_
    refine zrn_ok HW 2 ?_
    exact zret_i rfl rfl (RET x1 T (hput (hput (hput (hput (hput (hput h q3 (x1).toInt.toNat (.inl (.int x))) q5 (x1).toInt.toNat (.inl (.int y))) q7 (x1).toInt.toNat (.inl (.int z))) q9 (x1).toInt.toNat (.inl (.int (0 : Int32)))) q11 (x1).toInt.toNat (.inl (.int (-1 : Int32)))) q 8 (.inl (.int (x13 + (1 : Int32))))) (tExt_rf T) ok14)
  · -- pc 13
    refine zrn_ok HW 2 ?_
    exact zret_i rfl rfl (RET (-1 : Int32) T h (tExt_rf T) ok)
