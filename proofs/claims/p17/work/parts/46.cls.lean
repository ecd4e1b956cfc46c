theorem tq_X1_addBuyer_0 {scr : List zV} {Φ : List Nat → zH → Prop} (hst : tStab zty 43 Φ) : tM zty Φ zprog scr zhts zsm 30 te_X1_addBuyer_0 := by
  refine t_hand (E := ze_X1_addBuyer) (D0 := 0) rfl rfl (by decide +kernel) (fun d T h vs post G hok hΦ hlen hvs hp IH HW => ?_)
  obtain ⟨v_q, vs, rfl, k_q, hvs⟩ := okAs_cons hvs
  obtain ⟨v_x, vs, rfl, k_x, hvs⟩ := okAs_cons hvs
  obtain rfl := okAs_nil hvs
  obtain ⟨q, rfl, hq_q⟩ := tref_sp rfl k_q
  have hq_q : T[q]? = some 1 := hq_q
  obtain ⟨x, rfl, bl_x, bu_x⟩ := tint_sp rfl k_x
  have bl_x : ((-2147483648) : Int) ≤ x.toInt := bl_x
  have bu_x : x.toInt ≤ (2147483647 : Int) := bu_x
  have ok : wOK Φ h.length T h := ⟨hok, hΦ, rfl⟩
  have RET : ∀ (y : Int32) (h' : zH), wOK Φ h.length T h' → post (some (.inl (.int y))) h' = true := fun y h' ok' => hp _ T h' (tExt_rf T) ok'.1 ok'.2.1 (by have := ok'.2.2; omega) ⟨_, rfl, okA_If y, fun c hc => by cases hc⟩
  refine zgo_ok HW 1 (zB_iff.mpr (?_ : G (1, [(0, .inl (.ref q)), (1, .inl (.int x))], [.inl (.ref q)], h, 0, 0)))
  obtain ⟨x1, g1, e1, l1, u1⟩ := hi_val (i := 14) ok.1 hq_q (by decide) rfl
  have l1 : (0 : Int) ≤ x1.toInt := l1
  have u1 : x1.toInt ≤ (4 : Int) := u1
  refine g_getf HW rfl ok.1 hq_q rfl g1 ?_
  refine zgo_ok HW 4 (zbr_ex (cd := .lt) (x := x1) (y := (4 : Int32)) (fun hc2 => zB_iff.mpr ?_) (fun hc2 => zB_iff.mpr ?_))
  · -- pc 12
    have c2 := zlt_i hc2
    have c2 : x1.toInt < 4 := c2
    refine zgo_ok HW 1 (zB_iff.mpr (?_ : G (13, [(2, .inl (.int x1)), (0, .inl (.ref q)), (1, .inl (.int x))], [.inl (.ref q)], h, 0, 0)))
    obtain ⟨v3, g3, s3⟩ := hOK_get (i := 15) ok.1 hq_q (by decide)
    obtain ⟨q3, rfl, hq3⟩ : ∃ q : Nat, v3 = .inl (.ref q) ∧ T[q]? = some 16 := s3
    refine g_getf HW rfl ok.1 hq_q rfl g3 ?_
    refine zgo_ok HW 2 (zB_iff.mpr (?_ : G (18, [(2, .inl (.int x1)), (0, .inl (.ref q)), (1, .inl (.int x))], [.inl (.int x), .inl (.int x1), .inl (.ref q3)], h, 0, 0)))
    have ok4 : wOK Φ h.length T (hput h q3 (x1).toInt.toNat (.inl (.int x))) := wOK_put hst ok hq3 rfl ⟨_, rfl, t_lo _, t_hi _⟩
    refine g_iast HW rfl ok.1 hq3 rfl (by omega) (by show _ < (4 : Int); omega) ?_
    refine zgo_ok HW 2 (zB_iff.mpr (?_ : G (21, [(2, .inl (.int x1)), (0, .inl (.ref q)), (1, .inl (.int x))], [.inl (.ref q), .inl (.ref q)], (hput h q3 (x1).toInt.toNat (.inl (.int x))), 0, 0)))
    obtain ⟨x5, g5, e5, l5, u5⟩ := hi_val (i := 14) ok4.1 hq_q (by decide) rfl
    have l5 : (0 : Int) ≤ x5.toInt := l5
    have u5 : x5.toInt ≤ (4 : Int) := u5
    refine g_getf HW rfl ok4.1 hq_q rfl g5 ?_
    have e5 := hi_ne (Or.inl (ty_ne hq_q hq3 (by decide))) e5
    have i5 := t_inc (x := x5) (by omega)
    refine zgo_ok HW 2 (zB_iff.mpr (?_ : G (26, [(2, .inl (.int x1)), (0, .inl (.ref q)), (1, .inl (.int x))], [.inl (.int (x5 + (1 : Int32))), .inl (.ref q)], (hput h q3 (x1).toInt.toNat (.inl (.int x))), 0, 0)))
    have ok6 : wOK Φ h.length T (hput (hput h q3 (x1).toInt.toNat (.inl (.int x))) q 14 (.inl (.int (x5 + (1 : Int32))))) := wOK_put hst ok4 hq_q rfl ⟨_, rfl, (by show (0 : Int) ≤ _; omega), (by show _ ≤ (4 : Int); omega)⟩
    refine g_putf HW rfl ok4.1 hq_q rfl (by decide) rfl ?_
    refine zgo_ok HW 2 ?_
    exact zret_i rfl rfl (RET x1 (hput (hput h q3 (x1).toInt.toNat (.inl (.int x))) q 14 (.inl (.int (x5 + (1 : Int32))))) ok6)
  · -- pc 10
    refine zgo_ok HW 2 ?_
    exact zret_i rfl rfl (RET (-1 : Int32) h ok)
