theorem c_sortOf {scr : List zV} {d : Nat} {x : Int32} {h : zH} {post : Option zV → zH → Bool}  (kk : ∀ r : Int32, 0 ≤ r.toInt → r.toInt ≤ 5 → post (some (.inl (.int r))) h = true) : zD zprog scr (d + 1) 74 [.inl (.int x)] h post = true := by
  refine zD_intro (E := ze_X2_sortOf) rfl rfl (fun G HW => ?_)
  refine zrn_ok HW 3 (zbr_ex (cd := .lt) (x := x) (y := (97 : Int32)) (fun hc1 => zB_iff.mpr ?_) (fun hc1 => zB_iff.mpr ?_))
  · -- pc 14
    have i1 : x.toInt < (97 : Int) := zop_int.mp hc1
    refine zrn_ok HW 3 (zbr_ex (cd := .lt) (x := x) (y := (48 : Int32)) (fun hc2 => zB_iff.mpr ?_) (fun hc2 => zB_iff.mpr ?_))
    · -- pc 28
      have i2 : x.toInt < (48 : Int) := zop_int.mp hc2
      refine zrn_ok HW 3 (zbr_ex (cd := .ne) (x := x) (y := (59 : Int32)) (fun hc3 => zB_iff.mpr ?_) (fun hc3 => zB_iff.mpr ?_))
      · -- pc 36
        have i3 : ¬ x.toInt = (59 : Int) := zop_int.mp hc3
        refine zrn_ok HW 3 (zbr_ex (cd := .ne) (x := x) (y := (32 : Int32)) (fun hc4 => zB_iff.mpr ?_) (fun hc4 => zB_iff.mpr ?_))
        · -- pc 46
          have i4 : ¬ x.toInt = (32 : Int) := zop_int.mp hc4
          refine zrn_ok HW 2 ?_
          exact zret_i rfl rfl (kk (5 : Int32) (by decide) (by decide))
        · -- pc 42
          have i4 : ¬ (¬ x.toInt = (32 : Int)) := fun e => hc4 (zop_int.mpr e)
          refine zrn_ok HW 3 ?_
          exact zret_i rfl rfl (kk (4 : Int32) (by decide) (by decide))
      · -- pc 34
        have i3 : ¬ (¬ x.toInt = (59 : Int)) := fun e => hc3 (zop_int.mpr e)
        refine zrn_ok HW 2 ?_
        exact zret_i rfl rfl (kk (3 : Int32) (by decide) (by decide))
    · -- pc 20
      have i2 : ¬ (x.toInt < (48 : Int)) := fun e => hc2 (zop_int.mpr e)
      refine zrn_ok HW 3 (zbr_ex (cd := .gt) (x := x) (y := (57 : Int32)) (fun hc5 => zB_iff.mpr ?_) (fun hc5 => zB_iff.mpr ?_))
      · -- pc 28
        have i5 : x.toInt > (57 : Int) := zop_int.mp hc5
        refine zrn_ok HW 3 (zbr_ex (cd := .ne) (x := x) (y := (59 : Int32)) (fun hc6 => zB_iff.mpr ?_) (fun hc6 => zB_iff.mpr ?_))
        · -- pc 36
          have i6 : ¬ x.toInt = (59 : Int) := zop_int.mp hc6
          refine zrn_ok HW 3 (zbr_ex (cd := .ne) (x := x) (y := (32 : Int32)) (fun hc7 => zB_iff.mpr ?_) (fun hc7 => zB_iff.mpr ?_))
          · -- pc 46
            have i7 : ¬ x.toInt = (32 : Int) := zop_int.mp hc7
            refine zrn_ok HW 2 ?_
            exact zret_i rfl rfl (kk (5 : Int32) (by decide) (by decide))
          · -- pc 42
            have i7 : ¬ (¬ x.toInt = (32 : Int)) := fun e => hc7 (zop_int.mpr e)
            refine zrn_ok HW 3 ?_
            exact zret_i rfl rfl (kk (4 : Int32) (by decide) (by decide))
        · -- pc 34
          have i6 : ¬ (¬ x.toInt = (59 : Int)) := fun e => hc6 (zop_int.mpr e)
          refine zrn_ok HW 2 ?_
          exact zret_i rfl rfl (kk (3 : Int32) (by decide) (by decide))
      · -- pc 26
        have i5 : ¬ (x.toInt > (57 : Int)) := fun e => hc5 (zop_int.mpr e)
        refine zrn_ok HW 2 ?_
        exact zret_i rfl rfl (kk (2 : Int32) (by decide) (by decide))
  · -- pc 6
    have i1 : ¬ (x.toInt < (97 : Int)) := fun e => hc1 (zop_int.mpr e)
    refine zrn_ok HW 3 (zbr_ex (cd := .gt) (x := x) (y := (122 : Int32)) (fun hc8 => zB_iff.mpr ?_) (fun hc8 => zB_iff.mpr ?_))
    · -- pc 14
      have i8 : x.toInt > (122 : Int) := zop_int.mp hc8
      refine zrn_ok HW 3 (zbr_ex (cd := .lt) (x := x) (y := (48 : Int32)) (fun hc9 => zB_iff.mpr ?_) (fun hc9 => zB_iff.mpr ?_))
      · -- pc 28
        have i9 : x.toInt < (48 : Int) := zop_int.mp hc9
        refine zrn_ok HW 3 (zbr_ex (cd := .ne) (x := x) (y := (59 : Int32)) (fun hc10 => zB_iff.mpr ?_) (fun hc10 => zB_iff.mpr ?_))
        · -- pc 36
          have i10 : ¬ x.toInt = (59 : Int) := zop_int.mp hc10
          refine zrn_ok HW 3 (zbr_ex (cd := .ne) (x := x) (y := (32 : Int32)) (fun hc11 => zB_iff.mpr ?_) (fun hc11 => zB_iff.mpr ?_))
          · -- pc 46
            have i11 : ¬ x.toInt = (32 : Int) := zop_int.mp hc11
            refine zrn_ok HW 2 ?_
            exact zret_i rfl rfl (kk (5 : Int32) (by decide) (by decide))
          · -- pc 42
            have i11 : ¬ (¬ x.toInt = (32 : Int)) := fun e => hc11 (zop_int.mpr e)
            refine zrn_ok HW 3 ?_
            exact zret_i rfl rfl (kk (4 : Int32) (by decide) (by decide))
        · -- pc 34
          have i10 : ¬ (¬ x.toInt = (59 : Int)) := fun e => hc10 (zop_int.mpr e)
          refine zrn_ok HW 2 ?_
          exact zret_i rfl rfl (kk (3 : Int32) (by decide) (by decide))
      · -- pc 20
        have i9 : ¬ (x.toInt < (48 : Int)) := fun e => hc9 (zop_int.mpr e)
        refine zrn_ok HW 3 (zbr_ex (cd := .gt) (x := x) (y := (57 : Int32)) (fun hc12 => zB_iff.mpr ?_) (fun hc12 => zB_iff.mpr ?_))
        · -- pc 28
          have i12 : x.toInt > (57 : Int) := zop_int.mp hc12
          refine zrn_ok HW 3 (zbr_ex (cd := .ne) (x := x) (y := (59 : Int32)) (fun hc13 => zB_iff.mpr ?_) (fun hc13 => zB_iff.mpr ?_))
          · -- pc 36
            have i13 : ¬ x.toInt = (59 : Int) := zop_int.mp hc13
            refine zrn_ok HW 3 (zbr_ex (cd := .ne) (x := x) (y := (32 : Int32)) (fun hc14 => zB_iff.mpr ?_) (fun hc14 => zB_iff.mpr ?_))
            · -- pc 46
              have i14 : ¬ x.toInt = (32 : Int) := zop_int.mp hc14
              refine zrn_ok HW 2 ?_
              exact zret_i rfl rfl (kk (5 : Int32) (by decide) (by decide))
            · -- pc 42
              have i14 : ¬ (¬ x.toInt = (32 : Int)) := fun e => hc14 (zop_int.mpr e)
              refine zrn_ok HW 3 ?_
              exact zret_i rfl rfl (kk (4 : Int32) (by decide) (by decide))
          · -- pc 34
            have i13 : ¬ (¬ x.toInt = (59 : Int)) := fun e => hc13 (zop_int.mpr e)
            refine zrn_ok HW 2 ?_
            exact zret_i rfl rfl (kk (3 : Int32) (by decide) (by decide))
        · -- pc 26
          have i12 : ¬ (x.toInt > (57 : Int)) := fun e => hc12 (zop_int.mpr e)
          refine zrn_ok HW 2 ?_
          exact zret_i rfl rfl (kk (2 : Int32) (by decide) (by decide))
    · -- pc 12
      have i8 : ¬ (x.toInt > (122 : Int)) := fun e => hc8 (zop_int.mpr e)
      refine zrn_ok HW 2 ?_
      exact zret_i rfl rfl (kk (1 : Int32) (by decide) (by decide))
theorem tq_X2_step_0 {scr : List zV} {Φ : List Nat → zH → Prop} (hst : tStab zty 43 Φ) : tM zty Φ zprog scr zhts zsm 75 te_X2_step_0 := by
  refine t_hand2 (E := ze_X2_step) (D0 := 1) rfl rfl (by decide +kernel) (fun d T h vs post G hd hok hΦ hlen hvs hp IH HW => ?_)
  obtain ⟨d, rfl⟩ : ∃ d', d = d' + 1 := ⟨d - 1, by omega⟩
  obtain ⟨v_q, vs, rfl, k_q, hvs⟩ := okAs_cons hvs
  obtain rfl := okAs_nil hvs
  obtain ⟨q, rfl, hq_q⟩ := tref_sp rfl k_q
  have hq_q : T[q]? = some 2 := hq_q
  have ok : wOK Φ h.length T h := ⟨hok, hΦ, Nat.le_refl _⟩
  have RET : ∀ (T' : List Nat) (h' : zH), tExt T T' → wOK Φ h.length T' h' → post none h' = true := fun T' h' m' ok' => hp _ T' h' m' ok'.1 ok'.2.1 (by have := ok'.2.2; omega) rfl
  have rest : ∀ (b : Int32) (hl : zH), wOK Φ h.length T hl → G (165, [(1, .inl (.int b)), (0, .inl (.ref q))], [], hl, 0, 0) := by
    intro b hl okl
    refine zrn_ok HW 2 (zB_iff.mpr (?_ : G (167, [(1, .inl (.int b)), (0, .inl (.ref q))], [.inl (.ref q), .inl (.ref q)], hl, 0, 0)))
    obtain ⟨x1, g1, e1, l1, u1⟩ := hi_val (i := 2) okl.1 hq_q (by decide) rfl
    have l1 : (0 : Int) ≤ x1.toInt := l1
    have u1 : x1.toInt ≤ (5 : Int) := u1
    refine g_getf HW rfl okl.1 hq_q rfl g1 ?_
    refine zrn_ok HW 2 (zbr_ex (cd := .ne) (x := x1) (y := (2 : Int32)) (fun hc2 => zB_iff.mpr ?_) (fun hc2 => zB_iff.mpr ?_))
    · -- pc 194
      have i2 : ¬ x1.toInt = (2 : Int) := zop_int.mp hc2
      refine zrn_ok HW 1 (zB_iff.mpr (?_ : G (195, [(1, .inl (.int b)), (0, .inl (.ref q))], [.inl (.int (-1 : Int32)), .inl (.ref q)], hl, 0, 0)))
      have ok3 : wOK Φ h.length T (hput hl q 5 (.inl (.int (-1 : Int32)))) := wOK_put hst okl hq_q rfl ⟨_, rfl, (by show ((-2147483648) : Int) ≤ Int32.toInt (-1 : Int32); decide), (by show Int32.toInt (-1 : Int32) ≤ (2147483647 : Int); decide)⟩
      refine g_putf HW rfl okl.1 hq_q rfl (by decide) rfl ?_
      refine zrn_ok HW 1 ?_
      exact zret_v rfl (RET T (hput hl q 5 (.inl (.int (-1 : Int32)))) (tExt_rf T) ok3)
    · -- pc 174
      have i2 : ¬ (¬ x1.toInt = (2 : Int)) := fun e => hc2 (zop_int.mpr e)
      refine zrn_ok HW 1 (zB_iff.mpr (?_ : G (175, [(1, .inl (.int b)), (0, .inl (.ref q))], [.inl (.ref q), .inl (.ref q)], hl, 0, 0)))
      obtain ⟨x4, g4, e4, l4, u4⟩ := hi_val (i := 4) okl.1 hq_q (by decide) rfl
      have l4 : (0 : Int) ≤ x4.toInt := l4
      have u4 : x4.toInt ≤ (250 : Int) := u4
      refine g_getf HW rfl okl.1 hq_q rfl g4 ?_
      refine zrn_ok HW 1 (zB_iff.mpr (?_ : G (179, [(1, .inl (.int b)), (0, .inl (.ref q))], [.inl (.ref q), .inl (.int x4), .inl (.ref q)], hl, 0, 0)))
      obtain ⟨x5, g5, e5, l5, u5⟩ := hi_val (i := 3) okl.1 hq_q (by decide) rfl
      have l5 : (0 : Int) ≤ x5.toInt := l5
      have u5 : x5.toInt ≤ (250 : Int) := u5
      refine g_getf HW rfl okl.1 hq_q rfl g5 ?_
      have y6 : -2147483648 ≤ x4.toInt - x5.toInt → x4.toInt - x5.toInt ≤ 2147483647 → (x4 - x5).toInt = x4.toInt - x5.toInt := t_subC (x := x4) (y := x5)
      refine zrn_ok HW 3 (zbr_ex (cd := .gt) (x := (x4 - x5)) (y := (4 : Int32)) (fun hc7 => zB_iff.mpr ?_) (fun hc7 => zB_iff.mpr ?_))
      · -- pc 194
        have i7 : (x4 - x5).toInt > (4 : Int) := zop_int.mp hc7
        refine zrn_ok HW 1 (zB_iff.mpr (?_ : G (195, [(1, .inl (.int b)), (0, .inl (.ref q))], [.inl (.int (-1 : Int32)), .inl (.ref q)], hl, 0, 0)))
        have ok8 : wOK Φ h.length T (hput hl q 5 (.inl (.int (-1 : Int32)))) := wOK_put hst okl hq_q rfl ⟨_, rfl, (by show ((-2147483648) : Int) ≤ Int32.toInt (-1 : Int32); decide), (by show Int32.toInt (-1 : Int32) ≤ (2147483647 : Int); decide)⟩
        refine g_putf HW rfl okl.1 hq_q rfl (by decide) rfl ?_
        refine zrn_ok HW 1 ?_
        exact zret_v rfl (RET T (hput hl q 5 (.inl (.int (-1 : Int32)))) (tExt_rf T) ok8)
      · -- pc 187
        have i7 : ¬ ((x4 - x5).toInt > (4 : Int)) := fun e => hc7 (zop_int.mpr e)
        refine zrn_ok HW 1 (zB_iff.mpr (?_ : G (188, [(1, .inl (.int b)), (0, .inl (.ref q))], [.inl (.ref q), .inl (.ref q)], hl, 0, 0)))
        refine g_tV (e := te_X2_numberOf_0) (E' := ze_X2_numberOf) HW (tLow_of IH hd) rfl rfl (show te_X2_numberOf_0 ∈ [te_X2_numberOf_0] from List.mem_cons_self) (by decide +kernel) (Nat.le_of_ble_eq_true rfl) ⟨rfl, rfl⟩ (by decide) okl.1 okl.2.1 rfl hq_q rfl (Nat.le_of_ble_eq_true rfl) ⟨⟨_, rfl, hq_q⟩, trivial⟩ (fun v9 T9 h9 m9 k9 f9 lh9 r9 => ?_)
        obtain ⟨w9, rfl, hw9, cd9⟩ := r9
        obtain ⟨x9, rfl, l9, u9⟩ := tint_sp rfl hw9
        have ok9 : wOK Φ h.length T9 h9 := ⟨k9, f9, Nat.le_trans lh9 okl.2.2⟩
        have hq_q := m9 _ _ hq_q
        show G (191, [(1, .inl (.int b)), (0, .inl (.ref q))], [.inl (.int x9), .inl (.ref q)], h9, 0, 0)
        refine zrn_ok HW 1 (zB_iff.mpr (?_ : G (195, [(1, .inl (.int b)), (0, .inl (.ref q))], [.inl (.int x9), .inl (.ref q)], h9, 0, 0)))
        have ok10 : wOK Φ h.length T9 (hput h9 q 5 (.inl (.int x9))) := wOK_put hst ok9 hq_q rfl ⟨_, rfl, t_lo _, t_hi _⟩
        refine g_putf HW rfl ok9.1 hq_q rfl (by decide) rfl ?_
        refine zrn_ok HW 1 ?_
        exact zret_v rfl (RET T9 (hput h9 q 5 (.inl (.int x9))) (tExt_tr (tExt_rf T) m9) ok10)
  have loop2 : ∀ (k : Nat) (b : Int32) (hl : zH), wOK Φ h.length T hl → 250 - hi hl q 4 < (k : Int) → G (118, [(1, .inl (.int b)), (0, .inl (.ref q))], [], hl, 0, 0) := by
    intro k
    induction k with
    | zero =>
      intro b hl okl hm
      exfalso
      obtain ⟨x, g, e, l, u⟩ := hi_val (i := 4) okl.1 hq_q (by decide) rfl
      have u : x.toInt ≤ (250 : Int) := u
      omega
    | succ k ih =>
      intro b hl okl hm
      refine zrn_ok HW 2 (zbr_ex (cd := .eq) (x := b) (y := (0 : Int32)) (fun hc1 => zB_iff.mpr ?_) (fun hc1 => zB_iff.mpr ?_))
      · -- pc 165
        have i1 : b.toInt = (0 : Int) := zop_int.mp hc1
        exact rest b _ okl
      · -- pc 122
        have i1 : ¬ (b.toInt = (0 : Int)) := fun e => hc1 (zop_int.mpr e)
        refine zrn_ok HW 1 (zB_iff.mpr (?_ : G (123, [(1, .inl (.int b)), (0, .inl (.ref q))], [.inl (.ref q)], hl, 0, 0)))
        obtain ⟨x2, g2, e2, l2, u2⟩ := hi_val (i := 4) okl.1 hq_q (by decide) rfl
        have l2 : (0 : Int) ≤ x2.toInt := l2
        have u2 : x2.toInt ≤ (250 : Int) := u2
        refine g_getf HW rfl okl.1 hq_q rfl g2 ?_
        refine zrn_ok HW 1 (zB_iff.mpr (?_ : G (127, [(1, .inl (.int b)), (0, .inl (.ref q))], [.inl (.ref q), .inl (.int x2)], hl, 0, 0)))
        obtain ⟨x3, g3, e3, l3, u3⟩ := hi_val (i := 1) okl.1 hq_q (by decide) rfl
        have l3 : (0 : Int) ≤ x3.toInt := l3
        have u3 : x3.toInt ≤ (250 : Int) := u3
        refine g_getf HW rfl okl.1 hq_q rfl g3 ?_
        refine zrn_ok HW 1 (zbr_ex (cd := .ge) (x := x2) (y := x3) (fun hc4 => zB_iff.mpr ?_) (fun hc4 => zB_iff.mpr ?_))
        · -- pc 165
          have i4 : x2.toInt ≥ x3.toInt := zop_int.mp hc4
          exact rest b _ okl
        · -- pc 133
          have i4 : ¬ (x2.toInt ≥ x3.toInt) := fun e => hc4 (zop_int.mpr e)
          refine zrn_ok HW 1 (zB_iff.mpr (?_ : G (134, [(1, .inl (.int b)), (0, .inl (.ref q))], [.inl (.ref q)], hl, 0, 0)))
          obtain ⟨v5, g5, s5⟩ := hOK_get (i := 0) okl.1 hq_q (by decide)
          obtain ⟨q5, rfl, hq5⟩ : ∃ q : Nat, v5 = .inl (.ref q) ∧ T[q]? = some 18 := s5
          refine g_getf HW rfl okl.1 hq_q rfl g5 ?_
          refine zrn_ok HW 1 (zB_iff.mpr (?_ : G (138, [(1, .inl (.int b)), (0, .inl (.ref q))], [.inl (.ref q), .inl (.ref q5)], hl, 0, 0)))
          obtain ⟨x6, g6, e6, l6, u6⟩ := hi_val (i := 4) okl.1 hq_q (by decide) rfl
          have l6 : (0 : Int) ≤ x6.toInt := l6
          have u6 : x6.toInt ≤ (250 : Int) := u6
          refine g_getf HW rfl okl.1 hq_q rfl g6 ?_
          obtain ⟨x7, g7, e7, l7, u7⟩ := hi_val (i := (x6).toInt.toNat) okl.1 hq5 (by show _ < 250; omega) rfl
          have l7 : (0 : Int) ≤ x7.toInt := l7
          have u7 : x7.toInt ≤ (255 : Int) := u7
          refine g_iald HW rfl okl.1 hq5 rfl (by omega) g7 ?_
          refine g_callS (b := 0) (E' := ze_X2_sortOf) HW (Or.inl rfl) rfl rfl (Nat.le_of_ble_eq_true rfl) (Nat.le_of_ble_eq_true rfl) (Nat.le_of_ble_eq_true rfl) (Nat.le_of_ble_eq_true rfl) (c_sortOf (fun r8 lo8 hi8 => zB_iff.mpr ?_))
          show G (145, [(1, .inl (.int b)), (0, .inl (.ref q))], [.inl (.int r8)], hl, 0, 0)
          refine zrn_ok HW 1 (zB_iff.mpr (?_ : G (146, [(1, .inl (.int b)), (0, .inl (.ref q))], [.inl (.ref q), .inl (.int r8)], hl, 0, 0)))
          obtain ⟨x9, g9, e9, l9, u9⟩ := hi_val (i := 2) okl.1 hq_q (by decide) rfl
          have l9 : (0 : Int) ≤ x9.toInt := l9
          have u9 : x9.toInt ≤ (5 : Int) := u9
          refine g_getf HW rfl okl.1 hq_q rfl g9 ?_
          refine zrn_ok HW 1 (zbr_ex (cd := .ne) (x := r8) (y := x9) (fun hc10 => zB_iff.mpr ?_) (fun hc10 => zB_iff.mpr ?_))
          · -- pc 165
            have i10 : ¬ r8.toInt = x9.toInt := zop_int.mp hc10
            exact rest b _ okl
          · -- pc 152
            have i10 : ¬ (¬ r8.toInt = x9.toInt) := fun e => hc10 (zop_int.mpr e)
            refine zrn_ok HW 2 (zB_iff.mpr (?_ : G (154, [(1, .inl (.int b)), (0, .inl (.ref q))], [.inl (.ref q), .inl (.ref q)], hl, 0, 0)))
            obtain ⟨x11, g11, e11, l11, u11⟩ := hi_val (i := 4) okl.1 hq_q (by decide) rfl
            have l11 : (0 : Int) ≤ x11.toInt := l11
            have u11 : x11.toInt ≤ (250 : Int) := u11
            refine g_getf HW rfl okl.1 hq_q rfl g11 ?_
            have y12 : -2147483648 ≤ x11.toInt + (1 : Int) → x11.toInt + (1 : Int) ≤ 2147483647 → (x11 + (1 : Int32)).toInt = x11.toInt + (1 : Int) := t_addC (x := x11) (y := (1 : Int32))
            refine zrn_ok HW 2 (zB_iff.mpr (?_ : G (159, [(1, .inl (.int b)), (0, .inl (.ref q))], [.inl (.int (x11 + (1 : Int32))), .inl (.ref q)], hl, 0, 0)))
            have ok13 : wOK Φ h.length T (hput hl q 4 (.inl (.int (x11 + (1 : Int32))))) := wOK_put hst okl hq_q rfl ⟨_, rfl, (by show (0 : Int) ≤ _; omega), (by show _ ≤ (250 : Int); omega)⟩
            refine g_putf HW rfl okl.1 hq_q rfl (by decide) rfl ?_
            refine zrn_ok HW 1 (zB_iff.mpr (?_ : G (118, [(1, .inl (.int b)), (0, .inl (.ref q))], [], (hput hl q 4 (.inl (.int (x11 + (1 : Int32))))), 0, 0)))
            have ez : hi (hput hl q 4 (.inl (.int (x11 + (1 : Int32))))) q 4 = (x11 + (1 : Int32)).toInt := hi_put g11
            exact ih b _ ok13 (by omega)
  have at48 : ∀ (hl : zH), wOK Φ h.length T hl → G (48, [(0, .inl (.ref q))], [], hl, 0, 0) := by
    intro hl okl
    refine zrn_ok HW 2 (zB_iff.mpr (?_ : G (50, [(0, .inl (.ref q))], [.inl (.ref q), .inl (.ref q)], hl, 0, 0)))
    obtain ⟨x1, g1, e1, l1, u1⟩ := hi_val (i := 3) okl.1 hq_q (by decide) rfl
    have l1 : (0 : Int) ≤ x1.toInt := l1
    have u1 : x1.toInt ≤ (250 : Int) := u1
    refine g_getf HW rfl okl.1 hq_q rfl g1 ?_
    have y2 : -2147483648 ≤ x1.toInt + (1 : Int) → x1.toInt + (1 : Int) ≤ 2147483647 → (x1 + (1 : Int32)).toInt = x1.toInt + (1 : Int) := t_addC (x := x1) (y := (1 : Int32))
    refine zrn_ok HW 3 (zB_iff.mpr (?_ : G (56, [(0, .inl (.ref q))], [.inl (.ref q), .inl (.int (x1 + (1 : Int32))), .inl (.ref q)], hl, 0, 0)))
    obtain ⟨x3, g3, e3, l3, u3⟩ := hi_val (i := 1) okl.1 hq_q (by decide) rfl
    have l3 : (0 : Int) ≤ x3.toInt := l3
    have u3 : x3.toInt ≤ (250 : Int) := u3
    refine g_getf HW rfl okl.1 hq_q rfl g3 ?_
    refine zrn_ok HW 1 (zB_iff.mpr ?_)
    show G (62, [(0, .inl (.ref q))], [.inl (.int (if x3 < (x1 + (1 : Int32)) then x3 else (x1 + (1 : Int32)))), .inl (.ref q)], hl, 0, 0)
    obtain ⟨m4, em4, om4⟩ := t_min (x1 + (1 : Int32)) x3
    rw [em4]
    have ok5 : wOK Φ h.length T (hput hl q 4 (.inl (.int m4))) := wOK_put hst okl hq_q rfl ⟨_, rfl, (by show (0 : Int) ≤ _; omega), (by show _ ≤ (250 : Int); omega)⟩
    refine g_putf HW rfl okl.1 hq_q rfl (by decide) rfl ?_
    refine zrn_ok HW 2 (zB_iff.mpr (?_ : G (67, [(0, .inl (.ref q))], [.inl (.ref q), .inl (.ref q)], (hput hl q 4 (.inl (.int m4))), 0, 0)))
    obtain ⟨x6, g6, e6, l6, u6⟩ := hi_val (i := 3) ok5.1 hq_q (by decide) rfl
    have l6 : (0 : Int) ≤ x6.toInt := l6
    have u6 : x6.toInt ≤ (250 : Int) := u6
    refine g_getf HW rfl ok5.1 hq_q rfl g6 ?_
    refine zrn_ok HW 1 (zB_iff.mpr (?_ : G (71, [(0, .inl (.ref q))], [.inl (.ref q), .inl (.int x6), .inl (.ref q)], (hput hl q 4 (.inl (.int m4))), 0, 0)))
    obtain ⟨x7, g7, e7, l7, u7⟩ := hi_val (i := 1) ok5.1 hq_q (by decide) rfl
    have l7 : (0 : Int) ≤ x7.toInt := l7
    have u7 : x7.toInt ≤ (250 : Int) := u7
    refine g_getf HW rfl ok5.1 hq_q rfl g7 ?_
    refine zrn_ok HW 1 (zbr_ex (cd := .ge) (x := x6) (y := x7) (fun hc8 => zB_iff.mpr ?_) (fun hc8 => zB_iff.mpr ?_))
    · -- pc 92
      have i8 : x6.toInt ≥ x7.toInt := zop_int.mp hc8
      refine zrn_ok HW 1 (zB_iff.mpr (?_ : G (93, [(0, .inl (.ref q))], [.inl (.int (0 : Int32)), .inl (.ref q)], (hput hl q 4 (.inl (.int m4))), 0, 0)))
      have ok9 : wOK Φ h.length T (hput (hput hl q 4 (.inl (.int m4))) q 2 (.inl (.int (0 : Int32)))) := wOK_put hst ok5 hq_q rfl ⟨_, rfl, (by show (0 : Int) ≤ Int32.toInt (0 : Int32); decide), (by show Int32.toInt (0 : Int32) ≤ (5 : Int); decide)⟩
      refine g_putf HW rfl ok5.1 hq_q rfl (by decide) rfl ?_
      refine zrn_ok HW 1 (zB_iff.mpr (?_ : G (97, [(0, .inl (.ref q))], [.inl (.ref q)], (hput (hput hl q 4 (.inl (.int m4))) q 2 (.inl (.int (0 : Int32)))), 0, 0)))
      obtain ⟨x10, g10, e10, l10, u10⟩ := hi_val (i := 2) ok9.1 hq_q (by decide) rfl
      have l10 : (0 : Int) ≤ x10.toInt := l10
      have u10 : x10.toInt ≤ (5 : Int) := u10
      refine g_getf HW rfl ok9.1 hq_q rfl g10 ?_
      refine zrn_ok HW 2 (zbr_ex (cd := .eq) (x := x10) (y := (1 : Int32)) (fun hc11 => zB_iff.mpr ?_) (fun hc11 => zB_iff.mpr ?_))
      · -- pc 112
        have i11 : x10.toInt = (1 : Int) := zop_int.mp hc11
        refine zrn_ok HW 3 (zB_iff.mpr (?_ : G (118, [(1, .inl (.int (1 : Int32))), (0, .inl (.ref q))], [], (hput (hput hl q 4 (.inl (.int m4))) q 2 (.inl (.int (0 : Int32)))), 0, 0)))
        exact loop2 300 (1 : Int32) _ ok9 (by obtain ⟨x, g, e, l, u⟩ := hi_val (i := 4) ok9.1 hq_q (by decide) rfl; have l : (0 : Int) ≤ x.toInt := l; omega)
      · -- pc 104
        have i11 : ¬ (x10.toInt = (1 : Int)) := fun e => hc11 (zop_int.mpr e)
        refine zrn_ok HW 1 (zB_iff.mpr (?_ : G (105, [(0, .inl (.ref q))], [.inl (.ref q)], (hput (hput hl q 4 (.inl (.int m4))) q 2 (.inl (.int (0 : Int32)))), 0, 0)))
        obtain ⟨x12, g12, e12, l12, u12⟩ := hi_val (i := 2) ok9.1 hq_q (by decide) rfl
        have l12 : (0 : Int) ≤ x12.toInt := l12
        have u12 : x12.toInt ≤ (5 : Int) := u12
        refine g_getf HW rfl ok9.1 hq_q rfl g12 ?_
        refine zrn_ok HW 2 (zbr_ex (cd := .ne) (x := x12) (y := (2 : Int32)) (fun hc13 => zB_iff.mpr ?_) (fun hc13 => zB_iff.mpr ?_))
        · -- pc 116
          have i13 : ¬ x12.toInt = (2 : Int) := zop_int.mp hc13
          refine zrn_ok HW 2 (zB_iff.mpr (?_ : G (118, [(1, .inl (.int (0 : Int32))), (0, .inl (.ref q))], [], (hput (hput hl q 4 (.inl (.int m4))) q 2 (.inl (.int (0 : Int32)))), 0, 0)))
          exact loop2 300 (0 : Int32) _ ok9 (by obtain ⟨x, g, e, l, u⟩ := hi_val (i := 4) ok9.1 hq_q (by decide) rfl; have l : (0 : Int) ≤ x.toInt := l; omega)
        · -- pc 112
          have i13 : ¬ (¬ x12.toInt = (2 : Int)) := fun e => hc13 (zop_int.mpr e)
          refine zrn_ok HW 3 (zB_iff.mpr (?_ : G (118, [(1, .inl (.int (1 : Int32))), (0, .inl (.ref q))], [], (hput (hput hl q 4 (.inl (.int m4))) q 2 (.inl (.int (0 : Int32)))), 0, 0)))
          exact loop2 300 (1 : Int32) _ ok9 (by obtain ⟨x, g, e, l, u⟩ := hi_val (i := 4) ok9.1 hq_q (by decide) rfl; have l : (0 : Int) ≤ x.toInt := l; omega)
    · -- pc 77
      have i8 : ¬ (x6.toInt ≥ x7.toInt) := fun e => hc8 (zop_int.mpr e)
      refine zrn_ok HW 1 (zB_iff.mpr (?_ : G (78, [(0, .inl (.ref q))], [.inl (.ref q), .inl (.ref q)], (hput hl q 4 (.inl (.int m4))), 0, 0)))
      obtain ⟨v14, g14, s14⟩ := hOK_get (i := 0) ok5.1 hq_q (by decide)
      obtain ⟨q14, rfl, hq14⟩ : ∃ q : Nat, v14 = .inl (.ref q) ∧ T[q]? = some 18 := s14
      refine g_getf HW rfl ok5.1 hq_q rfl g14 ?_
      refine zrn_ok HW 1 (zB_iff.mpr (?_ : G (82, [(0, .inl (.ref q))], [.inl (.ref q), .inl (.ref q14), .inl (.ref q)], (hput hl q 4 (.inl (.int m4))), 0, 0)))
      obtain ⟨x15, g15, e15, l15, u15⟩ := hi_val (i := 3) ok5.1 hq_q (by decide) rfl
      have l15 : (0 : Int) ≤ x15.toInt := l15
      have u15 : x15.toInt ≤ (250 : Int) := u15
      refine g_getf HW rfl ok5.1 hq_q rfl g15 ?_
      obtain ⟨x16, g16, e16, l16, u16⟩ := hi_val (i := (x15).toInt.toNat) ok5.1 hq14 (by show _ < 250; omega) rfl
      have l16 : (0 : Int) ≤ x16.toInt := l16
      have u16 : x16.toInt ≤ (255 : Int) := u16
      refine g_iald HW rfl ok5.1 hq14 rfl (by omega) g16 ?_
      refine g_callS (b := 0) (E' := ze_X2_sortOf) HW (Or.inl rfl) rfl rfl (Nat.le_of_ble_eq_true rfl) (Nat.le_of_ble_eq_true rfl) (Nat.le_of_ble_eq_true rfl) (Nat.le_of_ble_eq_true rfl) (c_sortOf (fun r17 lo17 hi17 => zB_iff.mpr ?_))
      show G (89, [(0, .inl (.ref q))], [.inl (.int r17), .inl (.ref q)], (hput hl q 4 (.inl (.int m4))), 0, 0)
      refine zrn_ok HW 1 (zB_iff.mpr (?_ : G (93, [(0, .inl (.ref q))], [.inl (.int r17), .inl (.ref q)], (hput hl q 4 (.inl (.int m4))), 0, 0)))
      have ok18 : wOK Φ h.length T (hput (hput hl q 4 (.inl (.int m4))) q 2 (.inl (.int r17))) := wOK_put hst ok5 hq_q rfl ⟨_, rfl, (by show (0 : Int) ≤ _; omega), (by show _ ≤ (5 : Int); omega)⟩
      refine g_putf HW rfl ok5.1 hq_q rfl (by decide) rfl ?_
      refine zrn_ok HW 1 (zB_iff.mpr (?_ : G (97, [(0, .inl (.ref q))], [.inl (.ref q)], (hput (hput hl q 4 (.inl (.int m4))) q 2 (.inl (.int r17))), 0, 0)))
      obtain ⟨x19, g19, e19, l19, u19⟩ := hi_val (i := 2) ok18.1 hq_q (by decide) rfl
      have l19 : (0 : Int) ≤ x19.toInt := l19
      have u19 : x19.toInt ≤ (5 : Int) := u19
      refine g_getf HW rfl ok18.1 hq_q rfl g19 ?_
      refine zrn_ok HW 2 (zbr_ex (cd := .eq) (x := x19) (y := (1 : Int32)) (fun hc20 => zB_iff.mpr ?_) (fun hc20 => zB_iff.mpr ?_))
      · -- pc 112
        have i20 : x19.toInt = (1 : Int) := zop_int.mp hc20
        refine zrn_ok HW 3 (zB_iff.mpr (?_ : G (118, [(1, .inl (.int (1 : Int32))), (0, .inl (.ref q))], [], (hput (hput hl q 4 (.inl (.int m4))) q 2 (.inl (.int r17))), 0, 0)))
        exact loop2 300 (1 : Int32) _ ok18 (by obtain ⟨x, g, e, l, u⟩ := hi_val (i := 4) ok18.1 hq_q (by decide) rfl; have l : (0 : Int) ≤ x.toInt := l; omega)
      · -- pc 104
        have i20 : ¬ (x19.toInt = (1 : Int)) := fun e => hc20 (zop_int.mpr e)
        refine zrn_ok HW 1 (zB_iff.mpr (?_ : G (105, [(0, .inl (.ref q))], [.inl (.ref q)], (hput (hput hl q 4 (.inl (.int m4))) q 2 (.inl (.int r17))), 0, 0)))
        obtain ⟨x21, g21, e21, l21, u21⟩ := hi_val (i := 2) ok18.1 hq_q (by decide) rfl
        have l21 : (0 : Int) ≤ x21.toInt := l21
        have u21 : x21.toInt ≤ (5 : Int) := u21
        refine g_getf HW rfl ok18.1 hq_q rfl g21 ?_
        refine zrn_ok HW 2 (zbr_ex (cd := .ne) (x := x21) (y := (2 : Int32)) (fun hc22 => zB_iff.mpr ?_) (fun hc22 => zB_iff.mpr ?_))
        · -- pc 116
          have i22 : ¬ x21.toInt = (2 : Int) := zop_int.mp hc22
          refine zrn_ok HW 2 (zB_iff.mpr (?_ : G (118, [(1, .inl (.int (0 : Int32))), (0, .inl (.ref q))], [], (hput (hput hl q 4 (.inl (.int m4))) q 2 (.inl (.int r17))), 0, 0)))
          exact loop2 300 (0 : Int32) _ ok18 (by obtain ⟨x, g, e, l, u⟩ := hi_val (i := 4) ok18.1 hq_q (by decide) rfl; have l : (0 : Int) ≤ x.toInt := l; omega)
        · -- pc 112
          have i22 : ¬ (¬ x21.toInt = (2 : Int)) := fun e => hc22 (zop_int.mpr e)
          refine zrn_ok HW 3 (zB_iff.mpr (?_ : G (118, [(1, .inl (.int (1 : Int32))), (0, .inl (.ref q))], [], (hput (hput hl q 4 (.inl (.int m4))) q 2 (.inl (.int r17))), 0, 0)))
          exact loop2 300 (1 : Int32) _ ok18 (by obtain ⟨x, g, e, l, u⟩ := hi_val (i := 4) ok18.1 hq_q (by decide) rfl; have l : (0 : Int) ≤ x.toInt := l; omega)
  have loop1 : ∀ (k : Nat) (hl : zH), wOK Φ h.length T hl → 250 - hi hl q 3 < (k : Int) → G (8, [(0, .inl (.ref q))], [], hl, 0, 0) := by
    intro k
    induction k with
    | zero =>
      intro hl okl hm
      exfalso
      obtain ⟨x, g, e, l, u⟩ := hi_val (i := 3) okl.1 hq_q (by decide) rfl
      have u : x.toInt ≤ (250 : Int) := u
      omega
    | succ k ih =>
      intro hl okl hm
      refine zrn_ok HW 1 (zB_iff.mpr (?_ : G (9, [(0, .inl (.ref q))], [.inl (.ref q)], hl, 0, 0)))
      obtain ⟨x1, g1, e1, l1, u1⟩ := hi_val (i := 3) okl.1 hq_q (by decide) rfl
      have l1 : (0 : Int) ≤ x1.toInt := l1
      have u1 : x1.toInt ≤ (250 : Int) := u1
      refine g_getf HW rfl okl.1 hq_q rfl g1 ?_
      refine zrn_ok HW 1 (zB_iff.mpr (?_ : G (13, [(0, .inl (.ref q))], [.inl (.ref q), .inl (.int x1)], hl, 0, 0)))
      obtain ⟨x2, g2, e2, l2, u2⟩ := hi_val (i := 1) okl.1 hq_q (by decide) rfl
      have l2 : (0 : Int) ≤ x2.toInt := l2
      have u2 : x2.toInt ≤ (250 : Int) := u2
      refine g_getf HW rfl okl.1 hq_q rfl g2 ?_
      refine zrn_ok HW 1 (zbr_ex (cd := .ge) (x := x1) (y := x2) (fun hc3 => zB_iff.mpr ?_) (fun hc3 => zB_iff.mpr ?_))
      · -- pc 48
        have i3 : x1.toInt ≥ x2.toInt := zop_int.mp hc3
        exact at48 _ okl
      · -- pc 19
        have i3 : ¬ (x1.toInt ≥ x2.toInt) := fun e => hc3 (zop_int.mpr e)
        refine zrn_ok HW 1 (zB_iff.mpr (?_ : G (20, [(0, .inl (.ref q))], [.inl (.ref q)], hl, 0, 0)))
        obtain ⟨v4, g4, s4⟩ := hOK_get (i := 0) okl.1 hq_q (by decide)
        obtain ⟨q4, rfl, hq4⟩ : ∃ q : Nat, v4 = .inl (.ref q) ∧ T[q]? = some 18 := s4
        refine g_getf HW rfl okl.1 hq_q rfl g4 ?_
        refine zrn_ok HW 1 (zB_iff.mpr (?_ : G (24, [(0, .inl (.ref q))], [.inl (.ref q), .inl (.ref q4)], hl, 0, 0)))
        obtain ⟨x5, g5, e5, l5, u5⟩ := hi_val (i := 3) okl.1 hq_q (by decide) rfl
        have l5 : (0 : Int) ≤ x5.toInt := l5
        have u5 : x5.toInt ≤ (250 : Int) := u5
        refine g_getf HW rfl okl.1 hq_q rfl g5 ?_
        obtain ⟨x6, g6, e6, l6, u6⟩ := hi_val (i := (x5).toInt.toNat) okl.1 hq4 (by show _ < 250; omega) rfl
        have l6 : (0 : Int) ≤ x6.toInt := l6
        have u6 : x6.toInt ≤ (255 : Int) := u6
        refine g_iald HW rfl okl.1 hq4 rfl (by omega) g6 ?_
        refine g_callS (b := 0) (E' := ze_X2_sortOf) HW (Or.inl rfl) rfl rfl (Nat.le_of_ble_eq_true rfl) (Nat.le_of_ble_eq_true rfl) (Nat.le_of_ble_eq_true rfl) (Nat.le_of_ble_eq_true rfl) (c_sortOf (fun r7 lo7 hi7 => zB_iff.mpr ?_))
        show G (31, [(0, .inl (.ref q))], [.inl (.int r7)], hl, 0, 0)
        refine zrn_ok HW 2 (zbr_ex (cd := .ne) (x := r7) (y := (4 : Int32)) (fun hc8 => zB_iff.mpr ?_) (fun hc8 => zB_iff.mpr ?_))
        · -- pc 48
          have i8 : ¬ r7.toInt = (4 : Int) := zop_int.mp hc8
          exact at48 _ okl
        · -- pc 35
          have i8 : ¬ (¬ r7.toInt = (4 : Int)) := fun e => hc8 (zop_int.mpr e)
          refine zrn_ok HW 2 (zB_iff.mpr (?_ : G (37, [(0, .inl (.ref q))], [.inl (.ref q), .inl (.ref q)], hl, 0, 0)))
          obtain ⟨x9, g9, e9, l9, u9⟩ := hi_val (i := 3) okl.1 hq_q (by decide) rfl
          have l9 : (0 : Int) ≤ x9.toInt := l9
          have u9 : x9.toInt ≤ (250 : Int) := u9
          refine g_getf HW rfl okl.1 hq_q rfl g9 ?_
          have y10 : -2147483648 ≤ x9.toInt + (1 : Int) → x9.toInt + (1 : Int) ≤ 2147483647 → (x9 + (1 : Int32)).toInt = x9.toInt + (1 : Int) := t_addC (x := x9) (y := (1 : Int32))
          refine zrn_ok HW 2 (zB_iff.mpr (?_ : G (42, [(0, .inl (.ref q))], [.inl (.int (x9 + (1 : Int32))), .inl (.ref q)], hl, 0, 0)))
          have ok11 : wOK Φ h.length T (hput hl q 3 (.inl (.int (x9 + (1 : Int32))))) := wOK_put hst okl hq_q rfl ⟨_, rfl, (by show (0 : Int) ≤ _; omega), (by show _ ≤ (250 : Int); omega)⟩
          refine g_putf HW rfl okl.1 hq_q rfl (by decide) rfl ?_
          refine zrn_ok HW 1 (zB_iff.mpr (?_ : G (8, [(0, .inl (.ref q))], [], (hput hl q 3 (.inl (.int (x9 + (1 : Int32))))), 0, 0)))
          have ez : hi (hput hl q 3 (.inl (.int (x9 + (1 : Int32))))) q 3 = (x9 + (1 : Int32)).toInt := hi_put g9
          exact ih _ ok11 (by omega)
  refine zrn_ok HW 2 (zB_iff.mpr (?_ : G (2, [(0, .inl (.ref q))], [.inl (.ref q), .inl (.ref q)], h, 0, 0)))
  obtain ⟨x1, g1, e1, l1, u1⟩ := hi_val (i := 4) ok.1 hq_q (by decide) rfl
  have l1 : (0 : Int) ≤ x1.toInt := l1
  have u1 : x1.toInt ≤ (250 : Int) := u1
  refine g_getf HW rfl ok.1 hq_q rfl g1 ?_
  have ok2 : wOK Φ h.length T (hput h q 3 (.inl (.int x1))) := wOK_put hst ok hq_q rfl ⟨_, rfl, (by show (0 : Int) ≤ _; omega), (by show _ ≤ (250 : Int); omega)⟩
  refine g_putf HW rfl ok.1 hq_q rfl (by decide) rfl ?_
  exact loop1 300 _ ok2 (by obtain ⟨x, g, e, l, u⟩ := hi_val (i := 3) ok2.1 hq_q (by decide) rfl; have l : (0 : Int) ≤ x.toInt := l; omega)
theorem c_readNumber {scr : List zV} {Φ : List Nat → zH → Prop} {N d : Nat} {T : List Nat} {h : zH} {q : Nat} {y z : Int32} {post : Option zV → zH → Bool} (hst : tStab zty 43 Φ) (IH : tBel Φ scr 2) (hd : 2 ≤ d) (ok : wOK Φ N T h) (hq_q : T[q]? = some 2)
    (kk : ∀ (r : Int32) (T' : List Nat) (h' : zH), tExt T T' → wOK Φ N T' h' → (r.toInt ≠ 0 → y.toInt ≤ hi h' q 5 ∧ hi h' q 5 ≤ z.toInt) → post (some (.inl (.int r))) h' = true) (k01 : ∀ (r : Int32) (h' : zH), post (some (.inl (.int r))) h' = true → post (some (.inl (.int r))) h' = true) : zD zprog scr (d + 1) 67 [.inl (.ref q), .inl (.int y), .inl (.int z)] h post = true := by
  obtain ⟨d, rfl⟩ : ∃ d', d = d' + 1 := ⟨d - 1, by omega⟩
  refine zD_intro (E := ze_X2_readNumber) rfl rfl (fun G HW => ?_)
  refine zrn_ok HW 1 (zB_iff.mpr (?_ : G (1, [(0, .inl (.ref q)), (1, .inl (.int y)), (2, .inl (.int z))], [.inl (.ref q)], h, 0, 0)))
  refine g_tV (e := te_X2_step_0) (E' := ze_X2_step) HW (tLow_of IH hd) rfl rfl (show te_X2_step_0 ∈ [te_X2_step_0] from List.mem_cons_self) (by decide +kernel) (Nat.le_of_ble_eq_true rfl) ⟨rfl, rfl⟩ (by decide) ok.1 ok.2.1 rfl hq_q rfl (Nat.le_of_ble_eq_true rfl) ⟨⟨_, rfl, hq_q⟩, trivial⟩ (fun v1 T1 h1 m1 k1 f1 l1 r1 => ?_)
  obtain rfl : v1 = none := r1
  have ok1 : wOK Φ N T1 h1 := ⟨k1, f1, Nat.le_trans l1 ok.2.2⟩
  have hq_q := m1 _ _ hq_q
  show G (4, [(0, .inl (.ref q)), (1, .inl (.int y)), (2, .inl (.int z))], [], h1, 0, 0)
  refine zrn_ok HW 1 (zB_iff.mpr (?_ : G (5, [(0, .inl (.ref q)), (1, .inl (.int y)), (2, .inl (.int z))], [.inl (.ref q)], h1, 0, 0)))
  obtain ⟨x2, g2, e2, l2, u2⟩ := hi_val (i := 2) ok1.1 hq_q (by decide) rfl
  have l2 : (0 : Int) ≤ x2.toInt := l2
  have u2 : x2.toInt ≤ (5 : Int) := u2
  refine g_getf HW rfl ok1.1 hq_q rfl g2 ?_
  refine zrn_ok HW 2 (zbr_ex (cd := .ne) (x := x2) (y := (2 : Int32)) (fun hc3 => zB_iff.mpr ?_) (fun hc3 => zB_iff.mpr ?_))
  · -- pc 36
    have i3 : ¬ x2.toInt = (2 : Int) := zop_int.mp hc3
    refine zrn_ok HW 2 ?_
    exact zret_z rfl rfl (kk (0 : Int32) _ _ (tExt_tr (tExt_rf T) m1) ok1 (fun e => absurd (show (0 : Int32).toInt = 0 from rfl) e))
  · -- pc 12
    have i3 : ¬ (¬ x2.toInt = (2 : Int)) := fun e => hc3 (zop_int.mpr e)
    refine zrn_ok HW 1 (zB_iff.mpr (?_ : G (13, [(0, .inl (.ref q)), (1, .inl (.int y)), (2, .inl (.int z))], [.inl (.ref q)], h1, 0, 0)))
    obtain ⟨x4, g4, e4, l4, u4⟩ := hi_val (i := 5) ok1.1 hq_q (by decide) rfl
    have l4 : ((-2147483648) : Int) ≤ x4.toInt := l4
    have u4 : x4.toInt ≤ (2147483647 : Int) := u4
    refine g_getf HW rfl ok1.1 hq_q rfl g4 ?_
    refine zrn_ok HW 2 (zbr_ex (cd := .eq) (x := x4) (y := (-1 : Int32)) (fun hc5 => zB_iff.mpr ?_) (fun hc5 => zB_iff.mpr ?_))
    · -- pc 36
      have i5 : x4.toInt = (-1 : Int) := zop_int.mp hc5
      refine zrn_ok HW 2 ?_
      exact zret_z rfl rfl (kk (0 : Int32) _ _ (tExt_tr (tExt_rf T) m1) ok1 (fun e => absurd (show (0 : Int32).toInt = 0 from rfl) e))
    · -- pc 20
      have i5 : ¬ (x4.toInt = (-1 : Int)) := fun e => hc5 (zop_int.mpr e)
      refine zrn_ok HW 1 (zB_iff.mpr (?_ : G (21, [(0, .inl (.ref q)), (1, .inl (.int y)), (2, .inl (.int z))], [.inl (.ref q)], h1, 0, 0)))
      obtain ⟨x6, g6, e6, l6, u6⟩ := hi_val (i := 5) ok1.1 hq_q (by decide) rfl
      have l6 : ((-2147483648) : Int) ≤ x6.toInt := l6
      have u6 : x6.toInt ≤ (2147483647 : Int) := u6
      refine g_getf HW rfl ok1.1 hq_q rfl g6 ?_
      refine zrn_ok HW 2 (zB_iff.mpr (?_ : G (26, [(0, .inl (.ref q)), (1, .inl (.int y)), (2, .inl (.int z))], [.inl (.int z), .inl (.int y), .inl (.int x6)], h1, 0, 0)))
      refine g_callS (b := 1) (E' := ze_X4_isWithin) HW (Or.inr rfl) rfl rfl (Nat.le_of_ble_eq_true rfl) (Nat.le_of_ble_eq_true rfl) (Nat.le_of_ble_eq_true rfl) (Nat.le_of_ble_eq_true rfl) (c_isWithin (fun a7 b7 => zB_iff.mpr ?_) (fun n7 => zB_iff.mpr ?_))
      · show G (29, [(0, .inl (.ref q)), (1, .inl (.int y)), (2, .inl (.int z))], [.inl (.int (1 : Int32))], h1, 0, 0)
        have a7 : y.toInt ≤ x6.toInt := a7
        have b7 : x6.toInt ≤ z.toInt := b7
        refine zrn_ok HW 4 ?_
        exact zret_z rfl rfl (kk (1 : Int32) _ _ (tExt_tr (tExt_rf T) m1) ok1 (fun _ => ⟨by omega, by omega⟩))
      · show G (29, [(0, .inl (.ref q)), (1, .inl (.int y)), (2, .inl (.int z))], [.inl (.int (0 : Int32))], h1, 0, 0)
        have n7 : ¬ (y.toInt ≤ x6.toInt ∧ x6.toInt ≤ z.toInt) := n7
        refine zrn_ok HW 3 ?_
        exact zret_z rfl rfl (kk (0 : Int32) _ _ (tExt_tr (tExt_rf T) m1) ok1 (fun e => absurd (show (0 : Int32).toInt = 0 from rfl) e))
theorem tq_X2_readSlips_0 {scr : List zV} {Φ : List Nat → zH → Prop} (hst : tStab zty 43 Φ) : tM zty Φ zprog scr zhts zsm 71 te_X2_readSlips_0 := by
  refine t_hand2 (E := ze_X2_readSlips) (D0 := 3) rfl rfl (by decide +kernel) (fun d T h vs post G hd hok hΦ hlen hvs hp IH HW => ?_)
  obtain ⟨d, rfl⟩ : ∃ d', d = d' + 1 := ⟨d - 1, by omega⟩
  obtain ⟨v_q, vs, rfl, k_q, hvs⟩ := okAs_cons hvs
  obtain ⟨v_p, vs, rfl, k_p, hvs⟩ := okAs_cons hvs
  obtain rfl := okAs_nil hvs
  obtain ⟨q, rfl, hq_q⟩ := tref_sp rfl k_q
  have hq_q : T[q]? = some 2 := hq_q
  obtain ⟨p, rfl, hq_p⟩ := tref_sp rfl k_p
  have hq_p : T[p]? = some 1 := hq_p
  have ok : wOK Φ h.length T h := ⟨hok, hΦ, Nat.le_refl _⟩
  have RET : ∀ (y : Int32) (T' : List Nat) (h' : zH), tExt T T' → wOK Φ h.length T' h' → 0 ≤ y.toInt → y.toInt ≤ 1 → post (some (.inl (.int y))) h' = true := fun y T' h' m' ok' b1 b2 => hp _ T' h' m' ok'.1 ok'.2.1 (by have := ok'.2.2; omega) ⟨_, rfl, okA_I b1 b2, fun c hc => by cases hc⟩
  refine zrn_ok HW 1 (zB_iff.mpr (?_ : G (1, [(0, .inl (.ref q)), (1, .inl (.ref p))], [.inl (.ref p)], h, 0, 0)))
  obtain ⟨x1, g1, e1, l1, u1⟩ := hi_val (i := 8) ok.1 hq_p (by decide) rfl
  have l1 : (0 : Int) ≤ x1.toInt := l1
  have u1 : x1.toInt ≤ (8 : Int) := u1
  refine g_getf HW rfl ok.1 hq_p rfl g1 ?_
  refine zrn_ok HW 1 (zbr_ex (cd := .gt) (x := x1) (y := (0 : Int32)) (fun hc2 => zB_iff.mpr ?_) (fun hc2 => zB_iff.mpr ?_))
  · -- pc 17
    have i2 : x1.toInt > (0 : Int) := zop_int.mp hc2
    refine zrn_ok HW 2 ?_
    exact zret_z rfl rfl (RET (0 : Int32) T h (tExt_rf T) ok (by decide) (by decide))
  · -- pc 7
    have i2 : ¬ (x1.toInt > (0 : Int)) := fun e => hc2 (zop_int.mpr e)
    refine zrn_ok HW 3 (zB_iff.mpr (?_ : G (11, [(0, .inl (.ref q)), (1, .inl (.ref p))], [.inl (.int (60 : Int32)), .inl (.int (1 : Int32)), .inl (.ref q)], h, 0, 0)))
    refine g_callV (E' := ze_X2_readNumber) HW rfl rfl (Nat.le_of_ble_eq_true rfl) (Nat.le_of_ble_eq_true rfl) (Nat.le_of_ble_eq_true rfl) ok.1 rfl hq_q rfl (Nat.le_of_ble_eq_true rfl) (c_readNumber hst (tBel_le IH (by decide)) (by omega) ok hq_q (fun r3 T3 h3 m3 ok3 f3 => zB_iff.mpr ?_) (fun _ _ e => e))
    show G (14, [(0, .inl (.ref q)), (1, .inl (.ref p))], [.inl (.int r3)], h3, 0, 0)
    have f3 : ¬ r3.toInt = 0 → (1 : Int) ≤ hi h3 q 5 ∧ hi h3 q 5 ≤ (60 : Int) := f3
    have hq_q := m3 _ _ hq_q
    have hq_p := m3 _ _ hq_p
    refine zrn_ok HW 1 (zbr_ex (cd := .ne) (x := r3) (y := (0 : Int32)) (fun hc4 => zB_iff.mpr ?_) (fun hc4 => zB_iff.mpr ?_))
    · -- pc 19
      have i4 : ¬ r3.toInt = (0 : Int) := zop_int.mp hc4
      refine zrn_ok HW 2 (zB_iff.mpr (?_ : G (21, [(0, .inl (.ref q)), (1, .inl (.ref p))], [.inl (.ref q), .inl (.ref p)], h3, 0, 0)))
      obtain ⟨x5, g5, e5, l5, u5⟩ := hi_val (i := 5) ok3.1 hq_q (by decide) rfl
      have l5 : ((-2147483648) : Int) ≤ x5.toInt := l5
      have u5 : x5.toInt ≤ (2147483647 : Int) := u5
      refine g_getf HW rfl ok3.1 hq_q rfl g5 ?_
      refine g_tV (e := te_X1_putSlips_0) (E' := ze_X1_putSlips) HW (tLow_of IH hd) rfl rfl (show te_X1_putSlips_0 ∈ [te_X1_putSlips_0] from List.mem_cons_self) (by decide +kernel) (Nat.le_of_ble_eq_true rfl) ⟨rfl, rfl⟩ (by decide) ok3.1 ok3.2.1 rfl hq_p rfl (Nat.le_of_ble_eq_true rfl) ⟨⟨_, rfl, hq_p⟩, okA_I (by omega) (by omega), trivial⟩ (fun v6 T6 h6 m6 k6 f6 l6 r6 => ?_)
      obtain rfl : v6 = none := r6
      have ok6 : wOK Φ h.length T6 h6 := ⟨k6, f6, Nat.le_trans l6 ok3.2.2⟩
      have hq_q := m6 _ _ hq_q
      have hq_p := m6 _ _ hq_p
      show G (27, [(0, .inl (.ref q)), (1, .inl (.ref p))], [], h6, 0, 0)
      refine zrn_ok HW 1 (zB_iff.mpr (?_ : G (28, [(0, .inl (.ref q)), (1, .inl (.ref p))], [.inl (.ref q)], h6, 0, 0)))
      refine g_tV (e := te_X2_step_0) (E' := ze_X2_step) HW (tLow_of IH hd) rfl rfl (show te_X2_step_0 ∈ [te_X2_step_0] from List.mem_cons_self) (by decide +kernel) (Nat.le_of_ble_eq_true rfl) ⟨rfl, rfl⟩ (by decide) ok6.1 ok6.2.1 rfl hq_q rfl (Nat.le_of_ble_eq_true rfl) ⟨⟨_, rfl, hq_q⟩, trivial⟩ (fun v7 T7 h7 m7 k7 f7 l7 r7 => ?_)
      obtain rfl : v7 = none := r7
      have ok7 : wOK Φ h.length T7 h7 := ⟨k7, f7, Nat.le_trans l7 ok6.2.2⟩
      have hq_q := m7 _ _ hq_q
      have hq_p := m7 _ _ hq_p
      show G (31, [(0, .inl (.ref q)), (1, .inl (.ref p))], [], h7, 0, 0)
      refine zrn_ok HW 2 ?_
      exact zret_z rfl rfl (RET (1 : Int32) T7 h7 (tExt_tr (tExt_tr (tExt_tr (tExt_rf T) m3) m6) m7) ok7 (by decide) (by decide))
    · -- pc 17
      have i4 : ¬ (¬ r3.toInt = (0 : Int)) := fun e => hc4 (zop_int.mpr e)
      refine zrn_ok HW 2 ?_
      exact zret_z rfl rfl (RET (0 : Int32) T3 h3 (tExt_tr (tExt_rf T) m3) ok3 (by decide) (by decide))
theorem tq_X2_readRule_0 {scr : List zV} {Φ : List Nat → zH → Prop} (hst : tStab zty 43 Φ) : tM zty Φ zprog scr zhts zsm 70 te_X2_readRule_0 := by
  refine t_hand2 (E := ze_X2_readRule) (D0 := 3) rfl rfl (by decide +kernel) (fun d T h vs post G hd hok hΦ hlen hvs hp IH HW => ?_)
  obtain ⟨d, rfl⟩ : ∃ d', d = d' + 1 := ⟨d - 1, by omega⟩
  obtain ⟨v_q, vs, rfl, k_q, hvs⟩ := okAs_cons hvs
  obtain ⟨v_p, vs, rfl, k_p, hvs⟩ := okAs_cons hvs
  obtain rfl := okAs_nil hvs
  obtain ⟨q, rfl, hq_q⟩ := tref_sp rfl k_q
  have hq_q : T[q]? = some 2 := hq_q
  obtain ⟨p, rfl, hq_p⟩ := tref_sp rfl k_p
  have hq_p : T[p]? = some 1 := hq_p
  have ok : wOK Φ h.length T h := ⟨hok, hΦ, Nat.le_refl _⟩
  have RET : ∀ (y : Int32) (T' : List Nat) (h' : zH), tExt T T' → wOK Φ h.length T' h' → 0 ≤ y.toInt → y.toInt ≤ 1 → post (some (.inl (.int y))) h' = true := fun y T' h' m' ok' b1 b2 => hp _ T' h' m' ok'.1 ok'.2.1 (by have := ok'.2.2; omega) ⟨_, rfl, okA_I b1 b2, fun c hc => by cases hc⟩
  refine zrn_ok HW 1 (zB_iff.mpr (?_ : G (1, [(0, .inl (.ref q)), (1, .inl (.ref p))], [.inl (.ref p)], h, 0, 0)))
  obtain ⟨x1, g1, e1, l1, u1⟩ := hi_val (i := 8) ok.1 hq_p (by decide) rfl
  have l1 : (0 : Int) ≤ x1.toInt := l1
  have u1 : x1.toInt ≤ (8 : Int) := u1
  refine g_getf HW rfl ok.1 hq_p rfl g1 ?_
  refine zrn_ok HW 1 (zbr_ex (cd := .gt) (x := x1) (y := (0 : Int32)) (fun hc2 => zB_iff.mpr ?_) (fun hc2 => zB_iff.mpr ?_))
  · -- pc 17
    have i2 : x1.toInt > (0 : Int) := zop_int.mp hc2
    refine zrn_ok HW 2 ?_
    exact zret_z rfl rfl (RET (0 : Int32) T h (tExt_rf T) ok (by decide) (by decide))
  · -- pc 7
    have i2 : ¬ (x1.toInt > (0 : Int)) := fun e => hc2 (zop_int.mpr e)
    refine zrn_ok HW 3 (zB_iff.mpr (?_ : G (11, [(0, .inl (.ref q)), (1, .inl (.ref p))], [.inl (.int (10 : Int32)), .inl (.int (2 : Int32)), .inl (.ref q)], h, 0, 0)))
    refine g_callV (E' := ze_X2_readNumber) HW rfl rfl (Nat.le_of_ble_eq_true rfl) (Nat.le_of_ble_eq_true rfl) (Nat.le_of_ble_eq_true rfl) ok.1 rfl hq_q rfl (Nat.le_of_ble_eq_true rfl) (c_readNumber hst (tBel_le IH (by decide)) (by omega) ok hq_q (fun r3 T3 h3 m3 ok3 f3 => zB_iff.mpr ?_) (fun _ _ e => e))
    show G (14, [(0, .inl (.ref q)), (1, .inl (.ref p))], [.inl (.int r3)], h3, 0, 0)
    have f3 : ¬ r3.toInt = 0 → (2 : Int) ≤ hi h3 q 5 ∧ hi h3 q 5 ≤ (10 : Int) := f3
    have hq_q := m3 _ _ hq_q
    have hq_p := m3 _ _ hq_p
    refine zrn_ok HW 1 (zbr_ex (cd := .ne) (x := r3) (y := (0 : Int32)) (fun hc4 => zB_iff.mpr ?_) (fun hc4 => zB_iff.mpr ?_))
    · -- pc 19
      have i4 : ¬ r3.toInt = (0 : Int) := zop_int.mp hc4
      refine zrn_ok HW 2 (zB_iff.mpr (?_ : G (21, [(0, .inl (.ref q)), (1, .inl (.ref p))], [.inl (.ref q), .inl (.ref p)], h3, 0, 0)))
      obtain ⟨x5, g5, e5, l5, u5⟩ := hi_val (i := 5) ok3.1 hq_q (by decide) rfl
      have l5 : ((-2147483648) : Int) ≤ x5.toInt := l5
      have u5 : x5.toInt ≤ (2147483647 : Int) := u5
      refine g_getf HW rfl ok3.1 hq_q rfl g5 ?_
      have ok6 : wOK Φ h.length T3 (hput h3 p 1 (.inl (.int x5))) := wOK_put hst ok3 hq_p rfl ⟨_, rfl, (by show (2 : Int) ≤ _; omega), (by show _ ≤ (10 : Int); omega)⟩
      refine g_putf HW rfl ok3.1 hq_p rfl (by decide) rfl ?_
      refine zrn_ok HW 1 (zB_iff.mpr (?_ : G (28, [(0, .inl (.ref q)), (1, .inl (.ref p))], [.inl (.ref q)], (hput h3 p 1 (.inl (.int x5))), 0, 0)))
      refine g_tV (e := te_X2_step_0) (E' := ze_X2_step) HW (tLow_of IH hd) rfl rfl (show te_X2_step_0 ∈ [te_X2_step_0] from List.mem_cons_self) (by decide +kernel) (Nat.le_of_ble_eq_true rfl) ⟨rfl, rfl⟩ (by decide) ok6.1 ok6.2.1 rfl hq_q rfl (Nat.le_of_ble_eq_true rfl) ⟨⟨_, rfl, hq_q⟩, trivial⟩ (fun v7 T7 h7 m7 k7 f7 l7 r7 => ?_)
      obtain rfl : v7 = none := r7
      have ok7 : wOK Φ h.length T7 h7 := ⟨k7, f7, Nat.le_trans l7 ok6.2.2⟩
      have hq_q := m7 _ _ hq_q
      have hq_p := m7 _ _ hq_p
      show G (31, [(0, .inl (.ref q)), (1, .inl (.ref p))], [], h7, 0, 0)
      refine zrn_ok HW 2 ?_
      exact zret_z rfl rfl (RET (1 : Int32) T7 h7 (tExt_tr (tExt_tr (tExt_rf T) m3) m7) ok7 (by decide) (by decide))
    · -- pc 17
      have i4 : ¬ (¬ r3.toInt = (0 : Int)) := fun e => hc4 (zop_int.mpr e)
      refine zrn_ok HW 2 ?_
      exact zret_z rfl rfl (RET (0 : Int32) T3 h3 (tExt_tr (tExt_rf T) m3) ok3 (by decide) (by decide))
