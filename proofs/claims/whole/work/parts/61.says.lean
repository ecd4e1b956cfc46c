theorem c_isUnder {scr : List zV} {d : Nat} {x : Int32} {y : Int32} {h : zH} {post : Option zV → zH → Bool}  (kk : ∀ r : Int32, 0 ≤ r.toInt → r.toInt ≤ 1 → post (some (.inl (.int r))) h = true) : zD zprog scr (d + 1) 19 [.inl (.int x), .inl (.int y)] h post = true := by
  refine zD_intro (E := ze_X5_isUnder) rfl rfl (fun G HW => ?_)
  refine zrn_ok HW 2 (zbr_ex (cd := .eq) (x := y) (y := (0 : Int32)) (fun hc1 => zB_iff.mpr ?_) (fun hc1 => zB_iff.mpr ?_))
  · -- pc 29
    have i1 : y.toInt = (0 : Int) := zop_int.mp hc1
    refine zrn_ok HW 3 ?_
    exact zret_z rfl rfl (kk (1 : Int32) (by decide) (by decide))
  · -- pc 4
    have i1 : ¬ (y.toInt = (0 : Int)) := fun e => hc1 (zop_int.mpr e)
    refine zrn_ok HW 3 (zbr_ex (cd := .eq) (x := x) (y := y) (fun hc2 => zB_iff.mpr ?_) (fun hc2 => zB_iff.mpr ?_))
    · -- pc 29
      have i2 : x.toInt = y.toInt := zop_int.mp hc2
      refine zrn_ok HW 3 ?_
      exact zret_z rfl rfl (kk (1 : Int32) (by decide) (by decide))
    · -- pc 9
      have i2 : ¬ (x.toInt = y.toInt) := fun e => hc2 (zop_int.mpr e)
      refine zrn_ok HW 3 (zbr_ex (cd := .ne) (x := y) (y := (1 : Int32)) (fun hc3 => zB_iff.mpr ?_) (fun hc3 => zB_iff.mpr ?_))
      · -- pc 19
        have i3 : ¬ y.toInt = (1 : Int) := zop_int.mp hc3
        refine zrn_ok HW 3 (zbr_ex (cd := .ne) (x := y) (y := (4 : Int32)) (fun hc4 => zB_iff.mpr ?_) (fun hc4 => zB_iff.mpr ?_))
        · -- pc 33
          have i4 : ¬ y.toInt = (4 : Int) := zop_int.mp hc4
          refine zrn_ok HW 2 ?_
          exact zret_z rfl rfl (kk (0 : Int32) (by decide) (by decide))
        · -- pc 24
          have i4 : ¬ (¬ y.toInt = (4 : Int)) := fun e => hc4 (zop_int.mpr e)
          refine zrn_ok HW 3 (zbr_ex (cd := .ne) (x := x) (y := (5 : Int32)) (fun hc5 => zB_iff.mpr ?_) (fun hc5 => zB_iff.mpr ?_))
          · -- pc 33
            have i5 : ¬ x.toInt = (5 : Int) := zop_int.mp hc5
            refine zrn_ok HW 2 ?_
            exact zret_z rfl rfl (kk (0 : Int32) (by decide) (by decide))
          · -- pc 29
            have i5 : ¬ (¬ x.toInt = (5 : Int)) := fun e => hc5 (zop_int.mpr e)
            refine zrn_ok HW 3 ?_
            exact zret_z rfl rfl (kk (1 : Int32) (by decide) (by decide))
      · -- pc 14
        have i3 : ¬ (¬ y.toInt = (1 : Int)) := fun e => hc3 (zop_int.mpr e)
        refine zrn_ok HW 3 (zbr_ex (cd := .eq) (x := x) (y := (3 : Int32)) (fun hc6 => zB_iff.mpr ?_) (fun hc6 => zB_iff.mpr ?_))
        · -- pc 29
          have i6 : x.toInt = (3 : Int) := zop_int.mp hc6
          refine zrn_ok HW 3 ?_
          exact zret_z rfl rfl (kk (1 : Int32) (by decide) (by decide))
        · -- pc 19
          have i6 : ¬ (x.toInt = (3 : Int)) := fun e => hc6 (zop_int.mpr e)
          refine zrn_ok HW 3 (zbr_ex (cd := .ne) (x := y) (y := (4 : Int32)) (fun hc7 => zB_iff.mpr ?_) (fun hc7 => zB_iff.mpr ?_))
          · -- pc 33
            have i7 : ¬ y.toInt = (4 : Int) := zop_int.mp hc7
            refine zrn_ok HW 2 ?_
            exact zret_z rfl rfl (kk (0 : Int32) (by decide) (by decide))
          · -- pc 24
            have i7 : ¬ (¬ y.toInt = (4 : Int)) := fun e => hc7 (zop_int.mpr e)
            refine zrn_ok HW 3 (zbr_ex (cd := .ne) (x := x) (y := (5 : Int32)) (fun hc8 => zB_iff.mpr ?_) (fun hc8 => zB_iff.mpr ?_))
            · -- pc 33
              have i8 : ¬ x.toInt = (5 : Int) := zop_int.mp hc8
              refine zrn_ok HW 2 ?_
              exact zret_z rfl rfl (kk (0 : Int32) (by decide) (by decide))
            · -- pc 29
              have i8 : ¬ (¬ x.toInt = (5 : Int)) := fun e => hc8 (zop_int.mpr e)
              refine zrn_ok HW 3 ?_
              exact zret_z rfl rfl (kk (1 : Int32) (by decide) (by decide))
theorem tq_X5_says_0 {scr : List zV} {P : pP} : tM zty (zPhi P) zprog scr zhts zsm 219 te_X5_says_0 := by
  have hst := p_stab P
  refine t_hand2 (E := ze_X5_says) (D0 := 1) rfl rfl (by decide +kernel) (fun d T h vs post G hd hok hΦ hlen hvs hp IH HW => ?_)
  obtain ⟨d, rfl⟩ : ∃ d', d = d' + 1 := ⟨d - 1, by omega⟩
  obtain ⟨v_q, vs, rfl, k_q, hvs⟩ := okAs_cons hvs
  obtain ⟨v_x, vs, rfl, k_x, hvs⟩ := okAs_cons hvs
  obtain ⟨v_y, vs, rfl, k_y, hvs⟩ := okAs_cons hvs
  obtain rfl := okAs_nil hvs
  obtain ⟨q, rfl, hq_q⟩ := tref_sp rfl k_q
  have hq_q : T[q]? = some 5 := hq_q
  obtain ⟨x, rfl, bl_x, bu_x⟩ := tint_sp rfl k_x
  have bl_x : ((-2147483648) : Int) ≤ x.toInt := bl_x
  have bu_x : x.toInt ≤ (2147483647 : Int) := bu_x
  obtain ⟨y, rfl, bl_y, bu_y⟩ := tint_sp rfl k_y
  have bl_y : ((-2147483648) : Int) ≤ y.toInt := bl_y
  have bu_y : y.toInt ≤ (2147483647 : Int) := bu_y
  have ok : wOK (zPhi P) h.length T h := ⟨hok, hΦ, Nat.le_refl _⟩
  have RET : ∀ (y : Int32) (T' : List Nat) (h' : zH), tExt T T' → wOK (zPhi P) h.length T' h' → post (some (.inl (.int y))) h' = true := fun y T' h' m' ok' => hp _ T' h' m' ok'.1 ok'.2.1 (by have := ok'.2.2; omega) ⟨_, rfl, okA_If y, fun c hc => by cases hc⟩
  obtain rfl := hΦ.1.2.2.2.2.2 q hq_q
  refine zrn_ok HW 4 (zB_iff.mpr (?_ : G (6, [(0, .inl (.ref 49)), (1, .inl (.int x)), (2, .inl (.int y))], [.inl (.long (7 : Int64)), .inl (.long (0 : Int64)), .inl (.long (Int32.toInt64 x))], h, 0, 0)))
  refine g_callS (b := 0) (E' := ze_X5_in) HW (Or.inl rfl) rfl rfl (Nat.le_of_ble_eq_true rfl) (Nat.le_of_ble_eq_true rfl) (Nat.le_of_ble_eq_true rfl) (Nat.le_of_ble_eq_true rfl) (c_in (fun a1 b1 => zB_iff.mpr ?_) (fun n1 => zB_iff.mpr ?_))
  · show G (9, [(0, .inl (.ref 49)), (1, .inl (.int x)), (2, .inl (.int y))], [.inl (.int (1 : Int32))], h, 0, 0)
    have a1 : (0 : Int) ≤ x.toInt := by have r0 : (Int32.toInt64 x).toInt = x.toInt := q_i2l _; have r1 : (0 : Int64).toInt = 0 := rfl; have r2 : (7 : Int64).toInt = 7 := rfl; omega
    have b1 : x.toInt ≤ (7 : Int) := by have r0 : (Int32.toInt64 x).toInt = x.toInt := q_i2l _; have r1 : (0 : Int64).toInt = 0 := rfl; have r2 : (7 : Int64).toInt = 7 := rfl; omega
    refine zrn_ok HW 5 (zB_iff.mpr (?_ : G (18, [(0, .inl (.ref 49)), (1, .inl (.int x)), (2, .inl (.int y))], [.inl (.long (5 : Int64)), .inl (.long (0 : Int64)), .inl (.long (Int32.toInt64 y))], h, 0, 0)))
    refine g_callS (b := 0) (E' := ze_X5_in) HW (Or.inl rfl) rfl rfl (Nat.le_of_ble_eq_true rfl) (Nat.le_of_ble_eq_true rfl) (Nat.le_of_ble_eq_true rfl) (Nat.le_of_ble_eq_true rfl) (c_in (fun a2 b2 => zB_iff.mpr ?_) (fun n2 => zB_iff.mpr ?_))
    · show G (21, [(0, .inl (.ref 49)), (1, .inl (.int x)), (2, .inl (.int y))], [.inl (.int (1 : Int32))], h, 0, 0)
      have a2 : (0 : Int) ≤ y.toInt := by have r0 : (Int32.toInt64 y).toInt = y.toInt := q_i2l _; have r1 : (0 : Int64).toInt = 0 := rfl; have r2 : (5 : Int64).toInt = 5 := rfl; omega
      have b2 : y.toInt ≤ (5 : Int) := by have r0 : (Int32.toInt64 y).toInt = y.toInt := q_i2l _; have r1 : (0 : Int64).toInt = 0 := rfl; have r2 : (5 : Int64).toInt = 5 := rfl; omega
      have sh := ok.2.1.2.2.2.2.1 x.toInt.toNat (by omega)
      have sh : hi h 50 x.toInt.toNat = 2 → 0 ≤ hi h 63 x.toInt.toNat := sh
      refine zrn_ok HW 2 (zB_iff.mpr (?_ : G (32, [(0, .inl (.ref 49)), (1, .inl (.int x)), (2, .inl (.int y))], [.inl (.ref 49)], h, 0, 0)))
      have o4 : hget h 49 0 = some (.inl (.ref 50)) := ((ok.2.1.2.1 49 5 hq_q (Or.inl rfl)).1.1 (0, 1, 24) (by decide +kernel)).1
      have t4 : T[50]? = some 24 := ((ok.2.1.2.1 49 5 hq_q (Or.inl rfl)).1.1 (0, 1, 24) (by decide +kernel)).2
      refine g_getf HW rfl ok.1 hq_q rfl o4 ?_
      refine zrn_ok HW 1 (zB_iff.mpr (?_ : G (36, [(0, .inl (.ref 49)), (1, .inl (.int x)), (2, .inl (.int y))], [.inl (.int x), .inl (.ref 50)], h, 0, 0)))
      obtain ⟨x5, g5, e5, l5, u5⟩ := hi_val (i := (x).toInt.toNat) ok.1 t4 (by show _ < 8; omega) rfl
      have l5 : (0 : Int) ≤ x5.toInt := l5
      have u5 : x5.toInt ≤ (2 : Int) := u5
      refine g_iald HW rfl ok.1 t4 rfl (by omega) g5 ?_
      refine zrn_ok HW 2 (zbr_ex (cd := .eq) (x := x5) (y := (1 : Int32)) (fun hc6 => zB_iff.mpr ?_) (fun hc6 => zB_iff.mpr ?_))
      · -- pc 69
        have i6 : x5.toInt = (1 : Int) := zop_int.mp hc6
        refine zrn_ok HW 2 (zB_iff.mpr (?_ : G (72, [(0, .inl (.ref 49)), (1, .inl (.int x)), (2, .inl (.int y))], [.inl (.int (-3 : Int32)), .inl (.ref 49)], h, 0, 0)))
        refine g_tV (e := te_X5_refuse_0) (E' := ze_X5_refuse) HW (tLow_of IH hd) rfl rfl (show te_X5_refuse_0 ∈ [te_X5_refuse_0] from List.mem_cons_self) (by decide +kernel) (Nat.le_of_ble_eq_true rfl) ⟨rfl, rfl⟩ (by decide) ok.1 ok.2.1 rfl hq_q rfl (Nat.le_of_ble_eq_true rfl) ⟨⟨_, rfl, hq_q⟩, okA_I (by decide) (by decide), trivial⟩ (fun v7 T7 h7 m7 k7 f7 lh7 r7 => ?_)
        obtain ⟨w7, rfl, hw7, cd7⟩ := r7
        obtain ⟨x7, rfl, l7, u7⟩ := tint_sp rfl hw7
        have l7 : ((-6) : Int) ≤ x7.toInt := l7
        have u7 : x7.toInt ≤ ((-2) : Int) := u7
        have ok7 : wOK (zPhi P) h.length T7 h7 := ⟨k7, f7, Nat.le_trans lh7 ok.2.2⟩
        have hq_q := m7 _ _ hq_q
        have t4 := m7 _ _ t4
        show G (75, [(0, .inl (.ref 49)), (1, .inl (.int x)), (2, .inl (.int y))], [.inl (.int x7)], h7, 0, 0)
        refine zrn_ok HW 1 ?_
        exact zret_i rfl rfl (RET x7 T7 h7 (tExt_tr (tExt_rf T) m7) ok7)
      · -- pc 41
        have i6 : ¬ (x5.toInt = (1 : Int)) := fun e => hc6 (zop_int.mpr e)
        refine zrn_ok HW 1 (zB_iff.mpr (?_ : G (42, [(0, .inl (.ref 49)), (1, .inl (.int x)), (2, .inl (.int y))], [.inl (.ref 49)], h, 0, 0)))
        have o9 : hget h 49 0 = some (.inl (.ref 50)) := ((ok.2.1.2.1 49 5 hq_q (Or.inl rfl)).1.1 (0, 1, 24) (by decide +kernel)).1
        have t9 : T[50]? = some 24 := ((ok.2.1.2.1 49 5 hq_q (Or.inl rfl)).1.1 (0, 1, 24) (by decide +kernel)).2
        refine g_getf HW rfl ok.1 hq_q rfl o9 ?_
        refine zrn_ok HW 1 (zB_iff.mpr (?_ : G (46, [(0, .inl (.ref 49)), (1, .inl (.int x)), (2, .inl (.int y))], [.inl (.int x), .inl (.ref 50)], h, 0, 0)))
        obtain ⟨x10, g10, e10, l10, u10⟩ := hi_val (i := (x).toInt.toNat) ok.1 t9 (by show _ < 8; omega) rfl
        have l10 : (0 : Int) ≤ x10.toInt := l10
        have u10 : x10.toInt ≤ (2 : Int) := u10
        refine g_iald HW rfl ok.1 t9 rfl (by omega) g10 ?_
        refine zrn_ok HW 2 (zbr_ex (cd := .ne) (x := x10) (y := (2 : Int32)) (fun hc11 => zB_iff.mpr ?_) (fun hc11 => zB_iff.mpr ?_))
        · -- pc 76
          have i11 : ¬ x10.toInt = (2 : Int) := zop_int.mp hc11
          refine zrn_ok HW 1 (zB_iff.mpr (?_ : G (77, [(0, .inl (.ref 49)), (1, .inl (.int x)), (2, .inl (.int y))], [.inl (.ref 49)], h, 0, 0)))
          have o13 : hget h 49 0 = some (.inl (.ref 50)) := ((ok.2.1.2.1 49 5 hq_q (Or.inl rfl)).1.1 (0, 1, 24) (by decide +kernel)).1
          have t13 : T[50]? = some 24 := ((ok.2.1.2.1 49 5 hq_q (Or.inl rfl)).1.1 (0, 1, 24) (by decide +kernel)).2
          refine g_getf HW rfl ok.1 hq_q rfl o13 ?_
          refine zrn_ok HW 1 (zB_iff.mpr (?_ : G (81, [(0, .inl (.ref 49)), (1, .inl (.int x)), (2, .inl (.int y))], [.inl (.int x), .inl (.ref 50)], h, 0, 0)))
          obtain ⟨x14, g14, e14, l14, u14⟩ := hi_val (i := (x).toInt.toNat) ok.1 t13 (by show _ < 8; omega) rfl
          have l14 : (0 : Int) ≤ x14.toInt := l14
          have u14 : x14.toInt ≤ (2 : Int) := u14
          refine g_iald HW rfl ok.1 t13 rfl (by omega) g14 ?_
          refine zrn_ok HW 1 (zbr_ex (cd := .ne) (x := x14) (y := (0 : Int32)) (fun hc15 => zB_iff.mpr ?_) (fun hc15 => zB_iff.mpr ?_))
          · -- pc 92
            have i15 : ¬ x14.toInt = (0 : Int) := zop_int.mp hc15
            refine zrn_ok HW 1 (zB_iff.mpr (?_ : G (93, [(0, .inl (.ref 49)), (1, .inl (.int x)), (2, .inl (.int y))], [.inl (.ref 49)], h, 0, 0)))
            have o17 : hget h 49 5 = some (.inl (.ref 63)) := ((ok.2.1.2.1 49 5 hq_q (Or.inl rfl)).1.1 (5, 14, 29) (by decide +kernel)).1
            have t17 : T[63]? = some 29 := ((ok.2.1.2.1 49 5 hq_q (Or.inl rfl)).1.1 (5, 14, 29) (by decide +kernel)).2
            refine g_getf HW rfl ok.1 hq_q rfl o17 ?_
            refine zrn_ok HW 1 (zB_iff.mpr (?_ : G (97, [(0, .inl (.ref 49)), (1, .inl (.int x)), (2, .inl (.int y))], [.inl (.int x), .inl (.ref 63)], h, 0, 0)))
            obtain ⟨x18, g18, e18, l18, u18⟩ := hi_val (i := (x).toInt.toNat) ok.1 t17 (by show _ < 8; omega) rfl
            have l18 : ((-1) : Int) ≤ x18.toInt := l18
            have u18 : x18.toInt ≤ (7 : Int) := u18
            refine g_iald HW rfl ok.1 t17 rfl (by omega) g18 ?_
            refine zrn_ok HW 4 (zB_iff.mpr (?_ : G (103, [(4, .inl (.int (0 : Int32))), (3, .inl (.int x18)), (0, .inl (.ref 49)), (1, .inl (.int x)), (2, .inl (.int y))], [.inl (.int y)], h, 0, 0)))
            refine g_tsw HW (d := 128) (lo := 0) (hi := 4) (offs := #[33, 68, 84, 91, 101]) rfl (x := y) rfl (fun hs19 => zB_iff.mpr ?_) (And.intro (fun hs19 => zB_iff.mpr ?_) (And.intro (fun hs19 => zB_iff.mpr ?_) (And.intro (fun hs19 => zB_iff.mpr ?_) (And.intro (fun hs19 => zB_iff.mpr ?_) (And.intro (fun hs19 => zB_iff.mpr ?_) trivial)))))
            · show G (231, [(4, .inl (.int (0 : Int32))), (3, .inl (.int x18)), (0, .inl (.ref 49)), (1, .inl (.int x)), (2, .inl (.int y))], [], h, 0, 0)
              have hs19 : y.toInt < 0 ∨ 4 < y.toInt := hs19
              refine zrn_ok HW 1 (zB_iff.mpr (?_ : G (232, [(4, .inl (.int (0 : Int32))), (3, .inl (.int x18)), (0, .inl (.ref 49)), (1, .inl (.int x)), (2, .inl (.int y))], [.inl (.ref 49)], h, 0, 0)))
              refine g_tV (e := te_X5_inside_0) (E' := ze_X5_inside) HW (tLow_of IH hd) rfl rfl (show te_X5_inside_0 ∈ [te_X5_inside_0, te_X5_inside_1] from by simp) (by decide +kernel) (Nat.le_of_ble_eq_true rfl) ⟨rfl, rfl⟩ (by decide) ok.1 ok.2.1 rfl hq_q rfl (Nat.le_of_ble_eq_true rfl) ⟨⟨_, rfl, hq_q⟩, trivial⟩ (fun v20 T20 h20 m20 k20 f20 lh20 r20 => ?_)
              obtain ⟨w20, rfl, hw20, cd20⟩ := r20
              obtain ⟨x20, rfl, l20, u20⟩ := tint_sp rfl hw20
              have l20 : (0 : Int) ≤ x20.toInt := l20
              have u20 : x20.toInt ≤ (60 : Int) := u20
              have ok20 : wOK (zPhi P) h.length T20 h20 := ⟨k20, f20, Nat.le_trans lh20 ok.2.2⟩
              have hq_q := m20 _ _ hq_q
              have t13 := m20 _ _ t13
              have t17 := m20 _ _ t17
              show G (235, [(4, .inl (.int (0 : Int32))), (3, .inl (.int x18)), (0, .inl (.ref 49)), (1, .inl (.int x)), (2, .inl (.int y))], [.inl (.int x20)], h20, 0, 0)
              refine zrn_ok HW 1 (zB_iff.mpr (?_ : G (236, [(4, .inl (.int (0 : Int32))), (3, .inl (.int x18)), (0, .inl (.ref 49)), (1, .inl (.int x)), (2, .inl (.int y))], [.inl (.ref 49), .inl (.int x20)], h20, 0, 0)))
              obtain ⟨x21, g21, e21, l21, u21⟩ := hi_val (i := 9) ok20.1 hq_q (by decide) rfl
              have l21 : (1 : Int) ≤ x21.toInt := l21
              have u21 : x21.toInt ≤ (60 : Int) := u21
              refine g_getf HW rfl ok20.1 hq_q rfl g21 ?_
              have nz22 : (!(((2 : Int32) : Int32) == 0)) = true := nz_i (by decide)
              refine zrn_ok HW 2 (t_and2 nz22 (zB_iff.mpr (?_ : G (241, [(4, .inl (.int (0 : Int32))), (3, .inl (.int x18)), (0, .inl (.ref 49)), (1, .inl (.int x)), (2, .inl (.int y))], [.inl (.int (x21 / (2 : Int32))), .inl (.int x20)], h20, 0, 0))))
              have y23 : -2147483648 ≤ x20.toInt - (x21 / (2 : Int32)).toInt → x20.toInt - (x21 / (2 : Int32)).toInt ≤ 2147483647 → (x20 - (x21 / (2 : Int32))).toInt = x20.toInt - (x21 / (2 : Int32)).toInt := t_subC (x := x20) (y := (x21 / (2 : Int32)))
              refine zrn_ok HW 4 (zbr_ex (cd := .le) (x := (x20 - (x21 / (2 : Int32)))) (y := (0 : Int32)) (fun hc24 => zB_iff.mpr ?_) (fun hc24 => zB_iff.mpr ?_))
              · -- pc 254
                have i24 : (x20 - (x21 / (2 : Int32))).toInt ≤ (0 : Int) := zop_int.mp hc24
                refine zrn_ok HW 2 ?_
                exact zret_i rfl rfl (RET (0 : Int32) T20 h20 (tExt_tr (tExt_rf T) m20) ok20)
              · -- pc 249
                have i24 : ¬ ((x20 - (x21 / (2 : Int32))).toInt ≤ (0 : Int)) := fun e => hc24 (zop_int.mpr e)
                refine zrn_ok HW 3 ?_
                exact zret_i rfl rfl (RET (x20 - (x21 / (2 : Int32))) T20 h20 (tExt_tr (tExt_rf T) m20) ok20)
            · show G (136, [(4, .inl (.int (0 : Int32))), (3, .inl (.int x18)), (0, .inl (.ref 49)), (1, .inl (.int x)), (2, .inl (.int y))], [], h, 0, 0)
              have hs19 : y.toInt = 0 := hs19
              refine zrn_ok HW 2 (zB_iff.mpr (?_ : G (139, [(5, .inl (.int (0 : Int32))), (4, .inl (.int (0 : Int32))), (3, .inl (.int x18)), (0, .inl (.ref 49)), (1, .inl (.int x)), (2, .inl (.int y))], [], h, 0, 0)))
              have loop : ∀ (k : Nat) (b : Int32) (m : Int32) (hl : zH), wOK (zPhi P) h.length T hl → 0 ≤ b.toInt → b.toInt ≤ 4 → 4 - b.toInt < (k : Int) → G (139, [(5, .inl (.int b)), (4, .inl (.int m)), (3, .inl (.int x18)), (0, .inl (.ref 49)), (1, .inl (.int x)), (2, .inl (.int y))], [], hl, 0, 0) := by
                intro k
                induction k with
                | zero =>
                  intro b m hl okl y_0 y_1 hm
                  exfalso
                  omega
                | succ k ih =>
                  intro b m hl okl y_0 y_1 hm
                  refine zrn_ok HW 2 (zB_iff.mpr (?_ : G (142, [(5, .inl (.int b)), (4, .inl (.int m)), (3, .inl (.int x18)), (0, .inl (.ref 49)), (1, .inl (.int x)), (2, .inl (.int y))], [.inl (.ref 49), .inl (.int b)], hl, 0, 0)))
                  obtain ⟨x1, g1, e1, l1, u1⟩ := hi_val (i := 23) okl.1 hq_q (by decide) rfl
                  have l1 : (0 : Int) ≤ x1.toInt := l1
                  have u1 : x1.toInt ≤ (4 : Int) := u1
                  refine g_getf HW rfl okl.1 hq_q rfl g1 ?_
                  refine zrn_ok HW 1 (zbr_ex (cd := .ge) (x := b) (y := x1) (fun hc2 => zB_iff.mpr ?_) (fun hc2 => zB_iff.mpr ?_))
                  · -- pc 168
                    have i2 : b.toInt ≥ x1.toInt := zop_int.mp hc2
                    refine zrn_ok HW 2 ?_
                    exact zret_i rfl rfl (RET m T hl (tExt_rf T) okl)
                  · -- pc 148
                    have i2 : ¬ (b.toInt ≥ x1.toInt) := fun e => hc2 (zop_int.mpr e)
                    refine zrn_ok HW 2 (zB_iff.mpr (?_ : G (151, [(5, .inl (.int b)), (4, .inl (.int m)), (3, .inl (.int x18)), (0, .inl (.ref 49)), (1, .inl (.int x)), (2, .inl (.int y))], [.inl (.ref 49), .inl (.int m)], hl, 0, 0)))
                    have o4 : hget hl 49 25 = some (.inl (.ref 73)) := ((okl.2.1.2.1 49 5 hq_q (Or.inl rfl)).1.1 (25, 24, 38) (by decide +kernel)).1
                    have t4 : T[73]? = some 38 := ((okl.2.1.2.1 49 5 hq_q (Or.inl rfl)).1.1 (25, 24, 38) (by decide +kernel)).2
                    refine g_getf HW rfl okl.1 hq_q rfl o4 ?_
                    refine zrn_ok HW 1 (zB_iff.mpr (?_ : G (156, [(5, .inl (.int b)), (4, .inl (.int m)), (3, .inl (.int x18)), (0, .inl (.ref 49)), (1, .inl (.int x)), (2, .inl (.int y))], [.inl (.int b), .inl (.ref 73), .inl (.int m)], hl, 0, 0)))
                    obtain ⟨v5, g5, s5⟩ := hOK_get (i := (b).toInt.toNat) okl.1 t4 (by show _ < 4; omega)
                    obtain ⟨q5, rfl, hq5⟩ : ∃ q : Nat, v5 = .inl (.ref q) ∧ T[q]? = some 39 := s5
                    refine g_aald HW rfl okl.1 t4 ⟨by decide, by decide⟩ (by omega) g5 ?_
                    refine zrn_ok HW 1 (zB_iff.mpr (?_ : G (158, [(5, .inl (.int b)), (4, .inl (.int m)), (3, .inl (.int x18)), (0, .inl (.ref 49)), (1, .inl (.int x)), (2, .inl (.int y))], [.inl (.int x18), .inl (.ref q5), .inl (.int m)], hl, 0, 0)))
                    obtain ⟨x6, g6, e6, l6, u6⟩ := hi_val (i := (x18).toInt.toNat) okl.1 hq5 (by show _ < 8; omega) rfl
                    have l6 : ((-2147483648) : Int) ≤ x6.toInt := l6
                    have u6 : x6.toInt ≤ (2147483647 : Int) := u6
                    refine g_iald HW rfl okl.1 hq5 rfl (by omega) g6 ?_
                    have y7 : -2147483648 ≤ m.toInt + x6.toInt → m.toInt + x6.toInt ≤ 2147483647 → (m + x6).toInt = m.toInt + x6.toInt := t_addC (x := m) (y := x6)
                    have y8 : -2147483648 ≤ b.toInt + (1 : Int) → b.toInt + (1 : Int) ≤ 2147483647 → (b + (1 : Int32)).toInt = b.toInt + (1 : Int) := t_addC (x := b) (y := (1 : Int32))
                    refine zrn_ok HW 4 (zB_iff.mpr (?_ : G (139, [(5, .inl (.int (b + (1 : Int32)))), (4, .inl (.int (m + x6))), (3, .inl (.int x18)), (0, .inl (.ref 49)), (1, .inl (.int x)), (2, .inl (.int y))], [], hl, 0, 0)))
                    exact ih (b + (1 : Int32)) (m + x6) _ okl (by omega) (by omega) (by omega)
              exact loop 5 (0 : Int32) (0 : Int32) _ ok (by decide) (by decide) (by decide)
            · show G (171, [(4, .inl (.int (0 : Int32))), (3, .inl (.int x18)), (0, .inl (.ref 49)), (1, .inl (.int x)), (2, .inl (.int y))], [], h, 0, 0)
              have hs19 : y.toInt = 1 := hs19
              refine zrn_ok HW 1 (zB_iff.mpr (?_ : G (172, [(4, .inl (.int (0 : Int32))), (3, .inl (.int x18)), (0, .inl (.ref 49)), (1, .inl (.int x)), (2, .inl (.int y))], [.inl (.ref 49)], h, 0, 0)))
              have o26 : hget h 49 22 = some (.inl (.ref 71)) := ((ok.2.1.2.1 49 5 hq_q (Or.inl rfl)).1.1 (22, 22, 36) (by decide +kernel)).1
              have t26 : T[71]? = some 36 := ((ok.2.1.2.1 49 5 hq_q (Or.inl rfl)).1.1 (22, 22, 36) (by decide +kernel)).2
              refine g_getf HW rfl ok.1 hq_q rfl o26 ?_
              refine zrn_ok HW 1 (zB_iff.mpr (?_ : G (176, [(4, .inl (.int (0 : Int32))), (3, .inl (.int x18)), (0, .inl (.ref 49)), (1, .inl (.int x)), (2, .inl (.int y))], [.inl (.int x18), .inl (.ref 71)], h, 0, 0)))
              obtain ⟨x27, g27, e27, l27, u27⟩ := hi_val (i := (x18).toInt.toNat) ok.1 t26 (by show _ < 8; omega) rfl
              have l27 : ((-1) : Int) ≤ x27.toInt := l27
              have u27 : x27.toInt ≤ (3 : Int) := u27
              refine g_iald HW rfl ok.1 t26 rfl (by omega) g27 ?_
              refine zrn_ok HW 2 (zbr_ex (cd := .ne) (x := x27) (y := (-1 : Int32)) (fun hc28 => zB_iff.mpr ?_) (fun hc28 => zB_iff.mpr ?_))
              · -- pc 185
                have i28 : ¬ x27.toInt = (-1 : Int) := zop_int.mp hc28
                refine zrn_ok HW 2 ?_
                exact zret_i rfl rfl (RET (0 : Int32) T h (tExt_rf T) ok)
              · -- pc 181
                have i28 : ¬ (¬ x27.toInt = (-1 : Int)) := fun e => hc28 (zop_int.mpr e)
                refine zrn_ok HW 3 ?_
                exact zret_i rfl rfl (RET (1 : Int32) T h (tExt_rf T) ok)
            · show G (187, [(4, .inl (.int (0 : Int32))), (3, .inl (.int x18)), (0, .inl (.ref 49)), (1, .inl (.int x)), (2, .inl (.int y))], [], h, 0, 0)
              have hs19 : y.toInt = 2 := hs19
              refine zrn_ok HW 1 (zB_iff.mpr (?_ : G (188, [(4, .inl (.int (0 : Int32))), (3, .inl (.int x18)), (0, .inl (.ref 49)), (1, .inl (.int x)), (2, .inl (.int y))], [.inl (.ref 49)], h, 0, 0)))
              have o30 : hget h 49 21 = some (.inl (.ref 70)) := ((ok.2.1.2.1 49 5 hq_q (Or.inl rfl)).1.1 (21, 21, 35) (by decide +kernel)).1
              have t30 : T[70]? = some 35 := ((ok.2.1.2.1 49 5 hq_q (Or.inl rfl)).1.1 (21, 21, 35) (by decide +kernel)).2
              refine g_getf HW rfl ok.1 hq_q rfl o30 ?_
              refine zrn_ok HW 1 (zB_iff.mpr (?_ : G (192, [(4, .inl (.int (0 : Int32))), (3, .inl (.int x18)), (0, .inl (.ref 49)), (1, .inl (.int x)), (2, .inl (.int y))], [.inl (.int x18), .inl (.ref 70)], h, 0, 0)))
              obtain ⟨x31, g31, e31, l31, u31⟩ := hi_val (i := (x18).toInt.toNat) ok.1 t30 (by show _ < 8; omega) rfl
              have l31 : ((-2147483648) : Int) ≤ x31.toInt := l31
              have u31 : x31.toInt ≤ (2147483647 : Int) := u31
              refine g_iald HW rfl ok.1 t30 rfl (by omega) g31 ?_
              refine zrn_ok HW 1 ?_
              exact zret_i rfl rfl (RET x31 T h (tExt_rf T) ok)
            · show G (194, [(4, .inl (.int (0 : Int32))), (3, .inl (.int x18)), (0, .inl (.ref 49)), (1, .inl (.int x)), (2, .inl (.int y))], [], h, 0, 0)
              have hs19 : y.toInt = 3 := hs19
              refine zrn_ok HW 3 (zB_iff.mpr (?_ : G (197, [(4, .inl (.int (0 : Int32))), (3, .inl (.int x18)), (0, .inl (.ref 49)), (1, .inl (.int x)), (2, .inl (.int y))], [.inl (.ref 49), .inl (.int x18), .inl (.ref 49)], h, 0, 0)))
              refine g_tV (e := te_X5_standing_0) (E' := ze_X5_standing) HW (tLow_of IH hd) rfl rfl (show te_X5_standing_0 ∈ [te_X5_standing_0, te_X5_standing_1] from by simp) (by decide +kernel) (Nat.le_of_ble_eq_true rfl) ⟨rfl, rfl⟩ (by decide) ok.1 ok.2.1 rfl hq_q rfl (Nat.le_of_ble_eq_true rfl) ⟨⟨_, rfl, hq_q⟩, trivial⟩ (fun v32 T32 h32 m32 k32 f32 lh32 r32 => ?_)
              obtain ⟨w32, rfl, hw32, cd32⟩ := r32
              obtain ⟨x32, rfl, l32, u32⟩ := tint_sp rfl hw32
              have l32 : (0 : Int) ≤ x32.toInt := l32
              have u32 : x32.toInt ≤ (255 : Int) := u32
              have ok32 : wOK (zPhi P) h.length T32 h32 := ⟨k32, f32, Nat.le_trans lh32 ok.2.2⟩
              have hq_q := m32 _ _ hq_q
              have t13 := m32 _ _ t13
              have t17 := m32 _ _ t17
              show G (200, [(4, .inl (.int (0 : Int32))), (3, .inl (.int x18)), (0, .inl (.ref 49)), (1, .inl (.int x)), (2, .inl (.int y))], [.inl (.int x32), .inl (.int x18), .inl (.ref 49)], h32, 0, 0)
              refine g_tV (e := te_X5_brought_0) (E' := ze_X5_brought) HW (tLow_of IH hd) rfl rfl (show te_X5_brought_0 ∈ [te_X5_brought_0, te_X5_brought_1] from by simp) (by decide +kernel) (Nat.le_of_ble_eq_true rfl) ⟨rfl, rfl⟩ (by decide) ok32.1 ok32.2.1 rfl hq_q rfl (Nat.le_of_ble_eq_true rfl) ⟨⟨_, rfl, hq_q⟩, okA_If _, okA_If _, trivial⟩ (fun v33 T33 h33 m33 k33 f33 lh33 r33 => ?_)
              obtain ⟨w33, rfl, hw33, cd33⟩ := r33
              obtain ⟨x33, rfl, l33, u33⟩ := tint_sp rfl hw33
              have l33 : ((-1) : Int) ≤ x33.toInt := l33
              have u33 : x33.toInt ≤ (7 : Int) := u33
              have ok33 : wOK (zPhi P) h.length T33 h33 := ⟨k33, f33, Nat.le_trans lh33 ok32.2.2⟩
              have hq_q := m33 _ _ hq_q
              have t13 := m33 _ _ t13
              have t17 := m33 _ _ t17
              show G (203, [(4, .inl (.int (0 : Int32))), (3, .inl (.int x18)), (0, .inl (.ref 49)), (1, .inl (.int x)), (2, .inl (.int y))], [.inl (.int x33)], h33, 0, 0)
              refine zrn_ok HW 1 ?_
              exact zret_i rfl rfl (RET x33 T33 h33 (tExt_tr (tExt_tr (tExt_rf T) m32) m33) ok33)
            · show G (204, [(4, .inl (.int (0 : Int32))), (3, .inl (.int x18)), (0, .inl (.ref 49)), (1, .inl (.int x)), (2, .inl (.int y))], [], h, 0, 0)
              have hs19 : y.toInt = 4 := hs19
              refine zrn_ok HW 2 (zB_iff.mpr (?_ : G (206, [(4, .inl (.int (0 : Int32))), (3, .inl (.int x18)), (0, .inl (.ref 49)), (1, .inl (.int x)), (2, .inl (.int y))], [.inl (.ref 49), .inl (.int (2 : Int32))], h, 0, 0)))
              have o35 : hget h 49 20 = some (.inl (.ref 69)) := ((ok.2.1.2.1 49 5 hq_q (Or.inl rfl)).1.1 (20, 20, 34) (by decide +kernel)).1
              have t35 : T[69]? = some 34 := ((ok.2.1.2.1 49 5 hq_q (Or.inl rfl)).1.1 (20, 20, 34) (by decide +kernel)).2
              refine g_getf HW rfl ok.1 hq_q rfl o35 ?_
              refine zrn_ok HW 1 (zB_iff.mpr (?_ : G (210, [(4, .inl (.int (0 : Int32))), (3, .inl (.int x18)), (0, .inl (.ref 49)), (1, .inl (.int x)), (2, .inl (.int y))], [.inl (.int x18), .inl (.ref 69), .inl (.int (2 : Int32))], h, 0, 0)))
              obtain ⟨x36, g36, e36, l36, u36⟩ := hi_val (i := (x18).toInt.toNat) ok.1 t35 (by show _ < 8; omega) rfl
              have l36 : (0 : Int) ≤ x36.toInt := l36
              have u36 : x36.toInt ≤ (9 : Int) := u36
              refine g_iald HW rfl ok.1 t35 rfl (by omega) g36 ?_
              refine zrn_ok HW 2 (zB_iff.mpr (?_ : G (213, [(4, .inl (.int (0 : Int32))), (3, .inl (.int x18)), (0, .inl (.ref 49)), (1, .inl (.int x)), (2, .inl (.int y))], [.inl (.ref 49), .inl (.int ((2 : Int32) * x36))], h, 0, 0)))
              obtain ⟨x37, g37, e37, l37, u37⟩ := hi_val (i := 13) ok.1 hq_q (by decide) rfl
              have l37 : ((-2147483648) : Int) ≤ x37.toInt := l37
              have u37 : x37.toInt ≤ (2147483647 : Int) := u37
              refine g_getf HW rfl ok.1 hq_q rfl g37 ?_
              have y38 : -2147483648 ≤ ((2 : Int32) * x36).toInt - x37.toInt → ((2 : Int32) * x36).toInt - x37.toInt ≤ 2147483647 → (((2 : Int32) * x36) - x37).toInt = ((2 : Int32) * x36).toInt - x37.toInt := t_subC (x := ((2 : Int32) * x36)) (y := x37)
              refine zrn_ok HW 4 (zbr_ex (cd := .le) (x := (((2 : Int32) * x36) - x37)) (y := (0 : Int32)) (fun hc39 => zB_iff.mpr ?_) (fun hc39 => zB_iff.mpr ?_))
              · -- pc 229
                have i39 : (((2 : Int32) * x36) - x37).toInt ≤ (0 : Int) := zop_int.mp hc39
                refine zrn_ok HW 2 ?_
                exact zret_i rfl rfl (RET (0 : Int32) T h (tExt_rf T) ok)
              · -- pc 224
                have i39 : ¬ ((((2 : Int32) * x36) - x37).toInt ≤ (0 : Int)) := fun e => hc39 (zop_int.mpr e)
                refine zrn_ok HW 3 ?_
                exact zret_i rfl rfl (RET (((2 : Int32) * x36) - x37) T h (tExt_rf T) ok)
          · -- pc 85
            have i15 : ¬ (¬ x14.toInt = (0 : Int)) := fun e => hc15 (zop_int.mpr e)
            refine zrn_ok HW 2 (zB_iff.mpr (?_ : G (88, [(0, .inl (.ref 49)), (1, .inl (.int x)), (2, .inl (.int y))], [.inl (.int (-4 : Int32)), .inl (.ref 49)], h, 0, 0)))
            refine g_tV (e := te_X5_refuse_0) (E' := ze_X5_refuse) HW (tLow_of IH hd) rfl rfl (show te_X5_refuse_0 ∈ [te_X5_refuse_0] from List.mem_cons_self) (by decide +kernel) (Nat.le_of_ble_eq_true rfl) ⟨rfl, rfl⟩ (by decide) ok.1 ok.2.1 rfl hq_q rfl (Nat.le_of_ble_eq_true rfl) ⟨⟨_, rfl, hq_q⟩, okA_I (by decide) (by decide), trivial⟩ (fun v40 T40 h40 m40 k40 f40 lh40 r40 => ?_)
            obtain ⟨w40, rfl, hw40, cd40⟩ := r40
            obtain ⟨x40, rfl, l40, u40⟩ := tint_sp rfl hw40
            have l40 : ((-6) : Int) ≤ x40.toInt := l40
            have u40 : x40.toInt ≤ ((-2) : Int) := u40
            have ok40 : wOK (zPhi P) h.length T40 h40 := ⟨k40, f40, Nat.le_trans lh40 ok.2.2⟩
            have hq_q := m40 _ _ hq_q
            have t13 := m40 _ _ t13
            show G (91, [(0, .inl (.ref 49)), (1, .inl (.int x)), (2, .inl (.int y))], [.inl (.int x40)], h40, 0, 0)
            refine zrn_ok HW 1 ?_
            exact zret_i rfl rfl (RET x40 T40 h40 (tExt_tr (tExt_rf T) m40) ok40)
        · -- pc 51
          have i11 : ¬ (¬ x10.toInt = (2 : Int)) := fun e => hc11 (zop_int.mpr e)
          refine zrn_ok HW 1 (zB_iff.mpr (?_ : G (52, [(0, .inl (.ref 49)), (1, .inl (.int x)), (2, .inl (.int y))], [.inl (.ref 49)], h, 0, 0)))
          have o42 : hget h 49 18 = some (.inl (.ref 67)) := ((ok.2.1.2.1 49 5 hq_q (Or.inl rfl)).1.1 (18, 18, 32) (by decide +kernel)).1
          have t42 : T[67]? = some 32 := ((ok.2.1.2.1 49 5 hq_q (Or.inl rfl)).1.1 (18, 18, 32) (by decide +kernel)).2
          refine g_getf HW rfl ok.1 hq_q rfl o42 ?_
          refine zrn_ok HW 1 (zB_iff.mpr (?_ : G (56, [(0, .inl (.ref 49)), (1, .inl (.int x)), (2, .inl (.int y))], [.inl (.ref 49), .inl (.ref 67)], h, 0, 0)))
          have o44 : hget h 49 5 = some (.inl (.ref 63)) := ((ok.2.1.2.1 49 5 hq_q (Or.inl rfl)).1.1 (5, 14, 29) (by decide +kernel)).1
          have t44 : T[63]? = some 29 := ((ok.2.1.2.1 49 5 hq_q (Or.inl rfl)).1.1 (5, 14, 29) (by decide +kernel)).2
          refine g_getf HW rfl ok.1 hq_q rfl o44 ?_
          refine zrn_ok HW 1 (zB_iff.mpr (?_ : G (60, [(0, .inl (.ref 49)), (1, .inl (.int x)), (2, .inl (.int y))], [.inl (.int x), .inl (.ref 63), .inl (.ref 67)], h, 0, 0)))
          obtain ⟨x45, g45, e45, l45, u45⟩ := hi_val (i := (x).toInt.toNat) ok.1 t44 (by show _ < 8; omega) rfl
          have l45 : ((-1) : Int) ≤ x45.toInt := l45
          have u45 : x45.toInt ≤ (7 : Int) := u45
          refine g_iald HW rfl ok.1 t44 rfl (by omega) g45 ?_
          obtain ⟨x46, g46, e46, l46, u46⟩ := hi_val (i := (x45).toInt.toNat) ok.1 t42 (by show _ < 8; omega) rfl
          have l46 : (0 : Int) ≤ x46.toInt := l46
          have u46 : x46.toInt ≤ (5 : Int) := u46
          refine g_iald HW rfl ok.1 t42 rfl (by omega) g46 ?_
          refine zrn_ok HW 1 (zB_iff.mpr (?_ : G (63, [(0, .inl (.ref 49)), (1, .inl (.int x)), (2, .inl (.int y))], [.inl (.int y), .inl (.int x46)], h, 0, 0)))
          refine g_callS (b := 0) (E' := ze_X5_isUnder) HW (Or.inl rfl) rfl rfl (Nat.le_of_ble_eq_true rfl) (Nat.le_of_ble_eq_true rfl) (Nat.le_of_ble_eq_true rfl) (Nat.le_of_ble_eq_true rfl) (c_isUnder (fun r47 lo47 hi47 => zB_iff.mpr ?_))
          show G (66, [(0, .inl (.ref 49)), (1, .inl (.int x)), (2, .inl (.int y))], [.inl (.int r47)], h, 0, 0)
          refine zrn_ok HW 1 (zbr_ex (cd := .ne) (x := r47) (y := (0 : Int32)) (fun hc48 => zB_iff.mpr ?_) (fun hc48 => zB_iff.mpr ?_))
          · -- pc 76
            have i48 : ¬ r47.toInt = (0 : Int) := zop_int.mp hc48
            refine zrn_ok HW 1 (zB_iff.mpr (?_ : G (77, [(0, .inl (.ref 49)), (1, .inl (.int x)), (2, .inl (.int y))], [.inl (.ref 49)], h, 0, 0)))
            have o50 : hget h 49 0 = some (.inl (.ref 50)) := ((ok.2.1.2.1 49 5 hq_q (Or.inl rfl)).1.1 (0, 1, 24) (by decide +kernel)).1
            have t50 : T[50]? = some 24 := ((ok.2.1.2.1 49 5 hq_q (Or.inl rfl)).1.1 (0, 1, 24) (by decide +kernel)).2
            refine g_getf HW rfl ok.1 hq_q rfl o50 ?_
            refine zrn_ok HW 1 (zB_iff.mpr (?_ : G (81, [(0, .inl (.ref 49)), (1, .inl (.int x)), (2, .inl (.int y))], [.inl (.int x), .inl (.ref 50)], h, 0, 0)))
            obtain ⟨x51, g51, e51, l51, u51⟩ := hi_val (i := (x).toInt.toNat) ok.1 t50 (by show _ < 8; omega) rfl
            have l51 : (0 : Int) ≤ x51.toInt := l51
            have u51 : x51.toInt ≤ (2 : Int) := u51
            refine g_iald HW rfl ok.1 t50 rfl (by omega) g51 ?_
            refine zrn_ok HW 1 (zbr_ex (cd := .ne) (x := x51) (y := (0 : Int32)) (fun hc52 => zB_iff.mpr ?_) (fun hc52 => zB_iff.mpr ?_))
            · -- pc 92
              have i52 : ¬ x51.toInt = (0 : Int) := zop_int.mp hc52
              refine zrn_ok HW 1 (zB_iff.mpr (?_ : G (93, [(0, .inl (.ref 49)), (1, .inl (.int x)), (2, .inl (.int y))], [.inl (.ref 49)], h, 0, 0)))
              have o54 : hget h 49 5 = some (.inl (.ref 63)) := ((ok.2.1.2.1 49 5 hq_q (Or.inl rfl)).1.1 (5, 14, 29) (by decide +kernel)).1
              have t54 : T[63]? = some 29 := ((ok.2.1.2.1 49 5 hq_q (Or.inl rfl)).1.1 (5, 14, 29) (by decide +kernel)).2
              refine g_getf HW rfl ok.1 hq_q rfl o54 ?_
              refine zrn_ok HW 1 (zB_iff.mpr (?_ : G (97, [(0, .inl (.ref 49)), (1, .inl (.int x)), (2, .inl (.int y))], [.inl (.int x), .inl (.ref 63)], h, 0, 0)))
              obtain ⟨x55, g55, e55, l55, u55⟩ := hi_val (i := (x).toInt.toNat) ok.1 t54 (by show _ < 8; omega) rfl
              have l55 : ((-1) : Int) ≤ x55.toInt := l55
              have u55 : x55.toInt ≤ (7 : Int) := u55
              refine g_iald HW rfl ok.1 t54 rfl (by omega) g55 ?_
              refine zrn_ok HW 4 (zB_iff.mpr (?_ : G (103, [(4, .inl (.int (0 : Int32))), (3, .inl (.int x55)), (0, .inl (.ref 49)), (1, .inl (.int x)), (2, .inl (.int y))], [.inl (.int y)], h, 0, 0)))
              refine g_tsw HW (d := 128) (lo := 0) (hi := 4) (offs := #[33, 68, 84, 91, 101]) rfl (x := y) rfl (fun hs56 => zB_iff.mpr ?_) (And.intro (fun hs56 => zB_iff.mpr ?_) (And.intro (fun hs56 => zB_iff.mpr ?_) (And.intro (fun hs56 => zB_iff.mpr ?_) (And.intro (fun hs56 => zB_iff.mpr ?_) (And.intro (fun hs56 => zB_iff.mpr ?_) trivial)))))
              · show G (231, [(4, .inl (.int (0 : Int32))), (3, .inl (.int x55)), (0, .inl (.ref 49)), (1, .inl (.int x)), (2, .inl (.int y))], [], h, 0, 0)
                have hs56 : y.toInt < 0 ∨ 4 < y.toInt := hs56
                refine zrn_ok HW 1 (zB_iff.mpr (?_ : G (232, [(4, .inl (.int (0 : Int32))), (3, .inl (.int x55)), (0, .inl (.ref 49)), (1, .inl (.int x)), (2, .inl (.int y))], [.inl (.ref 49)], h, 0, 0)))
                refine g_tV (e := te_X5_inside_0) (E' := ze_X5_inside) HW (tLow_of IH hd) rfl rfl (show te_X5_inside_0 ∈ [te_X5_inside_0, te_X5_inside_1] from by simp) (by decide +kernel) (Nat.le_of_ble_eq_true rfl) ⟨rfl, rfl⟩ (by decide) ok.1 ok.2.1 rfl hq_q rfl (Nat.le_of_ble_eq_true rfl) ⟨⟨_, rfl, hq_q⟩, trivial⟩ (fun v57 T57 h57 m57 k57 f57 lh57 r57 => ?_)
                obtain ⟨w57, rfl, hw57, cd57⟩ := r57
                obtain ⟨x57, rfl, l57, u57⟩ := tint_sp rfl hw57
                have l57 : (0 : Int) ≤ x57.toInt := l57
                have u57 : x57.toInt ≤ (60 : Int) := u57
                have ok57 : wOK (zPhi P) h.length T57 h57 := ⟨k57, f57, Nat.le_trans lh57 ok.2.2⟩
                have hq_q := m57 _ _ hq_q
                have t50 := m57 _ _ t50
                have t42 := m57 _ _ t42
                have t54 := m57 _ _ t54
                show G (235, [(4, .inl (.int (0 : Int32))), (3, .inl (.int x55)), (0, .inl (.ref 49)), (1, .inl (.int x)), (2, .inl (.int y))], [.inl (.int x57)], h57, 0, 0)
                refine zrn_ok HW 1 (zB_iff.mpr (?_ : G (236, [(4, .inl (.int (0 : Int32))), (3, .inl (.int x55)), (0, .inl (.ref 49)), (1, .inl (.int x)), (2, .inl (.int y))], [.inl (.ref 49), .inl (.int x57)], h57, 0, 0)))
                obtain ⟨x58, g58, e58, l58, u58⟩ := hi_val (i := 9) ok57.1 hq_q (by decide) rfl
                have l58 : (1 : Int) ≤ x58.toInt := l58
                have u58 : x58.toInt ≤ (60 : Int) := u58
                refine g_getf HW rfl ok57.1 hq_q rfl g58 ?_
                have nz59 : (!(((2 : Int32) : Int32) == 0)) = true := nz_i (by decide)
                refine zrn_ok HW 2 (t_and2 nz59 (zB_iff.mpr (?_ : G (241, [(4, .inl (.int (0 : Int32))), (3, .inl (.int x55)), (0, .inl (.ref 49)), (1, .inl (.int x)), (2, .inl (.int y))], [.inl (.int (x58 / (2 : Int32))), .inl (.int x57)], h57, 0, 0))))
                have y60 : -2147483648 ≤ x57.toInt - (x58 / (2 : Int32)).toInt → x57.toInt - (x58 / (2 : Int32)).toInt ≤ 2147483647 → (x57 - (x58 / (2 : Int32))).toInt = x57.toInt - (x58 / (2 : Int32)).toInt := t_subC (x := x57) (y := (x58 / (2 : Int32)))
                refine zrn_ok HW 4 (zbr_ex (cd := .le) (x := (x57 - (x58 / (2 : Int32)))) (y := (0 : Int32)) (fun hc61 => zB_iff.mpr ?_) (fun hc61 => zB_iff.mpr ?_))
                · -- pc 254
                  have i61 : (x57 - (x58 / (2 : Int32))).toInt ≤ (0 : Int) := zop_int.mp hc61
                  refine zrn_ok HW 2 ?_
                  exact zret_i rfl rfl (RET (0 : Int32) T57 h57 (tExt_tr (tExt_rf T) m57) ok57)
                · -- pc 249
                  have i61 : ¬ ((x57 - (x58 / (2 : Int32))).toInt ≤ (0 : Int)) := fun e => hc61 (zop_int.mpr e)
                  refine zrn_ok HW 3 ?_
                  exact zret_i rfl rfl (RET (x57 - (x58 / (2 : Int32))) T57 h57 (tExt_tr (tExt_rf T) m57) ok57)
              · show G (136, [(4, .inl (.int (0 : Int32))), (3, .inl (.int x55)), (0, .inl (.ref 49)), (1, .inl (.int x)), (2, .inl (.int y))], [], h, 0, 0)
                have hs56 : y.toInt = 0 := hs56
                refine zrn_ok HW 2 (zB_iff.mpr (?_ : G (139, [(5, .inl (.int (0 : Int32))), (4, .inl (.int (0 : Int32))), (3, .inl (.int x55)), (0, .inl (.ref 49)), (1, .inl (.int x)), (2, .inl (.int y))], [], h, 0, 0)))
                have loop : ∀ (k : Nat) (b : Int32) (m : Int32) (hl : zH), wOK (zPhi P) h.length T hl → 0 ≤ b.toInt → b.toInt ≤ 4 → 4 - b.toInt < (k : Int) → G (139, [(5, .inl (.int b)), (4, .inl (.int m)), (3, .inl (.int x55)), (0, .inl (.ref 49)), (1, .inl (.int x)), (2, .inl (.int y))], [], hl, 0, 0) := by
                  intro k
                  induction k with
                  | zero =>
                    intro b m hl okl y_0 y_1 hm
                    exfalso
                    omega
                  | succ k ih =>
                    intro b m hl okl y_0 y_1 hm
                    refine zrn_ok HW 2 (zB_iff.mpr (?_ : G (142, [(5, .inl (.int b)), (4, .inl (.int m)), (3, .inl (.int x55)), (0, .inl (.ref 49)), (1, .inl (.int x)), (2, .inl (.int y))], [.inl (.ref 49), .inl (.int b)], hl, 0, 0)))
                    obtain ⟨x1, g1, e1, l1, u1⟩ := hi_val (i := 23) okl.1 hq_q (by decide) rfl
                    have l1 : (0 : Int) ≤ x1.toInt := l1
                    have u1 : x1.toInt ≤ (4 : Int) := u1
                    refine g_getf HW rfl okl.1 hq_q rfl g1 ?_
                    refine zrn_ok HW 1 (zbr_ex (cd := .ge) (x := b) (y := x1) (fun hc2 => zB_iff.mpr ?_) (fun hc2 => zB_iff.mpr ?_))
                    · -- pc 168
                      have i2 : b.toInt ≥ x1.toInt := zop_int.mp hc2
                      refine zrn_ok HW 2 ?_
                      exact zret_i rfl rfl (RET m T hl (tExt_rf T) okl)
                    · -- pc 148
                      have i2 : ¬ (b.toInt ≥ x1.toInt) := fun e => hc2 (zop_int.mpr e)
                      refine zrn_ok HW 2 (zB_iff.mpr (?_ : G (151, [(5, .inl (.int b)), (4, .inl (.int m)), (3, .inl (.int x55)), (0, .inl (.ref 49)), (1, .inl (.int x)), (2, .inl (.int y))], [.inl (.ref 49), .inl (.int m)], hl, 0, 0)))
                      have o4 : hget hl 49 25 = some (.inl (.ref 73)) := ((okl.2.1.2.1 49 5 hq_q (Or.inl rfl)).1.1 (25, 24, 38) (by decide +kernel)).1
                      have t4 : T[73]? = some 38 := ((okl.2.1.2.1 49 5 hq_q (Or.inl rfl)).1.1 (25, 24, 38) (by decide +kernel)).2
                      refine g_getf HW rfl okl.1 hq_q rfl o4 ?_
                      refine zrn_ok HW 1 (zB_iff.mpr (?_ : G (156, [(5, .inl (.int b)), (4, .inl (.int m)), (3, .inl (.int x55)), (0, .inl (.ref 49)), (1, .inl (.int x)), (2, .inl (.int y))], [.inl (.int b), .inl (.ref 73), .inl (.int m)], hl, 0, 0)))
                      obtain ⟨v5, g5, s5⟩ := hOK_get (i := (b).toInt.toNat) okl.1 t4 (by show _ < 4; omega)
                      obtain ⟨q5, rfl, hq5⟩ : ∃ q : Nat, v5 = .inl (.ref q) ∧ T[q]? = some 39 := s5
                      refine g_aald HW rfl okl.1 t4 ⟨by decide, by decide⟩ (by omega) g5 ?_
                      refine zrn_ok HW 1 (zB_iff.mpr (?_ : G (158, [(5, .inl (.int b)), (4, .inl (.int m)), (3, .inl (.int x55)), (0, .inl (.ref 49)), (1, .inl (.int x)), (2, .inl (.int y))], [.inl (.int x55), .inl (.ref q5), .inl (.int m)], hl, 0, 0)))
                      obtain ⟨x6, g6, e6, l6, u6⟩ := hi_val (i := (x55).toInt.toNat) okl.1 hq5 (by show _ < 8; omega) rfl
                      have l6 : ((-2147483648) : Int) ≤ x6.toInt := l6
                      have u6 : x6.toInt ≤ (2147483647 : Int) := u6
                      refine g_iald HW rfl okl.1 hq5 rfl (by omega) g6 ?_
                      have y7 : -2147483648 ≤ m.toInt + x6.toInt → m.toInt + x6.toInt ≤ 2147483647 → (m + x6).toInt = m.toInt + x6.toInt := t_addC (x := m) (y := x6)
                      have y8 : -2147483648 ≤ b.toInt + (1 : Int) → b.toInt + (1 : Int) ≤ 2147483647 → (b + (1 : Int32)).toInt = b.toInt + (1 : Int) := t_addC (x := b) (y := (1 : Int32))
                      refine zrn_ok HW 4 (zB_iff.mpr (?_ : G (139, [(5, .inl (.int (b + (1 : Int32)))), (4, .inl (.int (m + x6))), (3, .inl (.int x55)), (0, .inl (.ref 49)), (1, .inl (.int x)), (2, .inl (.int y))], [], hl, 0, 0)))
                      exact ih (b + (1 : Int32)) (m + x6) _ okl (by omega) (by omega) (by omega)
                exact loop 5 (0 : Int32) (0 : Int32) _ ok (by decide) (by decide) (by decide)
              · show G (171, [(4, .inl (.int (0 : Int32))), (3, .inl (.int x55)), (0, .inl (.ref 49)), (1, .inl (.int x)), (2, .inl (.int y))], [], h, 0, 0)
                have hs56 : y.toInt = 1 := hs56
                refine zrn_ok HW 1 (zB_iff.mpr (?_ : G (172, [(4, .inl (.int (0 : Int32))), (3, .inl (.int x55)), (0, .inl (.ref 49)), (1, .inl (.int x)), (2, .inl (.int y))], [.inl (.ref 49)], h, 0, 0)))
                have o63 : hget h 49 22 = some (.inl (.ref 71)) := ((ok.2.1.2.1 49 5 hq_q (Or.inl rfl)).1.1 (22, 22, 36) (by decide +kernel)).1
                have t63 : T[71]? = some 36 := ((ok.2.1.2.1 49 5 hq_q (Or.inl rfl)).1.1 (22, 22, 36) (by decide +kernel)).2
                refine g_getf HW rfl ok.1 hq_q rfl o63 ?_
                refine zrn_ok HW 1 (zB_iff.mpr (?_ : G (176, [(4, .inl (.int (0 : Int32))), (3, .inl (.int x55)), (0, .inl (.ref 49)), (1, .inl (.int x)), (2, .inl (.int y))], [.inl (.int x55), .inl (.ref 71)], h, 0, 0)))
                obtain ⟨x64, g64, e64, l64, u64⟩ := hi_val (i := (x55).toInt.toNat) ok.1 t63 (by show _ < 8; omega) rfl
                have l64 : ((-1) : Int) ≤ x64.toInt := l64
                have u64 : x64.toInt ≤ (3 : Int) := u64
                refine g_iald HW rfl ok.1 t63 rfl (by omega) g64 ?_
                refine zrn_ok HW 2 (zbr_ex (cd := .ne) (x := x64) (y := (-1 : Int32)) (fun hc65 => zB_iff.mpr ?_) (fun hc65 => zB_iff.mpr ?_))
                · -- pc 185
                  have i65 : ¬ x64.toInt = (-1 : Int) := zop_int.mp hc65
                  refine zrn_ok HW 2 ?_
                  exact zret_i rfl rfl (RET (0 : Int32) T h (tExt_rf T) ok)
                · -- pc 181
                  have i65 : ¬ (¬ x64.toInt = (-1 : Int)) := fun e => hc65 (zop_int.mpr e)
                  refine zrn_ok HW 3 ?_
                  exact zret_i rfl rfl (RET (1 : Int32) T h (tExt_rf T) ok)
              · show G (187, [(4, .inl (.int (0 : Int32))), (3, .inl (.int x55)), (0, .inl (.ref 49)), (1, .inl (.int x)), (2, .inl (.int y))], [], h, 0, 0)
                have hs56 : y.toInt = 2 := hs56
                refine zrn_ok HW 1 (zB_iff.mpr (?_ : G (188, [(4, .inl (.int (0 : Int32))), (3, .inl (.int x55)), (0, .inl (.ref 49)), (1, .inl (.int x)), (2, .inl (.int y))], [.inl (.ref 49)], h, 0, 0)))
                have o67 : hget h 49 21 = some (.inl (.ref 70)) := ((ok.2.1.2.1 49 5 hq_q (Or.inl rfl)).1.1 (21, 21, 35) (by decide +kernel)).1
                have t67 : T[70]? = some 35 := ((ok.2.1.2.1 49 5 hq_q (Or.inl rfl)).1.1 (21, 21, 35) (by decide +kernel)).2
                refine g_getf HW rfl ok.1 hq_q rfl o67 ?_
                refine zrn_ok HW 1 (zB_iff.mpr (?_ : G (192, [(4, .inl (.int (0 : Int32))), (3, .inl (.int x55)), (0, .inl (.ref 49)), (1, .inl (.int x)), (2, .inl (.int y))], [.inl (.int x55), .inl (.ref 70)], h, 0, 0)))
                obtain ⟨x68, g68, e68, l68, u68⟩ := hi_val (i := (x55).toInt.toNat) ok.1 t67 (by show _ < 8; omega) rfl
                have l68 : ((-2147483648) : Int) ≤ x68.toInt := l68
                have u68 : x68.toInt ≤ (2147483647 : Int) := u68
                refine g_iald HW rfl ok.1 t67 rfl (by omega) g68 ?_
                refine zrn_ok HW 1 ?_
                exact zret_i rfl rfl (RET x68 T h (tExt_rf T) ok)
              · show G (194, [(4, .inl (.int (0 : Int32))), (3, .inl (.int x55)), (0, .inl (.ref 49)), (1, .inl (.int x)), (2, .inl (.int y))], [], h, 0, 0)
                have hs56 : y.toInt = 3 := hs56
                refine zrn_ok HW 3 (zB_iff.mpr (?_ : G (197, [(4, .inl (.int (0 : Int32))), (3, .inl (.int x55)), (0, .inl (.ref 49)), (1, .inl (.int x)), (2, .inl (.int y))], [.inl (.ref 49), .inl (.int x55), .inl (.ref 49)], h, 0, 0)))
                refine g_tV (e := te_X5_standing_0) (E' := ze_X5_standing) HW (tLow_of IH hd) rfl rfl (show te_X5_standing_0 ∈ [te_X5_standing_0, te_X5_standing_1] from by simp) (by decide +kernel) (Nat.le_of_ble_eq_true rfl) ⟨rfl, rfl⟩ (by decide) ok.1 ok.2.1 rfl hq_q rfl (Nat.le_of_ble_eq_true rfl) ⟨⟨_, rfl, hq_q⟩, trivial⟩ (fun v69 T69 h69 m69 k69 f69 lh69 r69 => ?_)
                obtain ⟨w69, rfl, hw69, cd69⟩ := r69
                obtain ⟨x69, rfl, l69, u69⟩ := tint_sp rfl hw69
                have l69 : (0 : Int) ≤ x69.toInt := l69
                have u69 : x69.toInt ≤ (255 : Int) := u69
                have ok69 : wOK (zPhi P) h.length T69 h69 := ⟨k69, f69, Nat.le_trans lh69 ok.2.2⟩
                have hq_q := m69 _ _ hq_q
                have t50 := m69 _ _ t50
                have t42 := m69 _ _ t42
                have t54 := m69 _ _ t54
                show G (200, [(4, .inl (.int (0 : Int32))), (3, .inl (.int x55)), (0, .inl (.ref 49)), (1, .inl (.int x)), (2, .inl (.int y))], [.inl (.int x69), .inl (.int x55), .inl (.ref 49)], h69, 0, 0)
                refine g_tV (e := te_X5_brought_0) (E' := ze_X5_brought) HW (tLow_of IH hd) rfl rfl (show te_X5_brought_0 ∈ [te_X5_brought_0, te_X5_brought_1] from by simp) (by decide +kernel) (Nat.le_of_ble_eq_true rfl) ⟨rfl, rfl⟩ (by decide) ok69.1 ok69.2.1 rfl hq_q rfl (Nat.le_of_ble_eq_true rfl) ⟨⟨_, rfl, hq_q⟩, okA_If _, okA_If _, trivial⟩ (fun v70 T70 h70 m70 k70 f70 lh70 r70 => ?_)
                obtain ⟨w70, rfl, hw70, cd70⟩ := r70
                obtain ⟨x70, rfl, l70, u70⟩ := tint_sp rfl hw70
                have l70 : ((-1) : Int) ≤ x70.toInt := l70
                have u70 : x70.toInt ≤ (7 : Int) := u70
                have ok70 : wOK (zPhi P) h.length T70 h70 := ⟨k70, f70, Nat.le_trans lh70 ok69.2.2⟩
                have hq_q := m70 _ _ hq_q
                have t50 := m70 _ _ t50
                have t42 := m70 _ _ t42
                have t54 := m70 _ _ t54
                show G (203, [(4, .inl (.int (0 : Int32))), (3, .inl (.int x55)), (0, .inl (.ref 49)), (1, .inl (.int x)), (2, .inl (.int y))], [.inl (.int x70)], h70, 0, 0)
                refine zrn_ok HW 1 ?_
                exact zret_i rfl rfl (RET x70 T70 h70 (tExt_tr (tExt_tr (tExt_rf T) m69) m70) ok70)
              · show G (204, [(4, .inl (.int (0 : Int32))), (3, .inl (.int x55)), (0, .inl (.ref 49)), (1, .inl (.int x)), (2, .inl (.int y))], [], h, 0, 0)
                have hs56 : y.toInt = 4 := hs56
                refine zrn_ok HW 2 (zB_iff.mpr (?_ : G (206, [(4, .inl (.int (0 : Int32))), (3, .inl (.int x55)), (0, .inl (.ref 49)), (1, .inl (.int x)), (2, .inl (.int y))], [.inl (.ref 49), .inl (.int (2 : Int32))], h, 0, 0)))
                have o72 : hget h 49 20 = some (.inl (.ref 69)) := ((ok.2.1.2.1 49 5 hq_q (Or.inl rfl)).1.1 (20, 20, 34) (by decide +kernel)).1
                have t72 : T[69]? = some 34 := ((ok.2.1.2.1 49 5 hq_q (Or.inl rfl)).1.1 (20, 20, 34) (by decide +kernel)).2
                refine g_getf HW rfl ok.1 hq_q rfl o72 ?_
                refine zrn_ok HW 1 (zB_iff.mpr (?_ : G (210, [(4, .inl (.int (0 : Int32))), (3, .inl (.int x55)), (0, .inl (.ref 49)), (1, .inl (.int x)), (2, .inl (.int y))], [.inl (.int x55), .inl (.ref 69), .inl (.int (2 : Int32))], h, 0, 0)))
                obtain ⟨x73, g73, e73, l73, u73⟩ := hi_val (i := (x55).toInt.toNat) ok.1 t72 (by show _ < 8; omega) rfl
                have l73 : (0 : Int) ≤ x73.toInt := l73
                have u73 : x73.toInt ≤ (9 : Int) := u73
                refine g_iald HW rfl ok.1 t72 rfl (by omega) g73 ?_
                refine zrn_ok HW 2 (zB_iff.mpr (?_ : G (213, [(4, .inl (.int (0 : Int32))), (3, .inl (.int x55)), (0, .inl (.ref 49)), (1, .inl (.int x)), (2, .inl (.int y))], [.inl (.ref 49), .inl (.int ((2 : Int32) * x73))], h, 0, 0)))
                obtain ⟨x74, g74, e74, l74, u74⟩ := hi_val (i := 13) ok.1 hq_q (by decide) rfl
                have l74 : ((-2147483648) : Int) ≤ x74.toInt := l74
                have u74 : x74.toInt ≤ (2147483647 : Int) := u74
                refine g_getf HW rfl ok.1 hq_q rfl g74 ?_
                have y75 : -2147483648 ≤ ((2 : Int32) * x73).toInt - x74.toInt → ((2 : Int32) * x73).toInt - x74.toInt ≤ 2147483647 → (((2 : Int32) * x73) - x74).toInt = ((2 : Int32) * x73).toInt - x74.toInt := t_subC (x := ((2 : Int32) * x73)) (y := x74)
                refine zrn_ok HW 4 (zbr_ex (cd := .le) (x := (((2 : Int32) * x73) - x74)) (y := (0 : Int32)) (fun hc76 => zB_iff.mpr ?_) (fun hc76 => zB_iff.mpr ?_))
                · -- pc 229
                  have i76 : (((2 : Int32) * x73) - x74).toInt ≤ (0 : Int) := zop_int.mp hc76
                  refine zrn_ok HW 2 ?_
                  exact zret_i rfl rfl (RET (0 : Int32) T h (tExt_rf T) ok)
                · -- pc 224
                  have i76 : ¬ ((((2 : Int32) * x73) - x74).toInt ≤ (0 : Int)) := fun e => hc76 (zop_int.mpr e)
                  refine zrn_ok HW 3 ?_
                  exact zret_i rfl rfl (RET (((2 : Int32) * x73) - x74) T h (tExt_rf T) ok)
            · -- pc 85
              have i52 : ¬ (¬ x51.toInt = (0 : Int)) := fun e => hc52 (zop_int.mpr e)
              refine zrn_ok HW 2 (zB_iff.mpr (?_ : G (88, [(0, .inl (.ref 49)), (1, .inl (.int x)), (2, .inl (.int y))], [.inl (.int (-4 : Int32)), .inl (.ref 49)], h, 0, 0)))
              refine g_tV (e := te_X5_refuse_0) (E' := ze_X5_refuse) HW (tLow_of IH hd) rfl rfl (show te_X5_refuse_0 ∈ [te_X5_refuse_0] from List.mem_cons_self) (by decide +kernel) (Nat.le_of_ble_eq_true rfl) ⟨rfl, rfl⟩ (by decide) ok.1 ok.2.1 rfl hq_q rfl (Nat.le_of_ble_eq_true rfl) ⟨⟨_, rfl, hq_q⟩, okA_I (by decide) (by decide), trivial⟩ (fun v77 T77 h77 m77 k77 f77 lh77 r77 => ?_)
              obtain ⟨w77, rfl, hw77, cd77⟩ := r77
              obtain ⟨x77, rfl, l77, u77⟩ := tint_sp rfl hw77
              have l77 : ((-6) : Int) ≤ x77.toInt := l77
              have u77 : x77.toInt ≤ ((-2) : Int) := u77
              have ok77 : wOK (zPhi P) h.length T77 h77 := ⟨k77, f77, Nat.le_trans lh77 ok.2.2⟩
              have hq_q := m77 _ _ hq_q
              have t50 := m77 _ _ t50
              have t42 := m77 _ _ t42
              have t44 := m77 _ _ t44
              show G (91, [(0, .inl (.ref 49)), (1, .inl (.int x)), (2, .inl (.int y))], [.inl (.int x77)], h77, 0, 0)
              refine zrn_ok HW 1 ?_
              exact zret_i rfl rfl (RET x77 T77 h77 (tExt_tr (tExt_rf T) m77) ok77)
          · -- pc 69
            have i48 : ¬ (¬ r47.toInt = (0 : Int)) := fun e => hc48 (zop_int.mpr e)
            refine zrn_ok HW 2 (zB_iff.mpr (?_ : G (72, [(0, .inl (.ref 49)), (1, .inl (.int x)), (2, .inl (.int y))], [.inl (.int (-3 : Int32)), .inl (.ref 49)], h, 0, 0)))
            refine g_tV (e := te_X5_refuse_0) (E' := ze_X5_refuse) HW (tLow_of IH hd) rfl rfl (show te_X5_refuse_0 ∈ [te_X5_refuse_0] from List.mem_cons_self) (by decide +kernel) (Nat.le_of_ble_eq_true rfl) ⟨rfl, rfl⟩ (by decide) ok.1 ok.2.1 rfl hq_q rfl (Nat.le_of_ble_eq_true rfl) ⟨⟨_, rfl, hq_q⟩, okA_I (by decide) (by decide), trivial⟩ (fun v78 T78 h78 m78 k78 f78 lh78 r78 => ?_)
            obtain ⟨w78, rfl, hw78, cd78⟩ := r78
            obtain ⟨x78, rfl, l78, u78⟩ := tint_sp rfl hw78
            have l78 : ((-6) : Int) ≤ x78.toInt := l78
            have u78 : x78.toInt ≤ ((-2) : Int) := u78
            have ok78 : wOK (zPhi P) h.length T78 h78 := ⟨k78, f78, Nat.le_trans lh78 ok.2.2⟩
            have hq_q := m78 _ _ hq_q
            have t9 := m78 _ _ t9
            have t42 := m78 _ _ t42
            have t44 := m78 _ _ t44
            show G (75, [(0, .inl (.ref 49)), (1, .inl (.int x)), (2, .inl (.int y))], [.inl (.int x78)], h78, 0, 0)
            refine zrn_ok HW 1 ?_
            exact zret_i rfl rfl (RET x78 T78 h78 (tExt_tr (tExt_rf T) m78) ok78)
    · show G (21, [(0, .inl (.ref 49)), (1, .inl (.int x)), (2, .inl (.int y))], [.inl (.int (0 : Int32))], h, 0, 0)
      have n2 : ¬ ((0 : Int) ≤ y.toInt ∧ y.toInt ≤ (5 : Int)) := by have r0 : (Int32.toInt64 y).toInt = y.toInt := q_i2l _; have r1 : (0 : Int64).toInt = 0 := rfl; have r2 : (5 : Int64).toInt = 5 := rfl; omega
      refine zrn_ok HW 3 (zB_iff.mpr (?_ : G (27, [(0, .inl (.ref 49)), (1, .inl (.int x)), (2, .inl (.int y))], [.inl (.int (-2 : Int32)), .inl (.ref 49)], h, 0, 0)))
      refine g_tV (e := te_X5_refuse_0) (E' := ze_X5_refuse) HW (tLow_of IH hd) rfl rfl (show te_X5_refuse_0 ∈ [te_X5_refuse_0] from List.mem_cons_self) (by decide +kernel) (Nat.le_of_ble_eq_true rfl) ⟨rfl, rfl⟩ (by decide) ok.1 ok.2.1 rfl hq_q rfl (Nat.le_of_ble_eq_true rfl) ⟨⟨_, rfl, hq_q⟩, okA_I (by decide) (by decide), trivial⟩ (fun v79 T79 h79 m79 k79 f79 lh79 r79 => ?_)
      obtain ⟨w79, rfl, hw79, cd79⟩ := r79
      obtain ⟨x79, rfl, l79, u79⟩ := tint_sp rfl hw79
      have l79 : ((-6) : Int) ≤ x79.toInt := l79
      have u79 : x79.toInt ≤ ((-2) : Int) := u79
      have ok79 : wOK (zPhi P) h.length T79 h79 := ⟨k79, f79, Nat.le_trans lh79 ok.2.2⟩
      have hq_q := m79 _ _ hq_q
      show G (30, [(0, .inl (.ref 49)), (1, .inl (.int x)), (2, .inl (.int y))], [.inl (.int x79)], h79, 0, 0)
      refine zrn_ok HW 1 ?_
      exact zret_i rfl rfl (RET x79 T79 h79 (tExt_tr (tExt_rf T) m79) ok79)
  · show G (9, [(0, .inl (.ref 49)), (1, .inl (.int x)), (2, .inl (.int y))], [.inl (.int (0 : Int32))], h, 0, 0)
    have n1 : ¬ ((0 : Int) ≤ x.toInt ∧ x.toInt ≤ (7 : Int)) := by have r0 : (Int32.toInt64 x).toInt = x.toInt := q_i2l _; have r1 : (0 : Int64).toInt = 0 := rfl; have r2 : (7 : Int64).toInt = 7 := rfl; omega
    refine zrn_ok HW 3 (zB_iff.mpr (?_ : G (27, [(0, .inl (.ref 49)), (1, .inl (.int x)), (2, .inl (.int y))], [.inl (.int (-2 : Int32)), .inl (.ref 49)], h, 0, 0)))
    refine g_tV (e := te_X5_refuse_0) (E' := ze_X5_refuse) HW (tLow_of IH hd) rfl rfl (show te_X5_refuse_0 ∈ [te_X5_refuse_0] from List.mem_cons_self) (by decide +kernel) (Nat.le_of_ble_eq_true rfl) ⟨rfl, rfl⟩ (by decide) ok.1 ok.2.1 rfl hq_q rfl (Nat.le_of_ble_eq_true rfl) ⟨⟨_, rfl, hq_q⟩, okA_I (by decide) (by decide), trivial⟩ (fun v80 T80 h80 m80 k80 f80 lh80 r80 => ?_)
    obtain ⟨w80, rfl, hw80, cd80⟩ := r80
    obtain ⟨x80, rfl, l80, u80⟩ := tint_sp rfl hw80
    have l80 : ((-6) : Int) ≤ x80.toInt := l80
    have u80 : x80.toInt ≤ ((-2) : Int) := u80
    have ok80 : wOK (zPhi P) h.length T80 h80 := ⟨k80, f80, Nat.le_trans lh80 ok.2.2⟩
    have hq_q := m80 _ _ hq_q
    show G (30, [(0, .inl (.ref 49)), (1, .inl (.int x)), (2, .inl (.int y))], [.inl (.int x80)], h80, 0, 0)
    refine zrn_ok HW 1 ?_
    exact zret_i rfl rfl (RET x80 T80 h80 (tExt_tr (tExt_rf T) m80) ok80)
theorem tq_X5_copy_0 {scr : List zV} {P : pP} : tM zty (zPhi P) zprog scr zhts zsm 170 te_X5_copy_0 := by
  have hst := p_stab P
  refine t_hand2 (E := ze_X5_copy) (D0 := 1) rfl rfl (by decide +kernel) (fun d T h vs post G hd hok hΦ hlen hvs hp IH HW => ?_)
  obtain ⟨d, rfl⟩ : ∃ d', d = d' + 1 := ⟨d - 1, by omega⟩
  obtain ⟨v_q, vs, rfl, k_q, hvs⟩ := okAs_cons hvs
  obtain ⟨v_x, vs, rfl, k_x, hvs⟩ := okAs_cons hvs
  obtain ⟨v_y, vs, rfl, k_y, hvs⟩ := okAs_cons hvs
  obtain ⟨v_i, vs, rfl, k_i, hvs⟩ := okAs_cons hvs
  obtain ⟨v_j, vs, rfl, k_j, hvs⟩ := okAs_cons hvs
  obtain ⟨v_n, vs, rfl, k_n, hvs⟩ := okAs_cons hvs
  obtain rfl := okAs_nil hvs
  obtain ⟨q, rfl, hq_q⟩ := tref_sp rfl k_q
  have hq_q : T[q]? = some 5 := hq_q
  obtain ⟨x, rfl, bl_x, bu_x⟩ := tint_sp rfl k_x
  have bl_x : ((-2147483648) : Int) ≤ x.toInt := bl_x
  have bu_x : x.toInt ≤ (2147483647 : Int) := bu_x
  obtain ⟨y, rfl, bl_y, bu_y⟩ := tint_sp rfl k_y
  have bl_y : ((-2147483648) : Int) ≤ y.toInt := bl_y
  have bu_y : y.toInt ≤ (2147483647 : Int) := bu_y
  obtain ⟨i, rfl, bl_i, bu_i⟩ := tint_sp rfl k_i
  have bl_i : ((-2147483648) : Int) ≤ i.toInt := bl_i
  have bu_i : i.toInt ≤ (2147483647 : Int) := bu_i
  obtain ⟨j, rfl, bl_j, bu_j⟩ := tint_sp rfl k_j
  have bl_j : ((-2147483648) : Int) ≤ j.toInt := bl_j
  have bu_j : j.toInt ≤ (2147483647 : Int) := bu_j
  obtain ⟨n, rfl, bl_n, bu_n⟩ := tint_sp rfl k_n
  have bl_n : ((-2147483648) : Int) ≤ n.toInt := bl_n
  have bu_n : n.toInt ≤ (2147483647 : Int) := bu_n
  have ok : wOK (zPhi P) h.length T h := ⟨hok, hΦ, Nat.le_refl _⟩
  have RET : ∀ (y : Int32) (T' : List Nat) (h' : zH), tExt T T' → wOK (zPhi P) h.length T' h' → post (some (.inl (.int y))) h' = true := fun y T' h' m' ok' => hp _ T' h' m' ok'.1 ok'.2.1 (by have := ok'.2.2; omega) ⟨_, rfl, okA_If y, fun c hc => by cases hc⟩
  obtain rfl := hΦ.1.2.2.2.2.2 q hq_q
  refine zrn_ok HW 4 (zB_iff.mpr (?_ : G (6, [(0, .inl (.ref 49)), (1, .inl (.int x)), (2, .inl (.int y)), (3, .inl (.int i)), (4, .inl (.int j)), (5, .inl (.int n))], [.inl (.long (7 : Int64)), .inl (.long (0 : Int64)), .inl (.long (Int32.toInt64 x))], h, 0, 0)))
  refine g_callS (b := 0) (E' := ze_X5_in) HW (Or.inl rfl) rfl rfl (Nat.le_of_ble_eq_true rfl) (Nat.le_of_ble_eq_true rfl) (Nat.le_of_ble_eq_true rfl) (Nat.le_of_ble_eq_true rfl) (c_in (fun a1 b1 => zB_iff.mpr ?_) (fun n1 => zB_iff.mpr ?_))
  · show G (9, [(0, .inl (.ref 49)), (1, .inl (.int x)), (2, .inl (.int y)), (3, .inl (.int i)), (4, .inl (.int j)), (5, .inl (.int n))], [.inl (.int (1 : Int32))], h, 0, 0)
    have a1 : (0 : Int) ≤ x.toInt := by have r0 : (Int32.toInt64 x).toInt = x.toInt := q_i2l _; have r1 : (0 : Int64).toInt = 0 := rfl; have r2 : (7 : Int64).toInt = 7 := rfl; omega
    have b1 : x.toInt ≤ (7 : Int) := by have r0 : (Int32.toInt64 x).toInt = x.toInt := q_i2l _; have r1 : (0 : Int64).toInt = 0 := rfl; have r2 : (7 : Int64).toInt = 7 := rfl; omega
    refine zrn_ok HW 5 (zB_iff.mpr (?_ : G (18, [(0, .inl (.ref 49)), (1, .inl (.int x)), (2, .inl (.int y)), (3, .inl (.int i)), (4, .inl (.int j)), (5, .inl (.int n))], [.inl (.long (7 : Int64)), .inl (.long (0 : Int64)), .inl (.long (Int32.toInt64 y))], h, 0, 0)))
    refine g_callS (b := 0) (E' := ze_X5_in) HW (Or.inl rfl) rfl rfl (Nat.le_of_ble_eq_true rfl) (Nat.le_of_ble_eq_true rfl) (Nat.le_of_ble_eq_true rfl) (Nat.le_of_ble_eq_true rfl) (c_in (fun a2 b2 => zB_iff.mpr ?_) (fun n2 => zB_iff.mpr ?_))
    · show G (21, [(0, .inl (.ref 49)), (1, .inl (.int x)), (2, .inl (.int y)), (3, .inl (.int i)), (4, .inl (.int j)), (5, .inl (.int n))], [.inl (.int (1 : Int32))], h, 0, 0)
      have a2 : (0 : Int) ≤ y.toInt := by have r0 : (Int32.toInt64 y).toInt = y.toInt := q_i2l _; have r1 : (0 : Int64).toInt = 0 := rfl; have r2 : (7 : Int64).toInt = 7 := rfl; omega
      have b2 : y.toInt ≤ (7 : Int) := by have r0 : (Int32.toInt64 y).toInt = y.toInt := q_i2l _; have r1 : (0 : Int64).toInt = 0 := rfl; have r2 : (7 : Int64).toInt = 7 := rfl; omega
      have at93 : G (93, [(0, .inl (.ref 49)), (1, .inl (.int x)), (2, .inl (.int y)), (3, .inl (.int i)), (4, .inl (.int j)), (5, .inl (.int n))], [], h, 0, 0) := by
        refine zrn_ok HW 1 (zB_iff.mpr (?_ : G (94, [(0, .inl (.ref 49)), (1, .inl (.int x)), (2, .inl (.int y)), (3, .inl (.int i)), (4, .inl (.int j)), (5, .inl (.int n))], [.inl (.ref 49)], h, 0, 0)))
        have o4 : hget h 49 0 = some (.inl (.ref 50)) := ((ok.2.1.2.1 49 5 hq_q (Or.inl rfl)).1.1 (0, 1, 24) (by decide +kernel)).1
        have t4 : T[50]? = some 24 := ((ok.2.1.2.1 49 5 hq_q (Or.inl rfl)).1.1 (0, 1, 24) (by decide +kernel)).2
        refine g_getf HW rfl ok.1 hq_q rfl o4 ?_
        refine zrn_ok HW 1 (zB_iff.mpr (?_ : G (98, [(0, .inl (.ref 49)), (1, .inl (.int x)), (2, .inl (.int y)), (3, .inl (.int i)), (4, .inl (.int j)), (5, .inl (.int n))], [.inl (.int x), .inl (.ref 50)], h, 0, 0)))
        obtain ⟨x5, g5, e5, l5, u5⟩ := hi_val (i := (x).toInt.toNat) ok.1 t4 (by show _ < 8; omega) rfl
        have l5 : (0 : Int) ≤ x5.toInt := l5
        have u5 : x5.toInt ≤ (2 : Int) := u5
        refine g_iald HW rfl ok.1 t4 rfl (by omega) g5 ?_
        refine zrn_ok HW 1 (zbr_ex (cd := .eq) (x := x5) (y := (0 : Int32)) (fun hc6 => zB_iff.mpr ?_) (fun hc6 => zB_iff.mpr ?_))
        · -- pc 111
          have i6 : x5.toInt = (0 : Int) := zop_int.mp hc6
          refine zrn_ok HW 2 (zB_iff.mpr (?_ : G (114, [(0, .inl (.ref 49)), (1, .inl (.int x)), (2, .inl (.int y)), (3, .inl (.int i)), (4, .inl (.int j)), (5, .inl (.int n))], [.inl (.int (-4 : Int32)), .inl (.ref 49)], h, 0, 0)))
          refine g_tV (e := te_X5_refuse_0) (E' := ze_X5_refuse) HW (tLow_of IH hd) rfl rfl (show te_X5_refuse_0 ∈ [te_X5_refuse_0] from List.mem_cons_self) (by decide +kernel) (Nat.le_of_ble_eq_true rfl) ⟨rfl, rfl⟩ (by decide) ok.1 ok.2.1 rfl hq_q rfl (Nat.le_of_ble_eq_true rfl) ⟨⟨_, rfl, hq_q⟩, okA_I (by decide) (by decide), trivial⟩ (fun v7 T7 h7 m7 k7 f7 lh7 r7 => ?_)
          obtain ⟨w7, rfl, hw7, cd7⟩ := r7
          obtain ⟨x7, rfl, l7, u7⟩ := tint_sp rfl hw7
          have l7 : ((-6) : Int) ≤ x7.toInt := l7
          have u7 : x7.toInt ≤ ((-2) : Int) := u7
          have ok7 : wOK (zPhi P) h.length T7 h7 := ⟨k7, f7, Nat.le_trans lh7 ok.2.2⟩
          have hq_q := m7 _ _ hq_q
          have t4 := m7 _ _ t4
          show G (117, [(0, .inl (.ref 49)), (1, .inl (.int x)), (2, .inl (.int y)), (3, .inl (.int i)), (4, .inl (.int j)), (5, .inl (.int n))], [.inl (.int x7)], h7, 0, 0)
          refine zrn_ok HW 1 ?_
          exact zret_i rfl rfl (RET x7 T7 h7 (tExt_tr (tExt_rf T) m7) ok7)
        · -- pc 102
          have i6 : ¬ (x5.toInt = (0 : Int)) := fun e => hc6 (zop_int.mpr e)
          refine zrn_ok HW 1 (zB_iff.mpr (?_ : G (103, [(0, .inl (.ref 49)), (1, .inl (.int x)), (2, .inl (.int y)), (3, .inl (.int i)), (4, .inl (.int j)), (5, .inl (.int n))], [.inl (.ref 49)], h, 0, 0)))
          have o9 : hget h 49 0 = some (.inl (.ref 50)) := ((ok.2.1.2.1 49 5 hq_q (Or.inl rfl)).1.1 (0, 1, 24) (by decide +kernel)).1
          have t9 : T[50]? = some 24 := ((ok.2.1.2.1 49 5 hq_q (Or.inl rfl)).1.1 (0, 1, 24) (by decide +kernel)).2
          refine g_getf HW rfl ok.1 hq_q rfl o9 ?_
          refine zrn_ok HW 1 (zB_iff.mpr (?_ : G (107, [(0, .inl (.ref 49)), (1, .inl (.int x)), (2, .inl (.int y)), (3, .inl (.int i)), (4, .inl (.int j)), (5, .inl (.int n))], [.inl (.int y), .inl (.ref 50)], h, 0, 0)))
          obtain ⟨x10, g10, e10, l10, u10⟩ := hi_val (i := (y).toInt.toNat) ok.1 t9 (by show _ < 8; omega) rfl
          have l10 : (0 : Int) ≤ x10.toInt := l10
          have u10 : x10.toInt ≤ (2 : Int) := u10
          refine g_iald HW rfl ok.1 t9 rfl (by omega) g10 ?_
          refine zrn_ok HW 1 (zbr_ex (cd := .ne) (x := x10) (y := (0 : Int32)) (fun hc11 => zB_iff.mpr ?_) (fun hc11 => zB_iff.mpr ?_))
          · -- pc 118
            have i11 : ¬ x10.toInt = (0 : Int) := zop_int.mp hc11
            have at181 : G (181, [(0, .inl (.ref 49)), (1, .inl (.int x)), (2, .inl (.int y)), (3, .inl (.int i)), (4, .inl (.int j)), (5, .inl (.int n))], [], h, 0, 0) := by
              refine zrn_ok HW 2 (zB_iff.mpr (?_ : G (184, [(0, .inl (.ref 49)), (1, .inl (.int x)), (2, .inl (.int y)), (3, .inl (.int i)), (4, .inl (.int j)), (5, .inl (.int n))], [.inl (.int (-2 : Int32)), .inl (.ref 49)], h, 0, 0)))
              refine g_tV (e := te_X5_refuse_0) (E' := ze_X5_refuse) HW (tLow_of IH hd) rfl rfl (show te_X5_refuse_0 ∈ [te_X5_refuse_0] from List.mem_cons_self) (by decide +kernel) (Nat.le_of_ble_eq_true rfl) ⟨rfl, rfl⟩ (by decide) ok.1 ok.2.1 rfl hq_q rfl (Nat.le_of_ble_eq_true rfl) ⟨⟨_, rfl, hq_q⟩, okA_I (by decide) (by decide), trivial⟩ (fun v12 T12 h12 m12 k12 f12 lh12 r12 => ?_)
              obtain ⟨w12, rfl, hw12, cd12⟩ := r12
              obtain ⟨x12, rfl, l12, u12⟩ := tint_sp rfl hw12
              have l12 : ((-6) : Int) ≤ x12.toInt := l12
              have u12 : x12.toInt ≤ ((-2) : Int) := u12
              have ok12 : wOK (zPhi P) h.length T12 h12 := ⟨k12, f12, Nat.le_trans lh12 ok.2.2⟩
              have hq_q := m12 _ _ hq_q
              have t9 := m12 _ _ t9
              show G (187, [(0, .inl (.ref 49)), (1, .inl (.int x)), (2, .inl (.int y)), (3, .inl (.int i)), (4, .inl (.int j)), (5, .inl (.int n))], [.inl (.int x12)], h12, 0, 0)
              refine zrn_ok HW 1 ?_
              exact zret_i rfl rfl (RET x12 T12 h12 (tExt_tr (tExt_rf T) m12) ok12)
            refine zrn_ok HW 2 (zbr_ex (cd := .lt) (x := n) (y := (0 : Int32)) (fun hc13 => zB_iff.mpr ?_) (fun hc13 => zB_iff.mpr ?_))
            · -- pc 181
              have i13 : n.toInt < (0 : Int) := zop_int.mp hc13
              exact at181
            · -- pc 123
              have i13 : ¬ (n.toInt < (0 : Int)) := fun e => hc13 (zop_int.mpr e)
              refine zrn_ok HW 2 (zbr_ex (cd := .lt) (x := i) (y := (0 : Int32)) (fun hc14 => zB_iff.mpr ?_) (fun hc14 => zB_iff.mpr ?_))
              · -- pc 181
                have i14 : i.toInt < (0 : Int) := zop_int.mp hc14
                exact at181
              · -- pc 127
                have i14 : ¬ (i.toInt < (0 : Int)) := fun e => hc14 (zop_int.mpr e)
                refine zrn_ok HW 2 (zbr_ex (cd := .lt) (x := j) (y := (0 : Int32)) (fun hc15 => zB_iff.mpr ?_) (fun hc15 => zB_iff.mpr ?_))
                · -- pc 181
                  have i15 : j.toInt < (0 : Int) := zop_int.mp hc15
                  exact at181
                · -- pc 132
                  have i15 : ¬ (j.toInt < (0 : Int)) := fun e => hc15 (zop_int.mpr e)
                  refine zrn_ok HW 2 (zB_iff.mpr (?_ : G (135, [(0, .inl (.ref 49)), (1, .inl (.int x)), (2, .inl (.int y)), (3, .inl (.int i)), (4, .inl (.int j)), (5, .inl (.int n))], [.inl (.ref 49), .inl (.int n)], h, 0, 0)))
                  have o17 : hget h 49 2 = some (.inl (.ref 52)) := ((ok.2.1.2.1 49 5 hq_q (Or.inl rfl)).1.1 (2, 3, 26) (by decide +kernel)).1
                  have t17 : T[52]? = some 26 := ((ok.2.1.2.1 49 5 hq_q (Or.inl rfl)).1.1 (2, 3, 26) (by decide +kernel)).2
                  refine g_getf HW rfl ok.1 hq_q rfl o17 ?_
                  refine zrn_ok HW 1 (zB_iff.mpr (?_ : G (139, [(0, .inl (.ref 49)), (1, .inl (.int x)), (2, .inl (.int y)), (3, .inl (.int i)), (4, .inl (.int j)), (5, .inl (.int n))], [.inl (.int x), .inl (.ref 52), .inl (.int n)], h, 0, 0)))
                  obtain ⟨x18, g18, e18, l18, u18⟩ := hi_val (i := (x).toInt.toNat) ok.1 t17 (by show _ < 8; omega) rfl
                  have l18 : (0 : Int) ≤ x18.toInt := l18
                  have u18 : x18.toInt ≤ (40 : Int) := u18
                  refine g_iald HW rfl ok.1 t17 rfl (by omega) g18 ?_
                  refine zrn_ok HW 1 (zbr_ex (cd := .gt) (x := n) (y := x18) (fun hc19 => zB_iff.mpr ?_) (fun hc19 => zB_iff.mpr ?_))
                  · -- pc 181
                    have i19 : n.toInt > x18.toInt := zop_int.mp hc19
                    exact at181
                  · -- pc 143
                    have i19 : ¬ (n.toInt > x18.toInt) := fun e => hc19 (zop_int.mpr e)
                    refine zrn_ok HW 2 (zB_iff.mpr (?_ : G (146, [(0, .inl (.ref 49)), (1, .inl (.int x)), (2, .inl (.int y)), (3, .inl (.int i)), (4, .inl (.int j)), (5, .inl (.int n))], [.inl (.ref 49), .inl (.int n)], h, 0, 0)))
                    have o21 : hget h 49 2 = some (.inl (.ref 52)) := ((ok.2.1.2.1 49 5 hq_q (Or.inl rfl)).1.1 (2, 3, 26) (by decide +kernel)).1
                    have t21 : T[52]? = some 26 := ((ok.2.1.2.1 49 5 hq_q (Or.inl rfl)).1.1 (2, 3, 26) (by decide +kernel)).2
                    refine g_getf HW rfl ok.1 hq_q rfl o21 ?_
                    refine zrn_ok HW 1 (zB_iff.mpr (?_ : G (150, [(0, .inl (.ref 49)), (1, .inl (.int x)), (2, .inl (.int y)), (3, .inl (.int i)), (4, .inl (.int j)), (5, .inl (.int n))], [.inl (.int y), .inl (.ref 52), .inl (.int n)], h, 0, 0)))
                    obtain ⟨x22, g22, e22, l22, u22⟩ := hi_val (i := (y).toInt.toNat) ok.1 t21 (by show _ < 8; omega) rfl
                    have l22 : (0 : Int) ≤ x22.toInt := l22
                    have u22 : x22.toInt ≤ (40 : Int) := u22
                    refine g_iald HW rfl ok.1 t21 rfl (by omega) g22 ?_
                    refine zrn_ok HW 1 (zbr_ex (cd := .gt) (x := n) (y := x22) (fun hc23 => zB_iff.mpr ?_) (fun hc23 => zB_iff.mpr ?_))
                    · -- pc 181
                      have i23 : n.toInt > x22.toInt := zop_int.mp hc23
                      exact at181
                    · -- pc 154
                      have i23 : ¬ (n.toInt > x22.toInt) := fun e => hc23 (zop_int.mpr e)
                      refine zrn_ok HW 2 (zB_iff.mpr (?_ : G (156, [(0, .inl (.ref 49)), (1, .inl (.int x)), (2, .inl (.int y)), (3, .inl (.int i)), (4, .inl (.int j)), (5, .inl (.int n))], [.inl (.ref 49), .inl (.int i)], h, 0, 0)))
                      have o25 : hget h 49 2 = some (.inl (.ref 52)) := ((ok.2.1.2.1 49 5 hq_q (Or.inl rfl)).1.1 (2, 3, 26) (by decide +kernel)).1
                      have t25 : T[52]? = some 26 := ((ok.2.1.2.1 49 5 hq_q (Or.inl rfl)).1.1 (2, 3, 26) (by decide +kernel)).2
                      refine g_getf HW rfl ok.1 hq_q rfl o25 ?_
                      refine zrn_ok HW 1 (zB_iff.mpr (?_ : G (160, [(0, .inl (.ref 49)), (1, .inl (.int x)), (2, .inl (.int y)), (3, .inl (.int i)), (4, .inl (.int j)), (5, .inl (.int n))], [.inl (.int x), .inl (.ref 52), .inl (.int i)], h, 0, 0)))
                      obtain ⟨x26, g26, e26, l26, u26⟩ := hi_val (i := (x).toInt.toNat) ok.1 t25 (by show _ < 8; omega) rfl
                      have l26 : (0 : Int) ≤ x26.toInt := l26
                      have u26 : x26.toInt ≤ (40 : Int) := u26
                      refine g_iald HW rfl ok.1 t25 rfl (by omega) g26 ?_
                      have y27 : -2147483648 ≤ x26.toInt - n.toInt → x26.toInt - n.toInt ≤ 2147483647 → (x26 - n).toInt = x26.toInt - n.toInt := t_subC (x := x26) (y := n)
                      refine zrn_ok HW 3 (zbr_ex (cd := .gt) (x := i) (y := (x26 - n)) (fun hc28 => zB_iff.mpr ?_) (fun hc28 => zB_iff.mpr ?_))
                      · -- pc 181
                        have i28 : i.toInt > (x26 - n).toInt := zop_int.mp hc28
                        exact at181
                      · -- pc 167
                        have i28 : ¬ (i.toInt > (x26 - n).toInt) := fun e => hc28 (zop_int.mpr e)
                        refine zrn_ok HW 2 (zB_iff.mpr (?_ : G (170, [(0, .inl (.ref 49)), (1, .inl (.int x)), (2, .inl (.int y)), (3, .inl (.int i)), (4, .inl (.int j)), (5, .inl (.int n))], [.inl (.ref 49), .inl (.int j)], h, 0, 0)))
                        have o30 : hget h 49 2 = some (.inl (.ref 52)) := ((ok.2.1.2.1 49 5 hq_q (Or.inl rfl)).1.1 (2, 3, 26) (by decide +kernel)).1
                        have t30 : T[52]? = some 26 := ((ok.2.1.2.1 49 5 hq_q (Or.inl rfl)).1.1 (2, 3, 26) (by decide +kernel)).2
                        refine g_getf HW rfl ok.1 hq_q rfl o30 ?_
                        refine zrn_ok HW 1 (zB_iff.mpr (?_ : G (174, [(0, .inl (.ref 49)), (1, .inl (.int x)), (2, .inl (.int y)), (3, .inl (.int i)), (4, .inl (.int j)), (5, .inl (.int n))], [.inl (.int y), .inl (.ref 52), .inl (.int j)], h, 0, 0)))
                        obtain ⟨x31, g31, e31, l31, u31⟩ := hi_val (i := (y).toInt.toNat) ok.1 t30 (by show _ < 8; omega) rfl
                        have l31 : (0 : Int) ≤ x31.toInt := l31
                        have u31 : x31.toInt ≤ (40 : Int) := u31
                        refine g_iald HW rfl ok.1 t30 rfl (by omega) g31 ?_
                        have y32 : -2147483648 ≤ x31.toInt - n.toInt → x31.toInt - n.toInt ≤ 2147483647 → (x31 - n).toInt = x31.toInt - n.toInt := t_subC (x := x31) (y := n)
                        refine zrn_ok HW 3 (zbr_ex (cd := .le) (x := j) (y := (x31 - n)) (fun hc33 => zB_iff.mpr ?_) (fun hc33 => zB_iff.mpr ?_))
                        · -- pc 188
                          have i33 : j.toInt ≤ (x31 - n).toInt := zop_int.mp hc33
                          refine zrn_ok HW 2 (zB_iff.mpr (?_ : G (191, [(6, .inl (.int (0 : Int32))), (0, .inl (.ref 49)), (1, .inl (.int x)), (2, .inl (.int y)), (3, .inl (.int i)), (4, .inl (.int j)), (5, .inl (.int n))], [], h, 0, 0)))
                          have loopB : ∀ (k : Nat) (k6 : Int32) (hl : zH), wOK (zPhi P) h.length T hl → 0 ≤ k6.toInt → k6.toInt ≤ n.toInt → 40 - k6.toInt < (k : Int) → G (225, [(6, .inl (.int k6)), (0, .inl (.ref 49)), (1, .inl (.int x)), (2, .inl (.int y)), (3, .inl (.int i)), (4, .inl (.int j)), (5, .inl (.int n))], [], hl, 0, 0) := by
                            intro k
                            induction k with
                            | zero =>
                              intro k6 hl okl y_0 y_1 hm
                              exfalso
                              omega
                            | succ k ih =>
                              intro k6 hl okl y_0 y_1 hm
                              refine zrn_ok HW 3 (zbr_ex (cd := .ge) (x := k6) (y := n) (fun hc1 => zB_iff.mpr ?_) (fun hc1 => zB_iff.mpr ?_))
                              · -- pc 257
                                have i1 : k6.toInt ≥ n.toInt := zop_int.mp hc1
                                refine zrn_ok HW 2 ?_
                                exact zret_i rfl rfl (RET n T hl (tExt_rf T) okl)
                              · -- pc 232
                                have i1 : ¬ (k6.toInt ≥ n.toInt) := fun e => hc1 (zop_int.mpr e)
                                refine zrn_ok HW 1 (zB_iff.mpr (?_ : G (233, [(6, .inl (.int k6)), (0, .inl (.ref 49)), (1, .inl (.int x)), (2, .inl (.int y)), (3, .inl (.int i)), (4, .inl (.int j)), (5, .inl (.int n))], [.inl (.ref 49)], hl, 0, 0)))
                                have o3 : hget hl 49 3 = some (.inl (.ref 53)) := ((okl.2.1.2.1 49 5 hq_q (Or.inl rfl)).1.1 (3, 4, 27) (by decide +kernel)).1
                                have t3 : T[53]? = some 27 := ((okl.2.1.2.1 49 5 hq_q (Or.inl rfl)).1.1 (3, 4, 27) (by decide +kernel)).2
                                refine g_getf HW rfl okl.1 hq_q rfl o3 ?_
                                refine zrn_ok HW 1 (zB_iff.mpr (?_ : G (237, [(6, .inl (.int k6)), (0, .inl (.ref 49)), (1, .inl (.int x)), (2, .inl (.int y)), (3, .inl (.int i)), (4, .inl (.int j)), (5, .inl (.int n))], [.inl (.int y), .inl (.ref 53)], hl, 0, 0)))
                                obtain ⟨v4, g4, s4⟩ := hOK_get (i := (y).toInt.toNat) okl.1 t3 (by show _ < 8; omega)
                                obtain ⟨q4, rfl, hq4⟩ : ∃ q : Nat, v4 = .inl (.ref q) ∧ T[q]? = some 28 := s4
                                refine g_aald HW rfl okl.1 t3 ⟨by decide, by decide⟩ (by omega) g4 ?_
                                have y5 : -2147483648 ≤ j.toInt + k6.toInt → j.toInt + k6.toInt ≤ 2147483647 → (j + k6).toInt = j.toInt + k6.toInt := t_addC (x := j) (y := k6)
                                refine zrn_ok HW 4 (zB_iff.mpr (?_ : G (244, [(6, .inl (.int k6)), (0, .inl (.ref 49)), (1, .inl (.int x)), (2, .inl (.int y)), (3, .inl (.int i)), (4, .inl (.int j)), (5, .inl (.int n))], [.inl (.ref 49), .inl (.int (j + k6)), .inl (.ref q4)], hl, 0, 0)))
                                have o7 : hget hl 49 4 = some (.inl (.ref 62)) := ((okl.2.1.2.1 49 5 hq_q (Or.inl rfl)).1.1 (4, 13, 28) (by decide +kernel)).1
                                have t7 : T[62]? = some 28 := ((okl.2.1.2.1 49 5 hq_q (Or.inl rfl)).1.1 (4, 13, 28) (by decide +kernel)).2
                                refine g_getf HW rfl okl.1 hq_q rfl o7 ?_
                                refine zrn_ok HW 1 (zB_iff.mpr (?_ : G (249, [(6, .inl (.int k6)), (0, .inl (.ref 49)), (1, .inl (.int x)), (2, .inl (.int y)), (3, .inl (.int i)), (4, .inl (.int j)), (5, .inl (.int n))], [.inl (.int k6), .inl (.ref 62), .inl (.int (j + k6)), .inl (.ref q4)], hl, 0, 0)))
                                obtain ⟨v8, g8, s8⟩ := hOK_get (i := (k6).toInt.toNat) okl.1 t7 (by show _ < 40; omega)
                                obtain ⟨x8, rfl⟩ : ∃ x : Int64, v8 = .inl (.long x) := s8
                                refine g_lald HW rfl okl.1 t7 rfl (by omega) g8 ?_
                                have ok9 : wOK (zPhi P) h.length T (hput hl q4 ((j + k6)).toInt.toNat (.inl (.long x8))) := wOK_put hst okl hq4 rfl ⟨_, rfl⟩
                                refine g_last HW rfl okl.1 hq4 rfl (by omega) (by show _ < (40 : Int); omega) ?_
                                have y10 : -2147483648 ≤ k6.toInt + (1 : Int) → k6.toInt + (1 : Int) ≤ 2147483647 → (k6 + (1 : Int32)).toInt = k6.toInt + (1 : Int) := t_addC (x := k6) (y := (1 : Int32))
                                refine zrn_ok HW 2 (zB_iff.mpr (?_ : G (225, [(6, .inl (.int (k6 + (1 : Int32)))), (0, .inl (.ref 49)), (1, .inl (.int x)), (2, .inl (.int y)), (3, .inl (.int i)), (4, .inl (.int j)), (5, .inl (.int n))], [], (hput hl q4 ((j + k6)).toInt.toNat (.inl (.long x8))), 0, 0)))
                                exact ih (k6 + (1 : Int32)) _ ok9 (by omega) (by omega) (by omega)
                          have loopA : ∀ (k : Nat) (k6 : Int32) (hl : zH), wOK (zPhi P) h.length T hl → 0 ≤ k6.toInt → k6.toInt ≤ n.toInt → 40 - k6.toInt < (k : Int) → G (191, [(6, .inl (.int k6)), (0, .inl (.ref 49)), (1, .inl (.int x)), (2, .inl (.int y)), (3, .inl (.int i)), (4, .inl (.int j)), (5, .inl (.int n))], [], hl, 0, 0) := by
                            intro k
                            induction k with
                            | zero =>
                              intro k6 hl okl y_0 y_1 hm
                              exfalso
                              omega
                            | succ k ih =>
                              intro k6 hl okl y_0 y_1 hm
                              refine zrn_ok HW 3 (zbr_ex (cd := .ge) (x := k6) (y := n) (fun hc1 => zB_iff.mpr ?_) (fun hc1 => zB_iff.mpr ?_))
                              · -- pc 222
                                have i1 : k6.toInt ≥ n.toInt := zop_int.mp hc1
                                refine zrn_ok HW 2 (zB_iff.mpr (?_ : G (225, [(6, .inl (.int (0 : Int32))), (0, .inl (.ref 49)), (1, .inl (.int x)), (2, .inl (.int y)), (3, .inl (.int i)), (4, .inl (.int j)), (5, .inl (.int n))], [], hl, 0, 0)))
                                exact loopB 41 (0 : Int32) _ okl (by decide) (by have z0 : (0 : Int32).toInt = 0 := rfl; omega) (by decide)
                              · -- pc 198
                                have i1 : ¬ (k6.toInt ≥ n.toInt) := fun e => hc1 (zop_int.mpr e)
                                refine zrn_ok HW 1 (zB_iff.mpr (?_ : G (199, [(6, .inl (.int k6)), (0, .inl (.ref 49)), (1, .inl (.int x)), (2, .inl (.int y)), (3, .inl (.int i)), (4, .inl (.int j)), (5, .inl (.int n))], [.inl (.ref 49)], hl, 0, 0)))
                                have o3 : hget hl 49 4 = some (.inl (.ref 62)) := ((okl.2.1.2.1 49 5 hq_q (Or.inl rfl)).1.1 (4, 13, 28) (by decide +kernel)).1
                                have t3 : T[62]? = some 28 := ((okl.2.1.2.1 49 5 hq_q (Or.inl rfl)).1.1 (4, 13, 28) (by decide +kernel)).2
                                refine g_getf HW rfl okl.1 hq_q rfl o3 ?_
                                refine zrn_ok HW 2 (zB_iff.mpr (?_ : G (205, [(6, .inl (.int k6)), (0, .inl (.ref 49)), (1, .inl (.int x)), (2, .inl (.int y)), (3, .inl (.int i)), (4, .inl (.int j)), (5, .inl (.int n))], [.inl (.ref 49), .inl (.int k6), .inl (.ref 62)], hl, 0, 0)))
                                have o5 : hget hl 49 3 = some (.inl (.ref 53)) := ((okl.2.1.2.1 49 5 hq_q (Or.inl rfl)).1.1 (3, 4, 27) (by decide +kernel)).1
                                have t5 : T[53]? = some 27 := ((okl.2.1.2.1 49 5 hq_q (Or.inl rfl)).1.1 (3, 4, 27) (by decide +kernel)).2
                                refine g_getf HW rfl okl.1 hq_q rfl o5 ?_
                                refine zrn_ok HW 1 (zB_iff.mpr (?_ : G (209, [(6, .inl (.int k6)), (0, .inl (.ref 49)), (1, .inl (.int x)), (2, .inl (.int y)), (3, .inl (.int i)), (4, .inl (.int j)), (5, .inl (.int n))], [.inl (.int x), .inl (.ref 53), .inl (.int k6), .inl (.ref 62)], hl, 0, 0)))
                                obtain ⟨v6, g6, s6⟩ := hOK_get (i := (x).toInt.toNat) okl.1 t5 (by show _ < 8; omega)
                                obtain ⟨q6, rfl, hq6⟩ : ∃ q : Nat, v6 = .inl (.ref q) ∧ T[q]? = some 28 := s6
                                refine g_aald HW rfl okl.1 t5 ⟨by decide, by decide⟩ (by omega) g6 ?_
                                have y7 : -2147483648 ≤ i.toInt + k6.toInt → i.toInt + k6.toInt ≤ 2147483647 → (i + k6).toInt = i.toInt + k6.toInt := t_addC (x := i) (y := k6)
                                refine zrn_ok HW 3 (zB_iff.mpr (?_ : G (214, [(6, .inl (.int k6)), (0, .inl (.ref 49)), (1, .inl (.int x)), (2, .inl (.int y)), (3, .inl (.int i)), (4, .inl (.int j)), (5, .inl (.int n))], [.inl (.int (i + k6)), .inl (.ref q6), .inl (.int k6), .inl (.ref 62)], hl, 0, 0)))
                                obtain ⟨v8, g8, s8⟩ := hOK_get (i := ((i + k6)).toInt.toNat) okl.1 hq6 (by show _ < 40; omega)
                                obtain ⟨x8, rfl⟩ : ∃ x : Int64, v8 = .inl (.long x) := s8
                                refine g_lald HW rfl okl.1 hq6 rfl (by omega) g8 ?_
                                have ok9 : wOK (zPhi P) h.length T (hput hl 62 (k6).toInt.toNat (.inl (.long x8))) := wOK_put hst okl t3 rfl ⟨_, rfl⟩
                                refine g_last HW rfl okl.1 t3 rfl (by omega) (by show _ < (40 : Int); omega) ?_
                                have y10 : -2147483648 ≤ k6.toInt + (1 : Int) → k6.toInt + (1 : Int) ≤ 2147483647 → (k6 + (1 : Int32)).toInt = k6.toInt + (1 : Int) := t_addC (x := k6) (y := (1 : Int32))
                                refine zrn_ok HW 2 (zB_iff.mpr (?_ : G (191, [(6, .inl (.int (k6 + (1 : Int32)))), (0, .inl (.ref 49)), (1, .inl (.int x)), (2, .inl (.int y)), (3, .inl (.int i)), (4, .inl (.int j)), (5, .inl (.int n))], [], (hput hl 62 (k6).toInt.toNat (.inl (.long x8))), 0, 0)))
                                exact ih (k6 + (1 : Int32)) _ ok9 (by omega) (by omega) (by omega)
                          exact loopA 41 (0 : Int32) _ ok (by decide) (by have z0 : (0 : Int32).toInt = 0 := rfl; omega) (by decide)
                        · -- pc 181
                          have i33 : ¬ (j.toInt ≤ (x31 - n).toInt) := fun e => hc33 (zop_int.mpr e)
                          exact at181
          · -- pc 111
            have i11 : ¬ (¬ x10.toInt = (0 : Int)) := fun e => hc11 (zop_int.mpr e)
            refine zrn_ok HW 2 (zB_iff.mpr (?_ : G (114, [(0, .inl (.ref 49)), (1, .inl (.int x)), (2, .inl (.int y)), (3, .inl (.int i)), (4, .inl (.int j)), (5, .inl (.int n))], [.inl (.int (-4 : Int32)), .inl (.ref 49)], h, 0, 0)))
            refine g_tV (e := te_X5_refuse_0) (E' := ze_X5_refuse) HW (tLow_of IH hd) rfl rfl (show te_X5_refuse_0 ∈ [te_X5_refuse_0] from List.mem_cons_self) (by decide +kernel) (Nat.le_of_ble_eq_true rfl) ⟨rfl, rfl⟩ (by decide) ok.1 ok.2.1 rfl hq_q rfl (Nat.le_of_ble_eq_true rfl) ⟨⟨_, rfl, hq_q⟩, okA_I (by decide) (by decide), trivial⟩ (fun v34 T34 h34 m34 k34 f34 lh34 r34 => ?_)
            obtain ⟨w34, rfl, hw34, cd34⟩ := r34
            obtain ⟨x34, rfl, l34, u34⟩ := tint_sp rfl hw34
            have l34 : ((-6) : Int) ≤ x34.toInt := l34
            have u34 : x34.toInt ≤ ((-2) : Int) := u34
            have ok34 : wOK (zPhi P) h.length T34 h34 := ⟨k34, f34, Nat.le_trans lh34 ok.2.2⟩
            have hq_q := m34 _ _ hq_q
            have t9 := m34 _ _ t9
            show G (117, [(0, .inl (.ref 49)), (1, .inl (.int x)), (2, .inl (.int y)), (3, .inl (.int i)), (4, .inl (.int j)), (5, .inl (.int n))], [.inl (.int x34)], h34, 0, 0)
            refine zrn_ok HW 1 ?_
            exact zret_i rfl rfl (RET x34 T34 h34 (tExt_tr (tExt_rf T) m34) ok34)
      refine zrn_ok HW 2 (zB_iff.mpr (?_ : G (32, [(0, .inl (.ref 49)), (1, .inl (.int x)), (2, .inl (.int y)), (3, .inl (.int i)), (4, .inl (.int j)), (5, .inl (.int n))], [.inl (.ref 49)], h, 0, 0)))
      have o36 : hget h 49 0 = some (.inl (.ref 50)) := ((ok.2.1.2.1 49 5 hq_q (Or.inl rfl)).1.1 (0, 1, 24) (by decide +kernel)).1
      have t36 : T[50]? = some 24 := ((ok.2.1.2.1 49 5 hq_q (Or.inl rfl)).1.1 (0, 1, 24) (by decide +kernel)).2
      refine g_getf HW rfl ok.1 hq_q rfl o36 ?_
      refine zrn_ok HW 1 (zB_iff.mpr (?_ : G (36, [(0, .inl (.ref 49)), (1, .inl (.int x)), (2, .inl (.int y)), (3, .inl (.int i)), (4, .inl (.int j)), (5, .inl (.int n))], [.inl (.int x), .inl (.ref 50)], h, 0, 0)))
      obtain ⟨x37, g37, e37, l37, u37⟩ := hi_val (i := (x).toInt.toNat) ok.1 t36 (by show _ < 8; omega) rfl
      have l37 : (0 : Int) ≤ x37.toInt := l37
      have u37 : x37.toInt ≤ (2 : Int) := u37
      refine g_iald HW rfl ok.1 t36 rfl (by omega) g37 ?_
      refine zrn_ok HW 2 (zbr_ex (cd := .eq) (x := x37) (y := (2 : Int32)) (fun hc38 => zB_iff.mpr ?_) (fun hc38 => zB_iff.mpr ?_))
      · -- pc 86
        have i38 : x37.toInt = (2 : Int) := zop_int.mp hc38
        refine zrn_ok HW 2 (zB_iff.mpr (?_ : G (89, [(0, .inl (.ref 49)), (1, .inl (.int x)), (2, .inl (.int y)), (3, .inl (.int i)), (4, .inl (.int j)), (5, .inl (.int n))], [.inl (.int (-3 : Int32)), .inl (.ref 49)], h, 0, 0)))
        refine g_tV (e := te_X5_refuse_0) (E' := ze_X5_refuse) HW (tLow_of IH hd) rfl rfl (show te_X5_refuse_0 ∈ [te_X5_refuse_0] from List.mem_cons_self) (by decide +kernel) (Nat.le_of_ble_eq_true rfl) ⟨rfl, rfl⟩ (by decide) ok.1 ok.2.1 rfl hq_q rfl (Nat.le_of_ble_eq_true rfl) ⟨⟨_, rfl, hq_q⟩, okA_I (by decide) (by decide), trivial⟩ (fun v39 T39 h39 m39 k39 f39 lh39 r39 => ?_)
        obtain ⟨w39, rfl, hw39, cd39⟩ := r39
        obtain ⟨x39, rfl, l39, u39⟩ := tint_sp rfl hw39
        have l39 : ((-6) : Int) ≤ x39.toInt := l39
        have u39 : x39.toInt ≤ ((-2) : Int) := u39
        have ok39 : wOK (zPhi P) h.length T39 h39 := ⟨k39, f39, Nat.le_trans lh39 ok.2.2⟩
        have hq_q := m39 _ _ hq_q
        have t36 := m39 _ _ t36
        show G (92, [(0, .inl (.ref 49)), (1, .inl (.int x)), (2, .inl (.int y)), (3, .inl (.int i)), (4, .inl (.int j)), (5, .inl (.int n))], [.inl (.int x39)], h39, 0, 0)
        refine zrn_ok HW 1 ?_
        exact zret_i rfl rfl (RET x39 T39 h39 (tExt_tr (tExt_rf T) m39) ok39)
      · -- pc 41
        have i38 : ¬ (x37.toInt = (2 : Int)) := fun e => hc38 (zop_int.mpr e)
        refine zrn_ok HW 1 (zB_iff.mpr (?_ : G (42, [(0, .inl (.ref 49)), (1, .inl (.int x)), (2, .inl (.int y)), (3, .inl (.int i)), (4, .inl (.int j)), (5, .inl (.int n))], [.inl (.ref 49)], h, 0, 0)))
        have o41 : hget h 49 0 = some (.inl (.ref 50)) := ((ok.2.1.2.1 49 5 hq_q (Or.inl rfl)).1.1 (0, 1, 24) (by decide +kernel)).1
        have t41 : T[50]? = some 24 := ((ok.2.1.2.1 49 5 hq_q (Or.inl rfl)).1.1 (0, 1, 24) (by decide +kernel)).2
        refine g_getf HW rfl ok.1 hq_q rfl o41 ?_
        refine zrn_ok HW 1 (zB_iff.mpr (?_ : G (46, [(0, .inl (.ref 49)), (1, .inl (.int x)), (2, .inl (.int y)), (3, .inl (.int i)), (4, .inl (.int j)), (5, .inl (.int n))], [.inl (.int y), .inl (.ref 50)], h, 0, 0)))
        obtain ⟨x42, g42, e42, l42, u42⟩ := hi_val (i := (y).toInt.toNat) ok.1 t41 (by show _ < 8; omega) rfl
        have l42 : (0 : Int) ≤ x42.toInt := l42
        have u42 : x42.toInt ≤ (2 : Int) := u42
        refine g_iald HW rfl ok.1 t41 rfl (by omega) g42 ?_
        refine zrn_ok HW 2 (zbr_ex (cd := .eq) (x := x42) (y := (2 : Int32)) (fun hc43 => zB_iff.mpr ?_) (fun hc43 => zB_iff.mpr ?_))
        · -- pc 86
          have i43 : x42.toInt = (2 : Int) := zop_int.mp hc43
          refine zrn_ok HW 2 (zB_iff.mpr (?_ : G (89, [(0, .inl (.ref 49)), (1, .inl (.int x)), (2, .inl (.int y)), (3, .inl (.int i)), (4, .inl (.int j)), (5, .inl (.int n))], [.inl (.int (-3 : Int32)), .inl (.ref 49)], h, 0, 0)))
          refine g_tV (e := te_X5_refuse_0) (E' := ze_X5_refuse) HW (tLow_of IH hd) rfl rfl (show te_X5_refuse_0 ∈ [te_X5_refuse_0] from List.mem_cons_self) (by decide +kernel) (Nat.le_of_ble_eq_true rfl) ⟨rfl, rfl⟩ (by decide) ok.1 ok.2.1 rfl hq_q rfl (Nat.le_of_ble_eq_true rfl) ⟨⟨_, rfl, hq_q⟩, okA_I (by decide) (by decide), trivial⟩ (fun v44 T44 h44 m44 k44 f44 lh44 r44 => ?_)
          obtain ⟨w44, rfl, hw44, cd44⟩ := r44
          obtain ⟨x44, rfl, l44, u44⟩ := tint_sp rfl hw44
          have l44 : ((-6) : Int) ≤ x44.toInt := l44
          have u44 : x44.toInt ≤ ((-2) : Int) := u44
          have ok44 : wOK (zPhi P) h.length T44 h44 := ⟨k44, f44, Nat.le_trans lh44 ok.2.2⟩
          have hq_q := m44 _ _ hq_q
          have t41 := m44 _ _ t41
          show G (92, [(0, .inl (.ref 49)), (1, .inl (.int x)), (2, .inl (.int y)), (3, .inl (.int i)), (4, .inl (.int j)), (5, .inl (.int n))], [.inl (.int x44)], h44, 0, 0)
          refine zrn_ok HW 1 ?_
          exact zret_i rfl rfl (RET x44 T44 h44 (tExt_tr (tExt_rf T) m44) ok44)
        · -- pc 51
          have i43 : ¬ (x42.toInt = (2 : Int)) := fun e => hc43 (zop_int.mpr e)
          refine zrn_ok HW 1 (zB_iff.mpr (?_ : G (52, [(0, .inl (.ref 49)), (1, .inl (.int x)), (2, .inl (.int y)), (3, .inl (.int i)), (4, .inl (.int j)), (5, .inl (.int n))], [.inl (.ref 49)], h, 0, 0)))
          have o46 : hget h 49 0 = some (.inl (.ref 50)) := ((ok.2.1.2.1 49 5 hq_q (Or.inl rfl)).1.1 (0, 1, 24) (by decide +kernel)).1
          have t46 : T[50]? = some 24 := ((ok.2.1.2.1 49 5 hq_q (Or.inl rfl)).1.1 (0, 1, 24) (by decide +kernel)).2
          refine g_getf HW rfl ok.1 hq_q rfl o46 ?_
          refine zrn_ok HW 1 (zB_iff.mpr (?_ : G (56, [(0, .inl (.ref 49)), (1, .inl (.int x)), (2, .inl (.int y)), (3, .inl (.int i)), (4, .inl (.int j)), (5, .inl (.int n))], [.inl (.int x), .inl (.ref 50)], h, 0, 0)))
          obtain ⟨x47, g47, e47, l47, u47⟩ := hi_val (i := (x).toInt.toNat) ok.1 t46 (by show _ < 8; omega) rfl
          have l47 : (0 : Int) ≤ x47.toInt := l47
          have u47 : x47.toInt ≤ (2 : Int) := u47
          refine g_iald HW rfl ok.1 t46 rfl (by omega) g47 ?_
          refine zrn_ok HW 2 (zbr_ex (cd := .ne) (x := x47) (y := (1 : Int32)) (fun hc48 => zB_iff.mpr ?_) (fun hc48 => zB_iff.mpr ?_))
          · -- pc 93
            have i48 : ¬ x47.toInt = (1 : Int) := zop_int.mp hc48
            exact at93
          · -- pc 61
            have i48 : ¬ (¬ x47.toInt = (1 : Int)) := fun e => hc48 (zop_int.mpr e)
            refine zrn_ok HW 1 (zB_iff.mpr (?_ : G (62, [(0, .inl (.ref 49)), (1, .inl (.int x)), (2, .inl (.int y)), (3, .inl (.int i)), (4, .inl (.int j)), (5, .inl (.int n))], [.inl (.ref 49)], h, 0, 0)))
            have o50 : hget h 49 0 = some (.inl (.ref 50)) := ((ok.2.1.2.1 49 5 hq_q (Or.inl rfl)).1.1 (0, 1, 24) (by decide +kernel)).1
            have t50 : T[50]? = some 24 := ((ok.2.1.2.1 49 5 hq_q (Or.inl rfl)).1.1 (0, 1, 24) (by decide +kernel)).2
            refine g_getf HW rfl ok.1 hq_q rfl o50 ?_
            refine zrn_ok HW 1 (zB_iff.mpr (?_ : G (66, [(0, .inl (.ref 49)), (1, .inl (.int x)), (2, .inl (.int y)), (3, .inl (.int i)), (4, .inl (.int j)), (5, .inl (.int n))], [.inl (.int y), .inl (.ref 50)], h, 0, 0)))
            obtain ⟨x51, g51, e51, l51, u51⟩ := hi_val (i := (y).toInt.toNat) ok.1 t50 (by show _ < 8; omega) rfl
            have l51 : (0 : Int) ≤ x51.toInt := l51
            have u51 : x51.toInt ≤ (2 : Int) := u51
            refine g_iald HW rfl ok.1 t50 rfl (by omega) g51 ?_
            refine zrn_ok HW 2 (zbr_ex (cd := .ne) (x := x51) (y := (1 : Int32)) (fun hc52 => zB_iff.mpr ?_) (fun hc52 => zB_iff.mpr ?_))
            · -- pc 93
              have i52 : ¬ x51.toInt = (1 : Int) := zop_int.mp hc52
              exact at93
            · -- pc 71
              have i52 : ¬ (¬ x51.toInt = (1 : Int)) := fun e => hc52 (zop_int.mpr e)
              refine zrn_ok HW 1 (zB_iff.mpr (?_ : G (72, [(0, .inl (.ref 49)), (1, .inl (.int x)), (2, .inl (.int y)), (3, .inl (.int i)), (4, .inl (.int j)), (5, .inl (.int n))], [.inl (.ref 49)], h, 0, 0)))
              have o54 : hget h 49 1 = some (.inl (.ref 51)) := ((ok.2.1.2.1 49 5 hq_q (Or.inl rfl)).1.1 (1, 2, 25) (by decide +kernel)).1
              have t54 : T[51]? = some 25 := ((ok.2.1.2.1 49 5 hq_q (Or.inl rfl)).1.1 (1, 2, 25) (by decide +kernel)).2
              refine g_getf HW rfl ok.1 hq_q rfl o54 ?_
              refine zrn_ok HW 1 (zB_iff.mpr (?_ : G (76, [(0, .inl (.ref 49)), (1, .inl (.int x)), (2, .inl (.int y)), (3, .inl (.int i)), (4, .inl (.int j)), (5, .inl (.int n))], [.inl (.int x), .inl (.ref 51)], h, 0, 0)))
              obtain ⟨x55, g55, e55, l55, u55⟩ := hi_val (i := (x).toInt.toNat) ok.1 t54 (by show _ < 8; omega) rfl
              have l55 : (0 : Int) ≤ x55.toInt := l55
              have u55 : x55.toInt ≤ (4 : Int) := u55
              refine g_iald HW rfl ok.1 t54 rfl (by omega) g55 ?_
              refine zrn_ok HW 1 (zB_iff.mpr (?_ : G (78, [(0, .inl (.ref 49)), (1, .inl (.int x)), (2, .inl (.int y)), (3, .inl (.int i)), (4, .inl (.int j)), (5, .inl (.int n))], [.inl (.ref 49), .inl (.int x55)], h, 0, 0)))
              have o57 : hget h 49 1 = some (.inl (.ref 51)) := ((ok.2.1.2.1 49 5 hq_q (Or.inl rfl)).1.1 (1, 2, 25) (by decide +kernel)).1
              have t57 : T[51]? = some 25 := ((ok.2.1.2.1 49 5 hq_q (Or.inl rfl)).1.1 (1, 2, 25) (by decide +kernel)).2
              refine g_getf HW rfl ok.1 hq_q rfl o57 ?_
              refine zrn_ok HW 1 (zB_iff.mpr (?_ : G (82, [(0, .inl (.ref 49)), (1, .inl (.int x)), (2, .inl (.int y)), (3, .inl (.int i)), (4, .inl (.int j)), (5, .inl (.int n))], [.inl (.int y), .inl (.ref 51), .inl (.int x55)], h, 0, 0)))
              obtain ⟨x58, g58, e58, l58, u58⟩ := hi_val (i := (y).toInt.toNat) ok.1 t57 (by show _ < 8; omega) rfl
              have l58 : (0 : Int) ≤ x58.toInt := l58
              have u58 : x58.toInt ≤ (4 : Int) := u58
              refine g_iald HW rfl ok.1 t57 rfl (by omega) g58 ?_
              refine zrn_ok HW 1 (zbr_ex (cd := .eq) (x := x55) (y := x58) (fun hc59 => zB_iff.mpr ?_) (fun hc59 => zB_iff.mpr ?_))
              · -- pc 93
                have i59 : x55.toInt = x58.toInt := zop_int.mp hc59
                exact at93
              · -- pc 86
                have i59 : ¬ (x55.toInt = x58.toInt) := fun e => hc59 (zop_int.mpr e)
                refine zrn_ok HW 2 (zB_iff.mpr (?_ : G (89, [(0, .inl (.ref 49)), (1, .inl (.int x)), (2, .inl (.int y)), (3, .inl (.int i)), (4, .inl (.int j)), (5, .inl (.int n))], [.inl (.int (-3 : Int32)), .inl (.ref 49)], h, 0, 0)))
                refine g_tV (e := te_X5_refuse_0) (E' := ze_X5_refuse) HW (tLow_of IH hd) rfl rfl (show te_X5_refuse_0 ∈ [te_X5_refuse_0] from List.mem_cons_self) (by decide +kernel) (Nat.le_of_ble_eq_true rfl) ⟨rfl, rfl⟩ (by decide) ok.1 ok.2.1 rfl hq_q rfl (Nat.le_of_ble_eq_true rfl) ⟨⟨_, rfl, hq_q⟩, okA_I (by decide) (by decide), trivial⟩ (fun v60 T60 h60 m60 k60 f60 lh60 r60 => ?_)
                obtain ⟨w60, rfl, hw60, cd60⟩ := r60
                obtain ⟨x60, rfl, l60, u60⟩ := tint_sp rfl hw60
                have l60 : ((-6) : Int) ≤ x60.toInt := l60
                have u60 : x60.toInt ≤ ((-2) : Int) := u60
                have ok60 : wOK (zPhi P) h.length T60 h60 := ⟨k60, f60, Nat.le_trans lh60 ok.2.2⟩
                have hq_q := m60 _ _ hq_q
                have t50 := m60 _ _ t50
                have t57 := m60 _ _ t57
                show G (92, [(0, .inl (.ref 49)), (1, .inl (.int x)), (2, .inl (.int y)), (3, .inl (.int i)), (4, .inl (.int j)), (5, .inl (.int n))], [.inl (.int x60)], h60, 0, 0)
                refine zrn_ok HW 1 ?_
                exact zret_i rfl rfl (RET x60 T60 h60 (tExt_tr (tExt_rf T) m60) ok60)
    · show G (21, [(0, .inl (.ref 49)), (1, .inl (.int x)), (2, .inl (.int y)), (3, .inl (.int i)), (4, .inl (.int j)), (5, .inl (.int n))], [.inl (.int (0 : Int32))], h, 0, 0)
      have n2 : ¬ ((0 : Int) ≤ y.toInt ∧ y.toInt ≤ (7 : Int)) := by have r0 : (Int32.toInt64 y).toInt = y.toInt := q_i2l _; have r1 : (0 : Int64).toInt = 0 := rfl; have r2 : (7 : Int64).toInt = 7 := rfl; omega
      refine zrn_ok HW 3 (zB_iff.mpr (?_ : G (27, [(0, .inl (.ref 49)), (1, .inl (.int x)), (2, .inl (.int y)), (3, .inl (.int i)), (4, .inl (.int j)), (5, .inl (.int n))], [.inl (.int (-2 : Int32)), .inl (.ref 49)], h, 0, 0)))
      refine g_tV (e := te_X5_refuse_0) (E' := ze_X5_refuse) HW (tLow_of IH hd) rfl rfl (show te_X5_refuse_0 ∈ [te_X5_refuse_0] from List.mem_cons_self) (by decide +kernel) (Nat.le_of_ble_eq_true rfl) ⟨rfl, rfl⟩ (by decide) ok.1 ok.2.1 rfl hq_q rfl (Nat.le_of_ble_eq_true rfl) ⟨⟨_, rfl, hq_q⟩, okA_I (by decide) (by decide), trivial⟩ (fun v61 T61 h61 m61 k61 f61 lh61 r61 => ?_)
      obtain ⟨w61, rfl, hw61, cd61⟩ := r61
      obtain ⟨x61, rfl, l61, u61⟩ := tint_sp rfl hw61
      have l61 : ((-6) : Int) ≤ x61.toInt := l61
      have u61 : x61.toInt ≤ ((-2) : Int) := u61
      have ok61 : wOK (zPhi P) h.length T61 h61 := ⟨k61, f61, Nat.le_trans lh61 ok.2.2⟩
      have hq_q := m61 _ _ hq_q
      show G (30, [(0, .inl (.ref 49)), (1, .inl (.int x)), (2, .inl (.int y)), (3, .inl (.int i)), (4, .inl (.int j)), (5, .inl (.int n))], [.inl (.int x61)], h61, 0, 0)
      refine zrn_ok HW 1 ?_
      exact zret_i rfl rfl (RET x61 T61 h61 (tExt_tr (tExt_rf T) m61) ok61)
  · show G (9, [(0, .inl (.ref 49)), (1, .inl (.int x)), (2, .inl (.int y)), (3, .inl (.int i)), (4, .inl (.int j)), (5, .inl (.int n))], [.inl (.int (0 : Int32))], h, 0, 0)
    have n1 : ¬ ((0 : Int) ≤ x.toInt ∧ x.toInt ≤ (7 : Int)) := by have r0 : (Int32.toInt64 x).toInt = x.toInt := q_i2l _; have r1 : (0 : Int64).toInt = 0 := rfl; have r2 : (7 : Int64).toInt = 7 := rfl; omega
    refine zrn_ok HW 3 (zB_iff.mpr (?_ : G (27, [(0, .inl (.ref 49)), (1, .inl (.int x)), (2, .inl (.int y)), (3, .inl (.int i)), (4, .inl (.int j)), (5, .inl (.int n))], [.inl (.int (-2 : Int32)), .inl (.ref 49)], h, 0, 0)))
    refine g_tV (e := te_X5_refuse_0) (E' := ze_X5_refuse) HW (tLow_of IH hd) rfl rfl (show te_X5_refuse_0 ∈ [te_X5_refuse_0] from List.mem_cons_self) (by decide +kernel) (Nat.le_of_ble_eq_true rfl) ⟨rfl, rfl⟩ (by decide) ok.1 ok.2.1 rfl hq_q rfl (Nat.le_of_ble_eq_true rfl) ⟨⟨_, rfl, hq_q⟩, okA_I (by decide) (by decide), trivial⟩ (fun v62 T62 h62 m62 k62 f62 lh62 r62 => ?_)
    obtain ⟨w62, rfl, hw62, cd62⟩ := r62
    obtain ⟨x62, rfl, l62, u62⟩ := tint_sp rfl hw62
    have l62 : ((-6) : Int) ≤ x62.toInt := l62
    have u62 : x62.toInt ≤ ((-2) : Int) := u62
    have ok62 : wOK (zPhi P) h.length T62 h62 := ⟨k62, f62, Nat.le_trans lh62 ok.2.2⟩
    have hq_q := m62 _ _ hq_q
    show G (30, [(0, .inl (.ref 49)), (1, .inl (.int x)), (2, .inl (.int y)), (3, .inl (.int i)), (4, .inl (.int j)), (5, .inl (.int n))], [.inl (.int x62)], h62, 0, 0)
    refine zrn_ok HW 1 ?_
    exact zret_i rfl rfl (RET x62 T62 h62 (tExt_tr (tExt_rf T) m62) ok62)
