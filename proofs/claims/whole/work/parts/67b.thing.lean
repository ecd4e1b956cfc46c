theorem c_isWinner {scr : List zV} {d : Nat} {T : List Nat} {h : zH} {q : Nat} {Φ : List Nat → zH → Prop} {N : Nat} {s : Int32} {post : Option zV → zH → Bool} (ok : wOK Φ N T h) (hq_q : T[q]? = some 5) (k1 : 1 ≤ s.toInt → s.toInt ≤ hi h q 9 → post (some (.inl (.int 1))) h = true) (k0 : post (some (.inl (.int 0))) h = true) : zD zprog scr (d + 2) 20 [.inl (.ref q), .inl (.int s)] h post = true := by
  refine zD_intro (E := ze_X5_isWinner) rfl rfl (fun G HW => ?_)
  refine zrn_ok HW 4 (zB_iff.mpr (?_ : G (4, [(0, .inl (.ref q)), (1, .inl (.int s))], [.inl (.ref q), .inl (.long (1 : Int64)), .inl (.long (Int32.toInt64 s))], h, 0, 0)))
  obtain ⟨x1, g1, e1, l1, u1⟩ := hi_val (i := 9) ok.1 hq_q (by decide) rfl
  have l1 : (1 : Int) ≤ x1.toInt := l1
  have u1 : x1.toInt ≤ (60 : Int) := u1
  refine g_getf HW rfl ok.1 hq_q rfl g1 ?_
  refine zrn_ok HW 1 (zB_iff.mpr (?_ : G (8, [(0, .inl (.ref q)), (1, .inl (.int s))], [.inl (.long (Int32.toInt64 x1)), .inl (.long (1 : Int64)), .inl (.long (Int32.toInt64 s))], h, 0, 0)))
  refine g_callS (b := 0) (E' := ze_X5_in) HW (Or.inl rfl) rfl rfl (Nat.le_of_ble_eq_true rfl) (Nat.le_of_ble_eq_true rfl) (Nat.le_of_ble_eq_true rfl) (Nat.le_of_ble_eq_true rfl) (c_in (fun a2 b2 => zB_iff.mpr ?_) (fun n2 => zB_iff.mpr ?_))
  · show G (11, [(0, .inl (.ref q)), (1, .inl (.int s))], [.inl (.int (1 : Int32))], h, 0, 0)
    have a2 : (1 : Int) ≤ s.toInt := by have r0 : (Int32.toInt64 s).toInt = s.toInt := q_i2l _; have r1 : (1 : Int64).toInt = 1 := rfl; have r2 : (Int32.toInt64 x1).toInt = x1.toInt := q_i2l _; omega
    have b2 : s.toInt ≤ x1.toInt := by have r0 : (Int32.toInt64 s).toInt = s.toInt := q_i2l _; have r1 : (1 : Int64).toInt = 1 := rfl; have r2 : (Int32.toInt64 x1).toInt = x1.toInt := q_i2l _; omega
    refine zrn_ok HW 3 (zB_iff.mpr (?_ : G (16, [(0, .inl (.ref q)), (1, .inl (.int s))], [.inl (.ref q), .inl (.int s)], h, 0, 0)))
    obtain ⟨x3, g3, e3, l3, u3⟩ := hi_val (i := 10) ok.1 hq_q (by decide) rfl
    have l3 : (2 : Int) ≤ x3.toInt := l3
    have u3 : x3.toInt ≤ (10 : Int) := u3
    refine g_getf HW rfl ok.1 hq_q rfl g3 ?_
    have nz4 : (!((x3 : Int32) == 0)) = true := nz_i (by omega)
    refine zrn_ok HW 1 (t_and2 nz4 (zB_iff.mpr (?_ : G (20, [(0, .inl (.ref q)), (1, .inl (.int s))], [.inl (.int (s - s / x3 * x3))], h, 0, 0))))
    refine zrn_ok HW 1 (zbr_ex (cd := .ne) (x := (s - s / x3 * x3)) (y := (0 : Int32)) (fun hc5 => zB_iff.mpr ?_) (fun hc5 => zB_iff.mpr ?_))
    · -- pc 27
      have i5 : ¬ (s - s / x3 * x3).toInt = (0 : Int) := zop_int.mp hc5
      refine zrn_ok HW 2 ?_
      exact zret_z rfl rfl k0
    · -- pc 23
      have i5 : ¬ (¬ (s - s / x3 * x3).toInt = (0 : Int)) := fun e => hc5 (zop_int.mpr e)
      refine zrn_ok HW 3 ?_
      exact zret_z rfl rfl (k1 (by omega) (by omega))
  · show G (11, [(0, .inl (.ref q)), (1, .inl (.int s))], [.inl (.int (0 : Int32))], h, 0, 0)
    have n2 : ¬ ((1 : Int) ≤ s.toInt ∧ s.toInt ≤ x1.toInt) := by have r0 : (Int32.toInt64 s).toInt = s.toInt := q_i2l _; have r1 : (1 : Int64).toInt = 1 := rfl; have r2 : (Int32.toInt64 x1).toInt = x1.toInt := q_i2l _; omega
    refine zrn_ok HW 3 ?_
    exact zret_z rfl rfl k0
theorem c_isBuyer {scr : List zV} {d : Nat} {T : List Nat} {h : zH} {q : Nat} {Φ : List Nat → zH → Prop} {N : Nat} {s : Int32} {post : Option zV → zH → Bool} (ok : wOK Φ N T h) (hq_q : T[q]? = some 5) (kk : ∀ r : Int32, ((r = 1 ∧ 0 ≤ s.toInt ∧ s.toInt < hi h q 23) ∨ (r = 0 ∧ ¬ (0 ≤ s.toInt ∧ s.toInt < hi h q 23))) → post (some (.inl (.int r))) h = true) : zD zprog scr (d + 2) 14 [.inl (.ref q), .inl (.int s)] h post = true := by
  refine zD_intro (E := ze_X5_isBuyer) rfl rfl (fun G HW => ?_)
  refine zrn_ok HW 4 (zB_iff.mpr (?_ : G (4, [(0, .inl (.ref q)), (1, .inl (.int s))], [.inl (.ref q), .inl (.long (0 : Int64)), .inl (.long (Int32.toInt64 s))], h, 0, 0)))
  obtain ⟨x1, g1, e1, l1, u1⟩ := hi_val (i := 23) ok.1 hq_q (by decide) rfl
  have l1 : (0 : Int) ≤ x1.toInt := l1
  have u1 : x1.toInt ≤ (4 : Int) := u1
  refine g_getf HW rfl ok.1 hq_q rfl g1 ?_
  have y2 : -2147483648 ≤ x1.toInt - (1 : Int) → x1.toInt - (1 : Int) ≤ 2147483647 → (x1 - (1 : Int32)).toInt = x1.toInt - (1 : Int) := t_subC (x := x1) (y := (1 : Int32))
  refine zrn_ok HW 3 (zB_iff.mpr (?_ : G (10, [(0, .inl (.ref q)), (1, .inl (.int s))], [.inl (.long (Int32.toInt64 (x1 - (1 : Int32)))), .inl (.long (0 : Int64)), .inl (.long (Int32.toInt64 s))], h, 0, 0)))
  refine g_callS (b := 0) (E' := ze_X5_in) HW (Or.inl rfl) rfl rfl (Nat.le_of_ble_eq_true rfl) (Nat.le_of_ble_eq_true rfl) (Nat.le_of_ble_eq_true rfl) (Nat.le_of_ble_eq_true rfl) (c_in (fun a3 b3 => zB_iff.mpr ?_) (fun n3 => zB_iff.mpr ?_))
  · show G (13, [(0, .inl (.ref q)), (1, .inl (.int s))], [.inl (.int (1 : Int32))], h, 0, 0)
    have a3 : (0 : Int) ≤ s.toInt := by have r0 : (Int32.toInt64 s).toInt = s.toInt := q_i2l _; have r1 : (0 : Int64).toInt = 0 := rfl; have r2 : (Int32.toInt64 (x1 - (1 : Int32))).toInt = (x1 - (1 : Int32)).toInt := q_i2l _; omega
    have b3 : s.toInt ≤ (x1 - (1 : Int32)).toInt := by have r0 : (Int32.toInt64 s).toInt = s.toInt := q_i2l _; have r1 : (0 : Int64).toInt = 0 := rfl; have r2 : (Int32.toInt64 (x1 - (1 : Int32))).toInt = (x1 - (1 : Int32)).toInt := q_i2l _; omega
    refine zrn_ok HW 1 ?_
    exact zret_z rfl rfl (kk 1 (Or.inl ⟨rfl, by omega, by omega⟩))
  · show G (13, [(0, .inl (.ref q)), (1, .inl (.int s))], [.inl (.int (0 : Int32))], h, 0, 0)
    have n3 : ¬ ((0 : Int) ≤ s.toInt ∧ s.toInt ≤ (x1 - (1 : Int32)).toInt) := by have r0 : (Int32.toInt64 s).toInt = s.toInt := q_i2l _; have r1 : (0 : Int64).toInt = 0 := rfl; have r2 : (Int32.toInt64 (x1 - (1 : Int32))).toInt = (x1 - (1 : Int32)).toInt := q_i2l _; omega
    refine zrn_ok HW 1 ?_
    exact zret_z rfl rfl (kk 0 (Or.inr ⟨rfl, by omega⟩))
theorem tq_X5_thing_0 {scr : List zV} {P : pP} : tM zty (zPhi P) zprog scr zhts zsm 236 te_X5_thing_0 := by
  have hst := p_stab P
  refine t_hand2 (E := ze_X5_thing) (D0 := 2) rfl rfl (by decide +kernel) (fun d T h vs post G hd hok hΦ hlen hvs hp IH HW => ?_)
  obtain ⟨d, rfl⟩ : ∃ d', d = d' + 2 := ⟨d - 2, by omega⟩
  obtain ⟨v_q, vs, rfl, k_q, hvs⟩ := okAs_cons hvs
  obtain ⟨v_x, vs, rfl, k_x, hvs⟩ := okAs_cons hvs
  obtain ⟨v_y, vs, rfl, k_y, hvs⟩ := okAs_cons hvs
  obtain ⟨v_z, vs, rfl, k_z, hvs⟩ := okAs_cons hvs
  obtain rfl := okAs_nil hvs
  obtain ⟨q, rfl, hq_q⟩ := tref_sp rfl k_q
  have hq_q : T[q]? = some 5 := hq_q
  obtain ⟨x, rfl, bl_x, bu_x⟩ := tint_sp rfl k_x
  have bl_x : ((-2147483648) : Int) ≤ x.toInt := bl_x
  have bu_x : x.toInt ≤ (2147483647 : Int) := bu_x
  obtain ⟨y, rfl, bl_y, bu_y⟩ := tint_sp rfl k_y
  have bl_y : ((-2147483648) : Int) ≤ y.toInt := bl_y
  have bu_y : y.toInt ≤ (2147483647 : Int) := bu_y
  obtain ⟨z, rfl, bl_z, bu_z⟩ := tint_sp rfl k_z
  have bl_z : ((-2147483648) : Int) ≤ z.toInt := bl_z
  have bu_z : z.toInt ≤ (2147483647 : Int) := bu_z
  have ok : wOK (zPhi P) h.length T h := ⟨hok, hΦ, Nat.le_refl _⟩
  have RET : ∀ (y : Int32) (T' : List Nat) (h' : zH), tExt T T' → wOK (zPhi P) h.length T' h' → post (some (.inl (.int y))) h' = true := fun y T' h' m' ok' => hp _ T' h' m' ok'.1 ok'.2.1 (by have := ok'.2.2; omega) ⟨_, rfl, okA_If y, fun c hc => by cases hc⟩
  obtain rfl := hΦ.1.2.2.2.2.2 q hq_q
  refine zrn_ok HW 4 (zB_iff.mpr (?_ : G (6, [(0, .inl (.ref 49)), (1, .inl (.int x)), (2, .inl (.int y)), (3, .inl (.int z))], [.inl (.long (5 : Int64)), .inl (.long (0 : Int64)), .inl (.long (Int32.toInt64 x))], h, 0, 0)))
  refine g_callS (b := 0) (E' := ze_X5_in) HW (Or.inl rfl) rfl rfl (Nat.le_of_ble_eq_true rfl) (Nat.le_of_ble_eq_true rfl) (Nat.le_of_ble_eq_true rfl) (Nat.le_of_ble_eq_true rfl) (c_in (fun a1 b1 => zB_iff.mpr ?_) (fun n1 => zB_iff.mpr ?_))
  · show G (9, [(0, .inl (.ref 49)), (1, .inl (.int x)), (2, .inl (.int y)), (3, .inl (.int z))], [.inl (.int (1 : Int32))], h, 0, 0)
    have a1 : (0 : Int) ≤ x.toInt := by have r0 : (Int32.toInt64 x).toInt = x.toInt := q_i2l _; have r1 : (0 : Int64).toInt = 0 := rfl; have r2 : (5 : Int64).toInt = 5 := rfl; omega
    have b1 : x.toInt ≤ (5 : Int) := by have r0 : (Int32.toInt64 x).toInt = x.toInt := q_i2l _; have r1 : (0 : Int64).toInt = 0 := rfl; have r2 : (5 : Int64).toInt = 5 := rfl; omega
    refine zrn_ok HW 3 (zB_iff.mpr (?_ : G (14, [(0, .inl (.ref 49)), (1, .inl (.int x)), (2, .inl (.int y)), (3, .inl (.int z))], [.inl (.int y), .inl (.ref 49)], h, 0, 0)))
    refine g_callV (E' := ze_X5_isWinner) HW rfl rfl (Nat.le_of_ble_eq_true rfl) (Nat.le_of_ble_eq_true rfl) (Nat.le_of_ble_eq_true rfl) ok.1 rfl hq_q rfl (Nat.le_of_ble_eq_true rfl) (c_isWinner ok hq_q (fun a2 b2 => zB_iff.mpr ?_) (zB_iff.mpr ?_))
    · show G (17, [(0, .inl (.ref 49)), (1, .inl (.int x)), (2, .inl (.int y)), (3, .inl (.int z))], [.inl (.int (1 : Int32))], h, 0, 0)
      obtain ⟨sl2, -, eS2, -, uS2⟩ := hi_val (i := 9) ok.1 hq_q (by decide) rfl
      have uS2 : sl2.toInt ≤ (60 : Int) := uS2
      refine zrn_ok HW 5 (zB_iff.mpr (?_ : G (26, [(0, .inl (.ref 49)), (1, .inl (.int x)), (2, .inl (.int y)), (3, .inl (.int z))], [.inl (.long (9 : Int64)), .inl (.long (0 : Int64)), .inl (.long (Int32.toInt64 z))], h, 0, 0)))
      refine g_callS (b := 0) (E' := ze_X5_in) HW (Or.inl rfl) rfl rfl (Nat.le_of_ble_eq_true rfl) (Nat.le_of_ble_eq_true rfl) (Nat.le_of_ble_eq_true rfl) (Nat.le_of_ble_eq_true rfl) (c_in (fun a3 b3 => zB_iff.mpr ?_) (fun n3 => zB_iff.mpr ?_))
      · show G (29, [(0, .inl (.ref 49)), (1, .inl (.int x)), (2, .inl (.int y)), (3, .inl (.int z))], [.inl (.int (1 : Int32))], h, 0, 0)
        have a3 : (0 : Int) ≤ z.toInt := by have r0 : (Int32.toInt64 z).toInt = z.toInt := q_i2l _; have r1 : (0 : Int64).toInt = 0 := rfl; have r2 : (9 : Int64).toInt = 9 := rfl; omega
        have b3 : z.toInt ≤ (9 : Int) := by have r0 : (Int32.toInt64 z).toInt = z.toInt := q_i2l _; have r1 : (0 : Int64).toInt = 0 := rfl; have r2 : (9 : Int64).toInt = 9 := rfl; omega
        refine zrn_ok HW 2 (zB_iff.mpr (?_ : G (40, [(0, .inl (.ref 49)), (1, .inl (.int x)), (2, .inl (.int y)), (3, .inl (.int z))], [.inl (.ref 49)], h, 0, 0)))
        have o5 : hget h 49 16 = some (.inl (.ref 66)) := ((ok.2.1.2.1 49 5 hq_q (Or.inl rfl)).1.1 (16, 17, 31) (by decide +kernel)).1
        have t5 : T[66]? = some 31 := ((ok.2.1.2.1 49 5 hq_q (Or.inl rfl)).1.1 (16, 17, 31) (by decide +kernel)).2
        refine g_getf HW rfl ok.1 hq_q rfl o5 ?_
        refine zrn_ok HW 1 (zB_iff.mpr (?_ : G (44, [(0, .inl (.ref 49)), (1, .inl (.int x)), (2, .inl (.int y)), (3, .inl (.int z))], [.inl (.int y), .inl (.ref 66)], h, 0, 0)))
        obtain ⟨x6, g6, e6, l6, u6⟩ := hi_val (i := (y).toInt.toNat) ok.1 t5 (by show _ < 61; omega) rfl
        have l6 : (0 : Int) ≤ x6.toInt := l6
        have u6 : x6.toInt ≤ (1 : Int) := u6
        refine g_iald HW rfl ok.1 t5 rfl (by omega) g6 ?_
        refine zrn_ok HW 1 (zbr_ex (cd := .ne) (x := x6) (y := (0 : Int32)) (fun hc7 => zB_iff.mpr ?_) (fun hc7 => zB_iff.mpr ?_))
        · -- pc 57
          have i7 : ¬ x6.toInt = (0 : Int) := zop_int.mp hc7
          refine zrn_ok HW 2 (zB_iff.mpr (?_ : G (60, [(0, .inl (.ref 49)), (1, .inl (.int x)), (2, .inl (.int y)), (3, .inl (.int z))], [.inl (.int (-5 : Int32)), .inl (.ref 49)], h, 0, 0)))
          refine g_tV (e := te_X5_refuse_0) (E' := ze_X5_refuse) HW (tLow_of IH hd) rfl rfl (show te_X5_refuse_0 ∈ [te_X5_refuse_0] from List.mem_cons_self) (by decide +kernel) (Nat.le_of_ble_eq_true rfl) ⟨rfl, rfl⟩ (by decide) ok.1 ok.2.1 rfl hq_q rfl (Nat.le_of_ble_eq_true rfl) ⟨⟨_, rfl, hq_q⟩, okA_I (by decide) (by decide), trivial⟩ (fun v8 T8 h8 m8 k8 f8 lh8 r8 => ?_)
          obtain ⟨w8, rfl, hw8, cd8⟩ := r8
          obtain ⟨x8, rfl, l8, u8⟩ := tint_sp rfl hw8
          have l8 : ((-6) : Int) ≤ x8.toInt := l8
          have u8 : x8.toInt ≤ ((-2) : Int) := u8
          have ok8 : wOK (zPhi P) h.length T8 h8 := ⟨k8, f8, Nat.le_trans lh8 ok.2.2⟩
          have hq_q := m8 _ _ hq_q
          have t5 := m8 _ _ t5
          show G (63, [(0, .inl (.ref 49)), (1, .inl (.int x)), (2, .inl (.int y)), (3, .inl (.int z))], [.inl (.int x8)], h8, 0, 0)
          refine zrn_ok HW 1 ?_
          exact zret_i rfl rfl (RET x8 T8 h8 (tExt_tr (tExt_rf T) m8) ok8)
        · -- pc 48
          have i7 : ¬ (¬ x6.toInt = (0 : Int)) := fun e => hc7 (zop_int.mpr e)
          refine zrn_ok HW 2 (zB_iff.mpr (?_ : G (50, [(0, .inl (.ref 49)), (1, .inl (.int x)), (2, .inl (.int y)), (3, .inl (.int z))], [.inl (.int y), .inl (.ref 49)], h, 0, 0)))
          refine g_callV (E' := ze_X5_thingOn) HW rfl rfl (Nat.le_of_ble_eq_true rfl) (Nat.le_of_ble_eq_true rfl) (Nat.le_of_ble_eq_true rfl) ok.1 rfl hq_q rfl (Nat.le_of_ble_eq_true rfl) (c_thingOn5 ok.1 hq_q (ok.2.1.2.1 49 5 hq_q (Or.inl rfl)).1 (fun t9 ta9 tb9 tc9 => zB_iff.mpr ?_) (fun tn9 => zB_iff.mpr ?_))
          · show G (53, [(0, .inl (.ref 49)), (1, .inl (.int x)), (2, .inl (.int y)), (3, .inl (.int z))], [.inl (.int (Int32.ofNat t9))], h, 0, 0)
            obtain ⟨nT9, -, eT9, -, uT9⟩ := hi_val (i := 17) ok.1 hq_q (by decide) rfl
            have uT9 : nT9.toInt ≤ (8 : Int) := uT9
            have ej9 := nI_int (k := t9) (by omega)
            refine zrn_ok HW 2 (zbr_ex (cd := .eq) (x := (Int32.ofNat t9)) (y := (-1 : Int32)) (fun hc10 => zB_iff.mpr ?_) (fun hc10 => zB_iff.mpr ?_))
            · -- pc 64
              have i10 : (Int32.ofNat t9).toInt = (-1 : Int) := zop_int.mp hc10
              refine zrn_ok HW 1 (zB_iff.mpr (?_ : G (65, [(0, .inl (.ref 49)), (1, .inl (.int x)), (2, .inl (.int y)), (3, .inl (.int z))], [.inl (.ref 49)], h, 0, 0)))
              obtain ⟨x11, g11, e11, l11, u11⟩ := hi_val (i := 17) ok.1 hq_q (by decide) rfl
              have l11 : (0 : Int) ≤ x11.toInt := l11
              have u11 : x11.toInt ≤ (8 : Int) := u11
              refine g_getf HW rfl ok.1 hq_q rfl g11 ?_
              refine zrn_ok HW 2 (zbr_ex (cd := .ne) (x := x11) (y := (8 : Int32)) (fun hc12 => zB_iff.mpr ?_) (fun hc12 => zB_iff.mpr ?_))
              · -- pc 80
                have i12 : ¬ x11.toInt = (8 : Int) := zop_int.mp hc12
                refine zrn_ok HW 4 (zB_iff.mpr (?_ : G (84, [(0, .inl (.ref 49)), (1, .inl (.int x)), (2, .inl (.int y)), (3, .inl (.int z))], [.inl (.int z), .inl (.int y), .inl (.int x), .inl (.ref 49)], h, 0, 0)))
                exfalso
                omega
              · -- pc 73
                have i12 : ¬ (¬ x11.toInt = (8 : Int)) := fun e => hc12 (zop_int.mpr e)
                refine zrn_ok HW 2 (zB_iff.mpr (?_ : G (76, [(0, .inl (.ref 49)), (1, .inl (.int x)), (2, .inl (.int y)), (3, .inl (.int z))], [.inl (.int (-6 : Int32)), .inl (.ref 49)], h, 0, 0)))
                refine g_tV (e := te_X5_refuse_0) (E' := ze_X5_refuse) HW (tLow_of IH hd) rfl rfl (show te_X5_refuse_0 ∈ [te_X5_refuse_0] from List.mem_cons_self) (by decide +kernel) (Nat.le_of_ble_eq_true rfl) ⟨rfl, rfl⟩ (by decide) ok.1 ok.2.1 rfl hq_q rfl (Nat.le_of_ble_eq_true rfl) ⟨⟨_, rfl, hq_q⟩, okA_I (by decide) (by decide), trivial⟩ (fun v14 T14 h14 m14 k14 f14 lh14 r14 => ?_)
                obtain ⟨w14, rfl, hw14, cd14⟩ := r14
                obtain ⟨x14, rfl, l14, u14⟩ := tint_sp rfl hw14
                have l14 : ((-6) : Int) ≤ x14.toInt := l14
                have u14 : x14.toInt ≤ ((-2) : Int) := u14
                have ok14 : wOK (zPhi P) h.length T14 h14 := ⟨k14, f14, Nat.le_trans lh14 ok.2.2⟩
                have hq_q := m14 _ _ hq_q
                have t5 := m14 _ _ t5
                show G (79, [(0, .inl (.ref 49)), (1, .inl (.int x)), (2, .inl (.int y)), (3, .inl (.int z))], [.inl (.int x14)], h14, 0, 0)
                refine zrn_ok HW 1 ?_
                exact zret_i rfl rfl (RET x14 T14 h14 (tExt_tr (tExt_rf T) m14) ok14)
            · -- pc 57
              have i10 : ¬ ((Int32.ofNat t9).toInt = (-1 : Int)) := fun e => hc10 (zop_int.mpr e)
              refine zrn_ok HW 2 (zB_iff.mpr (?_ : G (60, [(0, .inl (.ref 49)), (1, .inl (.int x)), (2, .inl (.int y)), (3, .inl (.int z))], [.inl (.int (-5 : Int32)), .inl (.ref 49)], h, 0, 0)))
              refine g_tV (e := te_X5_refuse_0) (E' := ze_X5_refuse) HW (tLow_of IH hd) rfl rfl (show te_X5_refuse_0 ∈ [te_X5_refuse_0] from List.mem_cons_self) (by decide +kernel) (Nat.le_of_ble_eq_true rfl) ⟨rfl, rfl⟩ (by decide) ok.1 ok.2.1 rfl hq_q rfl (Nat.le_of_ble_eq_true rfl) ⟨⟨_, rfl, hq_q⟩, okA_I (by decide) (by decide), trivial⟩ (fun v15 T15 h15 m15 k15 f15 lh15 r15 => ?_)
              obtain ⟨w15, rfl, hw15, cd15⟩ := r15
              obtain ⟨x15, rfl, l15, u15⟩ := tint_sp rfl hw15
              have l15 : ((-6) : Int) ≤ x15.toInt := l15
              have u15 : x15.toInt ≤ ((-2) : Int) := u15
              have ok15 : wOK (zPhi P) h.length T15 h15 := ⟨k15, f15, Nat.le_trans lh15 ok.2.2⟩
              have hq_q := m15 _ _ hq_q
              have t5 := m15 _ _ t5
              show G (63, [(0, .inl (.ref 49)), (1, .inl (.int x)), (2, .inl (.int y)), (3, .inl (.int z))], [.inl (.int x15)], h15, 0, 0)
              refine zrn_ok HW 1 ?_
              exact zret_i rfl rfl (RET x15 T15 h15 (tExt_tr (tExt_rf T) m15) ok15)
          · show G (53, [(0, .inl (.ref 49)), (1, .inl (.int x)), (2, .inl (.int y)), (3, .inl (.int z))], [.inl (.int (-1 : Int32))], h, 0, 0)
            refine zrn_ok HW 3 (zB_iff.mpr (?_ : G (65, [(0, .inl (.ref 49)), (1, .inl (.int x)), (2, .inl (.int y)), (3, .inl (.int z))], [.inl (.ref 49)], h, 0, 0)))
            obtain ⟨x16, g16, e16, l16, u16⟩ := hi_val (i := 17) ok.1 hq_q (by decide) rfl
            have l16 : (0 : Int) ≤ x16.toInt := l16
            have u16 : x16.toInt ≤ (8 : Int) := u16
            refine g_getf HW rfl ok.1 hq_q rfl g16 ?_
            refine zrn_ok HW 2 (zbr_ex (cd := .ne) (x := x16) (y := (8 : Int32)) (fun hc17 => zB_iff.mpr ?_) (fun hc17 => zB_iff.mpr ?_))
            · -- pc 80
              have i17 : ¬ x16.toInt = (8 : Int) := zop_int.mp hc17
              refine zrn_ok HW 4 (zB_iff.mpr (?_ : G (84, [(0, .inl (.ref 49)), (1, .inl (.int x)), (2, .inl (.int y)), (3, .inl (.int z))], [.inl (.int z), .inl (.int y), .inl (.int x), .inl (.ref 49)], h, 0, 0)))
              refine g_callV (E' := ze_X5_addThing) HW rfl rfl (Nat.le_of_ble_eq_true rfl) (Nat.le_of_ble_eq_true rfl) (Nat.le_of_ble_eq_true rfl) ok.1 rfl hq_q rfl (Nat.le_of_ble_eq_true rfl) (c_addThing ok ⟨by omega, by omega⟩ ⟨by omega, by omega⟩ ⟨by omega, by omega⟩ (by omega) (by omega) tn9 (fun h18 ok18 => zB_iff.mpr ?_))
              show G (87, [(0, .inl (.ref 49)), (1, .inl (.int x)), (2, .inl (.int y)), (3, .inl (.int z))], [], h18, 0, 0)
              refine zrn_ok HW 1 (zB_iff.mpr (?_ : G (88, [(0, .inl (.ref 49)), (1, .inl (.int x)), (2, .inl (.int y)), (3, .inl (.int z))], [.inl (.ref 49)], h18, 0, 0)))
              obtain ⟨x19, g19, e19, l19, u19⟩ := hi_val (i := 17) ok18.1 hq_q (by decide) rfl
              have l19 : (0 : Int) ≤ x19.toInt := l19
              have u19 : x19.toInt ≤ (8 : Int) := u19
              refine g_getf HW rfl ok18.1 hq_q rfl g19 ?_
              have y20 : -2147483648 ≤ x19.toInt - (1 : Int) → x19.toInt - (1 : Int) ≤ 2147483647 → (x19 - (1 : Int32)).toInt = x19.toInt - (1 : Int) := t_subC (x := x19) (y := (1 : Int32))
              refine zrn_ok HW 3 ?_
              exact zret_i rfl rfl (RET (x19 - (1 : Int32)) T h18 (tExt_rf T) ok18)
            · -- pc 73
              have i17 : ¬ (¬ x16.toInt = (8 : Int)) := fun e => hc17 (zop_int.mpr e)
              refine zrn_ok HW 2 (zB_iff.mpr (?_ : G (76, [(0, .inl (.ref 49)), (1, .inl (.int x)), (2, .inl (.int y)), (3, .inl (.int z))], [.inl (.int (-6 : Int32)), .inl (.ref 49)], h, 0, 0)))
              refine g_tV (e := te_X5_refuse_0) (E' := ze_X5_refuse) HW (tLow_of IH hd) rfl rfl (show te_X5_refuse_0 ∈ [te_X5_refuse_0] from List.mem_cons_self) (by decide +kernel) (Nat.le_of_ble_eq_true rfl) ⟨rfl, rfl⟩ (by decide) ok.1 ok.2.1 rfl hq_q rfl (Nat.le_of_ble_eq_true rfl) ⟨⟨_, rfl, hq_q⟩, okA_I (by decide) (by decide), trivial⟩ (fun v21 T21 h21 m21 k21 f21 lh21 r21 => ?_)
              obtain ⟨w21, rfl, hw21, cd21⟩ := r21
              obtain ⟨x21, rfl, l21, u21⟩ := tint_sp rfl hw21
              have l21 : ((-6) : Int) ≤ x21.toInt := l21
              have u21 : x21.toInt ≤ ((-2) : Int) := u21
              have ok21 : wOK (zPhi P) h.length T21 h21 := ⟨k21, f21, Nat.le_trans lh21 ok.2.2⟩
              have hq_q := m21 _ _ hq_q
              have t5 := m21 _ _ t5
              show G (79, [(0, .inl (.ref 49)), (1, .inl (.int x)), (2, .inl (.int y)), (3, .inl (.int z))], [.inl (.int x21)], h21, 0, 0)
              refine zrn_ok HW 1 ?_
              exact zret_i rfl rfl (RET x21 T21 h21 (tExt_tr (tExt_rf T) m21) ok21)
      · show G (29, [(0, .inl (.ref 49)), (1, .inl (.int x)), (2, .inl (.int y)), (3, .inl (.int z))], [.inl (.int (0 : Int32))], h, 0, 0)
        have n3 : ¬ ((0 : Int) ≤ z.toInt ∧ z.toInt ≤ (9 : Int)) := by have r0 : (Int32.toInt64 z).toInt = z.toInt := q_i2l _; have r1 : (0 : Int64).toInt = 0 := rfl; have r2 : (9 : Int64).toInt = 9 := rfl; omega
        refine zrn_ok HW 3 (zB_iff.mpr (?_ : G (35, [(0, .inl (.ref 49)), (1, .inl (.int x)), (2, .inl (.int y)), (3, .inl (.int z))], [.inl (.int (-2 : Int32)), .inl (.ref 49)], h, 0, 0)))
        refine g_tV (e := te_X5_refuse_0) (E' := ze_X5_refuse) HW (tLow_of IH hd) rfl rfl (show te_X5_refuse_0 ∈ [te_X5_refuse_0] from List.mem_cons_self) (by decide +kernel) (Nat.le_of_ble_eq_true rfl) ⟨rfl, rfl⟩ (by decide) ok.1 ok.2.1 rfl hq_q rfl (Nat.le_of_ble_eq_true rfl) ⟨⟨_, rfl, hq_q⟩, okA_I (by decide) (by decide), trivial⟩ (fun v22 T22 h22 m22 k22 f22 lh22 r22 => ?_)
        obtain ⟨w22, rfl, hw22, cd22⟩ := r22
        obtain ⟨x22, rfl, l22, u22⟩ := tint_sp rfl hw22
        have l22 : ((-6) : Int) ≤ x22.toInt := l22
        have u22 : x22.toInt ≤ ((-2) : Int) := u22
        have ok22 : wOK (zPhi P) h.length T22 h22 := ⟨k22, f22, Nat.le_trans lh22 ok.2.2⟩
        have hq_q := m22 _ _ hq_q
        show G (38, [(0, .inl (.ref 49)), (1, .inl (.int x)), (2, .inl (.int y)), (3, .inl (.int z))], [.inl (.int x22)], h22, 0, 0)
        refine zrn_ok HW 1 ?_
        exact zret_i rfl rfl (RET x22 T22 h22 (tExt_tr (tExt_rf T) m22) ok22)
    · show G (17, [(0, .inl (.ref 49)), (1, .inl (.int x)), (2, .inl (.int y)), (3, .inl (.int z))], [.inl (.int (0 : Int32))], h, 0, 0)
      refine zrn_ok HW 3 (zB_iff.mpr (?_ : G (35, [(0, .inl (.ref 49)), (1, .inl (.int x)), (2, .inl (.int y)), (3, .inl (.int z))], [.inl (.int (-2 : Int32)), .inl (.ref 49)], h, 0, 0)))
      refine g_tV (e := te_X5_refuse_0) (E' := ze_X5_refuse) HW (tLow_of IH hd) rfl rfl (show te_X5_refuse_0 ∈ [te_X5_refuse_0] from List.mem_cons_self) (by decide +kernel) (Nat.le_of_ble_eq_true rfl) ⟨rfl, rfl⟩ (by decide) ok.1 ok.2.1 rfl hq_q rfl (Nat.le_of_ble_eq_true rfl) ⟨⟨_, rfl, hq_q⟩, okA_I (by decide) (by decide), trivial⟩ (fun v23 T23 h23 m23 k23 f23 lh23 r23 => ?_)
      obtain ⟨w23, rfl, hw23, cd23⟩ := r23
      obtain ⟨x23, rfl, l23, u23⟩ := tint_sp rfl hw23
      have l23 : ((-6) : Int) ≤ x23.toInt := l23
      have u23 : x23.toInt ≤ ((-2) : Int) := u23
      have ok23 : wOK (zPhi P) h.length T23 h23 := ⟨k23, f23, Nat.le_trans lh23 ok.2.2⟩
      have hq_q := m23 _ _ hq_q
      show G (38, [(0, .inl (.ref 49)), (1, .inl (.int x)), (2, .inl (.int y)), (3, .inl (.int z))], [.inl (.int x23)], h23, 0, 0)
      refine zrn_ok HW 1 ?_
      exact zret_i rfl rfl (RET x23 T23 h23 (tExt_tr (tExt_rf T) m23) ok23)
  · show G (9, [(0, .inl (.ref 49)), (1, .inl (.int x)), (2, .inl (.int y)), (3, .inl (.int z))], [.inl (.int (0 : Int32))], h, 0, 0)
    have n1 : ¬ ((0 : Int) ≤ x.toInt ∧ x.toInt ≤ (5 : Int)) := by have r0 : (Int32.toInt64 x).toInt = x.toInt := q_i2l _; have r1 : (0 : Int64).toInt = 0 := rfl; have r2 : (5 : Int64).toInt = 5 := rfl; omega
    refine zrn_ok HW 3 (zB_iff.mpr (?_ : G (35, [(0, .inl (.ref 49)), (1, .inl (.int x)), (2, .inl (.int y)), (3, .inl (.int z))], [.inl (.int (-2 : Int32)), .inl (.ref 49)], h, 0, 0)))
    refine g_tV (e := te_X5_refuse_0) (E' := ze_X5_refuse) HW (tLow_of IH hd) rfl rfl (show te_X5_refuse_0 ∈ [te_X5_refuse_0] from List.mem_cons_self) (by decide +kernel) (Nat.le_of_ble_eq_true rfl) ⟨rfl, rfl⟩ (by decide) ok.1 ok.2.1 rfl hq_q rfl (Nat.le_of_ble_eq_true rfl) ⟨⟨_, rfl, hq_q⟩, okA_I (by decide) (by decide), trivial⟩ (fun v24 T24 h24 m24 k24 f24 lh24 r24 => ?_)
    obtain ⟨w24, rfl, hw24, cd24⟩ := r24
    obtain ⟨x24, rfl, l24, u24⟩ := tint_sp rfl hw24
    have l24 : ((-6) : Int) ≤ x24.toInt := l24
    have u24 : x24.toInt ≤ ((-2) : Int) := u24
    have ok24 : wOK (zPhi P) h.length T24 h24 := ⟨k24, f24, Nat.le_trans lh24 ok.2.2⟩
    have hq_q := m24 _ _ hq_q
    show G (38, [(0, .inl (.ref 49)), (1, .inl (.int x)), (2, .inl (.int y)), (3, .inl (.int z))], [.inl (.int x24)], h24, 0, 0)
    refine zrn_ok HW 1 ?_
    exact zret_i rfl rfl (RET x24 T24 h24 (tExt_tr (tExt_rf T) m24) ok24)
theorem tq_X5_thingOf_0 {scr : List zV} {P : pP} : tM zty (zPhi P) zprog scr zhts zsm 237 te_X5_thingOf_0 := by
  have hst := p_stab P
  refine t_hand2 (E := ze_X5_thingOf) (D0 := 2) rfl rfl (by decide +kernel) (fun d T h vs post G hd hok hΦ hlen hvs hp IH HW => ?_)
  obtain ⟨d, rfl⟩ : ∃ d', d = d' + 1 := ⟨d - 1, by omega⟩
  obtain ⟨v_q, vs, rfl, k_q, hvs⟩ := okAs_cons hvs
  obtain ⟨v_x, vs, rfl, k_x, hvs⟩ := okAs_cons hvs
  obtain ⟨v_y, vs, rfl, k_y, hvs⟩ := okAs_cons hvs
  obtain rfl := okAs_nil hvs
  obtain ⟨q, rfl, hq_q⟩ := tref_sp rfl k_q
  have hq_q : T[q]? = some 5 := hq_q
  obtain ⟨x, rfl, bl_x, bu_x⟩ := tint_sp rfl k_x
  have bl_x : ((-2147483648) : Int) ≤ x.toInt := bl_x
  have bu_x : x.toInt ≤ (2147483647 : Int) := bu_x
  obtain ⟨y, rfl, bl_y, bu_y⟩ := tint_sp rfl k_y
  have bl_y : ((-2147483648) : Int) ≤ y.toInt := bl_y
  have bu_y : y.toInt ≤ (2147483647 : Int) := bu_y
  have ok : wOK (zPhi P) h.length T h := ⟨hok, hΦ, Nat.le_refl _⟩
  have RET : ∀ (y : Int32) (T' : List Nat) (h' : zH), tExt T T' → wOK (zPhi P) h.length T' h' → post (some (.inl (.int y))) h' = true := fun y T' h' m' ok' => hp _ T' h' m' ok'.1 ok'.2.1 (by have := ok'.2.2; omega) ⟨_, rfl, okA_If y, fun c hc => by cases hc⟩
  obtain rfl := hΦ.1.2.2.2.2.2 q hq_q
  refine zrn_ok HW 2 (zB_iff.mpr (?_ : G (2, [(0, .inl (.ref 49)), (1, .inl (.int x)), (2, .inl (.int y))], [.inl (.int x), .inl (.ref 49)], h, 0, 0)))
  refine g_tV (e := te_X5_isThing_0) (E' := ze_X5_isThing) HW (tLow_of IH hd) rfl rfl (show te_X5_isThing_0 ∈ [te_X5_isThing_0, te_X5_isThing_1] from by simp) (by decide +kernel) (Nat.le_of_ble_eq_true rfl) ⟨rfl, rfl⟩ (by decide) ok.1 ok.2.1 rfl hq_q rfl (Nat.le_of_ble_eq_true rfl) ⟨⟨_, rfl, hq_q⟩, okA_If _, trivial⟩ (fun v1 T1 h1 m1 k1 f1 lh1 r1 => ?_)
  obtain ⟨w1, rfl, hw1, cd1⟩ := r1
  obtain ⟨x1, rfl, l1, u1⟩ := tint_sp rfl hw1
  have l1 : (0 : Int) ≤ x1.toInt := l1
  have u1 : x1.toInt ≤ (1 : Int) := u1
  have cd1_0 : ¬ x1.toInt = 0 → 0 ≤ x.toInt ∧ x.toInt ≤ 7 := fun hne => by obtain ⟨a, ha, hb, hc⟩ := cd1 (1, 0, 7) (by simp) (fun he => hne (by cases he; rfl)); cases ha; exact ⟨hb, hc⟩
  have ok1 : wOK (zPhi P) h.length T1 h1 := ⟨k1, f1, Nat.le_trans lh1 ok.2.2⟩
  have hq_q := m1 _ _ hq_q
  show G (5, [(0, .inl (.ref 49)), (1, .inl (.int x)), (2, .inl (.int y))], [.inl (.int x1)], h1, 0, 0)
  refine zrn_ok HW 1 (zbr_ex (cd := .ne) (x := x1) (y := (0 : Int32)) (fun hc2 => zB_iff.mpr ?_) (fun hc2 => zB_iff.mpr ?_))
  · -- pc 15
    have i2 : ¬ x1.toInt = (0 : Int) := zop_int.mp hc2
    have y3 : -2147483648 ≤ y.toInt - (10 : Int) → y.toInt - (10 : Int) ≤ 2147483647 → (y - (10 : Int32)).toInt = y.toInt - (10 : Int) := t_subC (x := y) (y := (10 : Int32))
    refine zrn_ok HW 4 (zB_iff.mpr (?_ : G (20, [(0, .inl (.ref 49)), (1, .inl (.int x)), (2, .inl (.int y))], [.inl (.int (y - (10 : Int32))), .inl (.ref 49)], h1, 0, 0)))
    refine g_tV (e := te_X5_isBuyer_0) (E' := ze_X5_isBuyer) HW (tLow_of IH hd) rfl rfl (show te_X5_isBuyer_0 ∈ [te_X5_isBuyer_0, te_X5_isBuyer_1] from by simp) (by decide +kernel) (Nat.le_of_ble_eq_true rfl) ⟨rfl, rfl⟩ (by decide) ok1.1 ok1.2.1 rfl hq_q rfl (Nat.le_of_ble_eq_true rfl) ⟨⟨_, rfl, hq_q⟩, okA_If _, trivial⟩ (fun v4 T4 h4 m4 k4 f4 lh4 r4 => ?_)
    obtain ⟨w4, rfl, hw4, cd4⟩ := r4
    obtain ⟨x4, rfl, l4, u4⟩ := tint_sp rfl hw4
    have l4 : (0 : Int) ≤ x4.toInt := l4
    have u4 : x4.toInt ≤ (1 : Int) := u4
    have cd4_0 : ¬ x4.toInt = 0 → 0 ≤ (y - (10 : Int32)).toInt ∧ (y - (10 : Int32)).toInt ≤ 3 := fun hne => by obtain ⟨a, ha, hb, hc⟩ := cd4 (1, 0, 3) (by simp) (fun he => hne (by cases he; rfl)); cases ha; exact ⟨hb, hc⟩
    have ok4 : wOK (zPhi P) h.length T4 h4 := ⟨k4, f4, Nat.le_trans lh4 ok1.2.2⟩
    have hq_q := m4 _ _ hq_q
    show G (23, [(0, .inl (.ref 49)), (1, .inl (.int x)), (2, .inl (.int y))], [.inl (.int x4)], h4, 0, 0)
    refine zrn_ok HW 1 (zbr_ex (cd := .eq) (x := x4) (y := (0 : Int32)) (fun hc5 => zB_iff.mpr ?_) (fun hc5 => zB_iff.mpr ?_))
    · -- pc 38
      have i5 : x4.toInt = (0 : Int) := zop_int.mp hc5
      refine zrn_ok HW 1 (zB_iff.mpr (?_ : G (39, [(0, .inl (.ref 49)), (1, .inl (.int x)), (2, .inl (.int y))], [.inl (.int y)], h4, 0, 0)))
      refine g_tsw HW (d := 68) (lo := 0) (hi := 4) (offs := #[33, 40, 47, 54, 61]) rfl (x := y) rfl (fun hs6 => zB_iff.mpr ?_) (And.intro (fun hs6 => zB_iff.mpr ?_) (And.intro (fun hs6 => zB_iff.mpr ?_) (And.intro (fun hs6 => zB_iff.mpr ?_) (And.intro (fun hs6 => zB_iff.mpr ?_) (And.intro (fun hs6 => zB_iff.mpr ?_) trivial)))))
      · show G (107, [(0, .inl (.ref 49)), (1, .inl (.int x)), (2, .inl (.int y))], [], h4, 0, 0)
        have hs6 : y.toInt < 0 ∨ 4 < y.toInt := hs6
        refine zrn_ok HW 2 (zB_iff.mpr (?_ : G (110, [(0, .inl (.ref 49)), (1, .inl (.int x)), (2, .inl (.int y))], [.inl (.int (-2 : Int32)), .inl (.ref 49)], h4, 0, 0)))
        refine g_tV (e := te_X5_refuse_0) (E' := ze_X5_refuse) HW (tLow_of IH hd) rfl rfl (show te_X5_refuse_0 ∈ [te_X5_refuse_0] from List.mem_cons_self) (by decide +kernel) (Nat.le_of_ble_eq_true rfl) ⟨rfl, rfl⟩ (by decide) ok4.1 ok4.2.1 rfl hq_q rfl (Nat.le_of_ble_eq_true rfl) ⟨⟨_, rfl, hq_q⟩, okA_I (by decide) (by decide), trivial⟩ (fun v7 T7 h7 m7 k7 f7 lh7 r7 => ?_)
        obtain ⟨w7, rfl, hw7, cd7⟩ := r7
        obtain ⟨x7, rfl, l7, u7⟩ := tint_sp rfl hw7
        have l7 : ((-6) : Int) ≤ x7.toInt := l7
        have u7 : x7.toInt ≤ ((-2) : Int) := u7
        have ok7 : wOK (zPhi P) h.length T7 h7 := ⟨k7, f7, Nat.le_trans lh7 ok4.2.2⟩
        have hq_q := m7 _ _ hq_q
        show G (113, [(0, .inl (.ref 49)), (1, .inl (.int x)), (2, .inl (.int y))], [.inl (.int x7)], h7, 0, 0)
        refine zrn_ok HW 1 ?_
        exact zret_i rfl rfl (RET x7 T7 h7 (tExt_tr (tExt_tr (tExt_tr (tExt_rf T) m1) m4) m7) ok7)
      · show G (72, [(0, .inl (.ref 49)), (1, .inl (.int x)), (2, .inl (.int y))], [], h4, 0, 0)
        have hs6 : y.toInt = 0 := hs6
        refine zrn_ok HW 1 (zB_iff.mpr (?_ : G (73, [(0, .inl (.ref 49)), (1, .inl (.int x)), (2, .inl (.int y))], [.inl (.ref 49)], h4, 0, 0)))
        have o9 : hget h4 49 18 = some (.inl (.ref 67)) := ((ok4.2.1.2.1 49 5 hq_q (Or.inl rfl)).1.1 (18, 18, 32) (by decide +kernel)).1
        have t9 : T4[67]? = some 32 := ((ok4.2.1.2.1 49 5 hq_q (Or.inl rfl)).1.1 (18, 18, 32) (by decide +kernel)).2
        refine g_getf HW rfl ok4.1 hq_q rfl o9 ?_
        refine zrn_ok HW 1 (zB_iff.mpr (?_ : G (77, [(0, .inl (.ref 49)), (1, .inl (.int x)), (2, .inl (.int y))], [.inl (.int x), .inl (.ref 67)], h4, 0, 0)))
        obtain ⟨x10, g10, e10, l10, u10⟩ := hi_val (i := (x).toInt.toNat) ok4.1 t9 (by show _ < 8; omega) rfl
        have l10 : (0 : Int) ≤ x10.toInt := l10
        have u10 : x10.toInt ≤ (5 : Int) := u10
        refine g_iald HW rfl ok4.1 t9 rfl (by omega) g10 ?_
        refine zrn_ok HW 1 ?_
        exact zret_i rfl rfl (RET x10 T4 h4 (tExt_tr (tExt_tr (tExt_rf T) m1) m4) ok4)
      · show G (79, [(0, .inl (.ref 49)), (1, .inl (.int x)), (2, .inl (.int y))], [], h4, 0, 0)
        have hs6 : y.toInt = 1 := hs6
        refine zrn_ok HW 1 (zB_iff.mpr (?_ : G (80, [(0, .inl (.ref 49)), (1, .inl (.int x)), (2, .inl (.int y))], [.inl (.ref 49)], h4, 0, 0)))
        have o12 : hget h4 49 19 = some (.inl (.ref 68)) := ((ok4.2.1.2.1 49 5 hq_q (Or.inl rfl)).1.1 (19, 19, 33) (by decide +kernel)).1
        have t12 : T4[68]? = some 33 := ((ok4.2.1.2.1 49 5 hq_q (Or.inl rfl)).1.1 (19, 19, 33) (by decide +kernel)).2
        refine g_getf HW rfl ok4.1 hq_q rfl o12 ?_
        refine zrn_ok HW 1 (zB_iff.mpr (?_ : G (84, [(0, .inl (.ref 49)), (1, .inl (.int x)), (2, .inl (.int y))], [.inl (.int x), .inl (.ref 68)], h4, 0, 0)))
        obtain ⟨x13, g13, e13, l13, u13⟩ := hi_val (i := (x).toInt.toNat) ok4.1 t12 (by show _ < 8; omega) rfl
        have l13 : (0 : Int) ≤ x13.toInt := l13
        have u13 : x13.toInt ≤ (60 : Int) := u13
        refine g_iald HW rfl ok4.1 t12 rfl (by omega) g13 ?_
        refine zrn_ok HW 1 ?_
        exact zret_i rfl rfl (RET x13 T4 h4 (tExt_tr (tExt_tr (tExt_rf T) m1) m4) ok4)
      · show G (86, [(0, .inl (.ref 49)), (1, .inl (.int x)), (2, .inl (.int y))], [], h4, 0, 0)
        have hs6 : y.toInt = 2 := hs6
        refine zrn_ok HW 1 (zB_iff.mpr (?_ : G (87, [(0, .inl (.ref 49)), (1, .inl (.int x)), (2, .inl (.int y))], [.inl (.ref 49)], h4, 0, 0)))
        have o15 : hget h4 49 20 = some (.inl (.ref 69)) := ((ok4.2.1.2.1 49 5 hq_q (Or.inl rfl)).1.1 (20, 20, 34) (by decide +kernel)).1
        have t15 : T4[69]? = some 34 := ((ok4.2.1.2.1 49 5 hq_q (Or.inl rfl)).1.1 (20, 20, 34) (by decide +kernel)).2
        refine g_getf HW rfl ok4.1 hq_q rfl o15 ?_
        refine zrn_ok HW 1 (zB_iff.mpr (?_ : G (91, [(0, .inl (.ref 49)), (1, .inl (.int x)), (2, .inl (.int y))], [.inl (.int x), .inl (.ref 69)], h4, 0, 0)))
        obtain ⟨x16, g16, e16, l16, u16⟩ := hi_val (i := (x).toInt.toNat) ok4.1 t15 (by show _ < 8; omega) rfl
        have l16 : (0 : Int) ≤ x16.toInt := l16
        have u16 : x16.toInt ≤ (9 : Int) := u16
        refine g_iald HW rfl ok4.1 t15 rfl (by omega) g16 ?_
        refine zrn_ok HW 1 ?_
        exact zret_i rfl rfl (RET x16 T4 h4 (tExt_tr (tExt_tr (tExt_rf T) m1) m4) ok4)
      · show G (93, [(0, .inl (.ref 49)), (1, .inl (.int x)), (2, .inl (.int y))], [], h4, 0, 0)
        have hs6 : y.toInt = 3 := hs6
        refine zrn_ok HW 1 (zB_iff.mpr (?_ : G (94, [(0, .inl (.ref 49)), (1, .inl (.int x)), (2, .inl (.int y))], [.inl (.ref 49)], h4, 0, 0)))
        have o18 : hget h4 49 21 = some (.inl (.ref 70)) := ((ok4.2.1.2.1 49 5 hq_q (Or.inl rfl)).1.1 (21, 21, 35) (by decide +kernel)).1
        have t18 : T4[70]? = some 35 := ((ok4.2.1.2.1 49 5 hq_q (Or.inl rfl)).1.1 (21, 21, 35) (by decide +kernel)).2
        refine g_getf HW rfl ok4.1 hq_q rfl o18 ?_
        refine zrn_ok HW 1 (zB_iff.mpr (?_ : G (98, [(0, .inl (.ref 49)), (1, .inl (.int x)), (2, .inl (.int y))], [.inl (.int x), .inl (.ref 70)], h4, 0, 0)))
        obtain ⟨x19, g19, e19, l19, u19⟩ := hi_val (i := (x).toInt.toNat) ok4.1 t18 (by show _ < 8; omega) rfl
        have l19 : ((-2147483648) : Int) ≤ x19.toInt := l19
        have u19 : x19.toInt ≤ (2147483647 : Int) := u19
        refine g_iald HW rfl ok4.1 t18 rfl (by omega) g19 ?_
        refine zrn_ok HW 1 ?_
        exact zret_i rfl rfl (RET x19 T4 h4 (tExt_tr (tExt_tr (tExt_rf T) m1) m4) ok4)
      · show G (100, [(0, .inl (.ref 49)), (1, .inl (.int x)), (2, .inl (.int y))], [], h4, 0, 0)
        have hs6 : y.toInt = 4 := hs6
        refine zrn_ok HW 1 (zB_iff.mpr (?_ : G (101, [(0, .inl (.ref 49)), (1, .inl (.int x)), (2, .inl (.int y))], [.inl (.ref 49)], h4, 0, 0)))
        have o21 : hget h4 49 22 = some (.inl (.ref 71)) := ((ok4.2.1.2.1 49 5 hq_q (Or.inl rfl)).1.1 (22, 22, 36) (by decide +kernel)).1
        have t21 : T4[71]? = some 36 := ((ok4.2.1.2.1 49 5 hq_q (Or.inl rfl)).1.1 (22, 22, 36) (by decide +kernel)).2
        refine g_getf HW rfl ok4.1 hq_q rfl o21 ?_
        refine zrn_ok HW 1 (zB_iff.mpr (?_ : G (105, [(0, .inl (.ref 49)), (1, .inl (.int x)), (2, .inl (.int y))], [.inl (.int x), .inl (.ref 71)], h4, 0, 0)))
        obtain ⟨x22, g22, e22, l22, u22⟩ := hi_val (i := (x).toInt.toNat) ok4.1 t21 (by show _ < 8; omega) rfl
        have l22 : ((-1) : Int) ≤ x22.toInt := l22
        have u22 : x22.toInt ≤ (3 : Int) := u22
        refine g_iald HW rfl ok4.1 t21 rfl (by omega) g22 ?_
        refine zrn_ok HW 1 ?_
        exact zret_i rfl rfl (RET x22 T4 h4 (tExt_tr (tExt_tr (tExt_rf T) m1) m4) ok4)
    · -- pc 26
      have i5 : ¬ (x4.toInt = (0 : Int)) := fun e => hc5 (zop_int.mpr e)
      refine zrn_ok HW 1 (zB_iff.mpr (?_ : G (27, [(0, .inl (.ref 49)), (1, .inl (.int x)), (2, .inl (.int y))], [.inl (.ref 49)], h4, 0, 0)))
      have o24 : hget h4 49 25 = some (.inl (.ref 73)) := ((ok4.2.1.2.1 49 5 hq_q (Or.inl rfl)).1.1 (25, 24, 38) (by decide +kernel)).1
      have t24 : T4[73]? = some 38 := ((ok4.2.1.2.1 49 5 hq_q (Or.inl rfl)).1.1 (25, 24, 38) (by decide +kernel)).2
      refine g_getf HW rfl ok4.1 hq_q rfl o24 ?_
      have y25 : -2147483648 ≤ y.toInt - (10 : Int) → y.toInt - (10 : Int) ≤ 2147483647 → (y - (10 : Int32)).toInt = y.toInt - (10 : Int) := t_subC (x := y) (y := (10 : Int32))
      refine zrn_ok HW 3 (zB_iff.mpr (?_ : G (34, [(0, .inl (.ref 49)), (1, .inl (.int x)), (2, .inl (.int y))], [.inl (.int (y - (10 : Int32))), .inl (.ref 73)], h4, 0, 0)))
      obtain ⟨v26, g26, s26⟩ := hOK_get (i := ((y - (10 : Int32))).toInt.toNat) ok4.1 t24 (by show _ < 4; omega)
      obtain ⟨q26, rfl, hq26⟩ : ∃ q : Nat, v26 = .inl (.ref q) ∧ T4[q]? = some 39 := s26
      refine g_aald HW rfl ok4.1 t24 ⟨by decide, by decide⟩ (by omega) g26 ?_
      refine zrn_ok HW 1 (zB_iff.mpr (?_ : G (36, [(0, .inl (.ref 49)), (1, .inl (.int x)), (2, .inl (.int y))], [.inl (.int x), .inl (.ref q26)], h4, 0, 0)))
      obtain ⟨x27, g27, e27, l27, u27⟩ := hi_val (i := (x).toInt.toNat) ok4.1 hq26 (by show _ < 8; omega) rfl
      have l27 : ((-2147483648) : Int) ≤ x27.toInt := l27
      have u27 : x27.toInt ≤ (2147483647 : Int) := u27
      refine g_iald HW rfl ok4.1 hq26 rfl (by omega) g27 ?_
      refine zrn_ok HW 1 ?_
      exact zret_i rfl rfl (RET x27 T4 h4 (tExt_tr (tExt_tr (tExt_rf T) m1) m4) ok4)
  · -- pc 8
    have i2 : ¬ (¬ x1.toInt = (0 : Int)) := fun e => hc2 (zop_int.mpr e)
    refine zrn_ok HW 2 (zB_iff.mpr (?_ : G (11, [(0, .inl (.ref 49)), (1, .inl (.int x)), (2, .inl (.int y))], [.inl (.int (-2 : Int32)), .inl (.ref 49)], h1, 0, 0)))
    refine g_tV (e := te_X5_refuse_0) (E' := ze_X5_refuse) HW (tLow_of IH hd) rfl rfl (show te_X5_refuse_0 ∈ [te_X5_refuse_0] from List.mem_cons_self) (by decide +kernel) (Nat.le_of_ble_eq_true rfl) ⟨rfl, rfl⟩ (by decide) ok1.1 ok1.2.1 rfl hq_q rfl (Nat.le_of_ble_eq_true rfl) ⟨⟨_, rfl, hq_q⟩, okA_I (by decide) (by decide), trivial⟩ (fun v28 T28 h28 m28 k28 f28 lh28 r28 => ?_)
    obtain ⟨w28, rfl, hw28, cd28⟩ := r28
    obtain ⟨x28, rfl, l28, u28⟩ := tint_sp rfl hw28
    have l28 : ((-6) : Int) ≤ x28.toInt := l28
    have u28 : x28.toInt ≤ ((-2) : Int) := u28
    have ok28 : wOK (zPhi P) h.length T28 h28 := ⟨k28, f28, Nat.le_trans lh28 ok1.2.2⟩
    have hq_q := m28 _ _ hq_q
    show G (14, [(0, .inl (.ref 49)), (1, .inl (.int x)), (2, .inl (.int y))], [.inl (.int x28)], h28, 0, 0)
    refine zrn_ok HW 1 ?_
    exact zret_i rfl rfl (RET x28 T28 h28 (tExt_tr (tExt_tr (tExt_rf T) m1) m28) ok28)
