theorem tq_X5_row_0 {scr : List zV} {P : pP} : tM zty (zPhi P) zprog scr zhts zsm 217 te_X5_row_0 := by
  have hst := p_stab P
  refine t_hand2 (E := ze_X5_row) (D0 := 1) rfl rfl (by decide +kernel) (fun d T h vs post G hd hok hΦ hlen hvs hp IH HW => ?_)
  obtain ⟨d, rfl⟩ : ∃ d', d = d' + 1 := ⟨d - 1, by omega⟩
  obtain ⟨v_q, vs, rfl, k_q, hvs⟩ := okAs_cons hvs
  obtain ⟨v_x, vs, rfl, k_x, hvs⟩ := okAs_cons hvs
  obtain ⟨v_y, vs, rfl, k_y, hvs⟩ := okAs_cons hvs
  obtain ⟨v_z, vs, rfl, k_z, hvs⟩ := okAs_cons hvs
  obtain rfl := okAs_nil hvs
  obtain ⟨q, rfl, hq_q⟩ := tref_sp rfl k_q
  have hq_q : T[q]? = some 5 := hq_q
  obtain ⟨x, rfl, bl_x, bu_x⟩ := tint_sp rfl k_x
  have bl_x : ((-2147483648) : Int) ≤ x.toInt := bl_x
  have bu_x : x.toInt ≤ (2147483647 : Int) := bu_x
  obtain ⟨y, rfl, bl_y, bu_y⟩ := tint_sp rfl k_y
  have bl_y : ((-2147483648) : Int) ≤ y.toInt := bl_y
  have bu_y : y.toInt ≤ (2147483647 : Int) := bu_y
  obtain ⟨z, rfl, bl_z, bu_z⟩ := tint_sp rfl k_z
  have bl_z : ((-2147483648) : Int) ≤ z.toInt := bl_z
  have bu_z : z.toInt ≤ (2147483647 : Int) := bu_z
  have ok : wOK (zPhi P) h.length T h := ⟨hok, hΦ, Nat.le_refl _⟩
  have RET : ∀ (y : Int32) (T' : List Nat) (h' : zH), tExt T T' → wOK (zPhi P) h.length T' h' → post (some (.inl (.int y))) h' = true := fun y T' h' m' ok' => hp _ T' h' m' ok'.1 ok'.2.1 (by have := ok'.2.2; omega) ⟨_, rfl, okA_If y, fun c hc => by cases hc⟩
  obtain rfl := hΦ.1.2.2.2.2.2 q hq_q
  refine zrn_ok HW 4 (zB_iff.mpr (?_ : G (6, [(0, .inl (.ref 49)), (1, .inl (.int x)), (2, .inl (.int y)), (3, .inl (.int z))], [.inl (.long (7 : Int64)), .inl (.long (0 : Int64)), .inl (.long (Int32.toInt64 x))], h, 0, 0)))
  refine g_callS (b := 0) (E' := ze_X5_in) HW (Or.inl rfl) rfl rfl (Nat.le_of_ble_eq_true rfl) (Nat.le_of_ble_eq_true rfl) (Nat.le_of_ble_eq_true rfl) (Nat.le_of_ble_eq_true rfl) (c_in (fun a1 b1 => zB_iff.mpr ?_) (fun n1 => zB_iff.mpr ?_))
  · show G (9, [(0, .inl (.ref 49)), (1, .inl (.int x)), (2, .inl (.int y)), (3, .inl (.int z))], [.inl (.int (1 : Int32))], h, 0, 0)
    have a1 : (0 : Int) ≤ x.toInt := by have r0 : (Int32.toInt64 x).toInt = x.toInt := q_i2l _; have r1 : (0 : Int64).toInt = 0 := rfl; have r2 : (7 : Int64).toInt = 7 := rfl; omega
    have b1 : x.toInt ≤ (7 : Int) := by have r0 : (Int32.toInt64 x).toInt = x.toInt := q_i2l _; have r1 : (0 : Int64).toInt = 0 := rfl; have r2 : (7 : Int64).toInt = 7 := rfl; omega
    refine zrn_ok HW 5 (zB_iff.mpr (?_ : G (18, [(0, .inl (.ref 49)), (1, .inl (.int x)), (2, .inl (.int y)), (3, .inl (.int z))], [.inl (.long (4 : Int64)), .inl (.long (0 : Int64)), .inl (.long (Int32.toInt64 y))], h, 0, 0)))
    refine g_callS (b := 0) (E' := ze_X5_in) HW (Or.inl rfl) rfl rfl (Nat.le_of_ble_eq_true rfl) (Nat.le_of_ble_eq_true rfl) (Nat.le_of_ble_eq_true rfl) (Nat.le_of_ble_eq_true rfl) (c_in (fun a2 b2 => zB_iff.mpr ?_) (fun n2 => zB_iff.mpr ?_))
    · show G (21, [(0, .inl (.ref 49)), (1, .inl (.int x)), (2, .inl (.int y)), (3, .inl (.int z))], [.inl (.int (1 : Int32))], h, 0, 0)
      have a2 : (0 : Int) ≤ y.toInt := by have r0 : (Int32.toInt64 y).toInt = y.toInt := q_i2l _; have r1 : (0 : Int64).toInt = 0 := rfl; have r2 : (4 : Int64).toInt = 4 := rfl; omega
      have b2 : y.toInt ≤ (4 : Int) := by have r0 : (Int32.toInt64 y).toInt = y.toInt := q_i2l _; have r1 : (0 : Int64).toInt = 0 := rfl; have r2 : (4 : Int64).toInt = 4 := rfl; omega
      refine zrn_ok HW 5 (zB_iff.mpr (?_ : G (30, [(0, .inl (.ref 49)), (1, .inl (.int x)), (2, .inl (.int y)), (3, .inl (.int z))], [.inl (.long (40 : Int64)), .inl (.long (0 : Int64)), .inl (.long (Int32.toInt64 z))], h, 0, 0)))
      refine g_callS (b := 0) (E' := ze_X5_in) HW (Or.inl rfl) rfl rfl (Nat.le_of_ble_eq_true rfl) (Nat.le_of_ble_eq_true rfl) (Nat.le_of_ble_eq_true rfl) (Nat.le_of_ble_eq_true rfl) (c_in (fun a3 b3 => zB_iff.mpr ?_) (fun n3 => zB_iff.mpr ?_))
      · show G (33, [(0, .inl (.ref 49)), (1, .inl (.int x)), (2, .inl (.int y)), (3, .inl (.int z))], [.inl (.int (1 : Int32))], h, 0, 0)
        have a3 : (0 : Int) ≤ z.toInt := by have r0 : (Int32.toInt64 z).toInt = z.toInt := q_i2l _; have r1 : (0 : Int64).toInt = 0 := rfl; have r2 : (40 : Int64).toInt = 40 := rfl; omega
        have b3 : z.toInt ≤ (40 : Int) := by have r0 : (Int32.toInt64 z).toInt = z.toInt := q_i2l _; have r1 : (0 : Int64).toInt = 0 := rfl; have r2 : (40 : Int64).toInt = 40 := rfl; omega
        refine zrn_ok HW 2 (zB_iff.mpr (?_ : G (44, [(0, .inl (.ref 49)), (1, .inl (.int x)), (2, .inl (.int y)), (3, .inl (.int z))], [.inl (.ref 49)], h, 0, 0)))
        have o5 : hget h 49 0 = some (.inl (.ref 50)) := ((ok.2.1.2.1 49 5 hq_q (Or.inl rfl)).1.1 (0, 1, 24) (by decide +kernel)).1
        have t5 : T[50]? = some 24 := ((ok.2.1.2.1 49 5 hq_q (Or.inl rfl)).1.1 (0, 1, 24) (by decide +kernel)).2
        refine g_getf HW rfl ok.1 hq_q rfl o5 ?_
        refine zrn_ok HW 2 (zB_iff.mpr (?_ : G (49, [(0, .inl (.ref 49)), (1, .inl (.int x)), (2, .inl (.int y)), (3, .inl (.int z))], [.inl (.int (1 : Int32)), .inl (.int x), .inl (.ref 50)], h, 0, 0)))
        have ok6 : wOK (zPhi P) h.length T (hput h 50 (x).toInt.toNat (.inl (.int (1 : Int32)))) := ⟨hOK_put ok.1 t5 ⟨_, rfl, (by show (0 : Int) ≤ Int32.toInt (1 : Int32); decide), (by show Int32.toInt (1 : Int32) ≤ (2 : Int); decide)⟩, p_put50 ok.1 (by omega) (fun e => absurd e (by decide)) ok.2.1, by rw [hput_len]; exact ok.2.2⟩
        refine g_iast HW rfl ok.1 t5 rfl (by omega) (by show _ < (8 : Int); omega) ?_
        refine zrn_ok HW 1 (zB_iff.mpr (?_ : G (51, [(0, .inl (.ref 49)), (1, .inl (.int x)), (2, .inl (.int y)), (3, .inl (.int z))], [.inl (.ref 49)], (hput h 50 (x).toInt.toNat (.inl (.int (1 : Int32)))), 0, 0)))
        have o8 : hget (hput h 50 (x).toInt.toNat (.inl (.int (1 : Int32)))) 49 1 = some (.inl (.ref 51)) := ((ok6.2.1.2.1 49 5 hq_q (Or.inl rfl)).1.1 (1, 2, 25) (by decide +kernel)).1
        have t8 : T[51]? = some 25 := ((ok6.2.1.2.1 49 5 hq_q (Or.inl rfl)).1.1 (1, 2, 25) (by decide +kernel)).2
        refine g_getf HW rfl ok6.1 hq_q rfl o8 ?_
        refine zrn_ok HW 2 (zB_iff.mpr (?_ : G (56, [(0, .inl (.ref 49)), (1, .inl (.int x)), (2, .inl (.int y)), (3, .inl (.int z))], [.inl (.int y), .inl (.int x), .inl (.ref 51)], (hput h 50 (x).toInt.toNat (.inl (.int (1 : Int32)))), 0, 0)))
        have ok9 : wOK (zPhi P) h.length T (hput (hput h 50 (x).toInt.toNat (.inl (.int (1 : Int32)))) 51 (x).toInt.toNat (.inl (.int y))) := wOK_put hst ok6 t8 rfl ⟨_, rfl, (by show (0 : Int) ≤ _; omega), (by show _ ≤ (4 : Int); omega)⟩
        refine g_iast HW rfl ok6.1 t8 rfl (by omega) (by show _ < (8 : Int); omega) ?_
        refine zrn_ok HW 1 (zB_iff.mpr (?_ : G (58, [(0, .inl (.ref 49)), (1, .inl (.int x)), (2, .inl (.int y)), (3, .inl (.int z))], [.inl (.ref 49)], (hput (hput h 50 (x).toInt.toNat (.inl (.int (1 : Int32)))) 51 (x).toInt.toNat (.inl (.int y))), 0, 0)))
        have o11 : hget (hput (hput h 50 (x).toInt.toNat (.inl (.int (1 : Int32)))) 51 (x).toInt.toNat (.inl (.int y))) 49 2 = some (.inl (.ref 52)) := ((ok9.2.1.2.1 49 5 hq_q (Or.inl rfl)).1.1 (2, 3, 26) (by decide +kernel)).1
        have t11 : T[52]? = some 26 := ((ok9.2.1.2.1 49 5 hq_q (Or.inl rfl)).1.1 (2, 3, 26) (by decide +kernel)).2
        refine g_getf HW rfl ok9.1 hq_q rfl o11 ?_
        refine zrn_ok HW 2 (zB_iff.mpr (?_ : G (63, [(0, .inl (.ref 49)), (1, .inl (.int x)), (2, .inl (.int y)), (3, .inl (.int z))], [.inl (.int z), .inl (.int x), .inl (.ref 52)], (hput (hput h 50 (x).toInt.toNat (.inl (.int (1 : Int32)))) 51 (x).toInt.toNat (.inl (.int y))), 0, 0)))
        have ok12 : wOK (zPhi P) h.length T (hput (hput (hput h 50 (x).toInt.toNat (.inl (.int (1 : Int32)))) 51 (x).toInt.toNat (.inl (.int y))) 52 (x).toInt.toNat (.inl (.int z))) := wOK_put hst ok9 t11 rfl ⟨_, rfl, (by show (0 : Int) ≤ _; omega), (by show _ ≤ (40 : Int); omega)⟩
        refine g_iast HW rfl ok9.1 t11 rfl (by omega) (by show _ < (8 : Int); omega) ?_
        refine zrn_ok HW 2 (zB_iff.mpr (?_ : G (67, [(4, .inl (.int (0 : Int32))), (0, .inl (.ref 49)), (1, .inl (.int x)), (2, .inl (.int y)), (3, .inl (.int z))], [], (hput (hput (hput h 50 (x).toInt.toNat (.inl (.int (1 : Int32)))) 51 (x).toInt.toNat (.inl (.int y))) 52 (x).toInt.toNat (.inl (.int z))), 0, 0)))
        have loop : ∀ (k : Nat) (i : Int32) (hl : zH), wOK (zPhi P) h.length T hl → 0 ≤ i.toInt → i.toInt ≤ 40 → 40 - i.toInt < (k : Int) → G (67, [(4, .inl (.int i)), (0, .inl (.ref 49)), (1, .inl (.int x)), (2, .inl (.int y)), (3, .inl (.int z))], [], hl, 0, 0) := by
          intro k
          induction k with
          | zero =>
            intro i hl okl y_0 y_1 hm
            exfalso
            omega
          | succ k ih =>
            intro i hl okl y_0 y_1 hm
            refine zrn_ok HW 3 (zbr_ex (cd := .ge) (x := i) (y := (40 : Int32)) (fun hc1 => zB_iff.mpr ?_) (fun hc1 => zB_iff.mpr ?_))
            · -- pc 90
              have i1 : i.toInt ≥ (40 : Int) := zop_int.mp hc1
              refine zrn_ok HW 2 ?_
              exact zret_i rfl rfl (RET (1 : Int32) T hl (tExt_rf T) okl)
            · -- pc 74
              have i1 : ¬ (i.toInt ≥ (40 : Int)) := fun e => hc1 (zop_int.mpr e)
              refine zrn_ok HW 1 (zB_iff.mpr (?_ : G (75, [(4, .inl (.int i)), (0, .inl (.ref 49)), (1, .inl (.int x)), (2, .inl (.int y)), (3, .inl (.int z))], [.inl (.ref 49)], hl, 0, 0)))
              have o3 : hget hl 49 3 = some (.inl (.ref 53)) := ((okl.2.1.2.1 49 5 hq_q (Or.inl rfl)).1.1 (3, 4, 27) (by decide +kernel)).1
              have t3 : T[53]? = some 27 := ((okl.2.1.2.1 49 5 hq_q (Or.inl rfl)).1.1 (3, 4, 27) (by decide +kernel)).2
              refine g_getf HW rfl okl.1 hq_q rfl o3 ?_
              refine zrn_ok HW 1 (zB_iff.mpr (?_ : G (79, [(4, .inl (.int i)), (0, .inl (.ref 49)), (1, .inl (.int x)), (2, .inl (.int y)), (3, .inl (.int z))], [.inl (.int x), .inl (.ref 53)], hl, 0, 0)))
              obtain ⟨v4, g4, s4⟩ := hOK_get (i := (x).toInt.toNat) okl.1 t3 (by show _ < 8; omega)
              obtain ⟨q4, rfl, hq4⟩ : ∃ q : Nat, v4 = .inl (.ref q) ∧ T[q]? = some 28 := s4
              refine g_aald HW rfl okl.1 t3 ⟨by decide, by decide⟩ (by omega) g4 ?_
              refine zrn_ok HW 2 (zB_iff.mpr (?_ : G (83, [(4, .inl (.int i)), (0, .inl (.ref 49)), (1, .inl (.int x)), (2, .inl (.int y)), (3, .inl (.int z))], [.inl (.long (0 : Int64)), .inl (.int i), .inl (.ref q4)], hl, 0, 0)))
              have ok5 : wOK (zPhi P) h.length T (hput hl q4 (i).toInt.toNat (.inl (.long (0 : Int64)))) := wOK_put hst okl hq4 rfl ⟨_, rfl⟩
              refine g_last HW rfl okl.1 hq4 rfl (by omega) (by show _ < (40 : Int); omega) ?_
              have y6 : -2147483648 ≤ i.toInt + (1 : Int) → i.toInt + (1 : Int) ≤ 2147483647 → (i + (1 : Int32)).toInt = i.toInt + (1 : Int) := t_addC (x := i) (y := (1 : Int32))
              refine zrn_ok HW 2 (zB_iff.mpr (?_ : G (67, [(4, .inl (.int (i + (1 : Int32)))), (0, .inl (.ref 49)), (1, .inl (.int x)), (2, .inl (.int y)), (3, .inl (.int z))], [], (hput hl q4 (i).toInt.toNat (.inl (.long (0 : Int64)))), 0, 0)))
              exact ih (i + (1 : Int32)) _ ok5 (by omega) (by omega) (by omega)
        exact loop 41 (0 : Int32) _ ok12 (by decide) (by decide) (by decide)
      · show G (33, [(0, .inl (.ref 49)), (1, .inl (.int x)), (2, .inl (.int y)), (3, .inl (.int z))], [.inl (.int (0 : Int32))], h, 0, 0)
        have n3 : ¬ ((0 : Int) ≤ z.toInt ∧ z.toInt ≤ (40 : Int)) := by have r0 : (Int32.toInt64 z).toInt = z.toInt := q_i2l _; have r1 : (0 : Int64).toInt = 0 := rfl; have r2 : (40 : Int64).toInt = 40 := rfl; omega
        refine zrn_ok HW 3 (zB_iff.mpr (?_ : G (39, [(0, .inl (.ref 49)), (1, .inl (.int x)), (2, .inl (.int y)), (3, .inl (.int z))], [.inl (.int (-2 : Int32)), .inl (.ref 49)], h, 0, 0)))
        refine g_tV (e := te_X5_refuse_0) (E' := ze_X5_refuse) HW (tLow_of IH hd) rfl rfl (show te_X5_refuse_0 ∈ [te_X5_refuse_0] from List.mem_cons_self) (by decide +kernel) (Nat.le_of_ble_eq_true rfl) ⟨rfl, rfl⟩ (by decide) ok.1 ok.2.1 rfl hq_q rfl (Nat.le_of_ble_eq_true rfl) ⟨⟨_, rfl, hq_q⟩, okA_I (by decide) (by decide), trivial⟩ (fun v13 T13 h13 m13 k13 f13 lh13 r13 => ?_)
        obtain ⟨w13, rfl, hw13, cd13⟩ := r13
        obtain ⟨x13, rfl, l13, u13⟩ := tint_sp rfl hw13
        have l13 : ((-6) : Int) ≤ x13.toInt := l13
        have u13 : x13.toInt ≤ ((-2) : Int) := u13
        have ok13 : wOK (zPhi P) h.length T13 h13 := ⟨k13, f13, Nat.le_trans lh13 ok.2.2⟩
        have hq_q := m13 _ _ hq_q
        show G (42, [(0, .inl (.ref 49)), (1, .inl (.int x)), (2, .inl (.int y)), (3, .inl (.int z))], [.inl (.int x13)], h13, 0, 0)
        refine zrn_ok HW 1 ?_
        exact zret_i rfl rfl (RET x13 T13 h13 (tExt_tr (tExt_rf T) m13) ok13)
    · show G (21, [(0, .inl (.ref 49)), (1, .inl (.int x)), (2, .inl (.int y)), (3, .inl (.int z))], [.inl (.int (0 : Int32))], h, 0, 0)
      have n2 : ¬ ((0 : Int) ≤ y.toInt ∧ y.toInt ≤ (4 : Int)) := by have r0 : (Int32.toInt64 y).toInt = y.toInt := q_i2l _; have r1 : (0 : Int64).toInt = 0 := rfl; have r2 : (4 : Int64).toInt = 4 := rfl; omega
      refine zrn_ok HW 3 (zB_iff.mpr (?_ : G (39, [(0, .inl (.ref 49)), (1, .inl (.int x)), (2, .inl (.int y)), (3, .inl (.int z))], [.inl (.int (-2 : Int32)), .inl (.ref 49)], h, 0, 0)))
      refine g_tV (e := te_X5_refuse_0) (E' := ze_X5_refuse) HW (tLow_of IH hd) rfl rfl (show te_X5_refuse_0 ∈ [te_X5_refuse_0] from List.mem_cons_self) (by decide +kernel) (Nat.le_of_ble_eq_true rfl) ⟨rfl, rfl⟩ (by decide) ok.1 ok.2.1 rfl hq_q rfl (Nat.le_of_ble_eq_true rfl) ⟨⟨_, rfl, hq_q⟩, okA_I (by decide) (by decide), trivial⟩ (fun v14 T14 h14 m14 k14 f14 lh14 r14 => ?_)
      obtain ⟨w14, rfl, hw14, cd14⟩ := r14
      obtain ⟨x14, rfl, l14, u14⟩ := tint_sp rfl hw14
      have l14 : ((-6) : Int) ≤ x14.toInt := l14
      have u14 : x14.toInt ≤ ((-2) : Int) := u14
      have ok14 : wOK (zPhi P) h.length T14 h14 := ⟨k14, f14, Nat.le_trans lh14 ok.2.2⟩
      have hq_q := m14 _ _ hq_q
      show G (42, [(0, .inl (.ref 49)), (1, .inl (.int x)), (2, .inl (.int y)), (3, .inl (.int z))], [.inl (.int x14)], h14, 0, 0)
      refine zrn_ok HW 1 ?_
      exact zret_i rfl rfl (RET x14 T14 h14 (tExt_tr (tExt_rf T) m14) ok14)
  · show G (9, [(0, .inl (.ref 49)), (1, .inl (.int x)), (2, .inl (.int y)), (3, .inl (.int z))], [.inl (.int (0 : Int32))], h, 0, 0)
    have n1 : ¬ ((0 : Int) ≤ x.toInt ∧ x.toInt ≤ (7 : Int)) := by have r0 : (Int32.toInt64 x).toInt = x.toInt := q_i2l _; have r1 : (0 : Int64).toInt = 0 := rfl; have r2 : (7 : Int64).toInt = 7 := rfl; omega
    refine zrn_ok HW 3 (zB_iff.mpr (?_ : G (39, [(0, .inl (.ref 49)), (1, .inl (.int x)), (2, .inl (.int y)), (3, .inl (.int z))], [.inl (.int (-2 : Int32)), .inl (.ref 49)], h, 0, 0)))
    refine g_tV (e := te_X5_refuse_0) (E' := ze_X5_refuse) HW (tLow_of IH hd) rfl rfl (show te_X5_refuse_0 ∈ [te_X5_refuse_0] from List.mem_cons_self) (by decide +kernel) (Nat.le_of_ble_eq_true rfl) ⟨rfl, rfl⟩ (by decide) ok.1 ok.2.1 rfl hq_q rfl (Nat.le_of_ble_eq_true rfl) ⟨⟨_, rfl, hq_q⟩, okA_I (by decide) (by decide), trivial⟩ (fun v15 T15 h15 m15 k15 f15 lh15 r15 => ?_)
    obtain ⟨w15, rfl, hw15, cd15⟩ := r15
    obtain ⟨x15, rfl, l15, u15⟩ := tint_sp rfl hw15
    have l15 : ((-6) : Int) ≤ x15.toInt := l15
    have u15 : x15.toInt ≤ ((-2) : Int) := u15
    have ok15 : wOK (zPhi P) h.length T15 h15 := ⟨k15, f15, Nat.le_trans lh15 ok.2.2⟩
    have hq_q := m15 _ _ hq_q
    show G (42, [(0, .inl (.ref 49)), (1, .inl (.int x)), (2, .inl (.int y)), (3, .inl (.int z))], [.inl (.int x15)], h15, 0, 0)
    refine zrn_ok HW 1 ?_
    exact zret_i rfl rfl (RET x15 T15 h15 (tExt_tr (tExt_rf T) m15) ok15)
theorem c_noRow {P : pP} {N : Nat} {scr : List zV} {d D0 : Nat} {T : List Nat} {h : zH} {s : Int32} {post : Option zV → zH → Bool} (IH : tBel (zPhi P) scr D0) (hd : D0 ≤ d) (h1 : 1 ≤ D0) (ok : wOK (zPhi P) N T h) (kk : ∀ (r : Int32) (T' : List Nat) (h' : zH), tExt T T' → wOK (zPhi P) N T' h' → (r.toInt = 0 → 0 ≤ s.toInt ∧ s.toInt ≤ 7) → post (some (.inl (.int r))) h' = true) : zD zprog scr (d + 1) 202 [.inl (.ref 49), .inl (.int s)] h post = true := by
  have IH := tBel_le IH h1
  have hd : 1 ≤ d := by omega
  obtain ⟨d, rfl⟩ : ∃ d', d = d' + 1 := ⟨d - 1, by omega⟩
  have hq_q := ok.2.1.1.2.2.1
  have hst := p_stab P
  refine zD_intro (E := ze_X5_noRow) rfl rfl (fun G HW => ?_)
  refine zrn_ok HW 4 (zB_iff.mpr (?_ : G (6, [(0, .inl (.ref 49)), (1, .inl (.int s))], [.inl (.long (7 : Int64)), .inl (.long (0 : Int64)), .inl (.long (Int32.toInt64 s))], h, 0, 0)))
  refine g_callS (b := 0) (E' := ze_X5_in) HW (Or.inl rfl) rfl rfl (Nat.le_of_ble_eq_true rfl) (Nat.le_of_ble_eq_true rfl) (Nat.le_of_ble_eq_true rfl) (Nat.le_of_ble_eq_true rfl) (c_in (fun a1 b1 => zB_iff.mpr ?_) (fun n1 => zB_iff.mpr ?_))
  · show G (9, [(0, .inl (.ref 49)), (1, .inl (.int s))], [.inl (.int (1 : Int32))], h, 0, 0)
    have a1 : (0 : Int) ≤ s.toInt := by have r0 : (Int32.toInt64 s).toInt = s.toInt := q_i2l _; have r1 : (0 : Int64).toInt = 0 := rfl; have r2 : (7 : Int64).toInt = 7 := rfl; omega
    have b1 : s.toInt ≤ (7 : Int) := by have r0 : (Int32.toInt64 s).toInt = s.toInt := q_i2l _; have r1 : (0 : Int64).toInt = 0 := rfl; have r2 : (7 : Int64).toInt = 7 := rfl; omega
    refine zrn_ok HW 2 (zB_iff.mpr (?_ : G (20, [(0, .inl (.ref 49)), (1, .inl (.int s))], [.inl (.ref 49)], h, 0, 0)))
    have o3 : hget h 49 0 = some (.inl (.ref 50)) := ((ok.2.1.2.1 49 5 hq_q (Or.inl rfl)).1.1 (0, 1, 24) (by decide +kernel)).1
    have t3 : T[50]? = some 24 := ((ok.2.1.2.1 49 5 hq_q (Or.inl rfl)).1.1 (0, 1, 24) (by decide +kernel)).2
    refine g_getf HW rfl ok.1 hq_q rfl o3 ?_
    refine zrn_ok HW 1 (zB_iff.mpr (?_ : G (24, [(0, .inl (.ref 49)), (1, .inl (.int s))], [.inl (.int s), .inl (.ref 50)], h, 0, 0)))
    obtain ⟨x4, g4, e4, l4, u4⟩ := hi_val (i := (s).toInt.toNat) ok.1 t3 (by show _ < 8; omega) rfl
    have l4 : (0 : Int) ≤ x4.toInt := l4
    have u4 : x4.toInt ≤ (2 : Int) := u4
    refine g_iald HW rfl ok.1 t3 rfl (by omega) g4 ?_
    refine zrn_ok HW 2 (zbr_ex (cd := .ne) (x := x4) (y := (2 : Int32)) (fun hc5 => zB_iff.mpr ?_) (fun hc5 => zB_iff.mpr ?_))
    · -- pc 36
      have i5 : ¬ x4.toInt = (2 : Int) := zop_int.mp hc5
      refine zrn_ok HW 1 (zB_iff.mpr (?_ : G (37, [(0, .inl (.ref 49)), (1, .inl (.int s))], [.inl (.ref 49)], h, 0, 0)))
      have o7 : hget h 49 0 = some (.inl (.ref 50)) := ((ok.2.1.2.1 49 5 hq_q (Or.inl rfl)).1.1 (0, 1, 24) (by decide +kernel)).1
      have t7 : T[50]? = some 24 := ((ok.2.1.2.1 49 5 hq_q (Or.inl rfl)).1.1 (0, 1, 24) (by decide +kernel)).2
      refine g_getf HW rfl ok.1 hq_q rfl o7 ?_
      refine zrn_ok HW 1 (zB_iff.mpr (?_ : G (41, [(0, .inl (.ref 49)), (1, .inl (.int s))], [.inl (.int s), .inl (.ref 50)], h, 0, 0)))
      obtain ⟨x8, g8, e8, l8, u8⟩ := hi_val (i := (s).toInt.toNat) ok.1 t7 (by show _ < 8; omega) rfl
      have l8 : (0 : Int) ≤ x8.toInt := l8
      have u8 : x8.toInt ≤ (2 : Int) := u8
      refine g_iald HW rfl ok.1 t7 rfl (by omega) g8 ?_
      refine zrn_ok HW 1 (zbr_ex (cd := .ne) (x := x8) (y := (0 : Int32)) (fun hc9 => zB_iff.mpr ?_) (fun hc9 => zB_iff.mpr ?_))
      · -- pc 54
        have i9 : ¬ x8.toInt = (0 : Int) := zop_int.mp hc9
        refine zrn_ok HW 2 ?_
        exact zret_i rfl rfl (kk (0 : Int32) T h (tExt_rf T) ok (fun e => by exact ⟨by omega, by omega⟩))
      · -- pc 45
        have i9 : ¬ (¬ x8.toInt = (0 : Int)) := fun e => hc9 (zop_int.mpr e)
        refine zrn_ok HW 2 (zB_iff.mpr (?_ : G (48, [(0, .inl (.ref 49)), (1, .inl (.int s))], [.inl (.int (-4 : Int32)), .inl (.ref 49)], h, 0, 0)))
        refine g_tV (e := te_X5_refuse_0) (E' := ze_X5_refuse) HW (tLow_of IH hd) rfl rfl (show te_X5_refuse_0 ∈ [te_X5_refuse_0] from List.mem_cons_self) (by decide +kernel) (Nat.le_of_ble_eq_true rfl) ⟨rfl, rfl⟩ (by decide) ok.1 ok.2.1 rfl hq_q rfl (Nat.le_of_ble_eq_true rfl) ⟨⟨_, rfl, hq_q⟩, okA_I (by decide) (by decide), trivial⟩ (fun v10 T10 h10 m10 k10 f10 lh10 r10 => ?_)
        obtain ⟨w10, rfl, hw10, cd10⟩ := r10
        obtain ⟨x10, rfl, l10, u10⟩ := tint_sp rfl hw10
        have l10 : ((-6) : Int) ≤ x10.toInt := l10
        have u10 : x10.toInt ≤ ((-2) : Int) := u10
        have ok10 : wOK (zPhi P) N T10 h10 := ⟨k10, f10, Nat.le_trans lh10 ok.2.2⟩
        have hq_q := m10 _ _ hq_q
        have t7 := m10 _ _ t7
        show G (51, [(0, .inl (.ref 49)), (1, .inl (.int s))], [.inl (.int x10)], h10, 0, 0)
        refine zrn_ok HW 2 ?_
        exact zret_i rfl rfl (kk x10 T10 h10 (tExt_tr (tExt_rf T) m10) ok10 (fun e => by omega))
    · -- pc 29
      have i5 : ¬ (¬ x4.toInt = (2 : Int)) := fun e => hc5 (zop_int.mpr e)
      refine zrn_ok HW 2 (zB_iff.mpr (?_ : G (32, [(0, .inl (.ref 49)), (1, .inl (.int s))], [.inl (.int (-3 : Int32)), .inl (.ref 49)], h, 0, 0)))
      refine g_tV (e := te_X5_refuse_0) (E' := ze_X5_refuse) HW (tLow_of IH hd) rfl rfl (show te_X5_refuse_0 ∈ [te_X5_refuse_0] from List.mem_cons_self) (by decide +kernel) (Nat.le_of_ble_eq_true rfl) ⟨rfl, rfl⟩ (by decide) ok.1 ok.2.1 rfl hq_q rfl (Nat.le_of_ble_eq_true rfl) ⟨⟨_, rfl, hq_q⟩, okA_I (by decide) (by decide), trivial⟩ (fun v11 T11 h11 m11 k11 f11 lh11 r11 => ?_)
      obtain ⟨w11, rfl, hw11, cd11⟩ := r11
      obtain ⟨x11, rfl, l11, u11⟩ := tint_sp rfl hw11
      have l11 : ((-6) : Int) ≤ x11.toInt := l11
      have u11 : x11.toInt ≤ ((-2) : Int) := u11
      have ok11 : wOK (zPhi P) N T11 h11 := ⟨k11, f11, Nat.le_trans lh11 ok.2.2⟩
      have hq_q := m11 _ _ hq_q
      have t3 := m11 _ _ t3
      show G (35, [(0, .inl (.ref 49)), (1, .inl (.int s))], [.inl (.int x11)], h11, 0, 0)
      refine zrn_ok HW 1 ?_
      exact zret_i rfl rfl (kk x11 T11 h11 (tExt_tr (tExt_rf T) m11) ok11 (fun e => by omega))
  · show G (9, [(0, .inl (.ref 49)), (1, .inl (.int s))], [.inl (.int (0 : Int32))], h, 0, 0)
    have n1 : ¬ ((0 : Int) ≤ s.toInt ∧ s.toInt ≤ (7 : Int)) := by have r0 : (Int32.toInt64 s).toInt = s.toInt := q_i2l _; have r1 : (0 : Int64).toInt = 0 := rfl; have r2 : (7 : Int64).toInt = 7 := rfl; omega
    refine zrn_ok HW 3 (zB_iff.mpr (?_ : G (15, [(0, .inl (.ref 49)), (1, .inl (.int s))], [.inl (.int (-2 : Int32)), .inl (.ref 49)], h, 0, 0)))
    refine g_tV (e := te_X5_refuse_0) (E' := ze_X5_refuse) HW (tLow_of IH hd) rfl rfl (show te_X5_refuse_0 ∈ [te_X5_refuse_0] from List.mem_cons_self) (by decide +kernel) (Nat.le_of_ble_eq_true rfl) ⟨rfl, rfl⟩ (by decide) ok.1 ok.2.1 rfl hq_q rfl (Nat.le_of_ble_eq_true rfl) ⟨⟨_, rfl, hq_q⟩, okA_I (by decide) (by decide), trivial⟩ (fun v12 T12 h12 m12 k12 f12 lh12 r12 => ?_)
    obtain ⟨w12, rfl, hw12, cd12⟩ := r12
    obtain ⟨x12, rfl, l12, u12⟩ := tint_sp rfl hw12
    have l12 : ((-6) : Int) ≤ x12.toInt := l12
    have u12 : x12.toInt ≤ ((-2) : Int) := u12
    have ok12 : wOK (zPhi P) N T12 h12 := ⟨k12, f12, Nat.le_trans lh12 ok.2.2⟩
    have hq_q := m12 _ _ hq_q
    show G (18, [(0, .inl (.ref 49)), (1, .inl (.int s))], [.inl (.int x12)], h12, 0, 0)
    refine zrn_ok HW 1 ?_
    exact zret_i rfl rfl (kk x12 T12 h12 (tExt_tr (tExt_rf T) m12) ok12 (fun e => by omega))
theorem tq_X5_set_0 {scr : List zV} {P : pP} : tM zty (zPhi P) zprog scr zhts zsm 221 te_X5_set_0 := by
  have hst := p_stab P
  refine t_hand2 (E := ze_X5_set) (D0 := 2) rfl rfl (by decide +kernel) (fun d T h vs post G hd hok hΦ hlen hvs hp IH HW => ?_)
  obtain ⟨d, rfl⟩ : ∃ d', d = d' + 1 := ⟨d - 1, by omega⟩
  obtain ⟨v_q, vs, rfl, k_q, hvs⟩ := okAs_cons hvs
  obtain ⟨v_x, vs, rfl, k_x, hvs⟩ := okAs_cons hvs
  obtain ⟨v_y, vs, rfl, k_y, hvs⟩ := okAs_cons hvs
  obtain ⟨v_z, vs, rfl, k_z, hvs⟩ := okAs_cons hvs
  obtain rfl := okAs_nil hvs
  obtain ⟨q, rfl, hq_q⟩ := tref_sp rfl k_q
  have hq_q : T[q]? = some 5 := hq_q
  obtain ⟨x, rfl, bl_x, bu_x⟩ := tint_sp rfl k_x
  have bl_x : ((-2147483648) : Int) ≤ x.toInt := bl_x
  have bu_x : x.toInt ≤ (2147483647 : Int) := bu_x
  obtain ⟨y, rfl, bl_y, bu_y⟩ := tint_sp rfl k_y
  have bl_y : ((-2147483648) : Int) ≤ y.toInt := bl_y
  have bu_y : y.toInt ≤ (2147483647 : Int) := bu_y
  obtain ⟨z, rfl, -⟩ := tlong_sp rfl k_z
  have ok : wOK (zPhi P) h.length T h := ⟨hok, hΦ, Nat.le_refl _⟩
  have RET : ∀ (y : Int32) (T' : List Nat) (h' : zH), tExt T T' → wOK (zPhi P) h.length T' h' → post (some (.inl (.int y))) h' = true := fun y T' h' m' ok' => hp _ T' h' m' ok'.1 ok'.2.1 (by have := ok'.2.2; omega) ⟨_, rfl, okA_If y, fun c hc => by cases hc⟩
  obtain rfl := hΦ.1.2.2.2.2.2 q hq_q
  refine zrn_ok HW 2 (zB_iff.mpr (?_ : G (2, [(0, .inl (.ref 49)), (1, .inl (.int x)), (2, .inl (.int y)), (3, .inl (.long z))], [.inl (.int x), .inl (.ref 49)], h, 0, 0)))
  refine g_callV (E' := ze_X5_noRow) HW rfl rfl (Nat.le_of_ble_eq_true rfl) (Nat.le_of_ble_eq_true rfl) (Nat.le_of_ble_eq_true rfl) ok.1 rfl hq_q rfl (Nat.le_of_ble_eq_true rfl) (c_noRow (tBel_le IH (D1 := 1) (by decide)) (by omega) (by decide) ok (fun r1 T1 h1 m1 ok1 f1 => zB_iff.mpr ?_))
  show G (5, [(0, .inl (.ref 49)), (1, .inl (.int x)), (2, .inl (.int y)), (3, .inl (.long z))], [.inl (.int r1)], h1, 0, 0)
  have f1 : r1.toInt = 0 → 0 ≤ x.toInt ∧ x.toInt ≤ 7 := f1
  have hq_q := m1 _ _ hq_q
  refine zrn_ok HW 3 (zbr_ex (cd := .eq) (x := r1) (y := (0 : Int32)) (fun hc2 => zB_iff.mpr ?_) (fun hc2 => zB_iff.mpr ?_))
  · -- pc 15
    have i2 : r1.toInt = (0 : Int) := zop_int.mp hc2
    refine zrn_ok HW 4 (zB_iff.mpr (?_ : G (19, [(5, .inl (.int r1)), (0, .inl (.ref 49)), (1, .inl (.int x)), (2, .inl (.int y)), (3, .inl (.long z))], [.inl (.ref 49), .inl (.long (0 : Int64)), .inl (.long (Int32.toInt64 y))], h1, 0, 0)))
    have o4 : hget h1 49 2 = some (.inl (.ref 52)) := ((ok1.2.1.2.1 49 5 hq_q (Or.inl rfl)).1.1 (2, 3, 26) (by decide +kernel)).1
    have t4 : T1[52]? = some 26 := ((ok1.2.1.2.1 49 5 hq_q (Or.inl rfl)).1.1 (2, 3, 26) (by decide +kernel)).2
    refine g_getf HW rfl ok1.1 hq_q rfl o4 ?_
    refine zrn_ok HW 1 (zB_iff.mpr (?_ : G (23, [(5, .inl (.int r1)), (0, .inl (.ref 49)), (1, .inl (.int x)), (2, .inl (.int y)), (3, .inl (.long z))], [.inl (.int x), .inl (.ref 52), .inl (.long (0 : Int64)), .inl (.long (Int32.toInt64 y))], h1, 0, 0)))
    obtain ⟨x5, g5, e5, l5, u5⟩ := hi_val (i := (x).toInt.toNat) ok1.1 t4 (by show _ < 8; omega) rfl
    have l5 : (0 : Int) ≤ x5.toInt := l5
    have u5 : x5.toInt ≤ (40 : Int) := u5
    refine g_iald HW rfl ok1.1 t4 rfl (by omega) g5 ?_
    have y6 : -2147483648 ≤ x5.toInt - (1 : Int) → x5.toInt - (1 : Int) ≤ 2147483647 → (x5 - (1 : Int32)).toInt = x5.toInt - (1 : Int) := t_subC (x := x5) (y := (1 : Int32))
    refine zrn_ok HW 3 (zB_iff.mpr (?_ : G (27, [(5, .inl (.int r1)), (0, .inl (.ref 49)), (1, .inl (.int x)), (2, .inl (.int y)), (3, .inl (.long z))], [.inl (.long (Int32.toInt64 (x5 - (1 : Int32)))), .inl (.long (0 : Int64)), .inl (.long (Int32.toInt64 y))], h1, 0, 0)))
    refine g_callS (b := 0) (E' := ze_X5_in) HW (Or.inl rfl) rfl rfl (Nat.le_of_ble_eq_true rfl) (Nat.le_of_ble_eq_true rfl) (Nat.le_of_ble_eq_true rfl) (Nat.le_of_ble_eq_true rfl) (c_in (fun a7 b7 => zB_iff.mpr ?_) (fun n7 => zB_iff.mpr ?_))
    · show G (30, [(5, .inl (.int r1)), (0, .inl (.ref 49)), (1, .inl (.int x)), (2, .inl (.int y)), (3, .inl (.long z))], [.inl (.int (1 : Int32))], h1, 0, 0)
      have a7 : (0 : Int) ≤ y.toInt := by have r0 : (Int32.toInt64 y).toInt = y.toInt := q_i2l _; have r1 : (0 : Int64).toInt = 0 := rfl; have r2 : (Int32.toInt64 (x5 - (1 : Int32))).toInt = (x5 - (1 : Int32)).toInt := q_i2l _; omega
      have b7 : y.toInt ≤ (x5 - (1 : Int32)).toInt := by have r0 : (Int32.toInt64 y).toInt = y.toInt := q_i2l _; have r1 : (0 : Int64).toInt = 0 := rfl; have r2 : (Int32.toInt64 (x5 - (1 : Int32))).toInt = (x5 - (1 : Int32)).toInt := q_i2l _; omega
      refine zrn_ok HW 2 (zB_iff.mpr (?_ : G (41, [(5, .inl (.int r1)), (0, .inl (.ref 49)), (1, .inl (.int x)), (2, .inl (.int y)), (3, .inl (.long z))], [.inl (.ref 49)], h1, 0, 0)))
      have o9 : hget h1 49 3 = some (.inl (.ref 53)) := ((ok1.2.1.2.1 49 5 hq_q (Or.inl rfl)).1.1 (3, 4, 27) (by decide +kernel)).1
      have t9 : T1[53]? = some 27 := ((ok1.2.1.2.1 49 5 hq_q (Or.inl rfl)).1.1 (3, 4, 27) (by decide +kernel)).2
      refine g_getf HW rfl ok1.1 hq_q rfl o9 ?_
      refine zrn_ok HW 1 (zB_iff.mpr (?_ : G (45, [(5, .inl (.int r1)), (0, .inl (.ref 49)), (1, .inl (.int x)), (2, .inl (.int y)), (3, .inl (.long z))], [.inl (.int x), .inl (.ref 53)], h1, 0, 0)))
      obtain ⟨v10, g10, s10⟩ := hOK_get (i := (x).toInt.toNat) ok1.1 t9 (by show _ < 8; omega)
      obtain ⟨q10, rfl, hq10⟩ : ∃ q : Nat, v10 = .inl (.ref q) ∧ T1[q]? = some 28 := s10
      refine g_aald HW rfl ok1.1 t9 ⟨by decide, by decide⟩ (by omega) g10 ?_
      refine zrn_ok HW 2 (zB_iff.mpr (?_ : G (48, [(5, .inl (.int r1)), (0, .inl (.ref 49)), (1, .inl (.int x)), (2, .inl (.int y)), (3, .inl (.long z))], [.inl (.ref 49), .inl (.int y), .inl (.ref q10)], h1, 0, 0)))
      have o12 : hget h1 49 1 = some (.inl (.ref 51)) := ((ok1.2.1.2.1 49 5 hq_q (Or.inl rfl)).1.1 (1, 2, 25) (by decide +kernel)).1
      have t12 : T1[51]? = some 25 := ((ok1.2.1.2.1 49 5 hq_q (Or.inl rfl)).1.1 (1, 2, 25) (by decide +kernel)).2
      refine g_getf HW rfl ok1.1 hq_q rfl o12 ?_
      refine zrn_ok HW 1 (zB_iff.mpr (?_ : G (52, [(5, .inl (.int r1)), (0, .inl (.ref 49)), (1, .inl (.int x)), (2, .inl (.int y)), (3, .inl (.long z))], [.inl (.int x), .inl (.ref 51), .inl (.int y), .inl (.ref q10)], h1, 0, 0)))
      obtain ⟨x13, g13, e13, l13, u13⟩ := hi_val (i := (x).toInt.toNat) ok1.1 t12 (by show _ < 8; omega) rfl
      have l13 : (0 : Int) ≤ x13.toInt := l13
      have u13 : x13.toInt ≤ (4 : Int) := u13
      refine g_iald HW rfl ok1.1 t12 rfl (by omega) g13 ?_
      refine zrn_ok HW 1 (zB_iff.mpr (?_ : G (54, [(5, .inl (.int r1)), (0, .inl (.ref 49)), (1, .inl (.int x)), (2, .inl (.int y)), (3, .inl (.long z))], [.inl (.long z), .inl (.int x13), .inl (.int y), .inl (.ref q10)], h1, 0, 0)))
      refine g_tS (b := 0) (e := te_X5_fit_0) (E' := ze_X5_fit) HW (tLow_of IH hd) (Or.inl rfl) rfl rfl (show te_X5_fit_0 ∈ [te_X5_fit_0] from List.mem_cons_self) (by decide +kernel) (Nat.le_of_ble_eq_true rfl) ⟨rfl, rfl⟩ (by decide) (Nat.le_of_ble_eq_true rfl) ok1.1 ok1.2.1 ⟨okA_If _, okA_Lf _, trivial⟩ (fun v14 T14 h14 m14 k14 f14 l14 r14 => ?_)
      obtain ⟨w14, rfl, hw14, -⟩ := r14
      obtain ⟨x14, rfl, -⟩ := tlong_sp rfl hw14
      have ok14 : wOK (zPhi P) h.length T14 h14 := ⟨k14, f14, Nat.le_trans l14 ok1.2.2⟩
      have hq_q := m14 _ _ hq_q
      have t4 := m14 _ _ t4
      have t9 := m14 _ _ t9
      have hq10 := m14 _ _ hq10
      have t12 := m14 _ _ t12
      show G (57, [(5, .inl (.int r1)), (0, .inl (.ref 49)), (1, .inl (.int x)), (2, .inl (.int y)), (3, .inl (.long z))], [.inl (.long x14), .inl (.int y), .inl (.ref q10)], h14, 0, 0)
      have ok15 : wOK (zPhi P) h.length T14 (hput h14 q10 (y).toInt.toNat (.inl (.long x14))) := wOK_put hst ok14 hq10 rfl ⟨_, rfl⟩
      refine g_last HW rfl ok14.1 hq10 rfl (by omega) (by show _ < (40 : Int); omega) ?_
      refine zrn_ok HW 2 ?_
      exact zret_i rfl rfl (RET (1 : Int32) T14 (hput h14 q10 (y).toInt.toNat (.inl (.long x14))) (tExt_tr (tExt_tr (tExt_rf T) m1) m14) ok15)
    · show G (30, [(5, .inl (.int r1)), (0, .inl (.ref 49)), (1, .inl (.int x)), (2, .inl (.int y)), (3, .inl (.long z))], [.inl (.int (0 : Int32))], h1, 0, 0)
      have n7 : ¬ ((0 : Int) ≤ y.toInt ∧ y.toInt ≤ (x5 - (1 : Int32)).toInt) := by have r0 : (Int32.toInt64 y).toInt = y.toInt := q_i2l _; have r1 : (0 : Int64).toInt = 0 := rfl; have r2 : (Int32.toInt64 (x5 - (1 : Int32))).toInt = (x5 - (1 : Int32)).toInt := q_i2l _; omega
      refine zrn_ok HW 3 (zB_iff.mpr (?_ : G (36, [(5, .inl (.int r1)), (0, .inl (.ref 49)), (1, .inl (.int x)), (2, .inl (.int y)), (3, .inl (.long z))], [.inl (.int (-2 : Int32)), .inl (.ref 49)], h1, 0, 0)))
      refine g_tV (e := te_X5_refuse_0) (E' := ze_X5_refuse) HW (tLow_of IH hd) rfl rfl (show te_X5_refuse_0 ∈ [te_X5_refuse_0] from List.mem_cons_self) (by decide +kernel) (Nat.le_of_ble_eq_true rfl) ⟨rfl, rfl⟩ (by decide) ok1.1 ok1.2.1 rfl hq_q rfl (Nat.le_of_ble_eq_true rfl) ⟨⟨_, rfl, hq_q⟩, okA_I (by decide) (by decide), trivial⟩ (fun v16 T16 h16 m16 k16 f16 lh16 r16 => ?_)
      obtain ⟨w16, rfl, hw16, cd16⟩ := r16
      obtain ⟨x16, rfl, l16, u16⟩ := tint_sp rfl hw16
      have l16 : ((-6) : Int) ≤ x16.toInt := l16
      have u16 : x16.toInt ≤ ((-2) : Int) := u16
      have ok16 : wOK (zPhi P) h.length T16 h16 := ⟨k16, f16, Nat.le_trans lh16 ok1.2.2⟩
      have hq_q := m16 _ _ hq_q
      have t4 := m16 _ _ t4
      show G (39, [(5, .inl (.int r1)), (0, .inl (.ref 49)), (1, .inl (.int x)), (2, .inl (.int y)), (3, .inl (.long z))], [.inl (.int x16)], h16, 0, 0)
      refine zrn_ok HW 1 ?_
      exact zret_i rfl rfl (RET x16 T16 h16 (tExt_tr (tExt_tr (tExt_rf T) m1) m16) ok16)
  · -- pc 12
    have i2 : ¬ (r1.toInt = (0 : Int)) := fun e => hc2 (zop_int.mpr e)
    refine zrn_ok HW 2 ?_
    exact zret_i rfl rfl (RET r1 T1 h1 (tExt_tr (tExt_rf T) m1) ok1)
theorem p_put5063 {P : pP} {T : List Nat} {h : zH} {s : Nat} {x y : Int32} (hok : hOK zty T h) (hs8 : s < 8) (hx : x.toInt = 2 → 0 ≤ y.toInt) (hp : zPhi P T h) : zPhi P T (hput (hput h 50 s (.inl (.int x))) 63 s (.inl (.int y))) := by
  obtain ⟨b1, b2⟩ := p_arr hp
  obtain ⟨w, hw, -⟩ := hOK_get (i := s) hok b1 (by show s < 8; omega)
  obtain ⟨u, hu, -⟩ := hOK_get (i := s) hok b2 (by show s < 8; omega)
  have hu2 : hget (hput h 50 s (.inl (.int x))) 63 s = some u := (hget_put_ne (Or.inl (by decide))).trans hu
  have lay := (hp.2.1 49 5 hp.1.2.2.1 (Or.inl rfl)).2
  obtain ⟨o, b, c, d, e, f, g, k1, k2, k3⟩ := id hp
  have ne : ∀ {p i : Nat}, p ≠ 50 → p ≠ 63 → hget (hput (hput h 50 s (.inl (.int x))) 63 s (.inl (.int y))) p i = hget h p i := fun h1 h2 => (hget_put_ne (Or.inl h2)).trans (hget_put_ne (Or.inl h1))
  refine p_keepG (q := 49) (tExt_rf T) (fun _ _ h _ => h) (fun _ h => Or.inl h) (fun p σ i h1 h2 h3 => ?_) (pJ_put (Or.inl (by decide)) (by decide) (by decide) (by decide) (pJ_put (Or.inl (by decide)) (by decide) (by decide) (by decide) lay)) ?_ ?_ (fun t ht h2 => ?_) (fun μ hb => ?_) (fun hb => pRef_mono (tExt_rf T) (ne (by decide) (by decide)) (g hb)) (pNul_mono (tExt_rf T) (ne (by decide) (by decide)) k1) (pNul_mono (tExt_rf T) (ne (by decide) (by decide)) k2) (pNul_mono (tExt_rf T) (ne (by decide) (by decide)) k3) hp
  · refine ne (fun e => ?_) (fun e => ?_)
    · subst e
      rw [b1] at h1
      cases h1
      exact h3 (Or.inr (Or.inr (Or.inr (Or.inl rfl))))
    · subst e
      rw [b2] at h1
      cases h1
      exact h3 (Or.inr (Or.inr (Or.inr (Or.inr rfl))))
  · rw [hi_eq (ne (by decide) (by decide))]
    exact c
  · rw [hi_eq (ne (by decide) (by decide))]
    exact d
  · rw [hi_put_ne (Or.inl (by decide))] at h2
    by_cases e2 : t = s
    · subst e2
      rw [hi_put hu2]
      rw [hi_put hw] at h2
      exact hx h2
    · rw [hi_put_ne (Or.inr e2), hi_put_ne (Or.inl (by decide))]
      rw [hi_put_ne (Or.inr e2)] at h2
      exact e t ht h2
  · rw [hi_eq (ne (by decide) (by decide))]
    exact f μ hb
theorem tq_X5_show_0 {scr : List zV} {P : pP} : tM zty (zPhi P) zprog scr zhts zsm 222 te_X5_show_0 := by
  have hst := p_stab P
  refine t_hand2 (E := ze_X5_show) (D0 := 2) rfl rfl (by decide +kernel) (fun d T h vs post G hd hok hΦ hlen hvs hp IH HW => ?_)
  obtain ⟨d, rfl⟩ : ∃ d', d = d' + 1 := ⟨d - 1, by omega⟩
  obtain ⟨v_q, vs, rfl, k_q, hvs⟩ := okAs_cons hvs
  obtain ⟨v_x, vs, rfl, k_x, hvs⟩ := okAs_cons hvs
  obtain ⟨v_y, vs, rfl, k_y, hvs⟩ := okAs_cons hvs
  obtain rfl := okAs_nil hvs
  obtain ⟨q, rfl, hq_q⟩ := tref_sp rfl k_q
  have hq_q : T[q]? = some 5 := hq_q
  obtain ⟨x, rfl, bl_x, bu_x⟩ := tint_sp rfl k_x
  have bl_x : ((-2147483648) : Int) ≤ x.toInt := bl_x
  have bu_x : x.toInt ≤ (2147483647 : Int) := bu_x
  obtain ⟨y, rfl, bl_y, bu_y⟩ := tint_sp rfl k_y
  have bl_y : ((-2147483648) : Int) ≤ y.toInt := bl_y
  have bu_y : y.toInt ≤ (2147483647 : Int) := bu_y
  have ok : wOK (zPhi P) h.length T h := ⟨hok, hΦ, Nat.le_refl _⟩
  have RET : ∀ (y : Int32) (T' : List Nat) (h' : zH), tExt T T' → wOK (zPhi P) h.length T' h' → post (some (.inl (.int y))) h' = true := fun y T' h' m' ok' => hp _ T' h' m' ok'.1 ok'.2.1 (by have := ok'.2.2; omega) ⟨_, rfl, okA_If y, fun c hc => by cases hc⟩
  obtain rfl := hΦ.1.2.2.2.2.2 q hq_q
  refine zrn_ok HW 4 (zB_iff.mpr (?_ : G (6, [(0, .inl (.ref 49)), (1, .inl (.int x)), (2, .inl (.int y))], [.inl (.long (7 : Int64)), .inl (.long (0 : Int64)), .inl (.long (Int32.toInt64 x))], h, 0, 0)))
  refine g_callS (b := 0) (E' := ze_X5_in) HW (Or.inl rfl) rfl rfl (Nat.le_of_ble_eq_true rfl) (Nat.le_of_ble_eq_true rfl) (Nat.le_of_ble_eq_true rfl) (Nat.le_of_ble_eq_true rfl) (c_in (fun a1 b1 => zB_iff.mpr ?_) (fun n1 => zB_iff.mpr ?_))
  · show G (9, [(0, .inl (.ref 49)), (1, .inl (.int x)), (2, .inl (.int y))], [.inl (.int (1 : Int32))], h, 0, 0)
    have a1 : (0 : Int) ≤ x.toInt := by have r0 : (Int32.toInt64 x).toInt = x.toInt := q_i2l _; have r1 : (0 : Int64).toInt = 0 := rfl; have r2 : (7 : Int64).toInt = 7 := rfl; omega
    have b1 : x.toInt ≤ (7 : Int) := by have r0 : (Int32.toInt64 x).toInt = x.toInt := q_i2l _; have r1 : (0 : Int64).toInt = 0 := rfl; have r2 : (7 : Int64).toInt = 7 := rfl; omega
    refine zrn_ok HW 4 (zbr_ex (cd := .eq) (x := y) (y := (-1 : Int32)) (fun hc2 => zB_iff.mpr ?_) (fun hc2 => zB_iff.mpr ?_))
    · -- pc 32
      have i2 : y.toInt = (-1 : Int) := zop_int.mp hc2
      refine zrn_ok HW 1 (zB_iff.mpr (?_ : G (33, [(0, .inl (.ref 49)), (1, .inl (.int x)), (2, .inl (.int y))], [.inl (.ref 49)], h, 0, 0)))
      have o4 : hget h 49 0 = some (.inl (.ref 50)) := ((ok.2.1.2.1 49 5 hq_q (Or.inl rfl)).1.1 (0, 1, 24) (by decide +kernel)).1
      have t4 : T[50]? = some 24 := ((ok.2.1.2.1 49 5 hq_q (Or.inl rfl)).1.1 (0, 1, 24) (by decide +kernel)).2
      refine g_getf HW rfl ok.1 hq_q rfl o4 ?_
      refine zrn_ok HW 4 (zbr_ex (cd := .ne) (x := y) (y := (-1 : Int32)) (fun hc5 => zB_iff.mpr ?_) (fun hc5 => zB_iff.mpr ?_))
      · -- pc 46
        have i5 : ¬ y.toInt = (-1 : Int) := zop_int.mp hc5
        refine zrn_ok HW 1 (zB_iff.mpr (?_ : G (47, [(0, .inl (.ref 49)), (1, .inl (.int x)), (2, .inl (.int y))], [.inl (.int (2 : Int32)), .inl (.int x), .inl (.ref 50)], h, 0, 0)))
        have ok6 : wOK (fun _ _ => True) h.length T (hput h 50 (x).toInt.toNat (.inl (.int (2 : Int32)))) := ⟨hOK_put ok.1 t4 ⟨_, rfl, (by show (0 : Int) ≤ Int32.toInt (2 : Int32); decide), (by show Int32.toInt (2 : Int32) ≤ (2 : Int); decide)⟩, trivial, by rw [hput_len]; exact ok.2.2⟩
        refine g_iast HW rfl ok.1 t4 rfl (by omega) (by show _ < (8 : Int); omega) ?_
        refine zrn_ok HW 1 (zB_iff.mpr (?_ : G (49, [(0, .inl (.ref 49)), (1, .inl (.int x)), (2, .inl (.int y))], [.inl (.ref 49)], (hput h 50 (x).toInt.toNat (.inl (.int (2 : Int32)))), 0, 0)))
        have o8 : hget (hput h 50 (x).toInt.toNat (.inl (.int (2 : Int32)))) 49 5 = some (.inl (.ref 63)) := (hget_put_ne (Or.inl (by decide))).trans ((ok.2.1.2.1 49 5 hq_q (Or.inl rfl)).1.1 (5, 14, 29) (by decide +kernel)).1
        have t8 : T[63]? = some 29 := ((ok.2.1.2.1 49 5 hq_q (Or.inl rfl)).1.1 (5, 14, 29) (by decide +kernel)).2
        refine g_getf HW rfl ok6.1 hq_q rfl o8 ?_
        refine zrn_ok HW 2 (zB_iff.mpr (?_ : G (54, [(0, .inl (.ref 49)), (1, .inl (.int x)), (2, .inl (.int y))], [.inl (.int y), .inl (.int x), .inl (.ref 63)], (hput h 50 (x).toInt.toNat (.inl (.int (2 : Int32)))), 0, 0)))
        have ok9 : wOK (zPhi P) h.length T (hput (hput h 50 (x).toInt.toNat (.inl (.int (2 : Int32)))) 63 (x).toInt.toNat (.inl (.int y))) := ⟨hOK_put ok6.1 t8 ⟨_, rfl, (by show ((-1) : Int) ≤ _; omega), (by show _ ≤ (7 : Int); omega)⟩, p_put5063 ok.1 (by omega) (by first | exact fun e => absurd e (by decide) | omega) ok.2.1, by rw [hput_len]; exact ok6.2.2⟩
        refine g_iast HW rfl ok6.1 t8 rfl (by omega) (by show _ < (8 : Int); omega) ?_
        refine zrn_ok HW 2 ?_
        exact zret_i rfl rfl (RET (1 : Int32) T (hput (hput h 50 (x).toInt.toNat (.inl (.int (2 : Int32)))) 63 (x).toInt.toNat (.inl (.int y))) (tExt_rf T) ok9)
      · -- pc 42
        have i5 : ¬ (¬ y.toInt = (-1 : Int)) := fun e => hc5 (zop_int.mpr e)
        refine zrn_ok HW 2 (zB_iff.mpr (?_ : G (47, [(0, .inl (.ref 49)), (1, .inl (.int x)), (2, .inl (.int y))], [.inl (.int (0 : Int32)), .inl (.int x), .inl (.ref 50)], h, 0, 0)))
        have ok10 : wOK (fun _ _ => True) h.length T (hput h 50 (x).toInt.toNat (.inl (.int (0 : Int32)))) := ⟨hOK_put ok.1 t4 ⟨_, rfl, (by show (0 : Int) ≤ Int32.toInt (0 : Int32); decide), (by show Int32.toInt (0 : Int32) ≤ (2 : Int); decide)⟩, trivial, by rw [hput_len]; exact ok.2.2⟩
        refine g_iast HW rfl ok.1 t4 rfl (by omega) (by show _ < (8 : Int); omega) ?_
        refine zrn_ok HW 1 (zB_iff.mpr (?_ : G (49, [(0, .inl (.ref 49)), (1, .inl (.int x)), (2, .inl (.int y))], [.inl (.ref 49)], (hput h 50 (x).toInt.toNat (.inl (.int (0 : Int32)))), 0, 0)))
        have o12 : hget (hput h 50 (x).toInt.toNat (.inl (.int (0 : Int32)))) 49 5 = some (.inl (.ref 63)) := (hget_put_ne (Or.inl (by decide))).trans ((ok.2.1.2.1 49 5 hq_q (Or.inl rfl)).1.1 (5, 14, 29) (by decide +kernel)).1
        have t12 : T[63]? = some 29 := ((ok.2.1.2.1 49 5 hq_q (Or.inl rfl)).1.1 (5, 14, 29) (by decide +kernel)).2
        refine g_getf HW rfl ok10.1 hq_q rfl o12 ?_
        refine zrn_ok HW 2 (zB_iff.mpr (?_ : G (54, [(0, .inl (.ref 49)), (1, .inl (.int x)), (2, .inl (.int y))], [.inl (.int y), .inl (.int x), .inl (.ref 63)], (hput h 50 (x).toInt.toNat (.inl (.int (0 : Int32)))), 0, 0)))
        have ok13 : wOK (zPhi P) h.length T (hput (hput h 50 (x).toInt.toNat (.inl (.int (0 : Int32)))) 63 (x).toInt.toNat (.inl (.int y))) := ⟨hOK_put ok10.1 t12 ⟨_, rfl, (by show ((-1) : Int) ≤ _; omega), (by show _ ≤ (7 : Int); omega)⟩, p_put5063 ok.1 (by omega) (by first | exact fun e => absurd e (by decide) | omega) ok.2.1, by rw [hput_len]; exact ok10.2.2⟩
        refine g_iast HW rfl ok10.1 t12 rfl (by omega) (by show _ < (8 : Int); omega) ?_
        refine zrn_ok HW 2 ?_
        exact zret_i rfl rfl (RET (1 : Int32) T (hput (hput h 50 (x).toInt.toNat (.inl (.int (0 : Int32)))) 63 (x).toInt.toNat (.inl (.int y))) (tExt_rf T) ok13)
    · -- pc 17
      have i2 : ¬ (y.toInt = (-1 : Int)) := fun e => hc2 (zop_int.mpr e)
      refine zrn_ok HW 2 (zB_iff.mpr (?_ : G (19, [(0, .inl (.ref 49)), (1, .inl (.int x)), (2, .inl (.int y))], [.inl (.int y), .inl (.ref 49)], h, 0, 0)))
      refine g_tV (e := te_X5_isThing_0) (E' := ze_X5_isThing) HW (tLow_of IH hd) rfl rfl (show te_X5_isThing_0 ∈ [te_X5_isThing_0, te_X5_isThing_1] from by simp) (by decide +kernel) (Nat.le_of_ble_eq_true rfl) ⟨rfl, rfl⟩ (by decide) ok.1 ok.2.1 rfl hq_q rfl (Nat.le_of_ble_eq_true rfl) ⟨⟨_, rfl, hq_q⟩, okA_If _, trivial⟩ (fun v14 T14 h14 m14 k14 f14 lh14 r14 => ?_)
      obtain ⟨w14, rfl, hw14, cd14⟩ := r14
      obtain ⟨x14, rfl, l14, u14⟩ := tint_sp rfl hw14
      have l14 : (0 : Int) ≤ x14.toInt := l14
      have u14 : x14.toInt ≤ (1 : Int) := u14
      have cd14_0 : ¬ x14.toInt = 0 → 0 ≤ y.toInt ∧ y.toInt ≤ 7 := fun hne => by obtain ⟨a, ha, hb, hc⟩ := cd14 (1, 0, 7) (by simp) (fun he => hne (by cases he; rfl)); cases ha; exact ⟨hb, hc⟩
      have ok14 : wOK (zPhi P) h.length T14 h14 := ⟨k14, f14, Nat.le_trans lh14 ok.2.2⟩
      have hq_q := m14 _ _ hq_q
      show G (22, [(0, .inl (.ref 49)), (1, .inl (.int x)), (2, .inl (.int y))], [.inl (.int x14)], h14, 0, 0)
      refine zrn_ok HW 1 (zbr_ex (cd := .ne) (x := x14) (y := (0 : Int32)) (fun hc15 => zB_iff.mpr ?_) (fun hc15 => zB_iff.mpr ?_))
      · -- pc 32
        have i15 : ¬ x14.toInt = (0 : Int) := zop_int.mp hc15
        refine zrn_ok HW 1 (zB_iff.mpr (?_ : G (33, [(0, .inl (.ref 49)), (1, .inl (.int x)), (2, .inl (.int y))], [.inl (.ref 49)], h14, 0, 0)))
        have o17 : hget h14 49 0 = some (.inl (.ref 50)) := ((ok14.2.1.2.1 49 5 hq_q (Or.inl rfl)).1.1 (0, 1, 24) (by decide +kernel)).1
        have t17 : T14[50]? = some 24 := ((ok14.2.1.2.1 49 5 hq_q (Or.inl rfl)).1.1 (0, 1, 24) (by decide +kernel)).2
        refine g_getf HW rfl ok14.1 hq_q rfl o17 ?_
        refine zrn_ok HW 4 (zbr_ex (cd := .ne) (x := y) (y := (-1 : Int32)) (fun hc18 => zB_iff.mpr ?_) (fun hc18 => zB_iff.mpr ?_))
        · -- pc 46
          have i18 : ¬ y.toInt = (-1 : Int) := zop_int.mp hc18
          refine zrn_ok HW 1 (zB_iff.mpr (?_ : G (47, [(0, .inl (.ref 49)), (1, .inl (.int x)), (2, .inl (.int y))], [.inl (.int (2 : Int32)), .inl (.int x), .inl (.ref 50)], h14, 0, 0)))
          have ok19 : wOK (fun _ _ => True) h.length T14 (hput h14 50 (x).toInt.toNat (.inl (.int (2 : Int32)))) := ⟨hOK_put ok14.1 t17 ⟨_, rfl, (by show (0 : Int) ≤ Int32.toInt (2 : Int32); decide), (by show Int32.toInt (2 : Int32) ≤ (2 : Int); decide)⟩, trivial, by rw [hput_len]; exact ok14.2.2⟩
          refine g_iast HW rfl ok14.1 t17 rfl (by omega) (by show _ < (8 : Int); omega) ?_
          refine zrn_ok HW 1 (zB_iff.mpr (?_ : G (49, [(0, .inl (.ref 49)), (1, .inl (.int x)), (2, .inl (.int y))], [.inl (.ref 49)], (hput h14 50 (x).toInt.toNat (.inl (.int (2 : Int32)))), 0, 0)))
          have o21 : hget (hput h14 50 (x).toInt.toNat (.inl (.int (2 : Int32)))) 49 5 = some (.inl (.ref 63)) := (hget_put_ne (Or.inl (by decide))).trans ((ok14.2.1.2.1 49 5 hq_q (Or.inl rfl)).1.1 (5, 14, 29) (by decide +kernel)).1
          have t21 : T14[63]? = some 29 := ((ok14.2.1.2.1 49 5 hq_q (Or.inl rfl)).1.1 (5, 14, 29) (by decide +kernel)).2
          refine g_getf HW rfl ok19.1 hq_q rfl o21 ?_
          refine zrn_ok HW 2 (zB_iff.mpr (?_ : G (54, [(0, .inl (.ref 49)), (1, .inl (.int x)), (2, .inl (.int y))], [.inl (.int y), .inl (.int x), .inl (.ref 63)], (hput h14 50 (x).toInt.toNat (.inl (.int (2 : Int32)))), 0, 0)))
          have ok22 : wOK (zPhi P) h.length T14 (hput (hput h14 50 (x).toInt.toNat (.inl (.int (2 : Int32)))) 63 (x).toInt.toNat (.inl (.int y))) := ⟨hOK_put ok19.1 t21 ⟨_, rfl, (by show ((-1) : Int) ≤ _; omega), (by show _ ≤ (7 : Int); omega)⟩, p_put5063 ok14.1 (by omega) (by first | exact fun e => absurd e (by decide) | omega) ok14.2.1, by rw [hput_len]; exact ok19.2.2⟩
          refine g_iast HW rfl ok19.1 t21 rfl (by omega) (by show _ < (8 : Int); omega) ?_
          refine zrn_ok HW 2 ?_
          exact zret_i rfl rfl (RET (1 : Int32) T14 (hput (hput h14 50 (x).toInt.toNat (.inl (.int (2 : Int32)))) 63 (x).toInt.toNat (.inl (.int y))) (tExt_tr (tExt_rf T) m14) ok22)
        · -- pc 42
          have i18 : ¬ (¬ y.toInt = (-1 : Int)) := fun e => hc18 (zop_int.mpr e)
          refine zrn_ok HW 2 (zB_iff.mpr (?_ : G (47, [(0, .inl (.ref 49)), (1, .inl (.int x)), (2, .inl (.int y))], [.inl (.int (0 : Int32)), .inl (.int x), .inl (.ref 50)], h14, 0, 0)))
          have ok23 : wOK (fun _ _ => True) h.length T14 (hput h14 50 (x).toInt.toNat (.inl (.int (0 : Int32)))) := ⟨hOK_put ok14.1 t17 ⟨_, rfl, (by show (0 : Int) ≤ Int32.toInt (0 : Int32); decide), (by show Int32.toInt (0 : Int32) ≤ (2 : Int); decide)⟩, trivial, by rw [hput_len]; exact ok14.2.2⟩
          refine g_iast HW rfl ok14.1 t17 rfl (by omega) (by show _ < (8 : Int); omega) ?_
          refine zrn_ok HW 1 (zB_iff.mpr (?_ : G (49, [(0, .inl (.ref 49)), (1, .inl (.int x)), (2, .inl (.int y))], [.inl (.ref 49)], (hput h14 50 (x).toInt.toNat (.inl (.int (0 : Int32)))), 0, 0)))
          have o25 : hget (hput h14 50 (x).toInt.toNat (.inl (.int (0 : Int32)))) 49 5 = some (.inl (.ref 63)) := (hget_put_ne (Or.inl (by decide))).trans ((ok14.2.1.2.1 49 5 hq_q (Or.inl rfl)).1.1 (5, 14, 29) (by decide +kernel)).1
          have t25 : T14[63]? = some 29 := ((ok14.2.1.2.1 49 5 hq_q (Or.inl rfl)).1.1 (5, 14, 29) (by decide +kernel)).2
          refine g_getf HW rfl ok23.1 hq_q rfl o25 ?_
          refine zrn_ok HW 2 (zB_iff.mpr (?_ : G (54, [(0, .inl (.ref 49)), (1, .inl (.int x)), (2, .inl (.int y))], [.inl (.int y), .inl (.int x), .inl (.ref 63)], (hput h14 50 (x).toInt.toNat (.inl (.int (0 : Int32)))), 0, 0)))
          have ok26 : wOK (zPhi P) h.length T14 (hput (hput h14 50 (x).toInt.toNat (.inl (.int (0 : Int32)))) 63 (x).toInt.toNat (.inl (.int y))) := ⟨hOK_put ok23.1 t25 ⟨_, rfl, (by show ((-1) : Int) ≤ _; omega), (by show _ ≤ (7 : Int); omega)⟩, p_put5063 ok14.1 (by omega) (by first | exact fun e => absurd e (by decide) | omega) ok14.2.1, by rw [hput_len]; exact ok23.2.2⟩
          refine g_iast HW rfl ok23.1 t25 rfl (by omega) (by show _ < (8 : Int); omega) ?_
          refine zrn_ok HW 2 ?_
          exact zret_i rfl rfl (RET (1 : Int32) T14 (hput (hput h14 50 (x).toInt.toNat (.inl (.int (0 : Int32)))) 63 (x).toInt.toNat (.inl (.int y))) (tExt_tr (tExt_rf T) m14) ok26)
      · -- pc 25
        have i15 : ¬ (¬ x14.toInt = (0 : Int)) := fun e => hc15 (zop_int.mpr e)
        refine zrn_ok HW 2 (zB_iff.mpr (?_ : G (28, [(0, .inl (.ref 49)), (1, .inl (.int x)), (2, .inl (.int y))], [.inl (.int (-2 : Int32)), .inl (.ref 49)], h14, 0, 0)))
        refine g_tV (e := te_X5_refuse_0) (E' := ze_X5_refuse) HW (tLow_of IH hd) rfl rfl (show te_X5_refuse_0 ∈ [te_X5_refuse_0] from List.mem_cons_self) (by decide +kernel) (Nat.le_of_ble_eq_true rfl) ⟨rfl, rfl⟩ (by decide) ok14.1 ok14.2.1 rfl hq_q rfl (Nat.le_of_ble_eq_true rfl) ⟨⟨_, rfl, hq_q⟩, okA_I (by decide) (by decide), trivial⟩ (fun v27 T27 h27 m27 k27 f27 lh27 r27 => ?_)
        obtain ⟨w27, rfl, hw27, cd27⟩ := r27
        obtain ⟨x27, rfl, l27, u27⟩ := tint_sp rfl hw27
        have l27 : ((-6) : Int) ≤ x27.toInt := l27
        have u27 : x27.toInt ≤ ((-2) : Int) := u27
        have ok27 : wOK (zPhi P) h.length T27 h27 := ⟨k27, f27, Nat.le_trans lh27 ok14.2.2⟩
        have hq_q := m27 _ _ hq_q
        show G (31, [(0, .inl (.ref 49)), (1, .inl (.int x)), (2, .inl (.int y))], [.inl (.int x27)], h27, 0, 0)
        refine zrn_ok HW 1 ?_
        exact zret_i rfl rfl (RET x27 T27 h27 (tExt_tr (tExt_tr (tExt_rf T) m14) m27) ok27)
  · show G (9, [(0, .inl (.ref 49)), (1, .inl (.int x)), (2, .inl (.int y))], [.inl (.int (0 : Int32))], h, 0, 0)
    have n1 : ¬ ((0 : Int) ≤ x.toInt ∧ x.toInt ≤ (7 : Int)) := by have r0 : (Int32.toInt64 x).toInt = x.toInt := q_i2l _; have r1 : (0 : Int64).toInt = 0 := rfl; have r2 : (7 : Int64).toInt = 7 := rfl; omega
    refine zrn_ok HW 3 (zB_iff.mpr (?_ : G (28, [(0, .inl (.ref 49)), (1, .inl (.int x)), (2, .inl (.int y))], [.inl (.int (-2 : Int32)), .inl (.ref 49)], h, 0, 0)))
    refine g_tV (e := te_X5_refuse_0) (E' := ze_X5_refuse) HW (tLow_of IH hd) rfl rfl (show te_X5_refuse_0 ∈ [te_X5_refuse_0] from List.mem_cons_self) (by decide +kernel) (Nat.le_of_ble_eq_true rfl) ⟨rfl, rfl⟩ (by decide) ok.1 ok.2.1 rfl hq_q rfl (Nat.le_of_ble_eq_true rfl) ⟨⟨_, rfl, hq_q⟩, okA_I (by decide) (by decide), trivial⟩ (fun v28 T28 h28 m28 k28 f28 lh28 r28 => ?_)
    obtain ⟨w28, rfl, hw28, cd28⟩ := r28
    obtain ⟨x28, rfl, l28, u28⟩ := tint_sp rfl hw28
    have l28 : ((-6) : Int) ≤ x28.toInt := l28
    have u28 : x28.toInt ≤ ((-2) : Int) := u28
    have ok28 : wOK (zPhi P) h.length T28 h28 := ⟨k28, f28, Nat.le_trans lh28 ok.2.2⟩
    have hq_q := m28 _ _ hq_q
    show G (31, [(0, .inl (.ref 49)), (1, .inl (.int x)), (2, .inl (.int y))], [.inl (.int x28)], h28, 0, 0)
    refine zrn_ok HW 1 ?_
    exact zret_i rfl rfl (RET x28 T28 h28 (tExt_tr (tExt_rf T) m28) ok28)
