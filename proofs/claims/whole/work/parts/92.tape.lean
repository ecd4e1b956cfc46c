theorem c5_wipe {n m : Int} {r : Option Int} {v : Bool} {N : Nat} {scr : List zV} {d : Nat} {T : List Nat} {h : zH} {post : Option zV → zH → Bool} (ok : wOK (zPhi (n, m, r, v)) N T h) (kk : ∀ (y : Int32) (h' : zH), y.toInt = m → wOK (zPhi (n, 0, none, v)) N T h' → post (some (.inl (.int y))) h' = true) : zD zprog scr (d + 1) 244 [.inl (.ref 49)] h post = true := by
  have hq_q := ok.2.1.1.2.2.1
  have hm : hi h 49 7 = m := ok.2.1.2.2.2.1
  refine zD_intro (E := ze_X5_wipe) rfl rfl (fun G HW => ?_)
  refine zrn_ok HW 1 (zB_iff.mpr (?_ : G (1, [(0, .inl (.ref 49))], [.inl (.ref 49)], h, 0, 0)))
  obtain ⟨x1, g1, e1, l1, u1⟩ := hi_val (i := 7) ok.1 hq_q (by decide) rfl
  have l1 : (0 : Int) ≤ x1.toInt := l1
  have u1 : x1.toInt ≤ (250 : Int) := u1
  refine g_getf HW rfl ok.1 hq_q rfl g1 ?_
  refine zrn_ok HW 3 (zB_iff.mpr (?_ : G (7, [(1, .inl (.int x1)), (0, .inl (.ref 49))], [.inl (.int (0 : Int32)), .inl (.ref 49)], h, 0, 0)))
  have ok2 : wOK (zPhi (n, ((0 : Int32)).toInt, none, v)) N T (hput h 49 7 (.inl (.int (0 : Int32)))) := ⟨hOK_put ok.1 hq_q ⟨_, rfl, (by show (0 : Int) ≤ Int32.toInt (0 : Int32); decide), (by show Int32.toInt (0 : Int32) ≤ (250 : Int); decide)⟩, p_put7 ok.1 ok.2.1, by rw [hput_len]; exact ok.2.2⟩
  refine g_putf HW rfl ok.1 hq_q rfl (by decide) rfl ?_
  refine zrn_ok HW 2 ?_
  exact zret_i rfl rfl (kk _ _ (by omega) ok2)
theorem c5_feed {n m : Int} {r : Option Int} {v : Bool} {N : Nat} {scr : List zV} {d : Nat} {T : List Nat} {h : zH} {x : Int32} {post : Option zV → zH → Bool} (IH : tBel (zPhi (n, m, r, v)) scr 1) (ok : wOK (zPhi (n, m, r, v)) N T h) (kk : ∀ (y : Int32) (T' : List Nat) (h' : zH), tExt T T' → wOK (zPhi (n, pFeed x.toInt m, none, v)) N T' h' → post (some (.inl (.int y))) h' = true) : zD zprog scr (d + 2) 177 [.inl (.ref 49), .inl (.int x)] h post = true := by
  have hd : 1 ≤ d + 1 := by omega
  have hq_q := ok.2.1.1.2.2.1
  have hst := p_stab (n, m, r, v)
  have hm : hi h 49 7 = m := ok.2.1.2.2.2.1
  have dn : ∀ (T' : List Nat) (hl : zH), wOK (zPhi (n, m, r, v)) N T' hl → wOK (zPhi (n, m, none, v)) N T' hl := fun T' hl okl => by
    obtain ⟨c1, ⟨p1, p2, p3, p4, p5, p6, p7⟩, c3⟩ := okl
    exact ⟨c1, ⟨p1, p2, p3, p4, p5, (fun κ hκ => by cases hκ), p7⟩, c3⟩
  refine zD_intro (E := ze_X5_feed) rfl rfl (fun G HW => ?_)
  refine zrn_ok HW 4 (zB_iff.mpr (?_ : G (6, [(0, .inl (.ref 49)), (1, .inl (.int x))], [.inl (.long (255 : Int64)), .inl (.long (0 : Int64)), .inl (.long (Int32.toInt64 x))], h, 0, 0)))
  refine g_callS (b := 0) (E' := ze_X5_in) HW (Or.inl rfl) rfl rfl (Nat.le_of_ble_eq_true rfl) (Nat.le_of_ble_eq_true rfl) (Nat.le_of_ble_eq_true rfl) (Nat.le_of_ble_eq_true rfl) (c_in (fun a1 b1 => zB_iff.mpr ?_) (fun n1 => zB_iff.mpr ?_))
  · show G (9, [(0, .inl (.ref 49)), (1, .inl (.int x))], [.inl (.int (1 : Int32))], h, 0, 0)
    have a1 : (0 : Int) ≤ x.toInt := by have r0 : (Int32.toInt64 x).toInt = x.toInt := q_i2l _; have r1 : (0 : Int64).toInt = 0 := rfl; have r2 : (255 : Int64).toInt = 255 := rfl; omega
    have b1 : x.toInt ≤ (255 : Int) := by have r0 : (Int32.toInt64 x).toInt = x.toInt := q_i2l _; have r1 : (0 : Int64).toInt = 0 := rfl; have r2 : (255 : Int64).toInt = 255 := rfl; omega
    refine zrn_ok HW 2 (zB_iff.mpr (?_ : G (20, [(0, .inl (.ref 49)), (1, .inl (.int x))], [.inl (.ref 49)], h, 0, 0)))
    obtain ⟨x2, g2, e2, l2, u2⟩ := hi_val (i := 7) ok.1 hq_q (by decide) rfl
    have l2 : (0 : Int) ≤ x2.toInt := l2
    have u2 : x2.toInt ≤ (250 : Int) := u2
    refine g_getf HW rfl ok.1 hq_q rfl g2 ?_
    refine zrn_ok HW 2 (zbr_ex (cd := .ne) (x := x2) (y := (250 : Int32)) (fun hc3 => zB_iff.mpr ?_) (fun hc3 => zB_iff.mpr ?_))
    · -- pc 36
      have i3 : ¬ x2.toInt = (250 : Int) := zop_int.mp hc3
      refine zrn_ok HW 1 (zB_iff.mpr (?_ : G (37, [(0, .inl (.ref 49)), (1, .inl (.int x))], [.inl (.ref 49)], h, 0, 0)))
      have o5 : hget h 49 6 = some (.inl (.ref 64)) := ((ok.2.1.2.1 49 5 hq_q (Or.inl rfl)).1.1 (6, 15, 18) (by decide +kernel)).1
      have t5 : T[64]? = some 18 := ((ok.2.1.2.1 49 5 hq_q (Or.inl rfl)).1.1 (6, 15, 18) (by decide +kernel)).2
      refine g_getf HW rfl ok.1 hq_q rfl o5 ?_
      refine zrn_ok HW 2 (zB_iff.mpr (?_ : G (42, [(0, .inl (.ref 49)), (1, .inl (.int x))], [.inl (.ref 49), .inl (.ref 49), .inl (.ref 64)], h, 0, 0)))
      refine g_getf HW rfl ok.1 hq_q rfl g2 ?_
      have y7 : -2147483648 ≤ x2.toInt + (1 : Int) → x2.toInt + (1 : Int) ≤ 2147483647 → (x2 + (1 : Int32)).toInt = x2.toInt + (1 : Int) := t_addC (x := x2) (y := (1 : Int32))
      refine zrn_ok HW 3 (zB_iff.mpr (?_ : G (48, [(0, .inl (.ref 49)), (1, .inl (.int x))], [.inl (.int (x2 + (1 : Int32))), .inl (.ref 49), .inl (.int x2), .inl (.ref 64)], h, 0, 0)))
      have ok8 : wOK (zPhi (n, ((x2 + (1 : Int32))).toInt, none, v)) N T (hput h 49 7 (.inl (.int (x2 + (1 : Int32))))) := ⟨hOK_put ok.1 hq_q ⟨_, rfl, (by show (0 : Int) ≤ _; omega), (by show _ ≤ (250 : Int); omega)⟩, p_put7 ok.1 ok.2.1, by rw [hput_len]; exact ok.2.2⟩
      refine g_putf HW rfl ok.1 hq_q rfl (by decide) rfl ?_
      refine zrn_ok HW 1 (zB_iff.mpr (?_ : G (52, [(0, .inl (.ref 49)), (1, .inl (.int x))], [.inl (.int x), .inl (.int x2), .inl (.ref 64)], (hput h 49 7 (.inl (.int (x2 + (1 : Int32))))), 0, 0)))
      have ok9 : wOK (zPhi (n, ((x2 + (1 : Int32))).toInt, none, v)) N T (hput (hput h 49 7 (.inl (.int (x2 + (1 : Int32))))) 64 (x2).toInt.toNat (.inl (.int x))) := wOK_put (p_stab _) ok8 t5 rfl ⟨_, rfl, (by show (0 : Int) ≤ _; omega), (by show _ ≤ (255 : Int); omega)⟩
      refine g_iast HW rfl ok8.1 t5 rfl (by omega) (by show _ < (250 : Int); omega) ?_
      refine zrn_ok HW 1 (zB_iff.mpr (?_ : G (54, [(0, .inl (.ref 49)), (1, .inl (.int x))], [.inl (.ref 49)], (hput (hput h 49 7 (.inl (.int (x2 + (1 : Int32))))) 64 (x2).toInt.toNat (.inl (.int x))), 0, 0)))
      obtain ⟨x10, g10, e10, l10, u10⟩ := hi_val (i := 7) ok9.1 hq_q (by decide) rfl
      have l10 : (0 : Int) ≤ x10.toInt := l10
      have u10 : x10.toInt ≤ (250 : Int) := u10
      refine g_getf HW rfl ok9.1 hq_q rfl g10 ?_
      refine zrn_ok HW 1 ?_
      have ef : pFeed x.toInt m = ((x2 + (1 : Int32))).toInt := by rw [pFeed, if_pos (by omega)]; omega
      exact zret_i rfl rfl (kk _ T _ (tExt_rf T) (by rw [ef]; exact ok9))
    · -- pc 29
      have i3 : ¬ (¬ x2.toInt = (250 : Int)) := fun e => hc3 (zop_int.mpr e)
      refine zrn_ok HW 2 (zB_iff.mpr (?_ : G (32, [(0, .inl (.ref 49)), (1, .inl (.int x))], [.inl (.int (-6 : Int32)), .inl (.ref 49)], h, 0, 0)))
      refine g_tV (e := te_X5_refuse_0) (E' := ze_X5_refuse) HW (tLow_of IH hd) rfl rfl (show te_X5_refuse_0 ∈ [te_X5_refuse_0] from List.mem_cons_self) (by decide +kernel) (Nat.le_of_ble_eq_true rfl) ⟨rfl, rfl⟩ (by decide) ok.1 ok.2.1 rfl hq_q rfl (Nat.le_of_ble_eq_true rfl) ⟨⟨_, rfl, hq_q⟩, okA_I (by decide) (by decide), trivial⟩ (fun v11 T11 h11 m11 k11 f11 lh11 r11 => ?_)
      obtain ⟨w11, rfl, hw11, cd11⟩ := r11
      obtain ⟨x11, rfl, l11, u11⟩ := tint_sp rfl hw11
      have l11 : ((-6) : Int) ≤ x11.toInt := l11
      have u11 : x11.toInt ≤ ((-2) : Int) := u11
      have ok11 : wOK (zPhi (n, m, r, v)) N T11 h11 := ⟨k11, f11, Nat.le_trans lh11 ok.2.2⟩
      have hq_q := m11 _ _ hq_q
      show G (35, [(0, .inl (.ref 49)), (1, .inl (.int x))], [.inl (.int x11)], h11, 0, 0)
      refine zrn_ok HW 1 ?_
      have ef : pFeed x.toInt m = m := if_neg (by omega)
      exact zret_i rfl rfl (kk _ T11 _ (tExt_tr (tExt_rf T) m11) (by rw [ef]; exact dn _ _ ok11))
  · show G (9, [(0, .inl (.ref 49)), (1, .inl (.int x))], [.inl (.int (0 : Int32))], h, 0, 0)
    have n1 : ¬ ((0 : Int) ≤ x.toInt ∧ x.toInt ≤ (255 : Int)) := by have r0 : (Int32.toInt64 x).toInt = x.toInt := q_i2l _; have r1 : (0 : Int64).toInt = 0 := rfl; have r2 : (255 : Int64).toInt = 255 := rfl; omega
    refine zrn_ok HW 3 (zB_iff.mpr (?_ : G (15, [(0, .inl (.ref 49)), (1, .inl (.int x))], [.inl (.int (-2 : Int32)), .inl (.ref 49)], h, 0, 0)))
    refine g_tV (e := te_X5_refuse_0) (E' := ze_X5_refuse) HW (tLow_of IH hd) rfl rfl (show te_X5_refuse_0 ∈ [te_X5_refuse_0] from List.mem_cons_self) (by decide +kernel) (Nat.le_of_ble_eq_true rfl) ⟨rfl, rfl⟩ (by decide) ok.1 ok.2.1 rfl hq_q rfl (Nat.le_of_ble_eq_true rfl) ⟨⟨_, rfl, hq_q⟩, okA_I (by decide) (by decide), trivial⟩ (fun v12 T12 h12 m12 k12 f12 lh12 r12 => ?_)
    obtain ⟨w12, rfl, hw12, cd12⟩ := r12
    obtain ⟨x12, rfl, l12, u12⟩ := tint_sp rfl hw12
    have l12 : ((-6) : Int) ≤ x12.toInt := l12
    have u12 : x12.toInt ≤ ((-2) : Int) := u12
    have ok12 : wOK (zPhi (n, m, r, v)) N T12 h12 := ⟨k12, f12, Nat.le_trans lh12 ok.2.2⟩
    have hq_q := m12 _ _ hq_q
    show G (18, [(0, .inl (.ref 49)), (1, .inl (.int x))], [.inl (.int x12)], h12, 0, 0)
    refine zrn_ok HW 1 ?_
    have ef : pFeed x.toInt m = m := if_neg (by omega)
    exact zret_i rfl rfl (kk _ T12 _ (tExt_tr (tExt_rf T) m12) (by rw [ef]; exact dn _ _ ok12))
theorem c5_stall {n m : Int} {r : Option Int} {v : Bool} {N : Nat} {scr : List zV} {d : Nat} {T : List Nat} {h : zH} {post : Option zV → zH → Bool} (IH : tBel (zPhi (n, 0, none, v)) scr 1) (ok : wOK (zPhi (n, m, r, v)) N T h) (hN : h.length + 30 ≤ N) (h6 : N ≤ 1000000) (kk : ∀ (y : Int32) (T' : List Nat) (h' : zH), tExt T T' → wOK (zPhi (n, 0, none, v)) N T' h' → post (some (.inl (.int y))) h' = true) : zD zprog scr (d + 8) 225 [.inl (.ref 49)] h post = true := by
  have hd : 1 ≤ d + 7 := by omega
  have hq_q := ok.2.1.1.2.2.1
  refine zD_intro (E := ze_X5_stall) rfl rfl (fun G HW => ?_)
  refine zrn_ok HW 1 (zB_iff.mpr (?_ : G (1, [(0, .inl (.ref 49))], [.inl (.ref 49)], h, 0, 0)))
  refine g_callV (E' := ze_X5_fresh) HW rfl rfl (Nat.le_of_ble_eq_true rfl) (Nat.le_of_ble_eq_true rfl) (Nat.le_of_ble_eq_true rfl) ok.1 rfl hq_q rfl (Nat.le_of_ble_eq_true rfl) (c_fresh ok hN h6 (fun w1 T1 h1 m1 ok1 tw1 f281 => zB_iff.mpr ?_))
  show G (4, [(0, .inl (.ref 49))], [.inl (.ref w1)], h1, 30, 843)
  have hq_q := m1 _ _ hq_q
  refine zrn_ok HW 2 (zB_iff.mpr (?_ : G (6, [(1, .inl (.ref w1)), (0, .inl (.ref 49))], [.inl (.ref 49)], h1, 30, 843)))
  refine g_callV (E' := ze_X5_readAll) HW rfl rfl (Nat.le_of_ble_eq_true rfl) (Nat.le_of_ble_eq_true rfl) (Nat.le_of_ble_eq_true rfl) ok1.1 rfl hq_q rfl (Nat.le_of_ble_eq_true rfl) (c_readAll ok1 (fun y2 h2 e2 ok2 => zB_iff.mpr ?_))
  show G (9, [(1, .inl (.ref w1)), (0, .inl (.ref 49))], [.inl (.int y2)], h2, 30, 843)
  refine zrn_ok HW 3 (zB_iff.mpr (?_ : G (12, [(2, .inl (.int y2)), (1, .inl (.ref w1)), (0, .inl (.ref 49))], [.inl (.int (0 : Int32)), .inl (.ref 49)], h2, 30, 843)))
  have ok3 : wOK (zPhi (n, ((0 : Int32)).toInt, none, v)) N T1 (hput h2 49 7 (.inl (.int (0 : Int32)))) := ⟨hOK_put ok2.1 hq_q ⟨_, rfl, (by show (0 : Int) ≤ Int32.toInt (0 : Int32); decide), (by show Int32.toInt (0 : Int32) ≤ (250 : Int); decide)⟩, p_put7 ok2.1 ok2.2.1, by rw [hput_len]; exact ok2.2.2⟩
  refine g_putf HW rfl ok2.1 hq_q rfl (by decide) rfl ?_
  refine zrn_ok HW 2 (zbr_ex (cd := .ne) (x := y2) (y := (0 : Int32)) (fun hc4 => zB_iff.mpr ?_) (fun hc4 => zB_iff.mpr ?_))
  · -- pc 39
    have i4 : ¬ y2.toInt = (0 : Int) := zop_int.mp hc4
    refine zrn_ok HW 1 (zB_iff.mpr (?_ : G (40, [(2, .inl (.int y2)), (1, .inl (.ref w1)), (0, .inl (.ref 49))], [.inl (.ref 49)], (hput h2 49 7 (.inl (.int (0 : Int32)))), 30, 843)))
    obtain ⟨x5, g5, e5, l5, u5⟩ := hi_val (i := 34) ok3.1 hq_q (by decide) rfl
    have l5 : ((-2147483648) : Int) ≤ x5.toInt := l5
    have u5 : x5.toInt ≤ (2147483647 : Int) := u5
    refine g_getf HW rfl ok3.1 hq_q rfl g5 ?_
    refine zrn_ok HW 1 ?_
    exact zret_i rfl rfl (kk _ T1 _ (tExt_tr (tExt_rf T) m1) ok3)
  · -- pc 19
    have i4 : ¬ (¬ y2.toInt = (0 : Int)) := fun e => hc4 (zop_int.mpr e)
    refine zrn_ok HW 2 (zB_iff.mpr (?_ : G (21, [(2, .inl (.int y2)), (1, .inl (.ref w1)), (0, .inl (.ref 49))], [.inl (.ref w1), .inl (.ref 49)], (hput h2 49 7 (.inl (.int (0 : Int32)))), 30, 843)))
    refine g_callV (E' := ze_X5_takeFrom) HW rfl rfl (Nat.le_of_ble_eq_true rfl) (Nat.le_of_ble_eq_true rfl) (Nat.le_of_ble_eq_true rfl) ok3.1 rfl hq_q rfl (Nat.le_of_ble_eq_true rfl) (c_takeFrom5 ok3 hq_q tw1 (fun h6 ok6 f286 f496 => zB_iff.mpr ?_))
    show G (24, [(2, .inl (.int y2)), (1, .inl (.ref w1)), (0, .inl (.ref 49))], [], h6, 30, 843)
    refine zrn_ok HW 2 (zB_iff.mpr (?_ : G (27, [(2, .inl (.int y2)), (1, .inl (.ref w1)), (0, .inl (.ref 49))], [.inl (.int (-2 : Int32)), .inl (.ref 49)], h6, 30, 843)))
    refine g_tV (e := te_X5_refuse_0) (E' := ze_X5_refuse) HW (tLow_of IH hd) rfl rfl (show te_X5_refuse_0 ∈ [te_X5_refuse_0] from List.mem_cons_self) (by decide +kernel) (Nat.le_of_ble_eq_true rfl) ⟨rfl, rfl⟩ (by decide) ok6.1 ok6.2.1 rfl hq_q rfl (Nat.le_of_ble_eq_true rfl) ⟨⟨_, rfl, hq_q⟩, okA_I (by decide) (by decide), trivial⟩ (fun v7 T7 h7 m7 k7 f7 lh7 r7 => ?_)
    obtain ⟨w7, rfl, hw7, cd7⟩ := r7
    obtain ⟨x7, rfl, l7, u7⟩ := tint_sp rfl hw7
    have l7 : ((-6) : Int) ≤ x7.toInt := l7
    have u7 : x7.toInt ≤ ((-2) : Int) := u7
    have ok7 : wOK (zPhi (n, ((0 : Int32)).toInt, none, v)) N T7 h7 := ⟨k7, f7, Nat.le_trans lh7 ok6.2.2⟩
    have hq_q := m7 _ _ hq_q
    have tw1 := m7 _ _ tw1
    show G (30, [(2, .inl (.int y2)), (1, .inl (.ref w1)), (0, .inl (.ref 49))], [.inl (.int x7)], h7, 30, 843)
    refine zrn_ok HW 3 (zB_iff.mpr (?_ : G (34, [(2, .inl (.int y2)), (1, .inl (.ref w1)), (0, .inl (.ref 49))], [.inl (.ref 49), .inl (.int (-20 : Int32))], h7, 30, 843)))
    obtain ⟨x8, g8, e8, l8, u8⟩ := hi_val (i := 32) ok7.1 hq_q (by decide) rfl
    have l8 : ((-2147483648) : Int) ≤ x8.toInt := l8
    have u8 : x8.toInt ≤ (2147483647 : Int) := u8
    refine g_getf HW rfl ok7.1 hq_q rfl g8 ?_
    refine zrn_ok HW 2 ?_
    exact zret_i rfl rfl (kk _ T7 _ (tExt_tr (tExt_tr (tExt_rf T) m1) m7) ok7)
