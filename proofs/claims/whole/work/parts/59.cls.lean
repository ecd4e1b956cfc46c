theorem c_hasElements {Φ : List Nat → zH → Prop} {N : Nat} {scr : List zV} {d : Nat} {T : List Nat} {h : zH} {q : Nat} {i n : Int32} {post : Option zV → zH → Bool} (ok : wOK Φ N T h) (hq_q : T[q]? = some 0) (k1 : 0 ≤ i.toInt → 0 ≤ n.toInt → i.toInt + n.toInt ≤ 40 → post (some (.inl (.int 1))) h = true) (k0 : post (some (.inl (.int 0))) h = true) : zD zprog scr (d + 1) 23 [.inl (.ref q), .inl (.int i), .inl (.int n)] h post = true := by
  refine zD_intro (E := ze_X0_hasElements) rfl rfl (fun G HW => ?_)
  refine zrn_ok HW 2 (zbr_ex (cd := .lt) (x := i) (y := (0 : Int32)) (fun hc1 => zB_iff.mpr ?_) (fun hc1 => zB_iff.mpr ?_))
  · -- pc 26
    have i1 : i.toInt < (0 : Int) := zop_int.mp hc1
    refine zrn_ok HW 2 ?_
    exact zret_z rfl rfl k0
  · -- pc 4
    have i1 : ¬ (i.toInt < (0 : Int)) := fun e => hc1 (zop_int.mpr e)
    refine zrn_ok HW 2 (zbr_ex (cd := .lt) (x := n) (y := (0 : Int32)) (fun hc2 => zB_iff.mpr ?_) (fun hc2 => zB_iff.mpr ?_))
    · -- pc 26
      have i2 : n.toInt < (0 : Int) := zop_int.mp hc2
      refine zrn_ok HW 2 ?_
      exact zret_z rfl rfl k0
    · -- pc 8
      have i2 : ¬ (n.toInt < (0 : Int)) := fun e => hc2 (zop_int.mpr e)
      refine zrn_ok HW 6 (zB_iff.mpr (?_ : G (14, [(0, .inl (.ref q)), (1, .inl (.int i)), (2, .inl (.int n))], [.inl (.ref q), .inl (.long ((Int32.toInt64 i) + (Int32.toInt64 n)))], h, 0, 0)))
      obtain ⟨x3, g3, e3, l3, u3⟩ := hi_val (i := 1) ok.1 hq_q (by decide) rfl
      have l3 : (0 : Int) ≤ x3.toInt := l3
      have u3 : x3.toInt ≤ (40 : Int) := u3
      refine g_getf HW rfl ok.1 hq_q rfl g3 ?_
      have sL : ((Int32.toInt64 i) + (Int32.toInt64 n)).toInt = i.toInt + n.toInt := by
        rw [t_Ladd (by rw [q_i2l, q_i2l]; have := t_lo i; have := t_lo n; omega) (by rw [q_i2l, q_i2l]; have := t_hi i; have := t_hi n; omega), q_i2l, q_i2l]
      refine zrn_ok HW 3 (t_and2 (zisI_lcmp ((Int32.toInt64 i) + (Int32.toInt64 n)) (Int32.toInt64 x3)) (zbr_l (cd := .gt) (x := ((Int32.toInt64 i) + (Int32.toInt64 n))) (y := (Int32.toInt64 x3)) (fun hc4 => zB_iff.mpr ?_) (fun hc4 => zB_iff.mpr ?_)))
      · -- pc 26
        have i4 : (((Int32.toInt64 i) + (Int32.toInt64 n)) : Int64).toInt > ((Int32.toInt64 x3) : Int64).toInt := hc4
        have i4 : ((Int32.toInt64 i) + (Int32.toInt64 n)).toInt > x3.toInt := by have r1 : (Int32.toInt64 x3).toInt = x3.toInt := q_i2l _; omega
        refine zrn_ok HW 2 ?_
        exact zret_z rfl rfl k0
      · -- pc 22
        have i4 : ¬ ((((Int32.toInt64 i) + (Int32.toInt64 n)) : Int64).toInt > ((Int32.toInt64 x3) : Int64).toInt) := hc4
        have i4 : ¬ (((Int32.toInt64 i) + (Int32.toInt64 n)).toInt > x3.toInt) := by have r1 : (Int32.toInt64 x3).toInt = x3.toInt := q_i2l _; omega
        refine zrn_ok HW 3 ?_
        exact zret_z rfl rfl (k1 (by omega) (by omega) (by omega))
theorem tq_X4_copy_0 {scr : List zV} {Φ : List Nat → zH → Prop} (hst : tStab zty 43 Φ) : tM zty Φ zprog scr zhts zsm 99 te_X4_copy_0 := by
  refine t_hand2 (E := ze_X4_copy) (D0 := 4) rfl rfl (by decide +kernel) (fun d T h vs post G hd hok hΦ hlen hvs hp IH HW => ?_)
  obtain ⟨d, rfl⟩ : ∃ d', d = d' + 2 := ⟨d - 2, by omega⟩
  obtain ⟨v_q, vs, rfl, k_q, hvs⟩ := okAs_cons hvs
  obtain ⟨v_x, vs, rfl, k_x, hvs⟩ := okAs_cons hvs
  obtain ⟨v_y, vs, rfl, k_y, hvs⟩ := okAs_cons hvs
  obtain ⟨v_i, vs, rfl, k_i, hvs⟩ := okAs_cons hvs
  obtain ⟨v_j, vs, rfl, k_j, hvs⟩ := okAs_cons hvs
  obtain ⟨v_n, vs, rfl, k_n, hvs⟩ := okAs_cons hvs
  obtain rfl := okAs_nil hvs
  obtain ⟨q, rfl, hq_q⟩ := tref_sp rfl k_q
  have hq_q : T[q]? = some 4 := hq_q
  obtain ⟨x, rfl, bl_x, bu_x⟩ := tint_sp rfl k_x
  have bl_x : ((-2147483648) : Int) ≤ x.toInt := bl_x
  have bu_x : x.toInt ≤ (2147483647 : Int) := bu_x
  obtain ⟨y, rfl, bl_y, bu_y⟩ := tint_sp rfl k_y
  have bl_y : ((-2147483648) : Int) ≤ y.toInt := bl_y
  have bu_y : y.toInt ≤ (2147483647 : Int) := bu_y
  obtain ⟨i, rfl, bl_i, bu_i⟩ := tint_sp rfl k_i
  have bl_i : ((-2147483648) : Int) ≤ i.toInt := bl_i
  have bu_i : i.toInt ≤ (2147483647 : Int) := bu_i
  obtain ⟨j, rfl, bl_j, bu_j⟩ := tint_sp rfl k_j
  have bl_j : ((-2147483648) : Int) ≤ j.toInt := bl_j
  have bu_j : j.toInt ≤ (2147483647 : Int) := bu_j
  obtain ⟨n, rfl, bl_n, bu_n⟩ := tint_sp rfl k_n
  have bl_n : ((-2147483648) : Int) ≤ n.toInt := bl_n
  have bu_n : n.toInt ≤ (2147483647 : Int) := bu_n
  have ok : wOK Φ h.length T h := ⟨hok, hΦ, Nat.le_refl _⟩
  have RET : ∀ (y : Int32) (T' : List Nat) (h' : zH), tExt T T' → wOK Φ h.length T' h' → post (some (.inl (.int y))) h' = true := fun y T' h' m' ok' => hp _ T' h' m' ok'.1 ok'.2.1 (by have := ok'.2.2; omega) ⟨_, rfl, okA_If y, fun c hc => by cases hc⟩
  refine zrn_ok HW 1 (zB_iff.mpr (?_ : G (1, [(0, .inl (.ref q)), (1, .inl (.int x)), (2, .inl (.int y)), (3, .inl (.int i)), (4, .inl (.int j)), (5, .inl (.int n))], [.inl (.int x)], h, 0, 0)))
  refine g_tS (b := 0) (e := te_X4_isShelf_0) (E' := ze_X4_isShelf) HW (tLow_of IH hd) (Or.inl rfl) rfl rfl (show te_X4_isShelf_0 ∈ [te_X4_isShelf_0] from List.mem_cons_self) (by decide +kernel) (Nat.le_of_ble_eq_true rfl) ⟨rfl, rfl⟩ (by decide) (Nat.le_of_ble_eq_true rfl) ok.1 ok.2.1 ⟨okA_If _, trivial⟩ (fun v1 T1 h1 m1 k1 f1 lh1 r1 => ?_)
  obtain ⟨w1, rfl, hw1, cd1⟩ := r1
  obtain ⟨x1, rfl, l1, u1⟩ := tint_sp rfl hw1
  have l1 : (0 : Int) ≤ x1.toInt := l1
  have u1 : x1.toInt ≤ (1 : Int) := u1
  have cd1_0 : ¬ x1.toInt = 0 → 0 ≤ x.toInt ∧ x.toInt ≤ 7 := fun hne => by obtain ⟨a, ha, hb, hc⟩ := cd1 (0, 0, 7) (by simp) (fun he => hne (by cases he; rfl)); cases ha; exact ⟨hb, hc⟩
  have ok1 : wOK Φ h.length T1 h1 := ⟨k1, f1, Nat.le_trans lh1 ok.2.2⟩
  have hq_q := m1 _ _ hq_q
  show G (4, [(0, .inl (.ref q)), (1, .inl (.int x)), (2, .inl (.int y)), (3, .inl (.int i)), (4, .inl (.int j)), (5, .inl (.int n))], [.inl (.int x1)], h1, 0, 0)
  refine zrn_ok HW 1 (zbr_ex (cd := .eq) (x := x1) (y := (0 : Int32)) (fun hc2 => zB_iff.mpr ?_) (fun hc2 => zB_iff.mpr ?_))
  · -- pc 14
    have i2 : x1.toInt = (0 : Int) := zop_int.mp hc2
    refine zrn_ok HW 2 (zB_iff.mpr (?_ : G (17, [(0, .inl (.ref q)), (1, .inl (.int x)), (2, .inl (.int y)), (3, .inl (.int i)), (4, .inl (.int j)), (5, .inl (.int n))], [.inl (.int (-2 : Int32)), .inl (.ref q)], h1, 0, 0)))
    refine g_tV (e := te_X4_refuse_0) (E' := ze_X4_refuse) HW (tLow_of IH hd) rfl rfl (show te_X4_refuse_0 ∈ [te_X4_refuse_0] from List.mem_cons_self) (by decide +kernel) (Nat.le_of_ble_eq_true rfl) ⟨rfl, rfl⟩ (by decide) ok1.1 ok1.2.1 rfl hq_q rfl (Nat.le_of_ble_eq_true rfl) ⟨⟨_, rfl, hq_q⟩, okA_If _, trivial⟩ (fun v3 T3 h3 m3 k3 f3 lh3 r3 => ?_)
    obtain ⟨w3, rfl, hw3, cd3⟩ := r3
    obtain ⟨x3, rfl, l3, u3⟩ := tint_sp rfl hw3
    have ok3 : wOK Φ h.length T3 h3 := ⟨k3, f3, Nat.le_trans lh3 ok1.2.2⟩
    have hq_q := m3 _ _ hq_q
    show G (20, [(0, .inl (.ref q)), (1, .inl (.int x)), (2, .inl (.int y)), (3, .inl (.int i)), (4, .inl (.int j)), (5, .inl (.int n))], [.inl (.int x3)], h3, 0, 0)
    refine zrn_ok HW 1 ?_
    exact zret_i rfl rfl (RET x3 T3 h3 (tExt_tr (tExt_tr (tExt_rf T) m1) m3) ok3)
  · -- pc 7
    have i2 : ¬ (x1.toInt = (0 : Int)) := fun e => hc2 (zop_int.mpr e)
    refine zrn_ok HW 1 (zB_iff.mpr (?_ : G (8, [(0, .inl (.ref q)), (1, .inl (.int x)), (2, .inl (.int y)), (3, .inl (.int i)), (4, .inl (.int j)), (5, .inl (.int n))], [.inl (.int y)], h1, 0, 0)))
    refine g_tS (b := 0) (e := te_X4_isShelf_0) (E' := ze_X4_isShelf) HW (tLow_of IH hd) (Or.inl rfl) rfl rfl (show te_X4_isShelf_0 ∈ [te_X4_isShelf_0] from List.mem_cons_self) (by decide +kernel) (Nat.le_of_ble_eq_true rfl) ⟨rfl, rfl⟩ (by decide) (Nat.le_of_ble_eq_true rfl) ok1.1 ok1.2.1 ⟨okA_If _, trivial⟩ (fun v4 T4 h4 m4 k4 f4 lh4 r4 => ?_)
    obtain ⟨w4, rfl, hw4, cd4⟩ := r4
    obtain ⟨x4, rfl, l4, u4⟩ := tint_sp rfl hw4
    have l4 : (0 : Int) ≤ x4.toInt := l4
    have u4 : x4.toInt ≤ (1 : Int) := u4
    have cd4_0 : ¬ x4.toInt = 0 → 0 ≤ y.toInt ∧ y.toInt ≤ 7 := fun hne => by obtain ⟨a, ha, hb, hc⟩ := cd4 (0, 0, 7) (by simp) (fun he => hne (by cases he; rfl)); cases ha; exact ⟨hb, hc⟩
    have ok4 : wOK Φ h.length T4 h4 := ⟨k4, f4, Nat.le_trans lh4 ok1.2.2⟩
    have hq_q := m4 _ _ hq_q
    show G (11, [(0, .inl (.ref q)), (1, .inl (.int x)), (2, .inl (.int y)), (3, .inl (.int i)), (4, .inl (.int j)), (5, .inl (.int n))], [.inl (.int x4)], h4, 0, 0)
    refine zrn_ok HW 1 (zbr_ex (cd := .ne) (x := x4) (y := (0 : Int32)) (fun hc5 => zB_iff.mpr ?_) (fun hc5 => zB_iff.mpr ?_))
    · -- pc 21
      have i5 : ¬ x4.toInt = (0 : Int) := zop_int.mp hc5
      refine zrn_ok HW 1 (zB_iff.mpr (?_ : G (22, [(0, .inl (.ref q)), (1, .inl (.int x)), (2, .inl (.int y)), (3, .inl (.int i)), (4, .inl (.int j)), (5, .inl (.int n))], [.inl (.ref q)], h4, 0, 0)))
      obtain ⟨v6, g6, s6⟩ := hOK_get (i := 5) ok4.1 hq_q (by decide)
      obtain ⟨q6, rfl, hq6⟩ : ∃ q : Nat, v6 = .inl (.ref q) ∧ T4[q]? = some 22 := s6
      refine g_getf HW rfl ok4.1 hq_q rfl g6 ?_
      refine zrn_ok HW 1 (zB_iff.mpr (?_ : G (26, [(0, .inl (.ref q)), (1, .inl (.int x)), (2, .inl (.int y)), (3, .inl (.int i)), (4, .inl (.int j)), (5, .inl (.int n))], [.inl (.int x), .inl (.ref q6)], h4, 0, 0)))
      obtain ⟨v7, g7, s7⟩ := hOK_get (i := (x).toInt.toNat) ok4.1 hq6 (by show _ < 8; omega)
      obtain ⟨q7, rfl, hq7⟩ : ∃ q : Nat, v7 = .inl (.ref q) ∧ T4[q]? = some 0 := s7
      refine g_aald HW rfl ok4.1 hq6 ⟨by decide, by decide⟩ (by omega) g7 ?_
      refine zrn_ok HW 2 (zB_iff.mpr (?_ : G (30, [(6, .inl (.ref q7)), (0, .inl (.ref q)), (1, .inl (.int x)), (2, .inl (.int y)), (3, .inl (.int i)), (4, .inl (.int j)), (5, .inl (.int n))], [.inl (.ref q)], h4, 0, 0)))
      obtain ⟨v8, g8, s8⟩ := hOK_get (i := 5) ok4.1 hq_q (by decide)
      obtain ⟨q8, rfl, hq8⟩ : ∃ q : Nat, v8 = .inl (.ref q) ∧ T4[q]? = some 22 := s8
      refine g_getf HW rfl ok4.1 hq_q rfl g8 ?_
      refine zrn_ok HW 1 (zB_iff.mpr (?_ : G (34, [(6, .inl (.ref q7)), (0, .inl (.ref q)), (1, .inl (.int x)), (2, .inl (.int y)), (3, .inl (.int i)), (4, .inl (.int j)), (5, .inl (.int n))], [.inl (.int y), .inl (.ref q8)], h4, 0, 0)))
      obtain ⟨v9, g9, s9⟩ := hOK_get (i := (y).toInt.toNat) ok4.1 hq8 (by show _ < 8; omega)
      obtain ⟨q9, rfl, hq9⟩ : ∃ q : Nat, v9 = .inl (.ref q) ∧ T4[q]? = some 0 := s9
      refine g_aald HW rfl ok4.1 hq8 ⟨by decide, by decide⟩ (by omega) g9 ?_
      refine zrn_ok HW 3 (zB_iff.mpr (?_ : G (41, [(7, .inl (.ref q9)), (6, .inl (.ref q7)), (0, .inl (.ref q)), (1, .inl (.int x)), (2, .inl (.int y)), (3, .inl (.int i)), (4, .inl (.int j)), (5, .inl (.int n))], [.inl (.ref q9), .inl (.ref q7)], h4, 0, 0)))
      refine g_tS (b := 0) (e := te_X4_lackOfRows_0) (E' := ze_X4_lackOfRows) HW (tLow_of IH hd) (Or.inl rfl) rfl rfl (show te_X4_lackOfRows_0 ∈ [te_X4_lackOfRows_0] from List.mem_cons_self) (by decide +kernel) (Nat.le_of_ble_eq_true rfl) ⟨rfl, rfl⟩ (by decide) (Nat.le_of_ble_eq_true rfl) ok4.1 ok4.2.1 ⟨⟨_, rfl, hq7⟩, ⟨_, rfl, hq9⟩, trivial⟩ (fun v10 T10 h10 m10 k10 f10 lh10 r10 => ?_)
      obtain ⟨w10, rfl, hw10, cd10⟩ := r10
      obtain ⟨x10, rfl, l10, u10⟩ := tint_sp rfl hw10
      have l10 : ((-4) : Int) ≤ x10.toInt := l10
      have u10 : x10.toInt ≤ (0 : Int) := u10
      have ok10 : wOK Φ h.length T10 h10 := ⟨k10, f10, Nat.le_trans lh10 ok4.2.2⟩
      have hq_q := m10 _ _ hq_q
      have hq6 := m10 _ _ hq6
      have hq7 := m10 _ _ hq7
      have hq8 := m10 _ _ hq8
      have hq9 := m10 _ _ hq9
      show G (44, [(7, .inl (.ref q9)), (6, .inl (.ref q7)), (0, .inl (.ref q)), (1, .inl (.int x)), (2, .inl (.int y)), (3, .inl (.int i)), (4, .inl (.int j)), (5, .inl (.int n))], [.inl (.int x10)], h10, 0, 0)
      refine zrn_ok HW 3 (zbr_ex (cd := .eq) (x := x10) (y := (0 : Int32)) (fun hc11 => zB_iff.mpr ?_) (fun hc11 => zB_iff.mpr ?_))
      · -- pc 58
        have i11 : x10.toInt = (0 : Int) := zop_int.mp hc11
        refine zrn_ok HW 3 (zB_iff.mpr (?_ : G (63, [(8, .inl (.int x10)), (7, .inl (.ref q9)), (6, .inl (.ref q7)), (0, .inl (.ref q)), (1, .inl (.int x)), (2, .inl (.int y)), (3, .inl (.int i)), (4, .inl (.int j)), (5, .inl (.int n))], [.inl (.int n), .inl (.int i), .inl (.ref q7)], h10, 0, 0)))
        refine g_callV (E' := ze_X0_hasElements) HW rfl rfl (Nat.le_of_ble_eq_true rfl) (Nat.le_of_ble_eq_true rfl) (Nat.le_of_ble_eq_true rfl) ok10.1 rfl hq7 rfl (Nat.le_of_ble_eq_true rfl) (c_hasElements ok10 hq7 (fun a12 b12 c12 => zB_iff.mpr ?_) (zB_iff.mpr ?_))
        · show G (66, [(8, .inl (.int x10)), (7, .inl (.ref q9)), (6, .inl (.ref q7)), (0, .inl (.ref q)), (1, .inl (.int x)), (2, .inl (.int y)), (3, .inl (.int i)), (4, .inl (.int j)), (5, .inl (.int n))], [.inl (.int (1 : Int32))], h10, 0, 0)
          refine zrn_ok HW 4 (zB_iff.mpr (?_ : G (75, [(8, .inl (.int x10)), (7, .inl (.ref q9)), (6, .inl (.ref q7)), (0, .inl (.ref q)), (1, .inl (.int x)), (2, .inl (.int y)), (3, .inl (.int i)), (4, .inl (.int j)), (5, .inl (.int n))], [.inl (.int n), .inl (.int j), .inl (.ref q9)], h10, 0, 0)))
          refine g_callV (E' := ze_X0_hasElements) HW rfl rfl (Nat.le_of_ble_eq_true rfl) (Nat.le_of_ble_eq_true rfl) (Nat.le_of_ble_eq_true rfl) ok10.1 rfl hq9 rfl (Nat.le_of_ble_eq_true rfl) (c_hasElements ok10 hq9 (fun a13 b13 c13 => zB_iff.mpr ?_) (zB_iff.mpr ?_))
          · show G (78, [(8, .inl (.int x10)), (7, .inl (.ref q9)), (6, .inl (.ref q7)), (0, .inl (.ref q)), (1, .inl (.int x)), (2, .inl (.int y)), (3, .inl (.int i)), (4, .inl (.int j)), (5, .inl (.int n))], [.inl (.int (1 : Int32))], h10, 0, 0)
            refine zrn_ok HW 2 (zB_iff.mpr (?_ : G (90, [(8, .inl (.int x10)), (7, .inl (.ref q9)), (6, .inl (.ref q7)), (0, .inl (.ref q)), (1, .inl (.int x)), (2, .inl (.int y)), (3, .inl (.int i)), (4, .inl (.int j)), (5, .inl (.int n))], [.inl (.ref q7)], h10, 0, 0)))
            obtain ⟨v14, g14, s14⟩ := hOK_get (i := 2) ok10.1 hq7 (by decide)
            obtain ⟨q14, rfl, hq14⟩ : ∃ q : Nat, v14 = .inl (.ref q) ∧ T10[q]? = some 10 := s14
            refine g_getf HW rfl ok10.1 hq7 rfl g14 ?_
            refine zrn_ok HW 2 (zB_iff.mpr (?_ : G (96, [(8, .inl (.int x10)), (7, .inl (.ref q9)), (6, .inl (.ref q7)), (0, .inl (.ref q)), (1, .inl (.int x)), (2, .inl (.int y)), (3, .inl (.int i)), (4, .inl (.int j)), (5, .inl (.int n))], [.inl (.ref q9), .inl (.int i), .inl (.ref q14)], h10, 0, 0)))
            obtain ⟨v15, g15, s15⟩ := hOK_get (i := 2) ok10.1 hq9 (by decide)
            obtain ⟨q15, rfl, hq15⟩ : ∃ q : Nat, v15 = .inl (.ref q) ∧ T10[q]? = some 10 := s15
            refine g_getf HW rfl ok10.1 hq9 rfl g15 ?_
            refine zrn_ok HW 2 (zB_iff.mpr (?_ : G (103, [(8, .inl (.int x10)), (7, .inl (.ref q9)), (6, .inl (.ref q7)), (0, .inl (.ref q)), (1, .inl (.int x)), (2, .inl (.int y)), (3, .inl (.int i)), (4, .inl (.int j)), (5, .inl (.int n))], [.inl (.int n), .inl (.int j), .inl (.ref q15), .inl (.int i), .inl (.ref q14)], h10, 0, 0)))
            refine g_acpL hst HW rfl ok10 hq14 hq15 (by omega) (by omega) (by omega) (by omega) (by omega) (fun h16 ok16 => ?_)
            show G (106, [(8, .inl (.int x10)), (7, .inl (.ref q9)), (6, .inl (.ref q7)), (0, .inl (.ref q)), (1, .inl (.int x)), (2, .inl (.int y)), (3, .inl (.int i)), (4, .inl (.int j)), (5, .inl (.int n))], [], h16, 0, 0)
            refine zrn_ok HW 2 ?_
            exact zret_i rfl rfl (RET n T10 h16 (tExt_tr (tExt_tr (tExt_tr (tExt_rf T) m1) m4) m10) ok16)
          · show G (78, [(8, .inl (.int x10)), (7, .inl (.ref q9)), (6, .inl (.ref q7)), (0, .inl (.ref q)), (1, .inl (.int x)), (2, .inl (.int y)), (3, .inl (.int i)), (4, .inl (.int j)), (5, .inl (.int n))], [.inl (.int (0 : Int32))], h10, 0, 0)
            refine zrn_ok HW 3 (zB_iff.mpr (?_ : G (84, [(8, .inl (.int x10)), (7, .inl (.ref q9)), (6, .inl (.ref q7)), (0, .inl (.ref q)), (1, .inl (.int x)), (2, .inl (.int y)), (3, .inl (.int i)), (4, .inl (.int j)), (5, .inl (.int n))], [.inl (.int (-2 : Int32)), .inl (.ref q)], h10, 0, 0)))
            refine g_tV (e := te_X4_refuse_0) (E' := ze_X4_refuse) HW (tLow_of IH hd) rfl rfl (show te_X4_refuse_0 ∈ [te_X4_refuse_0] from List.mem_cons_self) (by decide +kernel) (Nat.le_of_ble_eq_true rfl) ⟨rfl, rfl⟩ (by decide) ok10.1 ok10.2.1 rfl hq_q rfl (Nat.le_of_ble_eq_true rfl) ⟨⟨_, rfl, hq_q⟩, okA_If _, trivial⟩ (fun v17 T17 h17 m17 k17 f17 lh17 r17 => ?_)
            obtain ⟨w17, rfl, hw17, cd17⟩ := r17
            obtain ⟨x17, rfl, l17, u17⟩ := tint_sp rfl hw17
            have ok17 : wOK Φ h.length T17 h17 := ⟨k17, f17, Nat.le_trans lh17 ok10.2.2⟩
            have hq_q := m17 _ _ hq_q
            have hq6 := m17 _ _ hq6
            have hq7 := m17 _ _ hq7
            have hq8 := m17 _ _ hq8
            have hq9 := m17 _ _ hq9
            show G (87, [(8, .inl (.int x10)), (7, .inl (.ref q9)), (6, .inl (.ref q7)), (0, .inl (.ref q)), (1, .inl (.int x)), (2, .inl (.int y)), (3, .inl (.int i)), (4, .inl (.int j)), (5, .inl (.int n))], [.inl (.int x17)], h17, 0, 0)
            refine zrn_ok HW 1 ?_
            exact zret_i rfl rfl (RET x17 T17 h17 (tExt_tr (tExt_tr (tExt_tr (tExt_tr (tExt_rf T) m1) m4) m10) m17) ok17)
        · show G (66, [(8, .inl (.int x10)), (7, .inl (.ref q9)), (6, .inl (.ref q7)), (0, .inl (.ref q)), (1, .inl (.int x)), (2, .inl (.int y)), (3, .inl (.int i)), (4, .inl (.int j)), (5, .inl (.int n))], [.inl (.int (0 : Int32))], h10, 0, 0)
          refine zrn_ok HW 3 (zB_iff.mpr (?_ : G (84, [(8, .inl (.int x10)), (7, .inl (.ref q9)), (6, .inl (.ref q7)), (0, .inl (.ref q)), (1, .inl (.int x)), (2, .inl (.int y)), (3, .inl (.int i)), (4, .inl (.int j)), (5, .inl (.int n))], [.inl (.int (-2 : Int32)), .inl (.ref q)], h10, 0, 0)))
          refine g_tV (e := te_X4_refuse_0) (E' := ze_X4_refuse) HW (tLow_of IH hd) rfl rfl (show te_X4_refuse_0 ∈ [te_X4_refuse_0] from List.mem_cons_self) (by decide +kernel) (Nat.le_of_ble_eq_true rfl) ⟨rfl, rfl⟩ (by decide) ok10.1 ok10.2.1 rfl hq_q rfl (Nat.le_of_ble_eq_true rfl) ⟨⟨_, rfl, hq_q⟩, okA_If _, trivial⟩ (fun v18 T18 h18 m18 k18 f18 lh18 r18 => ?_)
          obtain ⟨w18, rfl, hw18, cd18⟩ := r18
          obtain ⟨x18, rfl, l18, u18⟩ := tint_sp rfl hw18
          have ok18 : wOK Φ h.length T18 h18 := ⟨k18, f18, Nat.le_trans lh18 ok10.2.2⟩
          have hq_q := m18 _ _ hq_q
          have hq6 := m18 _ _ hq6
          have hq7 := m18 _ _ hq7
          have hq8 := m18 _ _ hq8
          have hq9 := m18 _ _ hq9
          show G (87, [(8, .inl (.int x10)), (7, .inl (.ref q9)), (6, .inl (.ref q7)), (0, .inl (.ref q)), (1, .inl (.int x)), (2, .inl (.int y)), (3, .inl (.int i)), (4, .inl (.int j)), (5, .inl (.int n))], [.inl (.int x18)], h18, 0, 0)
          refine zrn_ok HW 1 ?_
          exact zret_i rfl rfl (RET x18 T18 h18 (tExt_tr (tExt_tr (tExt_tr (tExt_tr (tExt_rf T) m1) m4) m10) m18) ok18)
      · -- pc 51
        have i11 : ¬ (x10.toInt = (0 : Int)) := fun e => hc11 (zop_int.mpr e)
        refine zrn_ok HW 2 (zB_iff.mpr (?_ : G (54, [(8, .inl (.int x10)), (7, .inl (.ref q9)), (6, .inl (.ref q7)), (0, .inl (.ref q)), (1, .inl (.int x)), (2, .inl (.int y)), (3, .inl (.int i)), (4, .inl (.int j)), (5, .inl (.int n))], [.inl (.int x10), .inl (.ref q)], h10, 0, 0)))
        refine g_tV (e := te_X4_refuse_0) (E' := ze_X4_refuse) HW (tLow_of IH hd) rfl rfl (show te_X4_refuse_0 ∈ [te_X4_refuse_0] from List.mem_cons_self) (by decide +kernel) (Nat.le_of_ble_eq_true rfl) ⟨rfl, rfl⟩ (by decide) ok10.1 ok10.2.1 rfl hq_q rfl (Nat.le_of_ble_eq_true rfl) ⟨⟨_, rfl, hq_q⟩, okA_If _, trivial⟩ (fun v19 T19 h19 m19 k19 f19 lh19 r19 => ?_)
        obtain ⟨w19, rfl, hw19, cd19⟩ := r19
        obtain ⟨x19, rfl, l19, u19⟩ := tint_sp rfl hw19
        have ok19 : wOK Φ h.length T19 h19 := ⟨k19, f19, Nat.le_trans lh19 ok10.2.2⟩
        have hq_q := m19 _ _ hq_q
        have hq6 := m19 _ _ hq6
        have hq7 := m19 _ _ hq7
        have hq8 := m19 _ _ hq8
        have hq9 := m19 _ _ hq9
        show G (57, [(8, .inl (.int x10)), (7, .inl (.ref q9)), (6, .inl (.ref q7)), (0, .inl (.ref q)), (1, .inl (.int x)), (2, .inl (.int y)), (3, .inl (.int i)), (4, .inl (.int j)), (5, .inl (.int n))], [.inl (.int x19)], h19, 0, 0)
        refine zrn_ok HW 1 ?_
        exact zret_i rfl rfl (RET x19 T19 h19 (tExt_tr (tExt_tr (tExt_tr (tExt_tr (tExt_rf T) m1) m4) m10) m19) ok19)
    · -- pc 14
      have i5 : ¬ (¬ x4.toInt = (0 : Int)) := fun e => hc5 (zop_int.mpr e)
      refine zrn_ok HW 2 (zB_iff.mpr (?_ : G (17, [(0, .inl (.ref q)), (1, .inl (.int x)), (2, .inl (.int y)), (3, .inl (.int i)), (4, .inl (.int j)), (5, .inl (.int n))], [.inl (.int (-2 : Int32)), .inl (.ref q)], h4, 0, 0)))
      refine g_tV (e := te_X4_refuse_0) (E' := ze_X4_refuse) HW (tLow_of IH hd) rfl rfl (show te_X4_refuse_0 ∈ [te_X4_refuse_0] from List.mem_cons_self) (by decide +kernel) (Nat.le_of_ble_eq_true rfl) ⟨rfl, rfl⟩ (by decide) ok4.1 ok4.2.1 rfl hq_q rfl (Nat.le_of_ble_eq_true rfl) ⟨⟨_, rfl, hq_q⟩, okA_If _, trivial⟩ (fun v20 T20 h20 m20 k20 f20 lh20 r20 => ?_)
      obtain ⟨w20, rfl, hw20, cd20⟩ := r20
      obtain ⟨x20, rfl, l20, u20⟩ := tint_sp rfl hw20
      have ok20 : wOK Φ h.length T20 h20 := ⟨k20, f20, Nat.le_trans lh20 ok4.2.2⟩
      have hq_q := m20 _ _ hq_q
      show G (20, [(0, .inl (.ref q)), (1, .inl (.int x)), (2, .inl (.int y)), (3, .inl (.int i)), (4, .inl (.int j)), (5, .inl (.int n))], [.inl (.int x20)], h20, 0, 0)
      refine zrn_ok HW 1 ?_
      exact zret_i rfl rfl (RET x20 T20 h20 (tExt_tr (tExt_tr (tExt_tr (tExt_rf T) m1) m4) m20) ok20)
theorem c4_wipe {P : pP} {N : Nat} {scr : List zV} {d : Nat} {T : List Nat} {h : zH} {q : Nat} {post : Option zV → zH → Bool} (ok : wOK (zPhi P) N T h) (hq_q : T[q]? = some 4) (kk : ∀ (r : Int32) (h' : zH), r.toInt = P.1 → wOK (zPhi (0, P.2)) N T h' → post (some (.inl (.int r))) h' = true) : zD zprog scr (d + 1) 148 [.inl (.ref q)] h post = true := by
  refine zD_intro (E := ze_X4_wipe) rfl rfl (fun G HW => ?_)
  have hst := p_stab P
  refine zrn_ok HW 1 (zB_iff.mpr (?_ : G (1, [(0, .inl (.ref q))], [.inl (.ref q)], h, 0, 0)))
  obtain ⟨v2, g2, s2⟩ := hOK_get (i := 4) ok.1 hq_q (by decide)
  obtain ⟨q2, rfl, ht2⟩ : ∃ q : Nat, v2 = .inl (.ref q) ∧ T[q]? = some 2 := s2
  obtain rfl := ok.2.1.1.2.2.2.2.1 q2 ht2
  refine g_getf HW rfl ok.1 hq_q rfl g2 ?_
  obtain ⟨x3, g3, e3, l3, u3⟩ := hi_val (i := 1) ok.1 ht2 (by decide) rfl
  have l3 : (0 : Int) ≤ x3.toInt := l3
  have u3 : x3.toInt ≤ (250 : Int) := u3
  refine g_getf HW rfl ok.1 ht2 rfl g3 ?_
  refine zrn_ok HW 2 (zB_iff.mpr (?_ : G (9, [(1, .inl (.int x3)), (0, .inl (.ref q))], [.inl (.ref q)], h, 0, 0)))
  obtain ⟨v5, g5, s5⟩ := hOK_get (i := 4) ok.1 hq_q (by decide)
  obtain ⟨q5, rfl, ht5⟩ : ∃ q : Nat, v5 = .inl (.ref q) ∧ T[q]? = some 2 := s5
  obtain rfl := ok.2.1.1.2.2.2.2.1 q5 ht5
  refine g_getf HW rfl ok.1 hq_q rfl g5 ?_
  refine zrn_ok HW 1 (zB_iff.mpr (?_ : G (13, [(1, .inl (.int x3)), (0, .inl (.ref q))], [.inl (.int (0 : Int32)), .inl (.ref 29)], h, 0, 0)))
  have ok6 : wOK (zPhi (((0 : Int32)).toInt, P.2)) N T (hput h 29 1 (.inl (.int (0 : Int32)))) := ⟨hOK_put ok.1 ht5 ⟨_, rfl, (by show (0 : Int) ≤ Int32.toInt (0 : Int32); decide), (by show Int32.toInt (0 : Int32) ≤ (250 : Int); decide)⟩, p_put29 ok.1 ok.2.1, by rw [hput_len]; exact ok.2.2⟩
  refine g_putf HW rfl ok.1 ht5 rfl (by decide) rfl ?_
  refine zrn_ok HW 2 ?_
  exact zret_i rfl rfl (kk _ _ (by have := ok.2.1.2.2.1; omega) ok6)
/-- how many letters are on the tape behind a feed -/
def pFeed (x n : Int) : Int := if 0 ≤ x ∧ x ≤ 255 ∧ n < 250 then n + 1 else n
theorem c4_feed {P : pP} {N : Nat} {scr : List zV} {d : Nat} {T : List Nat} {h : zH} {q : Nat} {x : Int32} {post : Option zV → zH → Bool} (IH : ∀ P : pP, tBel (zPhi P) scr 2) (hd : 2 ≤ d + 1) (ok : wOK (zPhi P) N T h) (hq_q : T[q]? = some 4) (kk : ∀ (r : Int32) (T' : List Nat) (h' : zH), tExt T T' → wOK (zPhi (pFeed x.toInt P.1, P.2)) N T' h' → post (some (.inl (.int r))) h' = true) : zD zprog scr (d + 2) 105 [.inl (.ref q), .inl (.int x)] h post = true := by
  refine zD_intro (E := ze_X4_feed) rfl rfl (fun G HW => ?_)
  have hst := p_stab P
  refine zrn_ok HW 3 (zB_iff.mpr (?_ : G (5, [(0, .inl (.ref q)), (1, .inl (.int x))], [.inl (.int (255 : Int32)), .inl (.int (0 : Int32)), .inl (.int x)], h, 0, 0)))
  refine g_callS (b := 0) (E' := ze_X4_isWithin) HW (Or.inl rfl) rfl rfl (Nat.le_of_ble_eq_true rfl) (Nat.le_of_ble_eq_true rfl) (Nat.le_of_ble_eq_true rfl) (Nat.le_of_ble_eq_true rfl) (c_isWithin (fun a1 b1 => zB_iff.mpr ?_) (fun n1 => zB_iff.mpr ?_))
  · show G (8, [(0, .inl (.ref q)), (1, .inl (.int x))], [.inl (.int (1 : Int32))], h, 0, 0)
    have a1 : (0 : Int) ≤ x.toInt := a1
    have b1 : x.toInt ≤ (255 : Int) := b1
    refine zrn_ok HW 2 (zB_iff.mpr (?_ : G (19, [(0, .inl (.ref q)), (1, .inl (.int x))], [.inl (.ref q)], h, 0, 0)))
    obtain ⟨v3, g3, s3⟩ := hOK_get (i := 4) ok.1 hq_q (by decide)
    obtain ⟨q3, rfl, ht3⟩ : ∃ q : Nat, v3 = .inl (.ref q) ∧ T[q]? = some 2 := s3
    obtain rfl := ok.2.1.1.2.2.2.2.1 q3 ht3
    refine g_getf HW rfl ok.1 hq_q rfl g3 ?_
    obtain ⟨x4, g4, e4, l4, u4⟩ := hi_val (i := 1) ok.1 ht3 (by decide) rfl
    have l4 : (0 : Int) ≤ x4.toInt := l4
    have u4 : x4.toInt ≤ (250 : Int) := u4
    refine g_getf HW rfl ok.1 ht3 rfl g4 ?_
    refine zrn_ok HW 2 (zbr_ex (cd := .lt) (x := x4) (y := (250 : Int32)) (fun hc5 => zB_iff.mpr ?_) (fun hc5 => zB_iff.mpr ?_))
    · -- pc 38
      have i5 : x4.toInt < (250 : Int) := zop_int.mp hc5
      refine zrn_ok HW 1 (zB_iff.mpr (?_ : G (39, [(0, .inl (.ref q)), (1, .inl (.int x))], [.inl (.ref q)], h, 0, 0)))
      obtain ⟨v7, g7, s7⟩ := hOK_get (i := 4) ok.1 hq_q (by decide)
      obtain ⟨q7, rfl, ht7⟩ : ∃ q : Nat, v7 = .inl (.ref q) ∧ T[q]? = some 2 := s7
      obtain rfl := ok.2.1.1.2.2.2.2.1 q7 ht7
      refine g_getf HW rfl ok.1 hq_q rfl g7 ?_
      obtain ⟨v8, g8, s8⟩ := hOK_get (i := 0) ok.1 ht7 (by decide)
      obtain ⟨q8, rfl, hq8⟩ : ∃ q : Nat, v8 = .inl (.ref q) ∧ T[q]? = some 18 := s8
      refine g_getf HW rfl ok.1 ht7 rfl g8 ?_
      refine zrn_ok HW 1 (zB_iff.mpr (?_ : G (46, [(0, .inl (.ref q)), (1, .inl (.int x))], [.inl (.ref q), .inl (.ref q8)], h, 0, 0)))
      obtain ⟨v10, g10, s10⟩ := hOK_get (i := 4) ok.1 hq_q (by decide)
      obtain ⟨q10, rfl, ht10⟩ : ∃ q : Nat, v10 = .inl (.ref q) ∧ T[q]? = some 2 := s10
      obtain rfl := ok.2.1.1.2.2.2.2.1 q10 ht10
      refine g_getf HW rfl ok.1 hq_q rfl g10 ?_
      obtain ⟨x11, g11, e11, l11, u11⟩ := hi_val (i := 1) ok.1 ht10 (by decide) rfl
      have l11 : (0 : Int) ≤ x11.toInt := l11
      have u11 : x11.toInt ≤ (250 : Int) := u11
      refine g_getf HW rfl ok.1 ht10 rfl g11 ?_
      refine zrn_ok HW 1 (zB_iff.mpr (?_ : G (53, [(0, .inl (.ref q)), (1, .inl (.int x))], [.inl (.int x), .inl (.int x11), .inl (.ref q8)], h, 0, 0)))
      have ok12 : wOK (zPhi P) N T (hput h q8 (x11).toInt.toNat (.inl (.int x))) := wOK_put hst ok hq8 rfl ⟨_, rfl, (by show (0 : Int) ≤ _; omega), (by show _ ≤ (255 : Int); omega)⟩
      refine g_iast HW rfl ok.1 hq8 rfl (by omega) (by show _ < (250 : Int); omega) ?_
      refine zrn_ok HW 1 (zB_iff.mpr (?_ : G (55, [(0, .inl (.ref q)), (1, .inl (.int x))], [.inl (.ref q)], (hput h q8 (x11).toInt.toNat (.inl (.int x))), 0, 0)))
      obtain ⟨v14, g14, s14⟩ := hOK_get (i := 4) ok12.1 hq_q (by decide)
      obtain ⟨q14, rfl, ht14⟩ : ∃ q : Nat, v14 = .inl (.ref q) ∧ T[q]? = some 2 := s14
      obtain rfl := ok12.2.1.1.2.2.2.2.1 q14 ht14
      refine g_getf HW rfl ok12.1 hq_q rfl g14 ?_
      refine zrn_ok HW 1 (zB_iff.mpr (?_ : G (59, [(0, .inl (.ref q)), (1, .inl (.int x))], [.inl (.ref 29), .inl (.ref 29)], (hput h q8 (x11).toInt.toNat (.inl (.int x))), 0, 0)))
      obtain ⟨x15, g15, e15, l15, u15⟩ := hi_val (i := 1) ok12.1 ht14 (by decide) rfl
      have l15 : (0 : Int) ≤ x15.toInt := l15
      have u15 : x15.toInt ≤ (250 : Int) := u15
      refine g_getf HW rfl ok12.1 ht14 rfl g15 ?_
      have y16 : -2147483648 ≤ x15.toInt + (1 : Int) → x15.toInt + (1 : Int) ≤ 2147483647 → (x15 + (1 : Int32)).toInt = x15.toInt + (1 : Int) := t_addC (x := x15) (y := (1 : Int32))
      have z1 : hi h 29 1 = P.1 := ok.2.1.2.2.1
      have z2 : hi (hput h q8 (x11).toInt.toNat (.inl (.int x))) 29 1 = P.1 := ok12.2.1.2.2.1
      refine zrn_ok HW 2 (zB_iff.mpr (?_ : G (64, [(0, .inl (.ref q)), (1, .inl (.int x))], [.inl (.int (x15 + (1 : Int32))), .inl (.ref 29)], (hput h q8 (x11).toInt.toNat (.inl (.int x))), 0, 0)))
      have ok17 : wOK (zPhi (((x15 + (1 : Int32))).toInt, P.2)) N T (hput (hput h q8 (x11).toInt.toNat (.inl (.int x))) 29 1 (.inl (.int (x15 + (1 : Int32))))) := ⟨hOK_put ok12.1 ht14 ⟨_, rfl, (by show (0 : Int) ≤ _; omega), (by show _ ≤ (250 : Int); omega)⟩, p_put29 ok12.1 ok12.2.1, by rw [hput_len]; exact ok12.2.2⟩
      refine g_putf HW rfl ok12.1 ht14 rfl (by decide) rfl ?_
      refine zrn_ok HW 1 (zB_iff.mpr (?_ : G (68, [(0, .inl (.ref q)), (1, .inl (.int x))], [.inl (.ref q)], (hput (hput h q8 (x11).toInt.toNat (.inl (.int x))) 29 1 (.inl (.int (x15 + (1 : Int32))))), 0, 0)))
      obtain ⟨v19, g19, s19⟩ := hOK_get (i := 4) ok17.1 hq_q (by decide)
      obtain ⟨q19, rfl, ht19⟩ : ∃ q : Nat, v19 = .inl (.ref q) ∧ T[q]? = some 2 := s19
      obtain rfl := ok17.2.1.1.2.2.2.2.1 q19 ht19
      refine g_getf HW rfl ok17.1 hq_q rfl g19 ?_
      obtain ⟨x20, g20, e20, l20, u20⟩ := hi_val (i := 1) ok17.1 ht19 (by decide) rfl
      have l20 : (0 : Int) ≤ x20.toInt := l20
      have u20 : x20.toInt ≤ (250 : Int) := u20
      refine g_getf HW rfl ok17.1 ht19 rfl g20 ?_
      refine zrn_ok HW 1 ?_
      have ef21 : pFeed x.toInt P.1 = ((x15 + (1 : Int32))).toInt := by rw [pFeed, if_pos (by have := ok.2.1.2.2.1; omega)]; have := ok.2.1.2.2.1; omega
      exact zret_i rfl rfl (kk _ T _ (tExt_rf T) (by rw [ef21]; exact ok17))
    · -- pc 31
      have i5 : ¬ (x4.toInt < (250 : Int)) := fun e => hc5 (zop_int.mpr e)
      refine zrn_ok HW 2 (zB_iff.mpr (?_ : G (34, [(0, .inl (.ref q)), (1, .inl (.int x))], [.inl (.int (-6 : Int32)), .inl (.ref q)], h, 0, 0)))
      refine g_tV (e := te_X4_refuse_0) (E' := ze_X4_refuse) HW (tLow_of (IH P) (by omega)) rfl rfl (show te_X4_refuse_0 ∈ [te_X4_refuse_0] from List.mem_cons_self) (by decide +kernel) (Nat.le_of_ble_eq_true rfl) ⟨rfl, rfl⟩ (by decide) ok.1 ok.2.1 rfl hq_q rfl (Nat.le_of_ble_eq_true rfl) ⟨⟨_, rfl, hq_q⟩, okA_If _, trivial⟩ (fun v22 T22 h22 m22 k22 f22 lh22 r22 => ?_)
      obtain ⟨w22, rfl, hw22, cd22⟩ := r22
      obtain ⟨x22, rfl, l22, u22⟩ := tint_sp rfl hw22
      have ok22 : wOK (zPhi P) N T22 h22 := ⟨k22, f22, Nat.le_trans lh22 ok.2.2⟩
      have hq_q := m22 _ _ hq_q
      have ht3 := m22 _ _ ht3
      show G (37, [(0, .inl (.ref q)), (1, .inl (.int x))], [.inl (.int x22)], h22, 0, 0)
      refine zrn_ok HW 1 ?_
      have ef23 : pFeed x.toInt P.1 = P.1 := if_neg (by have := ok.2.1.2.2.1; omega)
      exact zret_i rfl rfl (kk _ T22 _ (tExt_tr (tExt_rf T) m22) (by rw [ef23]; exact ok22))
  · show G (8, [(0, .inl (.ref q)), (1, .inl (.int x))], [.inl (.int (0 : Int32))], h, 0, 0)
    have n1 : ¬ ((0 : Int) ≤ x.toInt ∧ x.toInt ≤ (255 : Int)) := n1
    refine zrn_ok HW 3 (zB_iff.mpr (?_ : G (14, [(0, .inl (.ref q)), (1, .inl (.int x))], [.inl (.int (-2 : Int32)), .inl (.ref q)], h, 0, 0)))
    refine g_tV (e := te_X4_refuse_0) (E' := ze_X4_refuse) HW (tLow_of (IH P) (by omega)) rfl rfl (show te_X4_refuse_0 ∈ [te_X4_refuse_0] from List.mem_cons_self) (by decide +kernel) (Nat.le_of_ble_eq_true rfl) ⟨rfl, rfl⟩ (by decide) ok.1 ok.2.1 rfl hq_q rfl (Nat.le_of_ble_eq_true rfl) ⟨⟨_, rfl, hq_q⟩, okA_If _, trivial⟩ (fun v24 T24 h24 m24 k24 f24 lh24 r24 => ?_)
    obtain ⟨w24, rfl, hw24, cd24⟩ := r24
    obtain ⟨x24, rfl, l24, u24⟩ := tint_sp rfl hw24
    have ok24 : wOK (zPhi P) N T24 h24 := ⟨k24, f24, Nat.le_trans lh24 ok.2.2⟩
    have hq_q := m24 _ _ hq_q
    show G (17, [(0, .inl (.ref q)), (1, .inl (.int x))], [.inl (.int x24)], h24, 0, 0)
    refine zrn_ok HW 1 ?_
    have ef25 : pFeed x.toInt P.1 = P.1 := if_neg (by have := ok.2.1.2.2.1; omega)
    exact zret_i rfl rfl (kk _ T24 _ (tExt_tr (tExt_rf T) m24) (by rw [ef25]; exact ok24))
theorem c4_stall {P : pP} {N : Nat} {scr : List zV} {d : Nat} {T : List Nat} {h : zH} {q : Nat} {post : Option zV → zH → Bool} (IH : ∀ P : pP, tBel (zPhi P) scr 6) (hd : 6 ≤ d + 0) (ok : wOK (zPhi P) N T h) (hq_q : T[q]? = some 4) (kk : ∀ (r : Int32) (T' : List Nat) (h' : zH), tExt T T' → wOK (zPhi (0, P.2)) N T' h' → post (some (.inl (.int r))) h' = true) : zD zprog scr (d + 1) 138 [.inl (.ref q)] h post = true := by
  refine zD_intro (E := ze_X4_stall) rfl rfl (fun G HW => ?_)
  have hst := p_stab P
  refine zrn_ok HW 1 (zB_iff.mpr (?_ : G (1, [(0, .inl (.ref q))], [.inl (.ref q)], h, 0, 0)))
  obtain ⟨v1, g1, s1⟩ := hOK_get (i := 2) ok.1 hq_q (by decide)
  obtain ⟨q1, rfl, hq1⟩ : ∃ q : Nat, v1 = .inl (.ref q) ∧ T[q]? = some 1 := s1
  refine g_getf HW rfl ok.1 hq_q rfl g1 ?_
  refine zrn_ok HW 1 (zB_iff.mpr (?_ : G (5, [(0, .inl (.ref q))], [.inl (.ref q), .inl (.ref q1)], h, 0, 0)))
  obtain ⟨v2, g2, s2⟩ := hOK_get (i := 0) ok.1 hq_q (by decide)
  obtain ⟨q2, rfl, hq2⟩ : ∃ q : Nat, v2 = .inl (.ref q) ∧ T[q]? = some 1 := s2
  refine g_getf HW rfl ok.1 hq_q rfl g2 ?_
  refine g_tV (e := te_X1_become_0) (E' := ze_X1_become) HW (tLow_of (IH _) (by omega)) rfl rfl (show te_X1_become_0 ∈ [te_X1_become_0] from List.mem_cons_self) (by decide +kernel) (Nat.le_of_ble_eq_true rfl) ⟨rfl, rfl⟩ (by decide) ok.1 ok.2.1 rfl hq1 rfl (Nat.le_of_ble_eq_true rfl) ⟨⟨_, rfl, hq1⟩, ⟨_, rfl, hq2⟩, trivial⟩ (fun v3 T3 h3 m3 k3 f3 l3 r3 => ?_)
  obtain rfl : v3 = none := r3
  have ok3 : wOK (zPhi P) N T3 h3 := ⟨k3, f3, Nat.le_trans l3 ok.2.2⟩
  have hq_q := m3 _ _ hq_q
  have hq1 := m3 _ _ hq1
  have hq2 := m3 _ _ hq2
  show G (11, [(0, .inl (.ref q))], [], h3, 0, 0)
  refine zrn_ok HW 1 (zB_iff.mpr (?_ : G (12, [(0, .inl (.ref q))], [.inl (.ref q)], h3, 0, 0)))
  obtain ⟨v5, g5, s5⟩ := hOK_get (i := 4) ok3.1 hq_q (by decide)
  obtain ⟨q5, rfl, ht5⟩ : ∃ q : Nat, v5 = .inl (.ref q) ∧ T3[q]? = some 2 := s5
  obtain rfl := ok3.2.1.1.2.2.2.2.1 q5 ht5
  refine g_getf HW rfl ok3.1 hq_q rfl g5 ?_
  refine zrn_ok HW 1 (zB_iff.mpr (?_ : G (16, [(0, .inl (.ref q))], [.inl (.ref q), .inl (.ref 29)], h3, 0, 0)))
  obtain ⟨v6, g6, s6⟩ := hOK_get (i := 2) ok3.1 hq_q (by decide)
  obtain ⟨q6, rfl, hq6⟩ : ∃ q : Nat, v6 = .inl (.ref q) ∧ T3[q]? = some 1 := s6
  refine g_getf HW rfl ok3.1 hq_q rfl g6 ?_
  refine g_tV (e := te_X2_readInto_0) (E' := ze_X2_readInto) HW (tLow_of (IH _) (by omega)) rfl rfl (show te_X2_readInto_0 ∈ [te_X2_readInto_0] from List.mem_cons_self) (by decide +kernel) (Nat.le_of_ble_eq_true rfl) ⟨rfl, rfl⟩ (by decide) ok3.1 ok3.2.1 rfl ht5 rfl (Nat.le_of_ble_eq_true rfl) ⟨⟨_, rfl, ht5⟩, ⟨_, rfl, hq6⟩, trivial⟩ (fun v7 T7 h7 m7 k7 f7 lh7 r7 => ?_)
  obtain ⟨w7, rfl, hw7, cd7⟩ := r7
  obtain ⟨x7, rfl, l7, u7⟩ := tint_sp rfl hw7
  have l7 : ((-270) : Int) ≤ x7.toInt := l7
  have u7 : x7.toInt ≤ (251 : Int) := u7
  have ok7 : wOK (zPhi P) N T7 h7 := ⟨k7, f7, Nat.le_trans lh7 ok3.2.2⟩
  have hq_q := m7 _ _ hq_q
  have hq1 := m7 _ _ hq1
  have hq2 := m7 _ _ hq2
  have ht5 := m7 _ _ ht5
  have hq6 := m7 _ _ hq6
  show G (22, [(0, .inl (.ref q))], [.inl (.int x7)], h7, 0, 0)
  refine zrn_ok HW 2 (zB_iff.mpr (?_ : G (24, [(1, .inl (.int x7)), (0, .inl (.ref q))], [.inl (.ref q)], h7, 0, 0)))
  obtain ⟨v9, g9, s9⟩ := hOK_get (i := 4) ok7.1 hq_q (by decide)
  obtain ⟨q9, rfl, ht9⟩ : ∃ q : Nat, v9 = .inl (.ref q) ∧ T7[q]? = some 2 := s9
  obtain rfl := ok7.2.1.1.2.2.2.2.1 q9 ht9
  refine g_getf HW rfl ok7.1 hq_q rfl g9 ?_
  refine zrn_ok HW 1 (zB_iff.mpr (?_ : G (28, [(1, .inl (.int x7)), (0, .inl (.ref q))], [.inl (.int (0 : Int32)), .inl (.ref 29)], h7, 0, 0)))
  have ok10 : wOK (zPhi (((0 : Int32)).toInt, P.2)) N T7 (hput h7 29 1 (.inl (.int (0 : Int32)))) := ⟨hOK_put ok7.1 ht9 ⟨_, rfl, (by show (0 : Int) ≤ Int32.toInt (0 : Int32); decide), (by show Int32.toInt (0 : Int32) ≤ (250 : Int); decide)⟩, p_put29 ok7.1 ok7.2.1, by rw [hput_len]; exact ok7.2.2⟩
  refine g_putf HW rfl ok7.1 ht9 rfl (by decide) rfl ?_
  refine zrn_ok HW 2 (zbr_ex (cd := .ge) (x := x7) (y := (0 : Int32)) (fun hc11 => zB_iff.mpr ?_) (fun hc11 => zB_iff.mpr ?_))
  · -- pc 44
    have i11 : x7.toInt ≥ (0 : Int) := zop_int.mp hc11
    refine zrn_ok HW 1 (zB_iff.mpr (?_ : G (45, [(1, .inl (.int x7)), (0, .inl (.ref q))], [.inl (.ref q)], (hput h7 29 1 (.inl (.int (0 : Int32)))), 0, 0)))
    obtain ⟨v12, g12, s12⟩ := hOK_get (i := 0) ok10.1 hq_q (by decide)
    obtain ⟨q12, rfl, hq12⟩ : ∃ q : Nat, v12 = .inl (.ref q) ∧ T7[q]? = some 1 := s12
    refine g_getf HW rfl ok10.1 hq_q rfl g12 ?_
    refine zrn_ok HW 1 (zB_iff.mpr (?_ : G (49, [(1, .inl (.int x7)), (0, .inl (.ref q))], [.inl (.ref q), .inl (.ref q12)], (hput h7 29 1 (.inl (.int (0 : Int32)))), 0, 0)))
    obtain ⟨v13, g13, s13⟩ := hOK_get (i := 2) ok10.1 hq_q (by decide)
    obtain ⟨q13, rfl, hq13⟩ : ∃ q : Nat, v13 = .inl (.ref q) ∧ T7[q]? = some 1 := s13
    refine g_getf HW rfl ok10.1 hq_q rfl g13 ?_
    refine g_tV (e := te_X1_become_0) (E' := ze_X1_become) HW (tLow_of (IH _) (by omega)) rfl rfl (show te_X1_become_0 ∈ [te_X1_become_0] from List.mem_cons_self) (by decide +kernel) (Nat.le_of_ble_eq_true rfl) ⟨rfl, rfl⟩ (by decide) ok10.1 ok10.2.1 rfl hq12 rfl (Nat.le_of_ble_eq_true rfl) ⟨⟨_, rfl, hq12⟩, ⟨_, rfl, hq13⟩, trivial⟩ (fun v14 T14 h14 m14 k14 f14 l14 r14 => ?_)
    obtain rfl : v14 = none := r14
    have ok14 : wOK (zPhi (((0 : Int32)).toInt, P.2)) N T14 h14 := ⟨k14, f14, Nat.le_trans l14 ok10.2.2⟩
    have hq_q := m14 _ _ hq_q
    have hq1 := m14 _ _ hq1
    have hq2 := m14 _ _ hq2
    have ht9 := m14 _ _ ht9
    have hq6 := m14 _ _ hq6
    have hq12 := m14 _ _ hq12
    have hq13 := m14 _ _ hq13
    show G (55, [(1, .inl (.int x7)), (0, .inl (.ref q))], [], h14, 0, 0)
    refine zrn_ok HW 2 ?_
    exact zret_i rfl rfl (kk _ T14 _ (tExt_tr (tExt_tr (tExt_tr (tExt_rf T) m3) m7) m14) ok14)
  · -- pc 35
    have i11 : ¬ (x7.toInt ≥ (0 : Int)) := fun e => hc11 (zop_int.mpr e)
    refine zrn_ok HW 2 (zB_iff.mpr (?_ : G (38, [(1, .inl (.int x7)), (0, .inl (.ref q))], [.inl (.int (-2 : Int32)), .inl (.ref q)], (hput h7 29 1 (.inl (.int (0 : Int32)))), 0, 0)))
    refine g_tV (e := te_X4_refuse_0) (E' := ze_X4_refuse) HW (tLow_of (IH _) (by omega)) rfl rfl (show te_X4_refuse_0 ∈ [te_X4_refuse_0] from List.mem_cons_self) (by decide +kernel) (Nat.le_of_ble_eq_true rfl) ⟨rfl, rfl⟩ (by decide) ok10.1 ok10.2.1 rfl hq_q rfl (Nat.le_of_ble_eq_true rfl) ⟨⟨_, rfl, hq_q⟩, okA_If _, trivial⟩ (fun v15 T15 h15 m15 k15 f15 lh15 r15 => ?_)
    obtain ⟨w15, rfl, hw15, cd15⟩ := r15
    obtain ⟨x15, rfl, l15, u15⟩ := tint_sp rfl hw15
    have ok15 : wOK (zPhi (((0 : Int32)).toInt, P.2)) N T15 h15 := ⟨k15, f15, Nat.le_trans lh15 ok10.2.2⟩
    have hq_q := m15 _ _ hq_q
    have hq1 := m15 _ _ hq1
    have hq2 := m15 _ _ hq2
    have ht9 := m15 _ _ ht9
    have hq6 := m15 _ _ hq6
    show G (41, [(1, .inl (.int x7)), (0, .inl (.ref q))], [.inl (.int x15)], h15, 0, 0)
    refine zrn_ok HW 3 ?_
    exact zret_i rfl rfl (kk _ T15 _ (tExt_tr (tExt_tr (tExt_tr (tExt_rf T) m3) m7) m15) ok15)
