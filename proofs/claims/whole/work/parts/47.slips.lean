theorem tq_X5_slips_0 {scr : List zV} {P : pP} : tM zty (zPhi P) zprog scr zhts zsm 224 te_X5_slips_0 := by
  have hst := p_stab P
  refine t_hand (E := ze_X5_slips) (D0 := 1) rfl rfl (by decide +kernel) (fun d T h vs post G hd hok hΦ hlen hvs hp IH HW => ?_)
  obtain ⟨d, rfl⟩ : ∃ d', d = d' + 1 := ⟨d - 1, by omega⟩
  obtain ⟨v_q, vs, rfl, k_q, hvs⟩ := okAs_cons hvs
  obtain ⟨v_x, vs, rfl, k_x, hvs⟩ := okAs_cons hvs
  obtain rfl := okAs_nil hvs
  obtain ⟨q, rfl, hq_q⟩ := tref_sp rfl k_q
  have hq_q : T[q]? = some 5 := hq_q
  obtain ⟨x, rfl, bl_x, bu_x⟩ := tint_sp rfl k_x
  have bl_x : ((-2147483648) : Int) ≤ x.toInt := bl_x
  have bu_x : x.toInt ≤ (2147483647 : Int) := bu_x
  have ok : wOK (zPhi P) h.length T h := ⟨hok, hΦ, Nat.le_refl _⟩
  have RET : ∀ (y : Int32) (T' : List Nat) (h' : zH), tExt T T' → wOK (zPhi P) h.length T' h' → post (some (.inl (.int y))) h' = true := fun y T' h' m' ok' => hp _ T' h' m' ok'.1 ok'.2.1 (by have := ok'.2.2; omega) ⟨_, rfl, okA_If y, fun c hc => by cases hc⟩
  refine zrn_ok HW 4 (zB_iff.mpr (?_ : G (6, [(0, .inl (.ref q)), (1, .inl (.int x))], [.inl (.long (60 : Int64)), .inl (.long (1 : Int64)), .inl (.long x.toInt64)], h, 0, 0)))
  refine g_callS (b := 0) (E' := ze_X5_in) HW (Or.inl rfl) rfl rfl (Nat.le_of_ble_eq_true rfl) (Nat.le_of_ble_eq_true rfl) (Nat.le_of_ble_eq_true rfl) (Nat.le_of_ble_eq_true rfl) (c_in (fun a1 b1 => zB_iff.mpr ?_) (fun n1 => zB_iff.mpr ?_))
  · show G (9, [(0, .inl (.ref q)), (1, .inl (.int x))], [.inl (.int (1 : Int32))], h, 0, 0)
    rw [show (Int32.toInt64 x).toInt = x.toInt from Int32.toInt_toInt64 x] at a1 b1
    have a1 : (1 : Int) ≤ x.toInt := a1
    have b1 : x.toInt ≤ (60 : Int) := b1
    refine zrn_ok HW 2 (zB_iff.mpr (?_ : G (20, [(0, .inl (.ref q)), (1, .inl (.int x))], [.inl (.ref q)], h, 0, 0)))
    obtain ⟨x2, g2, e2, l2, u2⟩ := hi_val (i := 17) ok.1 hq_q (by decide) rfl
    have l2 : (0 : Int) ≤ x2.toInt := l2
    have u2 : x2.toInt ≤ (8 : Int) := u2
    refine g_getf HW rfl ok.1 hq_q rfl g2 ?_
    refine zrn_ok HW 1 (zbr_ex (cd := .le) (x := x2) (y := 0) (fun hc3 => zB_iff.mpr ?_) (fun hc3 => zB_iff.mpr ?_))
    · -- pc 33
      have c4 := Int32.le_iff_toInt_le.mp (show x2 ≤ 0 from hc3)
      refine zrn_ok HW 1 (zB_iff.mpr (?_ : G (34, [(0, .inl (.ref q)), (1, .inl (.int x))], [.inl (.ref q)], h, 0, 0)))
      obtain ⟨x4, g4, e4, l4, u4⟩ := hi_val (i := 9) ok.1 hq_q (by decide) rfl
      have l4 : (1 : Int) ≤ x4.toInt := l4
      have u4 : x4.toInt ≤ (60 : Int) := u4
      refine g_getf HW rfl ok.1 hq_q rfl g4 ?_
      refine zrn_ok HW 3 (zB_iff.mpr (?_ : G (40, [(2, .inl (.int x4)), (0, .inl (.ref q)), (1, .inl (.int x))], [.inl (.int x), .inl (.ref q)], h, 0, 0)))
      refine g_callV (E' := ze_X5_becomeSlips) HW rfl rfl (Nat.le_of_ble_eq_true rfl) (Nat.le_of_ble_eq_true rfl) (Nat.le_of_ble_eq_true rfl) ok.1 rfl hq_q rfl (Nat.le_of_ble_eq_true rfl) (c_becomeSlips ok.1 ok.2.1 hq_q (Or.inl rfl) ⟨a1, b1⟩ (by have h0 : (0 : Int32).toInt = 0 := rfl; omega) (fun h9 k9 f9 l9 => zB_iff.mpr ?_))
      show G (43, [(2, .inl (.int x4)), (0, .inl (.ref q)), (1, .inl (.int x))], [], h9, 0, 0)
      refine zrn_ok HW 2 ?_
      exact zret_i rfl rfl (RET x4 T h9 (tExt_rf T) (wOK_le ok k9 f9 (Nat.le_of_eq l9)))
    · -- pc 26
      have IHx := IH
      refine zrn_ok HW 2 (zB_iff.mpr (?_ : G (29, [(0, .inl (.ref q)), (1, .inl (.int x))], [.inl (.int (-5 : Int32)), .inl (.ref q)], h, 0, 0)))
      refine g_tV (e := te_X5_refuse_0) (E' := ze_X5_refuse) HW IH rfl rfl (show te_X5_refuse_0 ∈ [te_X5_refuse_0] from List.mem_cons_self) (by decide +kernel) (Nat.le_of_ble_eq_true rfl) ⟨rfl, rfl⟩ (by decide) ok.1 ok.2.1 rfl hq_q rfl (Nat.le_of_ble_eq_true rfl) ⟨⟨_, rfl, hq_q⟩, okA_I (by decide) (by decide), trivial⟩ (fun v5 T5 h5 m5 k5 f5 l5 r5 => ?_)
      obtain ⟨w5, rfl, hw5, -⟩ := r5
      obtain ⟨x5, rfl, -⟩ := tint_sp rfl hw5
      have ok5 : wOK (zPhi P) h.length T5 h5 := ⟨k5, f5, Nat.le_trans l5 ok.2.2⟩
      have hq_q := m5 _ _ hq_q
      show G (32, [(0, .inl (.ref q)), (1, .inl (.int x))], [.inl (.int x5)], h5, 0, 0)
      refine zrn_ok HW 1 ?_
      exact zret_i rfl rfl (RET x5 T5 h5 (tExt_tr (tExt_rf T) m5) ok5)
  · show G (9, [(0, .inl (.ref q)), (1, .inl (.int x))], [.inl (.int (0 : Int32))], h, 0, 0)
    refine zrn_ok HW 3 (zB_iff.mpr (?_ : G (15, [(0, .inl (.ref q)), (1, .inl (.int x))], [.inl (.int (-2 : Int32)), .inl (.ref q)], h, 0, 0)))
    refine g_tV (e := te_X5_refuse_0) (E' := ze_X5_refuse) HW IH rfl rfl (show te_X5_refuse_0 ∈ [te_X5_refuse_0] from List.mem_cons_self) (by decide +kernel) (Nat.le_of_ble_eq_true rfl) ⟨rfl, rfl⟩ (by decide) ok.1 ok.2.1 rfl hq_q rfl (Nat.le_of_ble_eq_true rfl) ⟨⟨_, rfl, hq_q⟩, okA_I (by decide) (by decide), trivial⟩ (fun v6 T6 h6 m6 k6 f6 l6 r6 => ?_)
    obtain ⟨w6, rfl, hw6, -⟩ := r6
    obtain ⟨x6, rfl, -⟩ := tint_sp rfl hw6
    have ok6 : wOK (zPhi P) h.length T6 h6 := ⟨k6, f6, Nat.le_trans l6 ok.2.2⟩
    have hq_q := m6 _ _ hq_q
    show G (18, [(0, .inl (.ref q)), (1, .inl (.int x))], [.inl (.int x6)], h6, 0, 0)
    refine zrn_ok HW 1 ?_
    exact zret_i rfl rfl (RET x6 T6 h6 (tExt_tr (tExt_rf T) m6) ok6)
