theorem q_i2l (x : Int32) : (Int32.toInt64 x).toInt = x.toInt := Int32.toInt_toInt64 x
theorem sus_den {m k : Int32} (hm : 1 ≤ m.toInt ∧ m.toInt ≤ 60) (hk : 0 ≤ k.toInt ∧ k.toInt ≤ m.toInt) : ((2 : Int32) * m - k).toInt = 2 * m.toInt - k.toInt := by
  have h2 : (2 : Int32).toInt = 2 := rfl
  have e1 := t_mul (x := 2) (y := m) (by rw [h2]; omega) (by rw [h2]; omega)
  rw [h2] at e1
  rw [t_sub (by omega) (by omega)]
  omega
theorem c_suspected {scr : List zV} {d : Nat} {m k : Int32} {h : zH} {post : Option zV → zH → Bool} (hm : 1 ≤ m.toInt ∧ m.toInt ≤ 60) (hk : 0 ≤ k.toInt ∧ k.toInt ≤ m.toInt) (kk : post (some (.inl (.int ((1000000 : Int32) * m / ((2 : Int32) * m - k))))) h = true) : zD zprog scr (d + 1) 231 [.inl (.int m), .inl (.int k)] h post = true := by
  refine zD_intro (E := ze_X5_suspected) rfl rfl (fun G HW => ?_)
  have hd := sus_den hm hk
  have nz : (!(((2 : Int32) * m - k) == 0)) = true := nz_i (by omega)
  refine zrn_ok HW 9 (t_and2 nz (zB_iff.mpr (?_ : G (11, [(0, .inl (.int m)), (1, .inl (.int k))], [.inl (.int ((1000000 : Int32) * m / ((2 : Int32) * m - k)))], h, 0, 0))))
  refine zrn_ok HW 1 ?_
  exact zret_i rfl rfl kk
theorem sus_top {m : Int32} (hm : 1 ≤ m.toInt ∧ m.toInt ≤ 60) : ((1000000 : Int32) * m / ((2 : Int32) * m - m)).toInt = 1000000 := by
  have h1 : (1000000 : Int32).toInt = 1000000 := rfl
  have hd := sus_den hm (k := m) (by omega)
  have e1 := t_mul (x := 1000000) (y := m) (by rw [h1]; omega) (by rw [h1]; omega)
  rw [h1] at e1
  rw [t_dv (by omega) (by omega), e1, hd, show 2 * m.toInt - m.toInt = m.toInt by omega]
  exact Int.mul_ediv_cancel _ (by omega)
theorem tq_X5_suspect_0 {scr : List zV} {Φ : List Nat → zH → Prop} (hst : tStab zty 43 Φ) : tM zty Φ zprog scr zhts zsm 230 te_X5_suspect_0 := by
  refine t_hand (E := ze_X5_suspect) (D0 := 1) rfl rfl (by decide +kernel) (fun d T h vs post G hd hok hΦ hlen hvs hp IH HW => ?_)
  obtain ⟨d, rfl⟩ : ∃ d', d = d' + 1 := ⟨d - 1, by omega⟩
  obtain ⟨v_q, vs, rfl, k_q, hvs⟩ := okAs_cons hvs
  obtain ⟨v_x, vs, rfl, k_x, hvs⟩ := okAs_cons hvs
  obtain ⟨v_y, vs, rfl, k_y, hvs⟩ := okAs_cons hvs
  obtain rfl := okAs_nil hvs
  obtain ⟨q, rfl, hq_q⟩ := tref_sp rfl k_q
  have hq_q : T[q]? = some 5 := hq_q
  obtain ⟨x, rfl, bl_x, bu_x⟩ := tint_sp rfl k_x
  have bl_x : ((-2147483648) : Int) ≤ x.toInt := bl_x
  have bu_x : x.toInt ≤ (2147483647 : Int) := bu_x
  obtain ⟨y, rfl, bl_y, bu_y⟩ := tint_sp rfl k_y
  have bl_y : ((-2147483648) : Int) ≤ y.toInt := bl_y
  have bu_y : y.toInt ≤ (2147483647 : Int) := bu_y
  have ok : wOK Φ h.length T h := ⟨hok, hΦ, Nat.le_refl _⟩
  have RET : ∀ (y : Int32) (T' : List Nat) (h' : zH), tExt T T' → wOK Φ h.length T' h' → post (some (.inl (.int y))) h' = true := fun y T' h' m' ok' => hp _ T' h' m' ok'.1 ok'.2.1 (by have := ok'.2.2; omega) ⟨_, rfl, okA_If y, fun c hc => by cases hc⟩
  refine zrn_ok HW 4 (zB_iff.mpr (?_ : G (6, [(0, .inl (.ref q)), (1, .inl (.int x)), (2, .inl (.int y))], [.inl (.long (60 : Int64)), .inl (.long (1 : Int64)), .inl (.long x.toInt64)], h, 0, 0)))
  refine g_callS (b := 0) (E' := ze_X5_in) HW (Or.inl rfl) rfl rfl (Nat.le_of_ble_eq_true rfl) (Nat.le_of_ble_eq_true rfl) (Nat.le_of_ble_eq_true rfl) (Nat.le_of_ble_eq_true rfl) (c_in (fun a1 b1 => zB_iff.mpr ?_) (fun n1 => zB_iff.mpr ?_))
  · show G (9, [(0, .inl (.ref q)), (1, .inl (.int x)), (2, .inl (.int y))], [.inl (.int (1 : Int32))], h, 0, 0)
    rw [q_i2l] at a1 b1
    have a1 : (1 : Int) ≤ x.toInt := a1
    have b1 : x.toInt ≤ (60 : Int) := b1
    refine zrn_ok HW 6 (zB_iff.mpr (?_ : G (17, [(0, .inl (.ref q)), (1, .inl (.int x)), (2, .inl (.int y))], [.inl (.long x.toInt64), .inl (.long (0 : Int64)), .inl (.long y.toInt64)], h, 0, 0)))
    refine g_callS (b := 0) (E' := ze_X5_in) HW (Or.inl rfl) rfl rfl (Nat.le_of_ble_eq_true rfl) (Nat.le_of_ble_eq_true rfl) (Nat.le_of_ble_eq_true rfl) (Nat.le_of_ble_eq_true rfl) (c_in (fun a2 b2 => zB_iff.mpr ?_) (fun n2 => zB_iff.mpr ?_))
    · show G (20, [(0, .inl (.ref q)), (1, .inl (.int x)), (2, .inl (.int y))], [.inl (.int (1 : Int32))], h, 0, 0)
      rw [q_i2l] at a2
      rw [q_i2l, q_i2l] at b2
      have a2 : (0 : Int) ≤ y.toInt := a2
      refine zrn_ok HW 3 (zB_iff.mpr (?_ : G (25, [(0, .inl (.ref q)), (1, .inl (.int x)), (2, .inl (.int y))], [.inl (.int y), .inl (.int x)], h, 0, 0)))
      refine g_callS (b := 0) (E' := ze_X5_suspected) HW (Or.inl rfl) rfl rfl (Nat.le_of_ble_eq_true rfl) (Nat.le_of_ble_eq_true rfl) (Nat.le_of_ble_eq_true rfl) (Nat.le_of_ble_eq_true rfl) (c_suspected (m := x) (k := y) ⟨a1, b1⟩ ⟨a2, b2⟩ (zB_iff.mpr ?_))
      show G (28, [(0, .inl (.ref q)), (1, .inl (.int x)), (2, .inl (.int y))], [.inl (.int ((1000000 : Int32) * x / ((2 : Int32) * x - y)))], h, 0, 0)
      refine zrn_ok HW 2 ?_
      exact zret_i rfl rfl (RET ((1000000 : Int32) * x / ((2 : Int32) * x - y)) T h (tExt_rf T) ok)
    · show G (20, [(0, .inl (.ref q)), (1, .inl (.int x)), (2, .inl (.int y))], [.inl (.int (0 : Int32))], h, 0, 0)
      refine zrn_ok HW 3 (zB_iff.mpr (?_ : G (34, [(0, .inl (.ref q)), (1, .inl (.int x)), (2, .inl (.int y))], [.inl (.int (-2 : Int32)), .inl (.ref q)], h, 0, 0)))
      refine g_tV (e := te_X5_refuse_0) (E' := ze_X5_refuse) HW IH rfl rfl (show te_X5_refuse_0 ∈ [te_X5_refuse_0] from List.mem_cons_self) (by decide +kernel) (Nat.le_of_ble_eq_true rfl) ⟨rfl, rfl⟩ (by decide) ok.1 ok.2.1 rfl hq_q rfl (Nat.le_of_ble_eq_true rfl) ⟨⟨_, rfl, hq_q⟩, okA_I (by decide) (by decide), trivial⟩ (fun v3 T3 h3 m3 k3 f3 l3 r3 => ?_)
      obtain ⟨w3, rfl, hw3, -⟩ := r3
      obtain ⟨x3, rfl, -⟩ := tint_sp rfl hw3
      have ok3 : wOK Φ h.length T3 h3 := ⟨k3, f3, Nat.le_trans l3 ok.2.2⟩
      have hq_q := m3 _ _ hq_q
      show G (37, [(0, .inl (.ref q)), (1, .inl (.int x)), (2, .inl (.int y))], [.inl (.int x3)], h3, 0, 0)
      refine zrn_ok HW 1 ?_
      exact zret_i rfl rfl (RET x3 T3 h3 (tExt_tr (tExt_rf T) m3) ok3)
  · show G (9, [(0, .inl (.ref q)), (1, .inl (.int x)), (2, .inl (.int y))], [.inl (.int (0 : Int32))], h, 0, 0)
    refine zrn_ok HW 3 (zB_iff.mpr (?_ : G (34, [(0, .inl (.ref q)), (1, .inl (.int x)), (2, .inl (.int y))], [.inl (.int (-2 : Int32)), .inl (.ref q)], h, 0, 0)))
    refine g_tV (e := te_X5_refuse_0) (E' := ze_X5_refuse) HW IH rfl rfl (show te_X5_refuse_0 ∈ [te_X5_refuse_0] from List.mem_cons_self) (by decide +kernel) (Nat.le_of_ble_eq_true rfl) ⟨rfl, rfl⟩ (by decide) ok.1 ok.2.1 rfl hq_q rfl (Nat.le_of_ble_eq_true rfl) ⟨⟨_, rfl, hq_q⟩, okA_I (by decide) (by decide), trivial⟩ (fun v4 T4 h4 m4 k4 f4 l4 r4 => ?_)
    obtain ⟨w4, rfl, hw4, -⟩ := r4
    obtain ⟨x4, rfl, -⟩ := tint_sp rfl hw4
    have ok4 : wOK Φ h.length T4 h4 := ⟨k4, f4, Nat.le_trans l4 ok.2.2⟩
    have hq_q := m4 _ _ hq_q
    show G (37, [(0, .inl (.ref q)), (1, .inl (.int x)), (2, .inl (.int y))], [.inl (.int x4)], h4, 0, 0)
    refine zrn_ok HW 1 ?_
    exact zret_i rfl rfl (RET x4 T4 h4 (tExt_tr (tExt_rf T) m4) ok4)
theorem tq_X5_sure_0 {scr : List zV} {Φ : List Nat → zH → Prop} (hst : tStab zty 43 Φ) : tM zty Φ zprog scr zhts zsm 229 te_X5_sure_0 := by
  refine t_hand (E := ze_X5_sure) (D0 := 1) rfl rfl (by decide +kernel) (fun d T h vs post G hd hok hΦ hlen hvs hp IH HW => ?_)
  obtain ⟨d, rfl⟩ : ∃ d', d = d' + 1 := ⟨d - 1, by omega⟩
  obtain ⟨v_q, vs, rfl, k_q, hvs⟩ := okAs_cons hvs
  obtain ⟨v_x, vs, rfl, k_x, hvs⟩ := okAs_cons hvs
  obtain ⟨v_y, vs, rfl, k_y, hvs⟩ := okAs_cons hvs
  obtain rfl := okAs_nil hvs
  obtain ⟨q, rfl, hq_q⟩ := tref_sp rfl k_q
  have hq_q : T[q]? = some 5 := hq_q
  obtain ⟨x, rfl, bl_x, bu_x⟩ := tint_sp rfl k_x
  have bl_x : ((-2147483648) : Int) ≤ x.toInt := bl_x
  have bu_x : x.toInt ≤ (2147483647 : Int) := bu_x
  obtain ⟨y, rfl, bl_y, bu_y⟩ := tint_sp rfl k_y
  have bl_y : ((-2147483648) : Int) ≤ y.toInt := bl_y
  have bu_y : y.toInt ≤ (2147483647 : Int) := bu_y
  have ok : wOK Φ h.length T h := ⟨hok, hΦ, Nat.le_refl _⟩
  have RET : ∀ (y : Int32) (T' : List Nat) (h' : zH), tExt T T' → wOK Φ h.length T' h' → post (some (.inl (.int y))) h' = true := fun y T' h' m' ok' => hp _ T' h' m' ok'.1 ok'.2.1 (by have := ok'.2.2; omega) ⟨_, rfl, okA_If y, fun c hc => by cases hc⟩
  refine zrn_ok HW 4 (zB_iff.mpr (?_ : G (6, [(0, .inl (.ref q)), (1, .inl (.int x)), (2, .inl (.int y))], [.inl (.long (60 : Int64)), .inl (.long (1 : Int64)), .inl (.long x.toInt64)], h, 0, 0)))
  refine g_callS (b := 0) (E' := ze_X5_in) HW (Or.inl rfl) rfl rfl (Nat.le_of_ble_eq_true rfl) (Nat.le_of_ble_eq_true rfl) (Nat.le_of_ble_eq_true rfl) (Nat.le_of_ble_eq_true rfl) (c_in (fun a1 b1 => zB_iff.mpr ?_) (fun n1 => zB_iff.mpr ?_))
  · show G (9, [(0, .inl (.ref q)), (1, .inl (.int x)), (2, .inl (.int y))], [.inl (.int (1 : Int32))], h, 0, 0)
    rw [q_i2l] at a1 b1
    have a1 : (1 : Int) ≤ x.toInt := a1
    have b1 : x.toInt ≤ (60 : Int) := b1
    refine zrn_ok HW 5 (zB_iff.mpr (?_ : G (18, [(0, .inl (.ref q)), (1, .inl (.int x)), (2, .inl (.int y))], [.inl (.long (1000000 : Int64)), .inl (.long (0 : Int64)), .inl (.long y.toInt64)], h, 0, 0)))
    refine g_callS (b := 0) (E' := ze_X5_in) HW (Or.inl rfl) rfl rfl (Nat.le_of_ble_eq_true rfl) (Nat.le_of_ble_eq_true rfl) (Nat.le_of_ble_eq_true rfl) (Nat.le_of_ble_eq_true rfl) (c_in (fun a2 b2 => zB_iff.mpr ?_) (fun n2 => zB_iff.mpr ?_))
    · show G (21, [(0, .inl (.ref q)), (1, .inl (.int x)), (2, .inl (.int y))], [.inl (.int (1 : Int32))], h, 0, 0)
      rw [q_i2l] at a2 b2
      have a2 : (0 : Int) ≤ y.toInt := a2
      have b2 : y.toInt ≤ (1000000 : Int) := b2
      refine zrn_ok HW 3 (zB_iff.mpr (?_ : G (33, [(3, .inl (.int (0 : Int32))), (0, .inl (.ref q)), (1, .inl (.int x)), (2, .inl (.int y))], [], h, 0, 0)))
      have loop : ∀ i j : Nat, ((i + j : Nat) : Int) = x.toInt → G (33, [(3, .inl (.int (Int32.ofNat j))), (0, .inl (.ref q)), (1, .inl (.int x)), (2, .inl (.int y))], [], h, 0, 0) := by
        intro i
        induction i with
        | zero =>
          intro j hj
          have ej : (Int32.ofNat j).toInt = (j : Int) := nI_int (by omega)
          have e2 : Int32.ofNat j = x := Int32.toInt_inj.mp (by rw [ej]; omega)
          have top := sus_top (m := x) ⟨a1, b1⟩
          rw [e2]
          refine zrn_ok HW 2 (zB_iff.mpr (?_ : G (35, [(3, .inl (.int x)), (0, .inl (.ref q)), (1, .inl (.int x)), (2, .inl (.int y))], [.inl (.int x), .inl (.int x)], h, 0, 0)))
          refine g_callS (b := 0) (E' := ze_X5_suspected) HW (Or.inl rfl) rfl rfl (Nat.le_of_ble_eq_true rfl) (Nat.le_of_ble_eq_true rfl) (Nat.le_of_ble_eq_true rfl) (Nat.le_of_ble_eq_true rfl) (c_suspected (m := x) (k := x) ⟨a1, b1⟩ ⟨by omega, by omega⟩ (zB_iff.mpr ?_))
          show G (38, [(3, .inl (.int x)), (0, .inl (.ref q)), (1, .inl (.int x)), (2, .inl (.int y))], [.inl (.int ((1000000 : Int32) * x / ((2 : Int32) * x - x)))], h, 0, 0)
          generalize (1000000 : Int32) * x / ((2 : Int32) * x - x) = w at top ⊢
          refine zrn_ok HW 2 (zbr_ex (cd := .ge) (x := w) (y := y) (fun hc => zB_iff.mpr ?_) (fun hc => zB_iff.mpr ?_))
          · refine zrn_ok HW 2 ?_
            exact zret_i rfl rfl (RET x T h (tExt_rf T) ok)
          · exfalso
            have := Int32.lt_iff_toInt_lt.mp (Int32.not_le.mp hc)
            omega
        | succ i ih =>
          intro j hj
          have ej : (Int32.ofNat j).toInt = (j : Int) := nI_int (by omega)
          refine zrn_ok HW 2 (zB_iff.mpr (?_ : G (35, [(3, .inl (.int (Int32.ofNat j))), (0, .inl (.ref q)), (1, .inl (.int x)), (2, .inl (.int y))], [.inl (.int (Int32.ofNat j)), .inl (.int x)], h, 0, 0)))
          refine g_callS (b := 0) (E' := ze_X5_suspected) HW (Or.inl rfl) rfl rfl (Nat.le_of_ble_eq_true rfl) (Nat.le_of_ble_eq_true rfl) (Nat.le_of_ble_eq_true rfl) (Nat.le_of_ble_eq_true rfl) (c_suspected (m := x) (k := (Int32.ofNat j)) ⟨a1, b1⟩ ⟨by omega, by omega⟩ (zB_iff.mpr ?_))
          show G (38, [(3, .inl (.int (Int32.ofNat j))), (0, .inl (.ref q)), (1, .inl (.int x)), (2, .inl (.int y))], [.inl (.int ((1000000 : Int32) * x / ((2 : Int32) * x - Int32.ofNat j)))], h, 0, 0)
          generalize (1000000 : Int32) * x / ((2 : Int32) * x - Int32.ofNat j) = w
          refine zrn_ok HW 2 (zbr_ex (cd := .ge) (x := w) (y := y) (fun hc => zB_iff.mpr ?_) (fun hc => zB_iff.mpr ?_))
          · refine zrn_ok HW 2 ?_
            exact zret_i rfl rfl (RET (Int32.ofNat j) T h (tExt_rf T) ok)
          · refine zrn_ok HW 2 (zB_iff.mpr ?_)
            have := ih (j + 1) (by omega)
            rw [← nI_add1] at this
            exact this
      exact loop x.toInt.toNat 0 (by omega)
    · show G (21, [(0, .inl (.ref q)), (1, .inl (.int x)), (2, .inl (.int y))], [.inl (.int (0 : Int32))], h, 0, 0)
      refine zrn_ok HW 3 (zB_iff.mpr (?_ : G (27, [(0, .inl (.ref q)), (1, .inl (.int x)), (2, .inl (.int y))], [.inl (.int (-2 : Int32)), .inl (.ref q)], h, 0, 0)))
      refine g_tV (e := te_X5_refuse_0) (E' := ze_X5_refuse) HW IH rfl rfl (show te_X5_refuse_0 ∈ [te_X5_refuse_0] from List.mem_cons_self) (by decide +kernel) (Nat.le_of_ble_eq_true rfl) ⟨rfl, rfl⟩ (by decide) ok.1 ok.2.1 rfl hq_q rfl (Nat.le_of_ble_eq_true rfl) ⟨⟨_, rfl, hq_q⟩, okA_I (by decide) (by decide), trivial⟩ (fun v3 T3 h3 m3 k3 f3 l3 r3 => ?_)
      obtain ⟨w3, rfl, hw3, -⟩ := r3
      obtain ⟨x3, rfl, -⟩ := tint_sp rfl hw3
      have ok3 : wOK Φ h.length T3 h3 := ⟨k3, f3, Nat.le_trans l3 ok.2.2⟩
      have hq_q := m3 _ _ hq_q
      show G (30, [(0, .inl (.ref q)), (1, .inl (.int x)), (2, .inl (.int y))], [.inl (.int x3)], h3, 0, 0)
      refine zrn_ok HW 1 ?_
      exact zret_i rfl rfl (RET x3 T3 h3 (tExt_tr (tExt_rf T) m3) ok3)
  · show G (9, [(0, .inl (.ref q)), (1, .inl (.int x)), (2, .inl (.int y))], [.inl (.int (0 : Int32))], h, 0, 0)
    refine zrn_ok HW 3 (zB_iff.mpr (?_ : G (27, [(0, .inl (.ref q)), (1, .inl (.int x)), (2, .inl (.int y))], [.inl (.int (-2 : Int32)), .inl (.ref q)], h, 0, 0)))
    refine g_tV (e := te_X5_refuse_0) (E' := ze_X5_refuse) HW IH rfl rfl (show te_X5_refuse_0 ∈ [te_X5_refuse_0] from List.mem_cons_self) (by decide +kernel) (Nat.le_of_ble_eq_true rfl) ⟨rfl, rfl⟩ (by decide) ok.1 ok.2.1 rfl hq_q rfl (Nat.le_of_ble_eq_true rfl) ⟨⟨_, rfl, hq_q⟩, okA_I (by decide) (by decide), trivial⟩ (fun v4 T4 h4 m4 k4 f4 l4 r4 => ?_)
    obtain ⟨w4, rfl, hw4, -⟩ := r4
    obtain ⟨x4, rfl, -⟩ := tint_sp rfl hw4
    have ok4 : wOK Φ h.length T4 h4 := ⟨k4, f4, Nat.le_trans l4 ok.2.2⟩
    have hq_q := m4 _ _ hq_q
    show G (30, [(0, .inl (.ref q)), (1, .inl (.int x)), (2, .inl (.int y))], [.inl (.int x4)], h4, 0, 0)
    refine zrn_ok HW 1 ?_
    exact zret_i rfl rfl (RET x4 T4 h4 (tExt_tr (tExt_rf T) m4) ok4)
