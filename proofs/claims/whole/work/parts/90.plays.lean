theorem c_playsN {n m : Int} {ρ : Option Int} {v : Bool} {N : Nat} {scr : List zV} {d : Nat} {T : List Nat} {h : zH} {b : Int32} {post : Option zV → zH → Bool} (IH : tBel (zPhi (n, m, ρ, v)) scr 1) (ok : wOK (zPhi (n, m, ρ, v)) N T h) (hv : v = true ∨ ¬ ((0 ≤ b.toInt ∧ b.toInt < hi h 49 23) ∧ hi h 49 11 ≤ hi h 72 b.toInt.toNat)) (kk : ∀ (y : Int32) (T' : List Nat) (h' : zH), tExt T T' → wOK (zPhi (n, m, ρ, v)) N T' h' → post (some (.inl (.int y))) h' = true) : zD zprog scr (d + 131) 258 [.inl (.ref 49), .inl (.int b)] h post = true := by
  have hd : 1 ≤ d + 130 := by omega
  have hq_0 := ok.2.1.1.2.2.1
  have hq_q := hq_0
  refine zD_intro (E := ze_X5_playsN) rfl rfl (fun G HW => ?_)
  refine zrn_ok HW 2 (zB_iff.mpr (?_ : G (2, [(0, .inl (.ref 49)), (1, .inl (.int b))], [.inl (.int b), .inl (.ref 49)], h, 0, 0)))
  refine g_callV (E' := ze_X5_isBuyer) HW rfl rfl (Nat.le_of_ble_eq_true rfl) (Nat.le_of_ble_eq_true rfl) (Nat.le_of_ble_eq_true rfl) ok.1 rfl hq_q rfl (Nat.le_of_ble_eq_true rfl) (c_isBuyer ok hq_q (fun r1 f1 => zB_iff.mpr ?_))
  show G (5, [(0, .inl (.ref 49)), (1, .inl (.int b))], [.inl (.int r1)], h, 0, 0)
  obtain ⟨nb1, -, eb1, -, ub1⟩ := hi_val (i := 23) ok.1 hq_q (by decide) rfl
  have ub1 : nb1.toInt ≤ (4 : Int) := ub1
  have f1 : (r1.toInt = 1 ∧ 0 ≤ b.toInt ∧ b.toInt < hi h 49 23) ∨ (r1.toInt = 0 ∧ ¬ (0 ≤ b.toInt ∧ b.toInt < hi h 49 23)) := by rcases f1 with ⟨e, x, y⟩ | ⟨e, x⟩; exact Or.inl ⟨by rw [e]; rfl, x, y⟩; exact Or.inr ⟨by rw [e]; rfl, x⟩
  refine zrn_ok HW 1 (zbr_ex (cd := .ne) (x := r1) (y := (0 : Int32)) (fun hc2 => zB_iff.mpr ?_) (fun hc2 => zB_iff.mpr ?_))
  · -- pc 15
    have i2 : ¬ r1.toInt = (0 : Int) := zop_int.mp hc2
    refine zrn_ok HW 2 (zB_iff.mpr (?_ : G (17, [(2, .inl (.int (0 : Int32))), (0, .inl (.ref 49)), (1, .inl (.int b))], [], h, 0, 0)))
    rcases hv with rfl | hv2
    · exact c_playsN_17 (h := h) HW ⟨by omega, by omega⟩ kk (hins h 49 (hi h 49 9).toNat).toNat T h (0 : Int32) (tExt_rf T) ok (by omega)
    · refine zrn_ok HW 1 (zB_iff.mpr (?_ : G (18, [(2, .inl (.int (0 : Int32))), (0, .inl (.ref 49)), (1, .inl (.int b))], [.inl (.ref 49)], h, 0, 0)))
      have o4 : hget h 49 24 = some (.inl (.ref 72)) := ((ok.2.1.2.1 49 5 hq_q (Or.inl rfl)).1.1 (24, 23, 37) (by decide +kernel)).1
      have t4 : T[72]? = some 37 := ((ok.2.1.2.1 49 5 hq_q (Or.inl rfl)).1.1 (24, 23, 37) (by decide +kernel)).2
      refine g_getf HW rfl ok.1 hq_q rfl o4 ?_
      refine zrn_ok HW 1 (zB_iff.mpr (?_ : G (22, [(2, .inl (.int (0 : Int32))), (0, .inl (.ref 49)), (1, .inl (.int b))], [.inl (.int b), .inl (.ref 72)], h, 0, 0)))
      obtain ⟨x5, g5, e5, l5, u5⟩ := hi_val (i := (b).toInt.toNat) ok.1 t4 (by show _ < 4; omega) rfl
      have l5 : ((-2147483648) : Int) ≤ x5.toInt := l5
      have u5 : x5.toInt ≤ (2147483647 : Int) := u5
      refine g_iald HW rfl ok.1 t4 rfl (by omega) g5 ?_
      refine zrn_ok HW 1 (zB_iff.mpr (?_ : G (24, [(2, .inl (.int (0 : Int32))), (0, .inl (.ref 49)), (1, .inl (.int b))], [.inl (.ref 49), .inl (.int x5)], h, 0, 0)))
      obtain ⟨x6, g6, e6, l6, u6⟩ := hi_val (i := 11) ok.1 hq_q (by decide) rfl
      have l6 : (1 : Int) ≤ x6.toInt := l6
      have u6 : x6.toInt ≤ (495 : Int) := u6
      refine g_getf HW rfl ok.1 hq_q rfl g6 ?_
      refine zrn_ok HW 1 (zbr_ex (cd := .lt) (x := x5) (y := x6) (fun hc7 => zB_iff.mpr ?_) (fun hc7 => zB_iff.mpr ?_))
      · -- pc 50
        have i7 : x5.toInt < x6.toInt := zop_int.mp hc7
        refine zrn_ok HW 2 ?_
        exact zret_i rfl rfl (kk (0 : Int32) T h (tExt_rf T) ok)
      · -- pc 30
        have i7 : ¬ (x5.toInt < x6.toInt) := fun e => hc7 (zop_int.mpr e)
        exfalso
        exact hv2 ⟨⟨by omega, by omega⟩, by omega⟩
  · -- pc 8
    have i2 : ¬ (¬ r1.toInt = (0 : Int)) := fun e => hc2 (zop_int.mpr e)
    refine zrn_ok HW 2 (zB_iff.mpr (?_ : G (11, [(0, .inl (.ref 49)), (1, .inl (.int b))], [.inl (.int (-2 : Int32)), .inl (.ref 49)], h, 0, 0)))
    refine g_tV (e := te_X5_refuse_0) (E' := ze_X5_refuse) HW (tLow_of IH hd) rfl rfl (show te_X5_refuse_0 ∈ [te_X5_refuse_0] from List.mem_cons_self) (by decide +kernel) (Nat.le_of_ble_eq_true rfl) ⟨rfl, rfl⟩ (by decide) ok.1 ok.2.1 rfl hq_q rfl (Nat.le_of_ble_eq_true rfl) ⟨⟨_, rfl, hq_q⟩, okA_I (by decide) (by decide), trivial⟩ (fun v3 T3 h3 m3 k3 f3 lh3 r3 => ?_)
    obtain ⟨w3, rfl, hw3, cd3⟩ := r3
    obtain ⟨x3, rfl, l3, u3⟩ := tint_sp rfl hw3
    have l3 : ((-6) : Int) ≤ x3.toInt := l3
    have u3 : x3.toInt ≤ ((-2) : Int) := u3
    have ok3 : wOK (zPhi (n, m, ρ, v)) N T3 h3 := ⟨k3, f3, Nat.le_trans lh3 ok.2.2⟩
    have hq_q := m3 _ _ hq_q
    show G (14, [(0, .inl (.ref 49)), (1, .inl (.int b))], [.inl (.int x3)], h3, 0, 0)
    refine zrn_ok HW 1 ?_
    exact zret_i rfl rfl (kk x3 T3 h3 (tExt_tr (tExt_rf T) m3) ok3)
theorem c_plays {n m : Int} {ρ : Option Int} {v : Bool} {N : Nat} {scr : List zV} {d : Nat} {T : List Nat} {h : zH} {b : Int32} {post : Option zV → zH → Bool} (ok : wOK (zPhi (n, m, ρ, v)) h.length T h) (hlen : h.length + 3843 ≤ 1000000) (need : (0 ≤ b.toInt ∧ b.toInt < hi h 49 23) ∧ hi h 49 11 ≤ hi h 72 b.toInt.toNat) (kk : ∀ (y : Int32) (T' : List Nat) (h' : zH), tExt T T' → wOK (zPhi (n, m, ρ, true)) (h.length + 3843) T' h' → post (some (.inl (.int y))) h' = true) : zD zprog scr (d + 131) 210 [.inl (.ref 49), .inl (.int b)] h post = true := by
  have hq_0 := ok.2.1.1.2.2.1
  have hq_q := hq_0
  have t66 : T[66]? = some 31 := ((ok.2.1.2.1 49 5 hq_q (Or.inl rfl)).1.1 (16, 17, 31) (by decide +kernel)).2
  obtain ⟨sl, -, eS, lS, uS⟩ := hi_val (i := 9) ok.1 hq_q (by decide) rfl
  have uS : sl.toInt ≤ (60 : Int) := uS
  have hb60 := hins_b ok.1 t66 (hi h 49 9).toNat (by omega)
  refine zD_intro (E := ze_X5_plays) rfl rfl (fun G HW => ?_)
  refine zrn_ok HW 2 (zB_iff.mpr (?_ : G (2, [(0, .inl (.ref 49)), (1, .inl (.int b))], [.inl (.int b), .inl (.ref 49)], h, 0, 0)))
  refine g_callV (E' := ze_X5_isBuyer) HW rfl rfl (Nat.le_of_ble_eq_true rfl) (Nat.le_of_ble_eq_true rfl) (Nat.le_of_ble_eq_true rfl) ok.1 rfl hq_q rfl (Nat.le_of_ble_eq_true rfl) (c_isBuyer ok hq_q (fun r1 f1 => zB_iff.mpr ?_))
  show G (5, [(0, .inl (.ref 49)), (1, .inl (.int b))], [.inl (.int r1)], h, 0, 0)
  obtain ⟨nb1, -, eb1, -, ub1⟩ := hi_val (i := 23) ok.1 hq_q (by decide) rfl
  have ub1 : nb1.toInt ≤ (4 : Int) := ub1
  have f1 : (r1.toInt = 1 ∧ 0 ≤ b.toInt ∧ b.toInt < hi h 49 23) ∨ (r1.toInt = 0 ∧ ¬ (0 ≤ b.toInt ∧ b.toInt < hi h 49 23)) := by rcases f1 with ⟨e, x, y⟩ | ⟨e, x⟩; exact Or.inl ⟨by rw [e]; rfl, x, y⟩; exact Or.inr ⟨by rw [e]; rfl, x⟩
  refine zrn_ok HW 1 (zbr_ex (cd := .ne) (x := r1) (y := (0 : Int32)) (fun hc2 => zB_iff.mpr ?_) (fun hc2 => zB_iff.mpr ?_))
  · -- pc 15
    have i2 : ¬ r1.toInt = (0 : Int) := zop_int.mp hc2
    refine zrn_ok HW 3 (zB_iff.mpr (?_ : G (18, [(2, .inl (.int (0 : Int32))), (0, .inl (.ref 49)), (1, .inl (.int b))], [.inl (.ref 49)], h, 0, 0)))
    have o4 : hget h 49 24 = some (.inl (.ref 72)) := ((ok.2.1.2.1 49 5 hq_q (Or.inl rfl)).1.1 (24, 23, 37) (by decide +kernel)).1
    have t4 : T[72]? = some 37 := ((ok.2.1.2.1 49 5 hq_q (Or.inl rfl)).1.1 (24, 23, 37) (by decide +kernel)).2
    refine g_getf HW rfl ok.1 hq_q rfl o4 ?_
    refine zrn_ok HW 1 (zB_iff.mpr (?_ : G (22, [(2, .inl (.int (0 : Int32))), (0, .inl (.ref 49)), (1, .inl (.int b))], [.inl (.int b), .inl (.ref 72)], h, 0, 0)))
    obtain ⟨x5, g5, e5, l5, u5⟩ := hi_val (i := (b).toInt.toNat) ok.1 t4 (by show _ < 4; omega) rfl
    have l5 : ((-2147483648) : Int) ≤ x5.toInt := l5
    have u5 : x5.toInt ≤ (2147483647 : Int) := u5
    refine g_iald HW rfl ok.1 t4 rfl (by omega) g5 ?_
    refine zrn_ok HW 1 (zB_iff.mpr (?_ : G (24, [(2, .inl (.int (0 : Int32))), (0, .inl (.ref 49)), (1, .inl (.int b))], [.inl (.ref 49), .inl (.int x5)], h, 0, 0)))
    obtain ⟨x6, g6, e6, l6, u6⟩ := hi_val (i := 11) ok.1 hq_q (by decide) rfl
    have l6 : (1 : Int) ≤ x6.toInt := l6
    have u6 : x6.toInt ≤ (495 : Int) := u6
    refine g_getf HW rfl ok.1 hq_q rfl g6 ?_
    refine zrn_ok HW 1 (zbr_ex (cd := .lt) (x := x5) (y := x6) (fun hc7 => zB_iff.mpr ?_) (fun hc7 => zB_iff.mpr ?_))
    · -- pc 50
      have i7 : x5.toInt < x6.toInt := zop_int.mp hc7
      refine zrn_ok HW 2 ?_
      exfalso
      omega
    · -- pc 30
      have i7 : ¬ (x5.toInt < x6.toInt) := fun e => hc7 (zop_int.mpr e)
      refine zrn_ok HW 2 (zB_iff.mpr (?_ : G (32, [(2, .inl (.int (0 : Int32))), (0, .inl (.ref 49)), (1, .inl (.int b))], [.inl (.int b), .inl (.ref 49)], h, 0, 0)))
      refine g_callV (E' := ze_X5_planOf) HW rfl rfl (Nat.le_of_ble_eq_true rfl) (Nat.le_of_ble_eq_true rfl) (Nat.le_of_ble_eq_true rfl) ok.1 rfl hq_q rfl (Nat.le_of_ble_eq_true rfl) (c_planOf (N := h.length + 63) (wOK_up ok (by omega)) (Nat.le_refl _) (by omega) ⟨by omega, by omega⟩ (fun y8 T8 h8 m8 ok8 bf8 cn8 => zB_iff.mpr ?_))
      show G (35, [(2, .inl (.int (0 : Int32))), (0, .inl (.ref 49)), (1, .inl (.int b))], [.inl (.int y8)], h8, 63, 15934)
      have hq_q := m8 _ _ hq_q
      have t4 := m8 _ _ t4
      refine zrn_ok HW 1 (zbr_ex (cd := .le) (x := y8) (y := (0 : Int32)) (fun hc9 => zB_iff.mpr ?_) (fun hc9 => zB_iff.mpr ?_))
      · -- pc 50
        have i9 : y8.toInt ≤ (0 : Int) := zop_int.mp hc9
        refine zrn_ok HW 2 ?_
        exact zret_i rfl rfl (kk (0 : Int32) T8 h8 (tExt_tr (tExt_rf T) m8) (wOK_up ok8 (by omega)))
      · -- pc 38
        have i9 : ¬ (y8.toInt ≤ (0 : Int)) := fun e => hc9 (zop_int.mpr e)
        refine zrn_ok HW 2 (zB_iff.mpr (?_ : G (40, [(2, .inl (.int (0 : Int32))), (0, .inl (.ref 49)), (1, .inl (.int b))], [.inl (.int b), .inl (.ref 49)], h8, 63, 15934)))
        refine g_callV (E' := ze_X5_goesOne) HW rfl rfl (Nat.le_of_ble_eq_true rfl) (Nat.le_of_ble_eq_true rfl) (Nat.le_of_ble_eq_true rfl) ok8.1 rfl hq_q rfl (Nat.le_of_ble_eq_true rfl) (c_goesOne ok8 ⟨by omega, by omega⟩ (cn8 (by omega)) (fun r10 h10 ok10 x910 hi10 => zB_iff.mpr ?_))
        show G (43, [(2, .inl (.int (0 : Int32))), (0, .inl (.ref 49)), (1, .inl (.int b))], [.inl (.int r10)], h10, 63, 15934)
        refine zrn_ok HW 3 (zB_iff.mpr (?_ : G (17, [(2, .inl (.int (1 : Int32))), (0, .inl (.ref 49)), (1, .inl (.int b))], [], h10, 63, 15934)))
        have z9 : hi h8 49 9 = hi h 49 9 := bFr_hi bf8 hq_0 (by decide) (by decide) (Or.inr (by decide))
        have zi : ∀ k, hins h8 49 k = hins h 49 k := hins_eq (fun i => bFr_hi bf8 t66 (by decide) (by decide) (Or.inl (by decide)))
        have zh := hi10
        rw [z9, zi] at zh
        exact c_plays_17 (N := 0) HW hlen ⟨by omega, by omega⟩ kk 59 1 (by decide) T8 h10 (1 : Int32) (tExt_tr (tExt_rf T) m8) ok10 (by rw [x910, z9]; omega)
  · -- pc 8
    have i2 : ¬ (¬ r1.toInt = (0 : Int)) := fun e => hc2 (zop_int.mpr e)
    exfalso
    omega
