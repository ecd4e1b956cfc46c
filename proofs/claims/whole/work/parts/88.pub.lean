theorem c_planN {n m : Int} {ρ : Option Int} {v : Bool} {N : Nat} {scr : List zV} {d : Nat} {T : List Nat} {h : zH} {b : Int32} {post : Option zV → zH → Bool} (IH : tBel (zPhi (n, m, ρ, v)) scr 1) (ok : wOK (zPhi (n, m, ρ, v)) N T h) (hv : v = true ∨ ¬ (0 ≤ b.toInt ∧ b.toInt < hi h 49 23)) (kk : ∀ (y : Int32) (T' : List Nat) (h' : zH), tExt T T' → wOK (zPhi (n, m, ρ, v)) N T' h' → post (some (.inl (.int y))) h' = true) : zD zprog scr (d + 133) 254 [.inl (.ref 49), .inl (.int b)] h post = true := by
  have hd : 1 ≤ d + 132 := by omega
  have hq_0 := ok.2.1.1.2.2.1
  have hq_q := hq_0
  have t66 : T[66]? = some 31 := ((ok.2.1.2.1 49 5 hq_0 (Or.inl rfl)).1.1 (16, 17, 31) (by decide +kernel)).2
  refine zD_intro (E := ze_X5_planN) rfl rfl (fun G HW => ?_)
  refine zrn_ok HW 2 (zB_iff.mpr (?_ : G (2, [(0, .inl (.ref 49)), (1, .inl (.int b))], [.inl (.int b), .inl (.ref 49)], h, 0, 0)))
  refine g_callV (E' := ze_X5_isBuyer) HW rfl rfl (Nat.le_of_ble_eq_true rfl) (Nat.le_of_ble_eq_true rfl) (Nat.le_of_ble_eq_true rfl) ok.1 rfl hq_q rfl (Nat.le_of_ble_eq_true rfl) (c_isBuyer ok hq_q (fun r1 f1 => zB_iff.mpr ?_))
  show G (5, [(0, .inl (.ref 49)), (1, .inl (.int b))], [.inl (.int r1)], h, 0, 0)
  obtain ⟨nb1, -, eb1, -, ub1⟩ := hi_val (i := 23) ok.1 hq_q (by decide) rfl
  have ub1 : nb1.toInt ≤ (4 : Int) := ub1
  have f1 : (r1.toInt = 1 ∧ 0 ≤ b.toInt ∧ b.toInt < hi h 49 23) ∨ (r1.toInt = 0 ∧ ¬ (0 ≤ b.toInt ∧ b.toInt < hi h 49 23)) := by rcases f1 with ⟨e, x, y⟩ | ⟨e, x⟩; exact Or.inl ⟨by rw [e]; rfl, x, y⟩; exact Or.inr ⟨by rw [e]; rfl, x⟩
  refine zrn_ok HW 1 (zbr_ex (cd := .eq) (x := r1) (y := (0 : Int32)) (fun hc2 => zB_iff.mpr ?_) (fun hc2 => zB_iff.mpr ?_))
  · -- pc 16
    have i2 : r1.toInt = (0 : Int) := zop_int.mp hc2
    refine zrn_ok HW 2 (zB_iff.mpr (?_ : G (19, [(0, .inl (.ref 49)), (1, .inl (.int b))], [.inl (.int (-2 : Int32)), .inl (.ref 49)], h, 0, 0)))
    refine g_tV (e := te_X5_refuse_0) (E' := ze_X5_refuse) HW (tLow_of IH hd) rfl rfl (show te_X5_refuse_0 ∈ [te_X5_refuse_0] from List.mem_cons_self) (by decide +kernel) (Nat.le_of_ble_eq_true rfl) ⟨rfl, rfl⟩ (by decide) ok.1 ok.2.1 rfl hq_q rfl (Nat.le_of_ble_eq_true rfl) ⟨⟨_, rfl, hq_q⟩, okA_I (by decide) (by decide), trivial⟩ (fun v3 T3 h3 m3 k3 f3 lh3 r3 => ?_)
    obtain ⟨w3, rfl, hw3, cd3⟩ := r3
    obtain ⟨x3, rfl, l3, u3⟩ := tint_sp rfl hw3
    have l3 : ((-6) : Int) ≤ x3.toInt := l3
    have u3 : x3.toInt ≤ ((-2) : Int) := u3
    have ok3 : wOK (zPhi (n, m, ρ, v)) N T3 h3 := ⟨k3, f3, Nat.le_trans lh3 ok.2.2⟩
    have hq_q := m3 _ _ hq_q
    show G (22, [(0, .inl (.ref 49)), (1, .inl (.int b))], [.inl (.int x3)], h3, 0, 0)
    refine zrn_ok HW 1 ?_
    exact zret_i rfl rfl (kk x3 T3 h3 (tExt_tr (tExt_rf T) m3) ok3)
  · -- pc 8
    have i2 : ¬ (r1.toInt = (0 : Int)) := fun e => hc2 (zop_int.mpr e)
    have hvt : v = true := hv.resolve_right (fun hn => hn (by omega))
    subst hvt
    refine zrn_ok HW 2 (zB_iff.mpr (?_ : G (10, [(0, .inl (.ref 49)), (1, .inl (.int b))], [.inl (.int b), .inl (.ref 49)], h, 0, 0)))
    refine g_callV (E' := ze_X5_planOfN) HW rfl rfl (Nat.le_of_ble_eq_true rfl) (Nat.le_of_ble_eq_true rfl) (Nat.le_of_ble_eq_true rfl) ok.1 rfl hq_q rfl (Nat.le_of_ble_eq_true rfl) (c_planOfN ok ⟨by omega, by omega⟩ (fun y4 T4 h4 m4 ok4 bf4 cn4 => zB_iff.mpr ?_))
    show G (13, [(0, .inl (.ref 49)), (1, .inl (.int b))], [.inl (.int y4)], h4, 0, 0)
    have hq_q := m4 _ _ hq_q
    refine zrn_ok HW 2 ?_
    exact zret_i rfl rfl (kk y4 T4 h4 (tExt_tr (tExt_rf T) m4) ok4)
theorem c_meanN {n m : Int} {ρ : Option Int} {v : Bool} {N : Nat} {scr : List zV} {d : Nat} {T : List Nat} {h : zH} {b g0 : Int32} {post : Option zV → zH → Bool} (IH : tBel (zPhi (n, m, ρ, v)) scr 1) (ok : wOK (zPhi (n, m, ρ, v)) N T h) (hv : v = true ∨ ¬ ((0 ≤ b.toInt ∧ b.toInt < hi h 49 23) ∧ 0 ≤ g0.toInt ∧ g0.toInt ≤ 8)) (kk : ∀ (y : Int32) (T' : List Nat) (h' : zH), tExt T T' → wOK (zPhi (n, m, ρ, v)) N T' h' → post (some (.inl (.int y))) h' = true) : zD zprog scr (d + 133) 256 [.inl (.ref 49), .inl (.int b), .inl (.int g0)] h post = true := by
  have hd : 1 ≤ d + 132 := by omega
  have hq_0 := ok.2.1.1.2.2.1
  have hq_q := hq_0
  have t66 : T[66]? = some 31 := ((ok.2.1.2.1 49 5 hq_0 (Or.inl rfl)).1.1 (16, 17, 31) (by decide +kernel)).2
  refine zD_intro (E := ze_X5_meanN) rfl rfl (fun G HW => ?_)
  refine zrn_ok HW 2 (zB_iff.mpr (?_ : G (2, [(0, .inl (.ref 49)), (1, .inl (.int b)), (2, .inl (.int g0))], [.inl (.int b), .inl (.ref 49)], h, 0, 0)))
  refine g_callV (E' := ze_X5_isBuyer) HW rfl rfl (Nat.le_of_ble_eq_true rfl) (Nat.le_of_ble_eq_true rfl) (Nat.le_of_ble_eq_true rfl) ok.1 rfl hq_q rfl (Nat.le_of_ble_eq_true rfl) (c_isBuyer ok hq_q (fun r1 f1 => zB_iff.mpr ?_))
  show G (5, [(0, .inl (.ref 49)), (1, .inl (.int b)), (2, .inl (.int g0))], [.inl (.int r1)], h, 0, 0)
  obtain ⟨nb1, -, eb1, -, ub1⟩ := hi_val (i := 23) ok.1 hq_q (by decide) rfl
  have ub1 : nb1.toInt ≤ (4 : Int) := ub1
  have f1 : (r1.toInt = 1 ∧ 0 ≤ b.toInt ∧ b.toInt < hi h 49 23) ∨ (r1.toInt = 0 ∧ ¬ (0 ≤ b.toInt ∧ b.toInt < hi h 49 23)) := by rcases f1 with ⟨e, x, y⟩ | ⟨e, x⟩; exact Or.inl ⟨by rw [e]; rfl, x, y⟩; exact Or.inr ⟨by rw [e]; rfl, x⟩
  refine zrn_ok HW 1 (zbr_ex (cd := .eq) (x := r1) (y := (0 : Int32)) (fun hc2 => zB_iff.mpr ?_) (fun hc2 => zB_iff.mpr ?_))
  · -- pc 30
    have i2 : r1.toInt = (0 : Int) := zop_int.mp hc2
    refine zrn_ok HW 2 (zB_iff.mpr (?_ : G (33, [(0, .inl (.ref 49)), (1, .inl (.int b)), (2, .inl (.int g0))], [.inl (.int (-2 : Int32)), .inl (.ref 49)], h, 0, 0)))
    refine g_tV (e := te_X5_refuse_0) (E' := ze_X5_refuse) HW (tLow_of IH hd) rfl rfl (show te_X5_refuse_0 ∈ [te_X5_refuse_0] from List.mem_cons_self) (by decide +kernel) (Nat.le_of_ble_eq_true rfl) ⟨rfl, rfl⟩ (by decide) ok.1 ok.2.1 rfl hq_q rfl (Nat.le_of_ble_eq_true rfl) ⟨⟨_, rfl, hq_q⟩, okA_I (by decide) (by decide), trivial⟩ (fun v3 T3 h3 m3 k3 f3 lh3 r3 => ?_)
    obtain ⟨w3, rfl, hw3, cd3⟩ := r3
    obtain ⟨x3, rfl, l3, u3⟩ := tint_sp rfl hw3
    have l3 : ((-6) : Int) ≤ x3.toInt := l3
    have u3 : x3.toInt ≤ ((-2) : Int) := u3
    have ok3 : wOK (zPhi (n, m, ρ, v)) N T3 h3 := ⟨k3, f3, Nat.le_trans lh3 ok.2.2⟩
    have hq_q := m3 _ _ hq_q
    show G (36, [(0, .inl (.ref 49)), (1, .inl (.int b)), (2, .inl (.int g0))], [.inl (.int x3)], h3, 0, 0)
    refine zrn_ok HW 1 ?_
    exact zret_i rfl rfl (kk x3 T3 h3 (tExt_tr (tExt_rf T) m3) ok3)
  · -- pc 8
    have i2 : ¬ (r1.toInt = (0 : Int)) := fun e => hc2 (zop_int.mpr e)
    refine zrn_ok HW 4 (zB_iff.mpr (?_ : G (14, [(0, .inl (.ref 49)), (1, .inl (.int b)), (2, .inl (.int g0))], [.inl (.long (8 : Int64)), .inl (.long (0 : Int64)), .inl (.long (Int32.toInt64 g0))], h, 0, 0)))
    refine g_callS (b := 0) (E' := ze_X5_in) HW (Or.inl rfl) rfl rfl (Nat.le_of_ble_eq_true rfl) (Nat.le_of_ble_eq_true rfl) (Nat.le_of_ble_eq_true rfl) (Nat.le_of_ble_eq_true rfl) (c_in (fun a4 b4 => zB_iff.mpr ?_) (fun n4 => zB_iff.mpr ?_))
    · show G (17, [(0, .inl (.ref 49)), (1, .inl (.int b)), (2, .inl (.int g0))], [.inl (.int (1 : Int32))], h, 0, 0)
      have a4 : (0 : Int) ≤ g0.toInt := by have r0 : (Int32.toInt64 g0).toInt = g0.toInt := q_i2l _; have r1 : (0 : Int64).toInt = 0 := rfl; have r2 : (8 : Int64).toInt = 8 := rfl; omega
      have b4 : g0.toInt ≤ (8 : Int) := by have r0 : (Int32.toInt64 g0).toInt = g0.toInt := q_i2l _; have r1 : (0 : Int64).toInt = 0 := rfl; have r2 : (8 : Int64).toInt = 8 := rfl; omega
      have hvt : v = true := hv.resolve_right (fun hn => hn (by omega))
      subst hvt
      refine zrn_ok HW 4 (zB_iff.mpr (?_ : G (23, [(0, .inl (.ref 49)), (1, .inl (.int b)), (2, .inl (.int g0))], [.inl (.int g0), .inl (.int b), .inl (.ref 49)], h, 0, 0)))
      refine g_callV (E' := ze_X5_meanOfN) HW rfl rfl (Nat.le_of_ble_eq_true rfl) (Nat.le_of_ble_eq_true rfl) (Nat.le_of_ble_eq_true rfl) ok.1 rfl hq_q rfl (Nat.le_of_ble_eq_true rfl) (c_meanOfN ok ⟨by omega, by omega⟩ ⟨by omega, by omega⟩ (fun y5 T5 h5 m5 ok5 bf5 => zB_iff.mpr ?_))
      show G (26, [(0, .inl (.ref 49)), (1, .inl (.int b)), (2, .inl (.int g0))], [.inl (.long y5)], h5, 0, 0)
      have hq_q := m5 _ _ hq_q
      refine zrn_ok HW 3 ?_
      exact zret_i rfl rfl (kk (Int64.toInt32 y5) T5 h5 (tExt_tr (tExt_rf T) m5) ok5)
    · show G (17, [(0, .inl (.ref 49)), (1, .inl (.int b)), (2, .inl (.int g0))], [.inl (.int (0 : Int32))], h, 0, 0)
      have n4 : ¬ ((0 : Int) ≤ g0.toInt ∧ g0.toInt ≤ (8 : Int)) := by have r0 : (Int32.toInt64 g0).toInt = g0.toInt := q_i2l _; have r1 : (0 : Int64).toInt = 0 := rfl; have r2 : (8 : Int64).toInt = 8 := rfl; omega
      refine zrn_ok HW 3 (zB_iff.mpr (?_ : G (33, [(0, .inl (.ref 49)), (1, .inl (.int b)), (2, .inl (.int g0))], [.inl (.int (-2 : Int32)), .inl (.ref 49)], h, 0, 0)))
      refine g_tV (e := te_X5_refuse_0) (E' := ze_X5_refuse) HW (tLow_of IH hd) rfl rfl (show te_X5_refuse_0 ∈ [te_X5_refuse_0] from List.mem_cons_self) (by decide +kernel) (Nat.le_of_ble_eq_true rfl) ⟨rfl, rfl⟩ (by decide) ok.1 ok.2.1 rfl hq_q rfl (Nat.le_of_ble_eq_true rfl) ⟨⟨_, rfl, hq_q⟩, okA_I (by decide) (by decide), trivial⟩ (fun v6 T6 h6 m6 k6 f6 lh6 r6 => ?_)
      obtain ⟨w6, rfl, hw6, cd6⟩ := r6
      obtain ⟨x6, rfl, l6, u6⟩ := tint_sp rfl hw6
      have l6 : ((-6) : Int) ≤ x6.toInt := l6
      have u6 : x6.toInt ≤ ((-2) : Int) := u6
      have ok6 : wOK (zPhi (n, m, ρ, v)) N T6 h6 := ⟨k6, f6, Nat.le_trans lh6 ok.2.2⟩
      have hq_q := m6 _ _ hq_q
      show G (36, [(0, .inl (.ref 49)), (1, .inl (.int b)), (2, .inl (.int g0))], [.inl (.int x6)], h6, 0, 0)
      refine zrn_ok HW 1 ?_
      exact zret_i rfl rfl (kk x6 T6 h6 (tExt_tr (tExt_rf T) m6) ok6)
theorem c_atOnceN {n m : Int} {ρ : Option Int} {v : Bool} {N : Nat} {scr : List zV} {d : Nat} {T : List Nat} {h : zH} {b : Int32} {post : Option zV → zH → Bool} (IH : tBel (zPhi (n, m, ρ, v)) scr 1) (ok : wOK (zPhi (n, m, ρ, v)) N T h) (hv : v = true ∨ ¬ (0 ≤ b.toInt ∧ b.toInt < hi h 49 23)) (kk : ∀ (y : Int32) (T' : List Nat) (h' : zH), tExt T T' → wOK (zPhi (n, m, ρ, v)) N T' h' → post (some (.inl (.int y))) h' = true) : zD zprog scr (d + 133) 257 [.inl (.ref 49), .inl (.int b)] h post = true := by
  have hd : 1 ≤ d + 132 := by omega
  have hq_0 := ok.2.1.1.2.2.1
  have hq_q := hq_0
  have t66 : T[66]? = some 31 := ((ok.2.1.2.1 49 5 hq_0 (Or.inl rfl)).1.1 (16, 17, 31) (by decide +kernel)).2
  refine zD_intro (E := ze_X5_atOnceN) rfl rfl (fun G HW => ?_)
  refine zrn_ok HW 2 (zB_iff.mpr (?_ : G (2, [(0, .inl (.ref 49)), (1, .inl (.int b))], [.inl (.int b), .inl (.ref 49)], h, 0, 0)))
  refine g_callV (E' := ze_X5_isBuyer) HW rfl rfl (Nat.le_of_ble_eq_true rfl) (Nat.le_of_ble_eq_true rfl) (Nat.le_of_ble_eq_true rfl) ok.1 rfl hq_q rfl (Nat.le_of_ble_eq_true rfl) (c_isBuyer ok hq_q (fun r1 f1 => zB_iff.mpr ?_))
  show G (5, [(0, .inl (.ref 49)), (1, .inl (.int b))], [.inl (.int r1)], h, 0, 0)
  obtain ⟨nb1, -, eb1, -, ub1⟩ := hi_val (i := 23) ok.1 hq_q (by decide) rfl
  have ub1 : nb1.toInt ≤ (4 : Int) := ub1
  have f1 : (r1.toInt = 1 ∧ 0 ≤ b.toInt ∧ b.toInt < hi h 49 23) ∨ (r1.toInt = 0 ∧ ¬ (0 ≤ b.toInt ∧ b.toInt < hi h 49 23)) := by rcases f1 with ⟨e, x, y⟩ | ⟨e, x⟩; exact Or.inl ⟨by rw [e]; rfl, x, y⟩; exact Or.inr ⟨by rw [e]; rfl, x⟩
  refine zrn_ok HW 1 (zbr_ex (cd := .ne) (x := r1) (y := (0 : Int32)) (fun hc2 => zB_iff.mpr ?_) (fun hc2 => zB_iff.mpr ?_))
  · -- pc 19
    have i2 : ¬ r1.toInt = (0 : Int) := zop_int.mp hc2
    have hvt : v = true := hv.resolve_right (fun hn => hn (by omega))
    subst hvt
    refine zrn_ok HW 3 (zB_iff.mpr (?_ : G (22, [(0, .inl (.ref 49)), (1, .inl (.int b))], [.inl (.int (5 : Int32)), .inl (.int b), .inl (.ref 49)], h, 0, 0)))
    refine g_callV (E' := ze_X5_meanOfN) HW rfl rfl (Nat.le_of_ble_eq_true rfl) (Nat.le_of_ble_eq_true rfl) (Nat.le_of_ble_eq_true rfl) ok.1 rfl hq_q rfl (Nat.le_of_ble_eq_true rfl) (c_meanOfN ok ⟨by omega, by omega⟩ ⟨by decide, by decide⟩ (fun y3 T3 h3 m3 ok3 bf3 => zB_iff.mpr ?_))
    show G (25, [(0, .inl (.ref 49)), (1, .inl (.int b))], [.inl (.long y3)], h3, 0, 0)
    have hq_q := m3 _ _ hq_q
    refine zrn_ok HW 2 (zB_iff.mpr (?_ : G (29, [(0, .inl (.ref 49)), (1, .inl (.int b))], [.inl (.ref 49), .inl (.long (1000 : Int64)), .inl (.long y3)], h3, 0, 0)))
    obtain ⟨x4, g4, e4, l4, u4⟩ := hi_val (i := 12) ok3.1 hq_q (by decide) rfl
    have l4 : (1 : Int) ≤ x4.toInt := l4
    have u4 : x4.toInt ≤ (495 : Int) := u4
    refine g_getf HW rfl ok3.1 hq_q rfl g4 ?_
    refine zrn_ok HW 5 ?_
    exact zret_i rfl rfl (kk (Int64.toInt32 (y3 - ((1000 : Int64) * (Int32.toInt64 x4)))) T3 h3 (tExt_tr (tExt_rf T) m3) ok3)
  · -- pc 8
    have i2 : ¬ (¬ r1.toInt = (0 : Int)) := fun e => hc2 (zop_int.mpr e)
    refine zrn_ok HW 3 (zB_iff.mpr (?_ : G (14, [(0, .inl (.ref 49)), (1, .inl (.int b))], [.inl (.int (-2 : Int32)), .inl (.ref 49), .inl (.int (-10000000 : Int32))], h, 0, 0)))
    refine g_tV (e := te_X5_refuse_0) (E' := ze_X5_refuse) HW (tLow_of IH hd) rfl rfl (show te_X5_refuse_0 ∈ [te_X5_refuse_0] from List.mem_cons_self) (by decide +kernel) (Nat.le_of_ble_eq_true rfl) ⟨rfl, rfl⟩ (by decide) ok.1 ok.2.1 rfl hq_q rfl (Nat.le_of_ble_eq_true rfl) ⟨⟨_, rfl, hq_q⟩, okA_I (by decide) (by decide), trivial⟩ (fun v5 T5 h5 m5 k5 f5 lh5 r5 => ?_)
    obtain ⟨w5, rfl, hw5, cd5⟩ := r5
    obtain ⟨x5, rfl, l5, u5⟩ := tint_sp rfl hw5
    have l5 : ((-6) : Int) ≤ x5.toInt := l5
    have u5 : x5.toInt ≤ ((-2) : Int) := u5
    have ok5 : wOK (zPhi (n, m, ρ, v)) N T5 h5 := ⟨k5, f5, Nat.le_trans lh5 ok.2.2⟩
    have hq_q := m5 _ _ hq_q
    show G (17, [(0, .inl (.ref 49)), (1, .inl (.int b))], [.inl (.int x5), .inl (.int (-10000000 : Int32))], h5, 0, 0)
    have y6 : -2147483648 ≤ (-10000000 : Int) + x5.toInt → (-10000000 : Int) + x5.toInt ≤ 2147483647 → ((-10000000 : Int32) + x5).toInt = (-10000000 : Int) + x5.toInt := t_addC (x := (-10000000 : Int32)) (y := x5)
    refine zrn_ok HW 2 ?_
    exact zret_i rfl rfl (kk ((-10000000 : Int32) + x5) T5 h5 (tExt_tr (tExt_rf T) m5) ok5)
theorem c_tillN {n m : Int} {ρ : Option Int} {v : Bool} {N : Nat} {scr : List zV} {d : Nat} {T : List Nat} {h : zH} {b : Int32} {post : Option zV → zH → Bool} (IH : tBel (zPhi (n, m, ρ, v)) scr 1) (ok : wOK (zPhi (n, m, ρ, v)) N T h) (hv : v = true ∨ ¬ (0 ≤ b.toInt ∧ b.toInt < hi h 49 23)) (kk : ∀ (y : Int32) (T' : List Nat) (h' : zH), tExt T T' → wOK (zPhi (n, m, ρ, v)) N T' h' → post (some (.inl (.int y))) h' = true) : zD zprog scr (d + 133) 255 [.inl (.ref 49), .inl (.int b)] h post = true := by
  have hd : 1 ≤ d + 132 := by omega
  have hq_0 := ok.2.1.1.2.2.1
  have hq_q := hq_0
  have t66 : T[66]? = some 31 := ((ok.2.1.2.1 49 5 hq_0 (Or.inl rfl)).1.1 (16, 17, 31) (by decide +kernel)).2
  refine zD_intro (E := ze_X5_tillN) rfl rfl (fun G HW => ?_)
  refine zrn_ok HW 2 (zB_iff.mpr (?_ : G (2, [(0, .inl (.ref 49)), (1, .inl (.int b))], [.inl (.int b), .inl (.ref 49)], h, 0, 0)))
  refine g_callV (E' := ze_X5_isBuyer) HW rfl rfl (Nat.le_of_ble_eq_true rfl) (Nat.le_of_ble_eq_true rfl) (Nat.le_of_ble_eq_true rfl) ok.1 rfl hq_q rfl (Nat.le_of_ble_eq_true rfl) (c_isBuyer ok hq_q (fun r1 f1 => zB_iff.mpr ?_))
  show G (5, [(0, .inl (.ref 49)), (1, .inl (.int b))], [.inl (.int r1)], h, 0, 0)
  obtain ⟨nb1, -, eb1, -, ub1⟩ := hi_val (i := 23) ok.1 hq_q (by decide) rfl
  have ub1 : nb1.toInt ≤ (4 : Int) := ub1
  have f1 : (r1.toInt = 1 ∧ 0 ≤ b.toInt ∧ b.toInt < hi h 49 23) ∨ (r1.toInt = 0 ∧ ¬ (0 ≤ b.toInt ∧ b.toInt < hi h 49 23)) := by rcases f1 with ⟨e, x, y⟩ | ⟨e, x⟩; exact Or.inl ⟨by rw [e]; rfl, x, y⟩; exact Or.inr ⟨by rw [e]; rfl, x⟩
  refine zrn_ok HW 1 (zbr_ex (cd := .ne) (x := r1) (y := (0 : Int32)) (fun hc2 => zB_iff.mpr ?_) (fun hc2 => zB_iff.mpr ?_))
  · -- pc 15
    have i2 : ¬ r1.toInt = (0 : Int) := zop_int.mp hc2
    have hvt : v = true := hv.resolve_right (fun hn => hn (by omega))
    subst hvt
    refine zrn_ok HW 3 (zB_iff.mpr (?_ : G (19, [(0, .inl (.ref 49)), (1, .inl (.int b))], [.inl (.int (61 : Int32)), .inl (.int b), .inl (.ref 49)], h, 0, 0)))
    refine g_callV (E' := ze_X5_beginValuesN) HW rfl rfl (Nat.le_of_ble_eq_true rfl) (Nat.le_of_ble_eq_true rfl) (Nat.le_of_ble_eq_true rfl) ok.1 rfl hq_q rfl (Nat.le_of_ble_eq_true rfl) (c_beginValuesN ok ⟨by omega, by omega⟩ ⟨by decide, by decide⟩ (fun h3 ok3 bf3 ea3 eb3 fr3 => zB_iff.mpr ?_))
    show G (22, [(0, .inl (.ref 49)), (1, .inl (.int b))], [], h3, 0, 0)
    have md3 := made (tExt_rf T) hq_0 t66 ok3 bf3 ea3 eb3
    refine zrn_ok HW 1 (zB_iff.mpr (?_ : G (23, [(0, .inl (.ref 49)), (1, .inl (.int b))], [.inl (.ref 49)], h3, 0, 0)))
    refine g_callV (E' := ze_X5_standing) HW rfl rfl (Nat.le_of_ble_eq_true rfl) (Nat.le_of_ble_eq_true rfl) (Nat.le_of_ble_eq_true rfl) ok3.1 rfl hq_q rfl (Nat.le_of_ble_eq_true rfl) (c_standing5 ok3 hq_q (ok3.2.1.2.1 49 5 hq_q (Or.inl rfl)).1 (fun st4 hs4 sl4 su4 => zB_iff.mpr ?_))
    show G (26, [(0, .inl (.ref 49)), (1, .inl (.int b))], [.inl (.int st4)], h3, 0, 0)
    have le4 := std_le ok3.1 hq_q (ok3.2.1.2.1 49 5 hq_q (Or.inl rfl)).1 (ok3.2.1.2.1 49 5 hq_q (Or.inl rfl)).2 hs4
    refine zrn_ok HW 3 (zB_iff.mpr (?_ : G (29, [(3, .inl (.int (0 : Int32))), (2, .inl (.int st4)), (0, .inl (.ref 49)), (1, .inl (.int b))], [], h3, 0, 0)))
    have sl0 := sl4
    have su0 := su4
    have le0 : popc st4 8 ≤ hi h3 49 38 := by rw [md3.2]; exact le4
    have loop : ∀ i j : Nat, i + j = 62 → ∀ hl : zH, wOK (zPhi (n, m, ρ, true)) N T hl → vFr T h3 hl → G (29, [(3, .inl (.int (Int32.ofNat j))), (2, .inl (.int st4)), (0, .inl (.ref 49)), (1, .inl (.int b))], [], hl, 0, 0) := by
      intro i
      induction i with
      | zero =>
        intro j hj hl okl Fl
        have ej := nI_int (k := j) (by omega)
        refine zrn_ok HW 2 (zB_iff.mpr (?_ : G (31, [(3, .inl (.int (Int32.ofNat j))), (2, .inl (.int st4)), (0, .inl (.ref 49)), (1, .inl (.int b))], [.inl (.ref 49), .inl (.int (Int32.ofNat j))], hl, 0, 0)))
        obtain ⟨x1, g1, e1, l1, u1⟩ := hi_val (i := 38) okl.1 hq_q (by decide) rfl
        have l1 : (0 : Int) ≤ x1.toInt := l1
        have u1 : x1.toInt ≤ (60 : Int) := u1
        refine g_getf HW rfl okl.1 hq_q rfl g1 ?_
        refine zrn_ok HW 1 (zB_iff.mpr (?_ : G (35, [(3, .inl (.int (Int32.ofNat j))), (2, .inl (.int st4)), (0, .inl (.ref 49)), (1, .inl (.int b))], [.inl (.int st4), .inl (.int x1), .inl (.int (Int32.ofNat j))], hl, 0, 0)))
        refine g_callS (b := 0) (E' := ze_X5_bits) HW (Or.inl rfl) rfl rfl (Nat.le_of_ble_eq_true rfl) (Nat.le_of_ble_eq_true rfl) (Nat.le_of_ble_eq_true rfl) (Nat.le_of_ble_eq_true rfl) (c_bits (fun p2 ep2 => zB_iff.mpr ?_))
        show G (38, [(3, .inl (.int (Int32.ofNat j))), (2, .inl (.int st4)), (0, .inl (.ref 49)), (1, .inl (.int b))], [.inl (.int p2), .inl (.int x1), .inl (.int (Int32.ofNat j))], hl, 0, 0)
        have y3 : -2147483648 ≤ x1.toInt - p2.toInt → x1.toInt - p2.toInt ≤ 2147483647 → (x1 - p2).toInt = x1.toInt - p2.toInt := t_subC (x := x1) (y := p2)
        have pb := popc_b (x := st4) (k := 8) (by omega)
        have eL : (x1 - p2).toInt = x1.toInt - p2.toInt := t_sub (by omega) (by omega)
        refine zrn_ok HW 2 (zbr_ex (cd := .gt) (x := (Int32.ofNat j)) (y := (x1 - p2)) (fun hc4 => zB_iff.mpr ?_) (fun hc4 => zB_iff.mpr ?_))
        · -- pc 61
          have i4 : (Int32.ofNat j).toInt > (x1 - p2).toInt := zop_int.mp hc4
          refine zrn_ok HW 2 ?_
          exact zret_i rfl rfl (kk (60 : Int32) T hl (tExt_rf T) okl)
        · -- pc 42
          have i4 : ¬ ((Int32.ofNat j).toInt > (x1 - p2).toInt) := fun e => hc4 (zop_int.mpr e)
          exfalso
          omega
      | succ i ih =>
        intro j hj hl okl Fl
        have ej := nI_int (k := j) (by omega)
        refine zrn_ok HW 2 (zB_iff.mpr (?_ : G (31, [(3, .inl (.int (Int32.ofNat j))), (2, .inl (.int st4)), (0, .inl (.ref 49)), (1, .inl (.int b))], [.inl (.ref 49), .inl (.int (Int32.ofNat j))], hl, 0, 0)))
        obtain ⟨x1, g1, e1, l1, u1⟩ := hi_val (i := 38) okl.1 hq_q (by decide) rfl
        have l1 : (0 : Int) ≤ x1.toInt := l1
        have u1 : x1.toInt ≤ (60 : Int) := u1
        refine g_getf HW rfl okl.1 hq_q rfl g1 ?_
        refine zrn_ok HW 1 (zB_iff.mpr (?_ : G (35, [(3, .inl (.int (Int32.ofNat j))), (2, .inl (.int st4)), (0, .inl (.ref 49)), (1, .inl (.int b))], [.inl (.int st4), .inl (.int x1), .inl (.int (Int32.ofNat j))], hl, 0, 0)))
        refine g_callS (b := 0) (E' := ze_X5_bits) HW (Or.inl rfl) rfl rfl (Nat.le_of_ble_eq_true rfl) (Nat.le_of_ble_eq_true rfl) (Nat.le_of_ble_eq_true rfl) (Nat.le_of_ble_eq_true rfl) (c_bits (fun p2 ep2 => zB_iff.mpr ?_))
        show G (38, [(3, .inl (.int (Int32.ofNat j))), (2, .inl (.int st4)), (0, .inl (.ref 49)), (1, .inl (.int b))], [.inl (.int p2), .inl (.int x1), .inl (.int (Int32.ofNat j))], hl, 0, 0)
        have y3 : -2147483648 ≤ x1.toInt - p2.toInt → x1.toInt - p2.toInt ≤ 2147483647 → (x1 - p2).toInt = x1.toInt - p2.toInt := t_subC (x := x1) (y := p2)
        have pb := popc_b (x := st4) (k := 8) (by omega)
        have eL : (x1 - p2).toInt = x1.toInt - p2.toInt := t_sub (by omega) (by omega)
        refine zrn_ok HW 2 (zbr_ex (cd := .gt) (x := (Int32.ofNat j)) (y := (x1 - p2)) (fun hc4 => zB_iff.mpr ?_) (fun hc4 => zB_iff.mpr ?_))
        · -- pc 61
          have i4 : (Int32.ofNat j).toInt > (x1 - p2).toInt := zop_int.mp hc4
          refine zrn_ok HW 2 ?_
          exact zret_i rfl rfl (kk (60 : Int32) T hl (tExt_rf T) okl)
        · -- pc 42
          have i4 : ¬ ((Int32.ofNat j).toInt > (x1 - p2).toInt) := fun e => hc4 (zop_int.mpr e)
          refine zrn_ok HW 3 (zB_iff.mpr (?_ : G (45, [(3, .inl (.int (Int32.ofNat j))), (2, .inl (.int st4)), (0, .inl (.ref 49)), (1, .inl (.int b))], [.inl (.int (Int32.ofNat j)), .inl (.int st4), .inl (.ref 49)], hl, 0, 0)))
          refine g_callV (E' := ze_X5_valueAt) HW rfl rfl (Nat.le_of_ble_eq_true rfl) (Nat.le_of_ble_eq_true rfl) (Nat.le_of_ble_eq_true rfl) okl.1 rfl hq_q rfl (Nat.le_of_ble_eq_true rfl) (c_valueAt 61 _ (Int32.ofNat j) (by omega) (by omega) (by omega) (by omega) hl st4 _ okl sl0 su0 (by omega) (fun r5 h5 ok5 F5 z5 => zB_iff.mpr ?_))
          show G (48, [(3, .inl (.int (Int32.ofNat j))), (2, .inl (.int st4)), (0, .inl (.ref 49)), (1, .inl (.int b))], [.inl (.long r5)], h5, 0, 0)
          refine zrn_ok HW 3 (t_and2 (zisI_lcmp r5 (0 : Int64)) (zbr_l (cd := .ne) (x := r5) (y := (0 : Int64)) (fun hc6 => zB_iff.mpr ?_) (fun hc6 => zB_iff.mpr ?_)))
          · -- pc 55
            have i6 : ¬ (r5 : Int64).toInt = ((0 : Int64) : Int64).toInt := hc6
            have i6 : ¬ r5.toInt = (0 : Int) := by have r1 : (0 : Int64).toInt = 0 := rfl; omega
            have y7 : -2147483648 ≤ (Int32.ofNat j).toInt + (1 : Int) → (Int32.ofNat j).toInt + (1 : Int) ≤ 2147483647 → ((Int32.ofNat j) + (1 : Int32)).toInt = (Int32.ofNat j).toInt + (1 : Int) := t_addC (x := (Int32.ofNat j)) (y := (1 : Int32))
            refine zrn_ok HW 2 (zB_iff.mpr (?_ : G (29, [(3, .inl (.int ((Int32.ofNat j) + (1 : Int32)))), (2, .inl (.int st4)), (0, .inl (.ref 49)), (1, .inl (.int b))], [], h5, 0, 0)))
            have := ih (j + 1) (by omega) h5 ok5 (fun p i hp => (F5 p i hp).trans (Fl p i hp))
            rw [← nI_add1] at this
            exact this
          · -- pc 53
            have i6 : ¬ (¬ (r5 : Int64).toInt = ((0 : Int64) : Int64).toInt) := hc6
            have i6 : ¬ (¬ r5.toInt = (0 : Int)) := by have r1 : (0 : Int64).toInt = 0 := rfl; omega
            refine zrn_ok HW 2 ?_
            exact zret_i rfl rfl (kk (Int32.ofNat j) T h5 (tExt_rf T) ok5)
    exact loop 62 0 rfl h3 ok3 (fun _ _ _ => rfl)
  · -- pc 8
    have i2 : ¬ (¬ r1.toInt = (0 : Int)) := fun e => hc2 (zop_int.mpr e)
    refine zrn_ok HW 2 (zB_iff.mpr (?_ : G (11, [(0, .inl (.ref 49)), (1, .inl (.int b))], [.inl (.int (-2 : Int32)), .inl (.ref 49)], h, 0, 0)))
    refine g_tV (e := te_X5_refuse_0) (E' := ze_X5_refuse) HW (tLow_of IH hd) rfl rfl (show te_X5_refuse_0 ∈ [te_X5_refuse_0] from List.mem_cons_self) (by decide +kernel) (Nat.le_of_ble_eq_true rfl) ⟨rfl, rfl⟩ (by decide) ok.1 ok.2.1 rfl hq_q rfl (Nat.le_of_ble_eq_true rfl) ⟨⟨_, rfl, hq_q⟩, okA_I (by decide) (by decide), trivial⟩ (fun v5 T5 h5 m5 k5 f5 lh5 r5 => ?_)
    obtain ⟨w5, rfl, hw5, cd5⟩ := r5
    obtain ⟨x5, rfl, l5, u5⟩ := tint_sp rfl hw5
    have l5 : ((-6) : Int) ≤ x5.toInt := l5
    have u5 : x5.toInt ≤ ((-2) : Int) := u5
    have ok5 : wOK (zPhi (n, m, ρ, v)) N T5 h5 := ⟨k5, f5, Nat.le_trans lh5 ok.2.2⟩
    have hq_q := m5 _ _ hq_q
    show G (14, [(0, .inl (.ref 49)), (1, .inl (.int b))], [.inl (.int x5)], h5, 0, 0)
    refine zrn_ok HW 1 ?_
    exact zret_i rfl rfl (kk x5 T5 h5 (tExt_tr (tExt_rf T) m5) ok5)
theorem c_plan {n m : Int} {ρ : Option Int} {v : Bool} {N : Nat} {scr : List zV} {d : Nat} {T : List Nat} {h : zH} {b : Int32} {post : Option zV → zH → Bool} (IH : tBel (zPhi (n, m, ρ, v)) scr 1) (ok : wOK (zPhi (n, m, ρ, v)) N T h) (hN : h.length + 63 ≤ N) (h6 : N ≤ 1000000) (need : 0 ≤ b.toInt ∧ b.toInt < hi h 49 23) (kk : ∀ (y : Int32) (T' : List Nat) (h' : zH), tExt T T' → wOK (zPhi (n, m, ρ, true)) N T' h' → post (some (.inl (.int y))) h' = true) : zD zprog scr (d + 133) 208 [.inl (.ref 49), .inl (.int b)] h post = true := by
  have hd : 1 ≤ d + 132 := by omega
  have hq_0 := ok.2.1.1.2.2.1
  have hq_q := hq_0
  have t66 : T[66]? = some 31 := ((ok.2.1.2.1 49 5 hq_0 (Or.inl rfl)).1.1 (16, 17, 31) (by decide +kernel)).2
  refine zD_intro (E := ze_X5_plan) rfl rfl (fun G HW => ?_)
  refine zrn_ok HW 2 (zB_iff.mpr (?_ : G (2, [(0, .inl (.ref 49)), (1, .inl (.int b))], [.inl (.int b), .inl (.ref 49)], h, 0, 0)))
  refine g_callV (E' := ze_X5_isBuyer) HW rfl rfl (Nat.le_of_ble_eq_true rfl) (Nat.le_of_ble_eq_true rfl) (Nat.le_of_ble_eq_true rfl) ok.1 rfl hq_q rfl (Nat.le_of_ble_eq_true rfl) (c_isBuyer ok hq_q (fun r1 f1 => zB_iff.mpr ?_))
  show G (5, [(0, .inl (.ref 49)), (1, .inl (.int b))], [.inl (.int r1)], h, 0, 0)
  obtain ⟨nb1, -, eb1, -, ub1⟩ := hi_val (i := 23) ok.1 hq_q (by decide) rfl
  have ub1 : nb1.toInt ≤ (4 : Int) := ub1
  have f1 : (r1.toInt = 1 ∧ 0 ≤ b.toInt ∧ b.toInt < hi h 49 23) ∨ (r1.toInt = 0 ∧ ¬ (0 ≤ b.toInt ∧ b.toInt < hi h 49 23)) := by rcases f1 with ⟨e, x, y⟩ | ⟨e, x⟩; exact Or.inl ⟨by rw [e]; rfl, x, y⟩; exact Or.inr ⟨by rw [e]; rfl, x⟩
  refine zrn_ok HW 1 (zbr_ex (cd := .eq) (x := r1) (y := (0 : Int32)) (fun hc2 => zB_iff.mpr ?_) (fun hc2 => zB_iff.mpr ?_))
  · -- pc 16
    have i2 : r1.toInt = (0 : Int) := zop_int.mp hc2
    refine zrn_ok HW 2 (zB_iff.mpr (?_ : G (19, [(0, .inl (.ref 49)), (1, .inl (.int b))], [.inl (.int (-2 : Int32)), .inl (.ref 49)], h, 0, 0)))
    refine g_tV (e := te_X5_refuse_0) (E' := ze_X5_refuse) HW (tLow_of IH hd) rfl rfl (show te_X5_refuse_0 ∈ [te_X5_refuse_0] from List.mem_cons_self) (by decide +kernel) (Nat.le_of_ble_eq_true rfl) ⟨rfl, rfl⟩ (by decide) ok.1 ok.2.1 rfl hq_q rfl (Nat.le_of_ble_eq_true rfl) ⟨⟨_, rfl, hq_q⟩, okA_I (by decide) (by decide), trivial⟩ (fun v3 T3 h3 m3 k3 f3 lh3 r3 => ?_)
    obtain ⟨w3, rfl, hw3, cd3⟩ := r3
    obtain ⟨x3, rfl, l3, u3⟩ := tint_sp rfl hw3
    have l3 : ((-6) : Int) ≤ x3.toInt := l3
    have u3 : x3.toInt ≤ ((-2) : Int) := u3
    have ok3 : wOK (zPhi (n, m, ρ, v)) N T3 h3 := ⟨k3, f3, Nat.le_trans lh3 ok.2.2⟩
    have hq_q := m3 _ _ hq_q
    show G (22, [(0, .inl (.ref 49)), (1, .inl (.int b))], [.inl (.int x3)], h3, 0, 0)
    refine zrn_ok HW 1 ?_
    exfalso
    omega
  · -- pc 8
    have i2 : ¬ (r1.toInt = (0 : Int)) := fun e => hc2 (zop_int.mpr e)
    refine zrn_ok HW 2 (zB_iff.mpr (?_ : G (10, [(0, .inl (.ref 49)), (1, .inl (.int b))], [.inl (.int b), .inl (.ref 49)], h, 0, 0)))
    refine g_callV (E' := ze_X5_planOf) HW rfl rfl (Nat.le_of_ble_eq_true rfl) (Nat.le_of_ble_eq_true rfl) (Nat.le_of_ble_eq_true rfl) ok.1 rfl hq_q rfl (Nat.le_of_ble_eq_true rfl) (c_planOf ok hN h6 ⟨by omega, by omega⟩ (fun y4 T4 h4 m4 ok4 bf4 cn4 => zB_iff.mpr ?_))
    show G (13, [(0, .inl (.ref 49)), (1, .inl (.int b))], [.inl (.int y4)], h4, 63, 15934)
    have hq_q := m4 _ _ hq_q
    refine zrn_ok HW 2 ?_
    exact zret_i rfl rfl (kk y4 T4 h4 (tExt_tr (tExt_rf T) m4) ok4)
theorem c_mean {n m : Int} {ρ : Option Int} {v : Bool} {N : Nat} {scr : List zV} {d : Nat} {T : List Nat} {h : zH} {b g0 : Int32} {post : Option zV → zH → Bool} (IH : tBel (zPhi (n, m, ρ, v)) scr 1) (ok : wOK (zPhi (n, m, ρ, v)) N T h) (hN : h.length + 63 ≤ N) (h6 : N ≤ 1000000) (need : (0 ≤ b.toInt ∧ b.toInt < hi h 49 23) ∧ 0 ≤ g0.toInt ∧ g0.toInt ≤ 8) (kk : ∀ (y : Int32) (T' : List Nat) (h' : zH), tExt T T' → wOK (zPhi (n, m, ρ, true)) N T' h' → post (some (.inl (.int y))) h' = true) : zD zprog scr (d + 133) 199 [.inl (.ref 49), .inl (.int b), .inl (.int g0)] h post = true := by
  have hd : 1 ≤ d + 132 := by omega
  have hq_0 := ok.2.1.1.2.2.1
  have hq_q := hq_0
  have t66 : T[66]? = some 31 := ((ok.2.1.2.1 49 5 hq_0 (Or.inl rfl)).1.1 (16, 17, 31) (by decide +kernel)).2
  refine zD_intro (E := ze_X5_mean) rfl rfl (fun G HW => ?_)
  refine zrn_ok HW 2 (zB_iff.mpr (?_ : G (2, [(0, .inl (.ref 49)), (1, .inl (.int b)), (2, .inl (.int g0))], [.inl (.int b), .inl (.ref 49)], h, 0, 0)))
  refine g_callV (E' := ze_X5_isBuyer) HW rfl rfl (Nat.le_of_ble_eq_true rfl) (Nat.le_of_ble_eq_true rfl) (Nat.le_of_ble_eq_true rfl) ok.1 rfl hq_q rfl (Nat.le_of_ble_eq_true rfl) (c_isBuyer ok hq_q (fun r1 f1 => zB_iff.mpr ?_))
  show G (5, [(0, .inl (.ref 49)), (1, .inl (.int b)), (2, .inl (.int g0))], [.inl (.int r1)], h, 0, 0)
  obtain ⟨nb1, -, eb1, -, ub1⟩ := hi_val (i := 23) ok.1 hq_q (by decide) rfl
  have ub1 : nb1.toInt ≤ (4 : Int) := ub1
  have f1 : (r1.toInt = 1 ∧ 0 ≤ b.toInt ∧ b.toInt < hi h 49 23) ∨ (r1.toInt = 0 ∧ ¬ (0 ≤ b.toInt ∧ b.toInt < hi h 49 23)) := by rcases f1 with ⟨e, x, y⟩ | ⟨e, x⟩; exact Or.inl ⟨by rw [e]; rfl, x, y⟩; exact Or.inr ⟨by rw [e]; rfl, x⟩
  refine zrn_ok HW 1 (zbr_ex (cd := .eq) (x := r1) (y := (0 : Int32)) (fun hc2 => zB_iff.mpr ?_) (fun hc2 => zB_iff.mpr ?_))
  · -- pc 30
    have i2 : r1.toInt = (0 : Int) := zop_int.mp hc2
    refine zrn_ok HW 2 (zB_iff.mpr (?_ : G (33, [(0, .inl (.ref 49)), (1, .inl (.int b)), (2, .inl (.int g0))], [.inl (.int (-2 : Int32)), .inl (.ref 49)], h, 0, 0)))
    refine g_tV (e := te_X5_refuse_0) (E' := ze_X5_refuse) HW (tLow_of IH hd) rfl rfl (show te_X5_refuse_0 ∈ [te_X5_refuse_0] from List.mem_cons_self) (by decide +kernel) (Nat.le_of_ble_eq_true rfl) ⟨rfl, rfl⟩ (by decide) ok.1 ok.2.1 rfl hq_q rfl (Nat.le_of_ble_eq_true rfl) ⟨⟨_, rfl, hq_q⟩, okA_I (by decide) (by decide), trivial⟩ (fun v3 T3 h3 m3 k3 f3 lh3 r3 => ?_)
    obtain ⟨w3, rfl, hw3, cd3⟩ := r3
    obtain ⟨x3, rfl, l3, u3⟩ := tint_sp rfl hw3
    have l3 : ((-6) : Int) ≤ x3.toInt := l3
    have u3 : x3.toInt ≤ ((-2) : Int) := u3
    have ok3 : wOK (zPhi (n, m, ρ, v)) N T3 h3 := ⟨k3, f3, Nat.le_trans lh3 ok.2.2⟩
    have hq_q := m3 _ _ hq_q
    show G (36, [(0, .inl (.ref 49)), (1, .inl (.int b)), (2, .inl (.int g0))], [.inl (.int x3)], h3, 0, 0)
    refine zrn_ok HW 1 ?_
    exfalso
    omega
  · -- pc 8
    have i2 : ¬ (r1.toInt = (0 : Int)) := fun e => hc2 (zop_int.mpr e)
    refine zrn_ok HW 4 (zB_iff.mpr (?_ : G (14, [(0, .inl (.ref 49)), (1, .inl (.int b)), (2, .inl (.int g0))], [.inl (.long (8 : Int64)), .inl (.long (0 : Int64)), .inl (.long (Int32.toInt64 g0))], h, 0, 0)))
    refine g_callS (b := 0) (E' := ze_X5_in) HW (Or.inl rfl) rfl rfl (Nat.le_of_ble_eq_true rfl) (Nat.le_of_ble_eq_true rfl) (Nat.le_of_ble_eq_true rfl) (Nat.le_of_ble_eq_true rfl) (c_in (fun a4 b4 => zB_iff.mpr ?_) (fun n4 => zB_iff.mpr ?_))
    · show G (17, [(0, .inl (.ref 49)), (1, .inl (.int b)), (2, .inl (.int g0))], [.inl (.int (1 : Int32))], h, 0, 0)
      have a4 : (0 : Int) ≤ g0.toInt := by have r0 : (Int32.toInt64 g0).toInt = g0.toInt := q_i2l _; have r1 : (0 : Int64).toInt = 0 := rfl; have r2 : (8 : Int64).toInt = 8 := rfl; omega
      have b4 : g0.toInt ≤ (8 : Int) := by have r0 : (Int32.toInt64 g0).toInt = g0.toInt := q_i2l _; have r1 : (0 : Int64).toInt = 0 := rfl; have r2 : (8 : Int64).toInt = 8 := rfl; omega
      refine zrn_ok HW 4 (zB_iff.mpr (?_ : G (23, [(0, .inl (.ref 49)), (1, .inl (.int b)), (2, .inl (.int g0))], [.inl (.int g0), .inl (.int b), .inl (.ref 49)], h, 0, 0)))
      refine g_callV (E' := ze_X5_meanOf) HW rfl rfl (Nat.le_of_ble_eq_true rfl) (Nat.le_of_ble_eq_true rfl) (Nat.le_of_ble_eq_true rfl) ok.1 rfl hq_q rfl (Nat.le_of_ble_eq_true rfl) (c_meanOf ok hN h6 ⟨by omega, by omega⟩ ⟨by omega, by omega⟩ (fun y5 T5 h5 m5 ok5 bf5 => zB_iff.mpr ?_))
      show G (26, [(0, .inl (.ref 49)), (1, .inl (.int b)), (2, .inl (.int g0))], [.inl (.long y5)], h5, 63, 15934)
      have hq_q := m5 _ _ hq_q
      refine zrn_ok HW 3 ?_
      exact zret_i rfl rfl (kk (Int64.toInt32 y5) T5 h5 (tExt_tr (tExt_rf T) m5) ok5)
    · show G (17, [(0, .inl (.ref 49)), (1, .inl (.int b)), (2, .inl (.int g0))], [.inl (.int (0 : Int32))], h, 0, 0)
      have n4 : ¬ ((0 : Int) ≤ g0.toInt ∧ g0.toInt ≤ (8 : Int)) := by have r0 : (Int32.toInt64 g0).toInt = g0.toInt := q_i2l _; have r1 : (0 : Int64).toInt = 0 := rfl; have r2 : (8 : Int64).toInt = 8 := rfl; omega
      refine zrn_ok HW 3 (zB_iff.mpr (?_ : G (33, [(0, .inl (.ref 49)), (1, .inl (.int b)), (2, .inl (.int g0))], [.inl (.int (-2 : Int32)), .inl (.ref 49)], h, 0, 0)))
      refine g_tV (e := te_X5_refuse_0) (E' := ze_X5_refuse) HW (tLow_of IH hd) rfl rfl (show te_X5_refuse_0 ∈ [te_X5_refuse_0] from List.mem_cons_self) (by decide +kernel) (Nat.le_of_ble_eq_true rfl) ⟨rfl, rfl⟩ (by decide) ok.1 ok.2.1 rfl hq_q rfl (Nat.le_of_ble_eq_true rfl) ⟨⟨_, rfl, hq_q⟩, okA_I (by decide) (by decide), trivial⟩ (fun v6 T6 h6 m6 k6 f6 lh6 r6 => ?_)
      obtain ⟨w6, rfl, hw6, cd6⟩ := r6
      obtain ⟨x6, rfl, l6, u6⟩ := tint_sp rfl hw6
      have l6 : ((-6) : Int) ≤ x6.toInt := l6
      have u6 : x6.toInt ≤ ((-2) : Int) := u6
      have ok6 : wOK (zPhi (n, m, ρ, v)) N T6 h6 := ⟨k6, f6, Nat.le_trans lh6 ok.2.2⟩
      have hq_q := m6 _ _ hq_q
      show G (36, [(0, .inl (.ref 49)), (1, .inl (.int b)), (2, .inl (.int g0))], [.inl (.int x6)], h6, 0, 0)
      refine zrn_ok HW 1 ?_
      exfalso
      omega
theorem c_atOnce {n m : Int} {ρ : Option Int} {v : Bool} {N : Nat} {scr : List zV} {d : Nat} {T : List Nat} {h : zH} {b : Int32} {post : Option zV → zH → Bool} (IH : tBel (zPhi (n, m, ρ, v)) scr 1) (ok : wOK (zPhi (n, m, ρ, v)) N T h) (hN : h.length + 63 ≤ N) (h6 : N ≤ 1000000) (need : 0 ≤ b.toInt ∧ b.toInt < hi h 49 23) (kk : ∀ (y : Int32) (T' : List Nat) (h' : zH), tExt T T' → wOK (zPhi (n, m, ρ, true)) N T' h' → post (some (.inl (.int y))) h' = true) : zD zprog scr (d + 133) 155 [.inl (.ref 49), .inl (.int b)] h post = true := by
  have hd : 1 ≤ d + 132 := by omega
  have hq_0 := ok.2.1.1.2.2.1
  have hq_q := hq_0
  have t66 : T[66]? = some 31 := ((ok.2.1.2.1 49 5 hq_0 (Or.inl rfl)).1.1 (16, 17, 31) (by decide +kernel)).2
  refine zD_intro (E := ze_X5_atOnce) rfl rfl (fun G HW => ?_)
  refine zrn_ok HW 2 (zB_iff.mpr (?_ : G (2, [(0, .inl (.ref 49)), (1, .inl (.int b))], [.inl (.int b), .inl (.ref 49)], h, 0, 0)))
  refine g_callV (E' := ze_X5_isBuyer) HW rfl rfl (Nat.le_of_ble_eq_true rfl) (Nat.le_of_ble_eq_true rfl) (Nat.le_of_ble_eq_true rfl) ok.1 rfl hq_q rfl (Nat.le_of_ble_eq_true rfl) (c_isBuyer ok hq_q (fun r1 f1 => zB_iff.mpr ?_))
  show G (5, [(0, .inl (.ref 49)), (1, .inl (.int b))], [.inl (.int r1)], h, 0, 0)
  obtain ⟨nb1, -, eb1, -, ub1⟩ := hi_val (i := 23) ok.1 hq_q (by decide) rfl
  have ub1 : nb1.toInt ≤ (4 : Int) := ub1
  have f1 : (r1.toInt = 1 ∧ 0 ≤ b.toInt ∧ b.toInt < hi h 49 23) ∨ (r1.toInt = 0 ∧ ¬ (0 ≤ b.toInt ∧ b.toInt < hi h 49 23)) := by rcases f1 with ⟨e, x, y⟩ | ⟨e, x⟩; exact Or.inl ⟨by rw [e]; rfl, x, y⟩; exact Or.inr ⟨by rw [e]; rfl, x⟩
  refine zrn_ok HW 1 (zbr_ex (cd := .ne) (x := r1) (y := (0 : Int32)) (fun hc2 => zB_iff.mpr ?_) (fun hc2 => zB_iff.mpr ?_))
  · -- pc 19
    have i2 : ¬ r1.toInt = (0 : Int) := zop_int.mp hc2
    refine zrn_ok HW 3 (zB_iff.mpr (?_ : G (22, [(0, .inl (.ref 49)), (1, .inl (.int b))], [.inl (.int (5 : Int32)), .inl (.int b), .inl (.ref 49)], h, 0, 0)))
    refine g_callV (E' := ze_X5_meanOf) HW rfl rfl (Nat.le_of_ble_eq_true rfl) (Nat.le_of_ble_eq_true rfl) (Nat.le_of_ble_eq_true rfl) ok.1 rfl hq_q rfl (Nat.le_of_ble_eq_true rfl) (c_meanOf ok hN h6 ⟨by omega, by omega⟩ ⟨by decide, by decide⟩ (fun y3 T3 h3 m3 ok3 bf3 => zB_iff.mpr ?_))
    show G (25, [(0, .inl (.ref 49)), (1, .inl (.int b))], [.inl (.long y3)], h3, 63, 15934)
    have hq_q := m3 _ _ hq_q
    refine zrn_ok HW 2 (zB_iff.mpr (?_ : G (29, [(0, .inl (.ref 49)), (1, .inl (.int b))], [.inl (.ref 49), .inl (.long (1000 : Int64)), .inl (.long y3)], h3, 63, 15934)))
    obtain ⟨x4, g4, e4, l4, u4⟩ := hi_val (i := 12) ok3.1 hq_q (by decide) rfl
    have l4 : (1 : Int) ≤ x4.toInt := l4
    have u4 : x4.toInt ≤ (495 : Int) := u4
    refine g_getf HW rfl ok3.1 hq_q rfl g4 ?_
    refine zrn_ok HW 5 ?_
    exact zret_i rfl rfl (kk (Int64.toInt32 (y3 - ((1000 : Int64) * (Int32.toInt64 x4)))) T3 h3 (tExt_tr (tExt_rf T) m3) ok3)
  · -- pc 8
    have i2 : ¬ (¬ r1.toInt = (0 : Int)) := fun e => hc2 (zop_int.mpr e)
    refine zrn_ok HW 3 (zB_iff.mpr (?_ : G (14, [(0, .inl (.ref 49)), (1, .inl (.int b))], [.inl (.int (-2 : Int32)), .inl (.ref 49), .inl (.int (-10000000 : Int32))], h, 0, 0)))
    refine g_tV (e := te_X5_refuse_0) (E' := ze_X5_refuse) HW (tLow_of IH hd) rfl rfl (show te_X5_refuse_0 ∈ [te_X5_refuse_0] from List.mem_cons_self) (by decide +kernel) (Nat.le_of_ble_eq_true rfl) ⟨rfl, rfl⟩ (by decide) ok.1 ok.2.1 rfl hq_q rfl (Nat.le_of_ble_eq_true rfl) ⟨⟨_, rfl, hq_q⟩, okA_I (by decide) (by decide), trivial⟩ (fun v5 T5 h5 m5 k5 f5 lh5 r5 => ?_)
    obtain ⟨w5, rfl, hw5, cd5⟩ := r5
    obtain ⟨x5, rfl, l5, u5⟩ := tint_sp rfl hw5
    have l5 : ((-6) : Int) ≤ x5.toInt := l5
    have u5 : x5.toInt ≤ ((-2) : Int) := u5
    have ok5 : wOK (zPhi (n, m, ρ, v)) N T5 h5 := ⟨k5, f5, Nat.le_trans lh5 ok.2.2⟩
    have hq_q := m5 _ _ hq_q
    show G (17, [(0, .inl (.ref 49)), (1, .inl (.int b))], [.inl (.int x5), .inl (.int (-10000000 : Int32))], h5, 0, 0)
    have y6 : -2147483648 ≤ (-10000000 : Int) + x5.toInt → (-10000000 : Int) + x5.toInt ≤ 2147483647 → ((-10000000 : Int32) + x5).toInt = (-10000000 : Int) + x5.toInt := t_addC (x := (-10000000 : Int32)) (y := x5)
    refine zrn_ok HW 2 ?_
    exfalso
    omega
theorem c_till {n m : Int} {ρ : Option Int} {v : Bool} {N : Nat} {scr : List zV} {d : Nat} {T : List Nat} {h : zH} {b : Int32} {post : Option zV → zH → Bool} (IH : tBel (zPhi (n, m, ρ, v)) scr 1) (ok : wOK (zPhi (n, m, ρ, v)) N T h) (hN : h.length + 63 ≤ N) (h6 : N ≤ 1000000) (need : 0 ≤ b.toInt ∧ b.toInt < hi h 49 23) (kk : ∀ (y : Int32) (T' : List Nat) (h' : zH), tExt T T' → wOK (zPhi (n, m, ρ, true)) N T' h' → post (some (.inl (.int y))) h' = true) : zD zprog scr (d + 133) 240 [.inl (.ref 49), .inl (.int b)] h post = true := by
  have hd : 1 ≤ d + 132 := by omega
  have hq_0 := ok.2.1.1.2.2.1
  have hq_q := hq_0
  have t66 : T[66]? = some 31 := ((ok.2.1.2.1 49 5 hq_0 (Or.inl rfl)).1.1 (16, 17, 31) (by decide +kernel)).2
  refine zD_intro (E := ze_X5_till) rfl rfl (fun G HW => ?_)
  refine zrn_ok HW 2 (zB_iff.mpr (?_ : G (2, [(0, .inl (.ref 49)), (1, .inl (.int b))], [.inl (.int b), .inl (.ref 49)], h, 0, 0)))
  refine g_callV (E' := ze_X5_isBuyer) HW rfl rfl (Nat.le_of_ble_eq_true rfl) (Nat.le_of_ble_eq_true rfl) (Nat.le_of_ble_eq_true rfl) ok.1 rfl hq_q rfl (Nat.le_of_ble_eq_true rfl) (c_isBuyer ok hq_q (fun r1 f1 => zB_iff.mpr ?_))
  show G (5, [(0, .inl (.ref 49)), (1, .inl (.int b))], [.inl (.int r1)], h, 0, 0)
  obtain ⟨nb1, -, eb1, -, ub1⟩ := hi_val (i := 23) ok.1 hq_q (by decide) rfl
  have ub1 : nb1.toInt ≤ (4 : Int) := ub1
  have f1 : (r1.toInt = 1 ∧ 0 ≤ b.toInt ∧ b.toInt < hi h 49 23) ∨ (r1.toInt = 0 ∧ ¬ (0 ≤ b.toInt ∧ b.toInt < hi h 49 23)) := by rcases f1 with ⟨e, x, y⟩ | ⟨e, x⟩; exact Or.inl ⟨by rw [e]; rfl, x, y⟩; exact Or.inr ⟨by rw [e]; rfl, x⟩
  refine zrn_ok HW 1 (zbr_ex (cd := .ne) (x := r1) (y := (0 : Int32)) (fun hc2 => zB_iff.mpr ?_) (fun hc2 => zB_iff.mpr ?_))
  · -- pc 15
    have i2 : ¬ r1.toInt = (0 : Int) := zop_int.mp hc2
    refine zrn_ok HW 3 (zB_iff.mpr (?_ : G (19, [(0, .inl (.ref 49)), (1, .inl (.int b))], [.inl (.int (61 : Int32)), .inl (.int b), .inl (.ref 49)], h, 0, 0)))
    refine g_callV (E' := ze_X5_beginValues) HW rfl rfl (Nat.le_of_ble_eq_true rfl) (Nat.le_of_ble_eq_true rfl) (Nat.le_of_ble_eq_true rfl) ok.1 rfl hq_q rfl (Nat.le_of_ble_eq_true rfl) (c_beginValues ok hN h6 ⟨by omega, by omega⟩ ⟨by decide, by decide⟩ (fun T3 h3 m3 ok3 bf3 ea3 eb3 fr3 => zB_iff.mpr ?_))
    show G (22, [(0, .inl (.ref 49)), (1, .inl (.int b))], [], h3, 63, 15934)
    have md3 := made m3 hq_0 t66 ok3 bf3 ea3 eb3
    have hq_q := m3 _ _ hq_q
    refine zrn_ok HW 1 (zB_iff.mpr (?_ : G (23, [(0, .inl (.ref 49)), (1, .inl (.int b))], [.inl (.ref 49)], h3, 63, 15934)))
    refine g_callV (E' := ze_X5_standing) HW rfl rfl (Nat.le_of_ble_eq_true rfl) (Nat.le_of_ble_eq_true rfl) (Nat.le_of_ble_eq_true rfl) ok3.1 rfl hq_q rfl (Nat.le_of_ble_eq_true rfl) (c_standing5 ok3 hq_q (ok3.2.1.2.1 49 5 hq_q (Or.inl rfl)).1 (fun st4 hs4 sl4 su4 => zB_iff.mpr ?_))
    show G (26, [(0, .inl (.ref 49)), (1, .inl (.int b))], [.inl (.int st4)], h3, 63, 15934)
    have le4 := std_le ok3.1 hq_q (ok3.2.1.2.1 49 5 hq_q (Or.inl rfl)).1 (ok3.2.1.2.1 49 5 hq_q (Or.inl rfl)).2 hs4
    refine zrn_ok HW 3 (zB_iff.mpr (?_ : G (29, [(3, .inl (.int (0 : Int32))), (2, .inl (.int st4)), (0, .inl (.ref 49)), (1, .inl (.int b))], [], h3, 63, 15934)))
    have sl0 := sl4
    have su0 := su4
    have le0 : popc st4 8 ≤ hi h3 49 38 := by rw [md3.2]; exact le4
    have loop : ∀ i j : Nat, i + j = 62 → ∀ hl : zH, wOK (zPhi (n, m, ρ, true)) N T3 hl → vFr T3 h3 hl → G (29, [(3, .inl (.int (Int32.ofNat j))), (2, .inl (.int st4)), (0, .inl (.ref 49)), (1, .inl (.int b))], [], hl, 63, 15934) := by
      intro i
      induction i with
      | zero =>
        intro j hj hl okl Fl
        have ej := nI_int (k := j) (by omega)
        refine zrn_ok HW 2 (zB_iff.mpr (?_ : G (31, [(3, .inl (.int (Int32.ofNat j))), (2, .inl (.int st4)), (0, .inl (.ref 49)), (1, .inl (.int b))], [.inl (.ref 49), .inl (.int (Int32.ofNat j))], hl, 63, 15934)))
        obtain ⟨x1, g1, e1, l1, u1⟩ := hi_val (i := 38) okl.1 hq_q (by decide) rfl
        have l1 : (0 : Int) ≤ x1.toInt := l1
        have u1 : x1.toInt ≤ (60 : Int) := u1
        refine g_getf HW rfl okl.1 hq_q rfl g1 ?_
        refine zrn_ok HW 1 (zB_iff.mpr (?_ : G (35, [(3, .inl (.int (Int32.ofNat j))), (2, .inl (.int st4)), (0, .inl (.ref 49)), (1, .inl (.int b))], [.inl (.int st4), .inl (.int x1), .inl (.int (Int32.ofNat j))], hl, 63, 15934)))
        refine g_callS (b := 0) (E' := ze_X5_bits) HW (Or.inl rfl) rfl rfl (Nat.le_of_ble_eq_true rfl) (Nat.le_of_ble_eq_true rfl) (Nat.le_of_ble_eq_true rfl) (Nat.le_of_ble_eq_true rfl) (c_bits (fun p2 ep2 => zB_iff.mpr ?_))
        show G (38, [(3, .inl (.int (Int32.ofNat j))), (2, .inl (.int st4)), (0, .inl (.ref 49)), (1, .inl (.int b))], [.inl (.int p2), .inl (.int x1), .inl (.int (Int32.ofNat j))], hl, 63, 15934)
        have y3 : -2147483648 ≤ x1.toInt - p2.toInt → x1.toInt - p2.toInt ≤ 2147483647 → (x1 - p2).toInt = x1.toInt - p2.toInt := t_subC (x := x1) (y := p2)
        have pb := popc_b (x := st4) (k := 8) (by omega)
        have eL : (x1 - p2).toInt = x1.toInt - p2.toInt := t_sub (by omega) (by omega)
        refine zrn_ok HW 2 (zbr_ex (cd := .gt) (x := (Int32.ofNat j)) (y := (x1 - p2)) (fun hc4 => zB_iff.mpr ?_) (fun hc4 => zB_iff.mpr ?_))
        · -- pc 61
          have i4 : (Int32.ofNat j).toInt > (x1 - p2).toInt := zop_int.mp hc4
          refine zrn_ok HW 2 ?_
          exact zret_i rfl rfl (kk (60 : Int32) T3 hl (tExt_tr (tExt_rf T) m3) okl)
        · -- pc 42
          have i4 : ¬ ((Int32.ofNat j).toInt > (x1 - p2).toInt) := fun e => hc4 (zop_int.mpr e)
          exfalso
          omega
      | succ i ih =>
        intro j hj hl okl Fl
        have ej := nI_int (k := j) (by omega)
        refine zrn_ok HW 2 (zB_iff.mpr (?_ : G (31, [(3, .inl (.int (Int32.ofNat j))), (2, .inl (.int st4)), (0, .inl (.ref 49)), (1, .inl (.int b))], [.inl (.ref 49), .inl (.int (Int32.ofNat j))], hl, 63, 15934)))
        obtain ⟨x1, g1, e1, l1, u1⟩ := hi_val (i := 38) okl.1 hq_q (by decide) rfl
        have l1 : (0 : Int) ≤ x1.toInt := l1
        have u1 : x1.toInt ≤ (60 : Int) := u1
        refine g_getf HW rfl okl.1 hq_q rfl g1 ?_
        refine zrn_ok HW 1 (zB_iff.mpr (?_ : G (35, [(3, .inl (.int (Int32.ofNat j))), (2, .inl (.int st4)), (0, .inl (.ref 49)), (1, .inl (.int b))], [.inl (.int st4), .inl (.int x1), .inl (.int (Int32.ofNat j))], hl, 63, 15934)))
        refine g_callS (b := 0) (E' := ze_X5_bits) HW (Or.inl rfl) rfl rfl (Nat.le_of_ble_eq_true rfl) (Nat.le_of_ble_eq_true rfl) (Nat.le_of_ble_eq_true rfl) (Nat.le_of_ble_eq_true rfl) (c_bits (fun p2 ep2 => zB_iff.mpr ?_))
        show G (38, [(3, .inl (.int (Int32.ofNat j))), (2, .inl (.int st4)), (0, .inl (.ref 49)), (1, .inl (.int b))], [.inl (.int p2), .inl (.int x1), .inl (.int (Int32.ofNat j))], hl, 63, 15934)
        have y3 : -2147483648 ≤ x1.toInt - p2.toInt → x1.toInt - p2.toInt ≤ 2147483647 → (x1 - p2).toInt = x1.toInt - p2.toInt := t_subC (x := x1) (y := p2)
        have pb := popc_b (x := st4) (k := 8) (by omega)
        have eL : (x1 - p2).toInt = x1.toInt - p2.toInt := t_sub (by omega) (by omega)
        refine zrn_ok HW 2 (zbr_ex (cd := .gt) (x := (Int32.ofNat j)) (y := (x1 - p2)) (fun hc4 => zB_iff.mpr ?_) (fun hc4 => zB_iff.mpr ?_))
        · -- pc 61
          have i4 : (Int32.ofNat j).toInt > (x1 - p2).toInt := zop_int.mp hc4
          refine zrn_ok HW 2 ?_
          exact zret_i rfl rfl (kk (60 : Int32) T3 hl (tExt_tr (tExt_rf T) m3) okl)
        · -- pc 42
          have i4 : ¬ ((Int32.ofNat j).toInt > (x1 - p2).toInt) := fun e => hc4 (zop_int.mpr e)
          refine zrn_ok HW 3 (zB_iff.mpr (?_ : G (45, [(3, .inl (.int (Int32.ofNat j))), (2, .inl (.int st4)), (0, .inl (.ref 49)), (1, .inl (.int b))], [.inl (.int (Int32.ofNat j)), .inl (.int st4), .inl (.ref 49)], hl, 63, 15934)))
          refine g_callV (E' := ze_X5_valueAt) HW rfl rfl (Nat.le_of_ble_eq_true rfl) (Nat.le_of_ble_eq_true rfl) (Nat.le_of_ble_eq_true rfl) okl.1 rfl hq_q rfl (Nat.le_of_ble_eq_true rfl) (c_valueAt 61 _ (Int32.ofNat j) (by omega) (by omega) (by omega) (by omega) hl st4 _ okl sl0 su0 (by omega) (fun r5 h5 ok5 F5 z5 => zB_iff.mpr ?_))
          show G (48, [(3, .inl (.int (Int32.ofNat j))), (2, .inl (.int st4)), (0, .inl (.ref 49)), (1, .inl (.int b))], [.inl (.long r5)], h5, 63, 15934)
          refine zrn_ok HW 3 (t_and2 (zisI_lcmp r5 (0 : Int64)) (zbr_l (cd := .ne) (x := r5) (y := (0 : Int64)) (fun hc6 => zB_iff.mpr ?_) (fun hc6 => zB_iff.mpr ?_)))
          · -- pc 55
            have i6 : ¬ (r5 : Int64).toInt = ((0 : Int64) : Int64).toInt := hc6
            have i6 : ¬ r5.toInt = (0 : Int) := by have r1 : (0 : Int64).toInt = 0 := rfl; omega
            have y7 : -2147483648 ≤ (Int32.ofNat j).toInt + (1 : Int) → (Int32.ofNat j).toInt + (1 : Int) ≤ 2147483647 → ((Int32.ofNat j) + (1 : Int32)).toInt = (Int32.ofNat j).toInt + (1 : Int) := t_addC (x := (Int32.ofNat j)) (y := (1 : Int32))
            refine zrn_ok HW 2 (zB_iff.mpr (?_ : G (29, [(3, .inl (.int ((Int32.ofNat j) + (1 : Int32)))), (2, .inl (.int st4)), (0, .inl (.ref 49)), (1, .inl (.int b))], [], h5, 63, 15934)))
            have := ih (j + 1) (by omega) h5 ok5 (fun p i hp => (F5 p i hp).trans (Fl p i hp))
            rw [← nI_add1] at this
            exact this
          · -- pc 53
            have i6 : ¬ (¬ (r5 : Int64).toInt = ((0 : Int64) : Int64).toInt) := hc6
            have i6 : ¬ (¬ r5.toInt = (0 : Int)) := by have r1 : (0 : Int64).toInt = 0 := rfl; omega
            refine zrn_ok HW 2 ?_
            exact zret_i rfl rfl (kk (Int32.ofNat j) T3 h5 (tExt_tr (tExt_rf T) m3) ok5)
    exact loop 62 0 rfl h3 ok3 (fun _ _ _ => rfl)
  · -- pc 8
    have i2 : ¬ (¬ r1.toInt = (0 : Int)) := fun e => hc2 (zop_int.mpr e)
    refine zrn_ok HW 2 (zB_iff.mpr (?_ : G (11, [(0, .inl (.ref 49)), (1, .inl (.int b))], [.inl (.int (-2 : Int32)), .inl (.ref 49)], h, 0, 0)))
    refine g_tV (e := te_X5_refuse_0) (E' := ze_X5_refuse) HW (tLow_of IH hd) rfl rfl (show te_X5_refuse_0 ∈ [te_X5_refuse_0] from List.mem_cons_self) (by decide +kernel) (Nat.le_of_ble_eq_true rfl) ⟨rfl, rfl⟩ (by decide) ok.1 ok.2.1 rfl hq_q rfl (Nat.le_of_ble_eq_true rfl) ⟨⟨_, rfl, hq_q⟩, okA_I (by decide) (by decide), trivial⟩ (fun v5 T5 h5 m5 k5 f5 lh5 r5 => ?_)
    obtain ⟨w5, rfl, hw5, cd5⟩ := r5
    obtain ⟨x5, rfl, l5, u5⟩ := tint_sp rfl hw5
    have l5 : ((-6) : Int) ≤ x5.toInt := l5
    have u5 : x5.toInt ≤ ((-2) : Int) := u5
    have ok5 : wOK (zPhi (n, m, ρ, v)) N T5 h5 := ⟨k5, f5, Nat.le_trans lh5 ok.2.2⟩
    have hq_q := m5 _ _ hq_q
    show G (14, [(0, .inl (.ref 49)), (1, .inl (.int b))], [.inl (.int x5)], h5, 0, 0)
    refine zrn_ok HW 1 ?_
    exfalso
    omega
