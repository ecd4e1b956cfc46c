theorem tq_X5_fete_0 {scr : List zV} {P : pP} : tM zty (zPhi P) zprog scr zhts zsm 178 te_X5_fete_0 := by
  have hst := p_stab P
  refine t_hand2 (E := ze_X5_fete) (D0 := 1) rfl rfl (by decide +kernel) (fun d T h vs post G hd hok hΦ hlen hvs hp IH HW => ?_)
  obtain ⟨d, rfl⟩ : ∃ d', d = d' + 1 := ⟨d - 1, by omega⟩
  obtain ⟨v_q, vs, rfl, k_q, hvs⟩ := okAs_cons hvs
  obtain ⟨v_x, vs, rfl, k_x, hvs⟩ := okAs_cons hvs
  obtain rfl := okAs_nil hvs
  obtain ⟨q, rfl, hq_q⟩ := tref_sp rfl k_q
  have hq_q : T[q]? = some 5 := hq_q
  obtain ⟨x, rfl, bl_x, bu_x⟩ := tint_sp rfl k_x
  have bl_x : ((-2147483648) : Int) ≤ x.toInt := bl_x
  have bu_x : x.toInt ≤ (2147483647 : Int) := bu_x
  have ok : wOK (zPhi P) h.length T h := ⟨hok, hΦ, Nat.le_refl _⟩
  have RET : ∀ (y : Int32) (T' : List Nat) (h' : zH), tExt T T' → wOK (zPhi P) h.length T' h' → post (some (.inl (.int y))) h' = true := fun y T' h' m' ok' => hp _ T' h' m' ok'.1 ok'.2.1 (by have := ok'.2.2; omega) ⟨_, rfl, okA_If y, fun c hc => by cases hc⟩
  obtain rfl := hΦ.1.2.2.2.2.2 q hq_q
  refine zrn_ok HW 4 (zB_iff.mpr (?_ : G (6, [(0, .inl (.ref 49)), (1, .inl (.int x))], [.inl (.long (1000 : Int64)), .inl (.long (0 : Int64)), .inl (.long (Int32.toInt64 x))], h, 0, 0)))
  refine g_callS (b := 0) (E' := ze_X5_in) HW (Or.inl rfl) rfl rfl (Nat.le_of_ble_eq_true rfl) (Nat.le_of_ble_eq_true rfl) (Nat.le_of_ble_eq_true rfl) (Nat.le_of_ble_eq_true rfl) (c_in (fun a1 b1 => zB_iff.mpr ?_) (fun n1 => zB_iff.mpr ?_))
  · show G (9, [(0, .inl (.ref 49)), (1, .inl (.int x))], [.inl (.int (1 : Int32))], h, 0, 0)
    have a1 : (0 : Int) ≤ x.toInt := by have r0 : (Int32.toInt64 x).toInt = x.toInt := q_i2l _; have r1 : (0 : Int64).toInt = 0 := rfl; have r2 : (1000 : Int64).toInt = 1000 := rfl; omega
    have b1 : x.toInt ≤ (1000 : Int) := by have r0 : (Int32.toInt64 x).toInt = x.toInt := q_i2l _; have r1 : (0 : Int64).toInt = 0 := rfl; have r2 : (1000 : Int64).toInt = 1000 := rfl; omega
    refine zrn_ok HW 3 (zB_iff.mpr (?_ : G (21, [(2, .inl (.int (0 : Int32))), (0, .inl (.ref 49)), (1, .inl (.int x))], [], h, 0, 0)))
    have t66 : T[66]? = some 31 := ((ok.2.1.2.1 49 5 hq_q (Or.inl rfl)).1.1 (16, 17, 31) (by decide +kernel)).2
    have t71 : T[71]? = some 36 := ((ok.2.1.2.1 49 5 hq_q (Or.inl rfl)).1.1 (22, 22, 36) (by decide +kernel)).2
    have loopB : ∀ (k : Nat) (t3 c2 : Int32) (hl : zH), wOK (zPhi P) h.length T hl → 0 ≤ t3.toInt → t3.toInt ≤ 8 → (∀ j : Nat, j ≤ 60 → hi hl 66 j = 0) → 8 - t3.toInt < (k : Int) → G (49, [(3, .inl (.int t3)), (2, .inl (.int c2)), (0, .inl (.ref 49)), (1, .inl (.int x))], [], hl, 0, 0) := by
      intro k
      induction k with
      | zero =>
        intro t3 c2 hl okl y0 y1 z0 hm
        exfalso
        omega
      | succ k ih =>
        intro t3 c2 hl okl y0 y1 z0 hm
        refine zrn_ok HW 2 (zB_iff.mpr (?_ : G (51, [(3, .inl (.int t3)), (2, .inl (.int c2)), (0, .inl (.ref 49)), (1, .inl (.int x))], [.inl (.ref 49), .inl (.int t3)], hl, 0, 0)))
        obtain ⟨x1, g1, e1, l1, u1⟩ := hi_val (i := 17) okl.1 hq_q (by decide) rfl
        have l1 : (0 : Int) ≤ x1.toInt := l1
        have u1 : x1.toInt ≤ (8 : Int) := u1
        refine g_getf HW rfl okl.1 hq_q rfl g1 ?_
        refine zrn_ok HW 1 (zbr_ex (cd := .ge) (x := t3) (y := x1) (fun hc2 => zB_iff.mpr ?_) (fun hc2 => zB_iff.mpr ?_))
        · -- pc 110
          have i2 : t3.toInt ≥ x1.toInt := zop_int.mp hc2
          refine zrn_ok HW 2 ?_
          exact zret_i rfl rfl (RET c2 T hl (tExt_rf T) okl)
        · -- pc 57
          have i2 : ¬ (t3.toInt ≥ x1.toInt) := fun e => hc2 (zop_int.mpr e)
          refine zrn_ok HW 1 (zB_iff.mpr (?_ : G (58, [(3, .inl (.int t3)), (2, .inl (.int c2)), (0, .inl (.ref 49)), (1, .inl (.int x))], [.inl (.ref 49)], hl, 0, 0)))
          have o4 : hget hl 49 22 = some (.inl (.ref 71)) := ((okl.2.1.2.1 49 5 hq_q (Or.inl rfl)).1.1 (22, 22, 36) (by decide +kernel)).1
          have t4 : T[71]? = some 36 := ((okl.2.1.2.1 49 5 hq_q (Or.inl rfl)).1.1 (22, 22, 36) (by decide +kernel)).2
          refine g_getf HW rfl okl.1 hq_q rfl o4 ?_
          refine zrn_ok HW 1 (zB_iff.mpr (?_ : G (62, [(3, .inl (.int t3)), (2, .inl (.int c2)), (0, .inl (.ref 49)), (1, .inl (.int x))], [.inl (.int t3), .inl (.ref 71)], hl, 0, 0)))
          obtain ⟨x5, g5, e5, l5, u5⟩ := hi_val (i := (t3).toInt.toNat) okl.1 t4 (by show _ < 8; omega) rfl
          have l5 : ((-1) : Int) ≤ x5.toInt := l5
          have u5 : x5.toInt ≤ (3 : Int) := u5
          refine g_iald HW rfl okl.1 t4 rfl (by omega) g5 ?_
          refine zrn_ok HW 2 (zbr_ex (cd := .eq) (x := x5) (y := (-1 : Int32)) (fun hc6 => zB_iff.mpr ?_) (fun hc6 => zB_iff.mpr ?_))
          · -- pc 104
            have i6 : x5.toInt = (-1 : Int) := zop_int.mp hc6
            have y7 : -2147483648 ≤ t3.toInt + (1 : Int) → t3.toInt + (1 : Int) ≤ 2147483647 → (t3 + (1 : Int32)).toInt = t3.toInt + (1 : Int) := t_addC (x := t3) (y := (1 : Int32))
            refine zrn_ok HW 2 (zB_iff.mpr (?_ : G (49, [(3, .inl (.int (t3 + (1 : Int32)))), (2, .inl (.int c2)), (0, .inl (.ref 49)), (1, .inl (.int x))], [], hl, 0, 0)))
            exact ih (t3 + (1 : Int32)) c2 _ okl (by omega) (by omega) z0 (by omega)
          · -- pc 67
            have i6 : ¬ (x5.toInt = (-1 : Int)) := fun e => hc6 (zop_int.mpr e)
            refine zrn_ok HW 1 (zB_iff.mpr (?_ : G (68, [(3, .inl (.int t3)), (2, .inl (.int c2)), (0, .inl (.ref 49)), (1, .inl (.int x))], [.inl (.ref 49)], hl, 0, 0)))
            have o9 : hget hl 49 25 = some (.inl (.ref 73)) := ((okl.2.1.2.1 49 5 hq_q (Or.inl rfl)).1.1 (25, 24, 38) (by decide +kernel)).1
            have t9 : T[73]? = some 38 := ((okl.2.1.2.1 49 5 hq_q (Or.inl rfl)).1.1 (25, 24, 38) (by decide +kernel)).2
            refine g_getf HW rfl okl.1 hq_q rfl o9 ?_
            refine zrn_ok HW 1 (zB_iff.mpr (?_ : G (72, [(3, .inl (.int t3)), (2, .inl (.int c2)), (0, .inl (.ref 49)), (1, .inl (.int x))], [.inl (.ref 49), .inl (.ref 73)], hl, 0, 0)))
            have o11 : hget hl 49 22 = some (.inl (.ref 71)) := ((okl.2.1.2.1 49 5 hq_q (Or.inl rfl)).1.1 (22, 22, 36) (by decide +kernel)).1
            have t11 : T[71]? = some 36 := ((okl.2.1.2.1 49 5 hq_q (Or.inl rfl)).1.1 (22, 22, 36) (by decide +kernel)).2
            refine g_getf HW rfl okl.1 hq_q rfl o11 ?_
            refine zrn_ok HW 1 (zB_iff.mpr (?_ : G (76, [(3, .inl (.int t3)), (2, .inl (.int c2)), (0, .inl (.ref 49)), (1, .inl (.int x))], [.inl (.int t3), .inl (.ref 71), .inl (.ref 73)], hl, 0, 0)))
            obtain ⟨x12, g12, e12, l12, u12⟩ := hi_val (i := (t3).toInt.toNat) okl.1 t11 (by show _ < 8; omega) rfl
            have l12 : ((-1) : Int) ≤ x12.toInt := l12
            have u12 : x12.toInt ≤ (3 : Int) := u12
            refine g_iald HW rfl okl.1 t11 rfl (by omega) g12 ?_
            obtain ⟨v13, g13, s13⟩ := hOK_get (i := (x12).toInt.toNat) okl.1 t9 (by show _ < 4; omega)
            obtain ⟨q13, rfl, hq13⟩ : ∃ q : Nat, v13 = .inl (.ref q) ∧ T[q]? = some 39 := s13
            refine g_aald HW rfl okl.1 t9 ⟨by decide, by decide⟩ (by omega) g13 ?_
            refine zrn_ok HW 1 (zB_iff.mpr (?_ : G (79, [(3, .inl (.int t3)), (2, .inl (.int c2)), (0, .inl (.ref 49)), (1, .inl (.int x))], [.inl (.int t3), .inl (.ref q13)], hl, 0, 0)))
            obtain ⟨x14, g14, e14, l14, u14⟩ := hi_val (i := (t3).toInt.toNat) okl.1 hq13 (by show _ < 8; omega) rfl
            have l14 : ((-2147483648) : Int) ≤ x14.toInt := l14
            have u14 : x14.toInt ≤ (2147483647 : Int) := u14
            refine g_iald HW rfl okl.1 hq13 rfl (by omega) g14 ?_
            refine zrn_ok HW 2 (zbr_ex (cd := .ge) (x := x14) (y := x) (fun hc15 => zB_iff.mpr ?_) (fun hc15 => zB_iff.mpr ?_))
            · -- pc 104
              have i15 : x14.toInt ≥ x.toInt := zop_int.mp hc15
              have y16 : -2147483648 ≤ t3.toInt + (1 : Int) → t3.toInt + (1 : Int) ≤ 2147483647 → (t3 + (1 : Int32)).toInt = t3.toInt + (1 : Int) := t_addC (x := t3) (y := (1 : Int32))
              refine zrn_ok HW 2 (zB_iff.mpr (?_ : G (49, [(3, .inl (.int (t3 + (1 : Int32)))), (2, .inl (.int c2)), (0, .inl (.ref 49)), (1, .inl (.int x))], [], hl, 0, 0)))
              exact ih (t3 + (1 : Int32)) c2 _ okl (by omega) (by omega) z0 (by omega)
            · -- pc 84
              have i15 : ¬ (x14.toInt ≥ x.toInt) := fun e => hc15 (zop_int.mpr e)
              refine zrn_ok HW 1 (zB_iff.mpr (?_ : G (85, [(3, .inl (.int t3)), (2, .inl (.int c2)), (0, .inl (.ref 49)), (1, .inl (.int x))], [.inl (.ref 49)], hl, 0, 0)))
              have o18 : hget hl 49 22 = some (.inl (.ref 71)) := ((okl.2.1.2.1 49 5 hq_q (Or.inl rfl)).1.1 (22, 22, 36) (by decide +kernel)).1
              have t18 : T[71]? = some 36 := ((okl.2.1.2.1 49 5 hq_q (Or.inl rfl)).1.1 (22, 22, 36) (by decide +kernel)).2
              refine g_getf HW rfl okl.1 hq_q rfl o18 ?_
              refine zrn_ok HW 2 (zB_iff.mpr (?_ : G (90, [(3, .inl (.int t3)), (2, .inl (.int c2)), (0, .inl (.ref 49)), (1, .inl (.int x))], [.inl (.int (-1 : Int32)), .inl (.int t3), .inl (.ref 71)], hl, 0, 0)))
              have ok19 : wOK (zPhi P) h.length T (hput hl 71 (t3).toInt.toNat (.inl (.int (-1 : Int32)))) := ⟨hOK_put okl.1 t18 ⟨_, rfl, (by show ((-1) : Int) ≤ Int32.toInt (-1 : Int32); decide), (by show Int32.toInt (-1 : Int32) ≤ (3 : Int); decide)⟩, p_putJ hq_q (Or.inl rfl) t71 (Or.inr (Or.inr (Or.inr ⟨rfl, rfl⟩))) (pJ_has (okl.2.1.2.1 49 5 hq_q (Or.inl rfl)).2 z0 (by obtain ⟨sx, -, es, -, us⟩ := hi_val (i := 9) okl.1 hq_q (by decide) rfl; have us : sx.toInt ≤ (60 : Int) := us; omega)) okl.2.1, by rw [hput_len]; exact okl.2.2⟩
              refine g_iast HW rfl okl.1 t18 rfl (by omega) (by show _ < (8 : Int); omega) ?_
              refine zrn_ok HW 1 (zB_iff.mpr (?_ : G (92, [(3, .inl (.int t3)), (2, .inl (.int c2)), (0, .inl (.ref 49)), (1, .inl (.int x))], [.inl (.ref 49)], (hput hl 71 (t3).toInt.toNat (.inl (.int (-1 : Int32)))), 0, 0)))
              have o21 : hget (hput hl 71 (t3).toInt.toNat (.inl (.int (-1 : Int32)))) 49 21 = some (.inl (.ref 70)) := ((ok19.2.1.2.1 49 5 hq_q (Or.inl rfl)).1.1 (21, 21, 35) (by decide +kernel)).1
              have t21 : T[70]? = some 35 := ((ok19.2.1.2.1 49 5 hq_q (Or.inl rfl)).1.1 (21, 21, 35) (by decide +kernel)).2
              refine g_getf HW rfl ok19.1 hq_q rfl o21 ?_
              refine zrn_ok HW 2 (zB_iff.mpr (?_ : G (97, [(3, .inl (.int t3)), (2, .inl (.int c2)), (0, .inl (.ref 49)), (1, .inl (.int x))], [.inl (.int t3), .inl (.ref 70), .inl (.int t3), .inl (.ref 70)], (hput hl 71 (t3).toInt.toNat (.inl (.int (-1 : Int32)))), 0, 0)))
              obtain ⟨x22, g22, e22, l22, u22⟩ := hi_val (i := (t3).toInt.toNat) ok19.1 t21 (by show _ < 8; omega) rfl
              have l22 : ((-2147483648) : Int) ≤ x22.toInt := l22
              have u22 : x22.toInt ≤ (2147483647 : Int) := u22
              refine g_iald HW rfl ok19.1 t21 rfl (by omega) g22 ?_
              have y23 : -2147483648 ≤ x22.toInt + (1 : Int) → x22.toInt + (1 : Int) ≤ 2147483647 → (x22 + (1 : Int32)).toInt = x22.toInt + (1 : Int) := t_addC (x := x22) (y := (1 : Int32))
              refine zrn_ok HW 2 (zB_iff.mpr (?_ : G (100, [(3, .inl (.int t3)), (2, .inl (.int c2)), (0, .inl (.ref 49)), (1, .inl (.int x))], [.inl (.int (x22 + (1 : Int32))), .inl (.int t3), .inl (.ref 70)], (hput hl 71 (t3).toInt.toNat (.inl (.int (-1 : Int32)))), 0, 0)))
              have ok24 : wOK (zPhi P) h.length T (hput (hput hl 71 (t3).toInt.toNat (.inl (.int (-1 : Int32)))) 70 (t3).toInt.toNat (.inl (.int (x22 + (1 : Int32))))) := wOK_put hst ok19 t21 rfl ⟨_, rfl, t_lo _, t_hi _⟩
              refine g_iast HW rfl ok19.1 t21 rfl (by omega) (by show _ < (8 : Int); omega) ?_
              have y25 : -2147483648 ≤ c2.toInt + (1 : Int) → c2.toInt + (1 : Int) ≤ 2147483647 → (c2 + (1 : Int32)).toInt = c2.toInt + (1 : Int) := t_addC (x := c2) (y := (1 : Int32))
              have y26 : -2147483648 ≤ t3.toInt + (1 : Int) → t3.toInt + (1 : Int) ≤ 2147483647 → (t3 + (1 : Int32)).toInt = t3.toInt + (1 : Int) := t_addC (x := t3) (y := (1 : Int32))
              refine zrn_ok HW 3 (zB_iff.mpr (?_ : G (49, [(3, .inl (.int (t3 + (1 : Int32)))), (2, .inl (.int (c2 + (1 : Int32)))), (0, .inl (.ref 49)), (1, .inl (.int x))], [], (hput (hput hl 71 (t3).toInt.toNat (.inl (.int (-1 : Int32)))) 70 (t3).toInt.toNat (.inl (.int (x22 + (1 : Int32))))), 0, 0)))
              exact ih (t3 + (1 : Int32)) (c2 + (1 : Int32)) _ ok24 (by omega) (by omega) (fun j hj => by rw [hi_put_ne (Or.inl (by decide)), hi_put_ne (Or.inl (by decide))]; exact z0 j hj) (by omega)
    have loopA : ∀ i j : Nat, i + j = 61 → ∀ hl : zH, wOK (zPhi P) h.length T hl → (∀ i : Nat, i < j → hi hl 66 i = 0) → G (21, [(2, .inl (.int (Int32.ofNat j))), (0, .inl (.ref 49)), (1, .inl (.int x))], [], hl, 0, 0) := by
      intro i
      induction i with
      | zero =>
        intro j hj hl okl z0
        have ej := nI_int (k := j) (by omega)
        have ejn : (Int32.ofNat j).toInt.toNat = j := by omega
        refine zrn_ok HW 3 (zbr_ex (cd := .gt) (x := (Int32.ofNat j)) (y := (60 : Int32)) (fun hc1 => zB_iff.mpr ?_) (fun hc1 => zB_iff.mpr ?_))
        · -- pc 40
          have i1 : (Int32.ofNat j).toInt > (60 : Int) := zop_int.mp hc1
          refine zrn_ok HW 2 (zB_iff.mpr (?_ : G (42, [(2, .inl (.int (Int32.ofNat j))), (0, .inl (.ref 49)), (1, .inl (.int x))], [.inl (.int (0 : Int32)), .inl (.ref 49)], hl, 0, 0)))
          have ok2 : wOK (zPhi P) h.length T (hput hl 49 13 (.inl (.int (0 : Int32)))) := wOK_put hst okl hq_q rfl ⟨_, rfl, (by show ((-2147483648) : Int) ≤ Int32.toInt (0 : Int32); decide), (by show Int32.toInt (0 : Int32) ≤ (2147483647 : Int); decide)⟩
          refine g_putf HW rfl okl.1 hq_q rfl (by decide) rfl ?_
          refine zrn_ok HW 4 (zB_iff.mpr (?_ : G (49, [(3, .inl (.int (0 : Int32))), (2, .inl (.int (0 : Int32))), (0, .inl (.ref 49)), (1, .inl (.int x))], [], (hput hl 49 13 (.inl (.int (0 : Int32)))), 0, 0)))
          exact loopB 9 (0 : Int32) (0 : Int32) _ ok2 (by decide) (by decide) (fun i hi0 => by rw [hi_put_ne (Or.inl (by decide))]; exact z0 i (by omega)) (by decide)
        · -- pc 27
          have i1 : ¬ ((Int32.ofNat j).toInt > (60 : Int)) := fun e => hc1 (zop_int.mpr e)
          exfalso
          omega
      | succ i ih =>
        intro j hj hl okl z0
        have ej := nI_int (k := j) (by omega)
        have ejn : (Int32.ofNat j).toInt.toNat = j := by omega
        refine zrn_ok HW 3 (zbr_ex (cd := .gt) (x := (Int32.ofNat j)) (y := (60 : Int32)) (fun hc1 => zB_iff.mpr ?_) (fun hc1 => zB_iff.mpr ?_))
        · -- pc 40
          have i1 : (Int32.ofNat j).toInt > (60 : Int) := zop_int.mp hc1
          exfalso
          omega
        · -- pc 27
          have i1 : ¬ ((Int32.ofNat j).toInt > (60 : Int)) := fun e => hc1 (zop_int.mpr e)
          refine zrn_ok HW 1 (zB_iff.mpr (?_ : G (28, [(2, .inl (.int (Int32.ofNat j))), (0, .inl (.ref 49)), (1, .inl (.int x))], [.inl (.ref 49)], hl, 0, 0)))
          have o3 : hget hl 49 16 = some (.inl (.ref 66)) := ((okl.2.1.2.1 49 5 hq_q (Or.inl rfl)).1.1 (16, 17, 31) (by decide +kernel)).1
          have t3 : T[66]? = some 31 := ((okl.2.1.2.1 49 5 hq_q (Or.inl rfl)).1.1 (16, 17, 31) (by decide +kernel)).2
          refine g_getf HW rfl okl.1 hq_q rfl o3 ?_
          refine zrn_ok HW 2 (zB_iff.mpr (?_ : G (33, [(2, .inl (.int (Int32.ofNat j))), (0, .inl (.ref 49)), (1, .inl (.int x))], [.inl (.int (0 : Int32)), .inl (.int (Int32.ofNat j)), .inl (.ref 66)], hl, 0, 0)))
          have ok4 : wOK (zPhi P) h.length T (hput hl 66 ((Int32.ofNat j)).toInt.toNat (.inl (.int (0 : Int32)))) := ⟨hOK_put okl.1 t3 ⟨_, rfl, (by show (0 : Int) ≤ Int32.toInt (0 : Int32); decide), (by show Int32.toInt (0 : Int32) ≤ (1 : Int); decide)⟩, p_putJ hq_q (Or.inl rfl) t66 (Or.inr (Or.inl ⟨rfl, rfl⟩)) (pJ_in (okl.2.1.2.1 49 5 hq_q (Or.inl rfl)).2) okl.2.1, by rw [hput_len]; exact okl.2.2⟩
          refine g_iast HW rfl okl.1 t3 rfl (by omega) (by show _ < (61 : Int); omega) ?_
          have y5 : -2147483648 ≤ (Int32.ofNat j).toInt + (1 : Int) → (Int32.ofNat j).toInt + (1 : Int) ≤ 2147483647 → ((Int32.ofNat j) + (1 : Int32)).toInt = (Int32.ofNat j).toInt + (1 : Int) := t_addC (x := (Int32.ofNat j)) (y := (1 : Int32))
          refine zrn_ok HW 2 (zB_iff.mpr (?_ : G (21, [(2, .inl (.int ((Int32.ofNat j) + (1 : Int32)))), (0, .inl (.ref 49)), (1, .inl (.int x))], [], (hput hl 66 ((Int32.ofNat j)).toInt.toNat (.inl (.int (0 : Int32)))), 0, 0)))
          have := ih (j + 1) (by omega) _ ok4 (fun i hi0 => ?_)
          · rw [← nI_add1] at this
            exact this
          · by_cases e : i = j
            · subst e
              obtain ⟨w9, hw9, -⟩ := hOK_get (i := i) okl.1 t66 (by show _ < 61; omega)
              rw [ejn, hi_put hw9]
              rfl
            · rw [ejn, hi_put_ne (Or.inr e)]
              exact z0 i (by omega)
    exact loopA 61 0 rfl _ ok (fun i hi0 => absurd hi0 (by omega))
  · show G (9, [(0, .inl (.ref 49)), (1, .inl (.int x))], [.inl (.int (0 : Int32))], h, 0, 0)
    have n1 : ¬ ((0 : Int) ≤ x.toInt ∧ x.toInt ≤ (1000 : Int)) := by have r0 : (Int32.toInt64 x).toInt = x.toInt := q_i2l _; have r1 : (0 : Int64).toInt = 0 := rfl; have r2 : (1000 : Int64).toInt = 1000 := rfl; omega
    refine zrn_ok HW 3 (zB_iff.mpr (?_ : G (15, [(0, .inl (.ref 49)), (1, .inl (.int x))], [.inl (.int (-2 : Int32)), .inl (.ref 49)], h, 0, 0)))
    refine g_tV (e := te_X5_refuse_0) (E' := ze_X5_refuse) HW (tLow_of IH hd) rfl rfl (show te_X5_refuse_0 ∈ [te_X5_refuse_0] from List.mem_cons_self) (by decide +kernel) (Nat.le_of_ble_eq_true rfl) ⟨rfl, rfl⟩ (by decide) ok.1 ok.2.1 rfl hq_q rfl (Nat.le_of_ble_eq_true rfl) ⟨⟨_, rfl, hq_q⟩, okA_I (by decide) (by decide), trivial⟩ (fun v2 T2 h2 m2 k2 f2 lh2 r2 => ?_)
    obtain ⟨w2, rfl, hw2, cd2⟩ := r2
    obtain ⟨x2, rfl, l2, u2⟩ := tint_sp rfl hw2
    have l2 : ((-6) : Int) ≤ x2.toInt := l2
    have u2 : x2.toInt ≤ ((-2) : Int) := u2
    have ok2 : wOK (zPhi P) h.length T2 h2 := ⟨k2, f2, Nat.le_trans lh2 ok.2.2⟩
    have hq_q := m2 _ _ hq_q
    show G (18, [(0, .inl (.ref 49)), (1, .inl (.int x))], [.inl (.int x2)], h2, 0, 0)
    refine zrn_ok HW 1 ?_
    exact zret_i rfl rfl (RET x2 T2 h2 (tExt_tr (tExt_rf T) m2) ok2)
