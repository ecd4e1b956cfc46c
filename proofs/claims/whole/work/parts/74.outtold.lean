/-- a slip on which nothing stands is taken out -/
theorem pJ_out {h : zH} {s : Int32} {v : zV} (hj : pJ h 49) (hn : ∀ u : Nat, (u : Int) < hi h 49 17 → hi h (49 + 22) u = -1 → hi h (49 + 19) u = s.toInt → False) : pJ (hput h 66 s.toInt.toNat v) 49 := by
  intro t ht
  have e17 : hi (hput h 66 s.toInt.toNat v) 49 17 = hi h 49 17 := hi_put_ne (Or.inl (by decide))
  have e9 : hi (hput h 66 s.toInt.toNat v) 49 9 = hi h 49 9 := hi_put_ne (Or.inl (by decide))
  have a19 : ∀ j, hi (hput h 66 s.toInt.toNat v) (49 + 19) j = hi h (49 + 19) j := fun j => hi_put_ne (Or.inl (by decide))
  have a22 : ∀ j, hi (hput h 66 s.toInt.toNat v) (49 + 22) j = hi h (49 + 22) j := fun j => hi_put_ne (Or.inl (by decide))
  rw [e17] at ht
  rw [e9, a19, a22]
  refine ⟨(hj t ht).1, fun h2 => ?_, fun u hu => ?_⟩
  · have h3 := (hj t ht).1
    have hne : hi h (49 + 19) t ≠ s.toInt := fun e => hn t ht h2 e
    by_cases e0 : (hi h (49 + 19) t).toNat = s.toInt.toNat
    · exact absurd (by omega) hne
    · rw [show hi (hput h 66 s.toInt.toNat v) (49 + 17) (hi h (49 + 19) t).toNat = hi h (49 + 17) (hi h (49 + 19) t).toNat from hi_put_ne (Or.inr e0)]
      exact (hj t ht).2.1 h2
  · rw [a19]
    exact (hj t ht).2.2 u hu
theorem c_outTold {n m : Int} {v : Bool} {μ : Int} {N : Nat} {scr : List zV} {d : Nat} {T : List Nat} {h : zH} {post : Option zV → zH → Bool} (ok : wOK (zPhi (n, m, some μ, v)) N T h) (k1 : ∀ h' : zH, wOK (zPhi (n, m, some μ, v)) N T h' → post (some (.inl (.int 1))) h' = true) (k0 : ∀ h' : zH, wOK (zPhi (n, m, some μ, v)) N T h' → post (some (.inl (.int 0))) h' = true) : zD zprog scr (d + 4) 205 [.inl (.ref 49)] h post = true := by
  have hq_q := ok.2.1.1.2.2.1
  have hst := p_stab (n, m, some μ, v)
  have t66 : T[66]? = some 31 := ((ok.2.1.2.1 49 5 hq_q (Or.inl rfl)).1.1 (16, 17, 31) (by decide +kernel)).2
  refine zD_intro (E := ze_X5_outTold) rfl rfl (fun G HW => ?_)
  refine zrn_ok HW 1 (zB_iff.mpr (?_ : G (1, [(0, .inl (.ref 49))], [.inl (.ref 49)], h, 0, 0)))
  refine g_callV (E' := ze_X5_look) HW rfl rfl (Nat.le_of_ble_eq_true rfl) (Nat.le_of_ble_eq_true rfl) (Nat.le_of_ble_eq_true rfl) ok.1 rfl hq_q rfl (Nat.le_of_ble_eq_true rfl) (c_look ok (fun h1 okn1 st1 fr1 => zB_iff.mpr ?_))
  show G (4, [(0, .inl (.ref 49))], [], h1, 0, 0)
  have ok1 := zPhi_low okn1 (zPhi_at ok).1
  refine zrn_ok HW 1 (zB_iff.mpr (?_ : G (5, [(0, .inl (.ref 49))], [.inl (.ref 49)], h1, 0, 0)))
  obtain ⟨x2, g2, e2, l2, u2⟩ := hi_val (i := 29) ok1.1 hq_q (by decide) rfl
  have l2 : (0 : Int) ≤ x2.toInt := l2
  have u2 : x2.toInt ≤ (4 : Int) := u2
  refine g_getf HW rfl ok1.1 hq_q rfl g2 ?_
  refine zrn_ok HW 2 (zbr_ex (cd := .ne) (x := x2) (y := (2 : Int32)) (fun hc3 => zB_iff.mpr ?_) (fun hc3 => zB_iff.mpr ?_))
  · -- pc 41
    have i3 : ¬ x2.toInt = (2 : Int) := zop_int.mp hc3
    refine zrn_ok HW 1 (zB_iff.mpr (?_ : G (42, [(0, .inl (.ref 49))], [.inl (.ref 49)], h1, 0, 0)))
    refine g_callV (E' := ze_X5_wrong) HW rfl rfl (Nat.le_of_ble_eq_true rfl) (Nat.le_of_ble_eq_true rfl) (Nat.le_of_ble_eq_true rfl) ok1.1 rfl hq_q rfl (Nat.le_of_ble_eq_true rfl) (c_wrong ok1 (fun h4 ok4 fr4 => zB_iff.mpr ?_))
    show G (45, [(0, .inl (.ref 49))], [.inl (.int (0 : Int32))], h4, 0, 0)
    refine zrn_ok HW 1 ?_
    exact zret_z rfl rfl (k0 _ ok4)
  · -- pc 12
    have i3 : ¬ (¬ x2.toInt = (2 : Int)) := fun e => hc3 (zop_int.mpr e)
    refine zrn_ok HW 1 (zB_iff.mpr (?_ : G (13, [(0, .inl (.ref 49))], [.inl (.ref 49)], h1, 0, 0)))
    obtain ⟨x5, g5, e5, l5, u5⟩ := hi_val (i := 31) ok1.1 hq_q (by decide) rfl
    have l5 : ((-2147483648) : Int) ≤ x5.toInt := l5
    have u5 : x5.toInt ≤ (2147483647 : Int) := u5
    refine g_getf HW rfl ok1.1 hq_q rfl g5 ?_
    refine zrn_ok HW 3 (zB_iff.mpr (?_ : G (19, [(0, .inl (.ref 49))], [.inl (.ref 49), .inl (.long (1 : Int64)), .inl (.long (Int32.toInt64 x5))], h1, 0, 0)))
    obtain ⟨x6, g6, e6, l6, u6⟩ := hi_val (i := 9) ok1.1 hq_q (by decide) rfl
    have l6 : (1 : Int) ≤ x6.toInt := l6
    have u6 : x6.toInt ≤ (60 : Int) := u6
    refine g_getf HW rfl ok1.1 hq_q rfl g6 ?_
    refine zrn_ok HW 1 (zB_iff.mpr (?_ : G (23, [(0, .inl (.ref 49))], [.inl (.long (Int32.toInt64 x6)), .inl (.long (1 : Int64)), .inl (.long (Int32.toInt64 x5))], h1, 0, 0)))
    refine g_callS (b := 0) (E' := ze_X5_in) HW (Or.inl rfl) rfl rfl (Nat.le_of_ble_eq_true rfl) (Nat.le_of_ble_eq_true rfl) (Nat.le_of_ble_eq_true rfl) (Nat.le_of_ble_eq_true rfl) (c_in (fun a7 b7 => zB_iff.mpr ?_) (fun n7 => zB_iff.mpr ?_))
    · show G (26, [(0, .inl (.ref 49))], [.inl (.int (1 : Int32))], h1, 0, 0)
      have a7 : (1 : Int) ≤ x5.toInt := by have r0 : (Int32.toInt64 x5).toInt = x5.toInt := q_i2l _; have r1 : (1 : Int64).toInt = 1 := rfl; have r2 : (Int32.toInt64 x6).toInt = x6.toInt := q_i2l _; omega
      have b7 : x5.toInt ≤ x6.toInt := by have r0 : (Int32.toInt64 x5).toInt = x5.toInt := q_i2l _; have r1 : (1 : Int64).toInt = 1 := rfl; have r2 : (Int32.toInt64 x6).toInt = x6.toInt := q_i2l _; omega
      refine zrn_ok HW 2 (zB_iff.mpr (?_ : G (30, [(0, .inl (.ref 49))], [.inl (.ref 49)], h1, 0, 0)))
      have o9 : hget h1 49 16 = some (.inl (.ref 66)) := ((ok1.2.1.2.1 49 5 hq_q (Or.inl rfl)).1.1 (16, 17, 31) (by decide +kernel)).1
      have t9 : T[66]? = some 31 := ((ok1.2.1.2.1 49 5 hq_q (Or.inl rfl)).1.1 (16, 17, 31) (by decide +kernel)).2
      refine g_getf HW rfl ok1.1 hq_q rfl o9 ?_
      refine zrn_ok HW 1 (zB_iff.mpr (?_ : G (34, [(0, .inl (.ref 49))], [.inl (.ref 49), .inl (.ref 66)], h1, 0, 0)))
      refine g_getf HW rfl ok1.1 hq_q rfl g5 ?_
      obtain ⟨x11, g11, e11, l11, u11⟩ := hi_val (i := (x5).toInt.toNat) ok1.1 t9 (by show _ < 61; omega) rfl
      have l11 : (0 : Int) ≤ x11.toInt := l11
      have u11 : x11.toInt ≤ (1 : Int) := u11
      refine g_iald HW rfl ok1.1 t9 rfl (by omega) g11 ?_
      refine zrn_ok HW 1 (zbr_ex (cd := .eq) (x := x11) (y := (0 : Int32)) (fun hc12 => zB_iff.mpr ?_) (fun hc12 => zB_iff.mpr ?_))
      · -- pc 46
        have i12 : x11.toInt = (0 : Int) := zop_int.mp hc12
        refine zrn_ok HW 2 (zB_iff.mpr (?_ : G (48, [(0, .inl (.ref 49))], [.inl (.ref 49), .inl (.ref 49)], h1, 0, 0)))
        refine g_getf HW rfl ok1.1 hq_q rfl g5 ?_
        refine g_callV (E' := ze_X5_thingOn) HW rfl rfl (Nat.le_of_ble_eq_true rfl) (Nat.le_of_ble_eq_true rfl) (Nat.le_of_ble_eq_true rfl) ok1.1 rfl hq_q rfl (Nat.le_of_ble_eq_true rfl) (c_thingOn5 ok1.1 hq_q (ok1.2.1.2.1 49 5 hq_q (Or.inl rfl)).1 (fun t14 ta14 tb14 tc14 => zB_iff.mpr ?_) (fun tn14 => zB_iff.mpr ?_))
        · show G (54, [(0, .inl (.ref 49))], [.inl (.int (Int32.ofNat t14))], h1, 0, 0)
          obtain ⟨nT14, -, eT14, -, uT14⟩ := hi_val (i := 17) ok1.1 hq_q (by decide) rfl
          have uT14 : nT14.toInt ≤ (8 : Int) := uT14
          have ej14 := nI_int (k := t14) (by omega)
          have ejn14 : (Int32.ofNat t14).toInt.toNat = t14 := by omega
          refine zrn_ok HW 4 (zbr_ex (cd := .eq) (x := (Int32.ofNat t14)) (y := (-1 : Int32)) (fun hc15 => zB_iff.mpr ?_) (fun hc15 => zB_iff.mpr ?_))
          · -- pc 75
            have i15 : (Int32.ofNat t14).toInt = (-1 : Int) := zop_int.mp hc15
            refine zrn_ok HW 1 (zB_iff.mpr (?_ : G (76, [(1, .inl (.int (Int32.ofNat t14))), (0, .inl (.ref 49))], [.inl (.ref 49)], h1, 0, 0)))
            have o17 : hget h1 49 16 = some (.inl (.ref 66)) := ((ok1.2.1.2.1 49 5 hq_q (Or.inl rfl)).1.1 (16, 17, 31) (by decide +kernel)).1
            have t17 : T[66]? = some 31 := ((ok1.2.1.2.1 49 5 hq_q (Or.inl rfl)).1.1 (16, 17, 31) (by decide +kernel)).2
            refine g_getf HW rfl ok1.1 hq_q rfl o17 ?_
            refine zrn_ok HW 1 (zB_iff.mpr (?_ : G (80, [(1, .inl (.int (Int32.ofNat t14))), (0, .inl (.ref 49))], [.inl (.ref 49), .inl (.ref 66)], h1, 0, 0)))
            refine g_getf HW rfl ok1.1 hq_q rfl g5 ?_
            refine zrn_ok HW 1 (zB_iff.mpr (?_ : G (84, [(1, .inl (.int (Int32.ofNat t14))), (0, .inl (.ref 49))], [.inl (.int (1 : Int32)), .inl (.int x5), .inl (.ref 66)], h1, 0, 0)))
            have ok19 : wOK (zPhi (n, m, some μ, v)) N T (hput h1 66 (x5).toInt.toNat (.inl (.int (1 : Int32)))) := ⟨hOK_put ok1.1 t17 ⟨_, rfl, (by show (0 : Int) ≤ Int32.toInt (1 : Int32); decide), (by show Int32.toInt (1 : Int32) ≤ (1 : Int); decide)⟩, p_putJ hq_q (Or.inl rfl) t66 (Or.inr (Or.inl ⟨rfl, rfl⟩)) (pJ_out (ok1.2.1.2.1 49 5 hq_q (Or.inl rfl)).2 (fun u y1 y2 y3 => by omega)) ok1.2.1, by rw [hput_len]; exact ok1.2.2⟩
            refine g_iast HW rfl ok1.1 t17 rfl (by omega) (by show _ < (61 : Int); omega) ?_
            refine zrn_ok HW 1 (zB_iff.mpr (?_ : G (86, [(1, .inl (.int (Int32.ofNat t14))), (0, .inl (.ref 49))], [.inl (.ref 49)], (hput h1 66 (x5).toInt.toNat (.inl (.int (1 : Int32)))), 0, 0)))
            refine g_callV (E' := ze_X5_look) HW rfl rfl (Nat.le_of_ble_eq_true rfl) (Nat.le_of_ble_eq_true rfl) (Nat.le_of_ble_eq_true rfl) ok19.1 rfl hq_q rfl (Nat.le_of_ble_eq_true rfl) (c_look ok19 (fun h20 okn20 st20 fr20 => zB_iff.mpr ?_))
            show G (89, [(1, .inl (.int (Int32.ofNat t14))), (0, .inl (.ref 49))], [], h20, 0, 0)
            have ok20 := zPhi_low okn20 (zPhi_at ok19).1
            refine zrn_ok HW 2 ?_
            exact zret_z rfl rfl (k1 _ ok20)
          · -- pc 60
            have i15 : ¬ ((Int32.ofNat t14).toInt = (-1 : Int)) := fun e => hc15 (zop_int.mpr e)
            refine zrn_ok HW 1 (zB_iff.mpr (?_ : G (61, [(1, .inl (.int (Int32.ofNat t14))), (0, .inl (.ref 49))], [.inl (.ref 49)], h1, 0, 0)))
            have o22 : hget h1 49 22 = some (.inl (.ref 71)) := ((ok1.2.1.2.1 49 5 hq_q (Or.inl rfl)).1.1 (22, 22, 36) (by decide +kernel)).1
            have t22 : T[71]? = some 36 := ((ok1.2.1.2.1 49 5 hq_q (Or.inl rfl)).1.1 (22, 22, 36) (by decide +kernel)).2
            refine g_getf HW rfl ok1.1 hq_q rfl o22 ?_
            refine zrn_ok HW 1 (zB_iff.mpr (?_ : G (65, [(1, .inl (.int (Int32.ofNat t14))), (0, .inl (.ref 49))], [.inl (.int (Int32.ofNat t14)), .inl (.ref 71)], h1, 0, 0)))
            obtain ⟨x23, g23, e23, l23, u23⟩ := hi_val (i := ((Int32.ofNat t14)).toInt.toNat) ok1.1 t22 (by show _ < 8; omega) rfl
            have l23 : ((-1) : Int) ≤ x23.toInt := l23
            have u23 : x23.toInt ≤ (3 : Int) := u23
            refine g_iald HW rfl ok1.1 t22 rfl (by omega) g23 ?_
            refine zrn_ok HW 2 (zbr_ex (cd := .ne) (x := x23) (y := (-1 : Int32)) (fun hc24 => zB_iff.mpr ?_) (fun hc24 => zB_iff.mpr ?_))
            · -- pc 75
              have i24 : ¬ x23.toInt = (-1 : Int) := zop_int.mp hc24
              refine zrn_ok HW 1 (zB_iff.mpr (?_ : G (76, [(1, .inl (.int (Int32.ofNat t14))), (0, .inl (.ref 49))], [.inl (.ref 49)], h1, 0, 0)))
              have o26 : hget h1 49 16 = some (.inl (.ref 66)) := ((ok1.2.1.2.1 49 5 hq_q (Or.inl rfl)).1.1 (16, 17, 31) (by decide +kernel)).1
              have t26 : T[66]? = some 31 := ((ok1.2.1.2.1 49 5 hq_q (Or.inl rfl)).1.1 (16, 17, 31) (by decide +kernel)).2
              refine g_getf HW rfl ok1.1 hq_q rfl o26 ?_
              refine zrn_ok HW 1 (zB_iff.mpr (?_ : G (80, [(1, .inl (.int (Int32.ofNat t14))), (0, .inl (.ref 49))], [.inl (.ref 49), .inl (.ref 66)], h1, 0, 0)))
              refine g_getf HW rfl ok1.1 hq_q rfl g5 ?_
              refine zrn_ok HW 1 (zB_iff.mpr (?_ : G (84, [(1, .inl (.int (Int32.ofNat t14))), (0, .inl (.ref 49))], [.inl (.int (1 : Int32)), .inl (.int x5), .inl (.ref 66)], h1, 0, 0)))
              have ok28 : wOK (zPhi (n, m, some μ, v)) N T (hput h1 66 (x5).toInt.toNat (.inl (.int (1 : Int32)))) := ⟨hOK_put ok1.1 t26 ⟨_, rfl, (by show (0 : Int) ≤ Int32.toInt (1 : Int32); decide), (by show Int32.toInt (1 : Int32) ≤ (1 : Int); decide)⟩, p_putJ hq_q (Or.inl rfl) t66 (Or.inr (Or.inl ⟨rfl, rfl⟩)) (pJ_out (ok1.2.1.2.1 49 5 hq_q (Or.inl rfl)).2 (fun u y1 y2 y3 => by have := pJ_uni (ok1.2.1.2.1 49 5 hq_q (Or.inl rfl)).2 ta14 y1 (tb14.trans y3.symm); subst this; rw [ejn14] at e23; have e9 : hi h1 (49 + 22) t14 = x23.toInt := e23; omega)) ok1.2.1, by rw [hput_len]; exact ok1.2.2⟩
              refine g_iast HW rfl ok1.1 t26 rfl (by omega) (by show _ < (61 : Int); omega) ?_
              refine zrn_ok HW 1 (zB_iff.mpr (?_ : G (86, [(1, .inl (.int (Int32.ofNat t14))), (0, .inl (.ref 49))], [.inl (.ref 49)], (hput h1 66 (x5).toInt.toNat (.inl (.int (1 : Int32)))), 0, 0)))
              refine g_callV (E' := ze_X5_look) HW rfl rfl (Nat.le_of_ble_eq_true rfl) (Nat.le_of_ble_eq_true rfl) (Nat.le_of_ble_eq_true rfl) ok28.1 rfl hq_q rfl (Nat.le_of_ble_eq_true rfl) (c_look ok28 (fun h29 okn29 st29 fr29 => zB_iff.mpr ?_))
              show G (89, [(1, .inl (.int (Int32.ofNat t14))), (0, .inl (.ref 49))], [], h29, 0, 0)
              have ok29 := zPhi_low okn29 (zPhi_at ok28).1
              refine zrn_ok HW 2 ?_
              exact zret_z rfl rfl (k1 _ ok29)
            · -- pc 70
              have i24 : ¬ (¬ x23.toInt = (-1 : Int)) := fun e => hc24 (zop_int.mpr e)
              refine zrn_ok HW 1 (zB_iff.mpr (?_ : G (71, [(1, .inl (.int (Int32.ofNat t14))), (0, .inl (.ref 49))], [.inl (.ref 49)], h1, 0, 0)))
              refine g_callV (E' := ze_X5_wrong) HW rfl rfl (Nat.le_of_ble_eq_true rfl) (Nat.le_of_ble_eq_true rfl) (Nat.le_of_ble_eq_true rfl) ok1.1 rfl hq_q rfl (Nat.le_of_ble_eq_true rfl) (c_wrong ok1 (fun h30 ok30 fr30 => zB_iff.mpr ?_))
              show G (74, [(1, .inl (.int (Int32.ofNat t14))), (0, .inl (.ref 49))], [.inl (.int (0 : Int32))], h30, 0, 0)
              refine zrn_ok HW 1 ?_
              exact zret_z rfl rfl (k0 _ ok30)
        · show G (54, [(0, .inl (.ref 49))], [.inl (.int (-1 : Int32))], h1, 0, 0)
          refine zrn_ok HW 5 (zB_iff.mpr (?_ : G (76, [(1, .inl (.int (-1 : Int32))), (0, .inl (.ref 49))], [.inl (.ref 49)], h1, 0, 0)))
          have o32 : hget h1 49 16 = some (.inl (.ref 66)) := ((ok1.2.1.2.1 49 5 hq_q (Or.inl rfl)).1.1 (16, 17, 31) (by decide +kernel)).1
          have t32 : T[66]? = some 31 := ((ok1.2.1.2.1 49 5 hq_q (Or.inl rfl)).1.1 (16, 17, 31) (by decide +kernel)).2
          refine g_getf HW rfl ok1.1 hq_q rfl o32 ?_
          refine zrn_ok HW 1 (zB_iff.mpr (?_ : G (80, [(1, .inl (.int (-1 : Int32))), (0, .inl (.ref 49))], [.inl (.ref 49), .inl (.ref 66)], h1, 0, 0)))
          refine g_getf HW rfl ok1.1 hq_q rfl g5 ?_
          refine zrn_ok HW 1 (zB_iff.mpr (?_ : G (84, [(1, .inl (.int (-1 : Int32))), (0, .inl (.ref 49))], [.inl (.int (1 : Int32)), .inl (.int x5), .inl (.ref 66)], h1, 0, 0)))
          have ok34 : wOK (zPhi (n, m, some μ, v)) N T (hput h1 66 (x5).toInt.toNat (.inl (.int (1 : Int32)))) := ⟨hOK_put ok1.1 t32 ⟨_, rfl, (by show (0 : Int) ≤ Int32.toInt (1 : Int32); decide), (by show Int32.toInt (1 : Int32) ≤ (1 : Int); decide)⟩, p_putJ hq_q (Or.inl rfl) t66 (Or.inr (Or.inl ⟨rfl, rfl⟩)) (pJ_out (ok1.2.1.2.1 49 5 hq_q (Or.inl rfl)).2 (fun u y1 y2 y3 => absurd y3 (tn14 u y1))) ok1.2.1, by rw [hput_len]; exact ok1.2.2⟩
          refine g_iast HW rfl ok1.1 t32 rfl (by omega) (by show _ < (61 : Int); omega) ?_
          refine zrn_ok HW 1 (zB_iff.mpr (?_ : G (86, [(1, .inl (.int (-1 : Int32))), (0, .inl (.ref 49))], [.inl (.ref 49)], (hput h1 66 (x5).toInt.toNat (.inl (.int (1 : Int32)))), 0, 0)))
          refine g_callV (E' := ze_X5_look) HW rfl rfl (Nat.le_of_ble_eq_true rfl) (Nat.le_of_ble_eq_true rfl) (Nat.le_of_ble_eq_true rfl) ok34.1 rfl hq_q rfl (Nat.le_of_ble_eq_true rfl) (c_look ok34 (fun h35 okn35 st35 fr35 => zB_iff.mpr ?_))
          show G (89, [(1, .inl (.int (-1 : Int32))), (0, .inl (.ref 49))], [], h35, 0, 0)
          have ok35 := zPhi_low okn35 (zPhi_at ok34).1
          refine zrn_ok HW 2 ?_
          exact zret_z rfl rfl (k1 _ ok35)
      · -- pc 41
        have i12 : ¬ (x11.toInt = (0 : Int)) := fun e => hc12 (zop_int.mpr e)
        refine zrn_ok HW 1 (zB_iff.mpr (?_ : G (42, [(0, .inl (.ref 49))], [.inl (.ref 49)], h1, 0, 0)))
        refine g_callV (E' := ze_X5_wrong) HW rfl rfl (Nat.le_of_ble_eq_true rfl) (Nat.le_of_ble_eq_true rfl) (Nat.le_of_ble_eq_true rfl) ok1.1 rfl hq_q rfl (Nat.le_of_ble_eq_true rfl) (c_wrong ok1 (fun h36 ok36 fr36 => zB_iff.mpr ?_))
        show G (45, [(0, .inl (.ref 49))], [.inl (.int (0 : Int32))], h36, 0, 0)
        refine zrn_ok HW 1 ?_
        exact zret_z rfl rfl (k0 _ ok36)
    · show G (26, [(0, .inl (.ref 49))], [.inl (.int (0 : Int32))], h1, 0, 0)
      have n7 : ¬ ((1 : Int) ≤ x5.toInt ∧ x5.toInt ≤ x6.toInt) := by have r0 : (Int32.toInt64 x5).toInt = x5.toInt := q_i2l _; have r1 : (1 : Int64).toInt = 1 := rfl; have r2 : (Int32.toInt64 x6).toInt = x6.toInt := q_i2l _; omega
      refine zrn_ok HW 2 (zB_iff.mpr (?_ : G (42, [(0, .inl (.ref 49))], [.inl (.ref 49)], h1, 0, 0)))
      refine g_callV (E' := ze_X5_wrong) HW rfl rfl (Nat.le_of_ble_eq_true rfl) (Nat.le_of_ble_eq_true rfl) (Nat.le_of_ble_eq_true rfl) ok1.1 rfl hq_q rfl (Nat.le_of_ble_eq_true rfl) (c_wrong ok1 (fun h37 ok37 fr37 => zB_iff.mpr ?_))
      show G (45, [(0, .inl (.ref 49))], [.inl (.int (0 : Int32))], h37, 0, 0)
      refine zrn_ok HW 1 ?_
      exact zret_z rfl rfl (k0 _ ok37)
