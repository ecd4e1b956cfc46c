theorem c_brought5 {scr : List zV} {d : Nat} {T : List Nat} {h : zH} {q : Nat} {Φ : List Nat → zH → Prop} {N : Nat} {w st : Int32} {post : Option zV → zH → Bool} (ok : wOK Φ N T h) (hq_q : T[q]? = some 5) (lay : pLay T h q) (kk : ∀ r : Int32, -1 ≤ r.toInt → r.toInt ≤ 7 → post (some (.inl (.int r))) h = true) : zD zprog scr (d + 1) 163 [.inl (.ref q), .inl (.int w), .inl (.int st)] h post = true := by
  refine zD_intro (E := ze_X5_brought) rfl rfl (fun G HW => ?_)
  obtain ⟨nT, gT, eT, lT, uT⟩ := hi_val (i := 17) ok.1 hq_q (by decide) rfl
  have lT : (0 : Int) ≤ nT.toInt := lT
  have uT : nT.toInt ≤ (8 : Int) := uT
  have loop : ∀ i j : Nat, ((i + j : Nat) : Int) = nT.toInt → G (2, [(3, .inl (.int (Int32.ofNat j))), (0, .inl (.ref q)), (1, .inl (.int w)), (2, .inl (.int st))], [], h, 0, 0) := by
    intro i
    induction i with
    | zero =>
      intro j hj  
      have ej := nI_int (k := j) (by omega)
      have ejn : (Int32.ofNat j).toInt.toNat = j := by omega
      refine zrn_ok HW 2 (zB_iff.mpr (?_ : G (4, [(3, .inl (.int (Int32.ofNat j))), (0, .inl (.ref q)), (1, .inl (.int w)), (2, .inl (.int st))], [.inl (.ref q), .inl (.int (Int32.ofNat j))], h, 0, 0)))
      refine g_getf HW rfl ok.1 hq_q rfl gT ?_
      refine zrn_ok HW 1 (zbr_ex (cd := .ge) (x := (Int32.ofNat j)) (y := nT) (fun hc2 => zB_iff.mpr ?_) (fun hc2 => zB_iff.mpr ?_))
      · -- pc 51
        have i2 : (Int32.ofNat j).toInt ≥ nT.toInt := zop_int.mp hc2
        refine zrn_ok HW 2 ?_
        exact zret_i rfl rfl (kk (-1 : Int32) (by decide) (by decide))
      · -- pc 10
        have i2 : ¬ ((Int32.ofNat j).toInt ≥ nT.toInt) := fun e => hc2 (zop_int.mpr e)
        exfalso
        omega
    | succ i ih =>
      intro j hj  
      have ej := nI_int (k := j) (by omega)
      have ejn : (Int32.ofNat j).toInt.toNat = j := by omega
      refine zrn_ok HW 2 (zB_iff.mpr (?_ : G (4, [(3, .inl (.int (Int32.ofNat j))), (0, .inl (.ref q)), (1, .inl (.int w)), (2, .inl (.int st))], [.inl (.ref q), .inl (.int (Int32.ofNat j))], h, 0, 0)))
      refine g_getf HW rfl ok.1 hq_q rfl gT ?_
      refine zrn_ok HW 1 (zbr_ex (cd := .ge) (x := (Int32.ofNat j)) (y := nT) (fun hc2 => zB_iff.mpr ?_) (fun hc2 => zB_iff.mpr ?_))
      · -- pc 51
        have i2 : (Int32.ofNat j).toInt ≥ nT.toInt := zop_int.mp hc2
        exfalso
        omega
      · -- pc 10
        have i2 : ¬ ((Int32.ofNat j).toInt ≥ nT.toInt) := fun e => hc2 (zop_int.mpr e)
        refine zrn_ok HW 3 (zbr_ex (cd := .eq) (x := (Int32.ofNat j)) (y := w) (fun hc3 => zB_iff.mpr ?_) (fun hc3 => zB_iff.mpr ?_))
        · -- pc 45
          have i3 : (Int32.ofNat j).toInt = w.toInt := zop_int.mp hc3
          refine zrn_ok HW 2 (zB_iff.mpr (?_ : G (2, [(3, .inl (.int ((Int32.ofNat j) + (1 : Int32)))), (0, .inl (.ref q)), (1, .inl (.int w)), (2, .inl (.int st))], [], h, 0, 0)))
          have := ih (j + 1) (by omega)
          rw [← nI_add1] at this
          exact this
        · -- pc 15
          have i3 : ¬ ((Int32.ofNat j).toInt = w.toInt) := fun e => hc3 (zop_int.mpr e)
          refine zrn_ok HW 6 (zbr_ex (cd := .eq) (x := ((st >>> ((Int32.ofNat j) &&& 31)) &&& (1 : Int32))) (y := (0 : Int32)) (fun hc4 => zB_iff.mpr ?_) (fun hc4 => zB_iff.mpr ?_))
          · -- pc 45
            have i4 : ((st >>> ((Int32.ofNat j) &&& 31)) &&& (1 : Int32)).toInt = (0 : Int) := zop_int.mp hc4
            refine zrn_ok HW 2 (zB_iff.mpr (?_ : G (2, [(3, .inl (.int ((Int32.ofNat j) + (1 : Int32)))), (0, .inl (.ref q)), (1, .inl (.int w)), (2, .inl (.int st))], [], h, 0, 0)))
            have := ih (j + 1) (by omega)
            rw [← nI_add1] at this
            exact this
          · -- pc 23
            have i4 : ¬ (((st >>> ((Int32.ofNat j) &&& 31)) &&& (1 : Int32)).toInt = (0 : Int)) := fun e => hc4 (zop_int.mpr e)
            refine zrn_ok HW 1 (zB_iff.mpr (?_ : G (24, [(3, .inl (.int (Int32.ofNat j))), (0, .inl (.ref q)), (1, .inl (.int w)), (2, .inl (.int st))], [.inl (.ref q)], h, 0, 0)))
            have o6 : hget h q 18 = some (.inl (.ref (q + 18))) := (lay.1 (18, 18, 32) (by decide +kernel)).1
            have t6 : T[q + 18]? = some 32 := (lay.1 (18, 18, 32) (by decide +kernel)).2
            refine g_getf HW rfl ok.1 hq_q rfl o6 ?_
            refine zrn_ok HW 1 (zB_iff.mpr (?_ : G (28, [(3, .inl (.int (Int32.ofNat j))), (0, .inl (.ref q)), (1, .inl (.int w)), (2, .inl (.int st))], [.inl (.int (Int32.ofNat j)), .inl (.ref (q + 18))], h, 0, 0)))
            obtain ⟨x7, g7, e7, l7, u7⟩ := hi_val (i := ((Int32.ofNat j)).toInt.toNat) ok.1 t6 (by show _ < 8; omega) rfl
            have l7 : (0 : Int) ≤ x7.toInt := l7
            have u7 : x7.toInt ≤ (5 : Int) := u7
            refine g_iald HW rfl ok.1 t6 rfl (by omega) g7 ?_
            refine zrn_ok HW 2 (zbr_ex (cd := .eq) (x := x7) (y := (1 : Int32)) (fun hc8 => zB_iff.mpr ?_) (fun hc8 => zB_iff.mpr ?_))
            · -- pc 45
              have i8 : x7.toInt = (1 : Int) := zop_int.mp hc8
              refine zrn_ok HW 2 (zB_iff.mpr (?_ : G (2, [(3, .inl (.int ((Int32.ofNat j) + (1 : Int32)))), (0, .inl (.ref q)), (1, .inl (.int w)), (2, .inl (.int st))], [], h, 0, 0)))
              have := ih (j + 1) (by omega)
              rw [← nI_add1] at this
              exact this
            · -- pc 33
              have i8 : ¬ (x7.toInt = (1 : Int)) := fun e => hc8 (zop_int.mpr e)
              refine zrn_ok HW 1 (zB_iff.mpr (?_ : G (34, [(3, .inl (.int (Int32.ofNat j))), (0, .inl (.ref q)), (1, .inl (.int w)), (2, .inl (.int st))], [.inl (.ref q)], h, 0, 0)))
              have o10 : hget h q 18 = some (.inl (.ref (q + 18))) := (lay.1 (18, 18, 32) (by decide +kernel)).1
              have t10 : T[q + 18]? = some 32 := (lay.1 (18, 18, 32) (by decide +kernel)).2
              refine g_getf HW rfl ok.1 hq_q rfl o10 ?_
              refine zrn_ok HW 1 (zB_iff.mpr (?_ : G (38, [(3, .inl (.int (Int32.ofNat j))), (0, .inl (.ref q)), (1, .inl (.int w)), (2, .inl (.int st))], [.inl (.int (Int32.ofNat j)), .inl (.ref (q + 18))], h, 0, 0)))
              obtain ⟨x11, g11, e11, l11, u11⟩ := hi_val (i := ((Int32.ofNat j)).toInt.toNat) ok.1 t10 (by show _ < 8; omega) rfl
              have l11 : (0 : Int) ≤ x11.toInt := l11
              have u11 : x11.toInt ≤ (5 : Int) := u11
              refine g_iald HW rfl ok.1 t10 rfl (by omega) g11 ?_
              refine zrn_ok HW 2 (zbr_ex (cd := .eq) (x := x11) (y := (3 : Int32)) (fun hc12 => zB_iff.mpr ?_) (fun hc12 => zB_iff.mpr ?_))
              · -- pc 45
                have i12 : x11.toInt = (3 : Int) := zop_int.mp hc12
                refine zrn_ok HW 2 (zB_iff.mpr (?_ : G (2, [(3, .inl (.int ((Int32.ofNat j) + (1 : Int32)))), (0, .inl (.ref q)), (1, .inl (.int w)), (2, .inl (.int st))], [], h, 0, 0)))
                have := ih (j + 1) (by omega)
                rw [← nI_add1] at this
                exact this
              · -- pc 43
                have i12 : ¬ (x11.toInt = (3 : Int)) := fun e => hc12 (zop_int.mpr e)
                refine zrn_ok HW 2 ?_
                exact zret_i rfl rfl (kk (Int32.ofNat j) (by omega) (by omega))
  refine zrn_ok HW 2 (zB_iff.mpr (?_ : G (2, [(3, .inl (.int (0 : Int32))), (0, .inl (.ref q)), (1, .inl (.int w)), (2, .inl (.int st))], [], h, 0, 0)))
  exact loop nT.toInt.toNat 0 (by omega)
theorem c_wonBy5 {scr : List zV} {d : Nat} {T : List Nat} {h : zH} {q : Nat} {Φ : List Nat → zH → Prop} {N : Nat} {t : Nat} {st : Int32} {post : Option zV → zH → Bool} (ok : wOK Φ N T h) (hq_q : T[q]? = some 5) (lay : pLay T h q) (ht : t < 8) (kk : ∀ r : Int32, nbt r t = 1 → 0 ≤ r.toInt → r.toInt ≤ 255 → post (some (.inl (.int r))) h = true) : zD zprog scr (d + 2) 246 [.inl (.ref q), .inl (.int (Int32.ofNat t)), .inl (.int st)] h post = true := by
  refine zD_intro (E := ze_X5_wonBy) rfl rfl (fun G HW => ?_)
  have ej := nI_int (k := t) (by omega)
  have ejn : (Int32.ofNat t).toInt.toNat = t := by omega
  have shr : ∀ y : Int32, 0 ≤ y.toInt → y.toInt ≤ 7 → 0 ≤ ((1 : Int32) <<< (y &&& 31)).toInt ∧ ((1 : Int32) <<< (y &&& 31)).toInt < 256 := fun y h1 h2 => by
    have key : ∀ k : Nat, k < 8 → (2 : Int) ^ k ≤ 128 ∧ 0 ≤ (2 : Int) ^ k := by decide
    have := key y.toInt.toNat (by omega)
    rw [t_shl h1 (by omega)]
    omega
  have b1 : nbt ((1 : Int32) <<< (Int32.ofNat t &&& 31)) t = 1 := by rw [nb_shl ht ht, if_pos rfl]
  have s1 := shr (Int32.ofNat t) (by omega) (by omega)
  have fin : ∀ y : Int32, 0 ≤ y.toInt → y.toInt < 256 → post (some (.inl (.int (((1 : Int32) <<< (Int32.ofNat t &&& 31)) ||| y)))) h = true := fun y h1 h2 => by
    have ro := t_or (n := 8) (x := (1 : Int32) <<< (Int32.ofNat t &&& 31)) (y := y) (by omega) s1.1 h1 (by show _ < (256 : Int); omega) (by show _ < (256 : Int); omega)
    have ro2 : (((1 : Int32) <<< (Int32.ofNat t &&& 31)) ||| y).toInt < (256 : Int) := ro.2
    exact kk _ (nb_or (by omega) (Or.inl b1)) ro.1 (by omega)
  refine zrn_ok HW 1 (zB_iff.mpr (?_ : G (1, [(0, .inl (.ref q)), (1, .inl (.int (Int32.ofNat t))), (2, .inl (.int st))], [.inl (.ref q)], h, 0, 0)))
  have o2 : hget h q 18 = some (.inl (.ref (q + 18))) := (lay.1 (18, 18, 32) (by decide +kernel)).1
  have t2 : T[q + 18]? = some 32 := (lay.1 (18, 18, 32) (by decide +kernel)).2
  refine g_getf HW rfl ok.1 hq_q rfl o2 ?_
  refine zrn_ok HW 1 (zB_iff.mpr (?_ : G (5, [(0, .inl (.ref q)), (1, .inl (.int (Int32.ofNat t))), (2, .inl (.int st))], [.inl (.int (Int32.ofNat t)), .inl (.ref (q + 18))], h, 0, 0)))
  obtain ⟨x3, g3, e3, l3, u3⟩ := hi_val (i := ((Int32.ofNat t)).toInt.toNat) ok.1 t2 (by show _ < 8; omega) rfl
  have l3 : (0 : Int) ≤ x3.toInt := l3
  have u3 : x3.toInt ≤ (5 : Int) := u3
  refine g_iald HW rfl ok.1 t2 rfl (by omega) g3 ?_
  refine zrn_ok HW 2 (zbr_ex (cd := .ne) (x := x3) (y := (3 : Int32)) (fun hc4 => zB_iff.mpr ?_) (fun hc4 => zB_iff.mpr ?_))
  · -- pc 19
    have i4 : ¬ x3.toInt = (3 : Int) := zop_int.mp hc4
    refine zrn_ok HW 12 ?_
    exact zret_i rfl rfl (fin 0 (by decide) (by decide))
  · -- pc 10
    have i4 : ¬ (¬ x3.toInt = (3 : Int)) := fun e => hc4 (zop_int.mpr e)
    refine zrn_ok HW 3 (zB_iff.mpr (?_ : G (13, [(0, .inl (.ref q)), (1, .inl (.int (Int32.ofNat t))), (2, .inl (.int st))], [.inl (.int st), .inl (.int (Int32.ofNat t)), .inl (.ref q)], h, 0, 0)))
    refine g_callV (E' := ze_X5_brought) HW rfl rfl (Nat.le_of_ble_eq_true rfl) (Nat.le_of_ble_eq_true rfl) (Nat.le_of_ble_eq_true rfl) ok.1 rfl hq_q rfl (Nat.le_of_ble_eq_true rfl) (c_brought5 ok hq_q lay (fun r5 lo5 hi5 => zB_iff.mpr ?_))
    show G (16, [(0, .inl (.ref q)), (1, .inl (.int (Int32.ofNat t))), (2, .inl (.int st))], [.inl (.int r5)], h, 0, 0)
    refine zrn_ok HW 8 (zbr_ex (cd := .ne) (x := r5) (y := (-1 : Int32)) (fun hc6 => zB_iff.mpr ?_) (fun hc6 => zB_iff.mpr ?_))
    · -- pc 33
      have i6 : ¬ r5.toInt = (-1 : Int) := zop_int.mp hc6
      refine zrn_ok HW 5 ?_
      exact zret_i rfl rfl (fin _ (shr r5 (by omega) (by omega)).1 (shr r5 (by omega) (by omega)).2)
    · -- pc 29
      have i6 : ¬ (¬ r5.toInt = (-1 : Int)) := fun e => hc6 (zop_int.mpr e)
      refine zrn_ok HW 4 ?_
      exact zret_i rfl rfl (fin 0 (by decide) (by decide))
theorem c_winsBy5 {scr : List zV} {d : Nat} {T : List Nat} {h : zH} {q : Nat} {Φ : List Nat → zH → Prop} {N : Nat} {s : Int32} {post : Option zV → zH → Bool} (ok : wOK Φ N T h) (hq_q : T[q]? = some 5) (lay : pLay T h q) (kk : ∀ r : Int32, (∀ t : Nat, (t : Int) < hi h q 17 → hi h (q + 19) t = s.toInt → (∀ u : Nat, u < t → hi h (q + 19) u ≠ s.toInt) → hi h (q + 22) t = -1 → nbt r t = 1) → 0 ≤ r.toInt → r.toInt ≤ 255 → post (some (.inl (.int r))) h = true) : zD zprog scr (d + 3) 243 [.inl (.ref q), .inl (.int s)] h post = true := by
  refine zD_intro (E := ze_X5_winsBy) rfl rfl (fun G HW => ?_)
  obtain ⟨nT, gT, eT, lT, uT⟩ := hi_val (i := 17) ok.1 hq_q (by decide) rfl
  have uT : nT.toInt ≤ (8 : Int) := uT
  have mt : ∀ t u : Nat, hi h (q + 19) t = s.toInt → (∀ w : Nat, w < t → hi h (q + 19) w ≠ s.toInt) → hi h (q + 19) u = s.toInt → (∀ w : Nat, w < u → hi h (q + 19) w ≠ s.toInt) → t = u := fun t u h1 h2 h3 h4 => by
    by_cases e1 : t < u
    · exact absurd h1 (h4 t e1)
    · by_cases e2 : u < t
      · exact absurd h3 (h2 u e2)
      · omega
  refine zrn_ok HW 2 (zB_iff.mpr (?_ : G (2, [(0, .inl (.ref q)), (1, .inl (.int s))], [.inl (.int s), .inl (.ref q)], h, 0, 0)))
  refine g_callV (E' := ze_X5_thingOn) HW rfl rfl (Nat.le_of_ble_eq_true rfl) (Nat.le_of_ble_eq_true rfl) (Nat.le_of_ble_eq_true rfl) ok.1 rfl hq_q rfl (Nat.le_of_ble_eq_true rfl) (c_thingOn5 ok.1 hq_q lay (fun t ta tb tc => zB_iff.mpr ?_) (fun tn => zB_iff.mpr ?_))
  · show G (5, [(0, .inl (.ref q)), (1, .inl (.int s))], [.inl (.int (Int32.ofNat t))], h, 0, 0)
    have ej := nI_int (k := t) (by omega)
    have ejn : (Int32.ofNat t).toInt.toNat = t := by omega
    refine zrn_ok HW 4 (zbr_ex (cd := .eq) (x := (Int32.ofNat t)) (y := (-1 : Int32)) (fun hc1 => zB_iff.mpr ?_) (fun hc1 => zB_iff.mpr ?_))
    · -- pc 21
      have i1 : (Int32.ofNat t).toInt = (-1 : Int) := zop_int.mp hc1
      refine zrn_ok HW 3 ?_
      exact zret_i rfl rfl (kk 0 (fun u h1 h2 h3 h4 => by have e0 := mt t u tb tc h2 h3; subst e0; omega) (by decide) (by decide))
    · -- pc 11
      have i1 : ¬ ((Int32.ofNat t).toInt = (-1 : Int)) := fun e => hc1 (zop_int.mpr e)
      refine zrn_ok HW 1 (zB_iff.mpr (?_ : G (12, [(2, .inl (.int (Int32.ofNat t))), (0, .inl (.ref q)), (1, .inl (.int s))], [.inl (.ref q)], h, 0, 0)))
      have o3 : hget h q 22 = some (.inl (.ref (q + 22))) := (lay.1 (22, 22, 36) (by decide +kernel)).1
      have t3 : T[q + 22]? = some 36 := (lay.1 (22, 22, 36) (by decide +kernel)).2
      refine g_getf HW rfl ok.1 hq_q rfl o3 ?_
      refine zrn_ok HW 1 (zB_iff.mpr (?_ : G (16, [(2, .inl (.int (Int32.ofNat t))), (0, .inl (.ref q)), (1, .inl (.int s))], [.inl (.int (Int32.ofNat t)), .inl (.ref (q + 22))], h, 0, 0)))
      obtain ⟨x4, g4, e4, l4, u4⟩ := hi_val (i := ((Int32.ofNat t)).toInt.toNat) ok.1 t3 (by show _ < 8; omega) rfl
      have l4 : ((-1) : Int) ≤ x4.toInt := l4
      have u4 : x4.toInt ≤ (3 : Int) := u4
      refine g_iald HW rfl ok.1 t3 rfl (by omega) g4 ?_
      refine zrn_ok HW 2 (zbr_ex (cd := .eq) (x := x4) (y := (-1 : Int32)) (fun hc5 => zB_iff.mpr ?_) (fun hc5 => zB_iff.mpr ?_))
      · -- pc 25
        have i5 : x4.toInt = (-1 : Int) := zop_int.mp hc5
        refine zrn_ok HW 3 (zB_iff.mpr (?_ : G (28, [(2, .inl (.int (Int32.ofNat t))), (0, .inl (.ref q)), (1, .inl (.int s))], [.inl (.ref q), .inl (.int (Int32.ofNat t)), .inl (.ref q)], h, 0, 0)))
        refine g_callV (E' := ze_X5_standing) HW rfl rfl (Nat.le_of_ble_eq_true rfl) (Nat.le_of_ble_eq_true rfl) (Nat.le_of_ble_eq_true rfl) ok.1 rfl hq_q rfl (Nat.le_of_ble_eq_true rfl) (c_standing5 ok hq_q lay (fun m hm ml mu => zB_iff.mpr ?_))
        show G (31, [(2, .inl (.int (Int32.ofNat t))), (0, .inl (.ref q)), (1, .inl (.int s))], [.inl (.int m), .inl (.int (Int32.ofNat t)), .inl (.ref q)], h, 0, 0)
        refine g_callV (E' := ze_X5_wonBy) HW rfl rfl (Nat.le_of_ble_eq_true rfl) (Nat.le_of_ble_eq_true rfl) (Nat.le_of_ble_eq_true rfl) ok.1 rfl hq_q rfl (Nat.le_of_ble_eq_true rfl) (c_wonBy5 ok hq_q lay (by omega) (fun r rb rl ru => zB_iff.mpr ?_))
        show G (34, [(2, .inl (.int (Int32.ofNat t))), (0, .inl (.ref q)), (1, .inl (.int s))], [.inl (.int r)], h, 0, 0)
        refine zrn_ok HW 1 ?_
        exact zret_i rfl rfl (kk r (fun u h1 h2 h3 h4 => by rw [← mt t u tb tc h2 h3]; exact rb) rl ru)
      · -- pc 21
        have i5 : ¬ (x4.toInt = (-1 : Int)) := fun e => hc5 (zop_int.mpr e)
        refine zrn_ok HW 3 ?_
        exact zret_i rfl rfl (kk 0 (fun u h1 h2 h3 h4 => by have e0 := mt t u tb tc h2 h3; subst e0; rw [ejn] at e4; have e4 : hi h (q + 22) t = x4.toInt := e4; omega) (by decide) (by decide))
  · show G (5, [(0, .inl (.ref q)), (1, .inl (.int s))], [.inl (.int (-1 : Int32))], h, 0, 0)
    refine zrn_ok HW 7 ?_
    exact zret_i rfl rfl (kk 0 (fun u h1 h2 h3 h4 => absurd h2 (tn u h1)) (by decide) (by decide))
theorem c_brought6 {scr : List zV} {d : Nat} {T : List Nat} {h : zH} {q : Nat} {Φ : List Nat → zH → Prop} {N : Nat} {w st : Int32} {post : Option zV → zH → Bool} (ok : wOK Φ N T h) (hq_q : T[q]? = some 6) (lay : pLay T h q) (kk : ∀ r : Int32, -1 ≤ r.toInt → r.toInt ≤ 7 → post (some (.inl (.int r))) h = true) : zD zprog scr (d + 1) 163 [.inl (.ref q), .inl (.int w), .inl (.int st)] h post = true := by
  refine zD_intro (E := ze_X5_brought) rfl rfl (fun G HW => ?_)
  obtain ⟨nT, gT, eT, lT, uT⟩ := hi_val (i := 17) ok.1 hq_q (by decide) rfl
  have lT : (0 : Int) ≤ nT.toInt := lT
  have uT : nT.toInt ≤ (8 : Int) := uT
  have loop : ∀ i j : Nat, ((i + j : Nat) : Int) = nT.toInt → G (2, [(3, .inl (.int (Int32.ofNat j))), (0, .inl (.ref q)), (1, .inl (.int w)), (2, .inl (.int st))], [], h, 0, 0) := by
    intro i
    induction i with
    | zero =>
      intro j hj  
      have ej := nI_int (k := j) (by omega)
      have ejn : (Int32.ofNat j).toInt.toNat = j := by omega
      refine zrn_ok HW 2 (zB_iff.mpr (?_ : G (4, [(3, .inl (.int (Int32.ofNat j))), (0, .inl (.ref q)), (1, .inl (.int w)), (2, .inl (.int st))], [.inl (.ref q), .inl (.int (Int32.ofNat j))], h, 0, 0)))
      refine g_getf HW rfl ok.1 hq_q rfl gT ?_
      refine zrn_ok HW 1 (zbr_ex (cd := .ge) (x := (Int32.ofNat j)) (y := nT) (fun hc2 => zB_iff.mpr ?_) (fun hc2 => zB_iff.mpr ?_))
      · -- pc 51
        have i2 : (Int32.ofNat j).toInt ≥ nT.toInt := zop_int.mp hc2
        refine zrn_ok HW 2 ?_
        exact zret_i rfl rfl (kk (-1 : Int32) (by decide) (by decide))
      · -- pc 10
        have i2 : ¬ ((Int32.ofNat j).toInt ≥ nT.toInt) := fun e => hc2 (zop_int.mpr e)
        exfalso
        omega
    | succ i ih =>
      intro j hj  
      have ej := nI_int (k := j) (by omega)
      have ejn : (Int32.ofNat j).toInt.toNat = j := by omega
      refine zrn_ok HW 2 (zB_iff.mpr (?_ : G (4, [(3, .inl (.int (Int32.ofNat j))), (0, .inl (.ref q)), (1, .inl (.int w)), (2, .inl (.int st))], [.inl (.ref q), .inl (.int (Int32.ofNat j))], h, 0, 0)))
      refine g_getf HW rfl ok.1 hq_q rfl gT ?_
      refine zrn_ok HW 1 (zbr_ex (cd := .ge) (x := (Int32.ofNat j)) (y := nT) (fun hc2 => zB_iff.mpr ?_) (fun hc2 => zB_iff.mpr ?_))
      · -- pc 51
        have i2 : (Int32.ofNat j).toInt ≥ nT.toInt := zop_int.mp hc2
        exfalso
        omega
      · -- pc 10
        have i2 : ¬ ((Int32.ofNat j).toInt ≥ nT.toInt) := fun e => hc2 (zop_int.mpr e)
        refine zrn_ok HW 3 (zbr_ex (cd := .eq) (x := (Int32.ofNat j)) (y := w) (fun hc3 => zB_iff.mpr ?_) (fun hc3 => zB_iff.mpr ?_))
        · -- pc 45
          have i3 : (Int32.ofNat j).toInt = w.toInt := zop_int.mp hc3
          refine zrn_ok HW 2 (zB_iff.mpr (?_ : G (2, [(3, .inl (.int ((Int32.ofNat j) + (1 : Int32)))), (0, .inl (.ref q)), (1, .inl (.int w)), (2, .inl (.int st))], [], h, 0, 0)))
          have := ih (j + 1) (by omega)
          rw [← nI_add1] at this
          exact this
        · -- pc 15
          have i3 : ¬ ((Int32.ofNat j).toInt = w.toInt) := fun e => hc3 (zop_int.mpr e)
          refine zrn_ok HW 6 (zbr_ex (cd := .eq) (x := ((st >>> ((Int32.ofNat j) &&& 31)) &&& (1 : Int32))) (y := (0 : Int32)) (fun hc4 => zB_iff.mpr ?_) (fun hc4 => zB_iff.mpr ?_))
          · -- pc 45
            have i4 : ((st >>> ((Int32.ofNat j) &&& 31)) &&& (1 : Int32)).toInt = (0 : Int) := zop_int.mp hc4
            refine zrn_ok HW 2 (zB_iff.mpr (?_ : G (2, [(3, .inl (.int ((Int32.ofNat j) + (1 : Int32)))), (0, .inl (.ref q)), (1, .inl (.int w)), (2, .inl (.int st))], [], h, 0, 0)))
            have := ih (j + 1) (by omega)
            rw [← nI_add1] at this
            exact this
          · -- pc 23
            have i4 : ¬ (((st >>> ((Int32.ofNat j) &&& 31)) &&& (1 : Int32)).toInt = (0 : Int)) := fun e => hc4 (zop_int.mpr e)
            refine zrn_ok HW 1 (zB_iff.mpr (?_ : G (24, [(3, .inl (.int (Int32.ofNat j))), (0, .inl (.ref q)), (1, .inl (.int w)), (2, .inl (.int st))], [.inl (.ref q)], h, 0, 0)))
            have o6 : hget h q 18 = some (.inl (.ref (q + 18))) := (lay.1 (18, 18, 32) (by decide +kernel)).1
            have t6 : T[q + 18]? = some 32 := (lay.1 (18, 18, 32) (by decide +kernel)).2
            refine g_getf HW rfl ok.1 hq_q rfl o6 ?_
            refine zrn_ok HW 1 (zB_iff.mpr (?_ : G (28, [(3, .inl (.int (Int32.ofNat j))), (0, .inl (.ref q)), (1, .inl (.int w)), (2, .inl (.int st))], [.inl (.int (Int32.ofNat j)), .inl (.ref (q + 18))], h, 0, 0)))
            obtain ⟨x7, g7, e7, l7, u7⟩ := hi_val (i := ((Int32.ofNat j)).toInt.toNat) ok.1 t6 (by show _ < 8; omega) rfl
            have l7 : (0 : Int) ≤ x7.toInt := l7
            have u7 : x7.toInt ≤ (5 : Int) := u7
            refine g_iald HW rfl ok.1 t6 rfl (by omega) g7 ?_
            refine zrn_ok HW 2 (zbr_ex (cd := .eq) (x := x7) (y := (1 : Int32)) (fun hc8 => zB_iff.mpr ?_) (fun hc8 => zB_iff.mpr ?_))
            · -- pc 45
              have i8 : x7.toInt = (1 : Int) := zop_int.mp hc8
              refine zrn_ok HW 2 (zB_iff.mpr (?_ : G (2, [(3, .inl (.int ((Int32.ofNat j) + (1 : Int32)))), (0, .inl (.ref q)), (1, .inl (.int w)), (2, .inl (.int st))], [], h, 0, 0)))
              have := ih (j + 1) (by omega)
              rw [← nI_add1] at this
              exact this
            · -- pc 33
              have i8 : ¬ (x7.toInt = (1 : Int)) := fun e => hc8 (zop_int.mpr e)
              refine zrn_ok HW 1 (zB_iff.mpr (?_ : G (34, [(3, .inl (.int (Int32.ofNat j))), (0, .inl (.ref q)), (1, .inl (.int w)), (2, .inl (.int st))], [.inl (.ref q)], h, 0, 0)))
              have o10 : hget h q 18 = some (.inl (.ref (q + 18))) := (lay.1 (18, 18, 32) (by decide +kernel)).1
              have t10 : T[q + 18]? = some 32 := (lay.1 (18, 18, 32) (by decide +kernel)).2
              refine g_getf HW rfl ok.1 hq_q rfl o10 ?_
              refine zrn_ok HW 1 (zB_iff.mpr (?_ : G (38, [(3, .inl (.int (Int32.ofNat j))), (0, .inl (.ref q)), (1, .inl (.int w)), (2, .inl (.int st))], [.inl (.int (Int32.ofNat j)), .inl (.ref (q + 18))], h, 0, 0)))
              obtain ⟨x11, g11, e11, l11, u11⟩ := hi_val (i := ((Int32.ofNat j)).toInt.toNat) ok.1 t10 (by show _ < 8; omega) rfl
              have l11 : (0 : Int) ≤ x11.toInt := l11
              have u11 : x11.toInt ≤ (5 : Int) := u11
              refine g_iald HW rfl ok.1 t10 rfl (by omega) g11 ?_
              refine zrn_ok HW 2 (zbr_ex (cd := .eq) (x := x11) (y := (3 : Int32)) (fun hc12 => zB_iff.mpr ?_) (fun hc12 => zB_iff.mpr ?_))
              · -- pc 45
                have i12 : x11.toInt = (3 : Int) := zop_int.mp hc12
                refine zrn_ok HW 2 (zB_iff.mpr (?_ : G (2, [(3, .inl (.int ((Int32.ofNat j) + (1 : Int32)))), (0, .inl (.ref q)), (1, .inl (.int w)), (2, .inl (.int st))], [], h, 0, 0)))
                have := ih (j + 1) (by omega)
                rw [← nI_add1] at this
                exact this
              · -- pc 43
                have i12 : ¬ (x11.toInt = (3 : Int)) := fun e => hc12 (zop_int.mpr e)
                refine zrn_ok HW 2 ?_
                exact zret_i rfl rfl (kk (Int32.ofNat j) (by omega) (by omega))
  refine zrn_ok HW 2 (zB_iff.mpr (?_ : G (2, [(3, .inl (.int (0 : Int32))), (0, .inl (.ref q)), (1, .inl (.int w)), (2, .inl (.int st))], [], h, 0, 0)))
  exact loop nT.toInt.toNat 0 (by omega)
theorem c_wonBy6 {scr : List zV} {d : Nat} {T : List Nat} {h : zH} {q : Nat} {Φ : List Nat → zH → Prop} {N : Nat} {t : Nat} {st : Int32} {post : Option zV → zH → Bool} (ok : wOK Φ N T h) (hq_q : T[q]? = some 6) (lay : pLay T h q) (ht : t < 8) (kk : ∀ r : Int32, nbt r t = 1 → 0 ≤ r.toInt → r.toInt ≤ 255 → post (some (.inl (.int r))) h = true) : zD zprog scr (d + 2) 246 [.inl (.ref q), .inl (.int (Int32.ofNat t)), .inl (.int st)] h post = true := by
  refine zD_intro (E := ze_X5_wonBy) rfl rfl (fun G HW => ?_)
  have ej := nI_int (k := t) (by omega)
  have ejn : (Int32.ofNat t).toInt.toNat = t := by omega
  have shr : ∀ y : Int32, 0 ≤ y.toInt → y.toInt ≤ 7 → 0 ≤ ((1 : Int32) <<< (y &&& 31)).toInt ∧ ((1 : Int32) <<< (y &&& 31)).toInt < 256 := fun y h1 h2 => by
    have key : ∀ k : Nat, k < 8 → (2 : Int) ^ k ≤ 128 ∧ 0 ≤ (2 : Int) ^ k := by decide
    have := key y.toInt.toNat (by omega)
    rw [t_shl h1 (by omega)]
    omega
  have b1 : nbt ((1 : Int32) <<< (Int32.ofNat t &&& 31)) t = 1 := by rw [nb_shl ht ht, if_pos rfl]
  have s1 := shr (Int32.ofNat t) (by omega) (by omega)
  have fin : ∀ y : Int32, 0 ≤ y.toInt → y.toInt < 256 → post (some (.inl (.int (((1 : Int32) <<< (Int32.ofNat t &&& 31)) ||| y)))) h = true := fun y h1 h2 => by
    have ro := t_or (n := 8) (x := (1 : Int32) <<< (Int32.ofNat t &&& 31)) (y := y) (by omega) s1.1 h1 (by show _ < (256 : Int); omega) (by show _ < (256 : Int); omega)
    have ro2 : (((1 : Int32) <<< (Int32.ofNat t &&& 31)) ||| y).toInt < (256 : Int) := ro.2
    exact kk _ (nb_or (by omega) (Or.inl b1)) ro.1 (by omega)
  refine zrn_ok HW 1 (zB_iff.mpr (?_ : G (1, [(0, .inl (.ref q)), (1, .inl (.int (Int32.ofNat t))), (2, .inl (.int st))], [.inl (.ref q)], h, 0, 0)))
  have o2 : hget h q 18 = some (.inl (.ref (q + 18))) := (lay.1 (18, 18, 32) (by decide +kernel)).1
  have t2 : T[q + 18]? = some 32 := (lay.1 (18, 18, 32) (by decide +kernel)).2
  refine g_getf HW rfl ok.1 hq_q rfl o2 ?_
  refine zrn_ok HW 1 (zB_iff.mpr (?_ : G (5, [(0, .inl (.ref q)), (1, .inl (.int (Int32.ofNat t))), (2, .inl (.int st))], [.inl (.int (Int32.ofNat t)), .inl (.ref (q + 18))], h, 0, 0)))
  obtain ⟨x3, g3, e3, l3, u3⟩ := hi_val (i := ((Int32.ofNat t)).toInt.toNat) ok.1 t2 (by show _ < 8; omega) rfl
  have l3 : (0 : Int) ≤ x3.toInt := l3
  have u3 : x3.toInt ≤ (5 : Int) := u3
  refine g_iald HW rfl ok.1 t2 rfl (by omega) g3 ?_
  refine zrn_ok HW 2 (zbr_ex (cd := .ne) (x := x3) (y := (3 : Int32)) (fun hc4 => zB_iff.mpr ?_) (fun hc4 => zB_iff.mpr ?_))
  · -- pc 19
    have i4 : ¬ x3.toInt = (3 : Int) := zop_int.mp hc4
    refine zrn_ok HW 12 ?_
    exact zret_i rfl rfl (fin 0 (by decide) (by decide))
  · -- pc 10
    have i4 : ¬ (¬ x3.toInt = (3 : Int)) := fun e => hc4 (zop_int.mpr e)
    refine zrn_ok HW 3 (zB_iff.mpr (?_ : G (13, [(0, .inl (.ref q)), (1, .inl (.int (Int32.ofNat t))), (2, .inl (.int st))], [.inl (.int st), .inl (.int (Int32.ofNat t)), .inl (.ref q)], h, 0, 0)))
    refine g_callV (E' := ze_X5_brought) HW rfl rfl (Nat.le_of_ble_eq_true rfl) (Nat.le_of_ble_eq_true rfl) (Nat.le_of_ble_eq_true rfl) ok.1 rfl hq_q rfl (Nat.le_of_ble_eq_true rfl) (c_brought6 ok hq_q lay (fun r5 lo5 hi5 => zB_iff.mpr ?_))
    show G (16, [(0, .inl (.ref q)), (1, .inl (.int (Int32.ofNat t))), (2, .inl (.int st))], [.inl (.int r5)], h, 0, 0)
    refine zrn_ok HW 8 (zbr_ex (cd := .ne) (x := r5) (y := (-1 : Int32)) (fun hc6 => zB_iff.mpr ?_) (fun hc6 => zB_iff.mpr ?_))
    · -- pc 33
      have i6 : ¬ r5.toInt = (-1 : Int) := zop_int.mp hc6
      refine zrn_ok HW 5 ?_
      exact zret_i rfl rfl (fin _ (shr r5 (by omega) (by omega)).1 (shr r5 (by omega) (by omega)).2)
    · -- pc 29
      have i6 : ¬ (¬ r5.toInt = (-1 : Int)) := fun e => hc6 (zop_int.mpr e)
      refine zrn_ok HW 4 ?_
      exact zret_i rfl rfl (fin 0 (by decide) (by decide))
theorem c_winsBy6 {scr : List zV} {d : Nat} {T : List Nat} {h : zH} {q : Nat} {Φ : List Nat → zH → Prop} {N : Nat} {s : Int32} {post : Option zV → zH → Bool} (ok : wOK Φ N T h) (hq_q : T[q]? = some 6) (lay : pLay T h q) (kk : ∀ r : Int32, (∀ t : Nat, (t : Int) < hi h q 17 → hi h (q + 19) t = s.toInt → (∀ u : Nat, u < t → hi h (q + 19) u ≠ s.toInt) → hi h (q + 22) t = -1 → nbt r t = 1) → 0 ≤ r.toInt → r.toInt ≤ 255 → post (some (.inl (.int r))) h = true) : zD zprog scr (d + 3) 243 [.inl (.ref q), .inl (.int s)] h post = true := by
  refine zD_intro (E := ze_X5_winsBy) rfl rfl (fun G HW => ?_)
  obtain ⟨nT, gT, eT, lT, uT⟩ := hi_val (i := 17) ok.1 hq_q (by decide) rfl
  have uT : nT.toInt ≤ (8 : Int) := uT
  have mt : ∀ t u : Nat, hi h (q + 19) t = s.toInt → (∀ w : Nat, w < t → hi h (q + 19) w ≠ s.toInt) → hi h (q + 19) u = s.toInt → (∀ w : Nat, w < u → hi h (q + 19) w ≠ s.toInt) → t = u := fun t u h1 h2 h3 h4 => by
    by_cases e1 : t < u
    · exact absurd h1 (h4 t e1)
    · by_cases e2 : u < t
      · exact absurd h3 (h2 u e2)
      · omega
  refine zrn_ok HW 2 (zB_iff.mpr (?_ : G (2, [(0, .inl (.ref q)), (1, .inl (.int s))], [.inl (.int s), .inl (.ref q)], h, 0, 0)))
  refine g_callV (E' := ze_X5_thingOn) HW rfl rfl (Nat.le_of_ble_eq_true rfl) (Nat.le_of_ble_eq_true rfl) (Nat.le_of_ble_eq_true rfl) ok.1 rfl hq_q rfl (Nat.le_of_ble_eq_true rfl) (c_thingOn6 ok.1 hq_q lay (fun t ta tb tc => zB_iff.mpr ?_) (fun tn => zB_iff.mpr ?_))
  · show G (5, [(0, .inl (.ref q)), (1, .inl (.int s))], [.inl (.int (Int32.ofNat t))], h, 0, 0)
    have ej := nI_int (k := t) (by omega)
    have ejn : (Int32.ofNat t).toInt.toNat = t := by omega
    refine zrn_ok HW 4 (zbr_ex (cd := .eq) (x := (Int32.ofNat t)) (y := (-1 : Int32)) (fun hc1 => zB_iff.mpr ?_) (fun hc1 => zB_iff.mpr ?_))
    · -- pc 21
      have i1 : (Int32.ofNat t).toInt = (-1 : Int) := zop_int.mp hc1
      refine zrn_ok HW 3 ?_
      exact zret_i rfl rfl (kk 0 (fun u h1 h2 h3 h4 => by have e0 := mt t u tb tc h2 h3; subst e0; omega) (by decide) (by decide))
    · -- pc 11
      have i1 : ¬ ((Int32.ofNat t).toInt = (-1 : Int)) := fun e => hc1 (zop_int.mpr e)
      refine zrn_ok HW 1 (zB_iff.mpr (?_ : G (12, [(2, .inl (.int (Int32.ofNat t))), (0, .inl (.ref q)), (1, .inl (.int s))], [.inl (.ref q)], h, 0, 0)))
      have o3 : hget h q 22 = some (.inl (.ref (q + 22))) := (lay.1 (22, 22, 36) (by decide +kernel)).1
      have t3 : T[q + 22]? = some 36 := (lay.1 (22, 22, 36) (by decide +kernel)).2
      refine g_getf HW rfl ok.1 hq_q rfl o3 ?_
      refine zrn_ok HW 1 (zB_iff.mpr (?_ : G (16, [(2, .inl (.int (Int32.ofNat t))), (0, .inl (.ref q)), (1, .inl (.int s))], [.inl (.int (Int32.ofNat t)), .inl (.ref (q + 22))], h, 0, 0)))
      obtain ⟨x4, g4, e4, l4, u4⟩ := hi_val (i := ((Int32.ofNat t)).toInt.toNat) ok.1 t3 (by show _ < 8; omega) rfl
      have l4 : ((-1) : Int) ≤ x4.toInt := l4
      have u4 : x4.toInt ≤ (3 : Int) := u4
      refine g_iald HW rfl ok.1 t3 rfl (by omega) g4 ?_
      refine zrn_ok HW 2 (zbr_ex (cd := .eq) (x := x4) (y := (-1 : Int32)) (fun hc5 => zB_iff.mpr ?_) (fun hc5 => zB_iff.mpr ?_))
      · -- pc 25
        have i5 : x4.toInt = (-1 : Int) := zop_int.mp hc5
        refine zrn_ok HW 3 (zB_iff.mpr (?_ : G (28, [(2, .inl (.int (Int32.ofNat t))), (0, .inl (.ref q)), (1, .inl (.int s))], [.inl (.ref q), .inl (.int (Int32.ofNat t)), .inl (.ref q)], h, 0, 0)))
        refine g_callV (E' := ze_X5_standing) HW rfl rfl (Nat.le_of_ble_eq_true rfl) (Nat.le_of_ble_eq_true rfl) (Nat.le_of_ble_eq_true rfl) ok.1 rfl hq_q rfl (Nat.le_of_ble_eq_true rfl) (c_standing6 ok hq_q lay (fun m hm ml mu => zB_iff.mpr ?_))
        show G (31, [(2, .inl (.int (Int32.ofNat t))), (0, .inl (.ref q)), (1, .inl (.int s))], [.inl (.int m), .inl (.int (Int32.ofNat t)), .inl (.ref q)], h, 0, 0)
        refine g_callV (E' := ze_X5_wonBy) HW rfl rfl (Nat.le_of_ble_eq_true rfl) (Nat.le_of_ble_eq_true rfl) (Nat.le_of_ble_eq_true rfl) ok.1 rfl hq_q rfl (Nat.le_of_ble_eq_true rfl) (c_wonBy6 ok hq_q lay (by omega) (fun r rb rl ru => zB_iff.mpr ?_))
        show G (34, [(2, .inl (.int (Int32.ofNat t))), (0, .inl (.ref q)), (1, .inl (.int s))], [.inl (.int r)], h, 0, 0)
        refine zrn_ok HW 1 ?_
        exact zret_i rfl rfl (kk r (fun u h1 h2 h3 h4 => by rw [← mt t u tb tc h2 h3]; exact rb) rl ru)
      · -- pc 21
        have i5 : ¬ (x4.toInt = (-1 : Int)) := fun e => hc5 (zop_int.mpr e)
        refine zrn_ok HW 3 ?_
        exact zret_i rfl rfl (kk 0 (fun u h1 h2 h3 h4 => by have e0 := mt t u tb tc h2 h3; subst e0; rw [ejn] at e4; have e4 : hi h (q + 22) t = x4.toInt := e4; omega) (by decide) (by decide))
  · show G (5, [(0, .inl (.ref q)), (1, .inl (.int s))], [.inl (.int (-1 : Int32))], h, 0, 0)
    refine zrn_ok HW 7 ?_
    exact zret_i rfl rfl (kk 0 (fun u h1 h2 h3 h4 => absurd h2 (tn u h1)) (by decide) (by decide))
