/-- a thing doesn't hold its slip back -/
def hFree (h : zH) (q t : Nat) : Prop := (hi h (q + 18) t ≠ 4 ∧ hi h (q + 18) t ≠ 5) ∨ (2 * hi h (q + 20) t ≤ hi h q 13 ∧ (hi h (q + 18) t = 4 ∨ 2 * hins h q (hi h q 9).toNat ≤ hi h q 9))
/-- slip s can be drawn -/
def hDr (h : zH) (q : Nat) (s : Int) : Prop := 1 ≤ s ∧ s ≤ hi h q 9 ∧ hi h (q + 17) s.toNat = 0 ∧ ∀ t : Nat, (t : Int) < hi h q 17 → hi h (q + 19) t = s → hi h (q + 22) t = -1 → hFree h q t
theorem pJ_uni {h : zH} {q t u : Nat} (hJ : pJ h q) (ht : (t : Int) < hi h q 17) (hu : (u : Int) < hi h q 17) (e : hi h (q + 19) t = hi h (q + 19) u) : t = u := by
  by_cases h1 : t < u
  · exact absurd e ((hJ u hu).2.2 t h1)
  · by_cases h2 : u < t
    · exact absurd e.symm ((hJ t ht).2.2 u h2)
    · omega
theorem c_canDraw5 {Φ : List Nat → zH → Prop} {N : Nat} {scr : List zV} {d : Nat} {T : List Nat} {h : zH} {q : Nat} {s : Int32} {post : Option zV → zH → Bool} (ok : wOK Φ N T h) (hq_q : T[q]? = some 5) (lay : pLay T h q) (hJ : pJ h q) (k1 : hDr h q s.toInt → post (some (.inl (.int 1))) h = true) (k0 : ¬ hDr h q s.toInt → post (some (.inl (.int 0))) h = true) : zD zprog scr (d + 2) 166 [.inl (.ref q), .inl (.int s)] h post = true := by
  refine zD_intro (E := ze_X5_canDraw) rfl rfl (fun G HW => ?_)
  obtain ⟨o1, o2⟩ := lay.1 (16, 17, 31) (by decide +kernel)
  obtain ⟨p1, p2⟩ := lay.1 (22, 22, 36) (by decide +kernel)
  have o1 : hget h q 16 = some (.inl (.ref (q + 17))) := o1
  have o2 : T[q + 17]? = some 31 := o2
  have p1 : hget h q 22 = some (.inl (.ref (q + 22))) := p1
  have p2 : T[q + 22]? = some 36 := p2
  obtain ⟨nT, -, eT, lT, uT⟩ := hi_val (i := 17) ok.1 hq_q (by decide) rfl
  have uT : nT.toInt ≤ (8 : Int) := uT
  refine zrn_ok HW 4 (zB_iff.mpr (?_ : G (4, [(0, .inl (.ref q)), (1, .inl (.int s))], [.inl (.ref q), .inl (.long (1 : Int64)), .inl (.long s.toInt64)], h, 0, 0)))
  obtain ⟨x1, g1, e1, l1, u1⟩ := hi_val (i := 9) ok.1 hq_q (by decide) rfl
  have l1 : (1 : Int) ≤ x1.toInt := l1
  have u1 : x1.toInt ≤ (60 : Int) := u1
  refine g_getf HW rfl ok.1 hq_q rfl g1 ?_
  refine zrn_ok HW 1 (zB_iff.mpr (?_ : G (8, [(0, .inl (.ref q)), (1, .inl (.int s))], [.inl (.long x1.toInt64), .inl (.long (1 : Int64)), .inl (.long s.toInt64)], h, 0, 0)))
  refine g_callS (b := 0) (E' := ze_X5_in) HW (Or.inl rfl) rfl rfl (Nat.le_of_ble_eq_true rfl) (Nat.le_of_ble_eq_true rfl) (Nat.le_of_ble_eq_true rfl) (Nat.le_of_ble_eq_true rfl) (c_in (fun a2 b2 => zB_iff.mpr ?_) (fun n2 => zB_iff.mpr ?_))
  · show G (11, [(0, .inl (.ref q)), (1, .inl (.int s))], [.inl (.int (1 : Int32))], h, 0, 0)
    rw [q_i2l] at a2
    rw [q_i2l, q_i2l] at b2
    have a2 : (1 : Int) ≤ s.toInt := a2
    refine zrn_ok HW 2 (zB_iff.mpr (?_ : G (15, [(0, .inl (.ref q)), (1, .inl (.int s))], [.inl (.ref q)], h, 0, 0)))
    refine g_getf HW rfl ok.1 hq_q rfl o1 ?_
    refine zrn_ok HW 1 (zB_iff.mpr (?_ : G (19, [(0, .inl (.ref q)), (1, .inl (.int s))], [.inl (.int s), .inl (.ref (q + 17))], h, 0, 0)))
    obtain ⟨x4, g4, e4, l4, u4⟩ := hi_val (i := (s).toInt.toNat) ok.1 o2 (by show _ < 61; omega) rfl
    have l4 : (0 : Int) ≤ x4.toInt := l4
    have u4 : x4.toInt ≤ (1 : Int) := u4
    refine g_iald HW rfl ok.1 o2 rfl (by omega) g4 ?_
    refine zrn_ok HW 1 (zbr_ex (cd := .eq) (x := x4) (y := 0) (fun hc5 => zB_iff.mpr ?_) (fun hc5 => zB_iff.mpr ?_))
    · -- pc 25
      have i5 : x4.toInt = (0 : Int) := zop_int.mp hc5
      refine zrn_ok HW 2 (zB_iff.mpr (?_ : G (27, [(0, .inl (.ref q)), (1, .inl (.int s))], [.inl (.int s), .inl (.ref q)], h, 0, 0)))
      refine g_callV (E' := ze_X5_thingOn) HW rfl rfl (Nat.le_of_ble_eq_true rfl) (Nat.le_of_ble_eq_true rfl) (Nat.le_of_ble_eq_true rfl) ok.1 rfl hq_q rfl (Nat.le_of_ble_eq_true rfl) (c_thingOn5 ok.1 hq_q lay (fun t ta tb tc => zB_iff.mpr ?_) (fun tn => zB_iff.mpr ?_))
      · show G (30, [(0, .inl (.ref q)), (1, .inl (.int s))], [.inl (.int (Int32.ofNat t))], h, 0, 0)
        have et := nI_int (k := t) (by omega)
        have et2 : (Int32.ofNat t).toInt.toNat = t := by omega
        refine zrn_ok HW 4 (zbr_ex (cd := .eq) (x := (Int32.ofNat t)) (y := (-1 : Int32)) (fun hc6 => zB_iff.mpr ?_) (fun hc6 => zB_iff.mpr ?_))
        · -- pc 62
          have i6 : (Int32.ofNat t).toInt = (-1 : Int) := zop_int.mp hc6
          refine zrn_ok HW 3 ?_
          exact zret_z rfl rfl (k1 (by exfalso; omega))
        · -- pc 36
          have i6 : ¬ ((Int32.ofNat t).toInt = (-1 : Int)) := fun e => hc6 (zop_int.mpr e)
          refine zrn_ok HW 1 (zB_iff.mpr (?_ : G (37, [(2, .inl (.int (Int32.ofNat t))), (0, .inl (.ref q)), (1, .inl (.int s))], [.inl (.ref q)], h, 0, 0)))
          refine g_getf HW rfl ok.1 hq_q rfl p1 ?_
          refine zrn_ok HW 1 (zB_iff.mpr (?_ : G (41, [(2, .inl (.int (Int32.ofNat t))), (0, .inl (.ref q)), (1, .inl (.int s))], [.inl (.int (Int32.ofNat t)), .inl (.ref (q + 22))], h, 0, 0)))
          obtain ⟨x8, g8, e8, l8, u8⟩ := hi_val (i := ((Int32.ofNat t)).toInt.toNat) ok.1 p2 (by show _ < 8; omega) rfl
          have l8 : ((-1) : Int) ≤ x8.toInt := l8
          have u8 : x8.toInt ≤ (3 : Int) := u8
          refine g_iald HW rfl ok.1 p2 rfl (by omega) g8 ?_
          refine zrn_ok HW 2 (zbr_ex (cd := .ne) (x := x8) (y := (-1 : Int32)) (fun hc9 => zB_iff.mpr ?_) (fun hc9 => zB_iff.mpr ?_))
          · -- pc 62
            have i9 : ¬ x8.toInt = (-1 : Int) := zop_int.mp hc9
            refine zrn_ok HW 3 ?_
            exact zret_z rfl rfl (k1 ⟨by omega, by omega, by rw [e4, i5], fun u hu eu hh => by
                have := pJ_uni hJ ta hu (tb.trans eu.symm)
                subst this
                rw [et2] at e8
                omega⟩)
          · -- pc 46
            have i9 : ¬ (¬ x8.toInt = (-1 : Int)) := fun e => hc9 (zop_int.mpr e)
            refine zrn_ok HW 3 (zB_iff.mpr (?_ : G (49, [(2, .inl (.int (Int32.ofNat t))), (0, .inl (.ref q)), (1, .inl (.int s))], [.inl (.ref q), .inl (.int (Int32.ofNat t)), .inl (.ref q)], h, 0, 0)))
            obtain ⟨x10, g10, e10, l10, u10⟩ := hi_val (i := 13) ok.1 hq_q (by decide) rfl
            have l10 : ((-2147483648) : Int) ≤ x10.toInt := l10
            have u10 : x10.toInt ≤ (2147483647 : Int) := u10
            refine g_getf HW rfl ok.1 hq_q rfl g10 ?_
            refine zrn_ok HW 1 (zB_iff.mpr (?_ : G (53, [(2, .inl (.int (Int32.ofNat t))), (0, .inl (.ref q)), (1, .inl (.int s))], [.inl (.ref q), .inl (.int x10), .inl (.int (Int32.ofNat t)), .inl (.ref q)], h, 0, 0)))
            refine g_callV (E' := ze_X5_inside) HW rfl rfl (Nat.le_of_ble_eq_true rfl) (Nat.le_of_ble_eq_true rfl) (Nat.le_of_ble_eq_true rfl) ok.1 rfl hq_q rfl (Nat.le_of_ble_eq_true rfl) (c_inside5 ok.1 hq_q lay (fun mi me ml mu => zB_iff.mpr ?_))
            · show G (56, [(2, .inl (.int (Int32.ofNat t))), (0, .inl (.ref q)), (1, .inl (.int s))], [.inl (.int mi), .inl (.int x10), .inl (.int (Int32.ofNat t)), .inl (.ref q)], h, 0, 0)
              refine g_callV (E' := ze_X5_isFree) HW rfl rfl (Nat.le_of_ble_eq_true rfl) (Nat.le_of_ble_eq_true rfl) (Nat.le_of_ble_eq_true rfl) ok.1 rfl hq_q rfl (Nat.le_of_ble_eq_true rfl) (c_isFree5 ok hq_q lay (t := Int32.ofNat t) (l := mi) (by omega) (by omega) (fun fa => zB_iff.mpr ?_) (fun fn => zB_iff.mpr ?_))
              · show G (59, [(2, .inl (.int (Int32.ofNat t))), (0, .inl (.ref q)), (1, .inl (.int s))], [.inl (.int (1 : Int32))], h, 0, 0)
                refine zrn_ok HW 4 ?_
                exact zret_z rfl rfl (k1 ⟨by omega, by omega, by rw [e4, i5], fun u hu eu hh => by
                    have := pJ_uni hJ ta hu (tb.trans eu.symm)
                    subst this
                    rw [et2, me] at fa
                    unfold hFree
                    rw [e10]
                    exact fa⟩)
              · show G (59, [(2, .inl (.int (Int32.ofNat t))), (0, .inl (.ref q)), (1, .inl (.int s))], [.inl (.int (0 : Int32))], h, 0, 0)
                refine zrn_ok HW 3 ?_
                exact zret_z rfl rfl (k0 (fun hd => fn (by
                    have hf := hd.2.2.2 t ta tb (by rw [et2] at e8; omega)
                    unfold hFree at hf
                    rw [e10] at hf
                    rw [et2, me]
                    exact hf)))
      · show G (30, [(0, .inl (.ref q)), (1, .inl (.int s))], [.inl (.int (-1 : Int32))], h, 0, 0)
        refine zrn_ok HW 7 ?_
        exact zret_z rfl rfl (k1 ⟨by omega, by omega, by rw [e4, i5], fun u hu eu hh => absurd eu (tn u hu)⟩)
    · -- pc 23
      have i5 : ¬ (x4.toInt = (0 : Int)) := fun e => hc5 (zop_int.mpr e)
      refine zrn_ok HW 2 ?_
      exact zret_z rfl rfl (k0 (fun hd => by
          have := hd.2.2.1
          omega))
  · show G (11, [(0, .inl (.ref q)), (1, .inl (.int s))], [.inl (.int (0 : Int32))], h, 0, 0)
    refine zrn_ok HW 3 ?_
    exact zret_z rfl rfl (k0 (fun hd => n2 ⟨by rw [q_i2l]; exact hd.1, by rw [q_i2l, q_i2l]; have := hd.2.1; omega⟩))
theorem c_canDraw6 {Φ : List Nat → zH → Prop} {N : Nat} {scr : List zV} {d : Nat} {T : List Nat} {h : zH} {q : Nat} {s : Int32} {post : Option zV → zH → Bool} (ok : wOK Φ N T h) (hq_q : T[q]? = some 6) (lay : pLay T h q) (hJ : pJ h q) (k1 : hDr h q s.toInt → post (some (.inl (.int 1))) h = true) (k0 : ¬ hDr h q s.toInt → post (some (.inl (.int 0))) h = true) : zD zprog scr (d + 2) 166 [.inl (.ref q), .inl (.int s)] h post = true := by
  refine zD_intro (E := ze_X5_canDraw) rfl rfl (fun G HW => ?_)
  obtain ⟨o1, o2⟩ := lay.1 (16, 17, 31) (by decide +kernel)
  obtain ⟨p1, p2⟩ := lay.1 (22, 22, 36) (by decide +kernel)
  have o1 : hget h q 16 = some (.inl (.ref (q + 17))) := o1
  have o2 : T[q + 17]? = some 31 := o2
  have p1 : hget h q 22 = some (.inl (.ref (q + 22))) := p1
  have p2 : T[q + 22]? = some 36 := p2
  obtain ⟨nT, -, eT, lT, uT⟩ := hi_val (i := 17) ok.1 hq_q (by decide) rfl
  have uT : nT.toInt ≤ (8 : Int) := uT
  refine zrn_ok HW 4 (zB_iff.mpr (?_ : G (4, [(0, .inl (.ref q)), (1, .inl (.int s))], [.inl (.ref q), .inl (.long (1 : Int64)), .inl (.long s.toInt64)], h, 0, 0)))
  obtain ⟨x1, g1, e1, l1, u1⟩ := hi_val (i := 9) ok.1 hq_q (by decide) rfl
  have l1 : (1 : Int) ≤ x1.toInt := l1
  have u1 : x1.toInt ≤ (60 : Int) := u1
  refine g_getf HW rfl ok.1 hq_q rfl g1 ?_
  refine zrn_ok HW 1 (zB_iff.mpr (?_ : G (8, [(0, .inl (.ref q)), (1, .inl (.int s))], [.inl (.long x1.toInt64), .inl (.long (1 : Int64)), .inl (.long s.toInt64)], h, 0, 0)))
  refine g_callS (b := 0) (E' := ze_X5_in) HW (Or.inl rfl) rfl rfl (Nat.le_of_ble_eq_true rfl) (Nat.le_of_ble_eq_true rfl) (Nat.le_of_ble_eq_true rfl) (Nat.le_of_ble_eq_true rfl) (c_in (fun a2 b2 => zB_iff.mpr ?_) (fun n2 => zB_iff.mpr ?_))
  · show G (11, [(0, .inl (.ref q)), (1, .inl (.int s))], [.inl (.int (1 : Int32))], h, 0, 0)
    rw [q_i2l] at a2
    rw [q_i2l, q_i2l] at b2
    have a2 : (1 : Int) ≤ s.toInt := a2
    refine zrn_ok HW 2 (zB_iff.mpr (?_ : G (15, [(0, .inl (.ref q)), (1, .inl (.int s))], [.inl (.ref q)], h, 0, 0)))
    refine g_getf HW rfl ok.1 hq_q rfl o1 ?_
    refine zrn_ok HW 1 (zB_iff.mpr (?_ : G (19, [(0, .inl (.ref q)), (1, .inl (.int s))], [.inl (.int s), .inl (.ref (q + 17))], h, 0, 0)))
    obtain ⟨x4, g4, e4, l4, u4⟩ := hi_val (i := (s).toInt.toNat) ok.1 o2 (by show _ < 61; omega) rfl
    have l4 : (0 : Int) ≤ x4.toInt := l4
    have u4 : x4.toInt ≤ (1 : Int) := u4
    refine g_iald HW rfl ok.1 o2 rfl (by omega) g4 ?_
    refine zrn_ok HW 1 (zbr_ex (cd := .eq) (x := x4) (y := 0) (fun hc5 => zB_iff.mpr ?_) (fun hc5 => zB_iff.mpr ?_))
    · -- pc 25
      have i5 : x4.toInt = (0 : Int) := zop_int.mp hc5
      refine zrn_ok HW 2 (zB_iff.mpr (?_ : G (27, [(0, .inl (.ref q)), (1, .inl (.int s))], [.inl (.int s), .inl (.ref q)], h, 0, 0)))
      refine g_callV (E' := ze_X5_thingOn) HW rfl rfl (Nat.le_of_ble_eq_true rfl) (Nat.le_of_ble_eq_true rfl) (Nat.le_of_ble_eq_true rfl) ok.1 rfl hq_q rfl (Nat.le_of_ble_eq_true rfl) (c_thingOn6 ok.1 hq_q lay (fun t ta tb tc => zB_iff.mpr ?_) (fun tn => zB_iff.mpr ?_))
      · show G (30, [(0, .inl (.ref q)), (1, .inl (.int s))], [.inl (.int (Int32.ofNat t))], h, 0, 0)
        have et := nI_int (k := t) (by omega)
        have et2 : (Int32.ofNat t).toInt.toNat = t := by omega
        refine zrn_ok HW 4 (zbr_ex (cd := .eq) (x := (Int32.ofNat t)) (y := (-1 : Int32)) (fun hc6 => zB_iff.mpr ?_) (fun hc6 => zB_iff.mpr ?_))
        · -- pc 62
          have i6 : (Int32.ofNat t).toInt = (-1 : Int) := zop_int.mp hc6
          refine zrn_ok HW 3 ?_
          exact zret_z rfl rfl (k1 (by exfalso; omega))
        · -- pc 36
          have i6 : ¬ ((Int32.ofNat t).toInt = (-1 : Int)) := fun e => hc6 (zop_int.mpr e)
          refine zrn_ok HW 1 (zB_iff.mpr (?_ : G (37, [(2, .inl (.int (Int32.ofNat t))), (0, .inl (.ref q)), (1, .inl (.int s))], [.inl (.ref q)], h, 0, 0)))
          refine g_getf HW rfl ok.1 hq_q rfl p1 ?_
          refine zrn_ok HW 1 (zB_iff.mpr (?_ : G (41, [(2, .inl (.int (Int32.ofNat t))), (0, .inl (.ref q)), (1, .inl (.int s))], [.inl (.int (Int32.ofNat t)), .inl (.ref (q + 22))], h, 0, 0)))
          obtain ⟨x8, g8, e8, l8, u8⟩ := hi_val (i := ((Int32.ofNat t)).toInt.toNat) ok.1 p2 (by show _ < 8; omega) rfl
          have l8 : ((-1) : Int) ≤ x8.toInt := l8
          have u8 : x8.toInt ≤ (3 : Int) := u8
          refine g_iald HW rfl ok.1 p2 rfl (by omega) g8 ?_
          refine zrn_ok HW 2 (zbr_ex (cd := .ne) (x := x8) (y := (-1 : Int32)) (fun hc9 => zB_iff.mpr ?_) (fun hc9 => zB_iff.mpr ?_))
          · -- pc 62
            have i9 : ¬ x8.toInt = (-1 : Int) := zop_int.mp hc9
            refine zrn_ok HW 3 ?_
            exact zret_z rfl rfl (k1 ⟨by omega, by omega, by rw [e4, i5], fun u hu eu hh => by
                have := pJ_uni hJ ta hu (tb.trans eu.symm)
                subst this
                rw [et2] at e8
                omega⟩)
          · -- pc 46
            have i9 : ¬ (¬ x8.toInt = (-1 : Int)) := fun e => hc9 (zop_int.mpr e)
            refine zrn_ok HW 3 (zB_iff.mpr (?_ : G (49, [(2, .inl (.int (Int32.ofNat t))), (0, .inl (.ref q)), (1, .inl (.int s))], [.inl (.ref q), .inl (.int (Int32.ofNat t)), .inl (.ref q)], h, 0, 0)))
            obtain ⟨x10, g10, e10, l10, u10⟩ := hi_val (i := 13) ok.1 hq_q (by decide) rfl
            have l10 : ((-2147483648) : Int) ≤ x10.toInt := l10
            have u10 : x10.toInt ≤ (2147483647 : Int) := u10
            refine g_getf HW rfl ok.1 hq_q rfl g10 ?_
            refine zrn_ok HW 1 (zB_iff.mpr (?_ : G (53, [(2, .inl (.int (Int32.ofNat t))), (0, .inl (.ref q)), (1, .inl (.int s))], [.inl (.ref q), .inl (.int x10), .inl (.int (Int32.ofNat t)), .inl (.ref q)], h, 0, 0)))
            refine g_callV (E' := ze_X5_inside) HW rfl rfl (Nat.le_of_ble_eq_true rfl) (Nat.le_of_ble_eq_true rfl) (Nat.le_of_ble_eq_true rfl) ok.1 rfl hq_q rfl (Nat.le_of_ble_eq_true rfl) (c_inside6 ok.1 hq_q lay (fun mi me ml mu => zB_iff.mpr ?_))
            · show G (56, [(2, .inl (.int (Int32.ofNat t))), (0, .inl (.ref q)), (1, .inl (.int s))], [.inl (.int mi), .inl (.int x10), .inl (.int (Int32.ofNat t)), .inl (.ref q)], h, 0, 0)
              refine g_callV (E' := ze_X5_isFree) HW rfl rfl (Nat.le_of_ble_eq_true rfl) (Nat.le_of_ble_eq_true rfl) (Nat.le_of_ble_eq_true rfl) ok.1 rfl hq_q rfl (Nat.le_of_ble_eq_true rfl) (c_isFree6 ok hq_q lay (t := Int32.ofNat t) (l := mi) (by omega) (by omega) (fun fa => zB_iff.mpr ?_) (fun fn => zB_iff.mpr ?_))
              · show G (59, [(2, .inl (.int (Int32.ofNat t))), (0, .inl (.ref q)), (1, .inl (.int s))], [.inl (.int (1 : Int32))], h, 0, 0)
                refine zrn_ok HW 4 ?_
                exact zret_z rfl rfl (k1 ⟨by omega, by omega, by rw [e4, i5], fun u hu eu hh => by
                    have := pJ_uni hJ ta hu (tb.trans eu.symm)
                    subst this
                    rw [et2, me] at fa
                    unfold hFree
                    rw [e10]
                    exact fa⟩)
              · show G (59, [(2, .inl (.int (Int32.ofNat t))), (0, .inl (.ref q)), (1, .inl (.int s))], [.inl (.int (0 : Int32))], h, 0, 0)
                refine zrn_ok HW 3 ?_
                exact zret_z rfl rfl (k0 (fun hd => fn (by
                    have hf := hd.2.2.2 t ta tb (by rw [et2] at e8; omega)
                    unfold hFree at hf
                    rw [e10] at hf
                    rw [et2, me]
                    exact hf)))
      · show G (30, [(0, .inl (.ref q)), (1, .inl (.int s))], [.inl (.int (-1 : Int32))], h, 0, 0)
        refine zrn_ok HW 7 ?_
        exact zret_z rfl rfl (k1 ⟨by omega, by omega, by rw [e4, i5], fun u hu eu hh => absurd eu (tn u hu)⟩)
    · -- pc 23
      have i5 : ¬ (x4.toInt = (0 : Int)) := fun e => hc5 (zop_int.mpr e)
      refine zrn_ok HW 2 ?_
      exact zret_z rfl rfl (k0 (fun hd => by
          have := hd.2.2.1
          omega))
  · show G (11, [(0, .inl (.ref q)), (1, .inl (.int s))], [.inl (.int (0 : Int32))], h, 0, 0)
    refine zrn_ok HW 3 ?_
    exact zret_z rfl rfl (k0 (fun hd => n2 ⟨by rw [q_i2l]; exact hd.1, by rw [q_i2l, q_i2l]; have := hd.2.1; omega⟩))
