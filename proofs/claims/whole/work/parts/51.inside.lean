/-- how many of the first k slips are in -/
def hins (h : zH) (q : Nat) : Nat → Int
  | 0 => 0
  | k + 1 => hins h q k + (1 - hi h (q + 17) (k + 1))
theorem hins_b {T : List Nat} {h : zH} {q : Nat} (hok : hOK zty T h) (o2 : T[q + 17]? = some 31) : ∀ k : Nat, k ≤ 60 → 0 ≤ hins h q k ∧ hins h q k ≤ (k : Int)
  | 0, _ => ⟨Int.le_refl _, Int.le_refl _⟩
  | k + 1, hk => by
    obtain ⟨w, -, ew, lw, uw⟩ := hi_val (i := k + 1) hok o2 (by show _ < 61; omega) rfl
    have lw : (0 : Int) ≤ w.toInt := lw
    have uw : w.toInt ≤ (1 : Int) := uw
    have := hins_b hok o2 k (by omega)
    show 0 ≤ hins h q k + (1 - hi h (q + 17) (k + 1)) ∧ hins h q k + (1 - hi h (q + 17) (k + 1)) ≤ _
    omega
theorem c_inside5 {scr : List zV} {d : Nat} {T : List Nat} {h : zH} {q : Nat} {post : Option zV → zH → Bool} (hok : hOK zty T h) (hq_q : T[q]? = some 5) (lay : pLay T h q) (kk : ∀ m : Int32, m.toInt = hins h q (hi h q 9).toNat → 0 ≤ m.toInt → m.toInt ≤ 60 → post (some (.inl (.int m))) h = true) : zD zprog scr (d + 1) 193 [.inl (.ref q)] h post = true := by
  refine zD_intro (E := ze_X5_inside) rfl rfl (fun G HW => ?_)
  obtain ⟨sl, gS, eS, lS, uS⟩ := hi_val (i := 9) hok hq_q (by decide) rfl
  have lS : (1 : Int) ≤ sl.toInt := lS
  have uS : sl.toInt ≤ (60 : Int) := uS
  obtain ⟨o1, o2⟩ := lay.1 (16, 17, 31) (by decide +kernel)
  have hb := fun k hk => hins_b hok o2 k hk
  have loop : ∀ i j : Nat, ((i + j : Nat) : Int) = sl.toInt → ∀ m : Int32, m.toInt = hins h q j → G (4, [(2, .inl (.int (Int32.ofNat (j + 1)))), (1, .inl (.int m)), (0, .inl (.ref q))], [], h, 0, 0) := by
    intro i
    induction i with
    | zero =>
      intro j hj m hm
      have ej := nI_int (k := j + 1) (by omega)
      refine zrn_ok HW 2 (zB_iff.mpr (?_ : G (6, [(2, .inl (.int (Int32.ofNat (j + 1)))), (1, .inl (.int m)), (0, .inl (.ref q))], [.inl (.ref q), .inl (.int (Int32.ofNat (j + 1)))], h, 0, 0)))
      refine g_getf HW rfl hok hq_q rfl gS ?_
      refine zrn_ok HW 1 (zbr_ex (cd := .gt) (x := Int32.ofNat (j + 1)) (y := sl) (fun hc => zB_iff.mpr ?_) (fun hc => zB_iff.mpr ?_))
      · refine zrn_ok HW 2 ?_
        have := hb j (by omega)
        refine zret_i rfl rfl (kk m ?_ (by omega) (by omega))
        rw [hm, eS]
        congr 1
        omega
      · exfalso
        have := Int32.le_iff_toInt_le.mp (Int32.not_lt.mp hc)
        omega
    | succ i ih =>
      intro j hj m hm
      have ej := nI_int (k := j + 1) (by omega)
      have hbj := hb j (by omega)
      refine zrn_ok HW 2 (zB_iff.mpr (?_ : G (6, [(2, .inl (.int (Int32.ofNat (j + 1)))), (1, .inl (.int m)), (0, .inl (.ref q))], [.inl (.ref q), .inl (.int (Int32.ofNat (j + 1)))], h, 0, 0)))
      refine g_getf HW rfl hok hq_q rfl gS ?_
      refine zrn_ok HW 1 (zbr_ex (cd := .gt) (x := Int32.ofNat (j + 1)) (y := sl) (fun hc => zB_iff.mpr ?_) (fun hc => zB_iff.mpr ?_))
      · exfalso
        have := Int32.lt_iff_toInt_lt.mp (show sl < Int32.ofNat (j + 1) from hc)
        omega
      · refine zrn_ok HW 3 (zB_iff.mpr (?_ : G (15, [(2, .inl (.int (Int32.ofNat (j + 1)))), (1, .inl (.int m)), (0, .inl (.ref q))], [.inl (.ref q), .inl (.int (1 : Int32)), .inl (.int m)], h, 0, 0)))
        refine g_getf HW rfl hok hq_q rfl o1 ?_
        refine zrn_ok HW 1 (zB_iff.mpr (?_ : G (19, [(2, .inl (.int (Int32.ofNat (j + 1)))), (1, .inl (.int m)), (0, .inl (.ref q))], [.inl (.int (Int32.ofNat (j + 1))), .inl (.ref (q + 17)), .inl (.int (1 : Int32)), .inl (.int m)], h, 0, 0)))
        obtain ⟨w, gw, ew, lw, uw⟩ := hi_val (i := (Int32.ofNat (j + 1)).toInt.toNat) hok o2 (by show _ < 61; omega) rfl
        have lw : (0 : Int) ≤ w.toInt := lw
        have uw : w.toInt ≤ (1 : Int) := uw
        have e2 : (Int32.ofNat (j + 1)).toInt.toNat = j + 1 := by omega
        refine g_iald HW rfl hok o2 rfl (by omega) gw ?_
        rw [e2] at ew
        have ew : hi h (q + 17) (j + 1) = w.toInt := ew
        have h1 : (1 : Int32).toInt = 1 := rfl
        have s1 := t_sub (x := 1) (y := w) (by omega) (by omega)
        have s2 := t_add (x := m) (y := 1 - w) (by omega) (by omega)
        refine zrn_ok HW 5 (zB_iff.mpr ?_)
        have := ih (j + 1) (by omega) (m + (1 - w)) (by
          show _ = hins h q j + (1 - hi h (q + 17) (j + 1))
          omega)
        rw [← nI_add1 (k := j + 1)] at this
        exact this
  refine zrn_ok HW 4 (zB_iff.mpr ?_)
  exact loop sl.toInt.toNat 0 (by omega) 0 rfl
theorem c_inside6 {scr : List zV} {d : Nat} {T : List Nat} {h : zH} {q : Nat} {post : Option zV → zH → Bool} (hok : hOK zty T h) (hq_q : T[q]? = some 6) (lay : pLay T h q) (kk : ∀ m : Int32, m.toInt = hins h q (hi h q 9).toNat → 0 ≤ m.toInt → m.toInt ≤ 60 → post (some (.inl (.int m))) h = true) : zD zprog scr (d + 1) 193 [.inl (.ref q)] h post = true := by
  refine zD_intro (E := ze_X5_inside) rfl rfl (fun G HW => ?_)
  obtain ⟨sl, gS, eS, lS, uS⟩ := hi_val (i := 9) hok hq_q (by decide) rfl
  have lS : (1 : Int) ≤ sl.toInt := lS
  have uS : sl.toInt ≤ (60 : Int) := uS
  obtain ⟨o1, o2⟩ := lay.1 (16, 17, 31) (by decide +kernel)
  have hb := fun k hk => hins_b hok o2 k hk
  have loop : ∀ i j : Nat, ((i + j : Nat) : Int) = sl.toInt → ∀ m : Int32, m.toInt = hins h q j → G (4, [(2, .inl (.int (Int32.ofNat (j + 1)))), (1, .inl (.int m)), (0, .inl (.ref q))], [], h, 0, 0) := by
    intro i
    induction i with
    | zero =>
      intro j hj m hm
      have ej := nI_int (k := j + 1) (by omega)
      refine zrn_ok HW 2 (zB_iff.mpr (?_ : G (6, [(2, .inl (.int (Int32.ofNat (j + 1)))), (1, .inl (.int m)), (0, .inl (.ref q))], [.inl (.ref q), .inl (.int (Int32.ofNat (j + 1)))], h, 0, 0)))
      refine g_getf HW rfl hok hq_q rfl gS ?_
      refine zrn_ok HW 1 (zbr_ex (cd := .gt) (x := Int32.ofNat (j + 1)) (y := sl) (fun hc => zB_iff.mpr ?_) (fun hc => zB_iff.mpr ?_))
      · refine zrn_ok HW 2 ?_
        have := hb j (by omega)
        refine zret_i rfl rfl (kk m ?_ (by omega) (by omega))
        rw [hm, eS]
        congr 1
        omega
      · exfalso
        have := Int32.le_iff_toInt_le.mp (Int32.not_lt.mp hc)
        omega
    | succ i ih =>
      intro j hj m hm
      have ej := nI_int (k := j + 1) (by omega)
      have hbj := hb j (by omega)
      refine zrn_ok HW 2 (zB_iff.mpr (?_ : G (6, [(2, .inl (.int (Int32.ofNat (j + 1)))), (1, .inl (.int m)), (0, .inl (.ref q))], [.inl (.ref q), .inl (.int (Int32.ofNat (j + 1)))], h, 0, 0)))
      refine g_getf HW rfl hok hq_q rfl gS ?_
      refine zrn_ok HW 1 (zbr_ex (cd := .gt) (x := Int32.ofNat (j + 1)) (y := sl) (fun hc => zB_iff.mpr ?_) (fun hc => zB_iff.mpr ?_))
      · exfalso
        have := Int32.lt_iff_toInt_lt.mp (show sl < Int32.ofNat (j + 1) from hc)
        omega
      · refine zrn_ok HW 3 (zB_iff.mpr (?_ : G (15, [(2, .inl (.int (Int32.ofNat (j + 1)))), (1, .inl (.int m)), (0, .inl (.ref q))], [.inl (.ref q), .inl (.int (1 : Int32)), .inl (.int m)], h, 0, 0)))
        refine g_getf HW rfl hok hq_q rfl o1 ?_
        refine zrn_ok HW 1 (zB_iff.mpr (?_ : G (19, [(2, .inl (.int (Int32.ofNat (j + 1)))), (1, .inl (.int m)), (0, .inl (.ref q))], [.inl (.int (Int32.ofNat (j + 1))), .inl (.ref (q + 17)), .inl (.int (1 : Int32)), .inl (.int m)], h, 0, 0)))
        obtain ⟨w, gw, ew, lw, uw⟩ := hi_val (i := (Int32.ofNat (j + 1)).toInt.toNat) hok o2 (by show _ < 61; omega) rfl
        have lw : (0 : Int) ≤ w.toInt := lw
        have uw : w.toInt ≤ (1 : Int) := uw
        have e2 : (Int32.ofNat (j + 1)).toInt.toNat = j + 1 := by omega
        refine g_iald HW rfl hok o2 rfl (by omega) gw ?_
        rw [e2] at ew
        have ew : hi h (q + 17) (j + 1) = w.toInt := ew
        have h1 : (1 : Int32).toInt = 1 := rfl
        have s1 := t_sub (x := 1) (y := w) (by omega) (by omega)
        have s2 := t_add (x := m) (y := 1 - w) (by omega) (by omega)
        refine zrn_ok HW 5 (zB_iff.mpr ?_)
        have := ih (j + 1) (by omega) (m + (1 - w)) (by
          show _ = hins h q j + (1 - hi h (q + 17) (j + 1))
          omega)
        rw [← nI_add1 (k := j + 1)] at this
        exact this
  refine zrn_ok HW 4 (zB_iff.mpr ?_)
  exact loop sl.toInt.toNat 0 (by omega) 0 rfl
