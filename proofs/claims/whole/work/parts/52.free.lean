theorem t_dbl {x : Int32} (h : 0 ≤ x.toInt ∧ x.toInt ≤ 1000) : ((2 : Int32) * x).toInt = 2 * x.toInt := by
  have h2 : (2 : Int32).toInt = 2 := rfl
  have := t_mul (x := 2) (y := x) (by rw [h2]; omega) (by rw [h2]; omega)
  rw [h2] at this
  exact this
theorem c_isFree5 {Φ : List Nat → zH → Prop} {N : Nat} {scr : List zV} {d : Nat} {T : List Nat} {h : zH} {q : Nat} {t g l : Int32} {post : Option zV → zH → Bool} (ok : wOK Φ N T h) (hq_q : T[q]? = some 5) (lay : pLay T h q) (ht : 0 ≤ t.toInt ∧ t.toInt < 8) (hl : 0 ≤ l.toInt ∧ l.toInt ≤ 60) (k1 : ((hi h (q + 18) t.toInt.toNat ≠ 4 ∧ hi h (q + 18) t.toInt.toNat ≠ 5) ∨ (2 * hi h (q + 20) t.toInt.toNat ≤ g.toInt ∧ (hi h (q + 18) t.toInt.toNat = 4 ∨ 2 * l.toInt ≤ hi h q 9))) → post (some (.inl (.int 1))) h = true) (k0 : ¬ ((hi h (q + 18) t.toInt.toNat ≠ 4 ∧ hi h (q + 18) t.toInt.toNat ≠ 5) ∨ (2 * hi h (q + 20) t.toInt.toNat ≤ g.toInt ∧ (hi h (q + 18) t.toInt.toNat = 4 ∨ 2 * l.toInt ≤ hi h q 9))) → post (some (.inl (.int 0))) h = true) : zD zprog scr (d + 1) 16 [.inl (.ref q), .inl (.int t), .inl (.int g), .inl (.int l)] h post = true := by
  refine zD_intro (E := ze_X5_isFree) rfl rfl (fun G HW => ?_)
  obtain ⟨o1, o2⟩ := lay.1 (18, 18, 32) (by decide +kernel)
  obtain ⟨p1, p2⟩ := lay.1 (20, 20, 34) (by decide +kernel)
  have o1 : hget h q 18 = some (.inl (.ref (q + 18))) := o1
  have o2 : T[q + 18]? = some 32 := o2
  have p1 : hget h q 20 = some (.inl (.ref (q + 20))) := p1
  have p2 : T[q + 20]? = some 34 := p2
  have dl := t_dbl (x := l) (by omega)
  refine zrn_ok HW 1 (zB_iff.mpr (?_ : G (1, [(0, .inl (.ref q)), (1, .inl (.int t)), (2, .inl (.int g)), (3, .inl (.int l))], [.inl (.ref q)], h, 0, 0)))
  refine g_getf HW rfl ok.1 hq_q rfl o1 ?_
  refine zrn_ok HW 1 (zB_iff.mpr (?_ : G (5, [(0, .inl (.ref q)), (1, .inl (.int t)), (2, .inl (.int g)), (3, .inl (.int l))], [.inl (.int t), .inl (.ref (q + 18))], h, 0, 0)))
  obtain ⟨x2, g2, e2, l2, u2⟩ := hi_val (i := (t).toInt.toNat) ok.1 o2 (by show _ < 8; omega) rfl
  have l2 : (0 : Int) ≤ x2.toInt := l2
  have u2 : x2.toInt ≤ (5 : Int) := u2
  refine g_iald HW rfl ok.1 o2 rfl (by omega) g2 ?_
  refine zrn_ok HW 2 (zbr_ex (cd := .eq) (x := x2) (y := (4 : Int32)) (fun hc3 => zB_iff.mpr ?_) (fun hc3 => zB_iff.mpr ?_))
  · -- pc 22
    have i3 : x2.toInt = (4 : Int) := zop_int.mp hc3
    refine zrn_ok HW 3 (zB_iff.mpr (?_ : G (25, [(0, .inl (.ref q)), (1, .inl (.int t)), (2, .inl (.int g)), (3, .inl (.int l))], [.inl (.ref q), .inl (.int (2 : Int32)), .inl (.int g)], h, 0, 0)))
    refine g_getf HW rfl ok.1 hq_q rfl p1 ?_
    refine zrn_ok HW 1 (zB_iff.mpr (?_ : G (29, [(0, .inl (.ref q)), (1, .inl (.int t)), (2, .inl (.int g)), (3, .inl (.int l))], [.inl (.int t), .inl (.ref (q + 20)), .inl (.int (2 : Int32)), .inl (.int g)], h, 0, 0)))
    obtain ⟨x5, g5, e5, l5, u5⟩ := hi_val (i := (t).toInt.toNat) ok.1 p2 (by show _ < 8; omega) rfl
    have l5 : (0 : Int) ≤ x5.toInt := l5
    have u5 : x5.toInt ≤ (9 : Int) := u5
    have d5 := t_dbl (x := x5) (by omega)
    refine g_iald HW rfl ok.1 p2 rfl (by omega) g5 ?_
    refine zrn_ok HW 2 (zbr_ex (cd := .lt) (x := g) (y := ((2 : Int32) * x5)) (fun hc6 => zB_iff.mpr ?_) (fun hc6 => zB_iff.mpr ?_))
    · -- pc 58
      have i6 : g.toInt < ((2 : Int32) * x5).toInt := zop_int.mp hc6
      refine zrn_ok HW 2 ?_
      exact zret_z rfl rfl (k0 (by omega))
    · -- pc 34
      have i6 : ¬ (g.toInt < ((2 : Int32) * x5).toInt) := fun e => hc6 (zop_int.mpr e)
      refine zrn_ok HW 1 (zB_iff.mpr (?_ : G (35, [(0, .inl (.ref q)), (1, .inl (.int t)), (2, .inl (.int g)), (3, .inl (.int l))], [.inl (.ref q)], h, 0, 0)))
      refine g_getf HW rfl ok.1 hq_q rfl o1 ?_
      refine zrn_ok HW 1 (zB_iff.mpr (?_ : G (39, [(0, .inl (.ref q)), (1, .inl (.int t)), (2, .inl (.int g)), (3, .inl (.int l))], [.inl (.int t), .inl (.ref (q + 18))], h, 0, 0)))
      obtain ⟨x8, g8, e8, l8, u8⟩ := hi_val (i := (t).toInt.toNat) ok.1 o2 (by show _ < 8; omega) rfl
      have l8 : (0 : Int) ≤ x8.toInt := l8
      have u8 : x8.toInt ≤ (5 : Int) := u8
      refine g_iald HW rfl ok.1 o2 rfl (by omega) g8 ?_
      refine zrn_ok HW 2 (zbr_ex (cd := .eq) (x := x8) (y := (4 : Int32)) (fun hc9 => zB_iff.mpr ?_) (fun hc9 => zB_iff.mpr ?_))
      · -- pc 54
        have i9 : x8.toInt = (4 : Int) := zop_int.mp hc9
        refine zrn_ok HW 3 ?_
        exact zret_z rfl rfl (k1 (by omega))
      · -- pc 44
        have i9 : ¬ (x8.toInt = (4 : Int)) := fun e => hc9 (zop_int.mpr e)
        refine zrn_ok HW 4 (zB_iff.mpr (?_ : G (48, [(0, .inl (.ref q)), (1, .inl (.int t)), (2, .inl (.int g)), (3, .inl (.int l))], [.inl (.ref q), .inl (.int ((2 : Int32) * l))], h, 0, 0)))
        obtain ⟨x10, g10, e10, l10, u10⟩ := hi_val (i := 9) ok.1 hq_q (by decide) rfl
        have l10 : (1 : Int) ≤ x10.toInt := l10
        have u10 : x10.toInt ≤ (60 : Int) := u10
        refine g_getf HW rfl ok.1 hq_q rfl g10 ?_
        refine zrn_ok HW 1 (zbr_ex (cd := .gt) (x := ((2 : Int32) * l)) (y := x10) (fun hc11 => zB_iff.mpr ?_) (fun hc11 => zB_iff.mpr ?_))
        · -- pc 58
          have i11 : ((2 : Int32) * l).toInt > x10.toInt := zop_int.mp hc11
          refine zrn_ok HW 2 ?_
          exact zret_z rfl rfl (k0 (by omega))
        · -- pc 54
          have i11 : ¬ (((2 : Int32) * l).toInt > x10.toInt) := fun e => hc11 (zop_int.mpr e)
          refine zrn_ok HW 3 ?_
          exact zret_z rfl rfl (k1 (by omega))
  · -- pc 10
    have i3 : ¬ (x2.toInt = (4 : Int)) := fun e => hc3 (zop_int.mpr e)
    refine zrn_ok HW 1 (zB_iff.mpr (?_ : G (11, [(0, .inl (.ref q)), (1, .inl (.int t)), (2, .inl (.int g)), (3, .inl (.int l))], [.inl (.ref q)], h, 0, 0)))
    refine g_getf HW rfl ok.1 hq_q rfl o1 ?_
    refine zrn_ok HW 1 (zB_iff.mpr (?_ : G (15, [(0, .inl (.ref q)), (1, .inl (.int t)), (2, .inl (.int g)), (3, .inl (.int l))], [.inl (.int t), .inl (.ref (q + 18))], h, 0, 0)))
    obtain ⟨x13, g13, e13, l13, u13⟩ := hi_val (i := (t).toInt.toNat) ok.1 o2 (by show _ < 8; omega) rfl
    have l13 : (0 : Int) ≤ x13.toInt := l13
    have u13 : x13.toInt ≤ (5 : Int) := u13
    refine g_iald HW rfl ok.1 o2 rfl (by omega) g13 ?_
    refine zrn_ok HW 2 (zbr_ex (cd := .eq) (x := x13) (y := (5 : Int32)) (fun hc14 => zB_iff.mpr ?_) (fun hc14 => zB_iff.mpr ?_))
    · -- pc 22
      have i14 : x13.toInt = (5 : Int) := zop_int.mp hc14
      refine zrn_ok HW 3 (zB_iff.mpr (?_ : G (25, [(0, .inl (.ref q)), (1, .inl (.int t)), (2, .inl (.int g)), (3, .inl (.int l))], [.inl (.ref q), .inl (.int (2 : Int32)), .inl (.int g)], h, 0, 0)))
      refine g_getf HW rfl ok.1 hq_q rfl p1 ?_
      refine zrn_ok HW 1 (zB_iff.mpr (?_ : G (29, [(0, .inl (.ref q)), (1, .inl (.int t)), (2, .inl (.int g)), (3, .inl (.int l))], [.inl (.int t), .inl (.ref (q + 20)), .inl (.int (2 : Int32)), .inl (.int g)], h, 0, 0)))
      obtain ⟨x16, g16, e16, l16, u16⟩ := hi_val (i := (t).toInt.toNat) ok.1 p2 (by show _ < 8; omega) rfl
      have l16 : (0 : Int) ≤ x16.toInt := l16
      have u16 : x16.toInt ≤ (9 : Int) := u16
      have d16 := t_dbl (x := x16) (by omega)
      refine g_iald HW rfl ok.1 p2 rfl (by omega) g16 ?_
      refine zrn_ok HW 2 (zbr_ex (cd := .lt) (x := g) (y := ((2 : Int32) * x16)) (fun hc17 => zB_iff.mpr ?_) (fun hc17 => zB_iff.mpr ?_))
      · -- pc 58
        have i17 : g.toInt < ((2 : Int32) * x16).toInt := zop_int.mp hc17
        refine zrn_ok HW 2 ?_
        exact zret_z rfl rfl (k0 (by omega))
      · -- pc 34
        have i17 : ¬ (g.toInt < ((2 : Int32) * x16).toInt) := fun e => hc17 (zop_int.mpr e)
        refine zrn_ok HW 1 (zB_iff.mpr (?_ : G (35, [(0, .inl (.ref q)), (1, .inl (.int t)), (2, .inl (.int g)), (3, .inl (.int l))], [.inl (.ref q)], h, 0, 0)))
        refine g_getf HW rfl ok.1 hq_q rfl o1 ?_
        refine zrn_ok HW 1 (zB_iff.mpr (?_ : G (39, [(0, .inl (.ref q)), (1, .inl (.int t)), (2, .inl (.int g)), (3, .inl (.int l))], [.inl (.int t), .inl (.ref (q + 18))], h, 0, 0)))
        obtain ⟨x19, g19, e19, l19, u19⟩ := hi_val (i := (t).toInt.toNat) ok.1 o2 (by show _ < 8; omega) rfl
        have l19 : (0 : Int) ≤ x19.toInt := l19
        have u19 : x19.toInt ≤ (5 : Int) := u19
        refine g_iald HW rfl ok.1 o2 rfl (by omega) g19 ?_
        refine zrn_ok HW 2 (zbr_ex (cd := .eq) (x := x19) (y := (4 : Int32)) (fun hc20 => zB_iff.mpr ?_) (fun hc20 => zB_iff.mpr ?_))
        · -- pc 54
          have i20 : x19.toInt = (4 : Int) := zop_int.mp hc20
          refine zrn_ok HW 3 ?_
          exact zret_z rfl rfl (k1 (by omega))
        · -- pc 44
          have i20 : ¬ (x19.toInt = (4 : Int)) := fun e => hc20 (zop_int.mpr e)
          refine zrn_ok HW 4 (zB_iff.mpr (?_ : G (48, [(0, .inl (.ref q)), (1, .inl (.int t)), (2, .inl (.int g)), (3, .inl (.int l))], [.inl (.ref q), .inl (.int ((2 : Int32) * l))], h, 0, 0)))
          obtain ⟨x21, g21, e21, l21, u21⟩ := hi_val (i := 9) ok.1 hq_q (by decide) rfl
          have l21 : (1 : Int) ≤ x21.toInt := l21
          have u21 : x21.toInt ≤ (60 : Int) := u21
          refine g_getf HW rfl ok.1 hq_q rfl g21 ?_
          refine zrn_ok HW 1 (zbr_ex (cd := .gt) (x := ((2 : Int32) * l)) (y := x21) (fun hc22 => zB_iff.mpr ?_) (fun hc22 => zB_iff.mpr ?_))
          · -- pc 58
            have i22 : ((2 : Int32) * l).toInt > x21.toInt := zop_int.mp hc22
            refine zrn_ok HW 2 ?_
            exact zret_z rfl rfl (k0 (by omega))
          · -- pc 54
            have i22 : ¬ (((2 : Int32) * l).toInt > x21.toInt) := fun e => hc22 (zop_int.mpr e)
            refine zrn_ok HW 3 ?_
            exact zret_z rfl rfl (k1 (by omega))
    · -- pc 20
      have i14 : ¬ (x13.toInt = (5 : Int)) := fun e => hc14 (zop_int.mpr e)
      refine zrn_ok HW 2 ?_
      exact zret_z rfl rfl (k1 (by omega))
theorem c_isFree6 {Φ : List Nat → zH → Prop} {N : Nat} {scr : List zV} {d : Nat} {T : List Nat} {h : zH} {q : Nat} {t g l : Int32} {post : Option zV → zH → Bool} (ok : wOK Φ N T h) (hq_q : T[q]? = some 6) (lay : pLay T h q) (ht : 0 ≤ t.toInt ∧ t.toInt < 8) (hl : 0 ≤ l.toInt ∧ l.toInt ≤ 60) (k1 : ((hi h (q + 18) t.toInt.toNat ≠ 4 ∧ hi h (q + 18) t.toInt.toNat ≠ 5) ∨ (2 * hi h (q + 20) t.toInt.toNat ≤ g.toInt ∧ (hi h (q + 18) t.toInt.toNat = 4 ∨ 2 * l.toInt ≤ hi h q 9))) → post (some (.inl (.int 1))) h = true) (k0 : ¬ ((hi h (q + 18) t.toInt.toNat ≠ 4 ∧ hi h (q + 18) t.toInt.toNat ≠ 5) ∨ (2 * hi h (q + 20) t.toInt.toNat ≤ g.toInt ∧ (hi h (q + 18) t.toInt.toNat = 4 ∨ 2 * l.toInt ≤ hi h q 9))) → post (some (.inl (.int 0))) h = true) : zD zprog scr (d + 1) 16 [.inl (.ref q), .inl (.int t), .inl (.int g), .inl (.int l)] h post = true := by
  refine zD_intro (E := ze_X5_isFree) rfl rfl (fun G HW => ?_)
  obtain ⟨o1, o2⟩ := lay.1 (18, 18, 32) (by decide +kernel)
  obtain ⟨p1, p2⟩ := lay.1 (20, 20, 34) (by decide +kernel)
  have o1 : hget h q 18 = some (.inl (.ref (q + 18))) := o1
  have o2 : T[q + 18]? = some 32 := o2
  have p1 : hget h q 20 = some (.inl (.ref (q + 20))) := p1
  have p2 : T[q + 20]? = some 34 := p2
  have dl := t_dbl (x := l) (by omega)
  refine zrn_ok HW 1 (zB_iff.mpr (?_ : G (1, [(0, .inl (.ref q)), (1, .inl (.int t)), (2, .inl (.int g)), (3, .inl (.int l))], [.inl (.ref q)], h, 0, 0)))
  refine g_getf HW rfl ok.1 hq_q rfl o1 ?_
  refine zrn_ok HW 1 (zB_iff.mpr (?_ : G (5, [(0, .inl (.ref q)), (1, .inl (.int t)), (2, .inl (.int g)), (3, .inl (.int l))], [.inl (.int t), .inl (.ref (q + 18))], h, 0, 0)))
  obtain ⟨x2, g2, e2, l2, u2⟩ := hi_val (i := (t).toInt.toNat) ok.1 o2 (by show _ < 8; omega) rfl
  have l2 : (0 : Int) ≤ x2.toInt := l2
  have u2 : x2.toInt ≤ (5 : Int) := u2
  refine g_iald HW rfl ok.1 o2 rfl (by omega) g2 ?_
  refine zrn_ok HW 2 (zbr_ex (cd := .eq) (x := x2) (y := (4 : Int32)) (fun hc3 => zB_iff.mpr ?_) (fun hc3 => zB_iff.mpr ?_))
  · -- pc 22
    have i3 : x2.toInt = (4 : Int) := zop_int.mp hc3
    refine zrn_ok HW 3 (zB_iff.mpr (?_ : G (25, [(0, .inl (.ref q)), (1, .inl (.int t)), (2, .inl (.int g)), (3, .inl (.int l))], [.inl (.ref q), .inl (.int (2 : Int32)), .inl (.int g)], h, 0, 0)))
    refine g_getf HW rfl ok.1 hq_q rfl p1 ?_
    refine zrn_ok HW 1 (zB_iff.mpr (?_ : G (29, [(0, .inl (.ref q)), (1, .inl (.int t)), (2, .inl (.int g)), (3, .inl (.int l))], [.inl (.int t), .inl (.ref (q + 20)), .inl (.int (2 : Int32)), .inl (.int g)], h, 0, 0)))
    obtain ⟨x5, g5, e5, l5, u5⟩ := hi_val (i := (t).toInt.toNat) ok.1 p2 (by show _ < 8; omega) rfl
    have l5 : (0 : Int) ≤ x5.toInt := l5
    have u5 : x5.toInt ≤ (9 : Int) := u5
    have d5 := t_dbl (x := x5) (by omega)
    refine g_iald HW rfl ok.1 p2 rfl (by omega) g5 ?_
    refine zrn_ok HW 2 (zbr_ex (cd := .lt) (x := g) (y := ((2 : Int32) * x5)) (fun hc6 => zB_iff.mpr ?_) (fun hc6 => zB_iff.mpr ?_))
    · -- pc 58
      have i6 : g.toInt < ((2 : Int32) * x5).toInt := zop_int.mp hc6
      refine zrn_ok HW 2 ?_
      exact zret_z rfl rfl (k0 (by omega))
    · -- pc 34
      have i6 : ¬ (g.toInt < ((2 : Int32) * x5).toInt) := fun e => hc6 (zop_int.mpr e)
      refine zrn_ok HW 1 (zB_iff.mpr (?_ : G (35, [(0, .inl (.ref q)), (1, .inl (.int t)), (2, .inl (.int g)), (3, .inl (.int l))], [.inl (.ref q)], h, 0, 0)))
      refine g_getf HW rfl ok.1 hq_q rfl o1 ?_
      refine zrn_ok HW 1 (zB_iff.mpr (?_ : G (39, [(0, .inl (.ref q)), (1, .inl (.int t)), (2, .inl (.int g)), (3, .inl (.int l))], [.inl (.int t), .inl (.ref (q + 18))], h, 0, 0)))
      obtain ⟨x8, g8, e8, l8, u8⟩ := hi_val (i := (t).toInt.toNat) ok.1 o2 (by show _ < 8; omega) rfl
      have l8 : (0 : Int) ≤ x8.toInt := l8
      have u8 : x8.toInt ≤ (5 : Int) := u8
      refine g_iald HW rfl ok.1 o2 rfl (by omega) g8 ?_
      refine zrn_ok HW 2 (zbr_ex (cd := .eq) (x := x8) (y := (4 : Int32)) (fun hc9 => zB_iff.mpr ?_) (fun hc9 => zB_iff.mpr ?_))
      · -- pc 54
        have i9 : x8.toInt = (4 : Int) := zop_int.mp hc9
        refine zrn_ok HW 3 ?_
        exact zret_z rfl rfl (k1 (by omega))
      · -- pc 44
        have i9 : ¬ (x8.toInt = (4 : Int)) := fun e => hc9 (zop_int.mpr e)
        refine zrn_ok HW 4 (zB_iff.mpr (?_ : G (48, [(0, .inl (.ref q)), (1, .inl (.int t)), (2, .inl (.int g)), (3, .inl (.int l))], [.inl (.ref q), .inl (.int ((2 : Int32) * l))], h, 0, 0)))
        obtain ⟨x10, g10, e10, l10, u10⟩ := hi_val (i := 9) ok.1 hq_q (by decide) rfl
        have l10 : (1 : Int) ≤ x10.toInt := l10
        have u10 : x10.toInt ≤ (60 : Int) := u10
        refine g_getf HW rfl ok.1 hq_q rfl g10 ?_
        refine zrn_ok HW 1 (zbr_ex (cd := .gt) (x := ((2 : Int32) * l)) (y := x10) (fun hc11 => zB_iff.mpr ?_) (fun hc11 => zB_iff.mpr ?_))
        · -- pc 58
          have i11 : ((2 : Int32) * l).toInt > x10.toInt := zop_int.mp hc11
          refine zrn_ok HW 2 ?_
          exact zret_z rfl rfl (k0 (by omega))
        · -- pc 54
          have i11 : ¬ (((2 : Int32) * l).toInt > x10.toInt) := fun e => hc11 (zop_int.mpr e)
          refine zrn_ok HW 3 ?_
          exact zret_z rfl rfl (k1 (by omega))
  · -- pc 10
    have i3 : ¬ (x2.toInt = (4 : Int)) := fun e => hc3 (zop_int.mpr e)
    refine zrn_ok HW 1 (zB_iff.mpr (?_ : G (11, [(0, .inl (.ref q)), (1, .inl (.int t)), (2, .inl (.int g)), (3, .inl (.int l))], [.inl (.ref q)], h, 0, 0)))
    refine g_getf HW rfl ok.1 hq_q rfl o1 ?_
    refine zrn_ok HW 1 (zB_iff.mpr (?_ : G (15, [(0, .inl (.ref q)), (1, .inl (.int t)), (2, .inl (.int g)), (3, .inl (.int l))], [.inl (.int t), .inl (.ref (q + 18))], h, 0, 0)))
    obtain ⟨x13, g13, e13, l13, u13⟩ := hi_val (i := (t).toInt.toNat) ok.1 o2 (by show _ < 8; omega) rfl
    have l13 : (0 : Int) ≤ x13.toInt := l13
    have u13 : x13.toInt ≤ (5 : Int) := u13
    refine g_iald HW rfl ok.1 o2 rfl (by omega) g13 ?_
    refine zrn_ok HW 2 (zbr_ex (cd := .eq) (x := x13) (y := (5 : Int32)) (fun hc14 => zB_iff.mpr ?_) (fun hc14 => zB_iff.mpr ?_))
    · -- pc 22
      have i14 : x13.toInt = (5 : Int) := zop_int.mp hc14
      refine zrn_ok HW 3 (zB_iff.mpr (?_ : G (25, [(0, .inl (.ref q)), (1, .inl (.int t)), (2, .inl (.int g)), (3, .inl (.int l))], [.inl (.ref q), .inl (.int (2 : Int32)), .inl (.int g)], h, 0, 0)))
      refine g_getf HW rfl ok.1 hq_q rfl p1 ?_
      refine zrn_ok HW 1 (zB_iff.mpr (?_ : G (29, [(0, .inl (.ref q)), (1, .inl (.int t)), (2, .inl (.int g)), (3, .inl (.int l))], [.inl (.int t), .inl (.ref (q + 20)), .inl (.int (2 : Int32)), .inl (.int g)], h, 0, 0)))
      obtain ⟨x16, g16, e16, l16, u16⟩ := hi_val (i := (t).toInt.toNat) ok.1 p2 (by show _ < 8; omega) rfl
      have l16 : (0 : Int) ≤ x16.toInt := l16
      have u16 : x16.toInt ≤ (9 : Int) := u16
      have d16 := t_dbl (x := x16) (by omega)
      refine g_iald HW rfl ok.1 p2 rfl (by omega) g16 ?_
      refine zrn_ok HW 2 (zbr_ex (cd := .lt) (x := g) (y := ((2 : Int32) * x16)) (fun hc17 => zB_iff.mpr ?_) (fun hc17 => zB_iff.mpr ?_))
      · -- pc 58
        have i17 : g.toInt < ((2 : Int32) * x16).toInt := zop_int.mp hc17
        refine zrn_ok HW 2 ?_
        exact zret_z rfl rfl (k0 (by omega))
      · -- pc 34
        have i17 : ¬ (g.toInt < ((2 : Int32) * x16).toInt) := fun e => hc17 (zop_int.mpr e)
        refine zrn_ok HW 1 (zB_iff.mpr (?_ : G (35, [(0, .inl (.ref q)), (1, .inl (.int t)), (2, .inl (.int g)), (3, .inl (.int l))], [.inl (.ref q)], h, 0, 0)))
        refine g_getf HW rfl ok.1 hq_q rfl o1 ?_
        refine zrn_ok HW 1 (zB_iff.mpr (?_ : G (39, [(0, .inl (.ref q)), (1, .inl (.int t)), (2, .inl (.int g)), (3, .inl (.int l))], [.inl (.int t), .inl (.ref (q + 18))], h, 0, 0)))
        obtain ⟨x19, g19, e19, l19, u19⟩ := hi_val (i := (t).toInt.toNat) ok.1 o2 (by show _ < 8; omega) rfl
        have l19 : (0 : Int) ≤ x19.toInt := l19
        have u19 : x19.toInt ≤ (5 : Int) := u19
        refine g_iald HW rfl ok.1 o2 rfl (by omega) g19 ?_
        refine zrn_ok HW 2 (zbr_ex (cd := .eq) (x := x19) (y := (4 : Int32)) (fun hc20 => zB_iff.mpr ?_) (fun hc20 => zB_iff.mpr ?_))
        · -- pc 54
          have i20 : x19.toInt = (4 : Int) := zop_int.mp hc20
          refine zrn_ok HW 3 ?_
          exact zret_z rfl rfl (k1 (by omega))
        · -- pc 44
          have i20 : ¬ (x19.toInt = (4 : Int)) := fun e => hc20 (zop_int.mpr e)
          refine zrn_ok HW 4 (zB_iff.mpr (?_ : G (48, [(0, .inl (.ref q)), (1, .inl (.int t)), (2, .inl (.int g)), (3, .inl (.int l))], [.inl (.ref q), .inl (.int ((2 : Int32) * l))], h, 0, 0)))
          obtain ⟨x21, g21, e21, l21, u21⟩ := hi_val (i := 9) ok.1 hq_q (by decide) rfl
          have l21 : (1 : Int) ≤ x21.toInt := l21
          have u21 : x21.toInt ≤ (60 : Int) := u21
          refine g_getf HW rfl ok.1 hq_q rfl g21 ?_
          refine zrn_ok HW 1 (zbr_ex (cd := .gt) (x := ((2 : Int32) * l)) (y := x21) (fun hc22 => zB_iff.mpr ?_) (fun hc22 => zB_iff.mpr ?_))
          · -- pc 58
            have i22 : ((2 : Int32) * l).toInt > x21.toInt := zop_int.mp hc22
            refine zrn_ok HW 2 ?_
            exact zret_z rfl rfl (k0 (by omega))
          · -- pc 54
            have i22 : ¬ (((2 : Int32) * l).toInt > x21.toInt) := fun e => hc22 (zop_int.mpr e)
            refine zrn_ok HW 3 ?_
            exact zret_z rfl rfl (k1 (by omega))
    · -- pc 20
      have i14 : ¬ (x13.toInt = (5 : Int)) := fun e => hc14 (zop_int.mpr e)
      refine zrn_ok HW 2 ?_
      exact zret_z rfl rfl (k1 (by omega))
