theorem c_isLetter {scr : List zV} {d : Nat} {x : Int32} {h : zH} {post : Option zV → zH → Bool} (k1 : (97 ≤ x.toInt ∧ x.toInt ≤ 122) → post (some (.inl (.int 1))) h = true) (k0 : ¬ ((97 ≤ x.toInt ∧ x.toInt ≤ 122)) → post (some (.inl (.int 0))) h = true) : zD zprog scr (d + 1) 17 [.inl (.int x)] h post = true := by
  refine zD_intro (E := ze_X5_isLetter) rfl rfl (fun G HW => ?_)
  refine zrn_ok HW 3 (zbr_ex (cd := .lt) (x := x) (y := (97 : Int32)) (fun hc1 => zB_iff.mpr ?_) (fun hc1 => zB_iff.mpr ?_))
  · -- pc 16
    have i1 : x.toInt < (97 : Int) := zop_int.mp hc1
    refine zrn_ok HW 2 ?_
    exact zret_z rfl rfl (k0 (by omega))
  · -- pc 6
    have i1 : ¬ (x.toInt < (97 : Int)) := fun e => hc1 (zop_int.mpr e)
    refine zrn_ok HW 3 (zbr_ex (cd := .gt) (x := x) (y := (122 : Int32)) (fun hc2 => zB_iff.mpr ?_) (fun hc2 => zB_iff.mpr ?_))
    · -- pc 16
      have i2 : x.toInt > (122 : Int) := zop_int.mp hc2
      refine zrn_ok HW 2 ?_
      exact zret_z rfl rfl (k0 (by omega))
    · -- pc 12
      have i2 : ¬ (x.toInt > (122 : Int)) := fun e => hc2 (zop_int.mpr e)
      refine zrn_ok HW 3 ?_
      exact zret_z rfl rfl (k1 (by omega))
theorem c_isDigit {scr : List zV} {d : Nat} {x : Int32} {h : zH} {post : Option zV → zH → Bool} (k1 : (48 ≤ x.toInt ∧ x.toInt ≤ 57) → post (some (.inl (.int 1))) h = true) (k0 : ¬ ((48 ≤ x.toInt ∧ x.toInt ≤ 57)) → post (some (.inl (.int 0))) h = true) : zD zprog scr (d + 1) 15 [.inl (.int x)] h post = true := by
  refine zD_intro (E := ze_X5_isDigit) rfl rfl (fun G HW => ?_)
  refine zrn_ok HW 3 (zbr_ex (cd := .lt) (x := x) (y := (48 : Int32)) (fun hc1 => zB_iff.mpr ?_) (fun hc1 => zB_iff.mpr ?_))
  · -- pc 16
    have i1 : x.toInt < (48 : Int) := zop_int.mp hc1
    refine zrn_ok HW 2 ?_
    exact zret_z rfl rfl (k0 (by omega))
  · -- pc 6
    have i1 : ¬ (x.toInt < (48 : Int)) := fun e => hc1 (zop_int.mpr e)
    refine zrn_ok HW 3 (zbr_ex (cd := .gt) (x := x) (y := (57 : Int32)) (fun hc2 => zB_iff.mpr ?_) (fun hc2 => zB_iff.mpr ?_))
    · -- pc 16
      have i2 : x.toInt > (57 : Int) := zop_int.mp hc2
      refine zrn_ok HW 2 ?_
      exact zret_z rfl rfl (k0 (by omega))
    · -- pc 12
      have i2 : ¬ (x.toInt > (57 : Int)) := fun e => hc2 (zop_int.mpr e)
      refine zrn_ok HW 3 ?_
      exact zret_z rfl rfl (k1 (by omega))
/-- a look writes where it stands and what it sees -/
def lFr (h h' : zH) : Prop := ∀ p i : Nat, p ≠ 49 ∨ (i ≠ 28 ∧ i ≠ 29 ∧ i ≠ 30 ∧ i ≠ 31 ∧ i ≠ 32) → hget h' p i = hget h p i
theorem lFr_put {h h' : zH} {i : Nat} {v : zV} (f : lFr h h') (hi : i = 28 ∨ i = 29 ∨ i = 30 ∨ i = 31 ∨ i = 32) : lFr h (hput h' 49 i v) := fun p j hp => by
  rw [hget_put_ne (by omega)]
  exact f p j hp
theorem lFr_hi {h h' : zH} (f : lFr h h') {p i : Nat} (hp : p ≠ 49 ∨ (i ≠ 28 ∧ i ≠ 29 ∧ i ≠ 30 ∧ i ≠ 31 ∧ i ≠ 32)) : hi h' p i = hi h p i := hi_eq (f p i hp)
theorem c_look {n m : Int} {v : Bool} {μ : Int} {N : Nat} {scr : List zV} {d : Nat} {T : List Nat} {h : zH} {post : Option zV → zH → Bool} (ok0 : wOK (zPhi (n, m, some μ, v)) N T h) (kk : ∀ h' : zH, wOK (zPhi (n, m, some (hi h 49 28), v)) N T h' → (hi h' 49 29 = 0 ∨ hi h 49 28 + 1 ≤ hi h' 49 28) → lFr h h' → post none h' = true) : zD zprog scr (d + 2) 198 [.inl (.ref 49)] h post = true := by
  obtain ⟨a, ea⟩ : ∃ a : Int, hi h 49 28 = a := ⟨_, rfl⟩
  rw [ea] at kk
  have hq_q := ok0.2.1.1.2.2.1
  have hst := p_stab (n, m, some a, v)
  have ok : wOK (zPhi (n, m, some a, v)) N T h := by
    obtain ⟨c1, ⟨p1, p2, p3, p4, p5, p6, p7⟩, c3⟩ := ok0
    exact ⟨c1, ⟨p1, p2, p3, p4, p5, fun ν hν => by cases hν; have := p6 μ rfl; exact ⟨by omega, this.2⟩, p7⟩, c3⟩
  refine zD_intro (E := ze_X5_look) rfl rfl (fun G HW => ?_)
  have loop2 : ∀ (k : Nat) (hl : zH), wOK (zPhi (n, m, some a, v)) N T hl → lFr h hl → (a + 1 ≤ hi hl 49 28 ∨ (hi hl 49 28 < m ∧ 97 ≤ hi hl 64 (hi hl 49 28).toNat ∧ hi hl 64 (hi hl 49 28).toNat ≤ 122)) → 250 - hi hl 49 28 < (k : Int) → G (90, [(0, .inl (.ref 49))], [], hl, 0, 0) := by
    intro k
    induction k with
    | zero =>
      intro hl okl fr y0 hm
      exfalso
      obtain ⟨x, g, e, l, u⟩ := hi_val (i := 28) okl.1 hq_q (by decide) rfl
      have u : x.toInt ≤ (250 : Int) := u
      omega
    | succ k ih =>
      intro hl okl fr y0 hm
      have R : a ≤ hi hl 49 28 ∧ hi hl 49 28 ≤ m := okl.2.1.2.2.2.2.2.1 a rfl
      have M : hi hl 49 7 = m := okl.2.1.2.2.2.1
      refine zrn_ok HW 1 (zB_iff.mpr (?_ : G (91, [(0, .inl (.ref 49))], [.inl (.ref 49)], hl, 0, 0)))
      obtain ⟨x1, g1, e1, l1, u1⟩ := hi_val (i := 28) okl.1 hq_q (by decide) rfl
      have l1 : (0 : Int) ≤ x1.toInt := l1
      have u1 : x1.toInt ≤ (250 : Int) := u1
      refine g_getf HW rfl okl.1 hq_q rfl g1 ?_
      refine zrn_ok HW 1 (zB_iff.mpr (?_ : G (95, [(0, .inl (.ref 49))], [.inl (.ref 49), .inl (.int x1)], hl, 0, 0)))
      obtain ⟨x2, g2, e2, l2, u2⟩ := hi_val (i := 7) okl.1 hq_q (by decide) rfl
      have l2 : (0 : Int) ≤ x2.toInt := l2
      have u2 : x2.toInt ≤ (250 : Int) := u2
      refine g_getf HW rfl okl.1 hq_q rfl g2 ?_
      refine zrn_ok HW 1 (zbr_ex (cd := .ge) (x := x1) (y := x2) (fun hc3 => zB_iff.mpr ?_) (fun hc3 => zB_iff.mpr ?_))
      · -- pc 263
        have i3 : x1.toInt ≥ x2.toInt := zop_int.mp hc3
        refine zrn_ok HW 1 ?_
        have y1 := y0
        rw [show hi hl 49 28 = x1.toInt from e1] at y1
        exact zret_v rfl (kk hl okl (Or.inr (by omega)) fr)
      · -- pc 101
        have i3 : ¬ (x1.toInt ≥ x2.toInt) := fun e => hc3 (zop_int.mpr e)
        refine zrn_ok HW 1 (zB_iff.mpr (?_ : G (102, [(0, .inl (.ref 49))], [.inl (.ref 49)], hl, 0, 0)))
        have o5 : hget hl 49 6 = some (.inl (.ref 64)) := ((okl.2.1.2.1 49 5 hq_q (Or.inl rfl)).1.1 (6, 15, 18) (by decide +kernel)).1
        have t5 : T[64]? = some 18 := ((okl.2.1.2.1 49 5 hq_q (Or.inl rfl)).1.1 (6, 15, 18) (by decide +kernel)).2
        refine g_getf HW rfl okl.1 hq_q rfl o5 ?_
        refine zrn_ok HW 1 (zB_iff.mpr (?_ : G (106, [(0, .inl (.ref 49))], [.inl (.ref 49), .inl (.ref 64)], hl, 0, 0)))
        obtain ⟨x6, g6, e6, l6, u6⟩ := hi_val (i := 28) okl.1 hq_q (by decide) rfl
        have l6 : (0 : Int) ≤ x6.toInt := l6
        have u6 : x6.toInt ≤ (250 : Int) := u6
        refine g_getf HW rfl okl.1 hq_q rfl g6 ?_
        obtain ⟨x7, g7, e7, l7, u7⟩ := hi_val (i := (x6).toInt.toNat) okl.1 t5 (by show _ < 250; omega) rfl
        have l7 : (0 : Int) ≤ x7.toInt := l7
        have u7 : x7.toInt ≤ (255 : Int) := u7
        refine g_iald HW rfl okl.1 t5 rfl (by omega) g7 ?_
        refine g_callS (b := 0) (E' := ze_X5_isLetter) HW (Or.inl rfl) rfl rfl (Nat.le_of_ble_eq_true rfl) (Nat.le_of_ble_eq_true rfl) (Nat.le_of_ble_eq_true rfl) (Nat.le_of_ble_eq_true rfl) (c_isLetter (fun a8 => zB_iff.mpr ?_) (fun n8 => zB_iff.mpr ?_))
        · show G (113, [(0, .inl (.ref 49))], [.inl (.int (1 : Int32))], hl, 0, 0)
          have c08 := a8
          refine zrn_ok HW 3 (zB_iff.mpr (?_ : G (118, [(0, .inl (.ref 49))], [.inl (.ref 49), .inl (.ref 49)], hl, 0, 0)))
          obtain ⟨x9, g9, e9, l9, u9⟩ := hi_val (i := 28) okl.1 hq_q (by decide) rfl
          have l9 : (0 : Int) ≤ x9.toInt := l9
          have u9 : x9.toInt ≤ (250 : Int) := u9
          refine g_getf HW rfl okl.1 hq_q rfl g9 ?_
          have y10 : -2147483648 ≤ x9.toInt + (1 : Int) → x9.toInt + (1 : Int) ≤ 2147483647 → (x9 + (1 : Int32)).toInt = x9.toInt + (1 : Int) := t_addC (x := x9) (y := (1 : Int32))
          refine zrn_ok HW 2 (zB_iff.mpr (?_ : G (123, [(0, .inl (.ref 49))], [.inl (.int (x9 + (1 : Int32))), .inl (.ref 49)], hl, 0, 0)))
          have ok11 : wOK (zPhi (n, m, some a, v)) N T (hput hl 49 28 (.inl (.int (x9 + (1 : Int32))))) := ⟨hOK_put okl.1 hq_q ⟨_, rfl, (by show (0 : Int) ≤ _; omega), (by show _ ≤ (250 : Int); omega)⟩, p_put28 okl.1 (fun ν hν => by cases hν; exact ⟨by omega, by omega⟩) okl.2.1, by rw [hput_len]; exact okl.2.2⟩
          refine g_putf HW rfl okl.1 hq_q rfl (by decide) rfl ?_
          refine zrn_ok HW 1 (zB_iff.mpr (?_ : G (90, [(0, .inl (.ref 49))], [], (hput hl 49 28 (.inl (.int (x9 + (1 : Int32))))), 0, 0)))
          have ez : hi (hput hl 49 28 (.inl (.int (x9 + (1 : Int32))))) 49 28 = (x9 + (1 : Int32)).toInt := hi_put g9
          exact ih _ ok11 (lFr_put fr (by decide)) (Or.inl (by omega)) (by omega)
        · show G (113, [(0, .inl (.ref 49))], [.inl (.int (0 : Int32))], hl, 0, 0)
          have c08 := n8
          refine zrn_ok HW 2 ?_
          have y1 := y0
          rw [show hi hl 49 28 = x6.toInt from e6] at y1
          exact zret_v rfl (kk hl okl (Or.inr (by omega)) fr)
  have loop3 : ∀ (k : Nat) (hl : zH), wOK (zPhi (n, m, some a, v)) N T hl → lFr h hl → (a + 1 ≤ hi hl 49 28 ∨ (hi hl 49 28 < m ∧ 48 ≤ hi hl 64 (hi hl 49 28).toNat ∧ hi hl 64 (hi hl 49 28).toNat ≤ 57)) → 250 - hi hl 49 28 < (k : Int) → G (149, [(0, .inl (.ref 49))], [], hl, 0, 0) := by
    intro k
    induction k with
    | zero =>
      intro hl okl fr y0 hm
      exfalso
      obtain ⟨x, g, e, l, u⟩ := hi_val (i := 28) okl.1 hq_q (by decide) rfl
      have u : x.toInt ≤ (250 : Int) := u
      omega
    | succ k ih =>
      intro hl okl fr y0 hm
      have R : a ≤ hi hl 49 28 ∧ hi hl 49 28 ≤ m := okl.2.1.2.2.2.2.2.1 a rfl
      have M : hi hl 49 7 = m := okl.2.1.2.2.2.1
      refine zrn_ok HW 1 (zB_iff.mpr (?_ : G (150, [(0, .inl (.ref 49))], [.inl (.ref 49)], hl, 0, 0)))
      obtain ⟨x1, g1, e1, l1, u1⟩ := hi_val (i := 28) okl.1 hq_q (by decide) rfl
      have l1 : (0 : Int) ≤ x1.toInt := l1
      have u1 : x1.toInt ≤ (250 : Int) := u1
      refine g_getf HW rfl okl.1 hq_q rfl g1 ?_
      refine zrn_ok HW 1 (zB_iff.mpr (?_ : G (154, [(0, .inl (.ref 49))], [.inl (.ref 49), .inl (.int x1)], hl, 0, 0)))
      obtain ⟨x2, g2, e2, l2, u2⟩ := hi_val (i := 7) okl.1 hq_q (by decide) rfl
      have l2 : (0 : Int) ≤ x2.toInt := l2
      have u2 : x2.toInt ≤ (250 : Int) := u2
      refine g_getf HW rfl okl.1 hq_q rfl g2 ?_
      refine zrn_ok HW 1 (zbr_ex (cd := .ge) (x := x1) (y := x2) (fun hc3 => zB_iff.mpr ?_) (fun hc3 => zB_iff.mpr ?_))
      · -- pc 263
        have i3 : x1.toInt ≥ x2.toInt := zop_int.mp hc3
        refine zrn_ok HW 1 ?_
        have y1 := y0
        rw [show hi hl 49 28 = x1.toInt from e1] at y1
        exact zret_v rfl (kk hl okl (Or.inr (by omega)) fr)
      · -- pc 160
        have i3 : ¬ (x1.toInt ≥ x2.toInt) := fun e => hc3 (zop_int.mpr e)
        refine zrn_ok HW 1 (zB_iff.mpr (?_ : G (161, [(0, .inl (.ref 49))], [.inl (.ref 49)], hl, 0, 0)))
        have o5 : hget hl 49 6 = some (.inl (.ref 64)) := ((okl.2.1.2.1 49 5 hq_q (Or.inl rfl)).1.1 (6, 15, 18) (by decide +kernel)).1
        have t5 : T[64]? = some 18 := ((okl.2.1.2.1 49 5 hq_q (Or.inl rfl)).1.1 (6, 15, 18) (by decide +kernel)).2
        refine g_getf HW rfl okl.1 hq_q rfl o5 ?_
        refine zrn_ok HW 1 (zB_iff.mpr (?_ : G (165, [(0, .inl (.ref 49))], [.inl (.ref 49), .inl (.ref 64)], hl, 0, 0)))
        obtain ⟨x6, g6, e6, l6, u6⟩ := hi_val (i := 28) okl.1 hq_q (by decide) rfl
        have l6 : (0 : Int) ≤ x6.toInt := l6
        have u6 : x6.toInt ≤ (250 : Int) := u6
        refine g_getf HW rfl okl.1 hq_q rfl g6 ?_
        obtain ⟨x7, g7, e7, l7, u7⟩ := hi_val (i := (x6).toInt.toNat) okl.1 t5 (by show _ < 250; omega) rfl
        have l7 : (0 : Int) ≤ x7.toInt := l7
        have u7 : x7.toInt ≤ (255 : Int) := u7
        refine g_iald HW rfl okl.1 t5 rfl (by omega) g7 ?_
        refine g_callS (b := 0) (E' := ze_X5_isDigit) HW (Or.inl rfl) rfl rfl (Nat.le_of_ble_eq_true rfl) (Nat.le_of_ble_eq_true rfl) (Nat.le_of_ble_eq_true rfl) (Nat.le_of_ble_eq_true rfl) (c_isDigit (fun a8 => zB_iff.mpr ?_) (fun n8 => zB_iff.mpr ?_))
        · show G (172, [(0, .inl (.ref 49))], [.inl (.int (1 : Int32))], hl, 0, 0)
          have c08 := a8
          refine zrn_ok HW 3 (zB_iff.mpr (?_ : G (177, [(0, .inl (.ref 49))], [.inl (.ref 49), .inl (.ref 49)], hl, 0, 0)))
          obtain ⟨x9, g9, e9, l9, u9⟩ := hi_val (i := 28) okl.1 hq_q (by decide) rfl
          have l9 : (0 : Int) ≤ x9.toInt := l9
          have u9 : x9.toInt ≤ (250 : Int) := u9
          refine g_getf HW rfl okl.1 hq_q rfl g9 ?_
          refine zrn_ok HW 1 (zB_iff.mpr (?_ : G (181, [(0, .inl (.ref 49))], [.inl (.ref 49), .inl (.int x9), .inl (.ref 49)], hl, 0, 0)))
          obtain ⟨x10, g10, e10, l10, u10⟩ := hi_val (i := 30) okl.1 hq_q (by decide) rfl
          have l10 : (0 : Int) ≤ x10.toInt := l10
          have u10 : x10.toInt ≤ (250 : Int) := u10
          refine g_getf HW rfl okl.1 hq_q rfl g10 ?_
          have y11 : -2147483648 ≤ x9.toInt - x10.toInt → x9.toInt - x10.toInt ≤ 2147483647 → (x9 - x10).toInt = x9.toInt - x10.toInt := t_subC (x := x9) (y := x10)
          refine zrn_ok HW 3 (zbr_ex (cd := .ge) (x := (x9 - x10)) (y := (4 : Int32)) (fun hc12 => zB_iff.mpr ?_) (fun hc12 => zB_iff.mpr ?_))
          · -- pc 212
            have i12 : (x9 - x10).toInt ≥ (4 : Int) := zop_int.mp hc12
            refine zrn_ok HW 1 (zB_iff.mpr (?_ : G (214, [(0, .inl (.ref 49))], [.inl (.int (100000 : Int32)), .inl (.ref 49)], hl, 0, 0)))
            have ok13 : wOK (zPhi (n, m, some a, v)) N T (hput hl 49 31 (.inl (.int (100000 : Int32)))) := wOK_put hst okl hq_q rfl ⟨_, rfl, (by show ((-2147483648) : Int) ≤ Int32.toInt (100000 : Int32); decide), (by show Int32.toInt (100000 : Int32) ≤ (2147483647 : Int); decide)⟩
            refine g_putf HW rfl okl.1 hq_q rfl (by decide) rfl ?_
            have R14 : hi (hput hl 49 31 (.inl (.int (100000 : Int32)))) 49 28 = hi hl 49 28 ∧ hi (hput hl 49 31 (.inl (.int (100000 : Int32)))) 49 7 = hi hl 49 7 := ⟨by rw [hi_put_ne (Or.inr (by decide))], by rw [hi_put_ne (Or.inr (by decide))]⟩
            refine zrn_ok HW 2 (zB_iff.mpr (?_ : G (219, [(0, .inl (.ref 49))], [.inl (.ref 49), .inl (.ref 49)], (hput hl 49 31 (.inl (.int (100000 : Int32)))), 0, 0)))
            obtain ⟨x15, g15, e15, l15, u15⟩ := hi_val (i := 28) ok13.1 hq_q (by decide) rfl
            have l15 : (0 : Int) ≤ x15.toInt := l15
            have u15 : x15.toInt ≤ (250 : Int) := u15
            refine g_getf HW rfl ok13.1 hq_q rfl g15 ?_
            have y16 : -2147483648 ≤ x15.toInt + (1 : Int) → x15.toInt + (1 : Int) ≤ 2147483647 → (x15 + (1 : Int32)).toInt = x15.toInt + (1 : Int) := t_addC (x := x15) (y := (1 : Int32))
            refine zrn_ok HW 2 (zB_iff.mpr (?_ : G (224, [(0, .inl (.ref 49))], [.inl (.int (x15 + (1 : Int32))), .inl (.ref 49)], (hput hl 49 31 (.inl (.int (100000 : Int32)))), 0, 0)))
            have ok17 : wOK (zPhi (n, m, some a, v)) N T (hput (hput hl 49 31 (.inl (.int (100000 : Int32)))) 49 28 (.inl (.int (x15 + (1 : Int32))))) := ⟨hOK_put ok13.1 hq_q ⟨_, rfl, (by show (0 : Int) ≤ _; omega), (by show _ ≤ (250 : Int); omega)⟩, p_put28 ok13.1 (fun ν hν => by cases hν; exact ⟨by omega, by omega⟩) ok13.2.1, by rw [hput_len]; exact ok13.2.2⟩
            refine g_putf HW rfl ok13.1 hq_q rfl (by decide) rfl ?_
            refine zrn_ok HW 1 (zB_iff.mpr (?_ : G (149, [(0, .inl (.ref 49))], [], (hput (hput hl 49 31 (.inl (.int (100000 : Int32)))) 49 28 (.inl (.int (x15 + (1 : Int32))))), 0, 0)))
            have ez : hi (hput (hput hl 49 31 (.inl (.int (100000 : Int32)))) 49 28 (.inl (.int (x15 + (1 : Int32))))) 49 28 = (x15 + (1 : Int32)).toInt := hi_put g15
            exact ih _ ok17 (lFr_put (lFr_put fr (by decide)) (by decide)) (Or.inl (by omega)) (by omega)
          · -- pc 189
            have i12 : ¬ ((x9 - x10).toInt ≥ (4 : Int)) := fun e => hc12 (zop_int.mpr e)
            refine zrn_ok HW 1 (zB_iff.mpr (?_ : G (190, [(0, .inl (.ref 49))], [.inl (.ref 49), .inl (.ref 49)], hl, 0, 0)))
            obtain ⟨x18, g18, e18, l18, u18⟩ := hi_val (i := 31) okl.1 hq_q (by decide) rfl
            have l18 : ((-2147483648) : Int) ≤ x18.toInt := l18
            have u18 : x18.toInt ≤ (2147483647 : Int) := u18
            refine g_getf HW rfl okl.1 hq_q rfl g18 ?_
            refine zrn_ok HW 3 (zB_iff.mpr (?_ : G (197, [(0, .inl (.ref 49))], [.inl (.ref 49), .inl (.int (x18 * (10 : Int32))), .inl (.ref 49)], hl, 0, 0)))
            have o20 : hget hl 49 6 = some (.inl (.ref 64)) := ((okl.2.1.2.1 49 5 hq_q (Or.inl rfl)).1.1 (6, 15, 18) (by decide +kernel)).1
            have t20 : T[64]? = some 18 := ((okl.2.1.2.1 49 5 hq_q (Or.inl rfl)).1.1 (6, 15, 18) (by decide +kernel)).2
            refine g_getf HW rfl okl.1 hq_q rfl o20 ?_
            refine zrn_ok HW 1 (zB_iff.mpr (?_ : G (201, [(0, .inl (.ref 49))], [.inl (.ref 49), .inl (.ref 64), .inl (.int (x18 * (10 : Int32))), .inl (.ref 49)], hl, 0, 0)))
            obtain ⟨x21, g21, e21, l21, u21⟩ := hi_val (i := 28) okl.1 hq_q (by decide) rfl
            have l21 : (0 : Int) ≤ x21.toInt := l21
            have u21 : x21.toInt ≤ (250 : Int) := u21
            refine g_getf HW rfl okl.1 hq_q rfl g21 ?_
            obtain ⟨x22, g22, e22, l22, u22⟩ := hi_val (i := (x21).toInt.toNat) okl.1 t20 (by show _ < 250; omega) rfl
            have l22 : (0 : Int) ≤ x22.toInt := l22
            have u22 : x22.toInt ≤ (255 : Int) := u22
            refine g_iald HW rfl okl.1 t20 rfl (by omega) g22 ?_
            have y23 : -2147483648 ≤ (x18 * (10 : Int32)).toInt + x22.toInt → (x18 * (10 : Int32)).toInt + x22.toInt ≤ 2147483647 → ((x18 * (10 : Int32)) + x22).toInt = (x18 * (10 : Int32)).toInt + x22.toInt := t_addC (x := (x18 * (10 : Int32))) (y := x22)
            have y24 : -2147483648 ≤ ((x18 * (10 : Int32)) + x22).toInt - (48 : Int) → ((x18 * (10 : Int32)) + x22).toInt - (48 : Int) ≤ 2147483647 → (((x18 * (10 : Int32)) + x22) - (48 : Int32)).toInt = ((x18 * (10 : Int32)) + x22).toInt - (48 : Int) := t_subC (x := ((x18 * (10 : Int32)) + x22)) (y := (48 : Int32))
            refine zrn_ok HW 4 (zB_iff.mpr (?_ : G (214, [(0, .inl (.ref 49))], [.inl (.int (((x18 * (10 : Int32)) + x22) - (48 : Int32))), .inl (.ref 49)], hl, 0, 0)))
            have ok25 : wOK (zPhi (n, m, some a, v)) N T (hput hl 49 31 (.inl (.int (((x18 * (10 : Int32)) + x22) - (48 : Int32))))) := wOK_put hst okl hq_q rfl ⟨_, rfl, t_lo _, t_hi _⟩
            refine g_putf HW rfl okl.1 hq_q rfl (by decide) rfl ?_
            have R26 : hi (hput hl 49 31 (.inl (.int (((x18 * (10 : Int32)) + x22) - (48 : Int32))))) 49 28 = hi hl 49 28 ∧ hi (hput hl 49 31 (.inl (.int (((x18 * (10 : Int32)) + x22) - (48 : Int32))))) 49 7 = hi hl 49 7 := ⟨by rw [hi_put_ne (Or.inr (by decide))], by rw [hi_put_ne (Or.inr (by decide))]⟩
            refine zrn_ok HW 2 (zB_iff.mpr (?_ : G (219, [(0, .inl (.ref 49))], [.inl (.ref 49), .inl (.ref 49)], (hput hl 49 31 (.inl (.int (((x18 * (10 : Int32)) + x22) - (48 : Int32))))), 0, 0)))
            obtain ⟨x27, g27, e27, l27, u27⟩ := hi_val (i := 28) ok25.1 hq_q (by decide) rfl
            have l27 : (0 : Int) ≤ x27.toInt := l27
            have u27 : x27.toInt ≤ (250 : Int) := u27
            refine g_getf HW rfl ok25.1 hq_q rfl g27 ?_
            have y28 : -2147483648 ≤ x27.toInt + (1 : Int) → x27.toInt + (1 : Int) ≤ 2147483647 → (x27 + (1 : Int32)).toInt = x27.toInt + (1 : Int) := t_addC (x := x27) (y := (1 : Int32))
            refine zrn_ok HW 2 (zB_iff.mpr (?_ : G (224, [(0, .inl (.ref 49))], [.inl (.int (x27 + (1 : Int32))), .inl (.ref 49)], (hput hl 49 31 (.inl (.int (((x18 * (10 : Int32)) + x22) - (48 : Int32))))), 0, 0)))
            have ok29 : wOK (zPhi (n, m, some a, v)) N T (hput (hput hl 49 31 (.inl (.int (((x18 * (10 : Int32)) + x22) - (48 : Int32))))) 49 28 (.inl (.int (x27 + (1 : Int32))))) := ⟨hOK_put ok25.1 hq_q ⟨_, rfl, (by show (0 : Int) ≤ _; omega), (by show _ ≤ (250 : Int); omega)⟩, p_put28 ok25.1 (fun ν hν => by cases hν; exact ⟨by omega, by omega⟩) ok25.2.1, by rw [hput_len]; exact ok25.2.2⟩
            refine g_putf HW rfl ok25.1 hq_q rfl (by decide) rfl ?_
            refine zrn_ok HW 1 (zB_iff.mpr (?_ : G (149, [(0, .inl (.ref 49))], [], (hput (hput hl 49 31 (.inl (.int (((x18 * (10 : Int32)) + x22) - (48 : Int32))))) 49 28 (.inl (.int (x27 + (1 : Int32))))), 0, 0)))
            have ez : hi (hput (hput hl 49 31 (.inl (.int (((x18 * (10 : Int32)) + x22) - (48 : Int32))))) 49 28 (.inl (.int (x27 + (1 : Int32))))) 49 28 = (x27 + (1 : Int32)).toInt := hi_put g27
            exact ih _ ok29 (lFr_put (lFr_put fr (by decide)) (by decide)) (Or.inl (by omega)) (by omega)
        · show G (172, [(0, .inl (.ref 49))], [.inl (.int (0 : Int32))], hl, 0, 0)
          have c08 := n8
          refine zrn_ok HW 2 ?_
          have y1 := y0
          rw [show hi hl 49 28 = x6.toInt from e6] at y1
          exact zret_v rfl (kk hl okl (Or.inr (by omega)) fr)
  have at38 : ∀ hl : zH, wOK (zPhi (n, m, some a, v)) N T hl → lFr h hl → G (38, [(0, .inl (.ref 49))], [], hl, 0, 0) := by
    intro hl okl fr
    have R : a ≤ hi hl 49 28 ∧ hi hl 49 28 ≤ m := okl.2.1.2.2.2.2.2.1 a rfl
    have M : hi hl 49 7 = m := okl.2.1.2.2.2.1
    refine zrn_ok HW 2 (zB_iff.mpr (?_ : G (40, [(0, .inl (.ref 49))], [.inl (.ref 49), .inl (.ref 49)], hl, 0, 0)))
    obtain ⟨x1, g1, e1, l1, u1⟩ := hi_val (i := 28) okl.1 hq_q (by decide) rfl
    have l1 : (0 : Int) ≤ x1.toInt := l1
    have u1 : x1.toInt ≤ (250 : Int) := u1
    refine g_getf HW rfl okl.1 hq_q rfl g1 ?_
    have ok2 : wOK (zPhi (n, m, some a, v)) N T (hput hl 49 30 (.inl (.int x1))) := wOK_put hst okl hq_q rfl ⟨_, rfl, (by show (0 : Int) ≤ _; omega), (by show _ ≤ (250 : Int); omega)⟩
    refine g_putf HW rfl okl.1 hq_q rfl (by decide) rfl ?_
    refine zrn_ok HW 2 (zB_iff.mpr (?_ : G (48, [(0, .inl (.ref 49))], [.inl (.int (0 : Int32)), .inl (.ref 49)], (hput hl 49 30 (.inl (.int x1))), 0, 0)))
    have ok3 : wOK (zPhi (n, m, some a, v)) N T (hput (hput hl 49 30 (.inl (.int x1))) 49 31 (.inl (.int (0 : Int32)))) := wOK_put hst ok2 hq_q rfl ⟨_, rfl, (by show ((-2147483648) : Int) ≤ Int32.toInt (0 : Int32); decide), (by show Int32.toInt (0 : Int32) ≤ (2147483647 : Int); decide)⟩
    refine g_putf HW rfl ok2.1 hq_q rfl (by decide) rfl ?_
    have R4 : hi (hput (hput hl 49 30 (.inl (.int x1))) 49 31 (.inl (.int (0 : Int32)))) 49 28 = hi hl 49 28 ∧ hi (hput (hput hl 49 30 (.inl (.int x1))) 49 31 (.inl (.int (0 : Int32)))) 49 7 = hi hl 49 7 := ⟨by rw [hi_put_ne (Or.inr (by decide)), hi_put_ne (Or.inr (by decide))], by rw [hi_put_ne (Or.inr (by decide)), hi_put_ne (Or.inr (by decide))]⟩
    refine zrn_ok HW 1 (zB_iff.mpr (?_ : G (52, [(0, .inl (.ref 49))], [.inl (.ref 49)], (hput (hput hl 49 30 (.inl (.int x1))) 49 31 (.inl (.int (0 : Int32)))), 0, 0)))
    obtain ⟨x5, g5, e5, l5, u5⟩ := hi_val (i := 28) ok3.1 hq_q (by decide) rfl
    have l5 : (0 : Int) ≤ x5.toInt := l5
    have u5 : x5.toInt ≤ (250 : Int) := u5
    refine g_getf HW rfl ok3.1 hq_q rfl g5 ?_
    refine zrn_ok HW 1 (zB_iff.mpr (?_ : G (56, [(0, .inl (.ref 49))], [.inl (.ref 49), .inl (.int x5)], (hput (hput hl 49 30 (.inl (.int x1))) 49 31 (.inl (.int (0 : Int32)))), 0, 0)))
    obtain ⟨x6, g6, e6, l6, u6⟩ := hi_val (i := 7) ok3.1 hq_q (by decide) rfl
    have l6 : (0 : Int) ≤ x6.toInt := l6
    have u6 : x6.toInt ≤ (250 : Int) := u6
    refine g_getf HW rfl ok3.1 hq_q rfl g6 ?_
    refine zrn_ok HW 1 (zbr_ex (cd := .ne) (x := x5) (y := x6) (fun hc7 => zB_iff.mpr ?_) (fun hc7 => zB_iff.mpr ?_))
    · -- pc 70
      have i7 : ¬ x5.toInt = x6.toInt := zop_int.mp hc7
      refine zrn_ok HW 1 (zB_iff.mpr (?_ : G (71, [(0, .inl (.ref 49))], [.inl (.ref 49)], (hput (hput hl 49 30 (.inl (.int x1))) 49 31 (.inl (.int (0 : Int32)))), 0, 0)))
      have o9 : hget (hput (hput hl 49 30 (.inl (.int x1))) 49 31 (.inl (.int (0 : Int32)))) 49 6 = some (.inl (.ref 64)) := ((ok3.2.1.2.1 49 5 hq_q (Or.inl rfl)).1.1 (6, 15, 18) (by decide +kernel)).1
      have t9 : T[64]? = some 18 := ((ok3.2.1.2.1 49 5 hq_q (Or.inl rfl)).1.1 (6, 15, 18) (by decide +kernel)).2
      refine g_getf HW rfl ok3.1 hq_q rfl o9 ?_
      refine zrn_ok HW 1 (zB_iff.mpr (?_ : G (75, [(0, .inl (.ref 49))], [.inl (.ref 49), .inl (.ref 64)], (hput (hput hl 49 30 (.inl (.int x1))) 49 31 (.inl (.int (0 : Int32)))), 0, 0)))
      obtain ⟨x10, g10, e10, l10, u10⟩ := hi_val (i := 28) ok3.1 hq_q (by decide) rfl
      have l10 : (0 : Int) ≤ x10.toInt := l10
      have u10 : x10.toInt ≤ (250 : Int) := u10
      refine g_getf HW rfl ok3.1 hq_q rfl g10 ?_
      obtain ⟨x11, g11, e11, l11, u11⟩ := hi_val (i := (x10).toInt.toNat) ok3.1 t9 (by show _ < 250; omega) rfl
      have l11 : (0 : Int) ≤ x11.toInt := l11
      have u11 : x11.toInt ≤ (255 : Int) := u11
      refine g_iald HW rfl ok3.1 t9 rfl (by omega) g11 ?_
      refine g_callS (b := 0) (E' := ze_X5_isLetter) HW (Or.inl rfl) rfl rfl (Nat.le_of_ble_eq_true rfl) (Nat.le_of_ble_eq_true rfl) (Nat.le_of_ble_eq_true rfl) (Nat.le_of_ble_eq_true rfl) (c_isLetter (fun a12 => zB_iff.mpr ?_) (fun n12 => zB_iff.mpr ?_))
      · show G (82, [(0, .inl (.ref 49))], [.inl (.int (1 : Int32))], (hput (hput hl 49 30 (.inl (.int x1))) 49 31 (.inl (.int (0 : Int32)))), 0, 0)
        have c012 := a12
        refine zrn_ok HW 3 (zB_iff.mpr (?_ : G (87, [(0, .inl (.ref 49))], [.inl (.int (1 : Int32)), .inl (.ref 49)], (hput (hput hl 49 30 (.inl (.int x1))) 49 31 (.inl (.int (0 : Int32)))), 0, 0)))
        have ok13 : wOK (zPhi (n, m, some a, v)) N T (hput (hput (hput hl 49 30 (.inl (.int x1))) 49 31 (.inl (.int (0 : Int32)))) 49 29 (.inl (.int (1 : Int32)))) := wOK_put hst ok3 hq_q rfl ⟨_, rfl, (by show (0 : Int) ≤ Int32.toInt (1 : Int32); decide), (by show Int32.toInt (1 : Int32) ≤ (4 : Int); decide)⟩
        refine g_putf HW rfl ok3.1 hq_q rfl (by decide) rfl ?_
        have z28 : hi (hput (hput (hput hl 49 30 (.inl (.int x1))) 49 31 (.inl (.int (0 : Int32)))) 49 29 (.inl (.int (1 : Int32)))) 49 28 = hi hl 49 28 := by rw [hi_put_ne (Or.inr (by decide)), hi_put_ne (Or.inr (by decide)), hi_put_ne (Or.inr (by decide))]
        have w28 : hi hl 49 28 = x10.toInt := by rw [← e10, hi_put_ne (Or.inr (by decide)), hi_put_ne (Or.inr (by decide))]
        have z64 : ∀ i, hi (hput (hput (hput hl 49 30 (.inl (.int x1))) 49 31 (.inl (.int (0 : Int32)))) 49 29 (.inl (.int (1 : Int32)))) 64 i = hi hl 64 i := fun i => by rw [hi_put_ne (Or.inl (by decide)), hi_put_ne (Or.inl (by decide)), hi_put_ne (Or.inl (by decide))]
        have w64 : hi hl 64 x10.toInt.toNat = x11.toInt := by rw [← e11, hi_put_ne (Or.inl (by decide)), hi_put_ne (Or.inl (by decide))]
        refine loop2 251 _ ok13 (lFr_put (lFr_put (lFr_put fr (by decide)) (by decide)) (by decide)) (Or.inr ⟨by omega, ?_, ?_⟩) (by omega)
        · rw [z28, z64, w28, w64]
          omega
        · rw [z28, z64, w28, w64]
          omega
      · show G (82, [(0, .inl (.ref 49))], [.inl (.int (0 : Int32))], (hput (hput hl 49 30 (.inl (.int x1))) 49 31 (.inl (.int (0 : Int32)))), 0, 0)
        have c012 := n12
        refine zrn_ok HW 2 (zB_iff.mpr (?_ : G (130, [(0, .inl (.ref 49))], [.inl (.ref 49)], (hput (hput hl 49 30 (.inl (.int x1))) 49 31 (.inl (.int (0 : Int32)))), 0, 0)))
        have o15 : hget (hput (hput hl 49 30 (.inl (.int x1))) 49 31 (.inl (.int (0 : Int32)))) 49 6 = some (.inl (.ref 64)) := ((ok3.2.1.2.1 49 5 hq_q (Or.inl rfl)).1.1 (6, 15, 18) (by decide +kernel)).1
        have t15 : T[64]? = some 18 := ((ok3.2.1.2.1 49 5 hq_q (Or.inl rfl)).1.1 (6, 15, 18) (by decide +kernel)).2
        refine g_getf HW rfl ok3.1 hq_q rfl o15 ?_
        refine zrn_ok HW 1 (zB_iff.mpr (?_ : G (134, [(0, .inl (.ref 49))], [.inl (.ref 49), .inl (.ref 64)], (hput (hput hl 49 30 (.inl (.int x1))) 49 31 (.inl (.int (0 : Int32)))), 0, 0)))
        obtain ⟨x16, g16, e16, l16, u16⟩ := hi_val (i := 28) ok3.1 hq_q (by decide) rfl
        have l16 : (0 : Int) ≤ x16.toInt := l16
        have u16 : x16.toInt ≤ (250 : Int) := u16
        refine g_getf HW rfl ok3.1 hq_q rfl g16 ?_
        obtain ⟨x17, g17, e17, l17, u17⟩ := hi_val (i := (x16).toInt.toNat) ok3.1 t15 (by show _ < 250; omega) rfl
        have l17 : (0 : Int) ≤ x17.toInt := l17
        have u17 : x17.toInt ≤ (255 : Int) := u17
        refine g_iald HW rfl ok3.1 t15 rfl (by omega) g17 ?_
        refine g_callS (b := 0) (E' := ze_X5_isDigit) HW (Or.inl rfl) rfl rfl (Nat.le_of_ble_eq_true rfl) (Nat.le_of_ble_eq_true rfl) (Nat.le_of_ble_eq_true rfl) (Nat.le_of_ble_eq_true rfl) (c_isDigit (fun a18 => zB_iff.mpr ?_) (fun n18 => zB_iff.mpr ?_))
        · show G (141, [(0, .inl (.ref 49))], [.inl (.int (1 : Int32))], (hput (hput hl 49 30 (.inl (.int x1))) 49 31 (.inl (.int (0 : Int32)))), 0, 0)
          have c018 := a18
          refine zrn_ok HW 3 (zB_iff.mpr (?_ : G (146, [(0, .inl (.ref 49))], [.inl (.int (2 : Int32)), .inl (.ref 49)], (hput (hput hl 49 30 (.inl (.int x1))) 49 31 (.inl (.int (0 : Int32)))), 0, 0)))
          have ok19 : wOK (zPhi (n, m, some a, v)) N T (hput (hput (hput hl 49 30 (.inl (.int x1))) 49 31 (.inl (.int (0 : Int32)))) 49 29 (.inl (.int (2 : Int32)))) := wOK_put hst ok3 hq_q rfl ⟨_, rfl, (by show (0 : Int) ≤ Int32.toInt (2 : Int32); decide), (by show Int32.toInt (2 : Int32) ≤ (4 : Int); decide)⟩
          refine g_putf HW rfl ok3.1 hq_q rfl (by decide) rfl ?_
          have z28 : hi (hput (hput (hput hl 49 30 (.inl (.int x1))) 49 31 (.inl (.int (0 : Int32)))) 49 29 (.inl (.int (2 : Int32)))) 49 28 = hi hl 49 28 := by rw [hi_put_ne (Or.inr (by decide)), hi_put_ne (Or.inr (by decide)), hi_put_ne (Or.inr (by decide))]
          have w28 : hi hl 49 28 = x16.toInt := by rw [← e16, hi_put_ne (Or.inr (by decide)), hi_put_ne (Or.inr (by decide))]
          have z64 : ∀ i, hi (hput (hput (hput hl 49 30 (.inl (.int x1))) 49 31 (.inl (.int (0 : Int32)))) 49 29 (.inl (.int (2 : Int32)))) 64 i = hi hl 64 i := fun i => by rw [hi_put_ne (Or.inl (by decide)), hi_put_ne (Or.inl (by decide)), hi_put_ne (Or.inl (by decide))]
          have w64 : hi hl 64 x16.toInt.toNat = x17.toInt := by rw [← e17, hi_put_ne (Or.inl (by decide)), hi_put_ne (Or.inl (by decide))]
          refine loop3 251 _ ok19 (lFr_put (lFr_put (lFr_put fr (by decide)) (by decide)) (by decide)) (Or.inr ⟨by omega, ?_, ?_⟩) (by omega)
          · rw [z28, z64, w28, w64]
            omega
          · rw [z28, z64, w28, w64]
            omega
        · show G (141, [(0, .inl (.ref 49))], [.inl (.int (0 : Int32))], (hput (hput hl 49 30 (.inl (.int x1))) 49 31 (.inl (.int (0 : Int32)))), 0, 0)
          have c018 := n18
          refine zrn_ok HW 3 (zB_iff.mpr (?_ : G (232, [(0, .inl (.ref 49))], [.inl (.ref 49), .inl (.ref 49)], (hput (hput hl 49 30 (.inl (.int x1))) 49 31 (.inl (.int (0 : Int32)))), 0, 0)))
          have o21 : hget (hput (hput hl 49 30 (.inl (.int x1))) 49 31 (.inl (.int (0 : Int32)))) 49 6 = some (.inl (.ref 64)) := ((ok3.2.1.2.1 49 5 hq_q (Or.inl rfl)).1.1 (6, 15, 18) (by decide +kernel)).1
          have t21 : T[64]? = some 18 := ((ok3.2.1.2.1 49 5 hq_q (Or.inl rfl)).1.1 (6, 15, 18) (by decide +kernel)).2
          refine g_getf HW rfl ok3.1 hq_q rfl o21 ?_
          refine zrn_ok HW 1 (zB_iff.mpr (?_ : G (236, [(0, .inl (.ref 49))], [.inl (.ref 49), .inl (.ref 64), .inl (.ref 49)], (hput (hput hl 49 30 (.inl (.int x1))) 49 31 (.inl (.int (0 : Int32)))), 0, 0)))
          obtain ⟨x22, g22, e22, l22, u22⟩ := hi_val (i := 28) ok3.1 hq_q (by decide) rfl
          have l22 : (0 : Int) ≤ x22.toInt := l22
          have u22 : x22.toInt ≤ (250 : Int) := u22
          refine g_getf HW rfl ok3.1 hq_q rfl g22 ?_
          obtain ⟨x23, g23, e23, l23, u23⟩ := hi_val (i := (x22).toInt.toNat) ok3.1 t21 (by show _ < 250; omega) rfl
          have l23 : (0 : Int) ≤ x23.toInt := l23
          have u23 : x23.toInt ≤ (255 : Int) := u23
          refine g_iald HW rfl ok3.1 t21 rfl (by omega) g23 ?_
          refine zrn_ok HW 2 (zbr_ex (cd := .ne) (x := x23) (y := (59 : Int32)) (fun hc24 => zB_iff.mpr ?_) (fun hc24 => zB_iff.mpr ?_))
          · -- pc 249
            have i24 : ¬ x23.toInt = (59 : Int) := zop_int.mp hc24
            refine zrn_ok HW 1 (zB_iff.mpr (?_ : G (250, [(0, .inl (.ref 49))], [.inl (.int (4 : Int32)), .inl (.ref 49)], (hput (hput hl 49 30 (.inl (.int x1))) 49 31 (.inl (.int (0 : Int32)))), 0, 0)))
            have ok25 : wOK (zPhi (n, m, some a, v)) N T (hput (hput (hput hl 49 30 (.inl (.int x1))) 49 31 (.inl (.int (0 : Int32)))) 49 29 (.inl (.int (4 : Int32)))) := wOK_put hst ok3 hq_q rfl ⟨_, rfl, (by show (0 : Int) ≤ Int32.toInt (4 : Int32); decide), (by show Int32.toInt (4 : Int32) ≤ (4 : Int); decide)⟩
            refine g_putf HW rfl ok3.1 hq_q rfl (by decide) rfl ?_
            have R26 : hi (hput (hput (hput hl 49 30 (.inl (.int x1))) 49 31 (.inl (.int (0 : Int32)))) 49 29 (.inl (.int (4 : Int32)))) 49 28 = hi hl 49 28 ∧ hi (hput (hput (hput hl 49 30 (.inl (.int x1))) 49 31 (.inl (.int (0 : Int32)))) 49 29 (.inl (.int (4 : Int32)))) 49 7 = hi hl 49 7 := ⟨by rw [hi_put_ne (Or.inr (by decide)), hi_put_ne (Or.inr (by decide)), hi_put_ne (Or.inr (by decide))], by rw [hi_put_ne (Or.inr (by decide)), hi_put_ne (Or.inr (by decide)), hi_put_ne (Or.inr (by decide))]⟩
            refine zrn_ok HW 2 (zB_iff.mpr (?_ : G (255, [(0, .inl (.ref 49))], [.inl (.ref 49), .inl (.ref 49)], (hput (hput (hput hl 49 30 (.inl (.int x1))) 49 31 (.inl (.int (0 : Int32)))) 49 29 (.inl (.int (4 : Int32)))), 0, 0)))
            obtain ⟨x27, g27, e27, l27, u27⟩ := hi_val (i := 28) ok25.1 hq_q (by decide) rfl
            have l27 : (0 : Int) ≤ x27.toInt := l27
            have u27 : x27.toInt ≤ (250 : Int) := u27
            refine g_getf HW rfl ok25.1 hq_q rfl g27 ?_
            have y28 : -2147483648 ≤ x27.toInt + (1 : Int) → x27.toInt + (1 : Int) ≤ 2147483647 → (x27 + (1 : Int32)).toInt = x27.toInt + (1 : Int) := t_addC (x := x27) (y := (1 : Int32))
            refine zrn_ok HW 2 (zB_iff.mpr (?_ : G (260, [(0, .inl (.ref 49))], [.inl (.int (x27 + (1 : Int32))), .inl (.ref 49)], (hput (hput (hput hl 49 30 (.inl (.int x1))) 49 31 (.inl (.int (0 : Int32)))) 49 29 (.inl (.int (4 : Int32)))), 0, 0)))
            have ok29 : wOK (zPhi (n, m, some a, v)) N T (hput (hput (hput (hput hl 49 30 (.inl (.int x1))) 49 31 (.inl (.int (0 : Int32)))) 49 29 (.inl (.int (4 : Int32)))) 49 28 (.inl (.int (x27 + (1 : Int32))))) := ⟨hOK_put ok25.1 hq_q ⟨_, rfl, (by show (0 : Int) ≤ _; omega), (by show _ ≤ (250 : Int); omega)⟩, p_put28 ok25.1 (fun ν hν => by cases hν; exact ⟨by omega, by omega⟩) ok25.2.1, by rw [hput_len]; exact ok25.2.2⟩
            refine g_putf HW rfl ok25.1 hq_q rfl (by decide) rfl ?_
            refine zrn_ok HW 1 ?_
            have ez : hi (hput (hput (hput (hput hl 49 30 (.inl (.int x1))) 49 31 (.inl (.int (0 : Int32)))) 49 29 (.inl (.int (4 : Int32)))) 49 28 (.inl (.int (x27 + (1 : Int32))))) 49 28 = (x27 + (1 : Int32)).toInt := hi_put g27
            have z28 : hi hl 49 28 = x27.toInt := by rw [← e27, hi_put_ne (Or.inr (by decide)), hi_put_ne (Or.inr (by decide)), hi_put_ne (Or.inr (by decide))]
            exact zret_v rfl (kk (hput (hput (hput (hput hl 49 30 (.inl (.int x1))) 49 31 (.inl (.int (0 : Int32)))) 49 29 (.inl (.int (4 : Int32)))) 49 28 (.inl (.int (x27 + (1 : Int32))))) ok29 (Or.inr (by omega)) (lFr_put (lFr_put (lFr_put (lFr_put fr (by decide)) (by decide)) (by decide)) (by decide)))
          · -- pc 245
            have i24 : ¬ (¬ x23.toInt = (59 : Int)) := fun e => hc24 (zop_int.mpr e)
            refine zrn_ok HW 2 (zB_iff.mpr (?_ : G (250, [(0, .inl (.ref 49))], [.inl (.int (3 : Int32)), .inl (.ref 49)], (hput (hput hl 49 30 (.inl (.int x1))) 49 31 (.inl (.int (0 : Int32)))), 0, 0)))
            have ok30 : wOK (zPhi (n, m, some a, v)) N T (hput (hput (hput hl 49 30 (.inl (.int x1))) 49 31 (.inl (.int (0 : Int32)))) 49 29 (.inl (.int (3 : Int32)))) := wOK_put hst ok3 hq_q rfl ⟨_, rfl, (by show (0 : Int) ≤ Int32.toInt (3 : Int32); decide), (by show Int32.toInt (3 : Int32) ≤ (4 : Int); decide)⟩
            refine g_putf HW rfl ok3.1 hq_q rfl (by decide) rfl ?_
            have R31 : hi (hput (hput (hput hl 49 30 (.inl (.int x1))) 49 31 (.inl (.int (0 : Int32)))) 49 29 (.inl (.int (3 : Int32)))) 49 28 = hi hl 49 28 ∧ hi (hput (hput (hput hl 49 30 (.inl (.int x1))) 49 31 (.inl (.int (0 : Int32)))) 49 29 (.inl (.int (3 : Int32)))) 49 7 = hi hl 49 7 := ⟨by rw [hi_put_ne (Or.inr (by decide)), hi_put_ne (Or.inr (by decide)), hi_put_ne (Or.inr (by decide))], by rw [hi_put_ne (Or.inr (by decide)), hi_put_ne (Or.inr (by decide)), hi_put_ne (Or.inr (by decide))]⟩
            refine zrn_ok HW 2 (zB_iff.mpr (?_ : G (255, [(0, .inl (.ref 49))], [.inl (.ref 49), .inl (.ref 49)], (hput (hput (hput hl 49 30 (.inl (.int x1))) 49 31 (.inl (.int (0 : Int32)))) 49 29 (.inl (.int (3 : Int32)))), 0, 0)))
            obtain ⟨x32, g32, e32, l32, u32⟩ := hi_val (i := 28) ok30.1 hq_q (by decide) rfl
            have l32 : (0 : Int) ≤ x32.toInt := l32
            have u32 : x32.toInt ≤ (250 : Int) := u32
            refine g_getf HW rfl ok30.1 hq_q rfl g32 ?_
            have y33 : -2147483648 ≤ x32.toInt + (1 : Int) → x32.toInt + (1 : Int) ≤ 2147483647 → (x32 + (1 : Int32)).toInt = x32.toInt + (1 : Int) := t_addC (x := x32) (y := (1 : Int32))
            refine zrn_ok HW 2 (zB_iff.mpr (?_ : G (260, [(0, .inl (.ref 49))], [.inl (.int (x32 + (1 : Int32))), .inl (.ref 49)], (hput (hput (hput hl 49 30 (.inl (.int x1))) 49 31 (.inl (.int (0 : Int32)))) 49 29 (.inl (.int (3 : Int32)))), 0, 0)))
            have ok34 : wOK (zPhi (n, m, some a, v)) N T (hput (hput (hput (hput hl 49 30 (.inl (.int x1))) 49 31 (.inl (.int (0 : Int32)))) 49 29 (.inl (.int (3 : Int32)))) 49 28 (.inl (.int (x32 + (1 : Int32))))) := ⟨hOK_put ok30.1 hq_q ⟨_, rfl, (by show (0 : Int) ≤ _; omega), (by show _ ≤ (250 : Int); omega)⟩, p_put28 ok30.1 (fun ν hν => by cases hν; exact ⟨by omega, by omega⟩) ok30.2.1, by rw [hput_len]; exact ok30.2.2⟩
            refine g_putf HW rfl ok30.1 hq_q rfl (by decide) rfl ?_
            refine zrn_ok HW 1 ?_
            have ez : hi (hput (hput (hput (hput hl 49 30 (.inl (.int x1))) 49 31 (.inl (.int (0 : Int32)))) 49 29 (.inl (.int (3 : Int32)))) 49 28 (.inl (.int (x32 + (1 : Int32))))) 49 28 = (x32 + (1 : Int32)).toInt := hi_put g32
            have z28 : hi hl 49 28 = x32.toInt := by rw [← e32, hi_put_ne (Or.inr (by decide)), hi_put_ne (Or.inr (by decide)), hi_put_ne (Or.inr (by decide))]
            exact zret_v rfl (kk (hput (hput (hput (hput hl 49 30 (.inl (.int x1))) 49 31 (.inl (.int (0 : Int32)))) 49 29 (.inl (.int (3 : Int32)))) 49 28 (.inl (.int (x32 + (1 : Int32))))) ok34 (Or.inr (by omega)) (lFr_put (lFr_put (lFr_put (lFr_put fr (by decide)) (by decide)) (by decide)) (by decide)))
    · -- pc 62
      have i7 : ¬ (¬ x5.toInt = x6.toInt) := fun e => hc7 (zop_int.mpr e)
      refine zrn_ok HW 2 (zB_iff.mpr (?_ : G (64, [(0, .inl (.ref 49))], [.inl (.int (0 : Int32)), .inl (.ref 49)], (hput (hput hl 49 30 (.inl (.int x1))) 49 31 (.inl (.int (0 : Int32)))), 0, 0)))
      have ok35 : wOK (zPhi (n, m, some a, v)) N T (hput (hput (hput hl 49 30 (.inl (.int x1))) 49 31 (.inl (.int (0 : Int32)))) 49 29 (.inl (.int (0 : Int32)))) := wOK_put hst ok3 hq_q rfl ⟨_, rfl, (by show (0 : Int) ≤ Int32.toInt (0 : Int32); decide), (by show Int32.toInt (0 : Int32) ≤ (4 : Int); decide)⟩
      refine g_putf HW rfl ok3.1 hq_q rfl (by decide) rfl ?_
      refine zrn_ok HW 2 ?_
      obtain ⟨w9, hw9, -⟩ := hOK_get (i := 29) okl.1 hq_q (by decide)
      have e0 := hi_put (h := (hput (hput hl 49 30 (.inl (.int x1))) 49 31 (.inl (.int (0 : Int32))))) (q := 49) (i := 29) (x := 0) ((hget_put_ne (Or.inr (by decide))).trans ((hget_put_ne (Or.inr (by decide))).trans hw9))
      exact zret_v rfl (kk (hput (hput (hput hl 49 30 (.inl (.int x1))) 49 31 (.inl (.int (0 : Int32)))) 49 29 (.inl (.int (0 : Int32)))) ok35 (Or.inl e0) (lFr_put (lFr_put (lFr_put fr (by decide)) (by decide)) (by decide)))
  have loop1 : ∀ (k : Nat) (hl : zH), wOK (zPhi (n, m, some a, v)) N T hl → lFr h hl → 250 - hi hl 49 28 < (k : Int) → G (0, [(0, .inl (.ref 49))], [], hl, 0, 0) := by
    intro k
    induction k with
    | zero =>
      intro hl okl fr hm
      exfalso
      obtain ⟨x, g, e, l, u⟩ := hi_val (i := 28) okl.1 hq_q (by decide) rfl
      have u : x.toInt ≤ (250 : Int) := u
      omega
    | succ k ih =>
      intro hl okl fr hm
      have R : a ≤ hi hl 49 28 ∧ hi hl 49 28 ≤ m := okl.2.1.2.2.2.2.2.1 a rfl
      have M : hi hl 49 7 = m := okl.2.1.2.2.2.1
      refine zrn_ok HW 1 (zB_iff.mpr (?_ : G (1, [(0, .inl (.ref 49))], [.inl (.ref 49)], hl, 0, 0)))
      obtain ⟨x1, g1, e1, l1, u1⟩ := hi_val (i := 28) okl.1 hq_q (by decide) rfl
      have l1 : (0 : Int) ≤ x1.toInt := l1
      have u1 : x1.toInt ≤ (250 : Int) := u1
      refine g_getf HW rfl okl.1 hq_q rfl g1 ?_
      refine zrn_ok HW 1 (zB_iff.mpr (?_ : G (5, [(0, .inl (.ref 49))], [.inl (.ref 49), .inl (.int x1)], hl, 0, 0)))
      obtain ⟨x2, g2, e2, l2, u2⟩ := hi_val (i := 7) okl.1 hq_q (by decide) rfl
      have l2 : (0 : Int) ≤ x2.toInt := l2
      have u2 : x2.toInt ≤ (250 : Int) := u2
      refine g_getf HW rfl okl.1 hq_q rfl g2 ?_
      refine zrn_ok HW 1 (zbr_ex (cd := .ge) (x := x1) (y := x2) (fun hc3 => zB_iff.mpr ?_) (fun hc3 => zB_iff.mpr ?_))
      · -- pc 38
        have i3 : x1.toInt ≥ x2.toInt := zop_int.mp hc3
        exact at38 _ okl fr
      · -- pc 11
        have i3 : ¬ (x1.toInt ≥ x2.toInt) := fun e => hc3 (zop_int.mpr e)
        refine zrn_ok HW 1 (zB_iff.mpr (?_ : G (12, [(0, .inl (.ref 49))], [.inl (.ref 49)], hl, 0, 0)))
        have o5 : hget hl 49 6 = some (.inl (.ref 64)) := ((okl.2.1.2.1 49 5 hq_q (Or.inl rfl)).1.1 (6, 15, 18) (by decide +kernel)).1
        have t5 : T[64]? = some 18 := ((okl.2.1.2.1 49 5 hq_q (Or.inl rfl)).1.1 (6, 15, 18) (by decide +kernel)).2
        refine g_getf HW rfl okl.1 hq_q rfl o5 ?_
        refine zrn_ok HW 1 (zB_iff.mpr (?_ : G (16, [(0, .inl (.ref 49))], [.inl (.ref 49), .inl (.ref 64)], hl, 0, 0)))
        obtain ⟨x6, g6, e6, l6, u6⟩ := hi_val (i := 28) okl.1 hq_q (by decide) rfl
        have l6 : (0 : Int) ≤ x6.toInt := l6
        have u6 : x6.toInt ≤ (250 : Int) := u6
        refine g_getf HW rfl okl.1 hq_q rfl g6 ?_
        obtain ⟨x7, g7, e7, l7, u7⟩ := hi_val (i := (x6).toInt.toNat) okl.1 t5 (by show _ < 250; omega) rfl
        have l7 : (0 : Int) ≤ x7.toInt := l7
        have u7 : x7.toInt ≤ (255 : Int) := u7
        refine g_iald HW rfl okl.1 t5 rfl (by omega) g7 ?_
        refine zrn_ok HW 2 (zbr_ex (cd := .ne) (x := x7) (y := (32 : Int32)) (fun hc8 => zB_iff.mpr ?_) (fun hc8 => zB_iff.mpr ?_))
        · -- pc 38
          have i8 : ¬ x7.toInt = (32 : Int) := zop_int.mp hc8
          exact at38 _ okl fr
        · -- pc 25
          have i8 : ¬ (¬ x7.toInt = (32 : Int)) := fun e => hc8 (zop_int.mpr e)
          refine zrn_ok HW 2 (zB_iff.mpr (?_ : G (27, [(0, .inl (.ref 49))], [.inl (.ref 49), .inl (.ref 49)], hl, 0, 0)))
          obtain ⟨x9, g9, e9, l9, u9⟩ := hi_val (i := 28) okl.1 hq_q (by decide) rfl
          have l9 : (0 : Int) ≤ x9.toInt := l9
          have u9 : x9.toInt ≤ (250 : Int) := u9
          refine g_getf HW rfl okl.1 hq_q rfl g9 ?_
          have y10 : -2147483648 ≤ x9.toInt + (1 : Int) → x9.toInt + (1 : Int) ≤ 2147483647 → (x9 + (1 : Int32)).toInt = x9.toInt + (1 : Int) := t_addC (x := x9) (y := (1 : Int32))
          refine zrn_ok HW 2 (zB_iff.mpr (?_ : G (32, [(0, .inl (.ref 49))], [.inl (.int (x9 + (1 : Int32))), .inl (.ref 49)], hl, 0, 0)))
          have ok11 : wOK (zPhi (n, m, some a, v)) N T (hput hl 49 28 (.inl (.int (x9 + (1 : Int32))))) := ⟨hOK_put okl.1 hq_q ⟨_, rfl, (by show (0 : Int) ≤ _; omega), (by show _ ≤ (250 : Int); omega)⟩, p_put28 okl.1 (fun ν hν => by cases hν; exact ⟨by omega, by omega⟩) okl.2.1, by rw [hput_len]; exact okl.2.2⟩
          refine g_putf HW rfl okl.1 hq_q rfl (by decide) rfl ?_
          refine zrn_ok HW 1 (zB_iff.mpr (?_ : G (0, [(0, .inl (.ref 49))], [], (hput hl 49 28 (.inl (.int (x9 + (1 : Int32))))), 0, 0)))
          have ez : hi (hput hl 49 28 (.inl (.int (x9 + (1 : Int32))))) 49 28 = (x9 + (1 : Int32)).toInt := hi_put g9
          exact ih _ ok11 (lFr_put fr (by decide)) (by omega)
  obtain ⟨x, g, e, l, u⟩ := hi_val (i := 28) ok.1 hq_q (by decide) rfl
  have l : (0 : Int) ≤ x.toInt := l
  exact loop1 251 h ok (fun _ _ _ => rfl) (by omega)
