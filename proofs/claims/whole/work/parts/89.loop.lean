theorem hcnt_ins {T : List Nat} {h : zH} (hok : hOK zty T h) (hq : T[49]? = some 5) (lay : pLay T h 49) (hp : 0 < hcnt h 49 (hi h 49 9).toNat) : 1 ≤ hins h 49 (hi h 49 9).toNat := by
  obtain ⟨sl, -, eS, lS, uS⟩ := hi_val (i := 9) hok hq (by decide) rfl
  have uS : sl.toInt ≤ (60 : Int) := uS
  have t66 := (lay.1 (16, 17, 31) (by decide +kernel)).2
  have key : ∀ k : Nat, k ≤ 60 → hcnt h 49 k ≤ hins h 49 k := by
    intro k
    induction k with
    | zero => intro _; exact Int.le_refl _
    | succ k ih =>
      intro hk
      obtain ⟨y, -, ey, ly, uy⟩ := hi_val (i := k + 1) hok t66 (by show _ < 61; omega) rfl
      have uy : y.toInt ≤ (1 : Int) := uy
      have e2 : hins h 49 (k + 1) = hins h 49 k + (1 - hi h (49 + 17) (k + 1)) := rfl
      have ey : hi h (49 + 17) (k + 1) = y.toInt := ey
      have := ih (by omega)
      by_cases e : hDr h 49 ((k + 1 : Nat) : Int)
      · have h3 := e.2.2.1
        rw [Int.toNat_natCast] at h3
        rw [hcnt_t e]
        omega
      · rw [hcnt_f e]
        omega
  have := key _ (by omega : (hi h 49 9).toNat ≤ 60)
  omega
theorem c_playsN_17 {n m : Int} {ρ : Option Int} {N : Nat} {scr : List zV} {d : Nat} {T : List Nat} {h : zH} {b : Int32} {post : Option zV → zH → Bool} {G : zS → Prop} (HW : zWalk zprog ze_X5_playsN scr (zEc ze_X5_playsN) (zEs ze_X5_playsN) (zD zprog scr (d + 130)) post G) (hb : 0 ≤ b.toInt ∧ b.toInt ≤ 3) (kk : ∀ (y : Int32) (T' : List Nat) (h' : zH), tExt T T' → wOK (zPhi (n, m, ρ, true)) N T' h' → post (some (.inl (.int y))) h' = true) : ∀ i : Nat, ∀ (Tl : List Nat) (hl : zH) (c2 : Int32), tExt T Tl → wOK (zPhi (n, m, ρ, true)) N Tl hl → hins hl 49 (hi hl 49 9).toNat ≤ (i : Int) → G (17, [(2, .inl (.int c2)), (0, .inl (.ref 49)), (1, .inl (.int b))], [], hl, 0, 0) := by
  intro i
  induction i with
  | zero =>
    intro Tl hl c2 ml okl hle
    have hq_l := okl.2.1.1.2.2.1
    have hq_0 := hq_l
    have t66 : Tl[66]? = some 31 := ((okl.2.1.2.1 49 5 hq_l (Or.inl rfl)).1.1 (16, 17, 31) (by decide +kernel)).2
    refine zrn_ok HW 1 (zB_iff.mpr (?_ : G (18, [(2, .inl (.int c2)), (0, .inl (.ref 49)), (1, .inl (.int b))], [.inl (.ref 49)], hl, 0, 0)))
    obtain ⟨v1, g1, s1⟩ := hOK_get (i := 24) okl.1 hq_l (by decide)
    obtain ⟨q1, rfl, hq1⟩ : ∃ q : Nat, v1 = .inl (.ref q) ∧ Tl[q]? = some 37 := s1
    refine g_getf HW rfl okl.1 hq_l rfl g1 ?_
    refine zrn_ok HW 1 (zB_iff.mpr (?_ : G (22, [(2, .inl (.int c2)), (0, .inl (.ref 49)), (1, .inl (.int b))], [.inl (.int b), .inl (.ref q1)], hl, 0, 0)))
    obtain ⟨x2, g2, e2, l2, u2⟩ := hi_val (i := (b).toInt.toNat) okl.1 hq1 (by show _ < 4; omega) rfl
    have l2 : ((-2147483648) : Int) ≤ x2.toInt := l2
    have u2 : x2.toInt ≤ (2147483647 : Int) := u2
    refine g_iald HW rfl okl.1 hq1 rfl (by omega) g2 ?_
    refine zrn_ok HW 1 (zB_iff.mpr (?_ : G (24, [(2, .inl (.int c2)), (0, .inl (.ref 49)), (1, .inl (.int b))], [.inl (.ref 49), .inl (.int x2)], hl, 0, 0)))
    obtain ⟨x3, g3, e3, l3, u3⟩ := hi_val (i := 11) okl.1 hq_l (by decide) rfl
    have l3 : (1 : Int) ≤ x3.toInt := l3
    have u3 : x3.toInt ≤ (495 : Int) := u3
    refine g_getf HW rfl okl.1 hq_l rfl g3 ?_
    refine zrn_ok HW 1 (zbr_ex (cd := .lt) (x := x2) (y := x3) (fun hc4 => zB_iff.mpr ?_) (fun hc4 => zB_iff.mpr ?_))
    · -- pc 50
      have i4 : x2.toInt < x3.toInt := zop_int.mp hc4
      refine zrn_ok HW 2 ?_
      exact zret_i rfl rfl (kk _ Tl hl ml okl)
    · -- pc 30
      have i4 : ¬ (x2.toInt < x3.toInt) := fun e => hc4 (zop_int.mpr e)
      refine zrn_ok HW 2 (zB_iff.mpr (?_ : G (32, [(2, .inl (.int c2)), (0, .inl (.ref 49)), (1, .inl (.int b))], [.inl (.int b), .inl (.ref 49)], hl, 0, 0)))
      refine g_callV (E' := ze_X5_planOfN) HW rfl rfl (Nat.le_of_ble_eq_true rfl) (Nat.le_of_ble_eq_true rfl) (Nat.le_of_ble_eq_true rfl) okl.1 rfl hq_l rfl (Nat.le_of_ble_eq_true rfl) (c_planOfN okl ⟨by omega, by omega⟩ (fun y5 T5 h5 m5 ok5 bf5 cn5 => zB_iff.mpr ?_))
      show G (35, [(2, .inl (.int c2)), (0, .inl (.ref 49)), (1, .inl (.int b))], [.inl (.int y5)], h5, 0, 0)
      have hq_l := m5 _ _ hq_l
      have hq1 := m5 _ _ hq1
      refine zrn_ok HW 1 (zbr_ex (cd := .le) (x := y5) (y := (0 : Int32)) (fun hc6 => zB_iff.mpr ?_) (fun hc6 => zB_iff.mpr ?_))
      · -- pc 50
        have i6 : y5.toInt ≤ (0 : Int) := zop_int.mp hc6
        refine zrn_ok HW 2 ?_
        exact zret_i rfl rfl (kk _ T5 h5 (tExt_tr ml m5) ok5)
      · -- pc 38
        have i6 : ¬ (y5.toInt ≤ (0 : Int)) := fun e => hc6 (zop_int.mpr e)
        have pos : 0 < hcnt h5 49 (hi h5 49 9).toNat := cn5 (by omega)
        have z9 : hi h5 49 9 = hi hl 49 9 := bFr_hi bf5 hq_0 (by decide) (by decide) (Or.inr (by decide))
        have zi : ∀ k, hins h5 49 k = hins hl 49 k := hins_eq (fun i => bFr_hi bf5 t66 (by decide) (by decide) (Or.inl (by decide)))
        have hc := hcnt_ins ok5.1 hq_l (ok5.2.1.2.1 49 5 hq_l (Or.inl rfl)).1 pos
        rw [z9, zi] at hc
        exfalso
        omega
  | succ i ih =>
    intro Tl hl c2 ml okl hle
    have hq_l := okl.2.1.1.2.2.1
    have hq_0 := hq_l
    have t66 : Tl[66]? = some 31 := ((okl.2.1.2.1 49 5 hq_l (Or.inl rfl)).1.1 (16, 17, 31) (by decide +kernel)).2
    refine zrn_ok HW 1 (zB_iff.mpr (?_ : G (18, [(2, .inl (.int c2)), (0, .inl (.ref 49)), (1, .inl (.int b))], [.inl (.ref 49)], hl, 0, 0)))
    obtain ⟨v1, g1, s1⟩ := hOK_get (i := 24) okl.1 hq_l (by decide)
    obtain ⟨q1, rfl, hq1⟩ : ∃ q : Nat, v1 = .inl (.ref q) ∧ Tl[q]? = some 37 := s1
    refine g_getf HW rfl okl.1 hq_l rfl g1 ?_
    refine zrn_ok HW 1 (zB_iff.mpr (?_ : G (22, [(2, .inl (.int c2)), (0, .inl (.ref 49)), (1, .inl (.int b))], [.inl (.int b), .inl (.ref q1)], hl, 0, 0)))
    obtain ⟨x2, g2, e2, l2, u2⟩ := hi_val (i := (b).toInt.toNat) okl.1 hq1 (by show _ < 4; omega) rfl
    have l2 : ((-2147483648) : Int) ≤ x2.toInt := l2
    have u2 : x2.toInt ≤ (2147483647 : Int) := u2
    refine g_iald HW rfl okl.1 hq1 rfl (by omega) g2 ?_
    refine zrn_ok HW 1 (zB_iff.mpr (?_ : G (24, [(2, .inl (.int c2)), (0, .inl (.ref 49)), (1, .inl (.int b))], [.inl (.ref 49), .inl (.int x2)], hl, 0, 0)))
    obtain ⟨x3, g3, e3, l3, u3⟩ := hi_val (i := 11) okl.1 hq_l (by decide) rfl
    have l3 : (1 : Int) ≤ x3.toInt := l3
    have u3 : x3.toInt ≤ (495 : Int) := u3
    refine g_getf HW rfl okl.1 hq_l rfl g3 ?_
    refine zrn_ok HW 1 (zbr_ex (cd := .lt) (x := x2) (y := x3) (fun hc4 => zB_iff.mpr ?_) (fun hc4 => zB_iff.mpr ?_))
    · -- pc 50
      have i4 : x2.toInt < x3.toInt := zop_int.mp hc4
      refine zrn_ok HW 2 ?_
      exact zret_i rfl rfl (kk _ Tl hl ml okl)
    · -- pc 30
      have i4 : ¬ (x2.toInt < x3.toInt) := fun e => hc4 (zop_int.mpr e)
      refine zrn_ok HW 2 (zB_iff.mpr (?_ : G (32, [(2, .inl (.int c2)), (0, .inl (.ref 49)), (1, .inl (.int b))], [.inl (.int b), .inl (.ref 49)], hl, 0, 0)))
      refine g_callV (E' := ze_X5_planOfN) HW rfl rfl (Nat.le_of_ble_eq_true rfl) (Nat.le_of_ble_eq_true rfl) (Nat.le_of_ble_eq_true rfl) okl.1 rfl hq_l rfl (Nat.le_of_ble_eq_true rfl) (c_planOfN okl ⟨by omega, by omega⟩ (fun y5 T5 h5 m5 ok5 bf5 cn5 => zB_iff.mpr ?_))
      show G (35, [(2, .inl (.int c2)), (0, .inl (.ref 49)), (1, .inl (.int b))], [.inl (.int y5)], h5, 0, 0)
      have hq_l := m5 _ _ hq_l
      have hq1 := m5 _ _ hq1
      refine zrn_ok HW 1 (zbr_ex (cd := .le) (x := y5) (y := (0 : Int32)) (fun hc6 => zB_iff.mpr ?_) (fun hc6 => zB_iff.mpr ?_))
      · -- pc 50
        have i6 : y5.toInt ≤ (0 : Int) := zop_int.mp hc6
        refine zrn_ok HW 2 ?_
        exact zret_i rfl rfl (kk _ T5 h5 (tExt_tr ml m5) ok5)
      · -- pc 38
        have i6 : ¬ (y5.toInt ≤ (0 : Int)) := fun e => hc6 (zop_int.mpr e)
        refine zrn_ok HW 2 (zB_iff.mpr (?_ : G (40, [(2, .inl (.int c2)), (0, .inl (.ref 49)), (1, .inl (.int b))], [.inl (.int b), .inl (.ref 49)], h5, 0, 0)))
        refine g_callV (E' := ze_X5_goesOne) HW rfl rfl (Nat.le_of_ble_eq_true rfl) (Nat.le_of_ble_eq_true rfl) (Nat.le_of_ble_eq_true rfl) ok5.1 rfl hq_l rfl (Nat.le_of_ble_eq_true rfl) (c_goesOne ok5 ⟨by omega, by omega⟩ (cn5 (by omega)) (fun r7 h7 ok7 x97 hi7 => zB_iff.mpr ?_))
        show G (43, [(2, .inl (.int c2)), (0, .inl (.ref 49)), (1, .inl (.int b))], [.inl (.int r7)], h7, 0, 0)
        have y8 : -2147483648 ≤ c2.toInt + (1 : Int) → c2.toInt + (1 : Int) ≤ 2147483647 → (c2 + (1 : Int32)).toInt = c2.toInt + (1 : Int) := t_addC (x := c2) (y := (1 : Int32))
        refine zrn_ok HW 3 (zB_iff.mpr (?_ : G (17, [(2, .inl (.int (c2 + (1 : Int32)))), (0, .inl (.ref 49)), (1, .inl (.int b))], [], h7, 0, 0)))
        have z9 : hi h5 49 9 = hi hl 49 9 := bFr_hi bf5 hq_0 (by decide) (by decide) (Or.inr (by decide))
        have zi : ∀ k, hins h5 49 k = hins hl 49 k := hins_eq (fun i => bFr_hi bf5 t66 (by decide) (by decide) (Or.inl (by decide)))
        have zh := hi7
        rw [z9, zi] at zh
        exact ih _ h7 (c2 + (1 : Int32)) (tExt_tr ml m5) ok7 (by rw [x97, z9]; omega)
theorem c_plays_17 {n m : Int} {ρ : Option Int} {N : Nat} {scr : List zV} {d : Nat} {T : List Nat} {h : zH} {b : Int32} {post : Option zV → zH → Bool} {G : zS → Prop} (HW : zWalk zprog ze_X5_plays scr (zEc ze_X5_plays) (zEs ze_X5_plays) (zD zprog scr (d + 130)) post G) (hlen : h.length + 3843 ≤ 1000000) (hb : 0 ≤ b.toInt ∧ b.toInt ≤ 3) (kk : ∀ (y : Int32) (T' : List Nat) (h' : zH), tExt T T' → wOK (zPhi (n, m, ρ, true)) (h.length + 3843) T' h' → post (some (.inl (.int y))) h' = true) : ∀ i k : Nat, i + k ≤ 60 → ∀ (Tl : List Nat) (hl : zH) (c2 : Int32), tExt T Tl → wOK (zPhi (n, m, ρ, true)) (h.length + 63 * k) Tl hl → hins hl 49 (hi hl 49 9).toNat ≤ (i : Int) → G (17, [(2, .inl (.int c2)), (0, .inl (.ref 49)), (1, .inl (.int b))], [], hl, 63 * k, 15934 * k) := by
  intro i
  induction i with
  | zero =>
    intro k hk Tl hl c2 ml okl hle
    have hq_l := okl.2.1.1.2.2.1
    have hq_0 := hq_l
    have t66 : Tl[66]? = some 31 := ((okl.2.1.2.1 49 5 hq_l (Or.inl rfl)).1.1 (16, 17, 31) (by decide +kernel)).2
    refine zrn_ok HW 1 (zB_iff.mpr (?_ : G (18, [(2, .inl (.int c2)), (0, .inl (.ref 49)), (1, .inl (.int b))], [.inl (.ref 49)], hl, 63 * k, 15934 * k)))
    obtain ⟨v1, g1, s1⟩ := hOK_get (i := 24) okl.1 hq_l (by decide)
    obtain ⟨q1, rfl, hq1⟩ : ∃ q : Nat, v1 = .inl (.ref q) ∧ Tl[q]? = some 37 := s1
    refine g_getf HW rfl okl.1 hq_l rfl g1 ?_
    refine zrn_ok HW 1 (zB_iff.mpr (?_ : G (22, [(2, .inl (.int c2)), (0, .inl (.ref 49)), (1, .inl (.int b))], [.inl (.int b), .inl (.ref q1)], hl, 63 * k, 15934 * k)))
    obtain ⟨x2, g2, e2, l2, u2⟩ := hi_val (i := (b).toInt.toNat) okl.1 hq1 (by show _ < 4; omega) rfl
    have l2 : ((-2147483648) : Int) ≤ x2.toInt := l2
    have u2 : x2.toInt ≤ (2147483647 : Int) := u2
    refine g_iald HW rfl okl.1 hq1 rfl (by omega) g2 ?_
    refine zrn_ok HW 1 (zB_iff.mpr (?_ : G (24, [(2, .inl (.int c2)), (0, .inl (.ref 49)), (1, .inl (.int b))], [.inl (.ref 49), .inl (.int x2)], hl, 63 * k, 15934 * k)))
    obtain ⟨x3, g3, e3, l3, u3⟩ := hi_val (i := 11) okl.1 hq_l (by decide) rfl
    have l3 : (1 : Int) ≤ x3.toInt := l3
    have u3 : x3.toInt ≤ (495 : Int) := u3
    refine g_getf HW rfl okl.1 hq_l rfl g3 ?_
    refine zrn_ok HW 1 (zbr_ex (cd := .lt) (x := x2) (y := x3) (fun hc4 => zB_iff.mpr ?_) (fun hc4 => zB_iff.mpr ?_))
    · -- pc 50
      have i4 : x2.toInt < x3.toInt := zop_int.mp hc4
      refine zrn_ok HW 2 ?_
      exact zret_i rfl rfl (kk _ Tl hl ml (wOK_up okl (by omega)))
    · -- pc 30
      have i4 : ¬ (x2.toInt < x3.toInt) := fun e => hc4 (zop_int.mpr e)
      refine zrn_ok HW 2 (zB_iff.mpr (?_ : G (32, [(2, .inl (.int c2)), (0, .inl (.ref 49)), (1, .inl (.int b))], [.inl (.int b), .inl (.ref 49)], hl, 63 * k, 15934 * k)))
      refine g_callV (E' := ze_X5_planOf) HW rfl rfl (Nat.le_of_ble_eq_true rfl) (by show 63 * k + 63 ≤ 3843; omega) (by show 15934 * k + 15934 ≤ 971974; omega) okl.1 rfl hq_l rfl (Nat.le_of_ble_eq_true rfl) (c_planOf (N := h.length + 63 * (k + 1)) (wOK_up okl (by omega)) (by have := okl.2.2; omega) (by omega) ⟨by omega, by omega⟩ (fun y5 T5 h5 m5 ok5 bf5 cn5 => zB_iff.mpr ?_))
      show G (35, [(2, .inl (.int c2)), (0, .inl (.ref 49)), (1, .inl (.int b))], [.inl (.int y5)], h5, 63 * k + 63, 15934 * k + 15934)
      have hq_l := m5 _ _ hq_l
      have hq1 := m5 _ _ hq1
      refine zrn_ok HW 1 (zbr_ex (cd := .le) (x := y5) (y := (0 : Int32)) (fun hc6 => zB_iff.mpr ?_) (fun hc6 => zB_iff.mpr ?_))
      · -- pc 50
        have i6 : y5.toInt ≤ (0 : Int) := zop_int.mp hc6
        refine zrn_ok HW 2 ?_
        exact zret_i rfl rfl (kk _ T5 h5 (tExt_tr ml m5) (wOK_up ok5 (by omega)))
      · -- pc 38
        have i6 : ¬ (y5.toInt ≤ (0 : Int)) := fun e => hc6 (zop_int.mpr e)
        have pos : 0 < hcnt h5 49 (hi h5 49 9).toNat := cn5 (by omega)
        have z9 : hi h5 49 9 = hi hl 49 9 := bFr_hi bf5 hq_0 (by decide) (by decide) (Or.inr (by decide))
        have zi : ∀ k, hins h5 49 k = hins hl 49 k := hins_eq (fun i => bFr_hi bf5 t66 (by decide) (by decide) (Or.inl (by decide)))
        have hc := hcnt_ins ok5.1 hq_l (ok5.2.1.2.1 49 5 hq_l (Or.inl rfl)).1 pos
        rw [z9, zi] at hc
        exfalso
        omega
  | succ i ih =>
    intro k hk Tl hl c2 ml okl hle
    have hq_l := okl.2.1.1.2.2.1
    have hq_0 := hq_l
    have t66 : Tl[66]? = some 31 := ((okl.2.1.2.1 49 5 hq_l (Or.inl rfl)).1.1 (16, 17, 31) (by decide +kernel)).2
    refine zrn_ok HW 1 (zB_iff.mpr (?_ : G (18, [(2, .inl (.int c2)), (0, .inl (.ref 49)), (1, .inl (.int b))], [.inl (.ref 49)], hl, 63 * k, 15934 * k)))
    obtain ⟨v1, g1, s1⟩ := hOK_get (i := 24) okl.1 hq_l (by decide)
    obtain ⟨q1, rfl, hq1⟩ : ∃ q : Nat, v1 = .inl (.ref q) ∧ Tl[q]? = some 37 := s1
    refine g_getf HW rfl okl.1 hq_l rfl g1 ?_
    refine zrn_ok HW 1 (zB_iff.mpr (?_ : G (22, [(2, .inl (.int c2)), (0, .inl (.ref 49)), (1, .inl (.int b))], [.inl (.int b), .inl (.ref q1)], hl, 63 * k, 15934 * k)))
    obtain ⟨x2, g2, e2, l2, u2⟩ := hi_val (i := (b).toInt.toNat) okl.1 hq1 (by show _ < 4; omega) rfl
    have l2 : ((-2147483648) : Int) ≤ x2.toInt := l2
    have u2 : x2.toInt ≤ (2147483647 : Int) := u2
    refine g_iald HW rfl okl.1 hq1 rfl (by omega) g2 ?_
    refine zrn_ok HW 1 (zB_iff.mpr (?_ : G (24, [(2, .inl (.int c2)), (0, .inl (.ref 49)), (1, .inl (.int b))], [.inl (.ref 49), .inl (.int x2)], hl, 63 * k, 15934 * k)))
    obtain ⟨x3, g3, e3, l3, u3⟩ := hi_val (i := 11) okl.1 hq_l (by decide) rfl
    have l3 : (1 : Int) ≤ x3.toInt := l3
    have u3 : x3.toInt ≤ (495 : Int) := u3
    refine g_getf HW rfl okl.1 hq_l rfl g3 ?_
    refine zrn_ok HW 1 (zbr_ex (cd := .lt) (x := x2) (y := x3) (fun hc4 => zB_iff.mpr ?_) (fun hc4 => zB_iff.mpr ?_))
    · -- pc 50
      have i4 : x2.toInt < x3.toInt := zop_int.mp hc4
      refine zrn_ok HW 2 ?_
      exact zret_i rfl rfl (kk _ Tl hl ml (wOK_up okl (by omega)))
    · -- pc 30
      have i4 : ¬ (x2.toInt < x3.toInt) := fun e => hc4 (zop_int.mpr e)
      refine zrn_ok HW 2 (zB_iff.mpr (?_ : G (32, [(2, .inl (.int c2)), (0, .inl (.ref 49)), (1, .inl (.int b))], [.inl (.int b), .inl (.ref 49)], hl, 63 * k, 15934 * k)))
      refine g_callV (E' := ze_X5_planOf) HW rfl rfl (Nat.le_of_ble_eq_true rfl) (by show 63 * k + 63 ≤ 3843; omega) (by show 15934 * k + 15934 ≤ 971974; omega) okl.1 rfl hq_l rfl (Nat.le_of_ble_eq_true rfl) (c_planOf (N := h.length + 63 * (k + 1)) (wOK_up okl (by omega)) (by have := okl.2.2; omega) (by omega) ⟨by omega, by omega⟩ (fun y5 T5 h5 m5 ok5 bf5 cn5 => zB_iff.mpr ?_))
      show G (35, [(2, .inl (.int c2)), (0, .inl (.ref 49)), (1, .inl (.int b))], [.inl (.int y5)], h5, 63 * k + 63, 15934 * k + 15934)
      have hq_l := m5 _ _ hq_l
      have hq1 := m5 _ _ hq1
      refine zrn_ok HW 1 (zbr_ex (cd := .le) (x := y5) (y := (0 : Int32)) (fun hc6 => zB_iff.mpr ?_) (fun hc6 => zB_iff.mpr ?_))
      · -- pc 50
        have i6 : y5.toInt ≤ (0 : Int) := zop_int.mp hc6
        refine zrn_ok HW 2 ?_
        exact zret_i rfl rfl (kk _ T5 h5 (tExt_tr ml m5) (wOK_up ok5 (by omega)))
      · -- pc 38
        have i6 : ¬ (y5.toInt ≤ (0 : Int)) := fun e => hc6 (zop_int.mpr e)
        refine zrn_ok HW 2 (zB_iff.mpr (?_ : G (40, [(2, .inl (.int c2)), (0, .inl (.ref 49)), (1, .inl (.int b))], [.inl (.int b), .inl (.ref 49)], h5, 63 * k + 63, 15934 * k + 15934)))
        refine g_callV (E' := ze_X5_goesOne) HW rfl rfl (Nat.le_of_ble_eq_true rfl) (by show 63 * k + 63 + 0 ≤ 3843; omega) (by show 15934 * k + 15934 + 0 ≤ 971974; omega) ok5.1 rfl hq_l rfl (Nat.le_of_ble_eq_true rfl) (c_goesOne ok5 ⟨by omega, by omega⟩ (cn5 (by omega)) (fun r7 h7 ok7 x97 hi7 => zB_iff.mpr ?_))
        show G (43, [(2, .inl (.int c2)), (0, .inl (.ref 49)), (1, .inl (.int b))], [.inl (.int r7)], h7, 63 * k + 63, 15934 * k + 15934)
        have y8 : -2147483648 ≤ c2.toInt + (1 : Int) → c2.toInt + (1 : Int) ≤ 2147483647 → (c2 + (1 : Int32)).toInt = c2.toInt + (1 : Int) := t_addC (x := c2) (y := (1 : Int32))
        refine zrn_ok HW 3 (zB_iff.mpr (?_ : G (17, [(2, .inl (.int (c2 + (1 : Int32)))), (0, .inl (.ref 49)), (1, .inl (.int b))], [], h7, 63 * k + 63, 15934 * k + 15934)))
        have z9 : hi h5 49 9 = hi hl 49 9 := bFr_hi bf5 hq_0 (by decide) (by decide) (Or.inr (by decide))
        have zi : ∀ k, hins h5 49 k = hins hl 49 k := hins_eq (fun i => bFr_hi bf5 t66 (by decide) (by decide) (Or.inl (by decide)))
        have zh := hi7
        rw [z9, zi] at zh
        exact ih (k + 1) (by omega) _ h7 (c2 + (1 : Int32)) (tExt_tr ml m5) ok7 (by rw [x97, z9]; omega)
