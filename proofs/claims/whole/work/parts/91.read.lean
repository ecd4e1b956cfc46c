theorem c_statement0 {n m : Int} {v : Bool} {μ : Int} {N : Nat} {scr : List zV} {d : Nat} {T : List Nat} {h : zH} {post : Option zV → zH → Bool} (ok : wOK (zPhi (n, m, some μ, v)) N T h) (ht : hi h 49 29 = 0) (kk : ∀ h' : zH, wOK (zPhi (n, m, some μ, v)) N T h' → post (some (.inl (.int 0))) h' = true) : zD zprog scr (d + 6) 227 [.inl (.ref 49)] h post = true := by
  have hq_q := ok.2.1.1.2.2.1
  refine zD_intro (E := ze_X5_statement) rfl rfl (fun G HW => ?_)
  refine zrn_ok HW 2 (zB_iff.mpr (?_ : G (3, [(0, .inl (.ref 49))], [.inl (.ref 1000000), .inl (.ref 49)], h, 0, 0)))
  refine g_callV (E' := ze_X5_isWord) HW rfl rfl (Nat.le_of_ble_eq_true rfl) (Nat.le_of_ble_eq_true rfl) (Nat.le_of_ble_eq_true rfl) ok.1 rfl hq_q rfl (Nat.le_of_ble_eq_true rfl) (c_isWord0 ok (fun tk1 => by exfalso; omega) (zB_iff.mpr ?_))
  show G (6, [(0, .inl (.ref 49))], [.inl (.int (0 : Int32))], h, 0, 0)
  refine zrn_ok HW 3 (zB_iff.mpr (?_ : G (43, [(0, .inl (.ref 49))], [.inl (.ref 1000001), .inl (.ref 49)], h, 0, 0)))
  refine g_callV (E' := ze_X5_isWord) HW rfl rfl (Nat.le_of_ble_eq_true rfl) (Nat.le_of_ble_eq_true rfl) (Nat.le_of_ble_eq_true rfl) ok.1 rfl hq_q rfl (Nat.le_of_ble_eq_true rfl) (c_isWord1 ok (fun tk2 => by exfalso; omega) (zB_iff.mpr ?_))
  show G (46, [(0, .inl (.ref 49))], [.inl (.int (0 : Int32))], h, 0, 0)
  refine zrn_ok HW 3 (zB_iff.mpr (?_ : G (90, [(0, .inl (.ref 49))], [.inl (.ref 1000002), .inl (.ref 49)], h, 0, 0)))
  refine g_callV (E' := ze_X5_isWord) HW rfl rfl (Nat.le_of_ble_eq_true rfl) (Nat.le_of_ble_eq_true rfl) (Nat.le_of_ble_eq_true rfl) ok.1 rfl hq_q rfl (Nat.le_of_ble_eq_true rfl) (c_isWord2 ok (fun tk3 => by exfalso; omega) (zB_iff.mpr ?_))
  show G (93, [(0, .inl (.ref 49))], [.inl (.int (0 : Int32))], h, 0, 0)
  refine zrn_ok HW 3 (zB_iff.mpr (?_ : G (104, [(0, .inl (.ref 49))], [.inl (.ref 1000003), .inl (.ref 49)], h, 0, 0)))
  refine g_callV (E' := ze_X5_isWord) HW rfl rfl (Nat.le_of_ble_eq_true rfl) (Nat.le_of_ble_eq_true rfl) (Nat.le_of_ble_eq_true rfl) ok.1 rfl hq_q rfl (Nat.le_of_ble_eq_true rfl) (c_isWord3 ok (fun tk4 => by exfalso; omega) (zB_iff.mpr ?_))
  show G (107, [(0, .inl (.ref 49))], [.inl (.int (0 : Int32))], h, 0, 0)
  refine zrn_ok HW 3 (zB_iff.mpr (?_ : G (127, [(0, .inl (.ref 49))], [.inl (.ref 1000004), .inl (.ref 49)], h, 0, 0)))
  refine g_callV (E' := ze_X5_isWord) HW rfl rfl (Nat.le_of_ble_eq_true rfl) (Nat.le_of_ble_eq_true rfl) (Nat.le_of_ble_eq_true rfl) ok.1 rfl hq_q rfl (Nat.le_of_ble_eq_true rfl) (c_isWord4 ok (fun tk5 => by exfalso; omega) (zB_iff.mpr ?_))
  show G (130, [(0, .inl (.ref 49))], [.inl (.int (0 : Int32))], h, 0, 0)
  refine zrn_ok HW 3 (zB_iff.mpr (?_ : G (169, [(0, .inl (.ref 49))], [.inl (.ref 1000005), .inl (.ref 49)], h, 0, 0)))
  refine g_callV (E' := ze_X5_isWord) HW rfl rfl (Nat.le_of_ble_eq_true rfl) (Nat.le_of_ble_eq_true rfl) (Nat.le_of_ble_eq_true rfl) ok.1 rfl hq_q rfl (Nat.le_of_ble_eq_true rfl) (c_isWord5 ok (fun tk6 => by exfalso; omega) (zB_iff.mpr ?_))
  show G (172, [(0, .inl (.ref 49))], [.inl (.int (0 : Int32))], h, 0, 0)
  refine zrn_ok HW 3 (zB_iff.mpr (?_ : G (247, [(0, .inl (.ref 49))], [.inl (.ref 1000006), .inl (.ref 49)], h, 0, 0)))
  refine g_callV (E' := ze_X5_isWord) HW rfl rfl (Nat.le_of_ble_eq_true rfl) (Nat.le_of_ble_eq_true rfl) (Nat.le_of_ble_eq_true rfl) ok.1 rfl hq_q rfl (Nat.le_of_ble_eq_true rfl) (c_isWord6 ok (fun tk7 => by exfalso; omega) (zB_iff.mpr ?_))
  show G (250, [(0, .inl (.ref 49))], [.inl (.int (0 : Int32))], h, 0, 0)
  refine zrn_ok HW 2 (zB_iff.mpr (?_ : G (261, [(0, .inl (.ref 49))], [.inl (.ref 49)], h, 0, 0)))
  refine g_callV (E' := ze_X5_wrong) HW rfl rfl (Nat.le_of_ble_eq_true rfl) (Nat.le_of_ble_eq_true rfl) (Nat.le_of_ble_eq_true rfl) ok.1 rfl hq_q rfl (Nat.le_of_ble_eq_true rfl) (c_wrong ok (fun h8 ok8 fr8 => zB_iff.mpr ?_))
  show G (264, [(0, .inl (.ref 49))], [.inl (.int (0 : Int32))], h8, 0, 0)
  refine zrn_ok HW 1 ?_
  exact zret_z rfl rfl (kk _ ok8)
theorem c_readAll {n m : Int} {v : Bool} {r : Option Int} {N : Nat} {scr : List zV} {d : Nat} {T : List Nat} {h : zH} {post : Option zV → zH → Bool} (ok : wOK (zPhi (n, m, r, v)) N T h) (kk : ∀ (y : Int32) (h' : zH), (y = 0 ∨ y = 1) → wOK (zPhi (n, m, none, v)) N T h' → post (some (.inl (.int y))) h' = true) : zD zprog scr (d + 7) 215 [.inl (.ref 49)] h post = true := by
  have hq_q := ok.2.1.1.2.2.1
  have dn : ∀ (μ : Int) (hl : zH), wOK (zPhi (n, m, some μ, v)) N T hl → wOK (zPhi (n, m, none, v)) N T hl := fun μ hl okl => by
    obtain ⟨c1, ⟨p1, p2, p3, p4, p5, p6, p7⟩, c3⟩ := okl
    exact ⟨c1, ⟨p1, p2, p3, p4, p5, (fun κ hκ => by cases hκ), p7⟩, c3⟩
  refine zD_intro (E := ze_X5_readAll) rfl rfl (fun G HW => ?_)
  have okup : ∀ {a : Int} {hl : zH}, wOK (zPhi (n, m, some a, v)) N T hl → a + 1 ≤ hi hl 49 28 → wOK (zPhi (n, m, some (a + 1), v)) N T hl := fun okl ha => by
    obtain ⟨c1, ⟨p1, p2, p3, p4, p5, p6, p7⟩, c3⟩ := okl
    exact ⟨c1, ⟨p1, p2, p3, p4, p5, fun κ hκ => by cases hκ; exact ⟨ha, (p6 _ rfl).2⟩, p7⟩, c3⟩
  have loop : ∀ (k : Nat) (μ : Int) (hl : zH), wOK (zPhi (n, m, some μ, v)) N T hl → 251 - μ < (k : Int) → G (23, [(0, .inl (.ref 49))], [], hl, 0, 0) := by
    intro k
    induction k with
    | zero =>
      intro μ hl okl hm
      exfalso
      have ph := zPhi_at okl
      obtain ⟨x, g, e, l, u⟩ := hi_val (i := 28) okl.1 hq_q (by decide) rfl
      have u : x.toInt ≤ (250 : Int) := u
      omega
    | succ k ih =>
      intro μ hl okl hm
      have phl := zPhi_at okl
      refine zrn_ok HW 1 (zB_iff.mpr (?_ : G (24, [(0, .inl (.ref 49))], [.inl (.ref 49)], hl, 0, 0)))
      obtain ⟨x1, g1, e1, l1, u1⟩ := hi_val (i := 29) okl.1 hq_q (by decide) rfl
      have l1 : (0 : Int) ≤ x1.toInt := l1
      have u1 : x1.toInt ≤ (4 : Int) := u1
      refine g_getf HW rfl okl.1 hq_q rfl g1 ?_
      refine zrn_ok HW 1 (zbr_ex (cd := .eq) (x := x1) (y := (0 : Int32)) (fun hc2 => zB_iff.mpr ?_) (fun hc2 => zB_iff.mpr ?_))
      · -- pc 69
        have i2 : x1.toInt = (0 : Int) := zop_int.mp hc2
        refine zrn_ok HW 2 ?_
        exact zret_z rfl rfl (kk (1 : Int32) _ (Or.inr rfl) (dn _ _ okl))
      · -- pc 30
        have i2 : ¬ (x1.toInt = (0 : Int)) := fun e => hc2 (zop_int.mpr e)
        refine zrn_ok HW 1 (zB_iff.mpr (?_ : G (31, [(0, .inl (.ref 49))], [.inl (.ref 49)], hl, 0, 0)))
        obtain ⟨x3, g3, e3, l3, u3⟩ := hi_val (i := 29) okl.1 hq_q (by decide) rfl
        have l3 : (0 : Int) ≤ x3.toInt := l3
        have u3 : x3.toInt ≤ (4 : Int) := u3
        refine g_getf HW rfl okl.1 hq_q rfl g3 ?_
        refine zrn_ok HW 2 (zbr_ex (cd := .eq) (x := x3) (y := (3 : Int32)) (fun hc4 => zB_iff.mpr ?_) (fun hc4 => zB_iff.mpr ?_))
        · -- pc 43
          have i4 : x3.toInt = (3 : Int) := zop_int.mp hc4
          refine zrn_ok HW 1 (zB_iff.mpr (?_ : G (44, [(0, .inl (.ref 49))], [.inl (.ref 49)], hl, 0, 0)))
          refine g_callV (E' := ze_X5_look) HW rfl rfl (Nat.le_of_ble_eq_true rfl) (Nat.le_of_ble_eq_true rfl) (Nat.le_of_ble_eq_true rfl) okl.1 rfl hq_q rfl (Nat.le_of_ble_eq_true rfl) (c_look okl (fun h5 ok5 st5 fr5 => zB_iff.mpr ?_))
          show G (47, [(0, .inl (.ref 49))], [], h5, 0, 0)
          refine zrn_ok HW 1 (zB_iff.mpr (?_ : G (48, [(0, .inl (.ref 49))], [.inl (.ref 49)], h5, 0, 0)))
          rcases st5 with st5 | st5
          · refine g_callV (E' := ze_X5_statement) HW rfl rfl (Nat.le_of_ble_eq_true rfl) (Nat.le_of_ble_eq_true rfl) (Nat.le_of_ble_eq_true rfl) ok5.1 rfl hq_q rfl (Nat.le_of_ble_eq_true rfl) (c_statement0 ok5 st5 (fun h6 ok6 => zB_iff.mpr ?_))
            show G (51, [(0, .inl (.ref 49))], [.inl (.int (0 : Int32))], h6, 0, 0)
            refine zrn_ok HW 3 ?_
            exact zret_z rfl rfl (kk (0 : Int32) _ (Or.inl rfl) (dn _ _ ok6))
          have ok5z : wOK (zPhi (n, m, some (hi hl 49 28 + 1), v)) N T h5 := okup ok5 st5
          refine g_callV (E' := ze_X5_statement) HW rfl rfl (Nat.le_of_ble_eq_true rfl) (Nat.le_of_ble_eq_true rfl) (Nat.le_of_ble_eq_true rfl) ok5.1 rfl hq_q rfl (Nat.le_of_ble_eq_true rfl) (c_statement ok5z (fun h6 ok6 => zB_iff.mpr ?_) (fun h6 ok6 => zB_iff.mpr ?_))
          · show G (51, [(0, .inl (.ref 49))], [.inl (.int (1 : Int32))], h6, 0, 0)
            refine zrn_ok HW 3 (zB_iff.mpr (?_ : G (58, [(0, .inl (.ref 49))], [.inl (.ref 49), .inl (.ref 49)], h6, 0, 0)))
            obtain ⟨x7, g7, e7, l7, u7⟩ := hi_val (i := 34) ok6.1 hq_q (by decide) rfl
            have l7 : ((-2147483648) : Int) ≤ x7.toInt := l7
            have u7 : x7.toInt ≤ (2147483647 : Int) := u7
            refine g_getf HW rfl ok6.1 hq_q rfl g7 ?_
            have y8 : -2147483648 ≤ x7.toInt + (1 : Int) → x7.toInt + (1 : Int) ≤ 2147483647 → (x7 + (1 : Int32)).toInt = x7.toInt + (1 : Int) := t_addC (x := x7) (y := (1 : Int32))
            refine zrn_ok HW 2 (zB_iff.mpr (?_ : G (63, [(0, .inl (.ref 49))], [.inl (.int (x7 + (1 : Int32))), .inl (.ref 49)], h6, 0, 0)))
            have ok9 : wOK (zPhi (n, m, some (hi hl 49 28 + 1), v)) N T (hput h6 49 34 (.inl (.int (x7 + (1 : Int32))))) := wOK_put (p_stab _) ok6 hq_q rfl ⟨_, rfl, t_lo _, t_hi _⟩
            refine g_putf HW rfl ok6.1 hq_q rfl (by decide) rfl ?_
            refine zrn_ok HW 1 (zB_iff.mpr (?_ : G (23, [(0, .inl (.ref 49))], [], (hput h6 49 34 (.inl (.int (x7 + (1 : Int32))))), 0, 0)))
            have ph := zPhi_at ok9
            exact ih _ _ ok9 (by omega)
          · show G (51, [(0, .inl (.ref 49))], [.inl (.int (0 : Int32))], h6, 0, 0)
            refine zrn_ok HW 3 ?_
            exact zret_z rfl rfl (kk (0 : Int32) _ (Or.inl rfl) (dn _ _ ok6))
        · -- pc 38
          have i4 : ¬ (x3.toInt = (3 : Int)) := fun e => hc4 (zop_int.mpr e)
          refine zrn_ok HW 1 (zB_iff.mpr (?_ : G (39, [(0, .inl (.ref 49))], [.inl (.ref 49)], hl, 0, 0)))
          refine g_callV (E' := ze_X5_wrong) HW rfl rfl (Nat.le_of_ble_eq_true rfl) (Nat.le_of_ble_eq_true rfl) (Nat.le_of_ble_eq_true rfl) okl.1 rfl hq_q rfl (Nat.le_of_ble_eq_true rfl) (c_wrong okl (fun h10 ok10 fr10 => zB_iff.mpr ?_))
          show G (42, [(0, .inl (.ref 49))], [.inl (.int (0 : Int32))], h10, 0, 0)
          refine zrn_ok HW 1 ?_
          exact zret_z rfl rfl (kk (0 : Int32) _ (Or.inl rfl) (dn _ _ ok10))
  have mn : (0 : Int32).toInt ≤ m := by
    have hm : hi h 49 7 = m := ok.2.1.2.2.2.1
    obtain ⟨x, g, e, l, u⟩ := hi_val (i := 7) ok.1 hq_q (by decide) rfl
    have l : (0 : Int) ≤ x.toInt := l
    have z0 : (0 : Int32).toInt = 0 := rfl
    omega
  refine zrn_ok HW 2 (zB_iff.mpr (?_ : G (2, [(0, .inl (.ref 49))], [.inl (.int (1 : Int32)), .inl (.ref 49)], h, 0, 0)))
  have ok1 : wOK (zPhi (n, m, r, v)) N T (hput h 49 34 (.inl (.int (1 : Int32)))) := wOK_put (p_stab _) ok hq_q rfl ⟨_, rfl, (by show ((-2147483648) : Int) ≤ Int32.toInt (1 : Int32); decide), (by show Int32.toInt (1 : Int32) ≤ (2147483647 : Int); decide)⟩
  refine g_putf HW rfl ok.1 hq_q rfl (by decide) rfl ?_
  refine zrn_ok HW 2 (zB_iff.mpr (?_ : G (7, [(0, .inl (.ref 49))], [.inl (.int (0 : Int32)), .inl (.ref 49)], (hput h 49 34 (.inl (.int (1 : Int32)))), 0, 0)))
  have ok2 : wOK (zPhi (n, m, some 0, v)) N T (hput (hput h 49 34 (.inl (.int (1 : Int32)))) 49 28 (.inl (.int (0 : Int32)))) := ⟨hOK_put ok1.1 hq_q ⟨_, rfl, (by show (0 : Int) ≤ Int32.toInt (0 : Int32); decide), (by show Int32.toInt (0 : Int32) ≤ (250 : Int); decide)⟩, p_put28 (r' := some 0) ok1.1 (fun ν hν => by cases hν; exact ⟨by decide, mn⟩) ok1.2.1, by rw [hput_len]; exact ok1.2.2⟩
  refine g_putf HW rfl ok1.1 hq_q rfl (by decide) rfl ?_
  refine zrn_ok HW 1 (zB_iff.mpr (?_ : G (11, [(0, .inl (.ref 49))], [.inl (.ref 49)], (hput (hput h 49 34 (.inl (.int (1 : Int32)))) 49 28 (.inl (.int (0 : Int32)))), 0, 0)))
  refine g_callV (E' := ze_X5_look) HW rfl rfl (Nat.le_of_ble_eq_true rfl) (Nat.le_of_ble_eq_true rfl) (Nat.le_of_ble_eq_true rfl) ok2.1 rfl hq_q rfl (Nat.le_of_ble_eq_true rfl) (c_look ok2 (fun h3 ok3 st3 fr3 => zB_iff.mpr ?_))
  show G (14, [(0, .inl (.ref 49))], [], h3, 0, 0)
  refine zrn_ok HW 1 (zB_iff.mpr (?_ : G (15, [(0, .inl (.ref 49))], [.inl (.ref 49)], h3, 0, 0)))
  rcases st3 with st3 | st3
  · refine g_callV (E' := ze_X5_statement) HW rfl rfl (Nat.le_of_ble_eq_true rfl) (Nat.le_of_ble_eq_true rfl) (Nat.le_of_ble_eq_true rfl) ok3.1 rfl hq_q rfl (Nat.le_of_ble_eq_true rfl) (c_statement0 ok3 st3 (fun h4 ok4 => zB_iff.mpr ?_))
    show G (18, [(0, .inl (.ref 49))], [.inl (.int (0 : Int32))], h4, 0, 0)
    refine zrn_ok HW 3 ?_
    exact zret_z rfl rfl (kk (0 : Int32) _ (Or.inl rfl) (dn _ _ ok4))
  have ok3z : wOK (zPhi (n, m, some (hi (hput (hput h 49 34 (.inl (.int (1 : Int32)))) 49 28 (.inl (.int (0 : Int32)))) 49 28 + 1), v)) N T h3 := okup ok3 st3
  refine g_callV (E' := ze_X5_statement) HW rfl rfl (Nat.le_of_ble_eq_true rfl) (Nat.le_of_ble_eq_true rfl) (Nat.le_of_ble_eq_true rfl) ok3.1 rfl hq_q rfl (Nat.le_of_ble_eq_true rfl) (c_statement ok3z (fun h4 ok4 => zB_iff.mpr ?_) (fun h4 ok4 => zB_iff.mpr ?_))
  · show G (18, [(0, .inl (.ref 49))], [.inl (.int (1 : Int32))], h4, 0, 0)
    refine zrn_ok HW 1 (zB_iff.mpr (?_ : G (23, [(0, .inl (.ref 49))], [], h4, 0, 0)))
    have ph := zPhi_at ok4
    exact loop 300 _ _ ok4 (by have hz := zPhi_at ok2; omega)
  · show G (18, [(0, .inl (.ref 49))], [.inl (.int (0 : Int32))], h4, 0, 0)
    refine zrn_ok HW 3 ?_
    exact zret_z rfl rfl (kk (0 : Int32) _ (Or.inl rfl) (dn _ _ ok4))
