theorem c_wrongIn {P : pP} {N : Nat} {scr : List zV} {d : Nat} {T : List Nat} {h : zH} {rw : Nat} {n : Int32} {post : Option zV → zH → Bool} (ok : wOK (zPhi P) N T h) (hN : h.length + 30 ≤ N) (h6 : N ≤ 1000000) (hr : T[rw]? = some 28) (hn : 0 ≤ n.toInt ∧ n.toInt ≤ 40)
    (kk : ∀ (r : Int32) (T' : List Nat) (h' : zH), tExt T T' → wOK (zPhi P) N T' h' → (∀ p i : Nat, T[p]? = some 28 → hget h' p i = hget h p i) → (r.toInt = -1 → ∀ i : Nat, (i : Int) < n.toInt → ∃ x : Int64, hget h rw i = some (.inl (.long x)) ∧ 1 ≤ x.toInt ∧ x.toInt ≤ 60) → post (some (.inl (.int r))) h' = true) : zD zprog scr (d + 5) 250 [.inl (.ref 49), .inl (.ref rw), .inl (.int n)] h post = true := by
  have hq_q := ok.2.1.1.2.2.1
  have hst := p_stab P
  refine zD_intro (E := ze_X5_wrongIn) rfl rfl (fun G HW => ?_)
  refine zrn_ok HW 1 (zB_iff.mpr (?_ : G (1, [(0, .inl (.ref 49)), (1, .inl (.ref rw)), (2, .inl (.int n))], [.inl (.ref 49)], h, 0, 0)))
  refine g_callV (E' := ze_X5_fresh) HW rfl rfl (Nat.le_of_ble_eq_true rfl) (Nat.le_of_ble_eq_true rfl) (Nat.le_of_ble_eq_true rfl) ok.1 rfl hq_q rfl (Nat.le_of_ble_eq_true rfl) (c_fresh ok hN h6 (fun w Tf hf mf okf tw f28 => zB_iff.mpr ?_))
  show G (4, [(0, .inl (.ref 49)), (1, .inl (.ref rw)), (2, .inl (.int n))], [.inl (.ref w)], hf, 30, 843)
  have hq_f : Tf[49]? = some 5 := mf _ _ hq_q
  have hr_f : Tf[rw]? = some 28 := mf _ _ hr
  have loop : ∀ i j : Nat, ((i + j : Nat) : Int) = n.toInt → ∀ hl : zH, wOK (zPhi P) N Tf hl → (∀ p i : Nat, T[p]? = some 28 → hget hl p i = hget h p i) → (∀ i : Nat, i < j → ∃ x : Int64, hget h rw i = some (.inl (.long x)) ∧ 1 ≤ x.toInt ∧ x.toInt ≤ 60) → G (13, [(4, .inl (.int (Int32.ofNat j))), (3, .inl (.ref w)), (0, .inl (.ref 49)), (1, .inl (.ref rw)), (2, .inl (.int n))], [], hl, 30, 843) := by
    intro i
    induction i with
    | zero =>
      intro j hj hl okl Fl y0
      have ej := nI_int (k := j) (by omega)
      have ejn : (Int32.ofNat j).toInt.toNat = j := by omega
      have layw := (okl.2.1.2.1 w 6 tw (Or.inr rfl)).1
      have l17 : Tf[w + 17]? = some 31 := (layw.1 (16, 17, 31) (by decide +kernel)).2
      have l21 : Tf[w + 21]? = some 35 := (layw.1 (21, 21, 35) (by decide +kernel)).2
      have l22 : Tf[w + 22]? = some 36 := (layw.1 (22, 22, 36) (by decide +kernel)).2
      refine zrn_ok HW 3 (zbr_ex (cd := .ge) (x := (Int32.ofNat j)) (y := n) (fun hc1 => zB_iff.mpr ?_) (fun hc1 => zB_iff.mpr ?_))
      · -- pc 75
        have i1 : (Int32.ofNat j).toInt ≥ n.toInt := zop_int.mp hc1
        refine zrn_ok HW 2 ?_
        exact zret_i rfl rfl (kk (-1) Tf hl mf okl Fl (fun _ i hi => y0 i (by omega)))
      · -- pc 19
        have i1 : ¬ ((Int32.ofNat j).toInt ≥ n.toInt) := fun e => hc1 (zop_int.mpr e)
        exfalso
        omega
    | succ i ih =>
      intro j hj hl okl Fl y0
      have ej := nI_int (k := j) (by omega)
      have ejn : (Int32.ofNat j).toInt.toNat = j := by omega
      have layw := (okl.2.1.2.1 w 6 tw (Or.inr rfl)).1
      have l17 : Tf[w + 17]? = some 31 := (layw.1 (16, 17, 31) (by decide +kernel)).2
      have l21 : Tf[w + 21]? = some 35 := (layw.1 (21, 21, 35) (by decide +kernel)).2
      have l22 : Tf[w + 22]? = some 36 := (layw.1 (22, 22, 36) (by decide +kernel)).2
      refine zrn_ok HW 3 (zbr_ex (cd := .ge) (x := (Int32.ofNat j)) (y := n) (fun hc1 => zB_iff.mpr ?_) (fun hc1 => zB_iff.mpr ?_))
      · -- pc 75
        have i1 : (Int32.ofNat j).toInt ≥ n.toInt := zop_int.mp hc1
        exfalso
        omega
      · -- pc 19
        have i1 : ¬ ((Int32.ofNat j).toInt ≥ n.toInt) := fun e => hc1 (zop_int.mpr e)
        refine zrn_ok HW 2 (zB_iff.mpr (?_ : G (22, [(4, .inl (.int (Int32.ofNat j))), (3, .inl (.ref w)), (0, .inl (.ref 49)), (1, .inl (.ref rw)), (2, .inl (.int n))], [.inl (.int (Int32.ofNat j)), .inl (.ref rw)], hl, 30, 843)))
        obtain ⟨v2, g2, s2⟩ := hOK_get (i := ((Int32.ofNat j)).toInt.toNat) okl.1 hr_f (by show _ < 40; omega)
        obtain ⟨x2, rfl⟩ : ∃ x : Int64, v2 = .inl (.long x) := s2
        refine g_lald HW rfl okl.1 hr_f rfl (by omega) g2 ?_
        refine zrn_ok HW 2 (zB_iff.mpr (?_ : G (25, [(4, .inl (.int (Int32.ofNat j))), (3, .inl (.ref w)), (0, .inl (.ref 49)), (1, .inl (.ref rw)), (2, .inl (.int n))], [.inl (.ref 49), .inl (.long (1 : Int64)), .inl (.long x2)], hl, 30, 843)))
        obtain ⟨x3, g3, e3, l3, u3⟩ := hi_val (i := 9) okl.1 hq_f (by decide) rfl
        have l3 : (1 : Int) ≤ x3.toInt := l3
        have u3 : x3.toInt ≤ (60 : Int) := u3
        refine g_getf HW rfl okl.1 hq_f rfl g3 ?_
        refine zrn_ok HW 1 (zB_iff.mpr (?_ : G (29, [(4, .inl (.int (Int32.ofNat j))), (3, .inl (.ref w)), (0, .inl (.ref 49)), (1, .inl (.ref rw)), (2, .inl (.int n))], [.inl (.long (Int32.toInt64 x3)), .inl (.long (1 : Int64)), .inl (.long x2)], hl, 30, 843)))
        refine g_callS (b := 0) (E' := ze_X5_in) HW (Or.inl rfl) rfl rfl (Nat.le_of_ble_eq_true rfl) (Nat.le_of_ble_eq_true rfl) (Nat.le_of_ble_eq_true rfl) (Nat.le_of_ble_eq_true rfl) (c_in (fun a4 b4 => zB_iff.mpr ?_) (fun n4 => zB_iff.mpr ?_))
        · show G (32, [(4, .inl (.int (Int32.ofNat j))), (3, .inl (.ref w)), (0, .inl (.ref 49)), (1, .inl (.ref rw)), (2, .inl (.int n))], [.inl (.int (1 : Int32))], hl, 30, 843)
          have a4 : (1 : Int) ≤ x2.toInt := by have r1 : (1 : Int64).toInt = 1 := rfl; have r2 : (Int32.toInt64 x3).toInt = x3.toInt := q_i2l _; omega
          have b4 : x2.toInt ≤ x3.toInt := by have r1 : (1 : Int64).toInt = 1 := rfl; have r2 : (Int32.toInt64 x3).toInt = x3.toInt := q_i2l _; omega
          refine zrn_ok HW 4 (zB_iff.mpr (?_ : G (39, [(4, .inl (.int (Int32.ofNat j))), (3, .inl (.ref w)), (0, .inl (.ref 49)), (1, .inl (.ref rw)), (2, .inl (.int n))], [.inl (.int (Int32.ofNat j)), .inl (.ref rw), .inl (.ref w)], hl, 30, 843)))
          refine g_lald HW rfl okl.1 hr_f rfl (by omega) g2 ?_
          refine zrn_ok HW 1 (zB_iff.mpr (?_ : G (41, [(4, .inl (.int (Int32.ofNat j))), (3, .inl (.ref w)), (0, .inl (.ref 49)), (1, .inl (.ref rw)), (2, .inl (.int n))], [.inl (.int (Int64.toInt32 x2)), .inl (.ref w)], hl, 30, 843)))
          have ex6 : (Int64.toInt32 x2).toInt = x2.toInt := tq_l2i (by omega) (by omega)
          refine g_callV (E' := ze_X5_canDraw) HW rfl rfl (Nat.le_of_ble_eq_true rfl) (Nat.le_of_ble_eq_true rfl) (Nat.le_of_ble_eq_true rfl) okl.1 rfl tw rfl (Nat.le_of_ble_eq_true rfl) (c_canDraw6 okl tw (okl.2.1.2.1 w 6 tw (Or.inr rfl)).1 (okl.2.1.2.1 w 6 tw (Or.inr rfl)).2 (fun dr6 => zB_iff.mpr ?_) (fun dn6 => zB_iff.mpr ?_))
          · show G (44, [(4, .inl (.int (Int32.ofNat j))), (3, .inl (.ref w)), (0, .inl (.ref 49)), (1, .inl (.ref rw)), (2, .inl (.int n))], [.inl (.int (1 : Int32))], hl, 30, 843)
            refine zrn_ok HW 3 (zB_iff.mpr (?_ : G (52, [(4, .inl (.int (Int32.ofNat j))), (3, .inl (.ref w)), (0, .inl (.ref 49)), (1, .inl (.ref rw)), (2, .inl (.int n))], [.inl (.ref 49), .inl (.ref 49)], hl, 30, 843)))
            obtain ⟨x7, g7, e7, l7, u7⟩ := hi_val (i := 40) okl.1 hq_f (by decide) rfl
            have l7 : ((-2147483648) : Int) ≤ x7.toInt := l7
            have u7 : x7.toInt ≤ (2147483647 : Int) := u7
            refine g_getf HW rfl okl.1 hq_f rfl g7 ?_
            refine zrn_ok HW 3 (zB_iff.mpr (?_ : G (59, [(4, .inl (.int (Int32.ofNat j))), (3, .inl (.ref w)), (0, .inl (.ref 49)), (1, .inl (.ref rw)), (2, .inl (.int n))], [.inl (.int (Int32.ofNat j)), .inl (.ref rw), .inl (.ref w), .inl (.int x7), .inl (.ref 49)], hl, 30, 843)))
            refine g_lald HW rfl okl.1 hr_f rfl (by omega) g2 ?_
            refine zrn_ok HW 2 (zB_iff.mpr (?_ : G (62, [(4, .inl (.int (Int32.ofNat j))), (3, .inl (.ref w)), (0, .inl (.ref 49)), (1, .inl (.ref rw)), (2, .inl (.int n))], [.inl (.int (0 : Int32)), .inl (.int (Int64.toInt32 x2)), .inl (.ref w), .inl (.int x7), .inl (.ref 49)], hl, 30, 843)))
            have ex9 : (Int64.toInt32 x2).toInt = x2.toInt := tq_l2i (by omega) (by omega)
            refine g_callV (E' := ze_X5_comesOut) HW rfl rfl (Nat.le_of_ble_eq_true rfl) (Nat.le_of_ble_eq_true rfl) (Nat.le_of_ble_eq_true rfl) okl.1 rfl tw rfl (Nat.le_of_ble_eq_true rfl) (c_comesOut6 okl tw ⟨by omega, by omega⟩ ⟨by decide, by decide⟩ (fun r9 h9 ok9 fr9 ot9 os9 => zB_iff.mpr ?_))
            show G (65, [(4, .inl (.int (Int32.ofNat j))), (3, .inl (.ref w)), (0, .inl (.ref 49)), (1, .inl (.ref rw)), (2, .inl (.int n))], [.inl (.int r9), .inl (.int x7), .inl (.ref 49)], h9, 30, 843)
            refine zrn_ok HW 1 (zB_iff.mpr (?_ : G (66, [(4, .inl (.int (Int32.ofNat j))), (3, .inl (.ref w)), (0, .inl (.ref 49)), (1, .inl (.ref rw)), (2, .inl (.int n))], [.inl (.int (x7 ||| r9)), .inl (.ref 49)], h9, 30, 843)))
            have ok10 : wOK (zPhi P) N Tf (hput h9 49 40 (.inl (.int (x7 ||| r9)))) := wOK_put hst ok9 hq_f rfl ⟨_, rfl, t_lo _, t_hi _⟩
            refine g_putf HW rfl ok9.1 hq_f rfl (by decide) rfl ?_
            have y11 : -2147483648 ≤ (Int32.ofNat j).toInt + (1 : Int) → (Int32.ofNat j).toInt + (1 : Int) ≤ 2147483647 → ((Int32.ofNat j) + (1 : Int32)).toInt = (Int32.ofNat j).toInt + (1 : Int) := t_addC (x := (Int32.ofNat j)) (y := (1 : Int32))
            refine zrn_ok HW 2 (zB_iff.mpr (?_ : G (13, [(4, .inl (.int ((Int32.ofNat j) + (1 : Int32)))), (3, .inl (.ref w)), (0, .inl (.ref 49)), (1, .inl (.ref rw)), (2, .inl (.int n))], [], (hput h9 49 40 (.inl (.int (x7 ||| r9)))), 30, 843)))
            have := ih (j + 1) (by omega) (hput h9 49 40 (.inl (.int (x7 ||| r9)))) ok10 (fun p i hp => ?_) (fun i hi0 => ?_)
            · rw [← nI_add1] at this
              exact this
            · have hp2 := mf _ _ hp
              rw [hget_put_ne (Or.inl (ty_ne hp2 hq_f (by decide))), fr9 p i (ty_ne hp2 l17 (by decide)) (ty_ne hp2 l21 (by decide)) (ty_ne hp2 l22 (by decide)) (Or.inl (ty_ne hp2 tw (by decide)))]
              exact Fl p i hp
            · by_cases e : i = j
              · subst e
                refine ⟨x2, ?_, by omega, by omega⟩
                rw [← Fl rw i hr]
                rw [ejn] at g2
                exact g2
              · exact y0 i (by omega)
          · show G (44, [(4, .inl (.int (Int32.ofNat j))), (3, .inl (.ref w)), (0, .inl (.ref 49)), (1, .inl (.ref rw)), (2, .inl (.int n))], [.inl (.int (0 : Int32))], hl, 30, 843)
            refine zrn_ok HW 3 ?_
            exact zret_i rfl rfl (kk (Int32.ofNat j) Tf hl mf okl Fl (fun e => by omega))
        · show G (32, [(4, .inl (.int (Int32.ofNat j))), (3, .inl (.ref w)), (0, .inl (.ref 49)), (1, .inl (.ref rw)), (2, .inl (.int n))], [.inl (.int (0 : Int32))], hl, 30, 843)
          have n4 : ¬ ((1 : Int) ≤ x2.toInt ∧ x2.toInt ≤ x3.toInt) := by have r1 : (1 : Int64).toInt = 1 := rfl; have r2 : (Int32.toInt64 x3).toInt = x3.toInt := q_i2l _; omega
          refine zrn_ok HW 3 ?_
          exact zret_i rfl rfl (kk (Int32.ofNat j) Tf hl mf okl Fl (fun e => by omega))
  refine zrn_ok HW 3 (zB_iff.mpr (?_ : G (7, [(3, .inl (.ref w)), (0, .inl (.ref 49)), (1, .inl (.ref rw)), (2, .inl (.int n))], [.inl (.int (0 : Int32)), .inl (.ref 49)], hf, 30, 843)))
  have ok1 : wOK (zPhi P) N Tf (hput hf 49 40 (.inl (.int (0 : Int32)))) := wOK_put hst okf hq_f rfl ⟨_, rfl, (by show ((-2147483648) : Int) ≤ Int32.toInt (0 : Int32); decide), (by show Int32.toInt (0 : Int32) ≤ (2147483647 : Int); decide)⟩
  refine g_putf HW rfl okf.1 hq_f rfl (by decide) rfl ?_
  refine zrn_ok HW 2 (zB_iff.mpr (?_ : G (13, [(4, .inl (.int (0 : Int32))), (3, .inl (.ref w)), (0, .inl (.ref 49)), (1, .inl (.ref rw)), (2, .inl (.int n))], [], (hput hf 49 40 (.inl (.int (0 : Int32)))), 30, 843)))
  exact loop n.toInt.toNat 0 (by omega) _ ok1 (fun p i hp => (hget_put_ne (Or.inl (ty_ne (mf _ _ hp) hq_f (by decide)))).trans (f28 p i hp)) (fun i hi0 => absurd hi0 (by omega))
