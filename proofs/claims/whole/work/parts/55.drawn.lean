theorem hins_sd (h : zH) (q : Nat) (v : zV) : ∀ k : Nat, hins (hput h q 15 v) q k = hins h q k
  | 0 => rfl
  | k + 1 => by
    show hins (hput h q 15 v) q k + (1 - hi (hput h q 15 v) (q + 17) (k + 1)) = _
    rw [hins_sd h q v k, hi_put_ne (Or.inl (by omega))]
    rfl
theorem hDr_sd (h : zH) (q : Nat) (v : zV) (s : Int) : hDr (hput h q 15 v) q s ↔ hDr h q s := by
  have e9 : hi (hput h q 15 v) q 9 = hi h q 9 := hi_put_ne (Or.inr (by omega))
  have e17 : hi (hput h q 15 v) q 17 = hi h q 17 := hi_put_ne (Or.inr (by omega))
  have e13 : hi (hput h q 15 v) q 13 = hi h q 13 := hi_put_ne (Or.inr (by omega))
  have a17 : ∀ i, hi (hput h q 15 v) (q + 17) i = hi h (q + 17) i := fun i => hi_put_ne (Or.inl (by omega))
  have a18 : ∀ i, hi (hput h q 15 v) (q + 18) i = hi h (q + 18) i := fun i => hi_put_ne (Or.inl (by omega))
  have a19 : ∀ i, hi (hput h q 15 v) (q + 19) i = hi h (q + 19) i := fun i => hi_put_ne (Or.inl (by omega))
  have a20 : ∀ i, hi (hput h q 15 v) (q + 20) i = hi h (q + 20) i := fun i => hi_put_ne (Or.inl (by omega))
  have a22 : ∀ i, hi (hput h q 15 v) (q + 22) i = hi h (q + 22) i := fun i => hi_put_ne (Or.inl (by omega))
  unfold hDr hFree
  simp only [e9, e17, e13, a17, a18, a19, a20, a22, hins_sd]
theorem c_drawn {P : pP} {N : Nat} {scr : List zV} {d : Nat} {T : List Nat} {h : zH} {q : Nat} {post : Option zV → zH → Bool} (ok : wOK (zPhi P) N T h) (hq_q : T[q]? = some 5) (hD : 0 < hcnt h q (hi h q 9).toNat)
    (kk : ∀ s v : Int32, hDr h q s.toInt → wOK (zPhi P) N T (hput h q 15 (.inl (.int v))) → post (some (.inl (.int s))) (hput h q 15 (.inl (.int v))) = true) : zD zprog scr (d + 4) 174 [.inl (.ref q)] h post = true := by
  refine zD_intro (E := ze_X5_drawn) rfl rfl (fun G HW => ?_)
  have hst := p_stab P
  obtain ⟨lay, hJ⟩ := ok.2.1.2.1 q 5 hq_q (Or.inl rfl)
  obtain ⟨sl, gS, eS, lS, uS⟩ := hi_val (i := 9) ok.1 hq_q (by decide) rfl
  have lS : (1 : Int) ≤ sl.toInt := lS
  have uS : sl.toInt ≤ (60 : Int) := uS
  refine zrn_ok HW 2 (zB_iff.mpr (?_ : G (2, [(0, .inl (.ref q))], [.inl (.ref q), .inl (.ref q)], h, 0, 0)))
  refine g_callV (E' := ze_X5_drawableMany) HW rfl rfl (Nat.le_of_ble_eq_true rfl) (Nat.le_of_ble_eq_true rfl) (Nat.le_of_ble_eq_true rfl) ok.1 rfl hq_q rfl (Nat.le_of_ble_eq_true rfl) (c_drawableMany ok hq_q lay hJ (fun D eD lD uD => zB_iff.mpr ?_))
  show G (5, [(0, .inl (.ref q))], [.inl (.int D), .inl (.ref q)], h, 0, 0)
  refine g_callV (E' := ze_X5_below) HW rfl rfl (Nat.le_of_ble_eq_true rfl) (Nat.le_of_ble_eq_true rfl) (Nat.le_of_ble_eq_true rfl) ok.1 rfl hq_q rfl (Nat.le_of_ble_eq_true rfl) (c_below hst ok hq_q (by omega) (fun r v lr ur ok2 => zB_iff.mpr ?_))
  show G (8, [(0, .inl (.ref q))], [.inl (.int r)], hput h q 15 (.inl (.int v)), 0, 0)
  obtain ⟨lay2, hJ2⟩ := ok2.2.1.2.1 q 5 hq_q (Or.inl rfl)
  have loop : ∀ i j : Nat, ((i + j : Nat) : Int) = sl.toInt → ∀ l : Int32, l.toInt = r.toInt - hcnt h q j → 0 ≤ l.toInt → G (11, [(2, .inl (.int (Int32.ofNat (j + 1)))), (1, .inl (.int l)), (0, .inl (.ref q))], [], hput h q 15 (.inl (.int v)), 0, 0) := by
    intro i
    induction i with
    | zero =>
      intro j hj l hl h0
      exfalso
      have e : (hi h q 9).toNat = j := by omega
      rw [e] at eD
      omega
    | succ i ih =>
      intro j hj l hl h0
      have ej := nI_int (k := j + 1) (by omega)
      have nx : ∀ l' : Int32, l'.toInt = r.toInt - hcnt h q (j + 1) → 0 ≤ l'.toInt → G (11, [(2, .inl (.int (Int32.ofNat (j + 1) + Int32.ofInt 1))), (1, .inl (.int l')), (0, .inl (.ref q))], [], hput h q 15 (.inl (.int v)), 0, 0) := fun l' h1 h2 => by
        have := ih (j + 1) (by omega) l' h1 h2
        rw [← nI_add1 (k := j + 1)] at this
        exact this
      refine zrn_ok HW 2 (zB_iff.mpr (?_ : G (13, [(2, .inl (.int (Int32.ofNat (j + 1)))), (1, .inl (.int l)), (0, .inl (.ref q))], [.inl (.int (Int32.ofNat (j + 1))), .inl (.ref q)], hput h q 15 (.inl (.int v)), 0, 0)))
      refine g_callV (E' := ze_X5_canDraw) HW rfl rfl (Nat.le_of_ble_eq_true rfl) (Nat.le_of_ble_eq_true rfl) (Nat.le_of_ble_eq_true rfl) ok2.1 rfl hq_q rfl (Nat.le_of_ble_eq_true rfl) (c_canDraw5 ok2 hq_q lay2 hJ2 (fun hd => zB_iff.mpr ?_) (fun hn => zB_iff.mpr ?_))
      · have hd := (hDr_sd h q _ _).mp hd
        show G (16, [(2, .inl (.int (Int32.ofNat (j + 1)))), (1, .inl (.int l)), (0, .inl (.ref q))], [.inl (.int (1 : Int32))], hput h q 15 (.inl (.int v)), 0, 0)
        have hd2 := hd
        rw [ej] at hd2
        have ec := hcnt_t hd2
        refine zrn_ok HW 1 (zB_iff.mpr (?_ : G (19, [(2, .inl (.int (Int32.ofNat (j + 1)))), (1, .inl (.int l)), (0, .inl (.ref q))], [], hput h q 15 (.inl (.int v)), 0, 0)))
        refine zrn_ok HW 3 (zbr_ex (cd := .le) (x := l) (y := 0) (fun hc => zB_iff.mpr ?_) (fun hc => zB_iff.mpr ?_))
        · refine zrn_ok HW 2 ?_
          exact zret_i rfl rfl (kk _ v hd ok2)
        · have h1 := Int32.lt_iff_toInt_lt.mp (Int32.not_le.mp hc)
          have z0 : (0 : Int32).toInt = 0 := rfl
          have m1 : (Int32.ofInt (-1)).toInt = -1 := by decide
          have s2 : (l + Int32.ofInt (-1)).toInt = l.toInt - 1 := by
            rw [t_add (x := l) (y := Int32.ofInt (-1)) (by rw [m1]; omega) (by rw [m1]; have := t_hi l; omega), m1]
            exact Int.sub_eq_add_neg.symm
          have q1 : l.toInt - 1 = r.toInt - hcnt h q (j + 1) := by omega
          have h1' : (0 : Int) < l.toInt := h1
          have q2 : 0 ≤ l.toInt - 1 := Int.sub_nonneg_of_le h1'
          refine zrn_ok HW 2 (zB_iff.mpr ?_)
          exact nx (l + Int32.ofInt (-1)) (s2.trans q1) (by rw [s2]; exact q2)
      · have hn := fun e => hn ((hDr_sd h q (.inl (.int v)) _).mpr e)
        show G (16, [(2, .inl (.int (Int32.ofNat (j + 1)))), (1, .inl (.int l)), (0, .inl (.ref q))], [.inl (.int (0 : Int32))], hput h q 15 (.inl (.int v)), 0, 0)
        rw [ej] at hn
        have ec := hcnt_f hn
        refine zrn_ok HW 3 (zB_iff.mpr ?_)
        exact nx l (by omega) h0
  refine zrn_ok HW 3 (zB_iff.mpr ?_)
  exact loop sl.toInt.toNat 0 (by omega) r (by show _ = r.toInt - 0; omega) (by omega)
