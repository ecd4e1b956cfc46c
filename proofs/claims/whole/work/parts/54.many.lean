/-- how many of the first k slips can be drawn -/
noncomputable def hcnt (h : zH) (q : Nat) : Nat → Int
  | 0 => 0
  | k + 1 => hcnt h q k + (if zB (hDr h q ((k + 1 : Nat) : Int)) = true then 1 else 0)
theorem hcnt_b (h : zH) (q : Nat) : ∀ k : Nat, 0 ≤ hcnt h q k ∧ hcnt h q k ≤ (k : Int)
  | 0 => ⟨Int.le_refl _, Int.le_refl _⟩
  | k + 1 => by
    have := hcnt_b h q k
    show 0 ≤ hcnt h q k + (if zB (hDr h q ((k + 1 : Nat) : Int)) = true then 1 else 0) ∧ hcnt h q k + (if zB (hDr h q ((k + 1 : Nat) : Int)) = true then 1 else 0) ≤ _
    split <;> omega
theorem hcnt_t {h : zH} {q k : Nat} (hd : hDr h q ((k + 1 : Nat) : Int)) : hcnt h q (k + 1) = hcnt h q k + 1 := by
  show hcnt h q k + (if zB (hDr h q ((k + 1 : Nat) : Int)) = true then 1 else 0) = _
  rw [if_pos (zB_iff.mpr hd)]
theorem hcnt_f {h : zH} {q k : Nat} (hd : ¬ hDr h q ((k + 1 : Nat) : Int)) : hcnt h q (k + 1) = hcnt h q k := by
  show hcnt h q k + (if zB (hDr h q ((k + 1 : Nat) : Int)) = true then 1 else 0) = _
  rw [if_neg (fun e => hd (zB_iff.mp e))]
  omega
theorem c_drawableMany {Φ : List Nat → zH → Prop} {N : Nat} {scr : List zV} {d : Nat} {T : List Nat} {h : zH} {q : Nat} {post : Option zV → zH → Bool} (ok : wOK Φ N T h) (hq_q : T[q]? = some 5) (lay : pLay T h q) (hJ : pJ h q) (kk : ∀ m : Int32, m.toInt = hcnt h q (hi h q 9).toNat → 0 ≤ m.toInt → m.toInt ≤ 60 → post (some (.inl (.int m))) h = true) : zD zprog scr (d + 3) 173 [.inl (.ref q)] h post = true := by
  refine zD_intro (E := ze_X5_drawableMany) rfl rfl (fun G HW => ?_)
  obtain ⟨sl, gS, eS, lS, uS⟩ := hi_val (i := 9) ok.1 hq_q (by decide) rfl
  have lS : (1 : Int) ≤ sl.toInt := lS
  have uS : sl.toInt ≤ (60 : Int) := uS
  have loop : ∀ i j : Nat, ((i + j : Nat) : Int) = sl.toInt → ∀ m : Int32, m.toInt = hcnt h q j → G (4, [(2, .inl (.int (Int32.ofNat (j + 1)))), (1, .inl (.int m)), (0, .inl (.ref q))], [], h, 0, 0) := by
    intro i
    induction i with
    | zero =>
      intro j hj m hm
      have ej := nI_int (k := j + 1) (by omega)
      refine zrn_ok HW 2 (zB_iff.mpr (?_ : G (6, [(2, .inl (.int (Int32.ofNat (j + 1)))), (1, .inl (.int m)), (0, .inl (.ref q))], [.inl (.ref q), .inl (.int (Int32.ofNat (j + 1)))], h, 0, 0)))
      refine g_getf HW rfl ok.1 hq_q rfl gS ?_
      refine zrn_ok HW 1 (zbr_ex (cd := .gt) (x := Int32.ofNat (j + 1)) (y := sl) (fun hc => zB_iff.mpr ?_) (fun hc => zB_iff.mpr ?_))
      · refine zrn_ok HW 2 ?_
        have := hcnt_b h q j
        refine zret_i rfl rfl (kk m ?_ (by omega) (by omega))
        rw [hm, eS]
        congr 1
        omega
      · exfalso
        have := Int32.le_iff_toInt_le.mp (Int32.not_lt.mp hc)
        omega
    | succ i ih =>
      intro j hj m hm
      have ej := nI_int (k := j + 1) (by omega)
      have hbj := hcnt_b h q j
      have h1 : (1 : Int32).toInt = 1 := rfl
      have h0 : (0 : Int32).toInt = 0 := rfl
      have s1 := t_add (x := m) (y := 1) (by omega) (by omega)
      have s0 := t_add (x := m) (y := 0) (by omega) (by omega)
      have nx : ∀ m' : Int32, m'.toInt = hcnt h q (j + 1) → G (4, [(2, .inl (.int (Int32.ofNat (j + 1) + Int32.ofInt 1))), (1, .inl (.int m')), (0, .inl (.ref q))], [], h, 0, 0) := fun m' hm' => by
        have := ih (j + 1) (by omega) m' hm'
        rw [← nI_add1 (k := j + 1)] at this
        exact this
      refine zrn_ok HW 2 (zB_iff.mpr (?_ : G (6, [(2, .inl (.int (Int32.ofNat (j + 1)))), (1, .inl (.int m)), (0, .inl (.ref q))], [.inl (.ref q), .inl (.int (Int32.ofNat (j + 1)))], h, 0, 0)))
      refine g_getf HW rfl ok.1 hq_q rfl gS ?_
      refine zrn_ok HW 1 (zbr_ex (cd := .gt) (x := Int32.ofNat (j + 1)) (y := sl) (fun hc => zB_iff.mpr ?_) (fun hc => zB_iff.mpr ?_))
      · exfalso
        have := Int32.lt_iff_toInt_lt.mp (show sl < Int32.ofNat (j + 1) from hc)
        omega
      · refine zrn_ok HW 3 (zB_iff.mpr (?_ : G (15, [(2, .inl (.int (Int32.ofNat (j + 1)))), (1, .inl (.int m)), (0, .inl (.ref q))], [.inl (.int (Int32.ofNat (j + 1))), .inl (.ref q), .inl (.int m)], h, 0, 0)))
        refine g_callV (E' := ze_X5_canDraw) HW rfl rfl (Nat.le_of_ble_eq_true rfl) (Nat.le_of_ble_eq_true rfl) (Nat.le_of_ble_eq_true rfl) ok.1 rfl hq_q rfl (Nat.le_of_ble_eq_true rfl) (c_canDraw5 ok hq_q lay hJ (fun hd => zB_iff.mpr ?_) (fun hn => zB_iff.mpr ?_))
        · rw [ej] at hd
          show G (18, [(2, .inl (.int (Int32.ofNat (j + 1)))), (1, .inl (.int m)), (0, .inl (.ref q))], [.inl (.int (1 : Int32)), .inl (.int m)], h, 0, 0)
          refine zrn_ok HW 7 (zB_iff.mpr ?_)
          exact nx (m + 1) (by rw [hcnt_t hd]; omega)
        · rw [ej] at hn
          show G (18, [(2, .inl (.int (Int32.ofNat (j + 1)))), (1, .inl (.int m)), (0, .inl (.ref q))], [.inl (.int (0 : Int32)), .inl (.int m)], h, 0, 0)
          refine zrn_ok HW 6 (zB_iff.mpr ?_)
          exact nx (m + 0) (by rw [hcnt_f hn]; omega)
  refine zrn_ok HW 4 (zB_iff.mpr ?_)
  exact loop sl.toInt.toNat 0 (by omega) 0 rfl
