theorem c_standing5 {scr : List zV} {d : Nat} {T : List Nat} {h : zH} {q : Nat} {Φ : List Nat → zH → Prop} {N : Nat} {post : Option zV → zH → Bool} (ok : wOK Φ N T h) (hq_q : T[q]? = some 5) (lay : pLay T h q) (kk : ∀ m : Int32, hStd h q m → 0 ≤ m.toInt → m.toInt ≤ 255 → post (some (.inl (.int m))) h = true) : zD zprog scr (d + 1) 226 [.inl (.ref q)] h post = true := by
  refine zD_intro (E := ze_X5_standing) rfl rfl (fun G HW => ?_)
  obtain ⟨nT, gT, eT, lT, uT⟩ := hi_val (i := 17) ok.1 hq_q (by decide) rfl
  have lT : (0 : Int) ≤ nT.toInt := lT
  have uT : nT.toInt ≤ (8 : Int) := uT
  have loop : ∀ i j : Nat, ((i + j : Nat) : Int) = nT.toInt → ∀ (m : Int32), (∀ t : Nat, t < 8 → nbt m t = if t < j ∧ hi h (q + 22) t = -1 then 1 else 0) → 0 ≤ m.toInt → m.toInt ≤ 255 → G (4, [(2, .inl (.int (Int32.ofNat j))), (1, .inl (.int m)), (0, .inl (.ref q))], [], h, 0, 0) := by
    intro i
    induction i with
    | zero =>
      intro j hj m y_0 y_1 y_2
      have ej := nI_int (k := j) (by omega)
      have ejn : (Int32.ofNat j).toInt.toNat = j := by omega
      refine zrn_ok HW 2 (zB_iff.mpr (?_ : G (6, [(2, .inl (.int (Int32.ofNat j))), (1, .inl (.int m)), (0, .inl (.ref q))], [.inl (.ref q), .inl (.int (Int32.ofNat j))], h, 0, 0)))
      refine g_getf HW rfl ok.1 hq_q rfl gT ?_
      refine zrn_ok HW 1 (zbr_ex (cd := .ge) (x := (Int32.ofNat j)) (y := nT) (fun hc2 => zB_iff.mpr ?_) (fun hc2 => zB_iff.mpr ?_))
      · -- pc 38
        have i2 : (Int32.ofNat j).toInt ≥ nT.toInt := zop_int.mp hc2
        refine zrn_ok HW 2 ?_
        refine zret_i rfl rfl (kk m (fun t ht => ?_) y_1 y_2)
        rw [y_0 t ht]
        by_cases e : (t : Int) < hi h q 17 ∧ hi h (q + 22) t = -1
        · rw [if_pos e, if_pos ⟨by omega, e.2⟩]
        · rw [if_neg e, if_neg (fun x => e ⟨by omega, x.2⟩)]
      · -- pc 12
        have i2 : ¬ ((Int32.ofNat j).toInt ≥ nT.toInt) := fun e => hc2 (zop_int.mpr e)
        exfalso
        omega
    | succ i ih =>
      intro j hj m y_0 y_1 y_2
      have ej := nI_int (k := j) (by omega)
      have ejn : (Int32.ofNat j).toInt.toNat = j := by omega
      refine zrn_ok HW 2 (zB_iff.mpr (?_ : G (6, [(2, .inl (.int (Int32.ofNat j))), (1, .inl (.int m)), (0, .inl (.ref q))], [.inl (.ref q), .inl (.int (Int32.ofNat j))], h, 0, 0)))
      refine g_getf HW rfl ok.1 hq_q rfl gT ?_
      refine zrn_ok HW 1 (zbr_ex (cd := .ge) (x := (Int32.ofNat j)) (y := nT) (fun hc2 => zB_iff.mpr ?_) (fun hc2 => zB_iff.mpr ?_))
      · -- pc 38
        have i2 : (Int32.ofNat j).toInt ≥ nT.toInt := zop_int.mp hc2
        exfalso
        omega
      · -- pc 12
        have i2 : ¬ ((Int32.ofNat j).toInt ≥ nT.toInt) := fun e => hc2 (zop_int.mpr e)
        refine zrn_ok HW 2 (zB_iff.mpr (?_ : G (14, [(2, .inl (.int (Int32.ofNat j))), (1, .inl (.int m)), (0, .inl (.ref q))], [.inl (.ref q), .inl (.int m)], h, 0, 0)))
        have o4 : hget h q 22 = some (.inl (.ref (q + 22))) := (lay.1 (22, 22, 36) (by decide +kernel)).1
        have t4 : T[q + 22]? = some 36 := (lay.1 (22, 22, 36) (by decide +kernel)).2
        refine g_getf HW rfl ok.1 hq_q rfl o4 ?_
        refine zrn_ok HW 1 (zB_iff.mpr (?_ : G (18, [(2, .inl (.int (Int32.ofNat j))), (1, .inl (.int m)), (0, .inl (.ref q))], [.inl (.int (Int32.ofNat j)), .inl (.ref (q + 22)), .inl (.int m)], h, 0, 0)))
        obtain ⟨x5, g5, e5, l5, u5⟩ := hi_val (i := ((Int32.ofNat j)).toInt.toNat) ok.1 t4 (by show _ < 8; omega) rfl
        have l5 : ((-1) : Int) ≤ x5.toInt := l5
        have u5 : x5.toInt ≤ (3 : Int) := u5
        refine g_iald HW rfl ok.1 t4 rfl (by omega) g5 ?_
        refine zrn_ok HW 2 (zbr_ex (cd := .ne) (x := x5) (y := (-1 : Int32)) (fun hc6 => zB_iff.mpr ?_) (fun hc6 => zB_iff.mpr ?_))
        · -- pc 29
          have i6 : ¬ x5.toInt = (-1 : Int) := zop_int.mp hc6
          refine zrn_ok HW 5 (zB_iff.mpr (?_ : G (4, [(2, .inl (.int ((Int32.ofNat j) + (1 : Int32)))), (1, .inl (.int (m ||| (0 : Int32)))), (0, .inl (.ref q))], [], h, 0, 0)))
          rw [ejn] at e5
          have e5 : hi h (q + 22) j = x5.toInt := e5
          have m0 : m ||| (0 : Int32) = m := by
            apply Int32.toBitVec_inj.mp
            rw [Int32.toBitVec_or]
            exact BitVec.or_zero
          have := ih (j + 1) (by omega) m (fun t ht => ?_) y_1 y_2
          · rw [← nI_add1] at this
            rw [m0]
            exact this
          · rw [y_0 t ht]
            by_cases e0 : t = j
            · subst e0
              rw [if_neg (fun x => by omega), if_neg (fun x => by omega)]
            · by_cases e1 : t < j ∧ hi h (q + 22) t = -1
              · rw [if_pos e1, if_pos ⟨by omega, e1.2⟩]
              · rw [if_neg e1, if_neg (fun x => e1 ⟨by omega, x.2⟩)]
        · -- pc 23
          have i6 : ¬ (¬ x5.toInt = (-1 : Int)) := fun e => hc6 (zop_int.mpr e)
          refine zrn_ok HW 8 (zB_iff.mpr (?_ : G (4, [(2, .inl (.int ((Int32.ofNat j) + (1 : Int32)))), (1, .inl (.int (m ||| ((1 : Int32) <<< ((Int32.ofNat j) &&& 31))))), (0, .inl (.ref q))], [], h, 0, 0)))
          rw [ejn] at e5
          have e5 : hi h (q + 22) j = x5.toInt := e5
          have sh : ((1 : Int32) <<< (Int32.ofNat j &&& 31)).toInt = 2 ^ j := by rw [t_shl (by omega) (by omega), ejn]
          have pw : (2 : Int) ^ j ≤ 128 ∧ 0 ≤ (2 : Int) ^ j := by
            have key : ∀ k : Nat, k < 8 → (2 : Int) ^ k ≤ 128 ∧ 0 ≤ (2 : Int) ^ k := by decide
            exact key j (by omega)
          have ro := t_or (n := 8) (x := m) (y := (1 : Int32) <<< (Int32.ofNat j &&& 31)) (by omega) y_1 (by omega) (by show m.toInt < 256; omega) (by rw [sh]; show (2 : Int) ^ j < 256; omega)
          have ro2 : (m ||| ((1 : Int32) <<< (Int32.ofNat j &&& 31))).toInt < (256 : Int) := ro.2
          have := ih (j + 1) (by omega) (m ||| ((1 : Int32) <<< (Int32.ofNat j &&& 31))) (fun t ht => ?_) ro.1 (by omega)
          · rw [← nI_add1] at this
            exact this
          · by_cases e0 : t = j
            · subst e0
              rw [nb_or (by omega) (Or.inr (by rw [nb_shl (by omega) (by omega), if_pos rfl])), if_pos ⟨by omega, by omega⟩]
            · have hs : nbt ((1 : Int32) <<< (Int32.ofNat j &&& 31)) t = 0 := by rw [nb_shl (by omega) (by omega), if_neg (fun e => e0 e.symm)]
              by_cases e1 : t < j ∧ hi h (q + 22) t = -1
              · rw [nb_or (by omega) (Or.inl (by rw [y_0 t ht, if_pos e1])), if_pos ⟨by omega, e1.2⟩]
              · rw [nb_or0 (by omega) (by rw [y_0 t ht, if_neg e1]) hs, if_neg (fun x => e1 ⟨by omega, x.2⟩)]
  have z0 : (0 : Int32).toInt = 0 := rfl
  refine zrn_ok HW 4 (zB_iff.mpr (?_ : G (4, [(2, .inl (.int (0 : Int32))), (1, .inl (.int (0 : Int32))), (0, .inl (.ref q))], [], h, 0, 0)))
  exact loop nT.toInt.toNat 0 (by omega) 0 (fun t ht => by rw [nb_zero ht, if_neg (fun x => by omega)]) (by decide) (by decide)
theorem c_standing6 {scr : List zV} {d : Nat} {T : List Nat} {h : zH} {q : Nat} {Φ : List Nat → zH → Prop} {N : Nat} {post : Option zV → zH → Bool} (ok : wOK Φ N T h) (hq_q : T[q]? = some 6) (lay : pLay T h q) (kk : ∀ m : Int32, hStd h q m → 0 ≤ m.toInt → m.toInt ≤ 255 → post (some (.inl (.int m))) h = true) : zD zprog scr (d + 1) 226 [.inl (.ref q)] h post = true := by
  refine zD_intro (E := ze_X5_standing) rfl rfl (fun G HW => ?_)
  obtain ⟨nT, gT, eT, lT, uT⟩ := hi_val (i := 17) ok.1 hq_q (by decide) rfl
  have lT : (0 : Int) ≤ nT.toInt := lT
  have uT : nT.toInt ≤ (8 : Int) := uT
  have loop : ∀ i j : Nat, ((i + j : Nat) : Int) = nT.toInt → ∀ (m : Int32), (∀ t : Nat, t < 8 → nbt m t = if t < j ∧ hi h (q + 22) t = -1 then 1 else 0) → 0 ≤ m.toInt → m.toInt ≤ 255 → G (4, [(2, .inl (.int (Int32.ofNat j))), (1, .inl (.int m)), (0, .inl (.ref q))], [], h, 0, 0) := by
    intro i
    induction i with
    | zero =>
      intro j hj m y_0 y_1 y_2
      have ej := nI_int (k := j) (by omega)
      have ejn : (Int32.ofNat j).toInt.toNat = j := by omega
      refine zrn_ok HW 2 (zB_iff.mpr (?_ : G (6, [(2, .inl (.int (Int32.ofNat j))), (1, .inl (.int m)), (0, .inl (.ref q))], [.inl (.ref q), .inl (.int (Int32.ofNat j))], h, 0, 0)))
      refine g_getf HW rfl ok.1 hq_q rfl gT ?_
      refine zrn_ok HW 1 (zbr_ex (cd := .ge) (x := (Int32.ofNat j)) (y := nT) (fun hc2 => zB_iff.mpr ?_) (fun hc2 => zB_iff.mpr ?_))
      · -- pc 38
        have i2 : (Int32.ofNat j).toInt ≥ nT.toInt := zop_int.mp hc2
        refine zrn_ok HW 2 ?_
        refine zret_i rfl rfl (kk m (fun t ht => ?_) y_1 y_2)
        rw [y_0 t ht]
        by_cases e : (t : Int) < hi h q 17 ∧ hi h (q + 22) t = -1
        · rw [if_pos e, if_pos ⟨by omega, e.2⟩]
        · rw [if_neg e, if_neg (fun x => e ⟨by omega, x.2⟩)]
      · -- pc 12
        have i2 : ¬ ((Int32.ofNat j).toInt ≥ nT.toInt) := fun e => hc2 (zop_int.mpr e)
        exfalso
        omega
    | succ i ih =>
      intro j hj m y_0 y_1 y_2
      have ej := nI_int (k := j) (by omega)
      have ejn : (Int32.ofNat j).toInt.toNat = j := by omega
      refine zrn_ok HW 2 (zB_iff.mpr (?_ : G (6, [(2, .inl (.int (Int32.ofNat j))), (1, .inl (.int m)), (0, .inl (.ref q))], [.inl (.ref q), .inl (.int (Int32.ofNat j))], h, 0, 0)))
      refine g_getf HW rfl ok.1 hq_q rfl gT ?_
      refine zrn_ok HW 1 (zbr_ex (cd := .ge) (x := (Int32.ofNat j)) (y := nT) (fun hc2 => zB_iff.mpr ?_) (fun hc2 => zB_iff.mpr ?_))
      · -- pc 38
        have i2 : (Int32.ofNat j).toInt ≥ nT.toInt := zop_int.mp hc2
        exfalso
        omega
      · -- pc 12
        have i2 : ¬ ((Int32.ofNat j).toInt ≥ nT.toInt) := fun e => hc2 (zop_int.mpr e)
        refine zrn_ok HW 2 (zB_iff.mpr (?_ : G (14, [(2, .inl (.int (Int32.ofNat j))), (1, .inl (.int m)), (0, .inl (.ref q))], [.inl (.ref q), .inl (.int m)], h, 0, 0)))
        have o4 : hget h q 22 = some (.inl (.ref (q + 22))) := (lay.1 (22, 22, 36) (by decide +kernel)).1
        have t4 : T[q + 22]? = some 36 := (lay.1 (22, 22, 36) (by decide +kernel)).2
        refine g_getf HW rfl ok.1 hq_q rfl o4 ?_
        refine zrn_ok HW 1 (zB_iff.mpr (?_ : G (18, [(2, .inl (.int (Int32.ofNat j))), (1, .inl (.int m)), (0, .inl (.ref q))], [.inl (.int (Int32.ofNat j)), .inl (.ref (q + 22)), .inl (.int m)], h, 0, 0)))
        obtain ⟨x5, g5, e5, l5, u5⟩ := hi_val (i := ((Int32.ofNat j)).toInt.toNat) ok.1 t4 (by show _ < 8; omega) rfl
        have l5 : ((-1) : Int) ≤ x5.toInt := l5
        have u5 : x5.toInt ≤ (3 : Int) := u5
        refine g_iald HW rfl ok.1 t4 rfl (by omega) g5 ?_
        refine zrn_ok HW 2 (zbr_ex (cd := .ne) (x := x5) (y := (-1 : Int32)) (fun hc6 => zB_iff.mpr ?_) (fun hc6 => zB_iff.mpr ?_))
        · -- pc 29
          have i6 : ¬ x5.toInt = (-1 : Int) := zop_int.mp hc6
          refine zrn_ok HW 5 (zB_iff.mpr (?_ : G (4, [(2, .inl (.int ((Int32.ofNat j) + (1 : Int32)))), (1, .inl (.int (m ||| (0 : Int32)))), (0, .inl (.ref q))], [], h, 0, 0)))
          rw [ejn] at e5
          have e5 : hi h (q + 22) j = x5.toInt := e5
          have m0 : m ||| (0 : Int32) = m := by
            apply Int32.toBitVec_inj.mp
            rw [Int32.toBitVec_or]
            exact BitVec.or_zero
          have := ih (j + 1) (by omega) m (fun t ht => ?_) y_1 y_2
          · rw [← nI_add1] at this
            rw [m0]
            exact this
          · rw [y_0 t ht]
            by_cases e0 : t = j
            · subst e0
              rw [if_neg (fun x => by omega), if_neg (fun x => by omega)]
            · by_cases e1 : t < j ∧ hi h (q + 22) t = -1
              · rw [if_pos e1, if_pos ⟨by omega, e1.2⟩]
              · rw [if_neg e1, if_neg (fun x => e1 ⟨by omega, x.2⟩)]
        · -- pc 23
          have i6 : ¬ (¬ x5.toInt = (-1 : Int)) := fun e => hc6 (zop_int.mpr e)
          refine zrn_ok HW 8 (zB_iff.mpr (?_ : G (4, [(2, .inl (.int ((Int32.ofNat j) + (1 : Int32)))), (1, .inl (.int (m ||| ((1 : Int32) <<< ((Int32.ofNat j) &&& 31))))), (0, .inl (.ref q))], [], h, 0, 0)))
          rw [ejn] at e5
          have e5 : hi h (q + 22) j = x5.toInt := e5
          have sh : ((1 : Int32) <<< (Int32.ofNat j &&& 31)).toInt = 2 ^ j := by rw [t_shl (by omega) (by omega), ejn]
          have pw : (2 : Int) ^ j ≤ 128 ∧ 0 ≤ (2 : Int) ^ j := by
            have key : ∀ k : Nat, k < 8 → (2 : Int) ^ k ≤ 128 ∧ 0 ≤ (2 : Int) ^ k := by decide
            exact key j (by omega)
          have ro := t_or (n := 8) (x := m) (y := (1 : Int32) <<< (Int32.ofNat j &&& 31)) (by omega) y_1 (by omega) (by show m.toInt < 256; omega) (by rw [sh]; show (2 : Int) ^ j < 256; omega)
          have ro2 : (m ||| ((1 : Int32) <<< (Int32.ofNat j &&& 31))).toInt < (256 : Int) := ro.2
          have := ih (j + 1) (by omega) (m ||| ((1 : Int32) <<< (Int32.ofNat j &&& 31))) (fun t ht => ?_) ro.1 (by omega)
          · rw [← nI_add1] at this
            exact this
          · by_cases e0 : t = j
            · subst e0
              rw [nb_or (by omega) (Or.inr (by rw [nb_shl (by omega) (by omega), if_pos rfl])), if_pos ⟨by omega, by omega⟩]
            · have hs : nbt ((1 : Int32) <<< (Int32.ofNat j &&& 31)) t = 0 := by rw [nb_shl (by omega) (by omega), if_neg (fun e => e0 e.symm)]
              by_cases e1 : t < j ∧ hi h (q + 22) t = -1
              · rw [nb_or (by omega) (Or.inl (by rw [y_0 t ht, if_pos e1])), if_pos ⟨by omega, e1.2⟩]
              · rw [nb_or0 (by omega) (by rw [y_0 t ht, if_neg e1]) hs, if_neg (fun x => e1 ⟨by omega, x.2⟩)]
  have z0 : (0 : Int32).toInt = 0 := rfl
  refine zrn_ok HW 4 (zB_iff.mpr (?_ : G (4, [(2, .inl (.int (0 : Int32))), (1, .inl (.int (0 : Int32))), (0, .inl (.ref q))], [], h, 0, 0)))
  exact loop nT.toInt.toNat 0 (by omega) 0 (fun t ht => by rw [nb_zero ht, if_neg (fun x => by omega)]) (by decide) (by decide)
