theorem c_bits {scr : List zV} {d : Nat} {x : Int32} {h : zH} {post : Option zV → zH → Bool} (kk : ∀ m : Int32, m.toInt = popc x 8 → post (some (.inl (.int m))) h = true) : zD zprog scr (d + 1) 161 [.inl (.int x)] h post = true := by
  refine zD_intro (E := ze_X5_bits) rfl rfl (fun G HW => ?_)
  have loop : ∀ i j : Nat, ((i + j : Nat) : Int) = 8 → ∀ (m : Int32), m.toInt = popc x j → G (4, [(2, .inl (.int (Int32.ofNat j))), (1, .inl (.int m)), (0, .inl (.int x))], [], h, 0, 0) := by
    intro i
    induction i with
    | zero =>
      intro j hj m y_0
      have ej := nI_int (k := j) (by omega)
      have ejn : (Int32.ofNat j).toInt.toNat = j := by omega
      refine zrn_ok HW 3 (zbr_ex (cd := .ge) (x := (Int32.ofNat j)) (y := (8 : Int32)) (fun hc1 => zB_iff.mpr ?_) (fun hc1 => zB_iff.mpr ?_))
      · -- pc 24
        have i1 : (Int32.ofNat j).toInt ≥ (8 : Int) := zop_int.mp hc1
        refine zrn_ok HW 2 ?_
        have e8 : j = 8 := by omega
        refine zret_i rfl rfl (kk m ?_)
        rw [← e8]
        exact y_0
      · -- pc 10
        have i1 : ¬ ((Int32.ofNat j).toInt ≥ (8 : Int)) := fun e => hc1 (zop_int.mpr e)
        exfalso
        omega
    | succ i ih =>
      intro j hj m y_0
      have ej := nI_int (k := j) (by omega)
      have ejn : (Int32.ofNat j).toInt.toNat = j := by omega
      refine zrn_ok HW 3 (zbr_ex (cd := .ge) (x := (Int32.ofNat j)) (y := (8 : Int32)) (fun hc1 => zB_iff.mpr ?_) (fun hc1 => zB_iff.mpr ?_))
      · -- pc 24
        have i1 : (Int32.ofNat j).toInt ≥ (8 : Int) := zop_int.mp hc1
        exfalso
        omega
      · -- pc 10
        have i1 : ¬ ((Int32.ofNat j).toInt ≥ (8 : Int)) := fun e => hc1 (zop_int.mpr e)
        refine zrn_ok HW 10 (zB_iff.mpr (?_ : G (4, [(2, .inl (.int ((Int32.ofNat j) + (1 : Int32)))), (1, .inl (.int (m + ((x >>> ((Int32.ofNat j) &&& 31)) &&& (1 : Int32))))), (0, .inl (.int x))], [], h, 0, 0)))
        have nb := nb_01 (x := x) (t := j) (by omega)
        have pb := popc_b (x := x) (k := j) (by omega)
        have enb : nbt x j = ((x >>> (Int32.ofNat j &&& 31)) &&& (1 : Int32)).toInt := rfl
        have ex := t_add (x := m) (y := (x >>> (Int32.ofNat j &&& 31)) &&& (1 : Int32)) (by omega) (by omega)
        have := ih (j + 1) (by omega) (m + ((x >>> (Int32.ofNat j &&& 31)) &&& (1 : Int32))) (by rw [ex]; show _ = popc x j + nbt x j; omega)
        rw [← nI_add1] at this
        exact this
  refine zrn_ok HW 4 (zB_iff.mpr (?_ : G (4, [(2, .inl (.int (0 : Int32))), (1, .inl (.int (0 : Int32))), (0, .inl (.int x))], [], h, 0, 0)))
  exact loop 8 0 rfl 0 rfl
