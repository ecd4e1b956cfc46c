theorem t_ushr16 (x : Int32) : 0 ≤ ((x.toUInt32 >>> ((16 : Int32).toUInt32 &&& Int32.toUInt32 31)).toInt32).toInt := by
  have e : ((16 : Int32).toUInt32 &&& Int32.toUInt32 31) = 16 := by decide
  rw [e]
  have h : ((x.toUInt32 >>> 16).toInt32).toBitVec.toNat < 2147483648 := by
    have h1 : ((x.toUInt32 >>> 16).toInt32).toBitVec.toNat = (x.toUInt32 >>> 16).toNat := rfl
    rw [h1, UInt32.toNat_shiftRight]
    have h2 := x.toUInt32.toNat_lt
    have h3 : (16 : UInt32).toNat % 32 = 16 := rfl
    rw [h3, Nat.shiftRight_eq_div_pow]
    omega
  rw [t_of h]
  exact Int.natCast_nonneg _
theorem c_below {Φ : List Nat → zH → Prop} {N : Nat} {scr : List zV} {d : Nat} {T : List Nat} {h : zH} {q : Nat} {y : Int32} {post : Option zV → zH → Bool} (hst : tStab zty 43 Φ) (ok : wOK Φ N T h) (hq_q : T[q]? = some 5) (hy : 1 ≤ y.toInt)
    (kk : ∀ (r s : Int32), 0 ≤ r.toInt → r.toInt < y.toInt → wOK Φ N T (hput h q 15 (.inl (.int s))) → post (some (.inl (.int r))) (hput h q 15 (.inl (.int s))) = true) : zD zprog scr (d + 1) 159 [.inl (.ref q), .inl (.int y)] h post = true := by
  refine zD_intro (E := ze_X5_below) rfl rfl (fun G HW => ?_)
  refine zrn_ok HW 2 (zB_iff.mpr (?_ : G (2, [(0, .inl (.ref q)), (1, .inl (.int y))], [.inl (.ref q), .inl (.ref q)], h, 0, 0)))
  obtain ⟨x1, g1, e1, l1, u1⟩ := hi_val (i := 15) ok.1 hq_q (by decide) rfl
  have l1 : ((-2147483648) : Int) ≤ x1.toInt := l1
  have u1 : x1.toInt ≤ (2147483647 : Int) := u1
  refine g_getf HW rfl ok.1 hq_q rfl g1 ?_
  refine zrn_ok HW 4 (zB_iff.mpr (?_ : G (13, [(0, .inl (.ref q)), (1, .inl (.int y))], [.inl (.int ((x1 * (1103515245 : Int32)) + (12345 : Int32))), .inl (.ref q)], h, 0, 0)))
  have ok2 : wOK Φ N T (hput h q 15 (.inl (.int ((x1 * (1103515245 : Int32)) + (12345 : Int32))))) := wOK_put hst ok hq_q rfl ⟨_, rfl, t_lo _, t_hi _⟩
  refine g_putf HW rfl ok.1 hq_q rfl (by decide) rfl ?_
  refine zrn_ok HW 1 (zB_iff.mpr (?_ : G (17, [(0, .inl (.ref q)), (1, .inl (.int y))], [.inl (.ref q)], (hput h q 15 (.inl (.int ((x1 * (1103515245 : Int32)) + (12345 : Int32))))), 0, 0)))
  obtain ⟨x3, g3, e3, l3, u3⟩ := hi_val (i := 15) ok2.1 hq_q (by decide) rfl
  have l3 : ((-2147483648) : Int) ≤ x3.toInt := l3
  have u3 : x3.toInt ≤ (2147483647 : Int) := u3
  refine g_getf HW rfl ok2.1 hq_q rfl g3 ?_
  have nz4 : (!((y : Int32) == 0)) = true := nz_i (by omega)
  refine zrn_ok HW 4 (t_and2 nz4 (zB_iff.mpr (?_ : G (25, [(0, .inl (.ref q)), (1, .inl (.int y))], [.inl (.int ((x3.toUInt32 >>> ((16 : Int32).toUInt32 &&& Int32.toUInt32 31)).toInt32 - (x3.toUInt32 >>> ((16 : Int32).toUInt32 &&& Int32.toUInt32 31)).toInt32 / y * y))], (hput h q 15 (.inl (.int ((x1 * (1103515245 : Int32)) + (12345 : Int32))))), 0, 0))))
  refine zrn_ok HW 1 ?_
  have rr := t_rem (x := (x3.toUInt32 >>> ((16 : Int32).toUInt32 &&& Int32.toUInt32 31)).toInt32) (y := y) (t_ushr16 _) hy
  exact zret_i rfl rfl (kk _ _ rr.1 (by omega) ok2)
