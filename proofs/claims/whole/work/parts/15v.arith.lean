theorem t_bm {z : Int} (h1 : -2147483648 ≤ z) (h2 : z ≤ 2147483647) : z.bmod (2 ^ 32) = z := Int.bmod_eq_of_le (by omega) (by omega)
theorem t_lo (x : Int32) : -2147483648 ≤ x.toInt := by simpa using x.le_toInt
theorem t_hi (x : Int32) : x.toInt ≤ 2147483647 := by
  have := x.toInt_lt
  have h2 : x.toInt < 2147483648 := by simpa using this
  omega
theorem t_Llo (x : Int64) : -9223372036854775808 ≤ x.toInt := by simpa using x.le_toInt
theorem t_Lhi (x : Int64) : x.toInt ≤ 9223372036854775807 := by
  have := x.toInt_lt
  have h2 : x.toInt < 9223372036854775808 := by simpa using this
  omega
theorem t_add {x y : Int32} (h1 : -2147483648 ≤ x.toInt + y.toInt) (h2 : x.toInt + y.toInt ≤ 2147483647) : (x + y).toInt = x.toInt + y.toInt := by
  rw [Int32.toInt_add]; exact t_bm h1 h2
theorem t_sub {x y : Int32} (h1 : -2147483648 ≤ x.toInt - y.toInt) (h2 : x.toInt - y.toInt ≤ 2147483647) : (x - y).toInt = x.toInt - y.toInt := by
  rw [Int32.toInt_sub]; exact t_bm h1 h2
theorem t_mul {x y : Int32} (h1 : -2147483648 ≤ x.toInt * y.toInt) (h2 : x.toInt * y.toInt ≤ 2147483647) : (x * y).toInt = x.toInt * y.toInt := by
  rw [Int32.toInt_mul]; exact t_bm h1 h2
theorem t_neg {x : Int32} (h1 : -2147483648 ≤ -x.toInt) (h2 : -x.toInt ≤ 2147483647) : (-x).toInt = -x.toInt := by
  rw [Int32.toInt_neg]; exact t_bm h1 h2
theorem t_nn {x : Int32} (h : 0 ≤ x.toInt) : x.toInt = (x.toBitVec.toNat : Int) ∧ x.toBitVec.toNat < 2147483648 := by
  have h1 : x.toInt = x.toBitVec.toInt := rfl
  rw [h1, BitVec.toInt_eq_toNat_cond] at h ⊢
  have h3 := x.toBitVec.isLt
  by_cases h2 : 2 * x.toBitVec.toNat < 2 ^ 32
  · rw [if_pos h2]
    exact ⟨rfl, by omega⟩
  · rw [if_neg h2] at h
    omega
theorem t_of {x : Int32} (h : x.toBitVec.toNat < 2147483648) : x.toInt = (x.toBitVec.toNat : Int) := by
  have h1 : x.toInt = x.toBitVec.toInt := rfl
  rw [h1, BitVec.toInt_eq_toNat_cond, if_pos (by omega)]
theorem t_and {x y : Int32} (h : 0 ≤ x.toInt) : 0 ≤ (x &&& y).toInt ∧ (x &&& y).toInt ≤ x.toInt := by
  obtain ⟨h1, h2⟩ := t_nn h
  have e : (x &&& y).toBitVec.toNat = x.toBitVec.toNat &&& y.toBitVec.toNat := by
    rw [Int32.toBitVec_and, BitVec.toNat_and]
  have h3 : (x &&& y).toBitVec.toNat ≤ x.toBitVec.toNat := by
    rw [e]
    exact Nat.and_le_left
  have h4 := t_of (x := x &&& y) (by omega)
  omega
theorem t_andC (x y : Int32) : x &&& y = y &&& x := by
  apply Int32.toBitVec_inj.mp
  rw [Int32.toBitVec_and, Int32.toBitVec_and, BitVec.and_comm]
theorem t_or {x y : Int32} {n : Nat} (hn : n ≤ 31) (h : 0 ≤ x.toInt) (h' : 0 ≤ y.toInt) (hx : x.toInt < 2 ^ n) (hy : y.toInt < 2 ^ n) : 0 ≤ (x ||| y).toInt ∧ (x ||| y).toInt < 2 ^ n := by
  obtain ⟨h1, h2⟩ := t_nn h
  obtain ⟨g1, g2⟩ := t_nn h'
  have e : (x ||| y).toBitVec.toNat = x.toBitVec.toNat ||| y.toBitVec.toNat := by
    rw [Int32.toBitVec_or, BitVec.toNat_or]
  have c : ((2 ^ n : Nat) : Int) = (2 : Int) ^ n := by simp
  have hx2 : x.toBitVec.toNat < 2 ^ n := by
    rw [h1, ← c] at hx
    exact Int.ofNat_lt.mp hx
  have hy2 : y.toBitVec.toNat < 2 ^ n := by
    rw [g1, ← c] at hy
    exact Int.ofNat_lt.mp hy
  have h3 : (x ||| y).toBitVec.toNat < 2 ^ n := by
    rw [e]
    exact Nat.or_lt_two_pow hx2 hy2
  have h31 : (2 ^ n : Nat) ≤ 2 ^ 31 := Nat.pow_le_pow_right (by omega) hn
  have h4 := t_of (x := x ||| y) (by omega)
  rw [h4, ← c]
  exact ⟨Int.natCast_nonneg _, Int.ofNat_lt.mpr h3⟩
theorem t_shl {y : Int32} (h : 0 ≤ y.toInt) (h2 : y.toInt ≤ 30) : ((1 : Int32) <<< (y &&& 31)).toInt = 2 ^ y.toInt.toNat := by
  have h3 : ∀ k, k < 31 → ((1 : Int32) <<< (Int32.ofNat k &&& 31)).toInt = 2 ^ k := by decide +kernel
  have e : y = Int32.ofNat y.toInt.toNat := by
    have h5 : Int32.ofInt y.toInt = y := Int32.ofInt_toInt y
    have h6 : y.toInt = (y.toInt.toNat : Int) := by omega
    rw [h6] at h5
    exact h5.symm
  have := h3 y.toInt.toNat (by omega)
  rw [← e] at this
  exact this
theorem t_shr {x y : Int32} (h : 0 ≤ x.toInt) : 0 ≤ (x >>> (y &&& 31)).toInt ∧ (x >>> (y &&& 31)).toInt ≤ x.toInt := by
  obtain ⟨h1, h2⟩ := t_nn h
  have e : (x >>> (y &&& 31)).toInt = x.toBitVec.toInt >>> ((y &&& 31).toBitVec.smod 32).toNat := by
    show (x >>> (y &&& 31)).toBitVec.toInt = _
    rw [Int32.toBitVec_shiftRight, BitVec.sshiftRight_eq', BitVec.toInt_sshiftRight]
  rw [e]
  generalize ((y &&& 31).toBitVec.smod 32).toNat = n
  have e2 : x.toBitVec.toInt = (x.toBitVec.toNat : Int) := h1
  rw [e2, Int.shiftRight_eq_div_pow]
  have c : ((2 ^ n : Nat) : Int) = (2 : Int) ^ n := by simp
  rw [h1]
  refine ⟨Int.ediv_nonneg (Int.natCast_nonneg _) (by first | (rw [← c]; exact Int.natCast_nonneg _) | exact Int.natCast_nonneg _), ?_⟩
  exact Int.ediv_le_self _ (Int.natCast_nonneg _)
theorem t_dv {x y : Int32} (h : 0 ≤ x.toInt) (h2 : 1 ≤ y.toInt) : (x / y).toInt = x.toInt / y.toInt := by
  have h3 : x.toInt.tdiv y.toInt = x.toInt / y.toInt := Int.tdiv_eq_ediv_of_nonneg h
  rw [Int32.toInt_div, h3]
  have h4 := t_hi x
  have h5 : x.toInt / y.toInt ≤ x.toInt := Int.ediv_le_self _ h
  have h6 : 0 ≤ x.toInt / y.toInt := Int.ediv_nonneg h (by omega)
  exact t_bm (by omega) (by omega)
theorem t_dmono {a b c d : Int} (h0 : 0 ≤ a) (h1 : a ≤ b) (h2 : d ≤ c) (h3 : 1 ≤ d) : a / c ≤ b / d := by
  have e1 : a = (a.toNat : Int) := by omega
  have e2 : b = (b.toNat : Int) := by omega
  have e3 : c = (c.toNat : Int) := by omega
  have e4 : d = (d.toNat : Int) := by omega
  rw [e1, e2, e3, e4, ← Int.natCast_ediv, ← Int.natCast_ediv]
  exact Int.ofNat_le.mpr (Nat.div_le_div (by omega) (by omega) (by omega))
theorem t_rem {x y : Int32} (h : 0 ≤ x.toInt) (h2 : 1 ≤ y.toInt) : 0 ≤ (x - x / y * y).toInt ∧ (x - x / y * y).toInt ≤ y.toInt - 1 := by
  have h3 := t_dv h h2
  have h4 := t_hi x
  have h5 : 0 ≤ x.toInt % y.toInt := Int.emod_nonneg _ (by omega)
  have h6 : x.toInt % y.toInt < y.toInt := Int.emod_lt_of_pos _ (by omega)
  have h7 : x.toInt / y.toInt * y.toInt + x.toInt % y.toInt = x.toInt := Int.ediv_mul_add_emod _ _
  have h8 : 0 ≤ x.toInt / y.toInt * y.toInt := Int.mul_nonneg (Int.ediv_nonneg h (by omega)) (by omega)
  have h9 : (x / y * y).toInt = x.toInt / y.toInt * y.toInt := by
    rw [← h3]
    rw [← h3] at h8 h7
    exact t_mul (by omega) (by omega)
  have h10 : (x - x / y * y).toInt = x.toInt - x.toInt / y.toInt * y.toInt := by
    rw [← h9]
    exact t_sub (by omega) (by omega)
  omega
theorem tq_l2i {x : Int64} (h1 : -2147483648 ≤ x.toInt) (h2 : x.toInt ≤ 2147483647) : x.toInt32.toInt = x.toInt := by
  rw [Int64.toInt_toInt32]
  exact t_bm h1 h2
