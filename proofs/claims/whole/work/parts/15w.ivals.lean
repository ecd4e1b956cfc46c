theorem tint_sp {T : List Nat} {a : tA} {v : zV} (h : tint a = true) (ho : okA T a v) : ∃ x : Int32, v = .inl (.int x) ∧ tlo a ≤ x.toInt ∧ x.toInt ≤ thi a := by
  have h1 : a.1 = 0 := Nat.eq_of_beq_eq_true h
  unfold okA at ho
  rw [h1] at ho
  exact ho
theorem tlong_sp {T : List Nat} {a : tA} {v : zV} (h : tlong a = true) (ho : okA T a v) : ∃ x : Int64, v = .inl (.long x) ∧ tlo a ≤ x.toInt ∧ x.toInt ≤ thi a := by
  have h1 : a.1 = 1 := Nat.eq_of_beq_eq_true h
  unfold okA at ho
  rw [h1] at ho
  exact ho
theorem tref_sp {T : List Nat} {a : tA} {v : zV} (h : tref a = true) (ho : okA T a v) : ∃ q : Nat, v = .inl (.ref q) ∧ T[q]? = some (taux a) := by
  have h1 : a.1 = 2 := Nat.eq_of_beq_eq_true h
  unfold okA at ho
  rw [h1] at ho
  exact ho
theorem okA_I {T : List Nat} {lo hi : Int} {x : Int32} (h1 : lo ≤ x.toInt) (h2 : x.toInt ≤ hi) : okA T (tI lo hi) (.inl (.int x)) := ⟨x, rfl, h1, h2⟩
theorem okA_If {T : List Nat} (x : Int32) : okA T tIf (.inl (.int x)) := ⟨x, rfl, t_lo x, t_hi x⟩
theorem okA_Lf {T : List Nat} (x : Int64) : okA T tLf (.inl (.long x)) := ⟨x, rfl, t_Llo x, t_Lhi x⟩
theorem okA_Ic {T : List Nat} {lo hi : Int} {x : Int32} (h : -2147483648 ≤ lo → hi ≤ 2147483647 → lo ≤ x.toInt ∧ x.toInt ≤ hi) : okA T (tIc lo hi) (.inl (.int x)) := by
  unfold tIc
  split
  · next q => exact okA_I (h q.1 q.2).1 (h q.1 q.2).2
  · exact okA_If x
/-- an int of this kind knows no more than its place -/
theorem okTag_none {L : zL} {a : tA} {v : zV} (h1 : taux a = 0 ∨ 2 ≤ a.1) (h2 : tcnd a = []) : okTag L a v := by
  refine ⟨fun k hk he => ?_, fun c hc => ?_⟩
  · rcases h1 with h1 | h1
    · have : a.2.2.2.1 = 0 := h1
      omega
    · omega
  · have h3 : a.2.2.2.2 = [] := h2
    rw [h3] at hc
    cases hc
theorem tIc_plain (lo hi : Int) : taux (tIc lo hi) = 0 ∧ tcnd (tIc lo hi) = [] ∧ tint (tIc lo hi) = true := by
  unfold tIc
  split <;> exact ⟨rfl, rfl, rfl⟩
def tplain (a : tA) : Prop := taux a = 0 ∧ tcnd a = []
theorem okTag_plain {L : zL} {a : tA} {v : zV} (h : tplain a) : okTag L a v := okTag_none (Or.inl h.1) h.2
section
variable {T : List Nat} {a b : tA} {x y : Int32}
theorem tadd_ok (ha : tlo a ≤ x.toInt ∧ x.toInt ≤ thi a) (hb : tlo b ≤ y.toInt ∧ y.toInt ≤ thi b) : okA T (tadd a b) (.inl (.int (x + y))) := okA_Ic (fun h1 h2 => by
  rw [t_add (by omega) (by omega)]
  omega)
theorem tsub_ok (ha : tlo a ≤ x.toInt ∧ x.toInt ≤ thi a) (hb : tlo b ≤ y.toInt ∧ y.toInt ≤ thi b) : okA T (tsub a b) (.inl (.int (x - y))) := okA_Ic (fun h1 h2 => by
  rw [t_sub (by omega) (by omega)]
  omega)
theorem tneg_ok (ha : tlo a ≤ x.toInt ∧ x.toInt ≤ thi a) : okA T (tIc (-thi a) (-tlo a)) (.inl (.int (-x))) := okA_Ic (fun h1 h2 => by
  rw [t_neg (by omega) (by omega)]
  omega)
theorem tmul_ok (ha : tlo a ≤ x.toInt ∧ x.toInt ≤ thi a) (hb : tlo b ≤ y.toInt ∧ y.toInt ≤ thi b) : okA T (tmul a b) (.inl (.int (x * y))) := by
  unfold tmul
  split
  · next h =>
    have h3 : tlo a * tlo b ≤ x.toInt * y.toInt := Int.mul_le_mul ha.1 hb.1 h.2 (by omega)
    have h4 : x.toInt * y.toInt ≤ thi a * thi b := Int.mul_le_mul ha.2 hb.2 (by omega) (by omega)
    refine okA_Ic (fun h1 h2 => ?_)
    rw [t_mul (by omega) (by omega)]
    exact ⟨h3, h4⟩
  · exact okA_If _
theorem tand_ok (ha : tlo a ≤ x.toInt ∧ x.toInt ≤ thi a) (hb : tlo b ≤ y.toInt ∧ y.toInt ≤ thi b) : okA T (tand a b) (.inl (.int (x &&& y))) := by
  unfold tand
  split
  · have h1 := t_and (x := x) (y := y) (by omega)
    split
    · have h2 := t_and (x := y) (y := x) (by omega)
      rw [t_andC] at h2
      exact okA_I h1.1 (by omega)
    · exact okA_I h1.1 (by omega)
  · split
    · have h2 := t_and (x := y) (y := x) (by omega)
      rw [t_andC] at h2
      exact okA_I h2.1 (by omega)
    · exact okA_If _
theorem tup_ok (n : Int) : ∃ k : Nat, k ≤ 31 ∧ tup n = 2 ^ k - 1 ∧ (n ≤ 2147483647 → n < 2 ^ k) := by
  unfold tup
  by_cases h1 : n ≤ 1
  · exact ⟨1, by omega, by rw [if_pos h1]; rfl, fun _ => by omega⟩
  rw [if_neg h1]
  by_cases h2 : n ≤ 3
  · exact ⟨2, by omega, by rw [if_pos h2]; rfl, fun _ => by omega⟩
  rw [if_neg h2]
  by_cases h3 : n ≤ 7
  · exact ⟨3, by omega, by rw [if_pos h3]; rfl, fun _ => by omega⟩
  rw [if_neg h3]
  by_cases h4 : n ≤ 15
  · exact ⟨4, by omega, by rw [if_pos h4]; rfl, fun _ => by omega⟩
  rw [if_neg h4]
  by_cases h5 : n ≤ 31
  · exact ⟨5, by omega, by rw [if_pos h5]; rfl, fun _ => by omega⟩
  rw [if_neg h5]
  by_cases h6 : n ≤ 63
  · exact ⟨6, by omega, by rw [if_pos h6]; rfl, fun _ => by omega⟩
  rw [if_neg h6]
  by_cases h7 : n ≤ 127
  · exact ⟨7, by omega, by rw [if_pos h7]; rfl, fun _ => by omega⟩
  rw [if_neg h7]
  by_cases h8 : n ≤ 255
  · exact ⟨8, by omega, by rw [if_pos h8]; rfl, fun _ => by omega⟩
  rw [if_neg h8]
  by_cases h9 : n ≤ 511
  · exact ⟨9, by omega, by rw [if_pos h9]; rfl, fun _ => by omega⟩
  rw [if_neg h9]
  by_cases h10 : n ≤ 1023
  · exact ⟨10, by omega, by rw [if_pos h10]; rfl, fun _ => by omega⟩
  rw [if_neg h10]
  exact ⟨31, by omega, rfl, fun h => by omega⟩
theorem tor_ok (ha : tlo a ≤ x.toInt ∧ x.toInt ≤ thi a) (hb : tlo b ≤ y.toInt ∧ y.toInt ≤ thi b) : okA T (tor a b) (.inl (.int (x ||| y))) := by
  unfold tor
  split
  · next h =>
    by_cases hm : max (thi a) (thi b) ≤ 2147483647
    · obtain ⟨k, h1, h2, h3⟩ := tup_ok (max (thi a) (thi b))
      have h3 := h3 hm
      have h4 := t_or (x := x) (y := y) (n := k) h1 (by omega) (by omega) (by omega) (by omega)
      refine okA_I h4.1 ?_
      rw [h2]
      omega
    · have h5 : tup (max (thi a) (thi b)) = 2147483647 := by
        unfold tup
        rw [if_neg (by omega), if_neg (by omega), if_neg (by omega), if_neg (by omega), if_neg (by omega), if_neg (by omega), if_neg (by omega), if_neg (by omega), if_neg (by omega), if_neg (by omega)]
      have h4 := t_or (x := x) (y := y) (n := 31) (by omega) (by omega) (by omega) (by have := t_hi x; omega) (by have := t_hi y; omega)
      rw [h5]
      exact okA_I h4.1 (t_hi _)
  · exact okA_If _
theorem tshl_ok (ha : tlo a ≤ x.toInt ∧ x.toInt ≤ thi a) (hb : tlo b ≤ y.toInt ∧ y.toInt ≤ thi b) : okA T (tshl a b) (.inl (.int (x <<< (y &&& 31)))) := by
  unfold tshl
  split
  · next h =>
    have hx : x = 1 := by
      apply Int32.toInt_inj.mp
      show x.toInt = 1
      omega
    subst hx
    have h1 := t_shl (y := y) (by omega) (by omega)
    refine okA_I ?_ ?_
    · rw [h1]
      have : ((2 ^ (tlo b).toNat : Nat) : Int) ≤ ((2 ^ y.toInt.toNat : Nat) : Int) := Int.ofNat_le.mpr (Nat.pow_le_pow_right (by omega) (by omega))
      simpa using this
    · rw [h1]
      have : ((2 ^ y.toInt.toNat : Nat) : Int) ≤ ((2 ^ (thi b).toNat : Nat) : Int) := Int.ofNat_le.mpr (Nat.pow_le_pow_right (by omega) (by omega))
      simpa using this
  · exact okA_If _
theorem tshr_ok (ha : tlo a ≤ x.toInt ∧ x.toInt ≤ thi a) : okA T (tshr a) (.inl (.int (x >>> (y &&& 31)))) := by
  unfold tshr
  split
  · have h1 := t_shr (x := x) (y := y) (by omega)
    exact okA_I h1.1 (by omega)
  · exact okA_If _
theorem tdiv_ok (ha : tlo a ≤ x.toInt ∧ x.toInt ≤ thi a) (hb : tlo b ≤ y.toInt ∧ y.toInt ≤ thi b) : okA T (tdiv a b) (.inl (.int (x / y))) := by
  unfold tdiv
  split
  · next h =>
    have h1 := t_dv (x := x) (y := y) (by omega) (by omega)
    refine okA_I ?_ ?_
    · rw [h1]
      exact t_dmono h.1 ha.1 hb.2 (by omega)
    · rw [h1]
      exact t_dmono (by omega) ha.2 hb.1 h.2
  · exact okA_If _
theorem trem_ok (ha : tlo a ≤ x.toInt ∧ x.toInt ≤ thi a) (hb : tlo b ≤ y.toInt ∧ y.toInt ≤ thi b) : okA T (trem a b) (.inl (.int (x - x / y * y))) := by
  unfold trem
  split
  · have h1 := t_rem (x := x) (y := y) (by omega) (by omega)
    exact okA_I h1.1 (by omega)
  · exact okA_If _
theorem tmin_ok (ha : tlo a ≤ x.toInt ∧ x.toInt ≤ thi a) (hb : tlo b ≤ y.toInt ∧ y.toInt ≤ thi b) : okA T (tmin a b) (.inl (.int (if y < x then y else x))) := by
  unfold tmin
  split
  · next h =>
    have := Int32.lt_iff_toInt_lt.mp h
    exact okA_I (by omega) (by omega)
  · next h =>
    have : ¬ y.toInt < x.toInt := fun q => h (Int32.lt_iff_toInt_lt.mpr q)
    exact okA_I (by omega) (by omega)
theorem tmax_ok (ha : tlo a ≤ x.toInt ∧ x.toInt ≤ thi a) (hb : tlo b ≤ y.toInt ∧ y.toInt ≤ thi b) : okA T (tmax a b) (.inl (.int (if x < y then y else x))) := by
  unfold tmax
  split
  · next h =>
    have := Int32.lt_iff_toInt_lt.mp h
    exact okA_I (by omega) (by omega)
  · next h =>
    have : ¬ x.toInt < y.toInt := fun q => h (Int32.lt_iff_toInt_lt.mpr q)
    exact okA_I (by omega) (by omega)
end
theorem tl2i_ok {T : List Nat} {a : tA} {x : Int64} (ha : tlo a ≤ x.toInt ∧ x.toInt ≤ thi a) : okA T (tl2i a) (.inl (.int x.toInt32)) := by
  unfold tl2i
  split
  · have h := tq_l2i (x := x) (by omega) (by omega)
    exact okA_I (by omega) (by omega)
  · exact okA_If _
theorem tplain_I (lo hi : Int) : tplain (tI lo hi) := ⟨rfl, rfl⟩
theorem tplain_c (lo hi : Int) : tplain (tIc lo hi) := ⟨(tIc_plain lo hi).1, (tIc_plain lo hi).2.1⟩
theorem tplain_f : tplain tIf := ⟨rfl, rfl⟩
theorem tplain_add (a b : tA) : tplain (tadd a b) := tplain_c _ _
theorem tplain_sub (a b : tA) : tplain (tsub a b) := tplain_c _ _
theorem tplain_mul (a b : tA) : tplain (tmul a b) := by unfold tmul; split <;> first | exact tplain_c _ _ | exact tplain_f
theorem tplain_and (a b : tA) : tplain (tand a b) := by unfold tand; split <;> (try split) <;> first | exact tplain_I _ _ | exact tplain_f
theorem tplain_or (a b : tA) : tplain (tor a b) := by unfold tor; split <;> first | exact tplain_I _ _ | exact tplain_f
theorem tplain_shl (a b : tA) : tplain (tshl a b) := by unfold tshl; split <;> first | exact tplain_I _ _ | exact tplain_f
theorem tplain_shr (a : tA) : tplain (tshr a) := by unfold tshr; split <;> first | exact tplain_I _ _ | exact tplain_f
theorem tplain_div (a b : tA) : tplain (tdiv a b) := by unfold tdiv; split <;> first | exact tplain_I _ _ | exact tplain_f
theorem tplain_rem (a b : tA) : tplain (trem a b) := by unfold trem; split <;> first | exact tplain_I _ _ | exact tplain_f
theorem tplain_l2i (a : tA) : tplain (tl2i a) := by unfold tl2i; split <;> first | exact tplain_I _ _ | exact tplain_f
theorem tplain_Lf : tplain tLf := ⟨rfl, rfl⟩
