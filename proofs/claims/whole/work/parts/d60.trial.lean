section
variable {T T2 Tv : List Nat} {h h2 h' h2' hv0 h3 : zH} {N N' S : ST} {K : Option ST} {C Z C' Z' : Nat → Int32} {E E' : Nat → Nat → Int64} {n : Nat} {B R : Nat → Int32} {p : Nat}
/-- a slip as the class reads it -/
def slA (e : Int64) : Int32 := if e < (1 : Int64) then 0 else if (60 : Int64) < e then 0 else Int64.toInt32 e
theorem slA_draw {S : ST} (w : WF S) (e : Int64) : (F_X5_in e (1 : Int64) (Int32.toInt64 (S 0 0)) = 0 → drawB S (slA e) = false) ∧ (F_X5_in e (1 : Int64) (Int32.toInt64 (S 0 0)) ≠ 0 → slA e = Int64.toInt32 e ∧ isS S (Int64.toInt32 e)) := by
  have s := WF_sl w
  have i1 : (1 : Int64).toInt = 1 := by decide
  have i60 : (60 : Int64).toInt = 60 := by decide
  have l1 : e < (1 : Int64) ↔ e.toInt < 1 := by rw [l_lt, i1]
  have l60 : (60 : Int64) < e ↔ 60 < e.toInt := by rw [l_lt, i60]
  have ei : F_X5_in e (1 : Int64) (Int32.toInt64 (S 0 0)) = if 1 ≤ e.toInt ∧ e.toInt ≤ (S 0 0).toInt then 1 else 0 := by
    rw [F_in_eq, i1, i2l]
  clear i1 i60
  have ez : e = lZ e.toInt := (Int64.ofInt_toInt e).symm
  have d0 : drawB S 0 = false := by
    unfold drawB
    rw [decide_eq_false (show ¬ isS S 0 from fun y => absurd y.1 (by decide))]
    rfl
  rw [ei]
  constructor
  · intro q
    have q : ¬ (1 ≤ e.toInt ∧ e.toInt ≤ (S 0 0).toInt) := fun y => by
      rw [if_pos y] at q
      exact absurd q (by decide)
    unfold slA
    by_cases a : e < (1 : Int64)
    · rw [if_pos a]
      exact d0
    · rw [if_neg a]
      by_cases b : (60 : Int64) < e
      · rw [if_pos b]
        exact d0
      · rw [if_neg b]
        have a' : ¬ e.toInt < 1 := fun y => a (l1.mpr y)
        have b' : ¬ 60 < e.toInt := fun y => b (l60.mpr y)
        have t : (Int64.toInt32 e).toInt = e.toInt := by
          have := lZ_i32 (a := e.toInt) (by omega) (by omega)
          rw [← ez] at this
          rw [this, iZ_t (by omega) (by omega)]
        unfold drawB
        rw [decide_eq_false (show ¬ isS S (Int64.toInt32 e) from fun y => by
          have y1 := y.1
          have y2 := y.2
          rw [t] at y1 y2
          omega)]
        rfl
  · intro q
    have q : 1 ≤ e.toInt ∧ e.toInt ≤ (S 0 0).toInt := by
      by_cases y : 1 ≤ e.toInt ∧ e.toInt ≤ (S 0 0).toInt
      · exact y
      · rw [if_neg y] at q
        exact absurd rfl q
    have t : (Int64.toInt32 e).toInt = e.toInt := by
      have := lZ_i32 (a := e.toInt) (by omega) (by omega)
      rw [← ez] at this
      rw [this, iZ_t (by omega) (by omega)]
    unfold slA
    rw [if_neg (fun y => by have := l1.mp y; omega), if_neg (fun y => by have := l60.mp y; omega)]
    exact ⟨rfl, by rw [t]; exact q.1, by rw [t]; exact q.2⟩
theorem slipAt_eq {s : Nat} {m : Int32} (hr2 : hr h' (33 + 2 * s) 2 = 34 + 2 * s) (h0 : isRow (hv h' (33 + 2 * s) 0)) (h1 : 0 ≤ m.toInt ∧ m.toInt < (hv h' (33 + 2 * s) 1).toInt) (h40 : (hv h' (33 + 2 * s) 1).toInt ≤ 40) : F_X0_slipAt h' (33 + 2 * s) m = slA (hJ h' (34 + 2 * s) m.toNatClampNeg) := by
  have el : F_X0_hasElement h' (33 + 2 * s) m = 1 := by
    have hr1 : F_X0_holdsRow h' (33 + 2 * s) ≠ 0 := by
      unfold F_X0_holdsRow
      rw [letf_id]
      exact row_in.mp h0
    have z1 : (hv h' (33 + 2 * s) 1 - 1).toInt = (hv h' (33 + 2 * s) 1).toInt - 1 := i_isub (x := hv h' (33 + 2 * s) 1) (y := 1) (by have : (1 : Int32).toInt = 1 := rfl; rw [this]; omega) (by have : (1 : Int32).toInt = 1 := rfl; rw [this]; omega)
    have z0 : (0 : Int32).toInt = 0 := rfl
    have c : (0 : Int32).toInt ≤ m.toInt ∧ m.toInt ≤ (hv h' (33 + 2 * s) 1 - 1).toInt := by
      rw [z1, z0]
      exact ⟨h1.1, by omega⟩
    have iw : F_X4_isWithin m 0 (hv h' (33 + 2 * s) 1 - 1) ≠ 0 := by
      rw [F_isWithin_eq, if_pos c]
      decide
    unfold F_X0_hasElement
    simp only [letf]
    rw [if_neg hr1, if_neg iw]
  unfold F_X0_slipAt slA
  simp only [letf]
  rw [el, hr2, if_neg (show ¬ (1 : Int32) = 0 by decide)]
end
