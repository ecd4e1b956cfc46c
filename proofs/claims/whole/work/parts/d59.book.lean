section
variable {T T2 : List Nat} {h h2 h' h2' : zH} {N N' S : ST} {K : Option ST} {C Z C' Z' : Nat → Int32} {E E' : Nat → Nat → Int64} {n : Nat} {B R : Nat → Int32} {p : Nat}
/-- what a shelf lacks of a book -/
theorem bk_lack (H : HY T T2 h h2 N K C Z E n B R) (a m : Int32) : (F_X4_lackOfBook h 0 a m = -2 ∧ F_X5_noBook h2 49 a m = F_X5_refuse h2 49 (-2 : Int32)) ∨ (F_X4_lackOfBook h 0 a m = -3 ∧ F_X5_noBook h2 49 a m = F_X5_refuse h2 49 (-3 : Int32)) ∨ (F_X4_lackOfBook h 0 a m = -4 ∧ F_X5_noBook h2 49 a m = F_X5_refuse h2 49 (-4 : Int32)) ∨ (F_X4_lackOfBook h 0 a m = 0 ∧ F_X5_noBook h2 49 a m = (0, h2) ∧ ¬ F_X4_isWithin a 0 7 = 0 ∧ a.toNatClampNeg < 8 ∧ hv h2 50 a.toNatClampNeg = 1 ∧ isRow (C a.toNatClampNeg) ∧ ¬ F_X4_isWithin m 0 40 = 0 ∧ m.toInt ≤ (Z a.toNatClampNeg).toInt) := by
  have r0 := H.2.2.2.1.1.1
  have nr := r_noRow H a
  have el : F_X4_lackOfBook h 0 a m = if F_X4_isWithin a 0 7 = 0 then -2 else if F_X4_isWithin m 0 40 = 0 then -2 else if F_X0_lackOfRow h (hr h 31 a.toNatClampNeg) = 0 then (if hv h (hr h 31 a.toNatClampNeg) 1 < m then -2 else 0) else F_X0_lackOfRow h (hr h 31 a.toNatClampNeg) := by
    unfold F_X4_lackOfBook
    simp only [letf]
    rw [shelf_eq, h31 H]
  have en : F_X5_noBook h2 49 a m = if F_X4_isWithin a 0 7 = 0 then F_X5_refuse h2 49 (-2 : Int32) else if F_X4_isWithin m 0 40 = 0 then F_X5_refuse h2 49 (-2 : Int32) else if (F_X5_noRow h2 49 a).1 = 0 then (if hv (F_X5_noRow h2 49 a).2 (hr (F_X5_noRow h2 49 a).2 49 2) a.toNatClampNeg < m then F_X5_refuse (F_X5_noRow h2 49 a).2 49 (-2 : Int32) else (0, (F_X5_noRow h2 49 a).2)) else F_X5_noRow h2 49 a := by
    unfold F_X5_noBook
    simp only [letf]
    rw [shelf_in, pair_in (a := m) (lo := 0) (hi := 40) (by decide) (by decide)]
  by_cases w : F_X4_isWithin a 0 7 = 0
  · rw [if_pos w] at el en
    exact Or.inl ⟨el, en⟩
  · rw [if_neg w] at el en nr
    by_cases w2 : F_X4_isWithin m 0 40 = 0
    · rw [if_pos w2] at el en
      exact Or.inl ⟨el, en⟩
    · rw [if_neg w2] at el en
      have hs := shelf_lt w
      generalize es : a.toNatClampNeg = s at hs nr el en ⊢
      obtain ⟨p1, p2, p3⟩ := hsh H hs
      rw [p1.1] at el
      rcases sh_lack H hs with ⟨l1, l2, l3, l4⟩ | ⟨l1, l2, l3, l4⟩ | ⟨l1, l2, l3, l4⟩
      · rw [l1, if_neg (show ¬ (0 : Int32) = 2 by decide), if_pos rfl] at nr
        rw [l3, if_neg (show ¬ (-4 : Int32) = 0 by decide)] at el
        rw [nr, if_neg (show ¬ (F_X5_refuse h2 49 (-4 : Int32)).1 = 0 by rw [rf_a2 H]; decide)] at en
        exact Or.inr (Or.inr (Or.inl ⟨el, en⟩))
      · rw [l1, if_neg (show ¬ (1 : Int32) = 2 by decide), if_neg (show ¬ (1 : Int32) = 0 by decide)] at nr
        rw [l3, if_pos rfl, (p3 l2).1] at el
        have e52 : hv h2 52 s = Z s := by
          rcases rsh H hs with y | y | y
          · rw [y.1] at l1
            exact absurd l1 (by decide)
          · exact y.2.2.2.2.1
          · rw [y.1] at l1
            exact absurd l1 (by decide)
        rw [nr] at en
        dsimp only at en
        rw [if_pos rfl, r0.2.2.1, e52] at en
        by_cases c : Z s < m
        · rw [if_pos c] at el en
          exact Or.inl ⟨el, en⟩
        · rw [if_neg c] at el en
          have c' : m.toInt ≤ (Z s).toInt := by
            rw [i_lt] at c
            omega
          exact Or.inr (Or.inr (Or.inr ⟨el, en, w, hs, l1, l2, w2, c'⟩))
      · rw [l1, if_pos rfl] at nr
        rw [l3, if_neg (show ¬ (-3 : Int32) = 0 by decide)] at el
        rw [nr, if_neg (show ¬ (F_X5_refuse h2 49 (-3 : Int32)).1 = 0 by rw [rf_a1 H]; decide)] at en
        exact Or.inr (Or.inl ⟨el, en⟩)
end
