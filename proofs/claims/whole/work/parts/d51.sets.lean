theorem row_in {x : Int32} : isRow x ↔ ¬ F_X4_isWithin x 0 4 = 0 := by
  constructor
  · intro r
    rw [F_isWithin_eq, if_pos (show (0 : Int32).toInt ≤ x.toInt ∧ x.toInt ≤ (4 : Int32).toInt from r)]
    decide
  · intro w
    exact win w
theorem row_out (t : Nat) (ht : t < 8) : ¬ isRow (nI (10 + t)) := by
  intro r
  have r2 := r.2
  rw [nI_t (by omega)] at r2
  omega
theorem row_five {x : Int32} (r : isRow x) : x = 0 ∨ x = 1 ∨ x = 2 ∨ x = 3 ∨ x = 4 := by
  have b := nI_back (x := x) r.1
  have c := clamp_i (x := x) r.1
  have r2 := r.2
  have key : ∀ k : Nat, k < 5 → (nI k = 0 ∨ nI k = 1 ∨ nI k = 2 ∨ nI k = 3 ∨ nI k = 4) := by decide
  rw [b]
  exact key _ (by omega)
theorem lowest_eq {h : zH} {q : Nat} {v : Int64} (r : isRow (hv h q 0)) : F_X0_lowestBits h q v = F_X5_fit (hv h q 0) v := by
  unfold F_X0_lowestBits F_X5_fit
  simp only [letf]
  refine ifc (fun _ => rfl) (fun a0 => ifc (fun _ => rfl) (fun a1 => ifc (fun _ => rfl) (fun a2 => ifc (fun _ => rfl) (fun a3 => ?_))))
  rcases row_five r with y | y | y | y | y
  · exact absurd y a0
  · exact absurd y a1
  · exact absurd y a2
  · exact absurd y a3
  · rw [if_pos y]
    exact ifc (fun _ => by decide) (fun _ => by decide)
section
variable {T T2 : List Nat} {h h2 h' h2' : zH} {N N' S : ST} {K : Option ST} {C Z C' Z' : Nat → Int32} {E E' : Nat → Nat → Int64} {n : Nat} {B R : Nat → Int32}
/-- what is said of a shelf, on both sides -/
theorem sh_lack (H : HY T T2 h h2 N K C Z E n B R) {s : Nat} (hs : s < 8) : (hv h2 50 s = 0 ∧ C s = -1 ∧ F_X0_lackOfRow h (33 + 2 * s) = -4 ∧ F_X0_holdsRow h (33 + 2 * s) = 0) ∨ (hv h2 50 s = 1 ∧ isRow (C s) ∧ F_X0_lackOfRow h (33 + 2 * s) = 0 ∧ F_X0_holdsRow h (33 + 2 * s) ≠ 0) ∨ (hv h2 50 s = 2 ∧ (∃ t, t < 8 ∧ hv h2 63 s = nI t ∧ C s = nI (10 + t)) ∧ F_X0_lackOfRow h (33 + 2 * s) = -3 ∧ F_X0_holdsRow h (33 + 2 * s) = 0) := by
  obtain ⟨p1, p2, p3⟩ := hsh H hs
  have eh : F_X0_holdsRow h (33 + 2 * s) = F_X4_isWithin (C s) 0 4 := by
    unfold F_X0_holdsRow
    rw [letf_id, p2]
  have el : F_X0_lackOfRow h (33 + 2 * s) = if F_X4_isWithin (C s) 0 4 = 0 then (if C s = -1 then -4 else -3) else 0 := by
    unfold F_X0_lackOfRow
    simp only [letf]
    rw [eh, p2]
  rw [eh, el]
  rcases rsh H hs with ⟨a, b⟩ | ⟨a, b, c⟩ | ⟨a, t, b, c, d⟩
  · have z : F_X4_isWithin (C s) 0 4 = 0 := by
      rw [b]
      decide
    exact Or.inl ⟨a, b, by rw [if_pos z, if_pos b], z⟩
  · have z := row_in.mp b
    exact Or.inr (Or.inl ⟨a, b, if_neg z, z⟩)
  · have z : F_X4_isWithin (C s) 0 4 = 0 := by
      by_cases q : F_X4_isWithin (C s) 0 4 = 0
      · exact q
      · rw [d] at q
        exact absurd (row_in.mpr q) (row_out t b)
    exact Or.inr (Or.inr ⟨a, ⟨t, b, c, d⟩, by rw [if_pos z, if_neg (show ¬ C s = -1 from by rw [d]; exact n10 t b)], z⟩)
theorem rf_a0 (H : HY T T2 h h2 N K C Z E n B R) : (F_X5_refuse h2 49 (-2 : Int32)).1 = -2 := (r_rf0 H.2.2.1 H.2.2.2.1).1
theorem rf_a1 (H : HY T T2 h h2 N K C Z E n B R) : (F_X5_refuse h2 49 (-3 : Int32)).1 = -3 := (r_rf1 H.2.2.1 H.2.2.2.1).1
theorem rf_a2 (H : HY T T2 h h2 N K C Z E n B R) : (F_X5_refuse h2 49 (-4 : Int32)).1 = -4 := (r_rf2 H.2.2.1 H.2.2.2.1).1
theorem r_noRow (H : HY T T2 h h2 N K C Z E n B R) (a : Int32) : F_X5_noRow h2 49 a = if F_X4_isWithin a 0 7 = 0 then F_X5_refuse h2 49 (-2 : Int32) else if hv h2 50 a.toNatClampNeg = 2 then F_X5_refuse h2 49 (-3 : Int32) else if hv h2 50 a.toNatClampNeg = 0 then F_X5_refuse h2 49 (-4 : Int32) else (0, h2) := by
  unfold F_X5_noRow
  simp only [letf]
  rw [shelf_in, H.2.2.2.1.1.1.1]
theorem no_el {h : zH} {q : Nat} (b : Int32) (l : F_X0_holdsRow h q = 0) : F_X0_hasElement h q b = 0 := by
  unfold F_X0_hasElement
  simp only [letf]
  rw [if_pos l]
theorem m_set (H : HY T T2 h h2 N K C Z E n B R) (a b : Int32) (v : Int64) : PR h h2 (F_X4_set h 0 a b v) (F_X5_set h2 49 a b v) := by
  have wf := hw H
  have r0 := H.2.2.2.1.1.1
  have nr := r_noRow H a
  unfold F_X4_set F_X5_set
  simp only [letf]
  rw [shelf_eq, h31 H]
  by_cases w : F_X4_isWithin a 0 7 = 0
  · rw [if_pos w] at nr
    rw [nr, if_pos w, if_neg (show ¬ (F_X5_refuse h2 49 (-2 : Int32)).1 = 0 by rw [rf_a0 H]; decide)]
    exact pr0 H
  · rw [if_neg w] at nr
    rw [if_neg w]
    have hs := shelf_lt w
    generalize es : a.toNatClampNeg = s at hs nr ⊢
    obtain ⟨p1, p2, p3⟩ := hsh H hs
    rw [p1.1]
    rcases sh_lack H hs with ⟨l1, l2, l3, l4⟩ | ⟨l1, l2, l3, l4⟩ | ⟨l1, l2, l3, l4⟩
    · rw [l1, if_neg (show ¬ (0 : Int32) = 2 by decide), if_pos rfl] at nr
      rw [nr, l3, if_neg (show ¬ (-4 : Int32) = 0 by decide), if_neg (show ¬ (F_X5_refuse h2 49 (-4 : Int32)).1 = 0 by rw [rf_a2 H]; decide)]
      exact pr2 H
    · rw [l1, if_neg (show ¬ (1 : Int32) = 2 by decide), if_neg (show ¬ (1 : Int32) = 0 by decide)] at nr
      rw [nr, l3, if_pos rfl]
      dsimp only
      rw [if_pos rfl]
      obtain ⟨q1, q2⟩ := p3 l2
      obtain ⟨a1, a2, a3, a4, a5, a6⟩ : hv h2 50 s = 1 ∧ isRow (C s) ∧ (0 ≤ (Z s).toInt ∧ (Z s).toInt ≤ 40) ∧ hv h2 51 s = C s ∧ hv h2 52 s = Z s ∧ ∀ i, i < 40 → hJ h2 (54 + s) i = E s i := by
        rcases rsh H hs with y | y | y
        · rw [y.1] at l1
          exact absurd l1 (by decide)
        · exact y
        · rw [y.1] at l1
          exact absurd l1 (by decide)
      have eE : F_X0_hasElement h (33 + 2 * s) b = if F_X4_isWithin b 0 (Z s - 1) = 0 then 0 else 1 := by
        unfold F_X0_hasElement
        simp only [letf]
        rw [if_neg l4, q1]
      have ie : (Int32.toInt64 (Z s - 1)).toInt = (Z s - 1).toInt := i2l _
      have i0 : (0 : Int64).toInt = (0 : Int32).toInt := by decide
      rw [eE, r0.2.2.1, r0.2.1, r0.2.2.2.1, H.2.2.2.1.1.2 s hs, a5, a4, pair_in (a := b) i0 ie, p1.2, lowest_eq (by rw [p2]; exact l2), p2]
      by_cases w2 : F_X4_isWithin b 0 (Z s - 1) = 0
      · rw [if_pos w2, if_pos rfl, if_pos w2]
        exact pr0 H
      · rw [if_neg w2, if_neg w2, if_neg (show ¬ (1 : Int32) = 0 by decide)]
        have v2 := win w2
        have z1 : (Z s - 1).toInt = (Z s).toInt - 1 := i_isub (x := Z s) (y := 1) (by have : (1 : Int32).toInt = 1 := rfl; rw [this]; omega) (by have : (1 : Int32).toInt = 1 := rfl; rw [this]; omega)
        have v2 : 0 ≤ b.toInt ∧ b.toInt ≤ (Z s - 1).toInt := v2
        rw [z1] at v2
        have cb := clamp_i v2.1
        have hk : b.toNatClampNeg < 40 := by omega
        obtain ⟨t1, t2, t3⟩ := tS _ hs
        have gl := k_lng H.1.1 (zT_at H.1.2 t2) (i := b.toNatClampNeg) hk rfl
        have gr := k_lng H.2.2.1.1 (zT_at H.2.2.1.2.1 t3) (i := b.toNatClampNeg) hk rfl
        refine sh_one H hs (c := C s) (z := Z s) (e := fun i => if i = b.toNatClampNeg then F_X5_fit (C s) v else E s i) (fun m i q1 q2 => hget_put_ne (Or.inl q2)) ⟨⟨(hr_ne (Or.inl (by omega))).trans p1.1, (hr_ne (Or.inl (by omega))).trans p1.2⟩, (hv_ne (Or.inl (by omega))).trans (p2.trans upB_eq.symm), fun _ => ⟨(hv_ne (Or.inl (by omega))).trans (q1.trans upB_eq.symm), fun i hi => ?_⟩⟩ (fun m i q1 q2 q3 => hget_put_ne (Or.inl q2)) (Or.inr (Or.inl ⟨(hv_ne (Or.inl (by omega))).trans a1, by rw [upB_eq]; exact a2, by rw [upB_eq]; exact a3, (hv_ne (Or.inl (by omega))).trans (a4.trans upB_eq.symm), (hv_ne (Or.inl (by omega))).trans (a5.trans upB_eq.symm), fun i hi => ?_⟩)) (fun t ht t8 => H.2.2.2.2.1 s hs t ht t8) 1
        · rw [upE_eq]
          by_cases y : i = b.toNatClampNeg
          · rw [if_pos y, y, hJ_put gl]
          · rw [if_neg y, hJ_ne (Or.inr y), q2 i hi]
        · rw [upE_eq]
          by_cases y : i = b.toNatClampNeg
          · rw [if_pos y, y, hJ_put gr]
          · rw [if_neg y, hJ_ne (Or.inr y), a6 i hi]
    · rw [l1, if_pos rfl] at nr
      rw [nr, l3, if_neg (show ¬ (-3 : Int32) = 0 by decide), if_neg (show ¬ (F_X5_refuse h2 49 (-3 : Int32)).1 = 0 by rw [rf_a1 H]; decide)]
      exact pr1 H
theorem m_element (H : HY T T2 h h2 N K C Z E n B R) (a b : Int32) : F_X4_element h 0 a b = F_X5_element h2 49 a b := by
  have r0 := H.2.2.2.1.1.1
  unfold F_X4_element F_X5_element
  simp only [letf]
  rw [shelf_eq, shelf_in, h31 H, r0.1]
  refine ifc (fun _ => rfl) (fun w => ?_)
  have hs := shelf_lt w
  generalize es : a.toNatClampNeg = s at hs ⊢
  obtain ⟨p1, p2, p3⟩ := hsh H hs
  rw [p1.1]
  rcases sh_lack H hs with ⟨l1, l2, l3, l4⟩ | ⟨l1, l2, l3, l4⟩ | ⟨l1, l2, l3, l4⟩
  · rw [no_el b l4, l1, if_pos rfl, if_neg (by decide)]
  · rw [l1, if_pos rfl]
    obtain ⟨q1, q2⟩ := p3 l2
    obtain ⟨a1, a2, a3, a4, a5, a6⟩ : hv h2 50 s = 1 ∧ isRow (C s) ∧ (0 ≤ (Z s).toInt ∧ (Z s).toInt ≤ 40) ∧ hv h2 51 s = C s ∧ hv h2 52 s = Z s ∧ ∀ i, i < 40 → hJ h2 (54 + s) i = E s i := by
      rcases rsh H hs with y | y | y
      · rw [y.1] at l1
        exact absurd l1 (by decide)
      · exact y
      · rw [y.1] at l1
        exact absurd l1 (by decide)
    have eE : F_X0_hasElement h (33 + 2 * s) b = if F_X4_isWithin b 0 (Z s - 1) = 0 then 0 else 1 := by
      unfold F_X0_hasElement
      simp only [letf]
      rw [if_neg l4, q1]
    have ie : (Int32.toInt64 (Z s - 1)).toInt = (Z s - 1).toInt := i2l _
    have i0 : (0 : Int64).toInt = (0 : Int32).toInt := by decide
    rw [eE, r0.2.2.1, r0.2.2.2.1, H.2.2.2.1.1.2 s hs, a5, pair_in (a := b) i0 ie, p1.2]
    by_cases w2 : F_X4_isWithin b 0 (Z s - 1) = 0
    · rw [if_pos w2, if_pos rfl, if_pos w2]
    · rw [if_neg w2, if_neg (show ¬ (1 : Int32) = 0 by decide), if_neg w2]
      have v2 := win w2
      have z1 : (Z s - 1).toInt = (Z s).toInt - 1 := i_isub (x := Z s) (y := 1) (by have : (1 : Int32).toInt = 1 := rfl; rw [this]; omega) (by have : (1 : Int32).toInt = 1 := rfl; rw [this]; omega)
      have v2 : 0 ≤ b.toInt ∧ b.toInt ≤ (Z s - 1).toInt := v2
      rw [z1] at v2
      have cb := clamp_i v2.1
      rw [q2 _ (by omega), a6 _ (by omega)]
  · rw [no_el b l4, l1, if_pos rfl, if_neg (by decide)]
end
