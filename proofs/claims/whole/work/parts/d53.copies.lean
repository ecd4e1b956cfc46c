def goodC (z i n : Int32) : Prop := 0 ≤ i.toInt ∧ 0 ≤ n.toInt ∧ i.toInt + n.toInt ≤ z.toInt
theorem has_el {h : zH} {q : Nat} {z i n : Int32} (e : hv h q 1 = z) : (goodC z i n → F_X0_hasElements h q i n = 1) ∧ (¬ goodC z i n → F_X0_hasElements h q i n = 0) := by
  have lt : Int32.toInt64 z < Int32.toInt64 i + Int32.toInt64 n ↔ z.toInt < i.toInt + n.toInt := by
    have r1 := z.toInt_lt
    have r2 := z.le_toInt
    have r3 := i.toInt_lt
    have r4 := i.le_toInt
    have r5 := n.toInt_lt
    have r6 := n.le_toInt
    rw [lZ_i, lZ_i, lZ_i, ← lZ_add, l_lt, lZ_t (by omega) (by omega), lZ_t (by omega) (by omega)]
  have z0 : (0 : Int32).toInt = 0 := rfl
  have a0 : i < 0 ↔ i.toInt < 0 := by rw [i_lt, z0]
  have n0 : n < 0 ↔ n.toInt < 0 := by rw [i_lt, z0]
  unfold F_X0_hasElements goodC
  rw [e]
  clear z0
  constructor
  · intro g
    rw [if_neg (fun y => by have := a0.mp y; omega), if_neg (fun y => by have := n0.mp y; omega), if_neg (fun y => by have := lt.mp y; omega)]
  · intro g
    by_cases y : i < 0
    · rw [if_pos y]
    · rw [if_neg y]
      by_cases y2 : n < 0
      · rw [if_pos y2]
      · rw [if_neg y2]
        have y3 : Int32.toInt64 z < Int32.toInt64 i + Int32.toInt64 n := lt.mpr (by
          have b0 : ¬ i.toInt < 0 := fun q => y (a0.mpr q)
          have b1 : ¬ n.toInt < 0 := fun q => y2 (n0.mpr q)
          omega)
        rw [if_pos y3]
section
variable {T T2 : List Nat} {h h2 h' h2' : zH} {N N' S : ST} {K : Option ST} {C Z C' Z' : Nat → Int32} {E E' : Nat → Nat → Int64} {n : Nat} {B R : Nat → Int32}
theorem z_sub {z i n : Int32} (hz : 0 ≤ z.toInt ∧ z.toInt ≤ 40) (h0 : 0 ≤ n.toInt) (h1 : n.toInt ≤ z.toInt) : z - n < i ↔ z.toInt - n.toInt < i.toInt := by
  rw [i_lt, i_isub (x := z) (y := n) (by omega) (by omega)]
theorem j93_row (H : HY T T2 h h2 N K C Z E n B R) {a1 a2 a3 a4 a5 : Int32} {s t : Nat} (es : a1.toNatClampNeg = s) (et : a2.toNatClampNeg = t) (rs : hv h2 50 s = 1) (rt : hv h2 50 t = 1) (zs : hv h2 52 s = Z s) (zt : hv h2 52 t = Z t) (bs : 0 ≤ (Z s).toInt ∧ (Z s).toInt ≤ 40) (bt : 0 ≤ (Z t).toInt ∧ (Z t).toInt ≤ 40) : (goodC (Z s) a3 a5 ∧ goodC (Z t) a4 a5 → J_X5_copy_j93 h2 49 a1 a2 a3 a4 a5 = fx (B_X5_copy_191 49 a1 a2 a3 a4 a5) (0, []) ((0 : Int32), h2)) ∧ (¬ (goodC (Z s) a3 a5 ∧ goodC (Z t) a4 a5) → J_X5_copy_j93 h2 49 a1 a2 a3 a4 a5 = F_X5_refuse h2 49 (-2 : Int32)) := by
  have r0 := H.2.2.2.1.1.1
  have z0 : (0 : Int32).toInt = 0 := rfl
  have lt0 : ∀ x : Int32, x < 0 ↔ x.toInt < 0 := fun x => by rw [i_lt, z0]
  clear z0
  have e181 : J_X5_copy_j181 h2 49 a1 a2 a3 a4 a5 = F_X5_refuse h2 49 (-2 : Int32) := by
    unfold J_X5_copy_j181
    exact letf_id _
  unfold J_X5_copy_j93 goodC
  rw [r0.1, r0.2.2.1, es, et, rs, rt, zs, zt, e181, if_neg (show ¬ (1 : Int32) = 0 by decide), if_neg (show ¬ (1 : Int32) = 0 by decide)]
  constructor
  · rintro ⟨⟨g1, g2, g3⟩, g4, g5, g6⟩
    rw [if_neg (fun y => by have := (lt0 _).mp y; omega), if_neg (fun y => by have := (lt0 _).mp y; omega), if_neg (fun y => by have := (lt0 _).mp y; omega), if_neg (fun y => by rw [i_lt] at y; omega), if_neg (fun y => by rw [i_lt] at y; omega), if_neg (fun y => by have := (z_sub bs g2 (by omega)).mp y; omega), if_neg (fun y => by have := (z_sub bt g2 (by omega)).mp y; omega)]
  · intro g
    by_cases y1 : a5 < 0
    · rw [if_pos y1]
    · rw [if_neg y1]
      by_cases y2 : a3 < 0
      · rw [if_pos y2]
      · rw [if_neg y2]
        by_cases y3 : a4 < 0
        · rw [if_pos y3]
        · rw [if_neg y3]
          by_cases y4 : Z s < a5
          · rw [if_pos y4]
          · rw [if_neg y4]
            by_cases y5 : Z t < a5
            · rw [if_pos y5]
            · rw [if_neg y5]
              have q1 : ¬ a5.toInt < 0 := fun q => y1 ((lt0 _).mpr q)
              have q2 : ¬ a3.toInt < 0 := fun q => y2 ((lt0 _).mpr q)
              have q3 : ¬ a4.toInt < 0 := fun q => y3 ((lt0 _).mpr q)
              have q4 : ¬ (Z s).toInt < a5.toInt := fun q => y4 (i_lt.mpr q)
              have q5 : ¬ (Z t).toInt < a5.toInt := fun q => y5 (i_lt.mpr q)
              by_cases y6 : Z s - a5 < a3
              · rw [if_pos y6]
              · rw [if_neg y6]
                have q6 : ¬ (Z s).toInt - a5.toInt < a3.toInt := fun q => y6 ((z_sub bs (by omega) (by omega)).mpr q)
                have y7 : Z t - a5 < a4 := (z_sub bt (by omega) (by omega)).mpr (by omega)
                rw [if_pos y7]
theorem m_copy (H : HY T T2 h h2 N K C Z E n B R) (a1 a2 a3 a4 a5 : Int32) : PR h h2 (F_X4_copy h 0 a1 a2 a3 a4 a5) (F_X5_copy h2 49 a1 a2 a3 a4 a5) := by
  have r0 := H.2.2.2.1.1.1
  have e24 : J_X5_copy_j24 h2 49 a1 a2 a3 a4 a5 = F_X5_refuse h2 49 (-2 : Int32) := by
    unfold J_X5_copy_j24
    exact letf_id _
  have e86 : J_X5_copy_j86 h2 49 a1 a2 a3 a4 a5 = F_X5_refuse h2 49 (-3 : Int32) := by
    unfold J_X5_copy_j86
    exact letf_id _
  have e111 : J_X5_copy_j111 h2 49 a1 a2 a3 a4 a5 = F_X5_refuse h2 49 (-4 : Int32) := by
    unfold J_X5_copy_j111
    exact letf_id _
  unfold F_X4_copy F_X5_copy
  simp only [letf]
  rw [shelf_eq, shelf_eq, shelf_in, shelf_in, h31 H, r0.1, r0.2.1, e24, e86]
  by_cases w : F_X4_isWithin a1 0 7 = 0
  · rw [if_pos w, if_pos w]
    exact pr0 H
  · rw [if_neg w, if_neg w]
    by_cases w2 : F_X4_isWithin a2 0 7 = 0
    · rw [if_pos w2, if_pos w2]
      exact pr0 H
    · rw [if_neg w2, if_neg w2]
      have hs := shelf_lt w
      have ht := shelf_lt w2
      generalize es : a1.toNatClampNeg = s at hs ⊢
      generalize et : a2.toNatClampNeg = t at ht ⊢
      obtain ⟨p1, p2, p3⟩ := hsh H hs
      obtain ⟨q1, q2, q3⟩ := hsh H ht
      have el : F_X4_lackOfRows h (33 + 2 * s) (33 + 2 * t) = if F_X0_lackOfRow h (33 + 2 * s) = -3 then -3 else if F_X0_lackOfRow h (33 + 2 * t) = -3 then -3 else if F_X0_lackOfRow h (33 + 2 * s) = -4 then -4 else if F_X0_lackOfRow h (33 + 2 * t) = -4 then -4 else if C s = C t then 0 else -3 := by
        unfold F_X4_lackOfRows
        simp only [letf]
        rw [p2, q2]
      rw [p1.1, q1.1, p1.2, q1.2]
      have n34 : ¬ (-4 : Int32) = -3 := by decide
      have n03 : ¬ (0 : Int32) = -3 := by decide
      have n04 : ¬ (0 : Int32) = -4 := by decide
      have n40 : ¬ (-4 : Int32) = 0 := by decide
      have n30 : ¬ (-3 : Int32) = 0 := by decide
      have m02 : ¬ (0 : Int32) = 2 := by decide
      have m12 : ¬ (1 : Int32) = 2 := by decide
      have m01 : ¬ (0 : Int32) = 1 := by decide
      have j93a : hv h2 50 s = 0 → J_X5_copy_j93 h2 49 a1 a2 a3 a4 a5 = F_X5_refuse h2 49 (-4 : Int32) := fun y => by
        unfold J_X5_copy_j93
        rw [r0.1, es, y, if_pos rfl, e111]
      have j93b : hv h2 50 s = 1 → hv h2 50 t = 0 → J_X5_copy_j93 h2 49 a1 a2 a3 a4 a5 = F_X5_refuse h2 49 (-4 : Int32) := fun y y2 => by
        unfold J_X5_copy_j93
        rw [r0.1, es, et, y, y2, if_neg (show ¬ (1 : Int32) = 0 by decide), if_pos rfl, e111]
      rcases sh_lack H hs with ⟨l1, l2, l3, l4⟩ | ⟨l1, l2, l3, l4⟩ | ⟨l1, l2, l3, l4⟩
      · rcases sh_lack H ht with ⟨k1, k2, k3, k4⟩ | ⟨k1, k2, k3, k4⟩ | ⟨k1, k2, k3, k4⟩
        · rw [l3, k3, if_neg n34, if_neg n34, if_pos rfl] at el
          rw [el, if_neg n40, l1, k1, if_neg m02, if_neg m02, if_neg m01, j93a l1]
          exact pr2 H
        · rw [l3, k3, if_neg n34, if_neg n03, if_pos rfl] at el
          rw [el, if_neg n40, l1, k1, if_neg m02, if_neg m12, if_neg m01, j93a l1]
          exact pr2 H
        · rw [l3, k3, if_neg n34, if_pos rfl] at el
          rw [el, if_neg n30, l1, k1, if_neg m02, if_pos rfl]
          exact pr1 H
      · rcases sh_lack H ht with ⟨k1, k2, k3, k4⟩ | ⟨k1, k2, k3, k4⟩ | ⟨k1, k2, k3, k4⟩
        · rw [l3, k3, if_neg n03, if_neg n34, if_neg n04, if_pos rfl] at el
          rw [el, if_neg n40, l1, k1, if_neg m12, if_neg m02, if_pos rfl, if_neg m01, j93b l1 k1]
          exact pr2 H
        · rw [l3, k3, if_neg n03, if_neg n03, if_neg n04, if_neg n04] at el
          have row : ∀ u, u < 8 → hv h2 50 u = 1 → isRow (C u) ∧ (0 ≤ (Z u).toInt ∧ (Z u).toInt ≤ 40) ∧ hv h2 51 u = C u ∧ hv h2 52 u = Z u ∧ ∀ i, i < 40 → hJ h2 (54 + u) i = E u i := fun u hu l1 => by
            rcases rsh H hu with y | y | y
            · rw [y.1] at l1
              exact absurd l1 (by decide)
            · exact y.2
            · rw [y.1] at l1
              exact absurd l1 (by decide)
          obtain ⟨a2', a3', a4', a5', a6'⟩ := row s hs l1
          obtain ⟨b2', b3', b4', b5', b6'⟩ := row t ht k1
          rw [l1, k1, if_neg m12, if_neg m12, if_pos rfl, if_pos rfl, a4', b4']
          by_cases c : C s = C t
          · rw [if_pos c] at el
            obtain ⟨g1, g2⟩ := j93_row H (a3 := a3) (a4 := a4) (a5 := a5) es et l1 k1 a5' b5' a3' b3'
            obtain ⟨f1, f2⟩ := has_el (i := a3) (n := a5) (p3 l2).1
            obtain ⟨f3, f4⟩ := has_el (i := a4) (n := a5) (q3 k2).1
            rw [el, if_pos rfl, if_pos c]
            by_cases x1 : goodC (Z s) a3 a5
            · rw [f1 x1, if_neg (show ¬ (1 : Int32) = 0 by decide)]
              by_cases x2 : goodC (Z t) a4 a5
              · have c3 := clamp_i x1.1
                have c5 := clamp_i x1.2.1
                have c4 := clamp_i x2.1
                have s1 := x1.2.2
                have s2 := x2.2.2
                have cz := clamp_i a3'.1
                have cy := clamp_i b3'.1
                have co := copy_out (h := h2) (p := a1) (q := a2) (nI_back x1.2.1) (by omega) (nI_back x2.1) (by omega) (nI_back x1.1) (by omega) et ht es hs r0.2.2.2.2.1 r0.2.2.2.1 (H.2.2.2.1.1.2)
                rw [f3 x2, if_neg (show ¬ (1 : Int32) = 0 by decide), g1 ⟨x1, x2⟩, co]
                exact copy_els H hs ht l1 k1 (by omega) (by omega) a5
              · rw [f4 x2, if_pos rfl, g2 (fun y => x2 y.2)]
                exact pr0 H
            · rw [f2 x1, if_pos rfl, g2 (fun y => x1 y.1)]
              exact pr0 H
          · rw [if_neg c] at el
            rw [el, if_neg n30, if_neg c]
            exact pr1 H
        · rw [l3, k3, if_neg n03, if_pos rfl] at el
          rw [el, if_neg n30, l1, k1, if_neg m12, if_pos rfl]
          exact pr1 H
      · rw [l3, if_pos rfl] at el
        rw [el, if_neg n30, l1, if_pos rfl]
        exact pr1 H
end
