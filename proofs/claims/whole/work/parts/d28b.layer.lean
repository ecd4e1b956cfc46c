section
variable {T : List Nat} {h0 h : zH} {N A M J : Nat → Int32} {S : ST}
theorem iZ_pos {z : Int} (h1 : 0 ≤ z) (h2 : z ≤ 500000000) : (0 : Int32) < iZ z ↔ 0 < z := by
  rw [i_lt, iZ_t (by omega) (by omega)]
  exact Iff.rfl
theorem dn_i {m st j : Nat} (h : m + j = st) (hb : st < 256) : (nI m + (-1 : Int32)).toInt = (st : Int) - ((j + 1 : Nat) : Int) := by
  have h3 : (-1 : Int32).toInt = -1 := rfl
  rw [i_iadd (by rw [nI_t (by omega), h3]; omega) (by rw [nI_t (by omega), h3]; omega), nI_t (by omega), h3]
  omega
theorem pos_i {m : Nat} (h : m < 1000) : ¬ nI m < 0 := by
  rw [i_lt, e0, nI_t (by omega)]
  omega
theorem sub_i {a b : Nat} (ha : a < 1000) (hb : b < 1000) : nI a - nI b < 0 ↔ a < b := by
  rw [i_lt, e0, i_isub (by rw [nI_t (by omega), nI_t (by omega)]; omega) (by rw [nI_t (by omega), nI_t (by omega)]; omega), nI_t (by omega), nI_t (by omega)]
  omega
theorem sub_e {a b : Nat} (ha : a < 1000) (hb : b ≤ a) : nI a - nI b = nI (a - b) := by
  rw [i_eq, i_isub (by rw [nI_t (by omega), nI_t (by omega)]; omega) (by rw [nI_t (by omega), nI_t (by omega)]; omega), nI_t (by omega), nI_t (by omega), nI_t (by omega)]
  omega
theorem nI_z {a : Nat} (h : a < 1000) : nI a = 0 ↔ a = 0 := by
  rw [i_eq, nI_t (by omega), e0]
  omega
theorem nI_at {x : Int32} {m st j : Nat} (hm : m + j = st) (hb : st < 256) (e : x.toInt = (st : Int) - (j : Int)) : x = nI m := by
  rw [i_eq, nI_t (by omega), e]
  omega
theorem min_255 {m : Nat} (h : m < 256) : jmin (nI m) (255 : Int32) = nI m := by
  have e255 : (255 : Int32).toInt = 255 := rfl
  unfold jmin
  rw [if_neg (by rw [i_lt, e255, nI_t (by omega)]; omega)]
theorem c_fillLayer (w : WF S) (ht : tT T) {b : Nat} {pr : Int32} (hpr : 0 ≤ pr.toInt ∧ pr.toInt ≤ 99) (c : TH T h0 h (lkNs S) A M (joy S b)) {dep k : Nat} (hk : k < dep) (hd : dep ≤ inN S) (h60 : inN S ≤ 60) (hA : ∀ m, m < 256 → A m = iZ (vcl S b pr.toInt dep (k + 1) m)) (hM : ∀ g m, g ≤ 60 → m < 256 → mkB M g m = (decide (k < g) && decide (0 < vcl S b pr.toInt dep g m))) :
    ∃ A' M', TH T h0 (F_X3_fillLayer h 25 (nI k) (nI (inN S - k)) (nI (rdN S (S 0 4 + nI k) (nI (inN S - k)))) pr) (lkNs S) A' M' (joy S b) ∧ (∀ m, m < 256 → A' m = iZ (vcl S b pr.toInt dep k m)) ∧ ∀ g m, g ≤ 60 → m < 256 → mkB M' g m = (decide (k ≤ g) && decide (0 < vcl S b pr.toInt dep g m)) := by
  have n8 := nT_8 w
  have st := own_lt w (-1)
  have st : stN S < 256 := st
  have vb := fun j m => vcl_b w b (pr := pr.toInt) hpr.1 (dep := dep) (k := j) (by omega) m
  have h4 : hv h 25 4 = nI (stN S) := c.2.2.2.1 4 (by decide) (by decide)
  have hmin : jmin (hv h 25 4) (255 : Int32) = nI (stN S) := by
    rw [h4]
    exact min_255 st
  clear h4
  have hup : ∀ i, i < 256 → stN S < i → ¬ sDiff i (stN S) = 0 := fun i hi hlt hs => by
    have := sub_le hi st hs
    omega
  have v0 : ∀ j i, ¬ sDiff i (stN S) = 0 → vcl S b pr.toInt dep j i = 0 := fun j i hn => if_neg (fun y => hn y.1)
  unfold F_X3_fillLayer
  rw [hmin]
  refine fx_forI (F := B_X3_fillLayer_12 25 (nI k) (nI (inN S - k)) (nI (rdN S (S 0 4 + nI k) (nI (inN S - k)))) pr) (d := [])
    (fun j (x : Int32 × zH) => x.1.toInt = (stN S : Int) - (j : Int) ∧ ∃ A' M', TH T h0 x.2 (lkNs S) A' M' (joy S b) ∧ (∀ i, i < 256 → A' i = iZ (if (stN S : Int) - (j : Int) < (i : Int) then vcl S b pr.toInt dep k i else vcl S b pr.toInt dep (k + 1) i)) ∧ ∀ g m, g ≤ 60 → m < 256 → mkB M' g m = ((decide (k < g) && decide (0 < vcl S b pr.toInt dep g m)) || (decide (g = k) && decide ((stN S : Int) - (j : Int) < (m : Int)) && decide (0 < vcl S b pr.toInt dep k m))))
    (fun r => ∃ A' M', TH T h0 r (lkNs S) A' M' (joy S b) ∧ (∀ m, m < 256 → A' m = iZ (vcl S b pr.toInt dep k m)) ∧ ∀ g m, g ≤ 60 → m < 256 → mkB M' g m = (decide (k ≤ g) && decide (0 < vcl S b pr.toInt dep g m))) (stN S + 1) (fun x hx => ?_) (fun j x hj hx => ?_) ?_
  · obtain ⟨x1, x2⟩ := x
    obtain ⟨e, A', M', g1, g2, g3⟩ := hx
    have e : x1.toInt = (stN S : Int) - ((stN S + 1 : Nat) : Int) := e
    refine ⟨x2, ?_, A', M', g1, fun m hm => ?_, fun g m hg hm => ?_⟩
    · unfold B_X3_fillLayer_12
      exact if_pos (by rw [i_lt, e0]; omega)
    · rw [g2 m hm, if_pos (by omega)]
    · rw [g3 g m hg hm, decide_eq_true (show (stN S : Int) - ((stN S + 1 : Nat) : Int) < (m : Int) by omega)]
      by_cases y : g = k
      · rw [y, decide_eq_false (Nat.lt_irrefl k), decide_eq_true (Nat.le_refl k), decide_eq_true (rfl : k = k)]
        rfl
      · rw [decide_eq_false y]
        by_cases z : k < g
        · rw [decide_eq_true z, decide_eq_true (show k ≤ g by omega)]
          simp
        · rw [decide_eq_false z, decide_eq_false (show ¬ k ≤ g by omega)]
          rfl
  · obtain ⟨x1, x2⟩ := x
    obtain ⟨e, A', M', g1, g2, g3⟩ := hx
    have e : x1.toInt = (stN S : Int) - (j : Int) := e
    have g1 : TH T h0 x2 (lkNs S) A' M' (joy S b) := g1
    obtain ⟨m, hm⟩ : ∃ m : Nat, m + j = stN S := ⟨stN S - j, by omega⟩
    have ex : x1 = nI m := nI_at hm st e
    subst ex
    clear e
    have m256 : m < 256 := by omega
    have lt_m : ∀ i : Nat, ((stN S : Int) - (j : Int) < (i : Int)) = (m < i) := fun i => propext ⟨fun _ => by omega, fun _ => by omega⟩
    have lt_m1 : ∀ i : Nat, ((stN S : Int) - ((j + 1 : Nat) : Int) < (i : Int)) = (m ≤ i) := fun i => propext ⟨fun _ => by omega, fun _ => by omega⟩
    have h4' : hv x2 25 4 = nI (stN S) := g1.2.2.2.1 4 (by decide) (by decide)
    have same : vcl S b pr.toInt dep k m = 0 → vcl S b pr.toInt dep (k + 1) m = 0 → ∃ A'' M'', TH T h0 x2 (lkNs S) A'' M'' (joy S b) ∧ (∀ i, i < 256 → A'' i = iZ (if (stN S : Int) - ((j + 1 : Nat) : Int) < (i : Int) then vcl S b pr.toInt dep k i else vcl S b pr.toInt dep (k + 1) i)) ∧ ∀ g m', g ≤ 60 → m' < 256 → mkB M'' g m' = ((decide (k < g) && decide (0 < vcl S b pr.toInt dep g m')) || (decide (g = k) && decide ((stN S : Int) - ((j + 1 : Nat) : Int) < (m' : Int)) && decide (0 < vcl S b pr.toInt dep k m'))) := fun z1 z2 => by
      refine ⟨A', M', g1, fun i hi => ?_, fun g m' hg hm' => ?_⟩
      · rw [g2 i hi]
        simp only [lt_m, lt_m1]
        by_cases y : i = m
        · rw [y, if_neg (Nat.lt_irrefl _), if_pos (Nat.le_refl _), z1, z2]
        · by_cases z : m < i
          · rw [if_pos z, if_pos (by omega)]
          · rw [if_neg z, if_neg (by omega)]
      · rw [g3 g m' hg hm']
        simp only [lt_m, lt_m1]
        by_cases y : m' = m
        · rw [y, z1]
          simp
        · by_cases z : m < m'
          · rw [decide_eq_true z, decide_eq_true (show m ≤ m' by omega)]
          · rw [decide_eq_false z, decide_eq_false (show ¬ m ≤ m' by omega)]
    refine Or.inr ?_
    unfold B_X3_fillLayer_12
    simp only [letf]
    rw [if_neg (pos_i (by omega)), h4', s_andnot m256 st, F_J6_eq m m256]
    have sd := sDiff_lt m (stN S)
    by_cases hs : sDiff m (stN S) = 0
    · rw [if_pos ((nI_z (by omega)).mpr hs)]
      have pm : pcount 8 m ≤ 8 := by
        rw [pc8_sum]
        have := sumN_le (f := nb m) (b := 1) (m := 8) (fun i _ => by have := nb_lt m i; omega)
        omega
      by_cases hp : pcount 8 m ≤ inN S - k
      · have eb : nI (inN S - k) - nI (pcount 8 m) = nI (inN S - k - pcount 8 m) := sub_e (by omega) hp
        have rl := rdN_lt w (S 0 4 + nI k) (nI (inN S - k))
        have it := sub_inT m256 hs (inT_st w)
        have hvl := c_valueOf w hpr g1 (f := fun i => if (stN S : Int) - (j : Int) < (i : Int) then vcl S b pr.toInt dep k i else vcl S b pr.toInt dep (k + 1) i) g2 (fun i => by
          show 0 ≤ (if (stN S : Int) - (j : Int) < (i : Int) then vcl S b pr.toInt dep k i else vcl S b pr.toInt dep (k + 1) i) ∧ (if (stN S : Int) - (j : Int) < (i : Int) then vcl S b pr.toInt dep k i else vcl S b pr.toInt dep (k + 1) i) ≤ 500000000
          by_cases y : (stN S : Int) - (j : Int) < (i : Int)
          · rw [if_pos y]
            exact vb k i
          · rw [if_neg y]
            exact vb (k + 1) i) (gone := S 0 4 + nI k) (left := inN S - k) (by omega) it
        rw [vcl_step w b pr.toInt hk hd m256 hs hp (fun x hx6 hx => by
          have hle := sub_le hx6 m256 hx
          have : ¬ (stN S : Int) - (j : Int) < (x : Int) := by
            rw [lt_m]
            omega
          exact if_neg this)] at hvl
        have ec : canN S (S 0 4 + nI k) (inN S - k) m = m &&& rdN S (S 0 4 + nI k) (nI (inN S - k)) := rfl
        rw [ec] at hvl
        rw [if_neg (fun y => by have := (sub_i (by omega) (by omega)).mp y; omega), s_and m256 rl, eb, hvl]
        have p1 := th_pA ht g1 m256 (iZ (vcl S b pr.toInt dep k m))
        rw [g1.2.2.1.1, nI_c (by omega)]
        rw [p1.2.2.1.1, p1.2.2.2.2.1 m m256]
        have um : upF A' m (iZ (vcl S b pr.toInt dep k m)) m = iZ (vcl S b pr.toInt dep k m) := if_pos rfl
        rw [um]
        have a2 : ∀ i, i < 256 → upF A' m (iZ (vcl S b pr.toInt dep k m)) i = iZ (if (stN S : Int) - ((j + 1 : Nat) : Int) < (i : Int) then vcl S b pr.toInt dep k i else vcl S b pr.toInt dep (k + 1) i) := fun i hi => by
          show (if i = m then iZ (vcl S b pr.toInt dep k m) else A' i) = _
          rw [g2 i hi]
          simp only [lt_m, lt_m1]
          by_cases y : i = m
          · rw [if_pos y, y, if_pos (Nat.le_refl _)]
          · rw [if_neg y]
            by_cases z : m < i
            · rw [if_pos z, if_pos (by omega)]
            · rw [if_neg z, if_neg (by omega)]
        by_cases hv0 : 0 < vcl S b pr.toInt dep k m
        · rw [if_pos ((iZ_pos (vb k m).1 (vb k m).2).mpr hv0)]
          obtain ⟨M2, q1, q2⟩ := c_mark ht p1 (g := k) (m := m) (by omega) m256
          refine ⟨_, rfl, dn_i hm st, _, M2, q1, a2, fun g m' hg hm' => ?_⟩
          rw [q2 g m' hg hm', g3 g m' hg hm']
          simp only [lt_m, lt_m1]
          by_cases y : g = k ∧ m' = m
          · rw [if_pos y, y.1, y.2, decide_eq_true (rfl : k = k), decide_eq_true (Nat.le_refl m), decide_eq_true hv0]
            simp
          · rw [if_neg y]
            by_cases z : g = k
            · have : m' ≠ m := fun t => y ⟨z, t⟩
              by_cases u : m < m'
              · rw [decide_eq_true u, decide_eq_true (show m ≤ m' by omega)]
              · rw [decide_eq_false u, decide_eq_false (show ¬ m ≤ m' by omega)]
            · rw [decide_eq_false z]
              simp
        · have hv1 : vcl S b pr.toInt dep k m = 0 := by
            have := vb k m
            omega
          rw [if_neg (fun y => hv0 ((iZ_pos (vb k m).1 (vb k m).2).mp y))]
          refine ⟨_, rfl, dn_i hm st, _, M', p1, a2, fun g m' hg hm' => ?_⟩
          rw [g3 g m' hg hm']
          simp only [lt_m, lt_m1]
          by_cases y : m' = m
          · rw [y, hv1]
            simp
          · by_cases z : m < m'
            · rw [decide_eq_true z, decide_eq_true (show m ≤ m' by omega)]
            · rw [decide_eq_false z, decide_eq_false (show ¬ m ≤ m' by omega)]
      · rw [if_pos ((sub_i (by omega) (by omega)).mpr (by omega))]
        exact ⟨_, rfl, dn_i hm st, same (if_neg (fun y => hp y.2)) (if_neg (fun y => hp (by omega)))⟩
    · rw [if_neg (fun y => hs ((nI_z (by omega)).mp y))]
      exact ⟨_, rfl, dn_i hm st, same (v0 _ _ hs) (v0 _ _ hs)⟩
  · refine ⟨?_, A, M, c, fun i hi => ?_, fun g m hg hm => ?_⟩
    · show (nI (stN S)).toInt = (stN S : Int) - ((0 : Nat) : Int)
      rw [nI_t (by omega)]
      omega
    · rw [hA i hi]
      by_cases y : (stN S : Int) - ((0 : Nat) : Int) < (i : Int)
      · rw [if_pos y, v0 _ _ (hup i hi (by omega)), v0 _ _ (hup i hi (by omega))]
      · rw [if_neg y]
    · rw [hM g m hg hm]
      by_cases y : (stN S : Int) - ((0 : Nat) : Int) < (m : Int)
      · rw [v0 k m (hup m hm (by omega))]
        simp
      · rw [decide_eq_false y]
        simp
end
