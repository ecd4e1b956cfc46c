section
variable {T : List Nat} {h : zH} {q : Nat}
theorem nm1 : ∀ t : Nat, t < 8 → nI t ≠ -1 := by decide
theorem ftN_cases {m : Nat} : ∀ n j : Nat, (ftN m n j = -1 ∧ ∀ t, j ≤ t → t < j + n → nb m t = 0) ∨ ∃ t, j ≤ t ∧ t < j + n ∧ ftN m n j = nI t ∧ nb m t ≠ 0
  | 0, j => Or.inl ⟨rfl, fun t h1 h2 => absurd h2 (by omega)⟩
  | n + 1, j => by
    show ((if nb m j = 0 then ftN m n (j + 1) else nI j) = -1 ∧ _) ∨ ∃ t, _ ∧ _ ∧ (if nb m j = 0 then ftN m n (j + 1) else nI j) = nI t ∧ _
    by_cases e : nb m j = 0
    · rw [if_pos e]
      rcases ftN_cases n (j + 1) with ⟨h1, h2⟩ | ⟨t, h1, h2, h3, h4⟩
      · refine Or.inl ⟨h1, fun t a b => ?_⟩
        by_cases et : t = j
        · rw [et]
          exact e
        · exact h2 t (by omega) (by omega)
      · exact Or.inr ⟨t, by omega, by omega, h3, h4⟩
    · rw [if_neg e]
      exact Or.inr ⟨j, Nat.le_refl _, by omega, rfl, e⟩
theorem brN_cases (S : ST) (m : Nat) : brN S m = -1 ∨ ∃ t, t < nT S ∧ brN S m = nI t ∧ nb m t = 1 ∧ kd S t ≠ 1 ∧ kd S t ≠ 3 := by
  unfold brN
  rcases ftN_cases (m := sDiff m (unN S 1)) (nT S) 0 with ⟨h1, -⟩ | ⟨t, -, h2, h3, h4⟩
  · exact Or.inl h1
  · by_cases h8 : t < 8
    · rw [nb_diff _ _ _ h8] at h4
      by_cases e : nb m t = 1 ∧ nb (unN S 1) t = 0
      · refine Or.inr ⟨t, by omega, h3, e.1, ?_⟩
        have e2 := e.2
        unfold unN at e2
        rw [nb_set] at e2
        have e3 : ¬ (undN (kd S t) 1 = true) := fun x => by
          rw [if_pos ⟨by omega, x⟩] at e2
          cases e2
        constructor
        · intro k
          rw [k] at e3
          exact e3 rfl
        · intro k
          rw [k] at e3
          exact e3 rfl
      · rw [if_neg e] at h4
        exact absurd rfl h4
    · exact absurd (nb_big (m := sDiff m (unN S 1)) (t := t) (Nat.lt_of_lt_of_le (sDiff_lt _ _) (Nat.pow_le_pow_right (n := 2) (by decide) (show 8 ≤ t by omega)))) h4
/-- what is won by the slip of t, when those of m stand -/
def wonN (S : ST) (t m : Nat) : Nat := if kd S t = 3 ∧ brN S m ≠ -1 then 2 ^ t ||| 2 ^ (brN S m).toNatClampNeg else 2 ^ t
theorem p2_8 {t : Nat} (h : t < 8) : 2 ^ t < 256 := Nat.pow_lt_pow_right (a := 2) (n := 8) (by decide) h
theorem or_8 {a b : Nat} (ha : a < 256) (hb : b < 256) : a ||| b < 256 := Nat.or_lt_two_pow (n := 8) ha hb
theorem br_lt {S : ST} (w : WF S) {m : Nat} (h : brN S m ≠ -1) : (brN S m).toNatClampNeg < nT S ∧ brN S m = nI (brN S m).toNatClampNeg := by
  rcases brN_cases S m with e | ⟨t, h1, h2, -⟩
  · exact absurd e h
  · have n8 := nT_8 w
    rw [h2, nI_c (by omega)]
    exact ⟨h1, rfl⟩
theorem wonN_lt {S : ST} (w : WF S) {t m : Nat} (ht : t < nT S) : wonN S t m < 256 := by
  have n8 := nT_8 w
  unfold wonN
  by_cases e : kd S t = 3 ∧ brN S m ≠ -1
  · rw [if_pos e]
    exact or_8 (p2_8 (by omega)) (p2_8 (by have := (br_lt w e.2).1; omega))
  · rw [if_neg e]
    exact p2_8 (by omega)
/-- what is won by a slip -/
def winsN (S : ST) (x : Int32) : Nat := if isT S (thOn S x) ∧ S 6 (thOn S x).toNatClampNeg = -1 then wonN S (thOn S x).toNatClampNeg (stN S) else 0
theorem k3 {S : ST} (w : WF S) {t : Nat} (ht : t < nT S) {k : Nat} (hk : k < 6) : nI (kd S t) = nI k ↔ kd S t = k := by
  rw [i_eq, nI_t (by have := (kd_i w ht).2; omega), nI_t (by omega)]
  omega
theorem isT_n {S : ST} (w : WF S) {t : Nat} (ht : t < nT S) : isT S (nI t) := by
  have n8 := nT_8 w
  have := nT_i w
  show 0 ≤ (nI t).toInt ∧ (nI t).toInt < _
  rw [nI_t (by omega)]
  omega
theorem isT_lt {S : ST} (w : WF S) {x : Int32} (hx : isT S x) : x.toNatClampNeg < nT S ∧ x = nI x.toNatClampNeg := by
  have h1 := nT_i w
  have h2 := clamp_i hx.1
  have h3 := hx.2
  exact ⟨by omega, nI_back hx.1⟩
theorem notT_m1 (S : ST) : ¬ isT S (-1) := fun x => absurd x.1 (by decide)
theorem c_won (c : CC T h q) (x : Int32) : F_X1_wonBySlip h q x = nI (winsN (cAbs h q) x) := by
  have w := c.2.2.1
  have n8 := nT_8 w
  have h10 : ¬ (1 : Int32) = 0 := by decide
  unfold F_X1_wonBySlip winsN
  simp only [letf]
  rw [c_thOn c, c_stands c]
  by_cases es : isT (cAbs h q) (thOn (cAbs h q) x) ∧ cAbs h q 6 (thOn (cAbs h q) x).toNatClampNeg = -1
  · rw [if_pos es, if_pos es, if_neg h10]
    obtain ⟨ht, hb⟩ := isT_lt w es.1
    generalize (thOn (cAbs h q) x).toNatClampNeg = t at ht hb ⊢
    rw [hb, c_kind c ht, c_brought c, s_one t (by omega)]
    unfold wonN
    have kk : nI (kd (cAbs h q) t) = 3 ↔ kd (cAbs h q) t = 3 := k3 w ht (k := 3) (by decide)
    by_cases e3 : kd (cAbs h q) t = 3
    · rw [if_pos (kk.mpr e3)]
      by_cases eb : brN (cAbs h q) (stN (cAbs h q)) = -1
      · rw [if_pos eb, if_neg (fun y => y.2 eb)]
      · obtain ⟨b1, b2⟩ := br_lt w eb
        rw [if_neg eb, if_pos ⟨e3, eb⟩]
        generalize (brN (cAbs h q) (stN (cAbs h q))).toNatClampNeg = u at b1 b2 ⊢
        rw [b2, s_one u (by omega), s_or (p2_8 (by omega)) (p2_8 (by omega))]
    · rw [if_neg (fun y => e3 (kk.mp y)), if_neg (fun y => e3 y.1)]
  · rw [if_neg es, if_neg es, if_pos rfl]
    rfl
theorem r_kind (c : RC T h q) {t : Nat} (ht : t < nT (rAbs h q)) : hv h (hr h q 18) t = nI (kd (rAbs h q) t) := by
  rw [rl18 c.2.1, r_row (k := 2) ht (by omega)]
  exact (kd_i c.2.2.1 ht).1
theorem r_brought (c : RC T h q) {t m : Nat} (ht : t < nT (rAbs h q)) (h3 : kd (rAbs h q) t = 3) (hm : m < 256) : F_X5_brought h q (nI t) (nI m) = brN (rAbs h q) m := by
  have w := c.2.2.1
  have n8 := nT_8 w
  unfold F_X5_brought brN
  refine fx_rec (fun j => nI j) (fun j => ftN (sDiff m (unN (rAbs h q) 1)) (nT (rAbs h q) - j) j) (nT (rAbs h q)) ?_ (fun j hj => ?_)
  · unfold B_X5_brought_2
    rw [if_neg (fun e => absurd ((rT_lt w (by omega)).mp e) (Nat.lt_irrefl _)), Nat.sub_self]
    rfl
  · unfold B_X5_brought_2
    have e2 : ftN (sDiff m (unN (rAbs h q) 1)) (nT (rAbs h q) - j) j = if nb (sDiff m (unN (rAbs h q) 1)) j = 0 then ftN (sDiff m (unN (rAbs h q) 1)) (nT (rAbs h q) - (j + 1)) (j + 1) else nI j := by
      rw [show nT (rAbs h q) - j = (nT (rAbs h q) - (j + 1)) + 1 by omega]
      rfl
    have eb : nb (sDiff m (unN (rAbs h q) 1)) j = 0 ↔ ¬ (nb m j = 1 ∧ kd (rAbs h q) j ≠ 1 ∧ kd (rAbs h q) j ≠ 3) := by
      rw [nb_diff _ _ _ (by omega)]
      have e3 : nb (unN (rAbs h q) 1) j = if undN (kd (rAbs h q) j) 1 = true then 1 else 0 := by
        unfold unN
        rw [nb_set]
        by_cases u : undN (kd (rAbs h q) j) 1 = true
        · rw [if_pos u, if_pos ⟨hj, u⟩]
        · rw [if_neg u, if_neg (fun y => u y.2)]
      have e4 : undN (kd (rAbs h q) j) 1 = true ↔ kd (rAbs h q) j = 1 ∨ kd (rAbs h q) j = 3 := by
        have := (kd_i w hj).2
        generalize kd (rAbs h q) j = k at this ⊢
        have key : ∀ k : Nat, k < 6 → (undN k 1 = true ↔ k = 1 ∨ k = 3) := by decide
        exact key k this
      rw [e3]
      by_cases u : undN (kd (rAbs h q) j) 1 = true
      · rw [if_pos u]
        have := e4.mp u
        rw [if_neg (fun y => by cases y.2)]
        exact ⟨fun _ y => by omega, fun _ => rfl⟩
      · rw [if_neg u]
        have u2 := fun y => u (e4.mpr y)
        by_cases mj : nb m j = 1
        · rw [if_pos ⟨mj, rfl⟩]
          exact ⟨(fun y => by cases y), fun y => absurd ⟨mj, fun z => u2 (Or.inl z), fun z => u2 (Or.inr z)⟩ y⟩
        · rw [if_neg (fun y => mj y.1)]
          exact ⟨fun _ y => mj y.1, fun _ => rfl⟩
    have ej : nI j = nI t ↔ j = t := by
      rw [i_eq, nI_t (by omega), nI_t (by omega)]
      omega
    have k1 : nI (kd (rAbs h q) j) = 1 ↔ kd (rAbs h q) j = 1 := k3 w hj (k := 1) (by decide)
    have kk3 : nI (kd (rAbs h q) j) = 3 ↔ kd (rAbs h q) j = 3 := k3 w hj (k := 3) (by decide)
    have ms : nI (nb m j) = 0 ↔ nb m j = 0 := by
      rw [i_eq, nI_t (by have := nb_lt m j; omega), e0]
      omega
    have mb := nb_lt m j
    rw [if_pos ((rT_lt w (by omega)).mpr hj), e2, nI_c (by omega), r_kind c hj, s_shr m hm j (by omega), nI_s]
    by_cases a1 : j = t
    · subst a1
      right
      rw [if_pos (ej.mpr rfl), if_pos (eb.mpr (fun y => y.2.2 h3))]
      exact ⟨rfl, rfl⟩
    · rw [if_neg (fun y => a1 (ej.mp y))]
      by_cases a2 : nb m j = 0
      · right
        rw [if_pos (ms.mpr a2), if_pos (eb.mpr (fun y => by omega))]
        exact ⟨rfl, rfl⟩
      · rw [if_neg (fun y => a2 (ms.mp y))]
        by_cases a3 : kd (rAbs h q) j = 1
        · right
          rw [if_pos (k1.mpr a3), if_pos (eb.mpr (fun y => y.2.1 a3))]
          exact ⟨rfl, rfl⟩
        · have hk1 : ¬ nI (kd (rAbs h q) j) = 1 := fun y => a3 (k1.mp y)
          rw [if_neg hk1]
          by_cases a4 : kd (rAbs h q) j = 3
          · right
            rw [if_pos (kk3.mpr a4), if_pos (eb.mpr (fun y => y.2.2 a4))]
            exact ⟨rfl, rfl⟩
          · left
            have hk3 : ¬ nI (kd (rAbs h q) j) = 3 := fun y => a4 (kk3.mp y)
            rw [if_neg hk3, if_neg (fun y => eb.mp y ⟨by omega, a3, a4⟩)]
theorem r_wonBy (c : RC T h q) {t m : Nat} (ht : t < nT (rAbs h q)) (hm : m < 256) : F_X5_wonBy h q (nI t) (nI m) = nI (wonN (rAbs h q) t m) := by
  have w := c.2.2.1
  have n8 := nT_8 w
  unfold F_X5_wonBy wonN
  simp only [letf]
  rw [nI_c (by omega), r_kind c ht, s_or0, s_one t (by omega)]
  have kk : nI (kd (rAbs h q) t) = 3 ↔ kd (rAbs h q) t = 3 := k3 w ht (k := 3) (by decide)
  by_cases e3 : kd (rAbs h q) t = 3
  · rw [if_pos (kk.mpr e3), r_brought c ht e3 hm]
    by_cases eb : brN (rAbs h q) m = -1
    · rw [if_pos eb, if_neg (fun y => y.2 eb)]
    · obtain ⟨b1, b2⟩ := br_lt w eb
      rw [if_neg eb, if_pos ⟨e3, eb⟩]
      generalize (brN (rAbs h q) m).toNatClampNeg = u at b1 b2 ⊢
      rw [b2, s_one u (by omega), s_or (p2_8 (by omega)) (p2_8 (by omega))]
  · rw [if_neg (fun y => e3 (kk.mp y)), if_neg (fun y => e3 y.1)]
theorem r_free (c : RC T h q) {t : Nat} (ht : t < nT (rAbs h q)) (gone left : Int32) : F_X5_isFree h q (nI t) gone left = if freeB (rAbs h q) gone left t then 1 else 0 := by
  have w := c.2.2.1
  have n8 := nT_8 w
  have kl := (kd_i w ht).2
  have k4 := k3 w ht (k := 4) (by decide)
  have k5 := k3 w ht (k := 5) (by decide)
  have hs : hv h q 9 = rAbs h q 0 0 := rfl
  have k4 : nI (kd (rAbs h q) t) = 4 ↔ kd (rAbs h q) t = 4 := k4
  have k5 : nI (kd (rAbs h q) t) = 5 ↔ kd (rAbs h q) t = 5 := k5
  unfold F_X5_isFree freeB
  rw [nI_c (by omega), r_kind c ht, rl20 c.2.1, r_row (k := 4) ht (by omega), hs]
  have u4 : undN (kd (rAbs h q) t) 4 = (decide (kd (rAbs h q) t = 4) || decide (kd (rAbs h q) t = 5)) := by
    generalize kd (rAbs h q) t = k at kl ⊢
    have key : ∀ k : Nat, k < 6 → undN k 4 = (decide (k = 4) || decide (k = 5)) := by decide
    exact key k kl
  have u5 : undN (kd (rAbs h q) t) 5 = decide (kd (rAbs h q) t = 5) := by
    generalize kd (rAbs h q) t = k at kl ⊢
    have key : ∀ k : Nat, k < 6 → undN k 5 = decide (k = 5) := by decide
    exact key k kl
  rw [u4, u5]
  by_cases a4 : kd (rAbs h q) t = 4
  · rw [if_pos (k4.mpr a4), if_pos (k4.mpr a4), a4]
    by_cases eg : gone < 2 * rAbs h q 4 t <;> simp [eg]
  · rw [if_neg (fun y => a4 (k4.mp y)), if_neg (fun y => a4 (k4.mp y))]
    by_cases a5 : kd (rAbs h q) t = 5
    · rw [if_pos (k5.mpr a5), a5]
      by_cases eg : gone < 2 * rAbs h q 4 t <;> by_cases el : rAbs h q 0 0 < 2 * left <;> simp [eg, el]
    · rw [if_neg (fun y => a5 (k5.mp y))]
      simp [a4, a5]
theorem r_canDraw (c : RC T h q) (x : Int32) : F_X5_canDraw h q x = if drawB (rAbs h q) x then 1 else 0 := by
  have w := c.2.2.1
  have n8 := nT_8 w
  have h10 : ¬ (1 : Int32) = 0 := by decide
  unfold F_X5_canDraw drawB
  simp only [letf]
  rw [r_inS]
  by_cases p : isS (rAbs h q) x
  · rw [if_pos p, if_neg h10, decide_eq_true p]
    have n60 := nS_60 w
    have hc := clamp_i (x := x) (by have := p.1; omega)
    have h2 := nS_i w
    have h3 := p.2
    have h4 := p.1
    have e := r_in1 c (i := x.toNatClampNeg) (by omega)
    rw [rl16 c.2.1, r_thOn c]
    rcases c.2.2.2 x.toNatClampNeg (by omega) with z | z
    · rw [if_pos z]
      rw [z, show (1 : Int32) - 0 = 1 by decide] at e
      rw [e, decide_eq_true (rfl : (1 : Int32) = 1)]
      rcases thOn_cases (rAbs h q) x with ⟨t1, -⟩ | ⟨t, ht, t1, t2, -⟩
      · rw [t1, if_pos rfl, decide_eq_false (fun y => notT_m1 _ y.1)]
        rfl
      · have h1 := isT_n w ht
        rw [t1, if_neg (nm1 t (by omega)), nI_c (by omega), rl22 c.2.1, r_row (k := 6) ht (by omega)]
        by_cases es : rAbs h q 6 t = -1
        · rw [if_pos es, r_inside c, r_free c ht, decide_eq_true (⟨h1, es⟩ : isT (rAbs h q) (nI t) ∧ rAbs h q 6 t = -1)]
          show (if (if freeB (rAbs h q) (rAbs h q 0 4) _ t = true then (1 : Int32) else 0) = 0 then (0 : Int32) else 1) = _
          cases freeB (rAbs h q) (rAbs h q 0 4) (nI (inN (rAbs h q))) t <;> rfl
        · rw [if_neg es, decide_eq_false (fun y => es y.2)]
          rfl
    · rw [z, if_neg h10]
      rw [z, show (1 : Int32) - 1 = 0 by decide] at e
      rw [e, decide_eq_false (show ¬ (0 : Int32) = 1 by decide)]
      rfl
  · rw [if_neg p, if_pos rfl, decide_eq_false p]
    rfl
theorem r_wins (c : RC T h q) (x : Int32) : F_X5_winsBy h q x = nI (winsN (rAbs h q) x) := by
  have w := c.2.2.1
  have n8 := nT_8 w
  unfold F_X5_winsBy winsN
  simp only [letf]
  rw [r_thOn c]
  rcases thOn_cases (rAbs h q) x with ⟨t1, -⟩ | ⟨t, ht, t1, t2, -⟩
  · rw [t1, if_pos rfl, if_neg (fun y => notT_m1 _ y.1)]
    rfl
  · rw [t1, if_neg (nm1 t (by omega)), nI_c (by omega), rl22 c.2.1, r_row (k := 6) ht (by omega)]
    by_cases es : rAbs h q 6 t = -1
    · rw [if_pos es, if_pos ⟨isT_n w ht, es⟩, r_std c, r_wonBy c ht (m := stN (rAbs h q)) (own_lt w _)]
    · rw [if_neg es, if_neg (fun y => es y.2)]
      rfl
end
