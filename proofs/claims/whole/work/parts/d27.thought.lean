/-- the thought's rows -/
def upF (A : Nat → Int32) (i : Nat) (x : Int32) : Nat → Int32 := fun j => if j = i then x else A j
def tT (T : List Nat) : Prop := T[25]? = some 3 ∧ T[26]? = some 19 ∧ T[27]? = some 20 ∧ T[28]? = some 21
def TH (T : List Nat) (h0 h : zH) (N A M J : Nat → Int32) : Prop := hOK kty T h ∧ sO 25 4 h0 h ∧ (hr h 25 0 = 26 ∧ hr h 25 1 = 27 ∧ hr h 25 2 = 28) ∧ (∀ i, 3 ≤ i → i ≤ 6 → hv h 25 i = N i) ∧ (∀ i, i < 256 → hv h 26 i = A i) ∧ (∀ i, i < 488 → hv h 27 i = M i) ∧ ∀ i, i < 256 → hv h 28 i = J i
theorem nI_ad2 {a b : Nat} (h : a + b < 2147483648) : nI a + nI b = nI (a + b) := by
  rw [i_eq, i_iadd (by rw [nI_t (by omega), nI_t (by omega)]; omega) (by rw [nI_t (by omega), nI_t (by omega)]; omega), nI_t (by omega), nI_t (by omega), nI_t (by omega)]
  omega
theorem iZ_mul (a b : Int) : iZ (a * b) = iZ a * iZ b := Int32.ofInt_mul a b
section
variable {T : List Nat} {h0 h : zH} {N A M J : Nat → Int32}
theorem th_pN (ht : tT T) (c : TH T h0 h N A M J) {i : Nat} (h3 : 3 ≤ i) (h6 : i ≤ 6) (x : Int32) : TH T h0 (hput h 25 i (.inl (.int x))) (upF N i x) A M J := by
  obtain ⟨K, s, r, n, a, m, j⟩ := c
  have hk : ((zty 3).2.2 i).1 = 0 ∧ i < (zty 3).2.1 := by
    have : ∀ i : Nat, i ≤ 6 → 3 ≤ i → ((zty 3).2.2 i).1 = 0 ∧ i < (zty 3).2.1 := by decide
    exact this i h6 h3
  have g := k_int K ht.1 hk.2 hk.1
  refine ⟨k_put K ht.1 hk.1 x, sO_t s (sO_put (d := 0) (by decide)), ⟨by rw [hr_ne (Or.inr (by omega))]; exact r.1, by rw [hr_ne (Or.inr (by omega))]; exact r.2.1, by rw [hr_ne (Or.inr (by omega))]; exact r.2.2⟩, fun u u3 u6 => ?_, fun u hu => ?_, fun u hu => ?_, fun u hu => ?_⟩
  · unfold upF
    by_cases e : u = i
    · rw [if_pos e, e]
      exact hv_put g
    · rw [if_neg e, hv_ne (Or.inr e)]
      exact n u u3 u6
  · rw [hv_ne (Or.inl (by decide))]
    exact a u hu
  · rw [hv_ne (Or.inl (by decide))]
    exact m u hu
  · rw [hv_ne (Or.inl (by decide))]
    exact j u hu
theorem th_pA (ht : tT T) (c : TH T h0 h N A M J) {i : Nat} (hi : i < 256) (x : Int32) : TH T h0 (hput h 26 i (.inl (.int x))) N (upF A i x) M J := by
  obtain ⟨K, s, r, n, a, m, j⟩ := c
  have g := k_int K ht.2.1 (i := i) hi rfl
  refine ⟨k_put K ht.2.1 rfl x, sO_t s (sO_put (q := 25) (d := 1) (by decide)), ⟨by rw [hr_ne (Or.inl (by decide))]; exact r.1, by rw [hr_ne (Or.inl (by decide))]; exact r.2.1, by rw [hr_ne (Or.inl (by decide))]; exact r.2.2⟩, fun u u3 u6 => ?_, fun u hu => ?_, fun u hu => ?_, fun u hu => ?_⟩
  · rw [hv_ne (Or.inl (by decide))]
    exact n u u3 u6
  · unfold upF
    by_cases e : u = i
    · rw [if_pos e, e]
      exact hv_put g
    · rw [if_neg e, hv_ne (Or.inr e)]
      exact a u hu
  · rw [hv_ne (Or.inl (by decide))]
    exact m u hu
  · rw [hv_ne (Or.inl (by decide))]
    exact j u hu
theorem th_pM (ht : tT T) (c : TH T h0 h N A M J) {i : Nat} (hi : i < 488) (x : Int32) : TH T h0 (hput h 27 i (.inl (.int x))) N A (upF M i x) J := by
  obtain ⟨K, s, r, n, a, m, j⟩ := c
  have g := k_int K ht.2.2.1 (i := i) hi rfl
  refine ⟨k_put K ht.2.2.1 rfl x, sO_t s (sO_put (q := 25) (d := 2) (by decide)), ⟨by rw [hr_ne (Or.inl (by decide))]; exact r.1, by rw [hr_ne (Or.inl (by decide))]; exact r.2.1, by rw [hr_ne (Or.inl (by decide))]; exact r.2.2⟩, fun u u3 u6 => ?_, fun u hu => ?_, fun u hu => ?_, fun u hu => ?_⟩
  · rw [hv_ne (Or.inl (by decide))]
    exact n u u3 u6
  · rw [hv_ne (Or.inl (by decide))]
    exact a u hu
  · unfold upF
    by_cases e : u = i
    · rw [if_pos e, e]
      exact hv_put g
    · rw [if_neg e, hv_ne (Or.inr e)]
      exact m u hu
  · rw [hv_ne (Or.inl (by decide))]
    exact j u hu
theorem th_pJ (ht : tT T) (c : TH T h0 h N A M J) {i : Nat} (hi : i < 256) (x : Int32) : TH T h0 (hput h 28 i (.inl (.int x))) N A M (upF J i x) := by
  obtain ⟨K, s, r, n, a, m, j⟩ := c
  have g := k_int K ht.2.2.2 (i := i) hi rfl
  refine ⟨k_put K ht.2.2.2 rfl x, sO_t s (sO_put (q := 25) (d := 3) (by decide)), ⟨by rw [hr_ne (Or.inl (by decide))]; exact r.1, by rw [hr_ne (Or.inl (by decide))]; exact r.2.1, by rw [hr_ne (Or.inl (by decide))]; exact r.2.2⟩, fun u u3 u6 => ?_, fun u hu => ?_, fun u hu => ?_, fun u hu => ?_⟩
  · rw [hv_ne (Or.inl (by decide))]
    exact n u u3 u6
  · rw [hv_ne (Or.inl (by decide))]
    exact a u hu
  · rw [hv_ne (Or.inl (by decide))]
    exact m u hu
  · unfold upF
    by_cases e : u = i
    · rw [if_pos e, e]
      exact hv_put g
    · rw [if_neg e, hv_ne (Or.inr e)]
      exact j u hu
theorem th_eqv {N' A' M' J' : Nat → Int32} (c : TH T h0 h N A M J) (n : ∀ i, 3 ≤ i → i ≤ 6 → N i = N' i) (a : ∀ i, i < 256 → A i = A' i) (m : ∀ i, i < 488 → M i = M' i) (j : ∀ i, i < 256 → J i = J' i) : TH T h0 h N' A' M' J' :=
  ⟨c.1, c.2.1, c.2.2.1, fun i h3 h6 => (c.2.2.2.1 i h3 h6).trans (n i h3 h6), fun i hi => (c.2.2.2.2.1 i hi).trans (a i hi), fun i hi => (c.2.2.2.2.2.1 i hi).trans (m i hi), fun i hi => (c.2.2.2.2.2.2 i hi).trans (j i hi)⟩
theorem th_cc (c : TH T h0 h N A M J) {q : Nat} (cc : CC T h0 q) (hq : q + 8 ≤ 25) : CC T h q ∧ cAbs h q = cAbs h0 q := CC_same cc c.1 (tExt_rf T) (fun d i hd => c.2.1 (q + d) i (Or.inl (by omega)))
/-- what is looked at -/
def lkNs (S : ST) : Nat → Int32 := fun i => if i = 3 then S 0 7 else if i = 4 then nI (stN S) else if i = 5 then nI (unN S 3) else nI (unN S 1)
theorem c_lookAt {q : Nat} (ht : tT T) (c : TH T h0 h N A M J) (cc : CC T h0 q) (hq : q + 8 ≤ 25) : TH T h0 (F_X3_lookAt h 25 q) (lkNs (cAbs h0 q)) (fun _ => 0) (fun _ => 0) J := by
  obtain ⟨c0, a0⟩ := th_cc c cc hq
  have c1 := th_pN ht c (i := 3) (by decide) (by decide) (hv h q 8)
  obtain ⟨cc1, a1⟩ := th_cc c1 cc hq
  have e3 := c_std cc1
  have c2 := th_pN ht c1 (i := 4) (by decide) (by decide) (nI (stN (cAbs h0 q)))
  obtain ⟨cc2, a2⟩ := th_cc c2 cc hq
  have e4 := c_thUn cc2 (w := 3) (by decide)
  have c3 := th_pN ht c2 (i := 5) (by decide) (by decide) (nI (unN (cAbs h0 q) 3))
  obtain ⟨cc3, a3⟩ := th_cc c3 cc hq
  have e5 := c_thUn cc3 (w := 1) (by decide)
  have c4 := th_pN ht c3 (i := 6) (by decide) (by decide) (nI (unN (cAbs h0 q) 1))
  rw [a1] at e3
  rw [a2] at e4
  rw [a3] at e5
  have e8 : hv h q 8 = cAbs h0 q 0 7 := by
    rw [← a0]
    rfl
  have z3 : (3 : Int32) = nI 3 := rfl
  have z1 : (1 : Int32) = nI 1 := rfl
  unfold F_X3_lookAt
  simp only [letf]
  rw [e3, z3, e4, z1, e5]
  have c5 : TH T h0 _ (lkNs (cAbs h0 q)) A M J := th_eqv c4 (fun i i3 i6 => by
    have : i = 3 ∨ i = 4 ∨ i = 5 ∨ i = 6 := by omega
    rcases this with rfl | rfl | rfl | rfl
    · exact e8
    · rfl
    · rfl
    · rfl) (fun _ _ => rfl) (fun _ _ => rfl) (fun _ _ => rfl)
  refine fx_forI (F := B_X3_lookAt_36 25 q) (d := []) (fun j (x : Int32 × zH) => x.1 = nI j ∧ TH T h0 x.2 (lkNs (cAbs h0 q)) (fun i => if i < j then 0 else A i) M J) (fun r => TH T h0 r (lkNs (cAbs h0 q)) (fun _ => 0) (fun _ => 0) J) 256 (fun x hx => ?_) (fun j x hj hx => ?_) ?_
  · obtain ⟨x1, x2⟩ := x
    obtain ⟨e, g⟩ := hx
    have e : x1 = nI 256 := e
    have g : TH T h0 x2 (lkNs (cAbs h0 q)) (fun i => if i < 256 then 0 else A i) M J := g
    subst e
    have g1 : TH T h0 x2 (lkNs (cAbs h0 q)) (fun _ => 0) M J := th_eqv g (fun _ _ _ => rfl) (fun i hi => if_pos hi) (fun _ _ => rfl) (fun _ _ => rfl)
    have inner : ∃ y, fx (B_X3_lookAt_60 25 q) (Sum.inr []) ((0 : Int32), x2) = Sum.inr y ∧ TH T h0 y (lkNs (cAbs h0 q)) (fun _ => 0) (fun _ => 0) J := by
      refine fx_forI (F := B_X3_lookAt_60 25 q) (d := Sum.inr []) (fun j (x : Int32 × zH) => x.1 = nI j ∧ TH T h0 x.2 (lkNs (cAbs h0 q)) (fun _ => 0) (fun i => if i < j then 0 else M i) J) (fun (r : (Int32 × zH) ⊕ zH) => ∃ y, r = Sum.inr y ∧ TH T h0 y (lkNs (cAbs h0 q)) (fun _ => 0) (fun _ => 0) J) 488 (fun x hx => ?_) (fun j x hj hx => ?_) ?_
      · obtain ⟨x1, x2⟩ := x
        obtain ⟨e, g⟩ := hx
        have e : x1 = nI 488 := e
        subst e
        refine ⟨Sum.inr x2, ?_, x2, rfl, th_eqv g (fun _ _ _ => rfl) (fun _ _ => rfl) (fun i hi => if_pos hi) (fun _ _ => rfl)⟩
        unfold B_X3_lookAt_60
        exact if_neg (show ¬ nI 488 < (488 : Int32) by decide)
      · obtain ⟨x1, x2⟩ := x
        obtain ⟨e, g⟩ := hx
        have e : x1 = nI j := e
        have g : TH T h0 x2 (lkNs (cAbs h0 q)) (fun _ => 0) (fun i => if i < j then 0 else M i) J := g
        subst e
        have g2 := th_pM ht g hj 0
        have e488 : (488 : Int32).toInt = 488 := rfl
        refine Or.inr ⟨(nI (j + 1), hput x2 27 j (.inl (.int 0))), ?_, rfl, th_eqv g2 (fun _ _ _ => rfl) (fun _ _ => rfl) (fun i hi => ?_) (fun _ _ => rfl)⟩
        · unfold B_X3_lookAt_60
          simp only [letf]
          rw [if_pos (by rw [i_lt, e488, nI_t (by omega)]; omega), g.2.2.1.2.1, nI_c (by omega), nI_s]
        · show (if i = j then (0 : Int32) else if i < j then 0 else M i) = if i < j + 1 then 0 else M i
          by_cases y : i = j
          · rw [if_pos y, if_pos (by omega)]
          · by_cases z : i < j
            · rw [if_neg y, if_pos z, if_pos (by omega)]
            · rw [if_neg y, if_neg z, if_neg (by omega)]
      · exact ⟨rfl, th_eqv g1 (fun _ _ _ => rfl) (fun _ _ => rfl) (fun i _ => (if_neg (Nat.not_lt_zero _)).symm) (fun _ _ => rfl)⟩
    obtain ⟨y, y1, y2⟩ := inner
    refine ⟨y, ?_, y2⟩
    unfold B_X3_lookAt_36
    rw [if_neg (show ¬ nI 256 < (256 : Int32) by decide)]
    exact y1
  · obtain ⟨x1, x2⟩ := x
    obtain ⟨e, g⟩ := hx
    have e : x1 = nI j := e
    have g : TH T h0 x2 (lkNs (cAbs h0 q)) (fun i => if i < j then 0 else A i) M J := g
    subst e
    have g2 := th_pA ht g hj 0
    have e256 : (256 : Int32).toInt = 256 := rfl
    refine Or.inr ⟨(nI (j + 1), hput x2 26 j (.inl (.int 0))), ?_, rfl, th_eqv g2 (fun _ _ _ => rfl) (fun i hi => ?_) (fun _ _ => rfl) (fun _ _ => rfl)⟩
    · unfold B_X3_lookAt_36
      simp only [letf]
      rw [if_pos (by rw [i_lt, e256, nI_t (by omega)]; omega), g.2.2.1.1, nI_c (by omega), nI_s]
    · show (if i = j then (0 : Int32) else if i < j then 0 else A i) = if i < j + 1 then 0 else A i
      by_cases y : i = j
      · rw [if_pos y, if_pos (by omega)]
      · by_cases z : i < j
        · rw [if_neg y, if_pos z, if_pos (by omega)]
        · rw [if_neg y, if_neg z, if_neg (by omega)]
  · exact ⟨rfl, th_eqv c5 (fun _ _ _ => rfl) (fun i _ => (if_neg (Nat.not_lt_zero _)).symm) (fun _ _ => rfl) (fun _ _ => rfl)⟩
/-- likings weighed -/
theorem c_lk8 {q : Nat} (c : CC T h q) {b t : Nat} (hb : b < nB (cAbs h q)) (ht : t < 8) : F_X1_liking h q (nI b) (nI t) = iZ (lkS (cAbs h q) b t) := by
  by_cases e : t < nT (cAbs h q)
  · exact c_lk c hb e
  · have z : lkS (cAbs h q) b t = 0 := if_neg (fun y => e y.2)
    rw [z]
    unfold F_X1_liking
    simp only [letf]
    rcases c_isB (h := h) (q := q) (nI b) with ⟨f, -⟩ | ⟨f, -⟩
    · rw [f]
      rfl
    · rw [f, if_neg (by decide)]
      rcases c_isT (h := h) (q := q) (nI t) with ⟨g, -⟩ | ⟨-, g⟩
      · rw [g]
        rfl
      · exfalso
        have := (isT_lt c.2.2.1 g).1
        rw [nI_c (by omega)] at this
        exact e this
theorem sum_add (f : Nat → Int) {s t : Nat} (hs : s < 2 ^ t) : ∀ n, sumZ (fun u => if nb (s + 2 ^ t) u = 0 then 0 else f u) n = sumZ (fun u => if nb s u = 0 then 0 else f u) n + (if t < n then f t else 0)
  | 0 => by
    rw [if_neg (Nat.not_lt_zero _)]
    rfl
  | n + 1 => by
    show sumZ (fun u => if nb (s + 2 ^ t) u = 0 then 0 else f u) n + (if nb (s + 2 ^ t) n = 0 then 0 else f n) = sumZ (fun u => if nb s u = 0 then 0 else f u) n + (if nb s n = 0 then 0 else f n) + (if t < n + 1 then f t else 0)
    rw [sum_add f hs n, nb_add hs]
    by_cases e : n = t
    · subst e
      rw [if_pos (rfl : n = n), if_neg (show ¬ (1 : Nat) = 0 by decide), nb_big hs, if_pos (rfl : (0 : Nat) = 0), if_neg (Nat.lt_irrefl n), if_pos (show n < n + 1 by omega)]
    · rw [if_neg e]
      by_cases g : t < n
      · rw [if_pos g, if_pos (show t < n + 1 by omega)]
        omega
      · rw [if_neg g, if_neg (show ¬ t < n + 1 by omega)]
        omega
theorem lk_add (S : ST) (b : Nat) {s t : Nat} (hs : s < 2 ^ t) : lkN S b (s + 2 ^ t) = lkN S b s + lkS S b t := by
  unfold lkN
  rw [sum_add _ hs]
  by_cases e : t < nT S
  · rw [if_pos e]
  · rw [if_neg e]
    have : lkS S b t = 0 := if_neg (fun y => e y.2)
    rw [this]
def joy (S : ST) (b m : Nat) : Int32 := iZ (1000 * lkN S b m)
theorem joy_add (S : ST) (b : Nat) {s t : Nat} (hs : s < 2 ^ t) : joy S b (s + 2 ^ t) = joy S b s + (1000 : Int32) * iZ (lkS S b t) := by
  unfold joy
  have e : (1000 : Int32) = iZ 1000 := rfl
  rw [lk_add S b hs, Int.mul_add, iZ_add, e, iZ_mul 1000 (lkS S b t)]
theorem c_weigh {q b : Nat} (ht : tT T) (c : TH T h0 h N A M J) (cc : CC T h0 q) (hq : q + 8 ≤ 25) (hb : b < nB (cAbs h0 q)) (hJ0 : J 0 = 0) : TH T h0 (F_X3_weigh h 25 q (nI b)) N A M (joy (cAbs h0 q) b) := by
  have e8 : (8 : Int32).toInt = 8 := rfl
  unfold F_X3_weigh
  refine fx_forI (F := B_X3_weigh_2 25 q (nI b)) (d := []) (fun j (x : Int32 × zH) => x.1 = nI j ∧ ∃ J', TH T h0 x.2 N A M J' ∧ ∀ m, m < 2 ^ j → J' m = joy (cAbs h0 q) b m) (fun r => TH T h0 r N A M (joy (cAbs h0 q) b)) 8 (fun x hx => ?_) (fun j x hj hx => ?_) ?_
  · obtain ⟨x1, x2⟩ := x
    obtain ⟨e, J', g, g2⟩ := hx
    have e : x1 = nI 8 := e
    subst e
    refine ⟨x2, ?_, th_eqv g (fun _ _ _ => rfl) (fun _ _ => rfl) (fun _ _ => rfl) (fun i hi => g2 i hi)⟩
    unfold B_X3_weigh_2
    exact if_neg (show ¬ nI 8 < (8 : Int32) by decide)
  · obtain ⟨x1, x2⟩ := x
    obtain ⟨e, J', g, g2⟩ := hx
    have e : x1 = nI j := e
    have g : TH T h0 x2 N A M J' := g
    subst e
    obtain ⟨c1, a1⟩ := th_cc g cc hq
    have hl := c_lk8 c1 (b := b) (t := j) (by rw [a1]; exact hb) hj
    rw [a1] at hl
    have p8 := p2_8 hj
    have p16 : 2 ^ (j + 1) ≤ 256 := Nat.pow_le_pow_right (n := 2) (i := j + 1) (j := 8) (by decide) (by omega)
    have pe : 2 ^ (j + 1) = 2 ^ j + 2 ^ j := by rw [Nat.pow_succ]; omega
    refine Or.inr ?_
    have inner : ∃ y, fx (B_X3_weigh_28 25 q (nI b) (nI j) (nI (2 ^ j)) ((1000 : Int32) * iZ (lkS (cAbs h0 q) b j))) (Sum.inr []) ((0 : Int32), x2) = Sum.inl (nI (j + 1), y) ∧ ∃ J', TH T h0 y N A M J' ∧ ∀ m, m < 2 ^ (j + 1) → J' m = joy (cAbs h0 q) b m := by
      refine fx_forI (F := B_X3_weigh_28 25 q (nI b) (nI j) (nI (2 ^ j)) ((1000 : Int32) * iZ (lkS (cAbs h0 q) b j))) (d := Sum.inr []) (fun k (x : Int32 × zH) => x.1 = nI k ∧ ∃ J', TH T h0 x.2 N A M J' ∧ ∀ m, m < 2 ^ j + k → J' m = joy (cAbs h0 q) b m) (fun (r : (Int32 × zH) ⊕ zH) => ∃ y, r = Sum.inl (nI (j + 1), y) ∧ ∃ J', TH T h0 y N A M J' ∧ ∀ m, m < 2 ^ (j + 1) → J' m = joy (cAbs h0 q) b m) (2 ^ j) (fun x hx => ?_) (fun k x hk hx => ?_) ⟨rfl, J', g, g2⟩
      · obtain ⟨x1, x2⟩ := x
        obtain ⟨e, J', g, g2⟩ := hx
        have e : x1 = nI (2 ^ j) := e
        subst e
        refine ⟨Sum.inl (nI (j + 1), x2), ?_, x2, rfl, J', g, fun m hm => g2 m (by omega)⟩
        unfold B_X3_weigh_28
        rw [if_neg (fun y => absurd (i_lt.mp y) (Int.lt_irrefl _)), nI_s]
      · obtain ⟨x1, x2⟩ := x
        obtain ⟨e, J', g, g2⟩ := hx
        have e : x1 = nI k := e
        have g : TH T h0 x2 N A M J' := g
        subst e
        have g3 := th_pJ ht g (i := 2 ^ j + k) (by omega) (joy (cAbs h0 q) b (2 ^ j + k))
        refine Or.inr ⟨(nI (k + 1), hput x2 28 (2 ^ j + k) (.inl (.int (joy (cAbs h0 q) b (2 ^ j + k))))), ?_, rfl, _, g3, fun m hm => ?_⟩
        · unfold B_X3_weigh_28
          simp only [letf]
          rw [if_pos (by rw [i_lt, nI_t (by omega), nI_t (by omega)]; omega), g.2.2.1.2.2, nI_ad2 (by omega), nI_c (by omega), nI_c (by omega), g.2.2.2.2.2.2 k (by omega), g2 k (by omega), ← joy_add _ _ (by omega), Nat.add_comm k (2 ^ j), nI_s]
        · show (if m = 2 ^ j + k then _ else J' m) = _
          by_cases y : m = 2 ^ j + k
          · rw [if_pos y, y]
          · rw [if_neg y]
            exact g2 m (by omega)
    obtain ⟨y, y1, y2⟩ := inner
    refine ⟨(nI (j + 1), y), ?_, rfl, y2⟩
    unfold B_X3_weigh_2
    simp only [letf]
    rw [if_pos (by rw [i_lt, e8, nI_t (by omega)]; omega), hl, s_one j hj]
    exact y1
  · refine ⟨rfl, J, c, fun m hm => ?_⟩
    have : m = 0 := by
      have : (2 : Nat) ^ 0 = 1 := rfl
      omega
    rw [this, hJ0]
    unfold joy
    rw [lkN_0]
    rfl
end
