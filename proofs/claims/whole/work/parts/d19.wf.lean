/-- what stays of a stall that is one -/
theorem WF_p4 {S : ST} (w : WF S) (x : Int32) : WF (uS S 0 4 x) := w
theorem WF_p5 {S : ST} (w : WF S) (x : Int32) : WF (uS S 0 5 x) := w
theorem WF_p6 {S : ST} (w : WF S) (x : Int32) : WF (uS S 0 6 x) := w
theorem WF_w5 {S : ST} (w : WF S) (t : Nat) (x : Int32) : WF (uS S 5 t x) := w
theorem WF_p1 {S : ST} (w : WF S) {x : Int32} (hx : 2 ≤ x.toInt ∧ x.toInt ≤ 10) : WF (uS S 0 1 x) := ⟨⟨w.1.1, hx, w.1.2.2⟩, w.2⟩
theorem WF_p2 {S : ST} (w : WF S) {x : Int32} (hx : 1 ≤ x.toInt ∧ x.toInt ≤ 99) : WF (uS S 0 2 x) := ⟨⟨w.1.1, w.1.2.1, hx, w.1.2.2.2⟩, w.2⟩
theorem WF_p3 {S : ST} (w : WF S) {x : Int32} (hx : 1 ≤ x.toInt ∧ x.toInt ≤ 495) : WF (uS S 0 3 x) := ⟨⟨w.1.1, w.1.2.1, w.1.2.2.1, hx, w.1.2.2.2.2⟩, w.2⟩
theorem WF_w7 {S : ST} (w : WF S) (b : Nat) {x : Int32} (hx : 0 ≤ x.toInt ∧ x.toInt ≤ 9999) : WF (uS S 7 b x) := ⟨w.1, w.2.1, w.2.2.1, fun c => by
  show 0 ≤ (if 7 = 7 ∧ c = b then x else S 7 c).toInt ∧ (if 7 = 7 ∧ c = b then x else S 7 c).toInt ≤ 9999
  by_cases e : (7 : Nat) = 7 ∧ c = b
  · rw [if_pos e]
    exact hx
  · rw [if_neg e]
    exact w.2.2.2.1 c, w.2.2.2.2⟩
theorem WF_w8 {S : ST} (w : WF S) (b : Nat) {x : Int32} (hx : 0 ≤ x.toInt ∧ x.toInt ≤ 999) : WF (uS S 8 b x) := ⟨w.1, w.2.1, w.2.2.1, w.2.2.2.1, fun c => by
  show 0 ≤ (if 8 = 8 ∧ c = b then x else S 8 c).toInt ∧ (if 8 = 8 ∧ c = b then x else S 8 c).toInt ≤ 999
  by_cases e : (8 : Nat) = 8 ∧ c = b
  · rw [if_pos e]
    exact hx
  · rw [if_neg e]
    exact w.2.2.2.2 c⟩
theorem drw_6 (S : ST) (m : Nat) (b : Int32) (t : Nat) : ∀ n, drw S m b n 6 t = if t < n ∧ nb m t ≠ 0 then b else S 6 t
  | 0 => (if_neg (fun e => absurd e.1 (Nat.not_lt_zero _))).symm
  | n + 1 => by
    show (if nb m n = 0 then drw S m b n else uS (uS (drw S m b n) 6 n b) 5 n (drw S m b n 5 n + if S 2 n = 2 then 1 else 0)) 6 t = _
    have ih := drw_6 S m b t n
    by_cases e : nb m n = 0
    · rw [if_pos e, ih]
      by_cases f : t < n ∧ nb m t ≠ 0
      · rw [if_pos f, if_pos ⟨by omega, f.2⟩]
      · rw [if_neg f, if_neg (fun y => f ⟨by
          have := y.1
          have : t ≠ n := fun z => y.2 (z ▸ e)
          omega, y.2⟩)]
    · rw [if_neg e, uS_c (by decide)]
      by_cases f : t = n
      · subst f
        rw [uS_eq, if_pos ⟨by omega, e⟩]
      · rw [uS_ne (Or.inr f), ih]
        by_cases g : t < n ∧ nb m t ≠ 0
        · rw [if_pos g, if_pos ⟨by omega, g.2⟩]
        · rw [if_neg g, if_neg (fun y => g ⟨by
            have := y.1
            omega, y.2⟩)]
/-- what is on the slip is won, if it stands -/
theorem wins_on {S : ST} (w : WF S) {t : Nat} (ht : t < nT S) (es : S 6 t = -1) : nb (winsN S (S 3 t)) t ≠ 0 := by
  have n8 := nT_8 w
  rw [(sl_b w ht).2.2, wins_of w ht es]
  unfold wonN
  by_cases e : kd S t = 3 ∧ brN S (stN S) ≠ -1
  · rw [if_pos e, nb_orr, if_pos (Or.inl (by rw [nb_pow, if_pos rfl]))]
    decide
  · rw [if_neg e, nb_pow, if_pos rfl]
    decide
theorem WF_draw4 {S : ST} (w : WF S) {x b : Int32} (hx : isS S x) (hb : 0 ≤ b.toInt ∧ b.toInt < 4) : WF (drawS S x b) := by
  have hc : ∀ c, c ≠ 5 → c ≠ 6 → drawS S x b c = uS (uS S 1 x.toNatClampNeg 0) 0 4 (S 0 4 + 1) c := fun c h5 h6 => drw_c _ _ _ h5 h6 _
  have h0 : ∀ j, j ≠ 4 → drawS S x b 0 j = S 0 j := fun j hj => by
    rw [hc 0 (by decide) (by decide), uS_ne (Or.inr hj), uS_ne (Or.inl (by decide))]
  have h1 : ∀ i, drawS S x b 1 i = if i = x.toNatClampNeg then 0 else S 1 i := fun i => by
    rw [hc 1 (by decide) (by decide), uS_ne (Or.inl (by decide))]
    by_cases e : i = x.toNatClampNeg
    · rw [if_pos e, e, uS_eq]
    · rw [if_neg e, uS_ne (Or.inr e)]
  have hk : ∀ c, c ≠ 0 → c ≠ 1 → c ≠ 5 → c ≠ 6 → drawS S x b c = S c := fun c e0 e1 e5 e6 => by
    rw [hc c e5 e6, uS_c e0, uS_c e1]
  have hnT : nT (drawS S x b) = nT S := congrArg Int32.toNatClampNeg (h0 7 (by decide))
  have h6 : ∀ t, drawS S x b 6 t = if t < nT S ∧ nb (winsN S x) t ≠ 0 then b else S 6 t := fun t => drw_6 _ _ _ t _
  refine ⟨?_, fun i => ?_, fun t ht => ?_, fun c => ?_, fun i => ?_⟩
  · rw [h0 0 (by decide), h0 1 (by decide), h0 2 (by decide), h0 3 (by decide), h0 7 (by decide), h0 8 (by decide)]
    exact w.1
  · rw [h1]
    by_cases e : i = x.toNatClampNeg
    · rw [if_pos e]
      exact Or.inl rfl
    · rw [if_neg e]
      exact w.2.1 i
  · rw [hnT] at ht
    obtain ⟨o1, o2, o3, o4, o5, o6⟩ := w.2.2.1 t ht
    unfold okT
    rw [hk 2 (by decide) (by decide) (by decide) (by decide), hk 3 (by decide) (by decide) (by decide) (by decide), hk 4 (by decide) (by decide) (by decide) (by decide), h0 0 (by decide), h6, h1]
    refine ⟨o1, o2, o3, ?_, ?_, o6⟩
    · by_cases e : t < nT S ∧ nb (winsN S x) t ≠ 0
      · rw [if_pos e]
        exact Or.inr hb
      · rw [if_neg e]
        exact o4
    · by_cases e : t < nT S ∧ nb (winsN S x) t ≠ 0
      · rw [if_pos e]
        intro y
        rw [y] at hb
        exact absurd hb.1 (by decide)
      · rw [if_neg e]
        intro y
        rw [if_neg ?_]
        · exact o5 y
        · intro z
          have a := sl_b w ht
          have b := isS_c hx
          have : S 3 t = x := by
            rw [a.2.2, nI_back (x := x) (by omega)]
            exact congrArg nI z
          exact e ⟨ht, this ▸ wins_on w ht y⟩
  · rw [hk 7 (by decide) (by decide) (by decide) (by decide)]
    exact w.2.2.2.1 c
  · rw [hk 8 (by decide) (by decide) (by decide) (by decide)]
    exact w.2.2.2.2 i
theorem WF_draw {S : ST} (w : WF S) {x b : Int32} (hx : isS S x) (hb : isB S b) : WF (drawS S x b) := WF_draw4 w hx ⟨hb.1, by have := (WF_bu w).2; have := hb.2; omega⟩
/-- a go paid -/
def payS (S : ST) (b x : Int32) : ST := uS (uS S 7 b.toNatClampNeg (S 7 b.toNatClampNeg - x)) 0 5 (S 0 5 + x)
theorem WF_pay {S : ST} (w : WF S) {b x : Int32} (h0 : 0 ≤ x.toInt) (h1 : x.toInt ≤ (S 7 b.toNatClampNeg).toInt) : WF (payS S b x) := by
  have := w.2.2.2.1 b.toNatClampNeg
  refine WF_p5 (WF_w7 w _ ?_) _
  rw [i_isub (by omega) (by omega)]
  omega
theorem isB_c {S : ST} {b : Int32} (h : isB S b) : b.toNatClampNeg < nB S ∧ b = nI b.toNatClampNeg := by
  have a : b.toNatClampNeg = b.toInt.toNat := rfl
  have c : nB S = (S 0 8).toInt.toNat := rfl
  have h1 := h.1
  have h2 := h.2
  exact ⟨by omega, nI_back h1⟩
section
variable {T : List Nat} {h h' : zH} {q : Nat} {S : ST}
theorem cm_pay (m : CM T q h S h') (w : WF S) {b : Int32} (hb : isB S b) (x : Int32) : CM T q h (payS S b x) (F_X1_pay h' q b x) := by
  have cc := (CM_CC m w).1
  have ca := (CM_CC m w).2.1
  obtain ⟨b1, -⟩ := isB_c hb
  have b4 := nB_4 w
  unfold F_X1_pay
  simp only [letf]
  rw [← ca] at hb
  rcases c_isB (h := h') (q := q) b with ⟨-, e⟩ | ⟨e, -⟩
  · exact absurd hb e
  · rw [e, if_neg (by decide), cm_a7 m b1]
    have h1 := cm_w7 m (S 7 b.toNatClampNeg - x) (by omega) b1
    rw [cm_n5 h1]
    exact cm_p5 h1 _
theorem rm_pay (m : RM T q h S h') (w : WF S) {b : Int32} (hb : isB S b) (x : Int32) : RM T q h (payS S b x) (hput (hput h' (hr h' q 24) b.toNatClampNeg (.inl (.int (hv h' (hr h' q 24) b.toNatClampNeg - x)))) q 14 (.inl (.int (S 0 5 + x)))) := by
  obtain ⟨b1, -⟩ := isB_c hb
  have b4 := nB_4 w
  rw [rm_a7 m b1]
  exact rm_p5 (rm_w7 m (S 7 b.toNatClampNeg - x) (by omega) b1) _
end
