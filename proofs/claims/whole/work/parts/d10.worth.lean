/-- what holds back: those that stand and don't free their slip -/
def sl (S : ST) (t : Nat) : Nat := (S 3 t).toNatClampNeg
theorem sl_b {S : ST} (w : WF S) {t : Nat} (ht : t < nT S) : 1 ≤ sl S t ∧ sl S t ≤ nS S ∧ S 3 t = nI (sl S t) := by
  have h1 := (w.2.2.1 t ht).2.1
  have h2 := clamp_i (x := S 3 t) (by omega)
  have h3 := nS_i w
  refine ⟨?_, ?_, nI_back (by omega)⟩
  · show 1 ≤ (S 3 t).toNatClampNeg
    omega
  · show (S 3 t).toNatClampNeg ≤ nS S
    omega
theorem sl_inj {S : ST} (w : WF S) {t u : Nat} (ht : t < nT S) (hu : u < t) : sl S u ≠ sl S t := fun e => by
  have h1 := (sl_b w ht).2.2
  have h2 := (sl_b w (t := u) (by omega)).2.2
  exact (w.2.2.1 t ht).2.2.2.2.2 u hu (by rw [h1, h2, e])
/-- which thing is on a slip, told by slips as numbers -/
theorem thOn_sl {S : ST} (w : WF S) {i : Nat} (hi : i ≤ 60) : (thOn S (nI i) = -1 ∧ ∀ t, t < nT S → sl S t ≠ i) ∨ ∃ t, t < nT S ∧ thOn S (nI i) = nI t ∧ sl S t = i := by
  rcases thOn_cases S (nI i) with ⟨h1, h2⟩ | ⟨t, h1, h2, h3, -⟩
  · refine Or.inl ⟨h1, fun t ht e => h2 t ht ?_⟩
    rw [(sl_b w ht).2.2, e]
  · refine Or.inr ⟨t, h1, h2, ?_⟩
    unfold sl
    rw [h3, nI_c (by omega)]
def fr (S : ST) (t : Nat) : Bool := freeB S (S 0 4) (nI (inN S)) t
/-- by things: a weight of those that stand, at their slips -/
theorem by_slips {S : ST} (w : WF S) (f : Nat → Int) : sumZ (fun i => sumZ (fun t => if sl S t = i then f t else 0) (nT S)) (nS S + 1) = sumZ f (nT S) := by
  rw [sumZ_swap]
  refine sumZ_congr (fun t ht => ?_)
  rw [sumZ_one, if_pos (by have := (sl_b w ht).2.1; omega)]
theorem at_slip {S : ST} (w : WF S) (f : Nat → Int) {i : Nat} (hi : i ≤ 60) : (thOn S (nI i) = -1 ∧ sumZ (fun t => if sl S t = i then f t else 0) (nT S) = 0) ∨ ∃ t, t < nT S ∧ thOn S (nI i) = nI t ∧ sl S t = i ∧ sumZ (fun t => if sl S t = i then f t else 0) (nT S) = f t := by
  have key := sumZ_at (sl S) f i (nT S) (fun t u h1 h2 => sl_inj w h1 h2)
  rcases thOn_sl w hi with ⟨h1, h2⟩ | ⟨t, h1, h2, h3⟩
  · exact Or.inl ⟨h1, key.2 h2⟩
  · exact Or.inr ⟨t, h1, h2, h3, key.1 t h1 h3⟩
/-- how many can be drawn -/
def drN (S : ST) : Int := sumZ (fun i => if drawB S (nI i) then 1 else 0) (nS S + 1)
theorem isS_n {S : ST} (w : WF S) {i : Nat} (hi : i ≤ 60) : isS S (nI i) ↔ 1 ≤ i ∧ i ≤ nS S := by
  have := nS_i w
  show 1 ≤ (nI i).toInt ∧ (nI i).toInt ≤ (S 0 0).toInt ↔ _
  rw [nI_t (by omega)]
  omega
theorem draw_split {S : ST} (w : WF S) {i : Nat} (hi : i ≤ nS S) (h0 : S 1 0 = 0) : (if drawB S (nI i) then (1 : Int) else 0) = ((S 1 i).toNatClampNeg : Int) - sumZ (fun t => if sl S t = i then (if S 6 t = -1 ∧ fr S t = false then 1 else 0) else 0) (nT S) := by
  have n60 := (nS_60 w).1
  have n8 := nT_8 w
  have hs := isS_n w (i := i) (by omega)
  have hat := at_slip w (fun t => if S 6 t = -1 ∧ fr S t = false then (1 : Int) else 0) (i := i) (by omega)
  unfold drawB
  rw [nI_c (by omega)]
  rcases w.2.1 i with z | z
  · rw [z, i01.1, decide_eq_false (show ¬ (0 : Int32) = 1 by decide), Bool.false_and, Bool.and_false]
    rcases hat with ⟨-, e⟩ | ⟨t, ht, -, e1, e⟩
    · rw [e]
      rfl
    · rw [e]
      have hn : ¬ (S 6 t = -1 ∧ fr S t = false) := fun y => by
        have := (w.2.2.1 t ht).2.2.2.2.1 y.1
        have e3 : (S 3 t).toNatClampNeg = i := e1
        rw [e3, z] at this
        cases this
      rw [if_neg hn]
      rfl
  · have h1 : 1 ≤ i := by
      by_cases e : i = 0
      · rw [e, h0] at z
        cases z
      · omega
    rw [z, i01.2.1, decide_eq_true (hs.mpr ⟨h1, hi⟩), decide_eq_true (rfl : (1 : Int32) = 1), Bool.true_and, Bool.true_and]
    rcases hat with ⟨e2, e⟩ | ⟨t, ht, e2, e1, e⟩
    · rw [e, e2, decide_eq_false (fun y => notT_m1 _ y.1)]
      rfl
    · rw [e, e2, nI_c (by omega)]
      show (if (!(decide (isT S (nI t) ∧ S 6 t = -1)) || fr S t) = true then (1 : Int) else 0) = _
      have hT := isT_n w ht
      by_cases es : S 6 t = -1
      · cases ef : fr S t
        · rw [decide_eq_true (⟨hT, es⟩ : isT S (nI t) ∧ S 6 t = -1)]
          show (0 : Int) = 1 - (if S 6 t = -1 ∧ false = false then 1 else 0)
          rw [if_pos ⟨es, rfl⟩]
          rfl
        · rw [decide_eq_true (⟨hT, es⟩ : isT S (nI t) ∧ S 6 t = -1)]
          show (1 : Int) = 1 - (if S 6 t = -1 ∧ true = false then 1 else 0)
          rw [if_neg (fun y => by cases y.2)]
          rfl
      · rw [decide_eq_false (fun y => es y.2)]
        show (1 : Int) = 1 - (if S 6 t = -1 ∧ fr S t = false then 1 else 0)
        rw [if_neg (fun y => es y.1)]
        rfl
theorem sumZ_sub (f g : Nat → Int) : ∀ m : Nat, sumZ (fun i => f i - g i) m = sumZ f m - sumZ g m
  | 0 => rfl
  | m + 1 => by
    show sumZ (fun i => f i - g i) m + (f m - g m) = (sumZ f m + f m) - (sumZ g m + g m)
    rw [sumZ_sub f g m]
    omega
theorem sumN_Z (f : Nat → Nat) : ∀ m : Nat, ((sumN f m : Nat) : Int) = sumZ (fun i => (f i : Int)) m
  | 0 => rfl
  | m + 1 => by
    show ((sumN f m + f m : Nat) : Int) = sumZ (fun i => (f i : Int)) m + (f m : Int)
    rw [← sumN_Z f m]
    omega
/-- those that hold back, as a set -/
theorem held_sum {S : ST} (w : WF S) : sumZ (fun t => if S 6 t = -1 ∧ fr S t = false then (1 : Int) else 0) (nT S) = (pcount 8 (sDiff (stN S) (rdN S (S 0 4) (nI (inN S)))) : Int) := by
  have n8 := nT_8 w
  rw [pc8_sum, sumN_Z]
  have hb : ∀ t, t < 8 → nb (sDiff (stN S) (rdN S (S 0 4) (nI (inN S)))) t = if t < nT S ∧ (S 6 t = -1 ∧ fr S t = false) then 1 else 0 := fun t ht => by
    rw [nb_diff _ _ _ ht]
    unfold stN ownN rdN
    rw [nb_set, nb_set]
    have ef' : freeB S (S 0 4) (nI (inN S)) t = fr S t := rfl
    rw [ef']
    by_cases a : t < nT S <;> by_cases b : S 6 t = -1 <;> cases ef : fr S t <;> simp [a, b]
  have e1 : sumZ (fun i => ((nb (sDiff (stN S) (rdN S (S 0 4) (nI (inN S)))) i : Nat) : Int)) 8 = sumZ (fun i => ((nb (sDiff (stN S) (rdN S (S 0 4) (nI (inN S)))) i : Nat) : Int)) (nT S) := by
    have key : ∀ k, nT S + k ≤ 8 → sumZ (fun i => ((nb (sDiff (stN S) (rdN S (S 0 4) (nI (inN S)))) i : Nat) : Int)) (nT S + k) = sumZ (fun i => ((nb (sDiff (stN S) (rdN S (S 0 4) (nI (inN S)))) i : Nat) : Int)) (nT S) := by
      intro k
      induction k with
      | zero => intro _; rfl
      | succ k ih =>
        intro hk
        have hz : nb (sDiff (stN S) (rdN S (S 0 4) (nI (inN S)))) (nT S + k) = 0 := by
          rw [hb _ (by omega), if_neg (fun y => by omega)]
        show sumZ _ (nT S + k) + ((nb (sDiff (stN S) (rdN S (S 0 4) (nI (inN S)))) (nT S + k) : Nat) : Int) = _
        rw [ih (by omega), hz]
        show _ + 0 = _
        omega
    have := key (8 - nT S) (by omega)
    rw [show nT S + (8 - nT S) = 8 by omega] at this
    exact this
  rw [e1]
  refine sumZ_congr (fun t ht => ?_)
  rw [hb t (by omega)]
  by_cases e : S 6 t = -1 ∧ fr S t = false
  · rw [if_pos e, if_pos ⟨ht, e⟩]
    rfl
  · rw [if_neg e, if_neg (fun y => e y.2)]
    rfl
theorem in_sumZ {S : ST} (w : WF S) (hz : ∀ i, nS S < i → S 1 i = 0) : ((inN S : Nat) : Int) = sumZ (fun i => ((S 1 i).toNatClampNeg : Int)) (nS S + 1) := by
  have n60 := (nS_60 w).1
  unfold inN
  rw [sumN_zero (a := nS S + 1) (fun i h1 h2 => by rw [hz i (by omega)]; rfl) (by omega), sumN_Z]
theorem drN_eq {S : ST} (w : WF S) (h0 : S 1 0 = 0) (hz : ∀ i, nS S < i → S 1 i = 0) : drN S = (inN S : Int) - (pcount 8 (sDiff (stN S) (rdN S (S 0 4) (nI (inN S)))) : Int) := by
  unfold drN
  rw [sumZ_congr (fun i hi => draw_split w (i := i) (by omega) h0), sumZ_sub, by_slips w, held_sum w, in_sumZ w hz]
