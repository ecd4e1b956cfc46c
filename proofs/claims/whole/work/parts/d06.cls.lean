/-- a kind under another -/
def undN (k w : Nat) : Bool := w == 0 || k == w || (w == 1 && k == 3) || (w == 4 && k == 5)
theorem und_eq : ∀ k : Nat, k < 6 → und (nI k) = if k = 0 then -1 else if k = 3 then 1 else if k = 5 then 4 else 0 := by decide +kernel
/-- the loop of isUnder, run -/
def undR (w : Int32) : Nat → Int32 → Option Int32
  | 0, _ => none
  | n + 1, a => if a < 0 then some 0 else if a < 6 then (if a = w then some 1 else undR w n (und a)) else some 0
theorem undR_ok {h : zH} {c0 w : Int32} {d : Int32} : ∀ {n k : Nat} {a r : Int32}, k + n ≤ 6 → undR w n a = some r → fx (B_X4_isUnder_4 h c0 w) d (a, nI k) = r := by
  intro n
  induction n with
  | zero => intro k a r _ h; cases h
  | succ n ih =>
    intro k a r hk hr
    have hlt : nI k < (6 : Int32) := by
      rw [i_lt, nI_t (by omega), show (6 : Int32).toInt = 6 from rfl]
      omega
    unfold undR at hr
    by_cases h1 : a < 0
    · rw [if_pos h1] at hr
      cases hr
      refine fx_stop ?_
      unfold B_X4_isUnder_4
      dsimp only
      rw [if_pos hlt, if_pos h1]
    · rw [if_neg h1] at hr
      by_cases h2 : a < 6
      · rw [if_pos h2] at hr
        by_cases h3 : a = w
        · rw [if_pos h3] at hr
          cases hr
          refine fx_stop ?_
          unfold B_X4_isUnder_4
          dsimp only
          rw [if_pos hlt, if_neg h1, if_pos h2, if_pos h3]
        · rw [if_neg h3] at hr
          rw [fx_step (s' := (und a, nI (k + 1))) (by
            unfold B_X4_isUnder_4
            dsimp only
            rw [if_pos hlt, if_neg h1, if_pos h2, if_neg h3, nI_s])]
          exact ih (by omega) hr
      · rw [if_neg h2] at hr
        cases hr
        refine fx_stop ?_
        unfold B_X4_isUnder_4
        dsimp only
        rw [if_pos hlt, if_neg h1, if_neg h2]
theorem undR_tab : ∀ k : Nat, k < 6 → ∀ w : Nat, w < 6 → undR (nI w) 6 (nI k) = some (if undN k w then 1 else 0) := by decide +kernel
theorem c_under {h : zH} {k w : Nat} (hk : k < 6) (hw : w < 6) : F_X4_isUnder h (nI k) (nI w) = if undN k w then 1 else 0 := by
  unfold F_X4_isUnder
  exact undR_ok (n := 6) (k := 0) (Nat.le_refl _) (undR_tab k hk w hw)
section
variable {T : List Nat} {h : zH} {q : Nat}
/-- the kind of a thing as a small number -/
def kd (S : ST) (t : Nat) : Nat := (S 2 t).toNatClampNeg
theorem kd_i {S : ST} (w : WF S) {t : Nat} (ht : t < nT S) : S 2 t = nI (kd S t) ∧ kd S t < 6 := by
  have h1 := (w.2.2.1 t ht).1
  have h2 := clamp_i h1.1
  refine ⟨nI_back h1.1, ?_⟩
  show (S 2 t).toNatClampNeg < 6
  omega
theorem c_kind (c : CC T h q) {t : Nat} (ht : t < nT (cAbs h q)) : hv h (hr h q 9) t = nI (kd (cAbs h q) t) := by
  rw [cl9 c.2.1, c_row (k := 2) ht (by omega)]
  exact (kd_i c.2.2.1 ht).1
/-- the things of a kind or under it -/
def unN (S : ST) (w : Nat) : Nat := setN (fun t => undN (kd S t) w) (nT S)
theorem c_thUn (c : CC T h q) {w : Nat} (hw : w < 6) : F_X1_thingsUnder h q (nI w) = nI (unN (cAbs h q) w) := by
  have wf := c.2.2.1
  have n8 := nT_8 wf
  unfold F_X1_thingsUnder unN
  refine fx_set _ _ n8 (fun m => ?_) (fun j m hj => ?_)
  · unfold B_X1_thingsUnder_4
    dsimp only
    rw [if_neg (fun e => absurd ((cT_lt wf (by omega)).mp e) (Nat.lt_irrefl _))]
  · unfold B_X1_thingsUnder_4
    simp only [letf]
    rw [if_pos ((cT_lt wf (by omega)).mpr hj), nI_c (by omega), c_kind c hj, c_under (kd_i wf hj).2 hw]
    by_cases e : undN (kd (cAbs h q) j) w = true
    · rw [if_pos e, if_neg (show ¬ (1 : Int32) = 0 by decide), if_pos e]
    · rw [if_neg e, if_pos rfl, if_neg e]
/-- the first of a set, from the j-th on, among n -/
def ftN (m : Nat) : Nat → Nat → Int32
  | 0, _ => -1
  | n + 1, j => if nb m j = 0 then ftN m n (j + 1) else nI j
theorem c_first {S : ST} {c0 : Nat} {m : Nat} {d : Int32} (w : WF S) (hT : hv h c0 8 = S 0 7) (hm : m < 256) : fx (B_X1_firstBrought_15 h c0 (nI m)) d 0 = ftN m (nT S) 0 := by
  have n8 := nT_8 w
  refine fx_rec (fun j => nI j) (fun j => ftN m (nT S - j) j) (nT S) ?_ (fun j hj => ?_)
  · unfold B_X1_firstBrought_15
    rw [hT, if_neg (fun e => absurd ((lt_T w (by omega)).mp e) (Nat.lt_irrefl _)), Nat.sub_self]
    rfl
  · unfold B_X1_firstBrought_15
    have e2 : ftN m (nT S - j) j = if nb m j = 0 then ftN m (nT S - (j + 1)) (j + 1) else nI j := by
      rw [show nT S - j = (nT S - (j + 1)) + 1 by omega]
      rfl
    rw [hT, if_pos ((lt_T w (by omega)).mpr hj), e2]
    have st := s_test m hm j (by omega)
    by_cases e : nb m j = 0
    · right
      rw [if_pos (st.mpr e), if_pos e, nI_s]
      exact ⟨rfl, rfl⟩
    · left
      rw [if_neg (fun x => e (st.mp x)), if_neg e]
/-- what a whisky would bring of a set -/
def brN (S : ST) (m : Nat) : Int32 := ftN (sDiff m (unN S 1)) (nT S) 0
theorem c_brought (c : CC T h q) : F_X1_firstBrought h q = brN (cAbs h q) (stN (cAbs h q)) := by
  have w := c.2.2.1
  unfold F_X1_firstBrought brN
  simp only [letf]
  have u1 : F_X1_thingsUnder h q 1 = nI (unN (cAbs h q) 1) := c_thUn c (w := 1) (by decide)
  rw [c_std c, u1, s_andnot (m := stN (cAbs h q)) (k := unN (cAbs h q) 1) (own_lt w _) (setN_256 (nT_8 w))]
  exact c_first w rfl (sDiff_lt _ _)
/-- what doesn't hold its slip back, behind gone goes, with left slips in -/
def freeB (S : ST) (gone left : Int32) (t : Nat) : Bool := !(undN (kd S t) 4 && decide (gone < 2 * S 4 t)) && !(undN (kd S t) 5 && decide (S 0 0 < 2 * left))
def rdN (S : ST) (gone left : Int32) : Nat := setN (freeB S gone left) (nT S)
theorem c_ready1 {S00 : Int32} (c : CC T h q) (gone left low : Int32) (hl : low = 0 ∧ S00 < 2 * left ∨ low = 1 ∧ ¬ S00 < 2 * left) (hS : S00 = cAbs h q 0 0) {d : Int32} : fx (B_X1_thingsReady_22 h q gone left low) d (0, 0) = nI (rdN (cAbs h q) gone left) := by
  have w := c.2.2.1
  have n8 := nT_8 w
  unfold rdN
  refine fx_set _ _ n8 (fun m => ?_) (fun j m hj => ?_)
  · unfold B_X1_thingsReady_22
    dsimp only
    rw [if_neg (fun e => absurd ((cT_lt w (by omega)).mp e) (Nat.lt_irrefl _))]
  · unfold B_X1_thingsReady_22
    simp only [letf]
    have u4 : F_X4_isUnder h (nI (kd (cAbs h q) j)) 4 = _ := c_under (w := 4) (kd_i w hj).2 (by decide)
    have u5 : F_X4_isUnder h (nI (kd (cAbs h q) j)) 5 = _ := c_under (w := 5) (kd_i w hj).2 (by decide)
    rw [if_pos ((cT_lt w (by omega)).mpr hj), nI_c (by omega), c_kind c hj, u4, u5, cl11 c.2.1, c_row (k := 4) hj (by omega)]
    have h10 : ¬ (1 : Int32) = 0 := by decide
    unfold freeB
    rw [← hS]
    cases e4 : undN (kd (cAbs h q) j) 4 <;> cases e5 : undN (kd (cAbs h q) j) 5 <;> by_cases eg : gone < 2 * cAbs h q 4 j <;> rcases hl with ⟨rfl, el⟩ | ⟨rfl, el⟩ <;> simp [eg, el, h10]
theorem c_ready (c : CC T h q) (gone left : Int32) : F_X1_thingsReady h q gone left = nI (rdN (cAbs h q) gone left) := by
  unfold F_X1_thingsReady
  by_cases e : hv h q 0 < 2 * left
  · rw [if_pos e]
    exact c_ready1 c gone left 0 (Or.inl ⟨rfl, e⟩) rfl
  · rw [if_neg e]
    exact c_ready1 c gone left 1 (Or.inr ⟨rfl, e⟩) rfl
end
section
variable {T : List Nat} {h : zH} {q : Nat}
/-- how many slips are in -/
def inN (S : ST) : Nat := sumN (fun i => (S 1 i).toNatClampNeg) 61
theorem i01 : (0 : Int32).toNatClampNeg = 0 ∧ (1 : Int32).toNatClampNeg = 1 ∧ (nI 0).toNatClampNeg = 0 ∧ (nI 1).toNatClampNeg = 1 := by decide
theorem c_in1 (c : CC T h q) {i : Nat} (hi : i < 64) : ((cAbs h q) 1 i).toNatClampNeg = nb (jN (hJ h q 7)) i := by
  show (if 1 ≤ i ∧ i ≤ (hv h q 0).toNatClampNeg then nI (nb (jN (hJ h q 7)) i) else 0).toNatClampNeg = _
  by_cases e : 1 ≤ i ∧ i ≤ (hv h q 0).toNatClampNeg
  · rw [if_pos e]
    exact nI_c (Nat.lt_trans (nb_lt _ _) (by decide))
  · rw [if_neg e, c.2.2.2.1 i hi (by omega)]
    rfl
theorem inN_60 {S : ST} (w : WF S) (hz : S 1 0 = 0) : inN S ≤ 60 := by
  unfold inN
  rw [sumN_succ' (fun i => (S 1 i).toNatClampNeg) 60, hz]
  have h1 : sumN (fun i => (S 1 (i + 1)).toNatClampNeg) 60 ≤ 60 * 1 := sumN_le (fun i _ => by
    rcases w.2.1 (i + 1) with e | e <;> rw [e] <;> decide)
  have h2 : (0 : Int32).toNatClampNeg = 0 := by decide
  omega
theorem cAbs_10 (h : zH) (q : Nat) : cAbs h q 1 0 = 0 := by
  show (if 1 ≤ 0 ∧ 0 ≤ (hv h q 0).toNatClampNeg then nI (nb (jN (hJ h q 7)) 0) else 0) = 0
  rw [if_neg (fun e => absurd e.1 (by decide))]
theorem c_countIn (c : CC T h q) : F_X1_countIn h q = nI (inN (cAbs h q)) := by
  have w := c.2.2.1
  have n60 := nS_60 w
  unfold F_X1_countIn
  simp only [letf]
  have e1 : pcount 64 (jN (hJ h q 7)) = inN (cAbs h q) := by
    rw [pcount_sum, sumN_zero (a := 61) (fun i h1 h2 => c.2.2.2.1 i h2 (Or.inr (Nat.lt_of_le_of_lt n60.1 (by omega)))) (by decide)]
    exact sumN_congr (fun i hi => (c_in1 c (by omega)).symm)
  have l := inN_60 w (cAbs_10 h q)
  rw [i_eq, F_J13_eq, e1, nI_t (by omega)]
theorem c_isIn (c : CC T h q) {x : Int32} (hx : isS (cAbs h q) x) : F_X1_isIn h q x = cAbs h q 1 x.toNatClampNeg := by
  have n60 := nS_60 c.2.2.1
  have hc := clamp_i (x := x) (by have := hx.1; omega)
  have h2 := nS_i c.2.2.1
  have h3 := hx.2
  have h4 := hx.1
  unfold F_X1_isIn
  have e := j_isIn (x := hJ h q 7) (i := x.toNatClampNeg) (by omega) (s := x) (by omega)
  have e2 := c_in1 c (i := x.toNatClampNeg) (by omega)
  rcases c.2.2.1.2.1 x.toNatClampNeg with z | z
  · rw [z, i01.1] at e2
    rw [if_pos (e.mpr e2.symm), z]
  · rw [z, i01.2.1] at e2
    rw [if_neg (fun y => by rw [e.mp y] at e2; cases e2), z]
/-- whether a slip can be drawn -/
def drawB (S : ST) (x : Int32) : Bool := decide (isS S x) && (decide (S 1 x.toNatClampNeg = 1) && (!(decide (isT S (thOn S x) ∧ S 6 (thOn S x).toNatClampNeg = -1)) || freeB S (S 0 4) (nI (inN S)) (thOn S x).toNatClampNeg))
theorem c_canDraw (c : CC T h q) (x : Int32) : F_X1_canBeDrawn h q x = if drawB (cAbs h q) x then 1 else 0 := by
  have w := c.2.2.1
  have n8 := nT_8 w
  have h10 : ¬ (1 : Int32) = 0 := by decide
  unfold F_X1_canBeDrawn drawB
  simp only [letf]
  rcases c_isS (h := h) (q := q) x with ⟨e, n⟩ | ⟨e, p⟩
  · rw [e, if_pos rfl, decide_eq_false n]
    rfl
  · rw [e, if_neg h10, c_isIn c p, decide_eq_true p]
    rcases w.2.1 x.toNatClampNeg with z | z
    · rw [z, if_pos rfl]
      rfl
    · rw [z, if_neg h10, c_thOn c, c_stands c]
      by_cases es : isT (cAbs h q) (thOn (cAbs h q) x) ∧ cAbs h q 6 (thOn (cAbs h q) x).toNatClampNeg = -1
      · rw [if_pos es, if_neg h10, c_countIn c, c_ready c, decide_eq_true es]
        have ht := clamp_i es.1.1
        have ht2 := es.1.2
        have ht3 := nT_i w
        have hb : (thOn (cAbs h q) x) = nI (thOn (cAbs h q) x).toNatClampNeg := nI_back es.1.1
        have ht4 : (thOn (cAbs h q) x).toNatClampNeg < nT (cAbs h q) := by omega
        generalize (thOn (cAbs h q) x).toNatClampNeg = t at *
        rw [hb]
        show (if nI (rdN (cAbs h q) (cAbs h q 0 4) (nI (inN (cAbs h q)))) &&& _ = 0 then (0 : Int32) else 1) = _
        have st := s_test (rdN (cAbs h q) (cAbs h q 0 4) (nI (inN (cAbs h q)))) (setN_256 n8) t (by omega)
        have nbr := nb_set (freeB (cAbs h q) (cAbs h q 0 4) (nI (inN (cAbs h q)))) (nT (cAbs h q)) t
        cases ef : freeB (cAbs h q) (cAbs h q 0 4) (nI (inN (cAbs h q))) t with
        | true =>
          rw [if_pos ⟨ht4, ef⟩] at nbr
          rw [if_neg (fun y => by
            have := st.mp y
            unfold rdN at this
            rw [nbr] at this
            cases this)]
          rfl
        | false =>
          rw [if_neg (fun y => by rw [ef] at y; cases y.2)] at nbr
          rw [if_pos (st.mpr nbr)]
          rfl
      · rw [if_neg es, if_pos rfl, decide_eq_false es]
        rfl
end
