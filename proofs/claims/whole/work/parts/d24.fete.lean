/-- a fete -/
def ftP (S : ST) (l : Int32) (t : Nat) : Bool := !decide (S 6 t = -1) && decide (iZ (lkS S (S 6 t).toNatClampNeg t) < l)
def ftw (S : ST) (l : Int32) : Nat → ST
  | 0 => S
  | t + 1 => if ftP S l t then uS (uS (ftw S l t) 6 t (-1)) 5 t (ftw S l t 5 t + 1) else ftw S l t
def ftc (S : ST) (l : Int32) : Nat → Nat
  | 0 => 0
  | t + 1 => if ftP S l t then ftc S l t + 1 else ftc S l t
def ft0 (S : ST) : ST := uS (slS S (S 0 0)) 0 4 0
def fetS (S : ST) (l : Int32) : ST := ftw (ft0 S) l (nT S)
def fetC (S : ST) (l : Int32) : Nat := ftc (ft0 S) l (nT S)
theorem ftw_c (S : ST) (l : Int32) {c : Nat} (h5 : c ≠ 5) (h6 : c ≠ 6) : ∀ n, ftw S l n c = S c
  | 0 => rfl
  | t + 1 => by
    show (if ftP S l t then uS (uS (ftw S l t) 6 t (-1)) 5 t (ftw S l t 5 t + 1) else ftw S l t) c = S c
    by_cases e : ftP S l t = true
    · rw [if_pos e, uS_c h5, uS_c h6]
      exact ftw_c S l h5 h6 t
    · rw [if_neg e]
      exact ftw_c S l h5 h6 t
theorem ftw_nT (S : ST) (l : Int32) (n : Nat) : nT (ftw S l n) = nT S := by
  unfold nT
  rw [ftw_c S l (by decide) (by decide)]
theorem ftw_6 (S : ST) (l : Int32) (t : Nat) : ∀ n, ftw S l n 6 t = if t < n ∧ ftP S l t = true then -1 else S 6 t
  | 0 => (if_neg (fun e => absurd e.1 (Nat.not_lt_zero _))).symm
  | n + 1 => by
    show (if ftP S l n then uS (uS (ftw S l n) 6 n (-1)) 5 n (ftw S l n 5 n + 1) else ftw S l n) 6 t = _
    have ih := ftw_6 S l t n
    by_cases e : ftP S l n = true
    · rw [if_pos e, uS_c (by decide)]
      by_cases f : t = n
      · subst f
        rw [uS_eq, if_pos ⟨by omega, e⟩]
      · rw [uS_ne (Or.inr f), ih]
        by_cases g : t < n ∧ ftP S l t = true
        · rw [if_pos g, if_pos ⟨by omega, g.2⟩]
        · rw [if_neg g, if_neg (fun y => g ⟨by
            have := y.1
            omega, y.2⟩)]
    · rw [if_neg e, ih]
      by_cases f : t < n ∧ ftP S l t = true
      · rw [if_pos f, if_pos ⟨by omega, f.2⟩]
      · rw [if_neg f, if_neg (fun y => f ⟨by
          have := y.1
          have : t ≠ n := fun z => e (z ▸ y.2)
          omega, y.2⟩)]
theorem lkS_ftw (S : ST) (l : Int32) (n b t : Nat) : lkS (ftw S l n) b t = lkS S b t := by
  unfold lkS nB nT
  rw [ftw_c S l (by decide) (by decide), ftw_c S l (by decide) (by decide)]
theorem WF_ftw {S : ST} (w : WF S) (ha : ∀ i, 1 ≤ i → i ≤ nS S → S 1 i = 1) (l : Int32) (n : Nat) : WF (ftw S l n) := by
  have hk : ∀ c, c ≠ 5 → c ≠ 6 → ftw S l n c = S c := fun c h5 h6 => ftw_c S l h5 h6 n
  refine ⟨?_, fun i => ?_, fun t ht => ?_, fun c => ?_, fun i => ?_⟩
  · rw [hk 0 (by decide) (by decide)]
    exact w.1
  · rw [hk 1 (by decide) (by decide)]
    exact w.2.1 i
  · rw [ftw_nT] at ht
    obtain ⟨o1, o2, o3, o4, o5, o6⟩ := w.2.2.1 t ht
    have sb := sl_b w ht
    unfold okT
    rw [hk 2 (by decide) (by decide), hk 3 (by decide) (by decide), hk 4 (by decide) (by decide), hk 0 (by decide) (by decide), hk 1 (by decide) (by decide), ftw_6]
    refine ⟨o1, o2, o3, ?_, fun _ => ha _ sb.1 sb.2.1, o6⟩
    by_cases e : t < n ∧ ftP S l t = true
    · rw [if_pos e]
      exact Or.inl rfl
    · rw [if_neg e]
      exact o4
  · rw [hk 7 (by decide) (by decide)]
    exact w.2.2.2.1 c
  · rw [hk 8 (by decide) (by decide)]
    exact w.2.2.2.2 i
theorem WF_slS {S : ST} (w : WF S) {n : Int32} (hn : 1 ≤ n.toInt ∧ n.toInt ≤ 60) (ht : nT S = 0 ∨ n = S 0 0) : WF (slS S n) := by
  have n0 : ∀ j, j ≠ 0 → slS S n 0 j = S 0 j := fun j hj => slS_o (fun y => hj y.2) (by decide)
  have n00 : slS S n 0 0 = n := if_pos ⟨rfl, rfl⟩
  have r : ∀ c, c ≠ 0 → c ≠ 1 → ∀ i, slS S n c i = S c i := fun c c0 c1 i => slS_o (fun y => c0 y.1) c1
  have h1 : ∀ i, slS S n 1 i = if 1 ≤ i ∧ i ≤ n.toNatClampNeg then 1 else 0 := fun i => (if_neg (fun y => absurd y.1 (by decide))).trans (if_pos rfl)
  have nn : nT (slS S n) = nT S := congrArg Int32.toNatClampNeg (n0 7 (by decide))
  refine ⟨?_, fun i => ?_, fun t htt => ?_, fun c => ?_, fun i => ?_⟩
  · rw [n0 1 (by decide), n0 2 (by decide), n0 3 (by decide), n0 7 (by decide), n0 8 (by decide), n00]
    exact ⟨hn, w.1.2⟩
  · rw [h1]
    by_cases e : 1 ≤ i ∧ i ≤ n.toNatClampNeg
    · rw [if_pos e]
      exact Or.inr rfl
    · rw [if_neg e]
      exact Or.inl rfl
  · rw [nn] at htt
    rcases ht with z | rfl
    · omega
    · have sb := sl_b w htt
      obtain ⟨o1, o2, o3, o4, o5, o6⟩ := w.2.2.1 t htt
      unfold okT
      rw [r 2 (by decide) (by decide), r 3 (by decide) (by decide), r 4 (by decide) (by decide), r 6 (by decide) (by decide), n00, h1, if_pos (show 1 ≤ (S 3 t).toNatClampNeg ∧ (S 3 t).toNatClampNeg ≤ (S 0 0).toNatClampNeg from ⟨sb.1, sb.2.1⟩)]
      refine ⟨o1, o2, o3, o4, fun _ => rfl, fun u hu => ?_⟩
      rw [r 3 (by decide) (by decide)]
      exact o6 u hu
  · rw [r 7 (by decide) (by decide)]
    exact w.2.2.2.1 c
  · rw [r 8 (by decide) (by decide)]
    exact w.2.2.2.2 i
theorem WF_ft0 {S : ST} (w : WF S) : WF (ft0 S) := WF_p4 (WF_slS w (WF_sl w) (Or.inr rfl)) 0
theorem ft0_all {S : ST} : ∀ i, 1 ≤ i → i ≤ nS (ft0 S) → ft0 S 1 i = 1 := fun i h1 h2 => by
  have h2 : i ≤ (S 0 0).toNatClampNeg := h2
  show slS S (S 0 0) 1 i = 1
  exact ((if_neg (fun y => absurd y.1 (by decide))).trans (if_pos rfl)).trans (if_pos ⟨h1, h2⟩)
theorem WF_fet {S : ST} (w : WF S) (l : Int32) : WF (fetS S l) := WF_ftw (WF_ft0 w) ft0_all l _
section
variable {T : List Nat} {h h' : zH} {q : Nat} {S : ST}
/-- owners are buyers -/
def ownS (S : ST) : Prop := ∀ t, t < nT S → S 6 t ≠ -1 → isB S (S 6 t)
theorem own_c {S : ST} (w : ownS S) {t : Nat} (ht : t < nT S) (hn : S 6 t ≠ -1) : (S 6 t).toNatClampNeg < nB S ∧ S 6 t = nI (S 6 t).toNatClampNeg := isB_c (w t ht hn)
theorem own_same {S S' : ST} (w : ownS S) (e6 : ∀ t, S' 6 t = S 6 t) (e7 : nT S' = nT S) (e8 : S' 0 8 = S 0 8) : ownS S' := fun t ht hn => by
  rw [e7] at ht
  rw [e6] at hn ⊢
  have := w t ht hn
  unfold isB at this ⊢
  rw [e8]
  exact this
theorem own_adB {S : ST} (w : ownS S) (wf : WF S) (h4 : nB S < 4) (p : Int32) : ownS (adB S p) := fun t ht hn => by
  have h0 := WF_bu wf
  have cs := clamp_s (x := S 0 8) h0.1 (by omega)
  have i := w t ht hn
  have i1 : 0 ≤ (S 6 t).toInt := i.1
  have i2 : (S 6 t).toInt < (S 0 8).toInt := i.2
  show 0 ≤ (S 6 t).toInt ∧ (S 6 t).toInt < (S 0 8 + 1).toInt
  omega
theorem own_adT {S : ST} (w : ownS S) (wf : WF S) {k s a : Int32} (nn : nT (adT S k s a) = nT S + 1) : ownS (adT S k s a) := fun t ht hn => by
  rw [nn] at ht
  by_cases e : t = nT S
  · have z : adT S k s a 6 t = -1 := by
      unfold adT
      rw [if_neg (show ¬ (6 = 0 ∧ t = 7) by omega), if_pos (show 2 ≤ 6 ∧ 6 ≤ 6 ∧ t = nT S from ⟨by decide, by decide, e⟩)]
      rfl
    exact absurd z hn
  · have z : adT S k s a 6 t = S 6 t := adT_o (by omega) (Or.inr e)
    rw [z] at hn ⊢
    exact w t (by omega) hn
theorem own_ftw {S : ST} (w : ownS S) (l : Int32) (n : Nat) : ownS (ftw S l n) := fun t ht hn => by
  rw [ftw_nT] at ht
  rw [ftw_6] at hn ⊢
  by_cases y : t < n ∧ ftP S l t = true
  · rw [if_pos y] at hn
    exact absurd rfl hn
  · rw [if_neg y] at hn ⊢
    have i := w t ht hn
    unfold isB at i ⊢
    rw [ftw_c S l (by decide) (by decide)]
    exact i
theorem own_ft0 {S : ST} (w : ownS S) : ownS (ft0 S) := fun t ht hn => w t ht hn
theorem own_fet {S : ST} (w : ownS S) (l : Int32) : ownS (fetS S l) := own_ftw (own_ft0 w) l _
theorem cm_ftw (m : CM T q h S h') (w : WF S) (ow : ownS S) (ha : ∀ i, 1 ≤ i → i ≤ nS S → S 1 i = 1) (l : Int32) : (fx (B_X1_beginFete_13 q l) (0, []) ((0 : Int32), (0 : Int32), h')).1 = nI (ftc S l (nT S)) ∧ CM T q h (ftw S l (nT S)) (fx (B_X1_beginFete_13 q l) (0, []) ((0 : Int32), (0 : Int32), h')).2 := by
  have n8 := nT_8 w
  have w0 := (WF_th w).1
  refine fx_forI (F := B_X1_beginFete_13 q l) (d := (0, [])) (fun j (x : Int32 × Int32 × zH) => x.1 = nI (ftc S l j) ∧ x.2.1 = nI j ∧ CM T q h (ftw S l j) x.2.2) (fun (r : Int32 × zH) => r.1 = nI (ftc S l (nT S)) ∧ CM T q h (ftw S l (nT S)) r.2) (nT S) (fun x hx => ?_) (fun j x hj hx => ?_) ⟨rfl, rfl, m⟩
  · obtain ⟨x1, x2, x3⟩ := x
    obtain ⟨e, e2, g⟩ := hx
    have e2 : x2 = nI (nT S) := e2
    have g : CM T q h (ftw S l (nT S)) x3 := g
    refine ⟨(x1, x3), ?_, e, g⟩
    unfold B_X1_beginFete_13
    refine if_neg ?_
    show ¬ x2 < hv x3 q 8
    rw [cm_n7 g, ftw_c S l (by decide) (by decide), e2, lt_nI w0 (by omega)]
    exact Nat.lt_irrefl _
  · obtain ⟨x1, x2, x3⟩ := x
    obtain ⟨e, e2, g⟩ := hx
    have e : x1 = nI (ftc S l j) := e
    have e2 : x2 = nI j := e2
    have g : CM T q h (ftw S l j) x3 := g
    subst e
    subst e2
    have hjd : j < nT (ftw S l j) := by
      rw [ftw_nT]
      exact hj
    have wj := WF_ftw w ha l j
    obtain ⟨cc, ca, -⟩ := CM_CC g wj
    have hlt : nI j < hv x3 q 8 := by
      rw [cm_n7 g, ftw_c S l (by decide) (by decide), lt_nI w0 (by omega)]
      exact hj
    have jc : (nI j).toNatClampNeg = j := nI_c (by omega)
    have j6 : ftw S l j 6 j = S 6 j := by
      rw [ftw_6, if_neg (fun y => Nat.lt_irrefl _ y.1)]
    have hd : ftw S l (j + 1) = if ftP S l j then uS (uS (ftw S l j) 6 j (-1)) 5 j (ftw S l j 5 j + 1) else ftw S l j := rfl
    have hcn : ftc S l (j + 1) = if ftP S l j then ftc S l j + 1 else ftc S l j := rfl
    have hst : F_X1_stands x3 q (nI j) = if S 6 j = -1 then 1 else 0 := by
      rw [c_stands cc, ca, jc, j6]
      by_cases y : S 6 j = -1
      · rw [if_pos y, if_pos ⟨isT_n wj hjd, y⟩]
      · rw [if_neg y, if_neg (fun z => y z.2)]
    refine Or.inr ?_
    unfold B_X1_beginFete_13
    simp only [letf]
    rw [if_pos hlt, hst, jc]
    by_cases y : S 6 j = -1
    · have hp : ftP S l j = false := by
        unfold ftP
        rw [decide_eq_true y]
        rfl
      rw [if_pos y, if_neg (by decide), nI_s]
      refine ⟨_, rfl, ?_, rfl, ?_⟩
      · rw [hcn, hp]
        rfl
      · rw [hd, hp]
        exact g
    · have ow := own_c ow hj y
      have nbb : nB (ftw S l j) = nB S := by
        unfold nB
        rw [ftw_c S l (by decide) (by decide)]
      have hl : F_X1_liking x3 q (S 6 j) (nI j) = iZ (lkS S (S 6 j).toNatClampNeg j) := by
        have := c_lk cc (b := (S 6 j).toNatClampNeg) (t := j) (by rw [ca, nbb]; exact ow.1) (by rw [ca]; exact hjd)
        rw [ca, lkS_ftw, ← ow.2] at this
        exact this
      rw [if_neg y, if_pos rfl, cm_a6 g hjd, j6, hl]
      by_cases z : iZ (lkS S (S 6 j).toNatClampNeg j) < l
      · have hp : ftP S l j = true := by
          unfold ftP
          rw [decide_eq_false y, decide_eq_true z]
          rfl
        have g1 := cm_w6 g (-1) (t := j) (by omega) hjd
        have g2 := cm_w5 g1 (ftw S l j 5 j + 1) (t := j) (by omega) hjd
        rw [if_pos z, cm_a5 g1 (t := j) hjd, uS_c (c := 6) (c' := 5) (by decide), nI_s, nI_s]
        refine ⟨_, rfl, ?_, rfl, ?_⟩
        · rw [hcn, hp]
          rfl
        · rw [hd, hp]
          exact g2
      · have hp : ftP S l j = false := by
          unfold ftP
          rw [decide_eq_false z]
          cases decide (S 6 j = -1) <;> rfl
        rw [if_neg z, nI_s]
        refine ⟨_, rfl, ?_, rfl, ?_⟩
        · rw [hcn, hp]
          rfl
        · rw [hd, hp]
          exact g
theorem cm_fete (m : CM T q h S h') (w : WF S) (ow : ownS S) (l : Int32) : (F_X1_beginFete h' q l).1 = nI (fetC S l) ∧ CM T q h (fetS S l) (F_X1_beginFete h' q l).2 := by
  unfold F_X1_beginFete
  simp only [letf]
  have m1 := cm_p4 (cm_all m w) 0
  exact cm_ftw m1 (WF_ft0 w) (own_ft0 ow) ft0_all l
theorem rm_ftw (m : RM T q h S h') (w : WF S) (ow : ownS S) (ha : ∀ i, 1 ≤ i → i ≤ nS S → S 1 i = 1) (l : Int32) : ∃ y : Int32 × zH, fx (B_X5_fete_49 q l) (Sum.inr (0, [])) ((0 : Int32), (0 : Int32), h') = Sum.inr y ∧ y.1 = nI (ftc S l (nT S)) ∧ RM T q h (ftw S l (nT S)) y.2 := by
  have n8 := nT_8 w
  have w0 := (WF_th w).1
  refine fx_forI (F := B_X5_fete_49 q l) (d := Sum.inr (0, [])) (fun j (x : Int32 × Int32 × zH) => x.1 = nI (ftc S l j) ∧ x.2.1 = nI j ∧ RM T q h (ftw S l j) x.2.2) (fun (r : (Int32 × zH) ⊕ (Int32 × zH)) => ∃ y : Int32 × zH, r = Sum.inr y ∧ y.1 = nI (ftc S l (nT S)) ∧ RM T q h (ftw S l (nT S)) y.2) (nT S) (fun x hx => ?_) (fun j x hj hx => ?_) ⟨rfl, rfl, m⟩
  · obtain ⟨x1, x2, x3⟩ := x
    obtain ⟨e, e2, g⟩ := hx
    have e2 : x2 = nI (nT S) := e2
    have g : RM T q h (ftw S l (nT S)) x3 := g
    refine ⟨Sum.inr (x1, x3), ?_, (x1, x3), rfl, e, g⟩
    unfold B_X5_fete_49
    refine if_neg ?_
    show ¬ x2 < hv x3 q 17
    rw [rm_n7 g, ftw_c S l (by decide) (by decide), e2, lt_nI w0 (by omega)]
    exact Nat.lt_irrefl _
  · obtain ⟨x1, x2, x3⟩ := x
    obtain ⟨e, e2, g⟩ := hx
    have e : x1 = nI (ftc S l j) := e
    have e2 : x2 = nI j := e2
    have g : RM T q h (ftw S l j) x3 := g
    subst e
    subst e2
    have hjd : j < nT (ftw S l j) := by
      rw [ftw_nT]
      exact hj
    have wj := WF_ftw w ha l j
    obtain ⟨cc, ca, -⟩ := RM_RC g wj
    have hlt : nI j < hv x3 q 17 := by
      rw [rm_n7 g, ftw_c S l (by decide) (by decide), lt_nI w0 (by omega)]
      exact hj
    have jc : (nI j).toNatClampNeg = j := nI_c (by omega)
    have j6 : ftw S l j 6 j = S 6 j := by
      rw [ftw_6, if_neg (fun y => Nat.lt_irrefl _ y.1)]
    have hd : ftw S l (j + 1) = if ftP S l j then uS (uS (ftw S l j) 6 j (-1)) 5 j (ftw S l j 5 j + 1) else ftw S l j := rfl
    have hcn : ftc S l (j + 1) = if ftP S l j then ftc S l j + 1 else ftc S l j := rfl
    refine Or.inr ?_
    unfold B_X5_fete_49
    simp only [letf]
    rw [if_pos hlt, jc, rm_a6 g hjd, j6]
    by_cases y : S 6 j = -1
    · have hp : ftP S l j = false := by
        unfold ftP
        rw [decide_eq_true y]
        rfl
      rw [if_pos y, nI_s]
      refine ⟨_, rfl, ?_, rfl, ?_⟩
      · rw [hcn, hp]
        rfl
      · rw [hd, hp]
        exact g
    · have ow := own_c ow hj y
      have nbb : nB (ftw S l j) = nB S := by
        unfold nB
        rw [ftw_c S l (by decide) (by decide)]
      have hl : hv x3 (hr x3 (hr x3 q 25) (S 6 j).toNatClampNeg) j = iZ (lkS S (S 6 j).toNatClampNeg j) := by
        have := r_lk cc (b := (S 6 j).toNatClampNeg) (t := j) (by rw [ca, nbb]; exact ow.1) (by rw [ca]; exact hjd)
        rw [ca, lkS_ftw] at this
        exact this
      rw [if_neg y, hl]
      by_cases z : iZ (lkS S (S 6 j).toNatClampNeg j) < l
      · have hp : ftP S l j = true := by
          unfold ftP
          rw [decide_eq_false y, decide_eq_true z]
          rfl
        have g1 := rm_w6 g (-1) (t := j) (by omega) hjd
        have g2 := rm_w5 g1 (ftw S l j 5 j + 1) (t := j) (by omega) hjd
        rw [if_pos z, rm_a5 g1 (t := j) hjd, uS_c (c := 6) (c' := 5) (by decide), nI_s, nI_s]
        refine ⟨_, rfl, ?_, rfl, ?_⟩
        · rw [hcn, hp]
          rfl
        · rw [hd, hp]
          exact g2
      · have hp : ftP S l j = false := by
          unfold ftP
          rw [decide_eq_false z]
          cases decide (S 6 j = -1) <;> rfl
        rw [if_neg z, nI_s]
        refine ⟨_, rfl, ?_, rfl, ?_⟩
        · rw [hcn, hp]
          rfl
        · rw [hd, hp]
          exact g
theorem rm_fete (m : RM T q h S h') (w : WF S) (ow : ownS S) (l : Int32) : (fx (B_X5_fete_21 q l) (0, []) ((0 : Int32), h')).1 = nI (fetC S l) ∧ RM T q h (fetS S l) (fx (B_X5_fete_21 q l) (0, []) ((0 : Int32), h')).2 := by
  have n60 := (nS_60 w).1
  have wf := WF_ft0 w
  obtain ⟨rd, c, k, rfl, s⟩ := m
  have n60 : (rd 0 9).toNatClampNeg ≤ 60 := n60
  refine fx_forI (F := B_X5_fete_21 q l) (d := (0, [])) (fun j (x : Int32 × zH) => x.1 = nI j ∧ RI T q h rd j x.2) (fun (r : Int32 × zH) => r.1 = nI (fetC (mkR rd) l) ∧ RM T q h (fetS (mkR rd) l) r.2) 61 (fun x hx => ?_) (fun j x hj hx => ?_) ?_
  · obtain ⟨x1, x2⟩ := x
    obtain ⟨e, g⟩ := hx
    have e : x1 = nI 61 := e
    have g : RI T q h rd 61 x2 := g
    subst e
    have g1 : RM T q h (ft0 (mkR rd)) (hput x2 q 13 (.inl (.int 0))) := rm_p4 (RI_end g n60) 0
    obtain ⟨y, y1, y2, y3⟩ := rm_ftw g1 wf (own_ft0 ow) ft0_all l
    refine ⟨y, ?_, y2, y3⟩
    unfold B_X5_fete_21
    simp only [letf]
    have h61 : (60 : Int32) < nI 61 := by decide
    rw [if_pos h61]
    exact y1
  · obtain ⟨x1, x2⟩ := x
    obtain ⟨e, g⟩ := hx
    have e : x1 = nI j := e
    have g : RI T q h rd j x2 := g
    subst e
    refine Or.inr ⟨(nI (j + 1), hput x2 (hr x2 q 16) j (.inl (.int 0))), ?_, rfl, RI_step g hj⟩
    unfold B_X5_fete_21
    simp only [letf]
    have h60 : (60 : Int32).toInt = 60 := rfl
    rw [if_neg (by rw [i_lt, nI_t (by omega), h60]; omega), nI_c (by omega), nI_s]
  · exact ⟨rfl, rd, c, k, fun i hi => absurd hi (Nat.not_lt_zero _), fun d i _ => rfl, s⟩
end
