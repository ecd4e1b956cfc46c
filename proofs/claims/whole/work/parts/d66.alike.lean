/-- alike but for who has what -/
def eqO (S S' : ST) : Prop := (∀ c, c ≠ 6 → S' c = S c) ∧ ∀ t, t < nT S → (S' 6 t = -1 ↔ S 6 t = -1)
section
variable {S S' : ST}
theorem eqO_rf (S : ST) : eqO S S := ⟨fun _ _ => rfl, fun _ _ => Iff.rfl⟩
theorem eqO_0 (e : eqO S S') (i : Nat) : S' 0 i = S 0 i := congrFun (e.1 0 (by decide)) i
theorem eqO_nT (e : eqO S S') : nT S' = nT S := nT_congr (eqO_0 e 7)
theorem eqO_thOn (e : eqO S S') (x : Int32) : thOn S' x = thOn S x := by
  unfold thOn
  rw [eqO_nT e, thN_congr (e.1 3 (by decide))]
theorem eqO_in (e : eqO S S') : inN S' = inN S := by
  unfold inN
  rw [e.1 1 (by decide)]
theorem eqO_kd (e : eqO S S') (t : Nat) : kd S' t = kd S t := by
  unfold kd
  rw [e.1 2 (by decide)]
theorem eqO_free (e : eqO S S') (g l : Int32) (t : Nat) : freeB S' g l t = freeB S g l t := by
  unfold freeB
  rw [eqO_kd e, e.1 4 (by decide), eqO_0 e]
theorem eqO_isT (e : eqO S S') (y : Int32) : isT S' y = isT S y := by
  unfold isT
  rw [eqO_0 e]
theorem eqO_isS (e : eqO S S') (y : Int32) : isS S' y = isS S y := by
  unfold isS
  rw [eqO_0 e]
theorem eqO_std (w : WF S) (e : eqO S S') (y : Int32) : (isT S y ∧ S' 6 y.toNatClampNeg = -1) = (isT S y ∧ S 6 y.toNatClampNeg = -1) := propext ⟨fun z => ⟨z.1, (e.2 _ (isT_lt w z.1).1).mp z.2⟩, fun z => ⟨z.1, (e.2 _ (isT_lt w z.1).1).mpr z.2⟩⟩
theorem eqO_drawB (w : WF S) (e : eqO S S') (x : Int32) : drawB S' x = drawB S x := by
  have i3 := eqO_std w e (thOn S x)
  unfold drawB
  simp only [eqO_isS e, eqO_isT e, eqO_thOn e, eqO_in e, eqO_free e, e.1 1 (by decide), eqO_0 e, i3]
theorem eqO_st (e : eqO S S') : stN S' = stN S := by
  unfold stN ownN
  rw [eqO_nT e]
  exact setN_congr (fun t ht => decide_eq_decide.mpr (e.2 t ht))
theorem eqO_un (e : eqO S S') (k : Nat) : unN S' k = unN S k := by
  unfold unN
  rw [eqO_nT e]
  exact setN_congr (fun t _ => by rw [eqO_kd e])
theorem eqO_br (e : eqO S S') (m : Nat) : brN S' m = brN S m := by
  unfold brN
  rw [eqO_nT e, eqO_un e]
theorem eqO_won (e : eqO S S') (t m : Nat) : wonN S' t m = wonN S t m := by
  unfold wonN
  rw [eqO_kd e, eqO_br e]
theorem eqO_wins (w : WF S) (e : eqO S S') (x : Int32) : winsN S' x = winsN S x := by
  have i3 := eqO_std w e (thOn S x)
  unfold winsN
  simp only [eqO_isT e, eqO_thOn e, eqO_won e, eqO_st e, i3]
theorem eqO_uS (e : eqO S S') {c : Nat} (hc : c ≠ 6) (h7 : ¬ (c = 0)) (i : Nat) (x : Int32) : eqO (uS S c i x) (uS S' c i x) := by
  refine ⟨fun c' hc' => ?_, fun t ht => ?_⟩
  · funext i'
    by_cases y : c' = c ∧ i' = i
    · rw [y.1, y.2, uS_eq, uS_eq]
    · rw [uS_ne (by omega), uS_ne (by omega), e.1 c' hc']
  · rw [uS_c (by omega), uS_c (by omega)]
    refine e.2 t ?_
    unfold nT at ht ⊢
    rw [uS_c (by omega)] at ht
    exact ht
theorem eqO_u4 (e : eqO S S') (x : Int32) : eqO (uS S 0 4 x) (uS S' 0 4 x) := by
  refine ⟨fun c' hc' => ?_, fun t ht => ?_⟩
  · funext i'
    by_cases y : c' = 0 ∧ i' = 4
    · rw [y.1, y.2, uS_eq, uS_eq]
    · rw [uS_ne (by omega), uS_ne (by omega), e.1 c' hc']
  · rw [uS_c (by decide), uS_c (by decide)]
    exact e.2 t ht
theorem eqO_drw (e : eqO S S') (M : Nat) {b b' : Int32} (hb : b ≠ -1) (hb' : b' ≠ -1) : ∀ n, eqO (drw S M b n) (drw S' M b' n)
  | 0 => e
  | n + 1 => by
    have ih := eqO_drw e M hb hb' n
    show eqO (if nb M n = 0 then drw S M b n else uS (uS (drw S M b n) 6 n b) 5 n (drw S M b n 5 n + if S 2 n = 2 then 1 else 0)) (if nb M n = 0 then drw S' M b' n else uS (uS (drw S' M b' n) 6 n b') 5 n (drw S' M b' n 5 n + if S' 2 n = 2 then 1 else 0))
    by_cases z : nb M n = 0
    · rw [if_pos z, if_pos z]
      exact ih
    · rw [if_neg z, if_neg z, e.1 2 (by decide), ih.1 5 (by decide)]
      refine eqO_uS ⟨fun c' hc' => ?_, fun t ht => ?_⟩ (by decide) (by decide) _ _
      · rw [uS_c hc', uS_c hc', ih.1 c' hc']
      · by_cases y : t = n
        · subst y
          rw [uS_eq, uS_eq]
          exact ⟨fun z => absurd z hb', fun z => absurd z hb⟩
        · rw [uS_ne (Or.inr y), uS_ne (Or.inr y)]
          refine ih.2 t ?_
          unfold nT at ht ⊢
          rw [uS_c (by decide)] at ht
          exact ht
theorem eqO_draw (w : WF S) (e : eqO S S') (x : Int32) {b b' : Int32} (hb : b ≠ -1) (hb' : b' ≠ -1) : eqO (drawS S x b) (drawS S' x b') := by
  unfold drawS
  rw [eqO_wins w e, eqO_nT e, eqO_0 e]
  exact eqO_drw (eqO_u4 (eqO_uS e (by decide) (by decide) _ _) _) _ hb hb' _
end
/-- a book's goes, one after the other -/
def bokS (N : ST) (b : Int32) (sl : Nat → Int32) : Nat → ST
  | 0 => N
  | j + 1 => drawS (bokS N b sl j) (sl j) b
theorem bk_WF {N : ST} (w : WF N) {b : Int32} (hb : 0 ≤ b.toInt ∧ b.toInt < 4) {sl : Nat → Int32} {m : Nat} (hs : ∀ i, i < m → isS (bokS N b sl i) (sl i)) : ∀ j, j ≤ m → WF (bokS N b sl j)
  | 0, _ => w
  | j + 1, hj => WF_draw4 (bk_WF w hb hs j (by omega)) (hs j (by omega)) hb
