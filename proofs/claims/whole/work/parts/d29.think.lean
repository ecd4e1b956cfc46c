section
variable {T : List Nat} {h0 h : zH} {N A M J : Nat → Int32}
theorem nI_sub {a b : Nat} (h : b ≤ a) (ha : a < 2147483648) : nI a - nI b = nI (a - b) := by
  rw [i_eq, i_isub (by rw [nI_t (by omega), nI_t (by omega)]; omega) (by rw [nI_t (by omega), nI_t (by omega)]; omega), nI_t (by omega), nI_t (by omega), nI_t (by omega)]
  omega
/-- all layers -/
theorem c_fill {q b dep : Nat} {pr : Int32} (ht : tT T) (c : TH T h0 h N A M J) (cc : CC T h0 q) (hq : q + 8 ≤ 25) (hb : b < nB (cAbs h0 q)) (hJ0 : J 0 = 0) (hpr : 0 ≤ pr.toInt ∧ pr.toInt ≤ 99) (hd : dep ≤ inN (cAbs h0 q)) :
    ∃ A' M', TH T h0 (F_X3_fill h 25 q (nI b) (nI dep) pr) (lkNs (cAbs h0 q)) A' M' (joy (cAbs h0 q) b) ∧ (∀ m, m < 256 → A' m = iZ (vcl (cAbs h0 q) b pr.toInt dep 0 m)) ∧ ∀ g m, g ≤ 60 → m < 256 → mkB M' g m = decide (0 < vcl (cAbs h0 q) b pr.toInt dep g m) := by
  have w := cc.2.2.1
  have h60 := inN_60 w (cAbs_10 h0 q)
  have c1 := c_lookAt ht c cc hq
  have c2 := c_weigh ht c1 cc hq hb hJ0
  obtain ⟨cc2, a2⟩ := th_cc c2 cc hq
  have ec := c_countIn cc2
  rw [a2] at ec
  unfold F_X3_fill
  simp only [letf]
  rw [ec]
  have h1 : (1 : Int32).toInt = 1 := rfl
  refine fx_forI (F := B_X3_fill_22 25 q (nI b) (nI dep) pr (nI (inN (cAbs h0 q)))) (d := [])
    (fun j (x : Int32 × zH) => x.1.toInt = (dep : Int) - 1 - (j : Int) ∧ ∃ A' M', TH T h0 x.2 (lkNs (cAbs h0 q)) A' M' (joy (cAbs h0 q) b) ∧ (∀ m, m < 256 → A' m = iZ (vcl (cAbs h0 q) b pr.toInt dep (dep - j) m)) ∧ ∀ g m, g ≤ 60 → m < 256 → mkB M' g m = (decide (dep - j ≤ g) && decide (0 < vcl (cAbs h0 q) b pr.toInt dep g m)))
    (fun r => ∃ A' M', TH T h0 r (lkNs (cAbs h0 q)) A' M' (joy (cAbs h0 q) b) ∧ (∀ m, m < 256 → A' m = iZ (vcl (cAbs h0 q) b pr.toInt dep 0 m)) ∧ ∀ g m, g ≤ 60 → m < 256 → mkB M' g m = decide (0 < vcl (cAbs h0 q) b pr.toInt dep g m)) dep (fun x hx => ?_) (fun j x hj hx => ?_) ?_
  · obtain ⟨x1, x2⟩ := x
    obtain ⟨e, A', M', g1, g2, g3⟩ := hx
    have e : x1.toInt = (dep : Int) - 1 - (dep : Int) := e
    refine ⟨x2, ?_, A', M', g1, fun m hm => ?_, fun g m hg hm => ?_⟩
    · unfold B_X3_fill_22
      exact if_pos (by rw [i_lt, e0]; omega)
    · rw [g2 m hm, Nat.sub_self]
    · rw [g3 g m hg hm, Nat.sub_self, decide_eq_true (Nat.zero_le g)]
      rfl
  · obtain ⟨x1, x2⟩ := x
    obtain ⟨e, A', M', g1, g2, g3⟩ := hx
    have e : x1.toInt = (dep : Int) - 1 - (j : Int) := e
    have g1 : TH T h0 x2 (lkNs (cAbs h0 q)) A' M' (joy (cAbs h0 q) b) := g1
    obtain ⟨k, hk⟩ : ∃ k : Nat, k + 1 + j = dep := ⟨dep - 1 - j, by omega⟩
    have ex : x1 = nI k := by
      rw [i_eq, nI_t (by omega), e]
      omega
    subst ex
    have ek : dep - j = k + 1 := by omega
    rw [ek] at g2 g3
    obtain ⟨cc3, a3⟩ := th_cc g1 cc hq
    have h4 : hv x2 q 4 = cAbs h0 q 0 4 := by
      rw [← a3]
      rfl
    have er := c_ready cc3 (cAbs h0 q 0 4 + nI k) (nI (inN (cAbs h0 q) - k))
    rw [a3] at er
    have g3 : ∀ g m, g ≤ 60 → m < 256 → mkB M' g m = (decide (k < g) && decide (0 < vcl (cAbs h0 q) b pr.toInt dep g m)) := g3
    obtain ⟨A2, M2, f1, f2, f3⟩ := c_fillLayer w ht hpr g1 (dep := dep) (k := k) (by omega) hd h60 g2 g3
    refine Or.inr ⟨(nI k + (-1 : Int32), F_X3_fillLayer x2 25 (nI k) (nI (inN (cAbs h0 q) - k)) (nI (rdN (cAbs h0 q) (cAbs h0 q 0 4 + nI k) (nI (inN (cAbs h0 q) - k)))) pr), ?_, ?_, A2, M2, f1, ?_, ?_⟩
    · unfold B_X3_fill_22
      simp only [letf]
      rw [if_neg (by rw [i_lt, e0, nI_t (by omega)]; omega), h4, nI_sub (by omega) (by omega), er]
    · have h3 : (-1 : Int32).toInt = -1 := rfl
      show (nI k + (-1 : Int32)).toInt = (dep : Int) - 1 - ((j + 1 : Nat) : Int)
      rw [i_iadd (by rw [nI_t (by omega), h3]; omega) (by rw [nI_t (by omega), h3]; omega), nI_t (by omega), h3]
      omega
    · rw [show dep - (j + 1) = k by omega]
      exact f2
    · rw [show dep - (j + 1) = k by omega]
      exact f3
  · refine ⟨?_, _, _, c2, fun m hm => ?_, fun g m hg hm => ?_⟩
    · show (nI dep - (1 : Int32)).toInt = (dep : Int) - 1 - ((0 : Nat) : Int)
      rw [i_isub (by rw [nI_t (by omega), h1]; omega) (by rw [nI_t (by omega), h1]; omega), nI_t (by omega), h1]
      omega
    · rw [vcl_dep _ _ _ _ _ (by omega)]
      rfl
    · have z : mkB (fun _ => 0) g m = false := by
        unfold mkB
        show (0 : Int32).toBitVec.getLsbD (m % 32) = false
        exact BitVec.getLsbD_zero
      rw [z]
      by_cases y : dep ≤ g
      · rw [vcl_dep _ _ _ _ _ y]
        simp
      · rw [decide_eq_false (show ¬ dep - 0 ≤ g by omega)]
        rfl
theorem th_of (K : hOK kty T h) (l : hr h 25 0 = 26 ∧ hr h 25 1 = 27 ∧ hr h 25 2 = 28) : TH T h h (fun i => hv h 25 i) (fun i => hv h 26 i) (fun i => hv h 27 i) (fun i => hv h 28 i) := ⟨K, sO_r _ _ _, l, fun _ _ _ => rfl, fun _ _ => rfl, fun _ _ => rfl, fun _ _ => rfl⟩
/-- what the thought says of how the stall is -/
theorem c_valueNow {S : ST} (w : WF S) {b dep : Nat} {pr : Int} (c : TH T h0 h (lkNs S) A M (joy S b)) (hA : ∀ m, m < 256 → A m = iZ (vcl S b pr dep 0 m)) : F_X3_valueNow h 25 = iZ (vcl S b pr dep 0 (stN S)) := by
  have st : stN S < 256 := own_lt w (-1)
  have h4 : hv h 25 4 = nI (stN S) := c.2.2.2.1 4 (by decide) (by decide)
  unfold F_X3_valueNow
  simp only [letf]
  rw [h4, F_isSet st, if_neg (by decide), c.2.2.1.1, nI_c (by omega), c.2.2.2.2.1 _ st, hA _ st]
theorem vcl_now {S : ST} (w : WF S) (h0 : S 1 0 = 0) (hz : ∀ i, nS S < i → S 1 i = 0) (b : Nat) (pr : Int) (dep : Nat) : vcl S b pr dep 0 (stN S) = VV S b pr dep (S 0 4) (inN S) (stN S) := by
  unfold vcl
  have := st_in w h0 hz
  rw [if_pos ⟨sub_rf (stN S), by omega⟩]
  have e : S 0 4 + nI 0 = S 0 4 := Int32.add_zero _
  rw [e]
  rfl
end
