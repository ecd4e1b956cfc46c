section
variable {T : List Nat} {h0 h : zH} {p : Nat} {Tb : Nat → Nat → Int64}
theorem r_value (cc : RC T h0 49) (vl : VL T h0 p) {b L : Nat} (vp : VP h0 b L) (hb : b < nB (rAbs h0 49)) (hL : L ≤ 61) : ∀ (r g m D : Nat) (h : zH) (Tb : Nat → Nat → Int64), L = g + r → 2 * r + 1 ≤ D → inT (rAbs h0 49) m → g ≤ inN (rAbs h0 49) → pcount 8 m ≤ inN (rAbs h0 49) - g → RV T h0 h p Tb → MP (rAbs h0 49) b L Tb → ∃ h' Tb', (FVW D).1 h 49 (nI m) (nI g) = (lZ (rvl (rAbs h0 49) b L g m), h') ∧ RV T h0 h' p Tb' ∧ MP (rAbs h0 49) b L Tb' := by
  intro r
  induction r with
  | zero =>
    intro g m D h Tb e hD hi hin hp c mp
    obtain ⟨D, rfl⟩ : ∃ k, D = k + 1 := ⟨D - 1, by omega⟩
    have g62 : g < 62 := by omega
    have ea := rv_at vl c g62
    have ec := c.2.2 g g62 m hi.1
    have hv39 : hv h 49 39 = nI L := (rv_49 vl c 39).trans vp.2.2.2
    have z : rvl (rAbs h0 49) b L g m = 0 := by
      unfold rvl
      rw [show L - g = 0 by omega]
      rfl
    show ∃ h' Tb', F_X5_valueT (FVW D).2 h 49 (nI m) (nI g) = _ ∧ _
    unfold F_X5_valueT
    simp only [letf]
    rw [ea, nI_c (k := m) (by have := hi.1; omega), ec]
    by_cases y : Tb g m = -1
    · have eg : nI g = hv h 49 39 := by
        rw [hv39, e]
        rfl
      rw [if_pos y, if_pos eg]
      have p1 := rv_put vl c g62 hi.1 (lZ (rvl (rAbs h0 49) b L g m))
      have z0 : (0 : Int64) = lZ (rvl (rAbs h0 49) b L g m) := by
        rw [z]
        rfl
      rw [z0, rv_at vl p1 g62, p1.2.2 g g62 m hi.1]
      have um : upT Tb g m (lZ (rvl (rAbs h0 49) b L g m)) g m = lZ (rvl (rAbs h0 49) b L g m) := if_pos ⟨rfl, rfl⟩
      rw [um]
      exact ⟨_, _, rfl, p1, MP_put mp g m⟩
    · rw [if_neg y]
      rcases mp g m g62 hi.1 with q | q
      · exact absurd q y
      · rw [q]
        exact ⟨h, Tb, rfl, c, mp⟩
  | succ r ih =>
    intro g m D h Tb e hD hi hin hp c mp
    obtain ⟨D, rfl⟩ : ∃ k, D = k + 1 + 1 := ⟨D - 2, by omega⟩
    have g62 : g < 62 := by omega
    have ea := rv_at vl c g62
    have ec := c.2.2 g g62 m hi.1
    have h60 := inN_60 cc.2.2.1 (rAbs_10 h0 49)
    have hv39 : hv h 49 39 = nI L := (rv_49 vl c 39).trans vp.2.2.2
    have hv38 : hv h 49 38 = nI (inN (rAbs h0 49)) := (rv_49 vl c 38).trans vp.2.2.1
    show ∃ h' Tb', F_X5_valueT (FVW (D + 1)).2 h 49 (nI m) (nI g) = _ ∧ _
    unfold F_X5_valueT
    simp only [letf]
    rw [ea, nI_c (k := m) (by have := hi.1; omega), ec]
    by_cases y : Tb g m = -1
    · have eg : ¬ nI g = hv h 49 39 := by
        rw [hv39, i_eq, nI_t (by omega), nI_t (by omega)]
        omega
      rw [if_pos y, if_neg eg]
      have found : ∃ h' Tb', (FVW (D + 1)).2 h 49 (nI m) (nI g) = (lZ (rvl (rAbs h0 49) b L g m), h') ∧ RV T h0 h' p Tb' ∧ MP (rAbs h0 49) b L Tb' := by
        show ∃ h' Tb', F_X5_foundT (FVW D).1 h 49 (nI m) (nI g) = _ ∧ _
        unfold F_X5_foundT
        simp only [letf]
        have IH : ∀ (m' : Nat) (h : zH) (Tb : Nat → Nat → Int64), inT (rAbs h0 49) m' → pcount 8 m' + 1 ≤ inN (rAbs h0 49) - g → RV T h0 h p Tb → MP (rAbs h0 49) b L Tb → ∃ h' Tb', (FVW D).1 h 49 (nI m') (nI (g + 1)) = (lZ (rvl (rAbs h0 49) b L (g + 1) m'), h') ∧ RV T h0 h' p Tb' ∧ MP (rAbs h0 49) b L Tb' := fun m' h Tb i1 i2 i3 i4 => ih (g + 1) m' D h Tb (by omega) (by omega) i1 (by omega) (by omega) i3 i4
        rw [F_bits hi.1, hv38, sub_e (by omega) hin, sub_e (by omega) hp]
        by_cases z : inN (rAbs h0 49) - g - pcount 8 m = 0
        · rw [if_neg (show ¬ (0 : Int32) < nI (inN (rAbs h0 49) - g - pcount 8 m) by rw [z]; decide)]
          have key := r_foundL cc vl vp hb hL (by omega) hi hin IH hp c mp
          rw [z, Int.natCast_zero, Int.zero_mul] at key
          rw [z]
          exact key
        · rw [if_pos (show (0 : Int32) < nI (inN (rAbs h0 49) - g - pcount 8 m) by rw [i_lt, e0, nI_t (by omega)]; omega), nI_s g]
          obtain ⟨h2, Tb2, q1, q2, q3⟩ := IH m h Tb hi (by omega) c mp
          rw [q1, lZ_n (by omega), ← lZ_mul]
          exact r_foundL cc vl vp hb hL (by omega) hi hin IH hp q2 q3
      obtain ⟨h2, Tb2, q1, q2, q3⟩ := found
      rw [q1]
      have p1 := rv_put vl q2 g62 hi.1 (lZ (rvl (rAbs h0 49) b L g m))
      rw [rv_at vl p1 g62, p1.2.2 g g62 m hi.1]
      have um : upT Tb2 g m (lZ (rvl (rAbs h0 49) b L g m)) g m = lZ (rvl (rAbs h0 49) b L g m) := if_pos ⟨rfl, rfl⟩
      rw [um]
      exact ⟨_, _, rfl, p1, MP_put q3 g m⟩
    · rw [if_neg y]
      rcases mp g m g62 hi.1 with q | q
      · exact absurd q y
      · rw [q]
        exact ⟨h, Tb, rfl, c, mp⟩
/-- the table begun -/
def r5s (h0 h : zH) (p : Nat) : Prop := ∀ n i, ¬ (p < n ∧ n ≤ p + 62) → (n = 49 → i < 36 ∨ 39 < i) → hget h n i = hget h0 n i
theorem r_begin (cc : RC T h 49) (h5 : T[49]? = some 5) (vl : VL T h p) (b L : Int32) : ∃ h', J_X5_beginValuesA_j20 h 49 b L = h' ∧ hOK kty T h' ∧ r5s h h' p ∧ (∀ g, g < 62 → ∀ i, i < 256 → hJ h' (p + 1 + g) i = -1) ∧ (hv h' 49 36 = b ∧ hv h' 49 37 = rAbs h 49 0 4 ∧ hv h' 49 38 = nI (inN (rAbs h 49)) ∧ hv h' 49 39 = L) := by
  have e256 : (256 : Int32).toInt = 256 := rfl
  have e61 : (61 : Int32).toInt = 61 := rfl
  refine ⟨_, rfl, ?_⟩
  unfold J_X5_beginValuesA_j20
  refine fx_forI (F := B_X5_beginValuesA_22 49 b L) (d := []) (fun j (x : Int32 × zH) => x.1 = nI j ∧ ∃ Tb, RV T h x.2 p Tb ∧ ∀ g m, g < j → m < 256 → Tb g m = -1)
    (fun h' => hOK kty T h' ∧ r5s h h' p ∧ (∀ g, g < 62 → ∀ i, i < 256 → hJ h' (p + 1 + g) i = -1) ∧ (hv h' 49 36 = b ∧ hv h' 49 37 = rAbs h 49 0 4 ∧ hv h' 49 38 = nI (inN (rAbs h 49)) ∧ hv h' 49 39 = L)) 62 (fun x hx => ?_) (fun j x hj hx => ?_) ?_
  · obtain ⟨x1, x2⟩ := x
    obtain ⟨e, Tb, g1, g2⟩ := hx
    have e : x1 = nI 62 := e
    have g1 : RV T h x2 p Tb := g1
    subst e
    obtain ⟨r1, r2⟩ := rv_rc cc vl g1
    have hp := vl.2.1
    have s5 : ∀ i, 36 ≤ i → i ≤ 39 → i < (zty 5).2.1 ∧ ((zty 5).2.2 i).1 = 0 := by
      intro i h1 h2
      have : ∀ i : Nat, i < 40 → 36 ≤ i → i < (zty 5).2.1 ∧ ((zty 5).2.2 i).1 = 0 := by decide
      exact this i (by omega) h1
    have put : ∀ (h1 : zH) (i : Nat) (v : Int32), 36 ≤ i → i ≤ 39 → hOK kty T h1 → (hOK kty T (hput h1 49 i (.inl (.int v))) ∧ hv (hput h1 49 i (.inl (.int v))) 49 i = v) := fun h1 i v i1 i2 K => ⟨k_put K h5 (s5 i i1 i2).2 v, hv_put (k_int K h5 (s5 i i1 i2).1 (s5 i i1 i2).2)⟩
    have K1 := put x2 36 b (by decide) (by decide) g1.1
    have e13 : hv (hput x2 49 36 (.inl (.int b))) 49 13 = rAbs h 49 0 4 := by
      rw [hv_ne (Or.inr (by decide)), ← r2]
      rfl
    have K2 := put _ 37 (rAbs h 49 0 4) (by decide) (by decide) K1.1
    have sm : ∀ d i, d < 29 → (d = 0 → i < 36) → hget (hput (hput x2 49 36 (.inl (.int b))) 49 37 (.inl (.int (rAbs h 49 0 4)))) (49 + d) i = hget x2 (49 + d) i := fun d i hd hi => by
      rw [hget_put_ne (by omega), hget_put_ne (by omega)]
    have ein : F_X5_inside (hput (hput x2 49 36 (.inl (.int b))) 49 37 (.inl (.int (rAbs h 49 0 4)))) 49 = nI (inN (rAbs h 49)) := by
      have m0 := rm_p4 (RM_of r1) (hv x2 49 13)
      have ri : F_X5_inside (hput (hput x2 49 36 (.inl (.int b))) 49 37 (.inl (.int (rAbs h 49 0 4)))) 49 = F_X5_inside x2 49 := by
        have e9 : hv (hput (hput x2 49 36 (.inl (.int b))) 49 37 (.inl (.int (rAbs h 49 0 4)))) 49 9 = hv x2 49 9 := hv_eq (sm 0 9 (by decide) (fun _ => by decide))
        have e16 : hr (hput (hput x2 49 36 (.inl (.int b))) 49 37 (.inl (.int (rAbs h 49 0 4)))) 49 16 = hr x2 49 16 := hr_eq (sm 0 16 (by decide) (fun _ => by decide))
        have er : ∀ i, hv (hput (hput x2 49 36 (.inl (.int b))) 49 37 (.inl (.int (rAbs h 49 0 4)))) (49 + 17) i = hv x2 (49 + 17) i := fun i => hv_eq (sm 17 i (by decide) (fun y => absurd y (by decide)))
        have eB : B_X5_inside_4 (hput (hput x2 49 36 (.inl (.int b))) 49 37 (.inl (.int (rAbs h 49 0 4)))) 49 = B_X5_inside_4 x2 49 := by
          funext s
          unfold B_X5_inside_4
          rw [e9, e16, rl16 r1.2.1, er]
        unfold F_X5_inside
        rw [eB]
      rw [ri, r_inside r1, r2]
    have K3 := put _ 38 (nI (inN (rAbs h 49))) (by decide) (by decide) K2.1
    have K4 := put _ 39 L (by decide) (by decide) K3.1
    refine ⟨_, ?_, K4.1, fun n i hn h49 => ?_, fun g hg i hi => ?_, ?_, ?_, ?_, K4.2⟩
    · unfold B_X5_beginValuesA_22
      simp only [letf]
      rw [if_pos (show (61 : Int32) < nI 62 by decide), e13, ein]
    · rw [hget_put_ne (by omega), hget_put_ne (by omega), hget_put_ne (by omega), hget_put_ne (by omega)]
      exact g1.2.1 n i hn
    · rw [hJ_ne (by omega), hJ_ne (by omega), hJ_ne (by omega), hJ_ne (by omega), g1.2.2 g hg i hi]
      exact g2 g i hg hi
    · rw [hv_ne (by omega), hv_ne (by omega), hv_ne (by omega)]
      exact K1.2
    · rw [hv_ne (by omega), hv_ne (by omega)]
      exact K2.2
    · rw [hv_ne (by omega)]
      exact K3.2
  · obtain ⟨x1, x2⟩ := x
    obtain ⟨e, Tb, g1, g2⟩ := hx
    have e : x1 = nI j := e
    have g1 : RV T h x2 p Tb := g1
    subst e
    refine Or.inr ?_
    have inner : ∃ y, fx (B_X5_beginValuesA_31 49 b L (nI j)) (Sum.inr []) ((0 : Int32), x2) = Sum.inl (nI (j + 1), y) ∧ ∃ Tb, RV T h y p Tb ∧ ∀ g m, g < j + 1 → m < 256 → Tb g m = -1 := by
      refine fx_forI (F := B_X5_beginValuesA_31 49 b L (nI j)) (d := Sum.inr []) (fun k (x : Int32 × zH) => x.1 = nI k ∧ ∃ Tb, RV T h x.2 p Tb ∧ ∀ g m, (g < j ∨ g = j ∧ m < k) → m < 256 → Tb g m = -1) (fun (r : (Int32 × zH) ⊕ zH) => ∃ y, r = Sum.inl (nI (j + 1), y) ∧ ∃ Tb, RV T h y p Tb ∧ ∀ g m, g < j + 1 → m < 256 → Tb g m = -1) 256 (fun x hx => ?_) (fun k x hk hx => ?_) ⟨rfl, Tb, g1, fun g m hg hm => g2 g m (by omega) hm⟩
      · obtain ⟨x1, x2⟩ := x
        obtain ⟨e, Tb, g1, g2⟩ := hx
        have e : x1 = nI 256 := e
        subst e
        refine ⟨Sum.inl (nI (j + 1), x2), ?_, x2, rfl, Tb, g1, fun g m hg hm => g2 g m (by omega) hm⟩
        unfold B_X5_beginValuesA_31
        rw [if_neg (show ¬ nI 256 < (256 : Int32) by decide), nI_s]
      · obtain ⟨x1, x2⟩ := x
        obtain ⟨e, Tb, g1, g2⟩ := hx
        have e : x1 = nI k := e
        have g1 : RV T h x2 p Tb := g1
        subst e
        have p1 := rv_put vl g1 (g := j) (i := k) (by omega) hk (-1)
        refine Or.inr ⟨(nI (k + 1), hput x2 (p + 1 + j) k (.inl (.long (-1)))), ?_, rfl, _, p1, fun g m hg hm => ?_⟩
        · unfold B_X5_beginValuesA_31
          simp only [letf]
          rw [if_pos (by rw [i_lt, e256, nI_t (by omega)]; omega), rv_at vl g1 (by omega), nI_c (by omega), nI_s]
        · show (if g = j ∧ m = k then (-1 : Int64) else Tb g m) = -1
          by_cases y : g = j ∧ m = k
          · rw [if_pos y]
          · rw [if_neg y]
            exact g2 g m (by omega) hm
    obtain ⟨y, y1, y2⟩ := inner
    refine ⟨(nI (j + 1), y), ?_, rfl, y2⟩
    unfold B_X5_beginValuesA_22
    rw [if_neg (by rw [i_lt, e61]; show ¬ (61 : Int) < (nI j).toInt; rw [nI_t (by omega)]; omega)]
    exact y1
  · exact ⟨rfl, fun g i => hJ h (p + 1 + g) i, ⟨cc.1, fun _ _ _ => rfl, fun _ _ _ _ => rfl⟩, fun g m hg => absurd hg (Nat.not_lt_zero _)⟩
end
