/-- the reference's table of values -/
def RV (T : List Nat) (h0 h : zH) (p : Nat) (Tb : Nat → Nat → Int64) : Prop := hOK kty T h ∧ (∀ n i, ¬ (p < n ∧ n ≤ p + 62) → hget h n i = hget h0 n i) ∧ ∀ g, g < 62 → ∀ i, i < 256 → hJ h (p + 1 + g) i = Tb g i
def VL (T : List Nat) (h0 : zH) (p : Nat) : Prop := hr h0 49 35 = p ∧ 78 ≤ p ∧ ∀ g, g < 62 → hr h0 p g = p + 1 + g ∧ T[p + 1 + g]? = some 42
def VP (h0 : zH) (b L : Nat) : Prop := hv h0 49 36 = nI b ∧ hv h0 49 37 = rAbs h0 49 0 4 ∧ hv h0 49 38 = nI (inN (rAbs h0 49)) ∧ hv h0 49 39 = nI L
def prL (S : ST) (L : Nat) : Int := if 60 < L then (S 0 2).toInt else 0
def rvl (S : ST) (b L g m : Nat) : Int := VV S b (prL S L) (L - g) (S 0 4 + nI g) (inN S - g) m
def MP (S : ST) (b L : Nat) (Tb : Nat → Nat → Int64) : Prop := ∀ g m, g < 62 → m < 256 → Tb g m = -1 ∨ Tb g m = lZ (rvl S b L g m)
def upT (Tb : Nat → Nat → Int64) (g i : Nat) (x : Int64) : Nat → Nat → Int64 := fun g' i' => if g' = g ∧ i' = i then x else Tb g' i'
theorem prL_b {S : ST} (w : WF S) (L : Nat) : 0 ≤ prL S L ∧ prL S L ≤ 99 := by
  have := w.1.2.2.1
  unfold prL
  by_cases e : 60 < L
  · rw [if_pos e]
    omega
  · rw [if_neg e]
    omega
theorem MP_put {S : ST} {b L : Nat} {Tb : Nat → Nat → Int64} (h : MP S b L Tb) (g m : Nat) : MP S b L (upT Tb g m (lZ (rvl S b L g m))) := fun g' m' hg hm => by
  unfold upT
  by_cases e : g' = g ∧ m' = m
  · rw [if_pos e, e.1, e.2]
    exact Or.inr rfl
  · rw [if_neg e]
    exact h g' m' hg hm
theorem F_bits {m : Nat} (hm : m < 256) : F_X5_bits (nI m) = nI (pcount 8 m) := by
  have e8 : (8 : Int32).toInt = 8 := rfl
  unfold F_X5_bits
  rw [pc8_sum]
  refine fx_for (F := B_X5_bits_4 (nI m)) (d := 0) (fun j => (nI (sumN (nb m) j), nI j)) (nI (sumN (nb m) 8)) 8 ?_ (fun j hj => ?_)
  · unfold B_X5_bits_4
    exact if_neg (show ¬ nI 8 < (8 : Int32) by decide)
  · have hle := sumN_le (f := nb m) (b := 1) (m := j) (fun i _ => by have := nb_lt m i; omega)
    have := nb_lt m j
    unfold B_X5_bits_4
    dsimp only
    rw [if_pos (by rw [i_lt, e8, nI_t (by omega)]; omega), s_shr m hm j hj, nI_ad2 (by omega), nI_s]
    rfl
section
variable {T : List Nat} {h0 h : zH} {p : Nat} {Tb : Nat → Nat → Int64}
theorem rv_put (vl : VL T h0 p) (c : RV T h0 h p Tb) {g i : Nat} (hg : g < 62) (hi : i < 256) (x : Int64) : RV T h0 (hput h (p + 1 + g) i (.inl (.long x))) p (upT Tb g i x) := by
  have ht := (vl.2.2 g hg).2
  have hgt := k_lng c.1 ht (i := i) hi rfl
  refine ⟨k_putL c.1 ht rfl x, fun n u hn => ?_, fun g' hg' i' hi' => ?_⟩
  · rw [hget_put_ne (Or.inl (by omega))]
    exact c.2.1 n u hn
  · unfold upT
    by_cases e : g' = g ∧ i' = i
    · rw [if_pos e, e.1, e.2]
      exact hJ_put hgt
    · rw [if_neg e, hJ_ne (by omega)]
      exact c.2.2 g' hg' i' hi'
theorem rv_rc (cc : RC T h0 49) (vl : VL T h0 p) (c : RV T h0 h p Tb) : RC T h 49 ∧ rAbs h 49 = rAbs h0 49 := RC_same cc c.1 (tExt_rf T) (fun d i hd => c.2.1 (49 + d) i (by have := vl.2.1; omega))
theorem rv_49 (vl : VL T h0 p) (c : RV T h0 h p Tb) (i : Nat) : hv h 49 i = hv h0 49 i := hv_eq (c.2.1 49 i (by have := vl.2.1; omega))
theorem rv_at (vl : VL T h0 p) (c : RV T h0 h p Tb) {g : Nat} (hg : g < 62) : hr h (hr h 49 35) (nI g).toNatClampNeg = p + 1 + g := by
  have e1 : hr h 49 35 = p := (hr_eq (c.2.1 49 35 (by have := vl.2.1; omega))).trans vl.1
  rw [e1, nI_c (by omega), hr_eq (c.2.1 p g (by omega))]
  exact (vl.2.2 g hg).1
theorem can_nb {S : ST} {gone : Int32} {left m t : Nat} (ht : t < nT S) : nb (canN S gone left m) t = if nb m t = 1 ∧ freeB S gone (nI left) t = true then 1 else 0 := by
  unfold canN rdN
  rw [nb_and, nb_set]
  by_cases e : freeB S gone (nI left) t = true
  · rw [if_pos (⟨ht, e⟩ : t < nT S ∧ freeB S gone (nI left) t = true)]
    by_cases f : nb m t = 1
    · rw [if_pos ⟨f, rfl⟩, if_pos ⟨f, e⟩]
    · rw [if_neg (fun y => f y.1), if_neg (fun y => f y.1)]
  · rw [if_neg (show ¬ (t < nT S ∧ freeB S gone (nI left) t = true) from fun y => e y.2), if_neg (fun y => absurd y.2 (by decide)), if_neg (fun y => e y.2)]
theorem can_sum {S : ST} (w : WF S) {gone : Int32} {left m : Nat} (hm : inT S m) : sumN (nb (canN S gone left m)) (nT S) = pcount 8 (canN S gone left m) := by
  rw [pc8_sum]
  refine (sumN_zero (fun i h1 h2 => ?_) (nT_8 w)).symm
  unfold canN
  rw [nb_and, hm.2 i h1 h2, if_neg (fun y => absurd y.1 (by decide))]
/-- the loop over the things -/
theorem r_foundL (cc : RC T h0 49) (vl : VL T h0 p) {b L : Nat} (vp : VP h0 b L) (hb : b < nB (rAbs h0 49)) (hL : L ≤ 61) {g m : Nat} (hg : g < L) (hi : inT (rAbs h0 49) m) (hin : g ≤ inN (rAbs h0 49)) {ff : zH → Nat → Int32 → Int32 → Int64 × zH}
    (IH : ∀ (m' : Nat) (h : zH) (Tb : Nat → Nat → Int64), inT (rAbs h0 49) m' → pcount 8 m' + 1 ≤ inN (rAbs h0 49) - g → RV T h0 h p Tb → MP (rAbs h0 49) b L Tb → ∃ h' Tb', ff h 49 (nI m') (nI (g + 1)) = (lZ (rvl (rAbs h0 49) b L (g + 1) m'), h') ∧ RV T h0 h' p Tb' ∧ MP (rAbs h0 49) b L Tb')
    (hp : pcount 8 m ≤ inN (rAbs h0 49) - g) (c : RV T h0 h p Tb) (mp : MP (rAbs h0 49) b L Tb) :
    ∃ h' Tb', fx (B_X5_foundT_45 ff 49 (nI m) (nI g) (nI (inN (rAbs h0 49) - g)) (nI (inN (rAbs h0 49) - g - pcount 8 m))) (0, []) (nI (inN (rAbs h0 49) - g - pcount 8 m), lZ (((inN (rAbs h0 49) - g - pcount 8 m : Nat) : Int) * rvl (rAbs h0 49) b L (g + 1) m), (0 : Int32), h) = (lZ (rvl (rAbs h0 49) b L g m), h') ∧ RV T h0 h' p Tb' ∧ MP (rAbs h0 49) b L Tb' := by
  have w := cc.2.2.1
  have n8 := nT_8 w
  have h60 := inN_60 w (rAbs_10 h0 49)
  have pb := prL_b w L
  have e60 : (60 : Int32).toInt = 60 := rfl
  have fb : ∀ m', 0 ≤ rvl (rAbs h0 49) b L (g + 1) m' ∧ rvl (rAbs h0 49) b L (g + 1) m' ≤ 500000000 := fun m' => by
    have := VV_b w b (pr := prL (rAbs h0 49) L) pb.1 (L - (g + 1)) (rAbs h0 49 0 4 + nI (g + 1)) (inN (rAbs h0 49) - (g + 1)) m'
    unfold rvl
    omega
  have hval : rvl (rAbs h0 49) b L g m = vw (rAbs h0 49) b (prL (rAbs h0 49) L) (fun x => rvl (rAbs h0 49) b L (g + 1) x) (rAbs h0 49 0 4 + nI g) (inN (rAbs h0 49) - g) m := by
    have eg : rAbs h0 49 0 4 + nI g + 1 = rAbs h0 49 0 4 + nI (g + 1) := by rw [Int32.add_assoc, nI_s]
    unfold rvl
    rw [show L - g = (L - (g + 1)) + 1 by omega, show inN (rAbs h0 49) - (g + 1) = inN (rAbs h0 49) - g - 1 by omega, ← eg]
    rfl
  have hs := vsum_b w b (f := fun x => rvl (rAbs h0 49) b L (g + 1) x) (B := 500000000) (by omega) (gone := rAbs h0 49 0 4 + nI g) (left := inN (rAbs h0 49) - g) (m := m) (fun _ => fb m) (fun t _ _ => fb _)
  have cl := can_lt (S := rAbs h0 49) (gone := rAbs h0 49 0 4 + nI g) (left := inN (rAbs h0 49) - g) hi.1
  have p8 : ∀ n, n ≤ 8 → sumN (nb (canN (rAbs h0 49) (rAbs h0 49 0 4 + nI g) (inN (rAbs h0 49) - g) m)) n ≤ 8 := fun n hn => by
    have := sumN_le (f := nb (canN (rAbs h0 49) (rAbs h0 49 0 4 + nI g) (inN (rAbs h0 49) - g) m)) (b := 1) (m := n) (fun i _ => by have := nb_lt (canN (rAbs h0 49) (rAbs h0 49 0 4 + nI g) (inN (rAbs h0 49) - g) m) i; omega)
    omega
  have hvm : vmany (rAbs h0 49) (rAbs h0 49 0 4 + nI g) (inN (rAbs h0 49) - g) m = inN (rAbs h0 49) - g - pcount 8 m + sumN (nb (canN (rAbs h0 49) (rAbs h0 49 0 4 + nI g) (inN (rAbs h0 49) - g) m)) (nT (rAbs h0 49)) := by
    unfold vmany
    rw [can_sum w hi]
  rw [hval]
  generalize hcn : canN (rAbs h0 49) (rAbs h0 49 0 4 + nI g) (inN (rAbs h0 49) - g) m = cn at *
  let ps : Nat → Int := fun j => ((inN (rAbs h0 49) - g - pcount 8 m : Nat) : Int) * rvl (rAbs h0 49) b L (g + 1) m + sumZ (fun t => if nb cn t = 0 then 0 else 1000 * lkN (rAbs h0 49) b (wonN (rAbs h0 49) t m) + rvl (rAbs h0 49) b L (g + 1) (sDiff m (wonN (rAbs h0 49) t m))) j
  have hps : vsum (rAbs h0 49) b (fun x => rvl (rAbs h0 49) b L (g + 1) x) (rAbs h0 49 0 4 + nI g) (inN (rAbs h0 49) - g) m = ps (nT (rAbs h0 49)) := by
    unfold vsum
    rw [hcn]
  refine fx_forI (F := B_X5_foundT_45 ff 49 (nI m) (nI g) (nI (inN (rAbs h0 49) - g)) (nI (inN (rAbs h0 49) - g - pcount 8 m))) (d := (0, []))
    (fun j (x : Int32 × Int64 × Int32 × zH) => x.1 = nI (inN (rAbs h0 49) - g - pcount 8 m + sumN (nb cn) j) ∧ x.2.1 = lZ (ps j) ∧ x.2.2.1 = nI j ∧ ∃ Tb', RV T h0 x.2.2.2 p Tb' ∧ MP (rAbs h0 49) b L Tb')
    (fun (r : Int64 × zH) => ∃ h' Tb', r = (lZ (vw (rAbs h0 49) b (prL (rAbs h0 49) L) (fun x => rvl (rAbs h0 49) b L (g + 1) x) (rAbs h0 49 0 4 + nI g) (inN (rAbs h0 49) - g) m), h') ∧ RV T h0 h' p Tb' ∧ MP (rAbs h0 49) b L Tb') (nT (rAbs h0 49)) (fun x hx => ?_) (fun j x hj hx => ?_) ?_
  · obtain ⟨x1, x2, x3, x4⟩ := x
    obtain ⟨a1, a2, a3, Tb', a4, a5⟩ := hx
    have a1 : x1 = nI (inN (rAbs h0 49) - g - pcount 8 m + sumN (nb cn) (nT (rAbs h0 49))) := a1
    have a2 : x2 = lZ (ps (nT (rAbs h0 49))) := a2
    have a3 : x3 = nI (nT (rAbs h0 49)) := a3
    have a4 : RV T h0 x4 p Tb' := a4
    subst a1
    subst a2
    subst a3
    obtain ⟨r1, r2⟩ := rv_rc cc vl a4
    have h17 : hv x4 49 17 = rAbs h0 49 0 7 := by
      rw [← r2]
      rfl
    have h11 : hv x4 49 11 = rAbs h0 49 0 2 := by
      rw [← r2]
      rfl
    have h39 : hv x4 49 39 = nI L := (rv_49 vl a4 39).trans vp.2.2.2
    have q8 := p8 (nT (rAbs h0 49)) n8
    rw [← hps, ← hvm]
    have vm68 : vmany (rAbs h0 49) (rAbs h0 49 0 4 + nI g) (inN (rAbs h0 49) - g) m ≤ 68 := by omega
    generalize hvs : vsum (rAbs h0 49) b (fun x => rvl (rAbs h0 49) b L (g + 1) x) (rAbs h0 49 0 4 + nI g) (inN (rAbs h0 49) - g) m = vs at *
    have vwe : vw (rAbs h0 49) b (prL (rAbs h0 49) L) (fun x => rvl (rAbs h0 49) b L (g + 1) x) (rAbs h0 49 0 4 + nI g) (inN (rAbs h0 49) - g) m = if vmany (rAbs h0 49) (rAbs h0 49 0 4 + nI g) (inN (rAbs h0 49) - g) m = 0 then 0 else if 0 < vs / (vmany (rAbs h0 49) (rAbs h0 49 0 4 + nI g) (inN (rAbs h0 49) - g) m : Int) - 1000 * prL (rAbs h0 49) L then vs / (vmany (rAbs h0 49) (rAbs h0 49 0 4 + nI g) (inN (rAbs h0 49) - g) m : Int) - 1000 * prL (rAbs h0 49) L else 0 := by
      unfold vw
      rw [hvs]
    rw [vwe]
    generalize vmany (rAbs h0 49) (rAbs h0 49 0 4 + nI g) (inN (rAbs h0 49) - g) m = vm at *
    have key : B_X5_foundT_45 ff 49 (nI m) (nI g) (nI (inN (rAbs h0 49) - g)) (nI (inN (rAbs h0 49) - g - pcount 8 m)) (nI vm, lZ vs, nI (nT (rAbs h0 49)), x4) = Sum.inr (lZ (if vm = 0 then 0 else if 0 < vs / (vm : Int) - 1000 * prL (rAbs h0 49) L then vs / (vm : Int) - 1000 * prL (rAbs h0 49) L else 0), x4) := by
      unfold B_X5_foundT_45
      dsimp only
      rw [h17, if_neg (fun y => absurd ((lt_T w (by omega)).mp y) (Nat.lt_irrefl _))]
      by_cases e : vm = 0
      · rw [if_pos e, if_pos ((nI_z (by omega)).mpr e)]
        rfl
      · rw [if_neg e, if_neg (fun y => e ((nI_z (by omega)).mp y)), h39, h11, lZ_n (by omega)]
        have hd : 0 ≤ vs / (vm : Int) := Int.ediv_nonneg hs.1 (by omega)
        have hm2 := Int.mul_le_mul_of_nonneg_left (c := 500000000 + 7992000) (a := (vm : Int)) (b := 68) (by omega) (by omega)
        have hd2 : vs / (vm : Int) ≤ vs := Int.ediv_le_self _ hs.1
        rw [lZ_div hs.1 (by omega) (by omega) (by omega)]
        by_cases g60 : 60 < L
        · have hpr : prL (rAbs h0 49) L = (rAbs h0 49 0 2).toInt := if_pos g60
          have e1000 : (1000 : Int64) = lZ 1000 := rfl
          rw [if_pos (show (60 : Int32) < nI L by rw [i_lt, e60, nI_t (by omega)]; omega), lZ_i, e1000, ← lZ_mul, ← lZ_sub, ← hpr]
          by_cases y : 0 < vs / (vm : Int) - 1000 * prL (rAbs h0 49) L
          · rw [if_pos y, if_pos ((lZ_lt (by omega) (by omega)).mpr y)]
          · rw [if_neg y, if_neg (fun z => y ((lZ_lt (by omega) (by omega)).mp z))]
            rfl
        · have hpr : prL (rAbs h0 49) L = 0 := if_neg g60
          rw [if_neg (show ¬ (60 : Int32) < nI L by rw [i_lt, e60, nI_t (by omega)]; omega), hpr]
          by_cases y : 0 < vs / (vm : Int) - 1000 * 0
          · rw [if_pos y]
            congr 3
            omega
          · rw [if_neg y]
            congr 3
            omega
    exact ⟨_, key, x4, Tb', rfl, a4, a5⟩
  · obtain ⟨x1, x2, x3, x4⟩ := x
    obtain ⟨a1, a2, a3, Tb', a4, a5⟩ := hx
    have a1 : x1 = nI (inN (rAbs h0 49) - g - pcount 8 m + sumN (nb cn) j) := a1
    have a2 : x2 = lZ (ps j) := a2
    have a3 : x3 = nI j := a3
    have a4 : RV T h0 x4 p Tb' := a4
    subst a1
    subst a2
    subst a3
    obtain ⟨r1, r2⟩ := rv_rc cc vl a4
    have h17 : hv x4 49 17 = rAbs h0 49 0 7 := by
      rw [← r2]
      rfl
    have h37 : hv x4 49 37 = rAbs h0 49 0 4 := (rv_49 vl a4 37).trans vp.2.1
    have h36 : hv x4 49 36 = nI b := (rv_49 vl a4 36).trans vp.1
    have q8 := p8 j (by omega)
    have fr := r_free r1 (t := j) (by rw [r2]; exact hj) (rAbs h0 49 0 4 + nI g) (nI (inN (rAbs h0 49) - g))
    rw [r2] at fr
    have hcj := can_nb (S := rAbs h0 49) (gone := rAbs h0 49 0 4 + nI g) (left := inN (rAbs h0 49) - g) (m := m) hj
    rw [hcn] at hcj
    have hp1 : ps (j + 1) = ps j + (if nb cn j = 0 then 0 else 1000 * lkN (rAbs h0 49) b (wonN (rAbs h0 49) j m) + rvl (rAbs h0 49) b L (g + 1) (sDiff m (wonN (rAbs h0 49) j m))) := by
      show _ + (_ + _) = (_ + _) + _
      rw [Int.add_assoc]
    have hsn : sumN (nb cn) (j + 1) = sumN (nb cn) j + nb cn j := rfl
    have bl := nb_lt m j
    refine Or.inr ?_
    have skip : nb cn j = 0 → ∃ s', (Sum.inl (nI (inN (rAbs h0 49) - g - pcount 8 m + sumN (nb cn) j), lZ (ps j), nI (j + 1), x4) : (Int32 × Int64 × Int32 × zH) ⊕ (Int64 × zH)) = Sum.inl s' ∧ s'.1 = nI (inN (rAbs h0 49) - g - pcount 8 m + sumN (nb cn) (j + 1)) ∧ s'.2.1 = lZ (ps (j + 1)) ∧ s'.2.2.1 = nI (j + 1) ∧ ∃ Tb', RV T h0 s'.2.2.2 p Tb' ∧ MP (rAbs h0 49) b L Tb' := fun z => by
      refine ⟨_, rfl, ?_, ?_, rfl, Tb', a4, a5⟩
      · rw [hsn, z]
        rfl
      · rw [hp1, if_pos z, Int.add_zero]
    unfold B_X5_foundT_45
    simp only [letf]
    rw [h17, if_pos ((lt_T w (by omega)).mpr hj), s_shr m hi.1 j (by omega), h37, fr, nI_s]
    by_cases y : nb m j = 0
    · rw [if_pos ((nI_z (by omega)).mpr y)]
      refine skip ?_
      rw [hcj, if_neg (fun z => by omega)]
    · rw [if_neg (fun z => y ((nI_z (by omega)).mp z))]
      by_cases f : freeB (rAbs h0 49) (rAbs h0 49 0 4 + nI g) (nI (inN (rAbs h0 49) - g)) j = true
      · rw [if_pos f, if_neg (by decide)]
        have c1 : nb cn j = 1 := by
          rw [hcj, if_pos ⟨by omega, f⟩]
        have m1 : nb m j = 1 := by omega
        have wl := wonN_lt w hj (m := m)
        have hw := r_wonBy r1 (t := j) (m := m) (by rw [r2]; exact hj) hi.1
        rw [r2] at hw
        have hl := r_lkAll r1 (b := b) (m := wonN (rAbs h0 49) j m) (by rw [r2]; exact hb) wl
        rw [r2] at hl
        have pd := pc_diff (m := m) (k := wonN (rAbs h0 49) j m) (t := j) (by omega) m1 won_self
        obtain ⟨h5, Tb5, q1, q2, q3⟩ := IH (sDiff m (wonN (rAbs h0 49) j m)) x4 Tb' (inT_sub hi) (by omega) a4 a5
        have lb := lkN_b w b (wonN (rAbs h0 49) j m)
        have e1000 : (1000 : Int64) = lZ 1000 := rfl
        rw [hw, h36, hl, s_andnot hi.1 wl, nI_s g, q1, nI_s, lZ_i, iZ_t (by omega) (by omega), e1000, ← lZ_mul, ← lZ_add, ← lZ_add]
        refine ⟨_, rfl, ?_, ?_, rfl, Tb5, q2, q3⟩
        · rw [hsn, c1]
          rfl
        · rw [hp1, if_neg (by omega)]
      · rw [if_neg f, if_pos rfl]
        refine skip ?_
        rw [hcj, if_neg (fun z => f z.2)]
  · refine ⟨rfl, ?_, rfl, Tb, c, mp⟩
    show lZ _ = lZ (_ + 0)
    rw [Int.add_zero]
end
