theorem t_hand {Φ : List Nat → zH → Prop} {scr : List zV} {j D0 : Nat} {E : zE} {e : tE} (hE : zprog j = some E) (hD : zhts j = D0 + 1) (hs : Nat.ble (tsum e.1) (zEm E) = true)
    (hk : ∀ (d : Nat) (T : List Nat) (h : zH) (vs : List zV) (post : Option zV → zH → Bool) (G : zS → Prop), D0 ≤ d → hOK zty T h → Φ T h → h.length + zEc E ≤ 1000000 → okAs T e.1 vs →
      (∀ (r : Option zV) (T' : List Nat) (h' : zH), tExt T T' → hOK zty T' h' → Φ T' h' → h'.length ≤ h.length + zEc E → tRes T' vs e r → post r h' = true) →
      tLow Φ (zD zprog scr d) D0 →
      zWalk zprog E scr (zEc E) (zEs E) (zD zprog scr d) post G → G (0, zarg 0 vs, [], h, 0, 0)) : tM zty Φ zprog scr zhts zsm j e := by
  intro IH E' hE' d hd T h vs post hok hΦ hlen hvs hp
  rw [hE] at hE'
  cases hE'
  obtain ⟨d, rfl⟩ : ∃ d', d = d' + 1 := ⟨d - 1, by omega⟩
  exact zD_intro hE (by rw [okAs_sum hvs]; exact hs) (fun G HW => hk d T h vs post G (by omega) hok hΦ hlen hvs hp (fun j' E' e' h1 h2 h3 => IH j' e' h2 (by omega) E' h1 d (by omega)) HW)
theorem okAs_cons {T : List Nat} {a : tA} {l : List tA} {vs : List zV} (h : okAs T (a :: l) vs) : ∃ v vs', vs = v :: vs' ∧ okA T a v ∧ okAs T l vs' := by
  cases vs with
  | nil => exact h.elim
  | cons v vs' => exact ⟨v, vs', rfl, h.1, h.2⟩
theorem okAs_nil {T : List Nat} {vs : List zV} (h : okAs T [] vs) : vs = [] := by
  cases vs with
  | nil => rfl
  | cons v vs' => exact h.elim
theorem zret_i {ret : Option FieldType} {v : zV} {h : zH} {post : Option zV → zH → Bool} (hr : ret = some .int) (hv : zisI v = true) (hp : post (some v) h = true) : zret ret .ireturn [v] h post = true := by
  rw [hr]
  exact t_and2 hv hp
theorem zret_z {ret : Option FieldType} {v : zV} {h : zH} {post : Option zV → zH → Bool} (hr : ret = some .boolean) (hv : zfit 3 v = true) (hp : post (some v) h = true) : zret ret .ireturn [v] h post = true := by
  rw [hr]
  exact t_and2 hv hp
theorem c_isWithin {scr : List zV} {d : Nat} {x y z : Int32} {h : zH} {post : Option zV → zH → Bool} (ret1 : y.toInt ≤ x.toInt → x.toInt ≤ z.toInt → post (some (.inl (.int 1))) h = true) (ret0 : ¬ (y.toInt ≤ x.toInt ∧ x.toInt ≤ z.toInt) → post (some (.inl (.int 0))) h = true) : zD zprog scr (d + 1) 13 [.inl (.int x), .inl (.int y), .inl (.int z)] h post = true := by
  refine zD_intro (E := ze_X4_isWithin) rfl rfl (fun G HW => ?_)
  refine zrn_ok HW 3 (zbr_ex (cd := .lt) (x := x) (y := y) (fun hc => zB_iff.mpr ?_) (fun hc => zB_iff.mpr ?_))
  · have h1 := Int32.lt_iff_toInt_lt.mp hc
    refine zrn_ok HW 2 ?_
    exact zret_z rfl rfl (ret0 (by omega))
  · have h1 := Int32.le_iff_toInt_le.mp (Int32.not_lt.mp hc)
    refine zrn_ok HW 3 (zbr_ex (cd := .gt) (x := x) (y := z) (fun hc2 => zB_iff.mpr ?_) (fun hc2 => zB_iff.mpr ?_))
    · have h2 := Int32.lt_iff_toInt_lt.mp hc2
      refine zrn_ok HW 2 ?_
      exact zret_z rfl rfl (ret0 (by omega))
    · have h2 := Int32.le_iff_toInt_le.mp (Int32.not_lt.mp hc2)
      refine zrn_ok HW 3 ?_
      exact zret_z rfl rfl (ret1 h1 h2)
theorem tq_X4_isWithin_0 {scr : List zV} {Φ : List Nat → zH → Prop} : tM zty Φ zprog scr zhts zsm 13 te_X4_isWithin_0 := by
  intro IH E' hE' d hd T h vs post hok hΦ hlen hvs hp
  cases hE'
  obtain ⟨d, rfl⟩ : ∃ d', d = d' + 1 := ⟨d - 1, by have h1 : (1 : Nat) ≤ d := hd; omega⟩
  obtain ⟨vx, vs, rfl, hx, hvs⟩ := okAs_cons hvs
  obtain ⟨vy, vs, rfl, hy, hvs⟩ := okAs_cons hvs
  obtain ⟨vz, vs, rfl, hz, hvs⟩ := okAs_cons hvs
  obtain rfl := okAs_nil hvs
  obtain ⟨x, rfl, -⟩ := tint_sp rfl hx
  obtain ⟨y, rfl, -⟩ := tint_sp rfl hy
  obtain ⟨z, rfl, -⟩ := tint_sp rfl hz
  exact c_isWithin (fun h1 h2 => hp _ T h (tExt_rf T) hok hΦ (by omega) ⟨_, rfl, okA_I (by decide) (by decide), fun _ => ⟨_, _, _, rfl, rfl, rfl, h1, h2⟩⟩) (fun _ => hp _ T h (tExt_rf T) hok hΦ (by omega) ⟨_, rfl, okA_I (by decide) (by decide), fun q => absurd rfl q⟩)
theorem zmk_cmp3 (p q : Int) : (p < q ∧ zmk (if q < p then 1 else if q ≤ p then 0 else -1) (if p < q then -1 else if p ≤ q then 0 else 1) = .inl (.int (-1))) ∨ (p = q ∧ zmk (if q < p then 1 else if q ≤ p then 0 else -1) (if p < q then -1 else if p ≤ q then 0 else 1) = .inl (.int 0)) ∨ (q < p ∧ zmk (if q < p then 1 else if q ≤ p then 0 else -1) (if p < q then -1 else if p ≤ q then 0 else 1) = .inl (.int 1)) := by
  by_cases h1 : q < p
  · have n1 : ¬ p < q := by omega
    have n2 : ¬ p ≤ q := by omega
    rw [if_pos h1, if_neg n1, if_neg n2]
    exact Or.inr (Or.inr ⟨h1, rfl⟩)
  · by_cases h2 : p < q
    · have n2 : ¬ q ≤ p := by omega
      rw [if_neg h1, if_neg n2, if_pos h2]
      exact Or.inl ⟨h2, rfl⟩
    · have n2 : q ≤ p := by omega
      have n3 : p ≤ q := by omega
      rw [if_neg h1, if_pos n2, if_neg h2, if_pos n3]
      exact Or.inr (Or.inl ⟨by omega, rfl⟩)
theorem zcmp3 (x y : Int64) : (x.toInt < y.toInt ∧ zcmpL (.inl (.long x)) (.inl (.long y)) = .inl (.int (-1))) ∨ (x.toInt = y.toInt ∧ zcmpL (.inl (.long x)) (.inl (.long y)) = .inl (.int 0)) ∨ (y.toInt < x.toInt ∧ zcmpL (.inl (.long x)) (.inl (.long y)) = .inl (.int 1)) := zmk_cmp3 x.toInt y.toInt
/-- x < y of longs, as lcmp and iflt say it -/
theorem zbr_llt {x y : Int64} {kt kf : Bool} (ht : x.toInt < y.toInt → kt = true) (hf : ¬ x.toInt < y.toInt → kf = true) : zbr (zcond .lt (zcmpL (.inl (.long x)) (.inl (.long y))) (.inl (.int 0))) kt kf = true := by
  rcases zcmp3 x y with ⟨h, e⟩ | ⟨h, e⟩ | ⟨h, e⟩ <;> rw [e]
  · exact ht h
  · exact hf (by omega)
  · exact hf (by omega)
theorem zbr_lgt {x y : Int64} {kt kf : Bool} (ht : y.toInt < x.toInt → kt = true) (hf : ¬ y.toInt < x.toInt → kf = true) : zbr (zcond .gt (zcmpL (.inl (.long x)) (.inl (.long y))) (.inl (.int 0))) kt kf = true := by
  rcases zcmp3 x y with ⟨h, e⟩ | ⟨h, e⟩ | ⟨h, e⟩ <;> rw [e]
  · exact hf (by omega)
  · exact hf (by omega)
  · exact ht h
theorem zisI_lcmp (x y : Int64) : zisI (zcmpL (.inl (.long x)) (.inl (.long y))) = true := by
  rcases zcmp3 x y with ⟨h, e⟩ | ⟨h, e⟩ | ⟨h, e⟩ <;> rw [e] <;> rfl
theorem c_in {scr : List zV} {d : Nat} {x y z : Int64} {h : zH} {post : Option zV → zH → Bool} (ret1 : y.toInt ≤ x.toInt → x.toInt ≤ z.toInt → post (some (.inl (.int 1))) h = true) (ret0 : ¬ (y.toInt ≤ x.toInt ∧ x.toInt ≤ z.toInt) → post (some (.inl (.int 0))) h = true) : zD zprog scr (d + 1) 191 [.inl (.long x), .inl (.long y), .inl (.long z)] h post = true := by
  refine zD_intro (E := ze_X5_in) rfl rfl (fun G HW => ?_)
  refine zrn_ok HW 4 (t_and2 (zisI_lcmp x y) (zbr_llt (x := x) (y := y) (fun hc => zB_iff.mpr ?_) (fun hc => zB_iff.mpr ?_)))
  · refine zrn_ok HW 2 ?_
    exact zret_z rfl rfl (ret0 (by omega))
  · refine zrn_ok HW 4 (t_and2 (zisI_lcmp x z) (zbr_lgt (x := x) (y := z) (fun hc2 => zB_iff.mpr ?_) (fun hc2 => zB_iff.mpr ?_)))
    · refine zrn_ok HW 2 ?_
      exact zret_z rfl rfl (ret0 (by omega))
    · refine zrn_ok HW 3 ?_
      exact zret_z rfl rfl (ret1 (by omega) (by omega))
theorem tq_X5_in_0 {scr : List zV} {Φ : List Nat → zH → Prop} : tM zty Φ zprog scr zhts zsm 191 te_X5_in_0 := by
  intro IH E' hE' d hd T h vs post hok hΦ hlen hvs hp
  cases hE'
  obtain ⟨d, rfl⟩ : ∃ d', d = d' + 1 := ⟨d - 1, by have h1 : (1 : Nat) ≤ d := hd; omega⟩
  obtain ⟨vx, vs, rfl, hx, hvs⟩ := okAs_cons hvs
  obtain ⟨vy, vs, rfl, hy, hvs⟩ := okAs_cons hvs
  obtain ⟨vz, vs, rfl, hz, hvs⟩ := okAs_cons hvs
  obtain rfl := okAs_nil hvs
  obtain ⟨x, rfl, -⟩ := tlong_sp rfl hx
  obtain ⟨y, rfl, -⟩ := tlong_sp rfl hy
  obtain ⟨z, rfl, -⟩ := tlong_sp rfl hz
  exact c_in (fun h1 h2 => hp _ T h (tExt_rf T) hok hΦ (by omega) ⟨_, rfl, okA_I (by decide) (by decide), fun _ => ⟨_, _, _, rfl, rfl, rfl, h1, h2⟩⟩) (fun _ => hp _ T h (tExt_rf T) hok hΦ (by omega) ⟨_, rfl, okA_I (by decide) (by decide), fun q => absurd rfl q⟩)
