theorem pJ_put {h : zH} {q p i : Nat} {v : zV} (h1 : p ≠ q ∨ (i ≠ 9 ∧ i ≠ 17)) (h2 : p ≠ q + 17) (h3 : p ≠ q + 19) (h4 : p ≠ q + 22) (hj : pJ h q) : pJ (hput h p i v) q := by
  have e9 : hi (hput h p i v) q 9 = hi h q 9 := hi_put_ne (by omega)
  have e17 : hi (hput h p i v) q 17 = hi h q 17 := hi_put_ne (by omega)
  have a17 : ∀ j, hi (hput h p i v) (q + 17) j = hi h (q + 17) j := fun j => hi_put_ne (Or.inl (by omega))
  have a19 : ∀ j, hi (hput h p i v) (q + 19) j = hi h (q + 19) j := fun j => hi_put_ne (Or.inl (by omega))
  have a22 : ∀ j, hi (hput h p i v) (q + 22) j = hi h (q + 22) j := fun j => hi_put_ne (Or.inl (by omega))
  intro t ht
  rw [e17] at ht
  rw [e9, a17, a19, a22]
  refine ⟨(hj t ht).1, (hj t ht).2.1, fun u hu => ?_⟩
  rw [a19]
  exact (hj t ht).2.2 u hu
/-- a slot that Φ names is written, none of pJ's -/
theorem p_put {P P' : pP} {T : List Nat} {h : zH} {p0 i0 τ0 : Nat} {v : zV} (ht : T[p0]? = some τ0) (hx : pEx 49 p0 τ0 i0) (hno : ¬ pOwn 49 p0 τ0 i0) (hc : hi (hput h p0 i0 v) 29 1 = P'.1) (hd : hi (hput h p0 i0 v) 49 7 = P'.2.1) (he : ∀ s : Nat, s < 8 → hi (hput h p0 i0 v) 50 s = 2 → 0 ≤ hi (hput h p0 i0 v) 63 s) (hr : ∀ μ : Int, P'.2.2.1 = some μ → μ ≤ hi (hput h p0 i0 v) 49 28 ∧ hi (hput h p0 i0 v) 49 28 ≤ P'.2.1) (hv : P'.2.2.2 = true → pRef T (hput h p0 i0 v) 49 35 41) (k1 : pNul T (hput h p0 i0 v) 49 26 6) (k2 : pNul T (hput h p0 i0 v) 49 27 6) (k3 : pNul T (hput h p0 i0 v) 49 35 41) (hp : zPhi P T h) : zPhi P' T (hput h p0 i0 v) := by
  obtain ⟨lay, hj⟩ := hp.2.1 49 5 hp.1.2.2.1 (Or.inl rfl)
  have t31 : T[66]? = some 31 := (lay.1 (16, 17, 31) (by decide +kernel)).2
  have t33 : T[68]? = some 33 := (lay.1 (19, 19, 33) (by decide +kernel)).2
  have t36 : T[71]? = some 36 := (lay.1 (22, 22, 36) (by decide +kernel)).2
  have t5 := hp.1.2.2.1
  refine p_keepG (q := 49) (tExt_rf T) (fun _ _ h _ => h) (fun _ h => Or.inl h) (fun p σ i h1 h2 h3 => ?_) ?_ hc hd he hr hv k1 k2 k3 hp
  · refine hget_put_ne ?_
    by_cases e : p = p0
    · refine Or.inr (fun e2 => ?_)
      subst e
      subst e2
      rw [ht] at h1
      cases h1
      exact h3 hx
    · exact Or.inl e
  · refine pJ_put ?_ ?_ ?_ ?_ hj
    · by_cases e : p0 = 49
      · subst e
        rw [t5] at ht
        cases ht
        refine Or.inr ⟨fun e => hno (Or.inl ⟨rfl, Or.inl rfl, Or.inl e⟩), fun e => hno (Or.inl ⟨rfl, Or.inl rfl, Or.inr e⟩)⟩
      · exact Or.inl e
    · intro e
      have e : p0 = 66 := e
      subst e
      rw [t31] at ht
      cases ht
      exact hno (Or.inr (Or.inl ⟨rfl, rfl⟩))
    · intro e
      have e : p0 = 68 := e
      subst e
      rw [t33] at ht
      cases ht
      exact hno (Or.inr (Or.inr (Or.inl ⟨rfl, rfl⟩)))
    · intro e
      have e : p0 = 71 := e
      subst e
      rw [t36] at ht
      cases ht
      exact hno (Or.inr (Or.inr (Or.inr ⟨rfl, rfl⟩)))
theorem pRef_ne {T : List Nat} {h : zH} {q i p j τ : Nat} {v : zV} (hne : q ≠ p ∨ i ≠ j) (hr : pRef T h q i τ) : pRef T (hput h p j v) q i τ := pRef_mono (tExt_rf T) (hget_put_ne hne) hr
theorem pNul_ne {T : List Nat} {h : zH} {q i p j τ : Nat} {v : zV} (hne : q ≠ p ∨ i ≠ j) (hr : pNul T h q i τ) : pNul T (hput h p j v) q i τ := pNul_mono (tExt_rf T) (hget_put_ne hne) hr
theorem pOwn_not {q p σ i : Nat} (h1 : σ ≠ 31) (h2 : σ ≠ 33) (h3 : σ ≠ 36) (h4 : (σ ≠ 5 ∧ σ ≠ 6) ∨ (i ≠ 9 ∧ i ≠ 17)) : ¬ pOwn q p σ i := fun hw => by
  rcases hw with ⟨x1, x2, x3⟩ | ⟨x1, x2⟩ | ⟨x1, x2⟩ | ⟨x1, x2⟩ <;> omega
/-- the class's tape gets x letters -/
theorem p_put29 {P : pP} {T : List Nat} {h : zH} {x : Int32} (hok : hOK zty T h) (hp : zPhi P T h) : zPhi (x.toInt, P.2) T (hput h 29 1 (.inl (.int x))) := by
  obtain ⟨o, -, b, c, d, e, g, k1, k2, k3⟩ := id hp
  obtain ⟨w, hw, -⟩ := hOK_get (i := 1) hok o.2.1 (by decide)
  refine p_put o.2.1 (Or.inr (Or.inl ⟨rfl, rfl⟩)) (pOwn_not (by decide) (by decide) (by decide) (by decide)) (hi_put hw) ?_ (fun s hs h2 => ?_) (fun μ hb => ?_) (fun hb => pRef_ne (Or.inl (by decide)) (g hb)) (pNul_ne (Or.inl (by decide)) k1) (pNul_ne (Or.inl (by decide)) k2) (pNul_ne (Or.inl (by decide)) k3) hp
  · rw [hi_put_ne (Or.inl (by decide))]
    exact c
  · rw [hi_put_ne (Or.inl (by decide))] at h2
    rw [hi_put_ne (Or.inl (by decide))]
    exact d s hs h2
  · rw [hi_put_ne (Or.inl (by decide))]
    exact e μ hb
/-- the reference's tape gets x letters -/
theorem p_put7 {n m : Int} {r : Option Int} {v : Bool} {T : List Nat} {h : zH} {x : Int32} (hok : hOK zty T h) (hp : zPhi (n, m, r, v) T h) : zPhi (n, x.toInt, none, v) T (hput h 49 7 (.inl (.int x))) := by
  obtain ⟨o, -, b, c, d, e, g, k1, k2, k3⟩ := id hp
  obtain ⟨w, hw, -⟩ := hOK_get (i := 7) hok o.2.2.1 (by decide)
  refine p_put o.2.2.1 (Or.inr (Or.inr (Or.inl ⟨rfl, Or.inl rfl⟩))) (pOwn_not (by decide) (by decide) (by decide) (by decide)) ?_ (hi_put hw) (fun s hs h2 => ?_) (fun _ hb => by cases hb) (fun hb => pRef_ne (Or.inr (by decide)) (g hb)) (pNul_ne (Or.inr (by decide)) k1) (pNul_ne (Or.inr (by decide)) k2) (pNul_ne (Or.inr (by decide)) k3) hp
  · rw [hi_put_ne (Or.inl (by decide))]
    exact b
  · rw [hi_put_ne (Or.inl (by decide))] at h2
    rw [hi_put_ne (Or.inl (by decide))]
    exact d s hs h2
/-- a place on the reference's tape -/
theorem p_put28 {n m : Int} {r r' : Option Int} {v : Bool} {T : List Nat} {h : zH} {x : Int32} (hok : hOK zty T h) (hx : ∀ μ : Int, r' = some μ → μ ≤ x.toInt ∧ x.toInt ≤ m) (hp : zPhi (n, m, r, v) T h) : zPhi (n, m, r', v) T (hput h 49 28 (.inl (.int x))) := by
  obtain ⟨o, -, b, c, d, e, g, k1, k2, k3⟩ := id hp
  obtain ⟨w, hw, -⟩ := hOK_get (i := 28) hok o.2.2.1 (by decide)
  refine p_put o.2.2.1 (Or.inr (Or.inr (Or.inl ⟨rfl, Or.inr (Or.inl rfl)⟩))) (pOwn_not (by decide) (by decide) (by decide) (by decide)) ?_ ?_ (fun s hs h2 => ?_) (fun μ hb => ?_) (fun hb => pRef_ne (Or.inr (by decide)) (g hb)) (pNul_ne (Or.inr (by decide)) k1) (pNul_ne (Or.inr (by decide)) k2) (pNul_ne (Or.inr (by decide)) k3) hp
  · rw [hi_put_ne (Or.inl (by decide))]
    exact b
  · rw [hi_put_ne (Or.inr (by decide))]
    exact c
  · rw [hi_put_ne (Or.inl (by decide))] at h2
    rw [hi_put_ne (Or.inl (by decide))]
    exact d s hs h2
  · rw [hi_put hw]
    exact hx μ hb
/-- a shelf of the reference -/
theorem p_put50 {P : pP} {T : List Nat} {h : zH} {s : Nat} {x : Int32} (hok : hOK zty T h) (hs8 : s < 8) (hx : x.toInt = 2 → 0 ≤ hi h 63 s) (hp : zPhi P T h) : zPhi P T (hput h 50 s (.inl (.int x))) := by
  obtain ⟨b1, b2⟩ := p_arr hp
  obtain ⟨o, -, b, c, d, f, g, k1, k2, k3⟩ := id hp
  obtain ⟨w, hw, -⟩ := hOK_get (i := s) hok b1 (by show s < 8; omega)
  refine p_put b1 (Or.inr (Or.inr (Or.inr (Or.inl rfl)))) (pOwn_not (by decide) (by decide) (by decide) (Or.inl (by decide))) ?_ ?_ (fun t ht h2 => ?_) (fun μ hb => ?_) (fun hb => pRef_ne (Or.inl (by decide)) (g hb)) (pNul_ne (Or.inl (by decide)) k1) (pNul_ne (Or.inl (by decide)) k2) (pNul_ne (Or.inl (by decide)) k3) hp
  · rw [hi_put_ne (Or.inl (by decide))]
    exact b
  · rw [hi_put_ne (Or.inl (by decide))]
    exact c
  · rw [hi_put_ne (Or.inl (by decide))]
    by_cases e2 : t = s
    · subst e2
      rw [hi_put hw] at h2
      exact hx h2
    · rw [hi_put_ne (Or.inr e2)] at h2
      exact d t ht h2
  · rw [hi_put_ne (Or.inl (by decide))]
    exact f μ hb
/-- what a shelf shows -/
theorem p_put63 {P : pP} {T : List Nat} {h : zH} {s : Nat} {x : Int32} (hok : hOK zty T h) (hs8 : s < 8) (hx : hi h 50 s = 2 → 0 ≤ x.toInt) (hp : zPhi P T h) : zPhi P T (hput h 63 s (.inl (.int x))) := by
  obtain ⟨b1, b2⟩ := p_arr hp
  obtain ⟨o, -, b, c, d, f, g, k1, k2, k3⟩ := id hp
  obtain ⟨w, hw, -⟩ := hOK_get (i := s) hok b2 (by show s < 8; omega)
  refine p_put b2 (Or.inr (Or.inr (Or.inr (Or.inr rfl)))) (pOwn_not (by decide) (by decide) (by decide) (Or.inl (by decide))) ?_ ?_ (fun t ht h2 => ?_) (fun μ hb => ?_) (fun hb => pRef_ne (Or.inl (by decide)) (g hb)) (pNul_ne (Or.inl (by decide)) k1) (pNul_ne (Or.inl (by decide)) k2) (pNul_ne (Or.inl (by decide)) k3) hp
  · rw [hi_put_ne (Or.inl (by decide))]
    exact b
  · rw [hi_put_ne (Or.inl (by decide))]
    exact c
  · rw [hi_put_ne (Or.inl (by decide))] at h2
    by_cases e2 : t = s
    · subst e2
      rw [hi_put hw]
      exact hx h2
    · rw [hi_put_ne (Or.inr e2)]
      exact d t ht h2
  · rw [hi_put_ne (Or.inl (by decide))]
    exact f μ hb
/-- one of the reference's other references: kept, tried, values -/
theorem p_putR {n m : Int} {r : Option Int} {v v' : Bool} {T : List Nat} {h : zH} {i w : Nat} (hok : hOK zty T h) (hi0 : (i = 26 ∧ T[w]? = some 6 ∧ v' = v) ∨ (i = 27 ∧ T[w]? = some 6 ∧ v' = v) ∨ (i = 35 ∧ T[w]? = some 41)) (hp : zPhi (n, m, r, v) T h) : zPhi (n, m, r, v') T (hput h 49 i (.inl (.ref w))) := by
  obtain ⟨o, -, b, c, d, e, g, k1, k2, k3⟩ := id hp
  obtain ⟨u, hu, -⟩ := hOK_get (i := i) hok o.2.2.1 (by show i < 41; omega)
  have key : ∀ j τ, (j ≠ i → pNul T h 49 j τ) → (j = i → T[w]? = some τ) → pNul T (hput h 49 i (.inl (.ref w))) 49 j τ := fun j τ h1 h2 => by
    by_cases e : j = i
    · subst e
      exact Or.inr ⟨w, hget_put hu, h2 rfl⟩
    · exact pNul_ne (Or.inr e) (h1 e)
  refine p_put o.2.2.1 (Or.inr (Or.inr (Or.inl ⟨rfl, by omega⟩))) (pOwn_not (by decide) (by decide) (by decide) (Or.inr (by omega))) ?_ ?_ (fun s hs h2 => ?_) (fun μ hb => ?_) (fun hb => ?_) (key 26 6 (fun _ => k1) (fun e => ?_)) (key 27 6 (fun _ => k2) (fun e => ?_)) (key 35 41 (fun _ => k3) (fun e => ?_)) hp
  · rw [hi_put_ne (Or.inl (by decide))]
    exact b
  · rw [hi_put_ne (Or.inr (by omega))]
    exact c
  · rw [hi_put_ne (Or.inl (by decide))] at h2
    rw [hi_put_ne (Or.inl (by decide))]
    exact d s hs h2
  · rw [hi_put_ne (Or.inr (by omega))]
    exact e μ hb
  · by_cases e2 : i = 35
    · subst e2
      refine ⟨w, hget_put hu, ?_⟩
      rcases hi0 with ⟨x, -⟩ | ⟨x, -⟩ | ⟨-, x⟩
      · omega
      · omega
      · exact x
    · have hv : v' = v := by
        rcases hi0 with ⟨-, -, x⟩ | ⟨-, -, x⟩ | ⟨x, -⟩
        · exact x
        · exact x
        · exact absurd x e2
      exact pRef_ne (Or.inr (by omega)) (g (by rw [← hv]; exact hb))
  · rcases hi0 with ⟨-, x, -⟩ | ⟨y, -⟩ | ⟨y, -⟩
    · exact x
    · omega
    · omega
  · rcases hi0 with ⟨y, -⟩ | ⟨-, x, -⟩ | ⟨y, -⟩
    · omega
    · exact x
    · omega
  · rcases hi0 with ⟨y, -⟩ | ⟨y, -⟩ | ⟨-, x⟩
    · omega
    · omega
    · exact x
