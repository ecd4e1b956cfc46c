def hi (h : zH) (q i : Nat) : Int := match hget h q i with
  | some (.inl (.int x)) => x.toInt
  | _ => 0
/-- a reference's own arrays: field, how far behind it, type -/
def pOff : List (Nat × Nat × Nat) := [(0, 1, 24), (1, 2, 25), (2, 3, 26), (3, 4, 27), (4, 13, 28), (5, 14, 29), (6, 15, 18), (8, 16, 30), (16, 17, 31), (18, 18, 32), (19, 19, 33), (20, 20, 34), (21, 21, 35), (22, 22, 36), (24, 23, 37), (25, 24, 38), (33, 29, 40)]
def pLay (T : List Nat) (h : zH) (q : Nat) : Prop := (∀ o ∈ pOff, hget h q o.1 = some (.inl (.ref (q + o.2.1))) ∧ T[q + o.2.1]? = some o.2.2) ∧ (∀ i, i < 8 → hget h (q + 4) i = some (.inl (.ref (q + (5 + i)))) ∧ T[q + (5 + i)]? = some 28) ∧ ∀ i, i < 4 → hget h (q + 24) i = some (.inl (.ref (q + (25 + i)))) ∧ T[q + (25 + i)]? = some 39
/-- every thing has its own slip; one that stands has it in the drum -/
def pJ (h : zH) (q : Nat) : Prop := ∀ t : Nat, (t : Int) < hi h q 17 → (1 ≤ hi h (q + 19) t ∧ hi h (q + 19) t ≤ hi h q 9) ∧ (hi h (q + 22) t = -1 → hi h (q + 17) (hi h (q + 19) t).toNat = 0) ∧ ∀ u : Nat, u < t → hi h (q + 19) u ≠ hi h (q + 19) t
def pMod (T : List Nat) (h : zH) : Prop := ∀ q τ : Nat, T[q]? = some τ → (τ = 5 ∨ τ = 6) → pLay T h q ∧ pJ h q
def pOne (T : List Nat) : Prop := T[0]? = some 4 ∧ T[29]? = some 2 ∧ T[49]? = some 5 ∧ (∀ q, T[q]? = some 4 → q = 0) ∧ (∀ q, T[q]? = some 2 → q = 29) ∧ ∀ q, T[q]? = some 5 → q = 49
def pRef (T : List Nat) (h : zH) (q i τ : Nat) : Prop := ∃ w : Nat, hget h q i = some (.inl (.ref w)) ∧ T[w]? = some τ
def pNul (T : List Nat) (h : zH) (q i τ : Nat) : Prop := hget h q i = some (.inl .null) ∨ pRef T h q i τ
abbrev pP := Int × Int × Option Int × Bool
/-- what holds between the law's calls: the class's tape has P.1 letters, the reference's P.2.1; P.2.2.1: how far it is read at least; P.2.2.2: the table of values is made -/
def zPhi (P : pP) (T : List Nat) (h : zH) : Prop := pOne T ∧ pMod T h ∧ hi h 29 1 = P.1 ∧ hi h 49 7 = P.2.1 ∧ (∀ s : Nat, s < 8 → hi h 50 s = 2 → 0 ≤ hi h 63 s) ∧ (∀ μ : Int, P.2.2.1 = some μ → μ ≤ hi h 49 28 ∧ hi h 49 28 ≤ P.2.1) ∧ (P.2.2.2 = true → pRef T h 49 35 41) ∧ pNul T h 49 26 6 ∧ pNul T h 49 27 6 ∧ pNul T h 49 35 41
theorem p_uni : ∀ τ i : Nat, 10 ≤ (zty τ).1 → (zty τ).2.2 i = (zty τ).2.2 0
  | 0, _, h => absurd h (by decide)
  | 1, _, h => absurd h (by decide)
  | 2, _, h => absurd h (by decide)
  | 3, _, h => absurd h (by decide)
  | 4, _, h => absurd h (by decide)
  | 5, _, h => absurd h (by decide)
  | 6, _, h => absurd h (by decide)
  | 7, _, _ => rfl
  | 8, _, _ => rfl
  | 9, _, _ => rfl
  | 10, _, _ => rfl
  | 11, _, _ => rfl
  | 12, _, _ => rfl
  | 13, _, _ => rfl
  | 14, _, _ => rfl
  | 15, _, _ => rfl
  | 16, _, _ => rfl
  | 17, _, _ => rfl
  | 18, _, _ => rfl
  | 19, _, _ => rfl
  | 20, _, _ => rfl
  | 21, _, _ => rfl
  | 22, _, _ => rfl
  | 23, _, _ => rfl
  | 24, _, _ => rfl
  | 25, _, _ => rfl
  | 26, _, _ => rfl
  | 27, _, _ => rfl
  | 28, _, _ => rfl
  | 29, _, _ => rfl
  | 30, _, _ => rfl
  | 31, _, _ => rfl
  | 32, _, _ => rfl
  | 33, _, _ => rfl
  | 34, _, _ => rfl
  | 35, _, _ => rfl
  | 36, _, _ => rfl
  | 37, _, _ => rfl
  | 38, _, _ => rfl
  | 39, _, _ => rfl
  | 40, _, _ => rfl
  | 41, _, _ => rfl
  | 42, _, _ => rfl
  | 43, _, _ => rfl
  | _ + 44, _, _ => rfl
theorem hi_eq {h h' : zH} {q i : Nat} (e : hget h' q i = hget h q i) : hi h' q i = hi h q i := by
  unfold hi
  rw [e]
theorem p_lay {T T' : List Nat} {h h' : zH} {q τ : Nat} (hq : T[q]? = some τ) (hτ : τ = 5 ∨ τ = 6) (hT : tExt T T') (hs : ∀ p σ i : Nat, T[p]? = some σ → ((zty σ).2.2 i).2.2.2.2 = false → hget h' p i = hget h p i) (hl : pLay T h q ∧ pJ h q) : pLay T' h' q ∧ pJ h' q := by
  obtain ⟨⟨h1, h2, h3⟩, h4⟩ := hl
  have w5 : ∀ o ∈ pOff, ((zty 5).2.2 o.1).2.2.2.2 = false ∧ ((zty 6).2.2 o.1).2.2.2.2 = false := by decide +kernel
  have w : ∀ o ∈ pOff, ((zty τ).2.2 o.1).2.2.2.2 = false := fun o ho => by
    rcases hτ with rfl | rfl
    · exact (w5 o ho).1
    · exact (w5 o ho).2
  have w9 : ((zty τ).2.2 9).2.2.2.2 = false ∧ ((zty τ).2.2 17).2.2.2.2 = false := by
    rcases hτ with rfl | rfl <;> exact ⟨rfl, rfl⟩
  have g : ∀ (c σ : Nat), (∃ f, (f, c, σ) ∈ pOff) → (∀ i, ((zty σ).2.2 i).2.2.2.2 = false) → ∀ i, hi h' (q + c) i = hi h (q + c) i := fun c σ hm hf i => by
    obtain ⟨f, hm⟩ := hm
    exact hi_eq (hs _ σ i (h1 _ hm).2 (hf i))
  have g4 : ∀ (c σ : Nat), (∃ f, (f, c, σ) ∈ pOff) → (∀ i, ((zty σ).2.2 i).2.2.2.2 = false) → ∀ i, hget h' (q + c) i = hget h (q + c) i := fun c σ hm hf i => by
    obtain ⟨f, hm⟩ := hm
    exact hs _ σ i (h1 _ hm).2 (hf i)
  refine ⟨⟨fun o ho => ⟨?_, hT _ _ (h1 o ho).2⟩, fun i hi => ⟨?_, hT _ _ (h2 i hi).2⟩, fun i hi => ⟨?_, hT _ _ (h3 i hi).2⟩⟩, ?_⟩
  · rw [hs q τ _ hq (w o ho)]
    exact (h1 o ho).1
  · rw [g4 4 27 ⟨3, by decide +kernel⟩ (fun _ => rfl)]
    exact (h2 i hi).1
  · rw [g4 24 38 ⟨25, by decide +kernel⟩ (fun _ => rfl)]
    exact (h3 i hi).1
  · have e17 := hi_eq (hs q τ 17 hq w9.2)
    have e9 := hi_eq (hs q τ 9 hq w9.1)
    have e19 := g 19 33 ⟨19, by decide +kernel⟩ (fun _ => rfl)
    have e22 := g 22 36 ⟨22, by decide +kernel⟩ (fun _ => rfl)
    have eo := g 17 31 ⟨16, by decide +kernel⟩ (fun _ => rfl)
    intro t ht
    rw [e17] at ht
    rw [e19, e9, e22, eo]
    refine ⟨(h4 t ht).1, (h4 t ht).2.1, fun u hu => ?_⟩
    rw [e19]
    exact (h4 t ht).2.2 u hu
theorem pRef_mono {T T' : List Nat} {h h' : zH} {q i τ : Nat} (hT : tExt T T') (he : hget h' q i = hget h q i) (hr : pRef T h q i τ) : pRef T' h' q i τ := by
  obtain ⟨w, h1, h2⟩ := hr
  exact ⟨w, he.trans h1, hT _ _ h2⟩
theorem pNul_mono {T T' : List Nat} {h h' : zH} {q i τ : Nat} (hT : tExt T T') (he : hget h' q i = hget h q i) (hr : pNul T h q i τ) : pNul T' h' q i τ := by
  rcases hr with hr | hr
  · exact Or.inl (he.trans hr)
  · exact Or.inr (pRef_mono hT he hr)
/-- the slots that say where a reference stands: slips, things; out, slip, has -/
def pOwn (q p σ i : Nat) : Prop := (p = q ∧ (σ = 5 ∨ σ = 6) ∧ (i = 9 ∨ i = 17)) ∨ (p = q + 17 ∧ σ = 31) ∨ (p = q + 19 ∧ σ = 33) ∨ (p = q + 22 ∧ σ = 36)
/-- and those that Φ names besides -/
def pEx (q p σ i : Nat) : Prop := pOwn q p σ i ∨ (σ = 2 ∧ i = 1) ∨ (σ = 5 ∧ (i = 7 ∨ i = 28 ∨ i = 26 ∨ i = 27 ∨ i = 35)) ∨ σ = 24 ∨ σ = 29
theorem pEx_not {q p σ i : Nat} (h : pEx q p σ i) (h1 : σ ≠ 31 ∨ p ≠ q + 17) (h2 : σ ≠ 33 ∨ p ≠ q + 19) (h3 : σ ≠ 36 ∨ p ≠ q + 22) (h4 : σ ≠ 24 ∧ σ ≠ 29 ∧ σ ≠ 2) (h5 : (σ ≠ 5 ∧ σ ≠ 6) ∨ (i ≠ 7 ∧ i ≠ 28 ∧ i ≠ 26 ∧ i ≠ 27 ∧ i ≠ 35 ∧ (p ≠ q ∨ (i ≠ 9 ∧ i ≠ 17)))) : False := by
  rcases h with (⟨a1, a2, a3⟩ | ⟨a1, a2⟩ | ⟨a1, a2⟩ | ⟨a1, a2⟩) | ⟨a1, a2⟩ | ⟨a1, a2⟩ | a1 | a1 <;> omega
theorem p_lay2 {T T' : List Nat} {h h' : zH} {q : Nat} (hT : tExt T T') (hs : ∀ p σ i : Nat, T[p]? = some σ → ((zty σ).2.2 i).2.2.2.2 = false → ¬ pEx q p σ i → hget h' p i = hget h p i) (hj : pJ h' q) {q2 τ2 : Nat} (hq2 : T[q2]? = some τ2) (hτ2 : τ2 = 5 ∨ τ2 = 6) (hl : pLay T h q2 ∧ pJ h q2) : pLay T' h' q2 ∧ pJ h' q2 := by
  obtain ⟨⟨l1, l2, l3⟩, l4⟩ := hl
  have w5 : ∀ o ∈ pOff, (((zty 5).2.2 o.1).2.2.2.2 = false ∧ ((zty 6).2.2 o.1).2.2.2.2 = false) ∧ o.1 ≠ 9 ∧ o.1 ≠ 17 ∧ o.1 ≠ 7 ∧ o.1 ≠ 28 ∧ o.1 ≠ 26 ∧ o.1 ≠ 27 ∧ o.1 ≠ 35 := by decide +kernel
  have w : ∀ o ∈ pOff, ((zty τ2).2.2 o.1).2.2.2.2 = false := fun o ho => by
    rcases hτ2 with rfl | rfl
    · exact (w5 o ho).1.1
    · exact (w5 o ho).1.2
  have lay : pLay T' h' q2 := by
    refine ⟨fun o ho => ⟨?_, hT _ _ (l1 o ho).2⟩, fun i hi => ⟨?_, hT _ _ (l2 i hi).2⟩, fun i hi => ⟨?_, hT _ _ (l3 i hi).2⟩⟩
    · rw [hs q2 τ2 _ hq2 (w o ho) (fun hw => by
        have := (w5 o ho).2
        exact pEx_not hw (by omega) (by omega) (by omega) (by omega) (by omega))]
      exact (l1 o ho).1
    · rw [hs (q2 + 4) 27 _ (l1 (3, 4, 27) (by decide +kernel)).2 rfl (fun hw => pEx_not hw (by omega) (by omega) (by omega) (by omega) (by omega))]
      exact (l2 i hi).1
    · rw [hs (q2 + 24) 38 _ (l1 (25, 24, 38) (by decide +kernel)).2 rfl (fun hw => pEx_not hw (by omega) (by omega) (by omega) (by omega) (by omega))]
      exact (l3 i hi).1
  refine ⟨lay, ?_⟩
  by_cases e2 : q2 = q
  · subst e2
    exact hj
  · have t31 := (l1 (16, 17, 31) (by decide +kernel)).2
    have t33 := (l1 (19, 19, 33) (by decide +kernel)).2
    have t36 := (l1 (22, 22, 36) (by decide +kernel)).2
    have w9 : ((zty τ2).2.2 9).2.2.2.2 = false ∧ ((zty τ2).2.2 17).2.2.2.2 = false := by
      rcases hτ2 with rfl | rfl <;> exact ⟨rfl, rfl⟩
    have e17 := hi_eq (hs q2 τ2 17 hq2 w9.2 (fun hw => pEx_not hw (by omega) (by omega) (by omega) (by omega) (by omega)))
    have e9 := hi_eq (hs q2 τ2 9 hq2 w9.1 (fun hw => pEx_not hw (by omega) (by omega) (by omega) (by omega) (by omega)))
    have e19 := fun i => hi_eq (hs (q2 + 19) 33 i t33 rfl (fun hw => pEx_not hw (by omega) (by omega) (by omega) (by omega) (by omega)))
    have e22 := fun i => hi_eq (hs (q2 + 22) 36 i t36 rfl (fun hw => pEx_not hw (by omega) (by omega) (by omega) (by omega) (by omega)))
    have eo := fun i => hi_eq (hs (q2 + 17) 31 i t31 rfl (fun hw => pEx_not hw (by omega) (by omega) (by omega) (by omega) (by omega)))
    intro t ht
    rw [e17] at ht
    rw [e19, e9, e22, eo]
    refine ⟨(l4 t ht).1, (l4 t ht).2.1, fun u hu => ?_⟩
    rw [e19]
    exact (l4 t ht).2.2 u hu
/-- what a change of the slots that Φ names must show -/
theorem p_keepG {P P' : pP} {T T' : List Nat} {h h' : zH} {q : Nat} (hT : tExt T T') (hn : ∀ q τ : Nat, T'[q]? = some τ → (τ = 2 ∨ τ = 4 ∨ τ = 5) → T[q]? = some τ) (h6 : ∀ q2, T'[q2]? = some 6 → T[q2]? = some 6 ∨ (pLay T' h' q2 ∧ pJ h' q2)) (hs : ∀ p σ i : Nat, T[p]? = some σ → ((zty σ).2.2 i).2.2.2.2 = false → ¬ pEx q p σ i → hget h' p i = hget h p i) (hj : pJ h' q)
    (hc : hi h' 29 1 = P'.1) (hd : hi h' 49 7 = P'.2.1) (he : ∀ s : Nat, s < 8 → hi h' 50 s = 2 → 0 ≤ hi h' 63 s) (hr : ∀ μ : Int, P'.2.2.1 = some μ → μ ≤ hi h' 49 28 ∧ hi h' 49 28 ≤ P'.2.1) (hv : P'.2.2.2 = true → pRef T' h' 49 35 41) (k1 : pNul T' h' 49 26 6) (k2 : pNul T' h' 49 27 6) (k3 : pNul T' h' 49 35 41) (hp : zPhi P T h) : zPhi P' T' h' := by
  obtain ⟨⟨a1, a2, a3, a4, a5, a6⟩, b, -⟩ := hp
  refine ⟨⟨hT _ _ a1, hT _ _ a2, hT _ _ a3, fun q hq => a4 q (hn q 4 hq (by omega)), fun q hq => a5 q (hn q 2 hq (by omega)), fun q hq => a6 q (hn q 5 hq (by omega))⟩, fun q2 τ2 hq2 hτ2 => ?_, hc, hd, he, hr, hv, k1, k2, k3⟩
  rcases hτ2 with rfl | rfl
  · exact p_lay2 hT hs hj (hn q2 5 hq2 (by omega)) (Or.inl rfl) (b q2 5 (hn q2 5 hq2 (by omega)) (Or.inl rfl))
  · rcases h6 q2 hq2 with h6 | h6
    · exact p_lay2 hT hs hj h6 (Or.inr rfl) (b q2 6 h6 (Or.inr rfl))
    · exact h6
theorem p_arr {P : pP} {T : List Nat} {h : zH} (hp : zPhi P T h) : T[50]? = some 24 ∧ T[63]? = some 29 := by
  have bl := (hp.2.1 49 5 hp.1.2.2.1 (Or.inl rfl)).1.1
  exact ⟨(bl (0, 1, 24) (by decide +kernel)).2, (bl (5, 14, 29) (by decide +kernel)).2⟩
theorem p_keep2T {P : pP} {T T' : List Nat} {h h' : zH} {q : Nat} (hT : tExt T T') (hn : ∀ q τ : Nat, T'[q]? = some τ → (τ = 2 ∨ τ = 4 ∨ τ = 5 ∨ τ = 6) → T[q]? = some τ) (hs : ∀ p σ i : Nat, T[p]? = some σ → ((zty σ).2.2 i).2.2.2.2 = false → ¬ pOwn q p σ i → hget h' p i = hget h p i) (ht : T[q]? = some 5 ∨ T[q]? = some 6) (hj : pJ h' q) (hp : zPhi P T h) : zPhi P T' h' := by
  obtain ⟨b1, b2⟩ := p_arr hp
  obtain ⟨⟨a1, a2, a3, a4, a5, a6⟩, b, c, d, e, f, g, k1, k2, k3⟩ := id hp
  have n5 : ∀ i, i ≠ 9 → i ≠ 17 → ¬ pOwn q 49 5 i := fun i h1 h2 hw => by
    rcases hw with ⟨x1, x2, x3⟩ | ⟨x1, x2⟩ | ⟨x1, x2⟩ | ⟨x1, x2⟩ <;> omega
  have e7 := hs 49 5 7 a3 rfl (n5 7 (by omega) (by omega))
  have e28 := hs 49 5 28 a3 rfl (n5 28 (by omega) (by omega))
  have e26 := hs 49 5 26 a3 rfl (n5 26 (by omega) (by omega))
  have e27 := hs 49 5 27 a3 rfl (n5 27 (by omega) (by omega))
  have e35 := hs 49 5 35 a3 rfl (n5 35 (by omega) (by omega))
  have e1 := hs 29 2 1 a2 rfl (fun hw => by rcases hw with ⟨x1, x2, x3⟩ | ⟨x1, x2⟩ | ⟨x1, x2⟩ | ⟨x1, x2⟩ <;> omega)
  have e50 := fun s => hs 50 24 s b1 rfl (fun hw => by rcases hw with ⟨x1, x2, x3⟩ | ⟨x1, x2⟩ | ⟨x1, x2⟩ | ⟨x1, x2⟩ <;> omega)
  have e63 := fun s => hs 63 29 s b2 rfl (fun hw => by rcases hw with ⟨x1, x2, x3⟩ | ⟨x1, x2⟩ | ⟨x1, x2⟩ | ⟨x1, x2⟩ <;> omega)
  refine p_keepG hT (fun q τ hq hτ => hn q τ hq (by omega)) (fun q2 hq2 => Or.inl (hn q2 6 hq2 (by omega))) (fun p σ i h1 h2 h3 => hs p σ i h1 h2 (fun hw => h3 (Or.inl hw))) hj ?_ ?_ (fun s hs8 h2 => ?_) (fun μ hb => ?_) (fun hb => pRef_mono hT e35 (g hb)) (pNul_mono hT e26 k1) (pNul_mono hT e27 k2) (pNul_mono hT e35 k3) hp
  · rw [hi_eq e1]
    exact c
  · rw [hi_eq e7]
    exact d
  · rw [hi_eq (e50 s)] at h2
    rw [hi_eq (e63 s)]
    exact e s hs8 h2
  · rw [hi_eq e28]
    exact f μ hb
theorem p_keep {P : pP} {T T' : List Nat} {h h' : zH} (hT : tExt T T') (hn : ∀ q τ : Nat, T'[q]? = some τ → (τ = 2 ∨ τ = 4 ∨ τ = 5 ∨ τ = 6) → T[q]? = some τ) (hs : ∀ p σ i : Nat, T[p]? = some σ → ((zty σ).2.2 i).2.2.2.2 = false → hget h' p i = hget h p i) (hp : zPhi P T h) : zPhi P T' h' :=
  p_keep2T (q := 49) hT hn (fun p σ i h1 h2 _ => hs p σ i h1 h2) (Or.inl hp.1.2.2.1) (p_lay hp.1.2.2.1 (Or.inl rfl) hT hs (hp.2.1 49 5 hp.1.2.2.1 (Or.inl rfl))).2 hp
theorem p_keep2 {P : pP} {T : List Nat} {h h' : zH} {q τ : Nat} (hq : T[q]? = some τ) (hτ : τ = 5 ∨ τ = 6) (hs : ∀ p σ i : Nat, T[p]? = some σ → ((zty σ).2.2 i).2.2.2.2 = false → ¬ pOwn q p σ i → hget h' p i = hget h p i) (hj : pJ h' q) (hp : zPhi P T h) : zPhi P T h' :=
  p_keep2T (tExt_rf T) (fun _ _ h _ => h) hs (by rcases hτ with rfl | rfl; exact Or.inl hq; exact Or.inr hq) hj hp
theorem p_stab (P : pP) : tStab zty 43 (zPhi P) := by
  refine ⟨fun T h q τ vs vs' hok hp hq hv hl hw hs => ?_, fun T h hok hp => ?_, p_uni, rfl, rfl, by decide, by decide, by decide⟩
  · refine p_keep (tExt_rf T) (fun _ _ hq _ => hq) (fun p σ i hps hf => ?_) hp
    by_cases e : p = q
    · subst e
      rw [hq] at hps
      cases hps
      rw [hget_eq (List.getElem?_set_self (List.getElem?_eq_some_iff.mp hv).1), hget_eq hv]
      exact hw i hf
    · unfold hget
      rw [List.getElem?_set_ne (Ne.symm e)]
  · refine p_keep (tExt_app T [43]) (fun q τ hq hτ => ?_) (fun p σ i hps _ => ?_) hp
    · by_cases e : q < T.length
      · rw [List.getElem?_append_left e] at hq
        exact hq
      · exfalso
        rw [List.getElem?_append_right (by omega)] at hq
        have e2 := (List.getElem?_eq_some_iff.mp hq).1
        have e3 : q - T.length = 0 := by
          simp at e2
          omega
        rw [e3] at hq
        cases hq
        omega
    · have e := (List.getElem?_eq_some_iff.mp hps).1
      unfold hget
      rw [List.getElem?_append_left (by rw [hok.1]; exact e)]
