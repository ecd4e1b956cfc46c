/-- the first k places of array q are 0 -/
def hfill (h : zH) (q : Nat) : Nat → zH
  | 0 => h
  | k + 1 => hput (hfill h q k) q k (.inl (.int 0))
theorem hfill_len (h : zH) (q : Nat) : ∀ k, (hfill h q k).length = h.length
  | 0 => rfl
  | k + 1 => by
    show (hput (hfill h q k) q k _).length = _
    rw [hput_len]
    exact hfill_len h q k
theorem hfill_ne (h : zH) (q : Nat) {p i : Nat} : ∀ k, (p ≠ q ∨ k ≤ i) → hget (hfill h q k) p i = hget h p i
  | 0, _ => rfl
  | k + 1, hn => by
    show hget (hput (hfill h q k) q k _) p i = _
    rw [hget_put_ne (by omega)]
    exact hfill_ne h q k (by omega)
theorem hfill_ok {T : List Nat} {h : zH} {q τ : Nat} (hok : hOK zty T h) (hq : T[q]? = some τ) (hs : ∀ i, okS T ((zty τ).2.2 i) (.inl (.int 0))) : ∀ k, hOK zty T (hfill h q k)
  | 0 => hok
  | k + 1 => hOK_put (hfill_ok hok hq hs k) hq (hs k)
theorem hfill_in {T : List Nat} {h : zH} {q τ i : Nat} (hok : hOK zty T h) (hq : T[q]? = some τ) (hs : ∀ i, okS T ((zty τ).2.2 i) (.inl (.int 0))) (hi0 : i < (zty τ).2.1) : ∀ k, i < k → hget (hfill h q k) q i = some (.inl (.int 0))
  | 0, hk => absurd hk (by omega)
  | k + 1, hk => by
    show hget (hput (hfill h q k) q k _) q i = _
    by_cases e : i = k
    · subst e
      obtain ⟨w, hw, -⟩ := hOK_get (hfill_ok hok hq hs i) hq hi0
      exact hget_put hw
    · rw [hget_put_ne (by omega)]
      exact hfill_in hok hq hs hi0 k (by omega)
theorem nI_int {k : Nat} (h : k < 1000) : (Int32.ofNat k).toInt = (k : Int) := nI_toInt (n := k) (by omega)
theorem nI_add1 {k : Nat} : Int32.ofNat k + Int32.ofInt 1 = Int32.ofNat (k + 1) := (nI_succ k).symm
/-- slips and out laid anew, where there are no things -/
theorem c_becomeSlips {P : pP} {scr : List zV} {d : Nat} {T : List Nat} {h : zH} {q τ : Nat} {x : Int32} {post : Option zV → zH → Bool} (hok : hOK zty T h) (hp : zPhi P T h) (hq : T[q]? = some τ) (hτ : τ = 5 ∨ τ = 6) (hx : 1 ≤ x.toInt ∧ x.toInt ≤ 60) (h0 : hi h q 17 = 0)
    (kk : ∀ h', hOK zty T h' → zPhi P T h' → h'.length = h.length → post none h' = true) : zD zprog scr (d + 1) 157 [.inl (.ref q), .inl (.int x)] h post = true := by
  refine zD_intro (E := ze_X5_becomeSlips) rfl rfl (fun G HW => ?_)
  obtain ⟨⟨l1, l2, l3⟩, lj⟩ := hp.2.1 q τ hq hτ
  obtain ⟨o1, o2⟩ := l1 (16, 17, 31) (by decide +kernel)
  have t5 : (zty τ).1 = 5 ∧ (zty τ).2.1 = 41 ∧ (zty τ).2.2 9 = (0, 1, 60, 0, false) := by
    rcases hτ with rfl | rfl <;> exact ⟨rfl, rfl, rfl⟩
  have hok1 : hOK zty T (hput h q 9 (.inl (.int x))) := hOK_put hok hq (by rw [t5.2.2]; exact ⟨x, rfl, hx.1, hx.2⟩)
  have hs0 : ∀ i, okS T ((zty 31).2.2 i) (.inl (.int 0)) := fun i => ⟨0, rfl, Int.le_refl 0, (by show (0 : Int) ≤ 1; decide)⟩
  have hf := hfill_ok hok1 o2 hs0
  have fin : post none (hfill (hput h q 9 (.inl (.int x))) (q + 17) 61) = true := by
    refine kk _ (hf 61) ?_ (by rw [hfill_len, hput_len])
    refine p_keep2 hq hτ (fun p σ i hpσ hw hn => ?_) (fun t ht => ?_) hp
    · have n1 : ¬ (p = q + 17) := fun e => hn (Or.inr (Or.inl ⟨e, by rw [e, o2] at hpσ; cases hpσ; rfl⟩))
      rw [hfill_ne _ _ 61 (Or.inl n1)]
      refine hget_put_ne ?_
      by_cases e : p = q
      · subst e
        rw [hq] at hpσ
        cases hpσ
        refine Or.inr (fun e9 => hn (Or.inl ⟨rfl, hτ, Or.inl e9⟩))
      · exact Or.inl e
    · exfalso
      rw [hi_eq (hfill_ne _ _ 61 (Or.inl (by omega))), hi_put_ne (Or.inr (by omega)), h0] at ht
      omega
  refine zrn_ok HW 2 (zB_iff.mpr (?_ : G (2, [(0, .inl (.ref q)), (1, .inl (.int x))], [.inl (.int x), .inl (.ref q)], h, 0, 0)))
  refine g_putf HW rfl hok hq t5.1 (by rw [t5.2.1]; omega) rfl ?_
  refine zrn_ok HW 2 (zB_iff.mpr (?_ : G (7, [(2, .inl (.int 0)), (0, .inl (.ref q)), (1, .inl (.int x))], [], hput h q 9 (.inl (.int x)), 0, 0)))
  have loop : ∀ j k : Nat, j + k = 61 → G (7, [(2, .inl (.int (Int32.ofNat k))), (0, .inl (.ref q)), (1, .inl (.int x))], [], hfill (hput h q 9 (.inl (.int x))) (q + 17) k, 0, 0) := by
    intro j
    induction j with
    | zero =>
      intro k hk
      have hk : k = 61 := by omega
      have fin' : post none (hfill (hput h q 9 (.inl (.int x))) (q + 17) k) = true := by
        rw [hk]
        exact fin
      clear fin
      have hc0 : zop .gt (Int32.ofNat k) 60 := by
        rw [hk]
        show (60 : Int32) < Int32.ofNat 61
        decide
      clear hk
      generalize hfill (hput h q 9 (.inl (.int x))) (q + 17) k = h1 at fin' ⊢
      generalize Int32.ofNat k = y at hc0 ⊢
      refine zrn_ok HW 3 (zbr_ex (cd := .gt) (x := y) (y := 60) (fun hc => zB_iff.mpr ?_) (fun hc => absurd hc0 hc))
      exact g_ret HW (i := (.return_, .inl .null, 0, 0, 0, 0)) rfl rfl (zret_v rfl fin')
    | succ j ih =>
      intro k hk
      refine zrn_ok HW 3 (zbr_ex (cd := .gt) (x := Int32.ofNat k) (y := 60) (fun hc => ?_) (fun hc => zB_iff.mpr ?_))
      · exfalso
        have h1 : (60 : Int32) < Int32.ofNat k := hc
        have h2 := Int32.lt_iff_toInt_lt.mp h1
        rw [nI_int (by omega)] at h2
        have h3 : (60 : Int32).toInt = 60 := rfl
        omega
      · refine zrn_ok HW 1 (zB_iff.mpr (?_ : G (14, [(2, .inl (.int (Int32.ofNat k))), (0, .inl (.ref q)), (1, .inl (.int x))], [.inl (.ref q)], hfill (hput h q 9 (.inl (.int x))) (q + 17) k, 0, 0)))
        refine g_getf HW rfl (hf k) hq t5.1 (v := .inl (.ref (q + 17))) ?_ ?_
        · rw [hfill_ne _ _ k (Or.inl (by omega)), hget_put_ne (Or.inr (by omega))]
          exact o1
        · refine zrn_ok HW 2 (zB_iff.mpr (?_ : G (19, [(2, .inl (.int (Int32.ofNat k))), (0, .inl (.ref q)), (1, .inl (.int x))], [.inl (.int 0), .inl (.int (Int32.ofNat k)), .inl (.ref (q + 17))], hfill (hput h q 9 (.inl (.int x))) (q + 17) k, 0, 0)))
          have e1 : (Int32.ofNat k).toInt = (k : Int) := nI_int (by omega)
          refine g_iast HW rfl (hf k) o2 rfl (by omega) (by show _ < (61 : Int); omega) ?_
          have e2 : (Int32.ofNat k).toInt.toNat = k := by omega
          rw [e2]
          refine zrn_ok HW 2 (zB_iff.mpr ?_)
          have := ih (k + 1) (by omega)
          rw [← nI_add1] at this
          exact this
  exact loop 61 0 rfl
