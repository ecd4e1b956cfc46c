theorem hcnt_pos {h : zH} {q s : Nat} (hd : hDr h q ((s + 1 : Nat) : Int)) : ∀ k : Nat, s + 1 ≤ k → 0 < hcnt h q k
  | 0, hk => absurd hk (by omega)
  | k + 1, hk => by
    have hb := hcnt_b h q k
    by_cases e : s = k
    · subst e
      rw [hcnt_t hd]
      omega
    · have ih := hcnt_pos hd k (by omega)
      by_cases e2 : hDr h q ((k + 1 : Nat) : Int)
      · rw [hcnt_t e2]
        omega
      · rw [hcnt_f e2]
        exact ih
theorem std_le {T : List Nat} {h : zH} {x : Int32} (hok : hOK zty T h) (hq : T[49]? = some 5) (lay : pLay T h 49) (hJ : pJ h 49) (hx : hStd h 49 x) : popc x 8 ≤ hins h 49 (hi h 49 9).toNat := by
  obtain ⟨sl, -, eS, lS, uS⟩ := hi_val (i := 9) hok hq (by decide) rfl
  have lS : (1 : Int) ≤ sl.toInt := lS
  have uS : sl.toInt ≤ (60 : Int) := uS
  have t66 := (lay.1 (16, 17, 31) (by decide +kernel)).2
  have h01 : ∀ s : Nat, 1 ≤ s → s ≤ 60 → 0 ≤ hi h (49 + 17) s ∧ hi h (49 + 17) s ≤ 1 := fun s _ h60 => by
    obtain ⟨y, -, ey, ly, uy⟩ := hi_val (i := s) hok t66 (by show _ < 61; omega) rfl
    rw [ey]
    exact ⟨ly, uy⟩
  have h1 := hA_ins hJ h01 (hi h 49 9).toNat (by omega)
  rw [popc_A (j := ((hi h 49 9).toNat : Int)) hJ hx (by omega) 8 (Nat.le_refl _)]
  exact h1
theorem vQ_draw {T : List Nat} {h : zH} {x : Int32} (hok : hOK zty T h) (hq : T[49]? = some 5) (lay : pLay T h 49) (hJ : pJ h 49) (hx : hStd h 49 x) (e37 : hi h 49 37 = hi h 49 13) (e38 : hi h 49 38 = hins h 49 (hi h 49 9).toNat) (hv : vQ h x 0) : 0 < hcnt h 49 (hi h 49 9).toNat := by
  obtain ⟨sl, -, eS, lS, uS⟩ := hi_val (i := 9) hok hq (by decide) rfl
  have lS : (1 : Int) ≤ sl.toInt := lS
  have uS : sl.toInt ≤ (60 : Int) := uS
  obtain ⟨nT, -, eT, lT, uT⟩ := hi_val (i := 17) hok hq (by decide) rfl
  have uT : nT.toInt ≤ (8 : Int) := uT
  have t66 := (lay.1 (16, 17, 31) (by decide +kernel)).2
  have h01 : ∀ s : Nat, 1 ≤ s → s ≤ 60 → 0 ≤ hi h (49 + 17) s ∧ hi h (49 + 17) s ≤ 1 := fun s _ h60 => by
    obtain ⟨y, -, ey, ly, uy⟩ := hi_val (i := s) hok t66 (by show _ < 61; omega) rfl
    rw [ey]
    exact ⟨ly, uy⟩
  have fin : ∀ s : Int, hDr h 49 s → 0 < hcnt h 49 (hi h 49 9).toNat := fun s hd => by
    have h1 := hd.1
    have h2 := hd.2.1
    have es : s = ((s.toNat - 1 + 1 : Nat) : Int) := by omega
    rw [es] at hd
    exact hcnt_pos hd _ (by omega)
  rcases hv with hv | ⟨t, ht, hb, hf⟩
  · -- more are in than stand: one has nothing on it that stands
    by_cases hall : ∀ s : Nat, 1 ≤ s → s ≤ (hi h 49 9).toNat → hi h (49 + 17) s = 0 → ∃ u : Nat, u < 8 ∧ (u : Int) < hi h 49 17 ∧ hi h (49 + 22) u = -1 ∧ hi h (49 + 19) u = (s : Int)
    · exfalso
      have h1 := hA_all hJ h01 (hi h 49 9).toNat (by omega) hall
      rw [popc_A (j := ((hi h 49 9).toNat : Int)) hJ hx (by omega) 8 (Nat.le_refl _)] at hv
      omega
    · obtain ⟨s, hs⟩ := Classical.not_forall.mp hall
      have hs1 : 1 ≤ s ∧ s ≤ (hi h 49 9).toNat ∧ hi h (49 + 17) s = 0 ∧ ¬ ∃ u : Nat, u < 8 ∧ (u : Int) < hi h 49 17 ∧ hi h (49 + 22) u = -1 ∧ hi h (49 + 19) u = (s : Int) := by
        refine Classical.byContradiction (fun hn => hs (fun a b c => ?_))
        exact Classical.byContradiction (fun hne => hn ⟨a, b, c, hne⟩)
      obtain ⟨a1, a2, a3, a4⟩ := hs1
      refine fin (s : Int) ⟨by omega, by omega, ?_, fun u hu hus h22 => ?_⟩
      · rw [Int.toNat_natCast]
        exact a3
      · exact absurd ⟨u, by omega, hu, h22, hus⟩ a4
  · have hst : hi h (49 + 22) t = -1 := by
      have := hx t (by omega)
      rw [hb] at this
      by_cases e : (t : Int) < hi h 49 17 ∧ hi h (49 + 22) t = -1
      · exact e.2
      · rw [if_neg e] at this
        omega
    have hj := hJ t ht
    refine fin (hi h (49 + 19) t) ⟨hj.1.1, hj.1.2, hj.2.1 hst, fun u hu hus _ => ?_⟩
    have := pJ_uni hJ hu ht hus
    subst this
    obtain ⟨x37, -, ex37, -, -⟩ := hi_val (i := 37) hok hq (by decide) rfl
    unfold hFree
    rcases hf with hf | ⟨hf1, hf2⟩
    · exact Or.inl hf
    · refine Or.inr ⟨?_, ?_⟩
      · rw [Int.add_zero, ex37, Int32.ofInt_toInt] at hf1
        rw [← e37, ex37]
        exact hf1
      · rw [e38, Int.sub_zero] at hf2
        exact hf2
