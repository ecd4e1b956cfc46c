/-- what stands after both constructors -/
def stN0 : ST := cAbs zh0 1
theorem cH_b {h : zH} (e : h.all (fun c => cTb c.2) = true) : cH h := fun c hc => cTb_ok (List.all_eq_true.mp e c hc)
theorem zh0_c : cH zh0 := cH_b (by decide +kernel)
theorem zh0_bits : ∀ i, i ≤ 20 → 1 ≤ i → nI (nb (jN (hJ zh0 1 7)) i) = 1 - hv zh0 66 i := by decide +kernel
theorem zh0_n : (hv zh0 1 0).toNatClampNeg = 20 ∧ (hv zh0 49 9).toNatClampNeg = 20 ∧ (hv zh0 1 8).toNatClampNeg = 0 ∧ (hv zh0 49 17).toNatClampNeg = 0 ∧ (hv zh0 1 14).toNatClampNeg = 0 ∧ (hv zh0 49 23).toNatClampNeg = 0 := by decide +kernel
theorem zh0_alike : rAbs zh0 49 = stN0 := by
  obtain ⟨n1, n2, n3, n4, n5, n6⟩ := zh0_n
  have num : ∀ i, i < 9 → rNum zh0 49 i = cNum zh0 1 i := by decide +kernel
  have c1 : ∀ i, rAbs zh0 49 0 i = cAbs zh0 1 0 i := fun i => by
    by_cases y : i < 9
    · exact num i y
    · obtain ⟨k, rfl⟩ : ∃ k, i = k + 9 := ⟨i - 9, by omega⟩
      rfl
  funext c i
  unfold stN0
  match c with
  | 0 => exact c1 i
  | 1 =>
    show (if 1 ≤ i ∧ i ≤ (hv zh0 49 9).toNatClampNeg then 1 - hv zh0 (49 + 17) i else 0) = (if 1 ≤ i ∧ i ≤ (hv zh0 1 0).toNatClampNeg then nI (nb (jN (hJ zh0 1 7)) i) else 0)
    rw [n1, n2]
    by_cases y : 1 ≤ i ∧ i ≤ 20
    · rw [if_pos y, if_pos y]
      exact (zh0_bits i y.2 y.1).symm
    · rw [if_neg y, if_neg y]
  | 2 =>
    show (if i < (hv zh0 49 17).toNatClampNeg then hv zh0 (49 + 18) i else 0) = (if i < (hv zh0 1 8).toNatClampNeg then hv zh0 (1 + 1) i else 0)
    rw [n3, n4, if_neg (Nat.not_lt_zero i), if_neg (Nat.not_lt_zero i)]
  | 3 =>
    show (if i < (hv zh0 49 17).toNatClampNeg then hv zh0 (49 + 19) i else 0) = (if i < (hv zh0 1 8).toNatClampNeg then hv zh0 (1 + 2) i else 0)
    rw [n3, n4, if_neg (Nat.not_lt_zero i), if_neg (Nat.not_lt_zero i)]
  | 4 =>
    show (if i < (hv zh0 49 17).toNatClampNeg then hv zh0 (49 + 20) i else 0) = (if i < (hv zh0 1 8).toNatClampNeg then hv zh0 (1 + 3) i else 0)
    rw [n3, n4, if_neg (Nat.not_lt_zero i), if_neg (Nat.not_lt_zero i)]
  | 5 =>
    show (if i < (hv zh0 49 17).toNatClampNeg then hv zh0 (49 + 21) i else 0) = (if i < (hv zh0 1 8).toNatClampNeg then hv zh0 (1 + 4) i else 0)
    rw [n3, n4, if_neg (Nat.not_lt_zero i), if_neg (Nat.not_lt_zero i)]
  | 6 =>
    show (if i < (hv zh0 49 17).toNatClampNeg then hv zh0 (49 + 22) i else 0) = (if i < (hv zh0 1 8).toNatClampNeg then hv zh0 (1 + 5) i else 0)
    rw [n3, n4, if_neg (Nat.not_lt_zero i), if_neg (Nat.not_lt_zero i)]
  | 7 =>
    show (if i < (hv zh0 49 23).toNatClampNeg then hv zh0 (49 + 23) i else 0) = (if i < (hv zh0 1 14).toNatClampNeg then hv zh0 (1 + 6) i else 0)
    rw [n5, n6, if_neg (Nat.not_lt_zero i), if_neg (Nat.not_lt_zero i)]
  | 8 =>
    show (if i % 8 < (hv zh0 49 17).toNatClampNeg ∧ i / 8 < (hv zh0 49 23).toNatClampNeg then hv zh0 (49 + 25 + i / 8) (i % 8) else 0) = (if i % 8 < (hv zh0 1 8).toNatClampNeg ∧ i / 8 < (hv zh0 1 14).toNatClampNeg then hv zh0 (1 + 7) i else 0)
    rw [n3, n4, if_neg (fun y => Nat.not_lt_zero _ y.1), if_neg (fun y => Nat.not_lt_zero _ y.1)]
  | _ + 9 => rfl
theorem zh0_nT : nT stN0 = 0 := zh0_n.2.2.1
theorem zh0_nB : nB stN0 = 0 := zh0_n.2.2.2.2.1
theorem zh0_wf : WF stN0 := by
  obtain ⟨n1, n2, n3, n4, n5, n6⟩ := zh0_n
  refine ⟨?_, fun i => ?_, fun t ht => ?_, fun b => ?_, fun i => ?_⟩
  · have e0 : cNum zh0 1 0 = 20 := by decide +kernel
    have e1 : cNum zh0 1 1 = 5 := by decide +kernel
    have e2 : cNum zh0 1 2 = 10 := by decide +kernel
    have e3 : cNum zh0 1 3 = 40 := by decide +kernel
    have e7 : cNum zh0 1 7 = 0 := by decide +kernel
    have e8 : cNum zh0 1 8 = 0 := by decide +kernel
    show (1 ≤ (cNum zh0 1 0).toInt ∧ (cNum zh0 1 0).toInt ≤ 60) ∧ (2 ≤ (cNum zh0 1 1).toInt ∧ (cNum zh0 1 1).toInt ≤ 10) ∧ (1 ≤ (cNum zh0 1 2).toInt ∧ (cNum zh0 1 2).toInt ≤ 99) ∧ (1 ≤ (cNum zh0 1 3).toInt ∧ (cNum zh0 1 3).toInt ≤ 495) ∧ (0 ≤ (cNum zh0 1 7).toInt ∧ (cNum zh0 1 7).toInt ≤ 8) ∧ (0 ≤ (cNum zh0 1 8).toInt ∧ (cNum zh0 1 8).toInt ≤ 4)
    rw [e0, e1, e2, e3, e7, e8]
    decide
  · show (if 1 ≤ i ∧ i ≤ (hv zh0 1 0).toNatClampNeg then nI (nb (jN (hJ zh0 1 7)) i) else 0) = 0 ∨ (if 1 ≤ i ∧ i ≤ (hv zh0 1 0).toNatClampNeg then nI (nb (jN (hJ zh0 1 7)) i) else 0) = 1
    by_cases y : 1 ≤ i ∧ i ≤ (hv zh0 1 0).toNatClampNeg
    · rw [if_pos y]
      have := nb_lt (jN (hJ zh0 1 7)) i
      have : nb (jN (hJ zh0 1 7)) i = 0 ∨ nb (jN (hJ zh0 1 7)) i = 1 := by omega
      rcases this with e | e
      · rw [e]
        exact Or.inl rfl
      · rw [e]
        exact Or.inr rfl
    · rw [if_neg y]
      exact Or.inl rfl
  · rw [zh0_nT] at ht
    exact absurd ht (Nat.not_lt_zero t)
  · have e : stN0 7 b = 0 := by
      show (if b < (hv zh0 1 14).toNatClampNeg then hv zh0 (1 + 6) b else 0) = 0
      rw [n5, if_neg (Nat.not_lt_zero b)]
    rw [e]
    decide
  · have e : stN0 8 i = 0 := by
      show (if i % 8 < (hv zh0 1 8).toNatClampNeg ∧ i / 8 < (hv zh0 1 14).toNatClampNeg then hv zh0 (1 + 7) i else 0) = 0
      rw [n3, if_neg (fun y => Nat.not_lt_zero _ y.1)]
    rw [e]
    decide
theorem zh0_inv : cInv zh0 1 := by
  obtain ⟨n1, n2, n3, n4, n5, n6⟩ := zh0_n
  have k1 : ∀ i, i < 64 → (i = 0 ∨ 20 < i) → nb (jN (hJ zh0 1 7)) i = 0 := by decide +kernel
  have k2 : ∀ i, i < 32 → hv zh0 8 i = 0 := by decide +kernel
  refine ⟨fun i hi h0 => ?_, fun i hi _ => k2 i hi⟩
  rw [n1] at h0
  exact k1 i hi h0
theorem zh0_cx : CX zh0 stN0 none (fun _ => -1) (fun _ => 0) (fun _ _ => 0) 0 (fun _ => 0) (fun _ => 0) := by
  have o1 : ∀ o ∈ cOff, hr zh0 1 o.1 = 1 + o.2.1 := by decide +kernel
  have o9 : ∀ o ∈ cOff, hr zh0 9 o.1 = 9 + o.2.1 := by decide +kernel
  have o17 : ∀ o ∈ cOff, hr zh0 17 o.1 = 17 + o.2.1 := by decide +kernel
  have f : ∀ i, i < 5 → hv zh0 32 i = 0 := by decide +kernel
  have s : ∀ s, s < 8 → (hr zh0 31 s = 33 + 2 * s ∧ hr zh0 (33 + 2 * s) 2 = 34 + 2 * s) ∧ hv zh0 (33 + 2 * s) 0 = -1 := by decide +kernel
  have p0 : hr zh0 0 0 = 1 ∧ hr zh0 0 1 = 9 ∧ hr zh0 0 2 = 17 ∧ hr zh0 0 3 = 25 ∧ hr zh0 0 4 = 29 ∧ hr zh0 0 5 = 31 ∧ hr zh0 0 6 = 32 := by decide +kernel
  have ph : (hr zh0 25 0 = 26 ∧ hr zh0 25 1 = 27 ∧ hr zh0 25 2 = 28) ∧ hv zh0 28 0 = 0 := by decide +kernel
  have pt : hr zh0 29 0 = 30 ∧ hv zh0 29 1 = nI 0 := by decide +kernel
  have p7 : hv zh0 0 7 = 0 := by decide +kernel
  exact ⟨p0, ⟨o1, rfl, zh0_wf, zh0_inv⟩, ⟨o9, Or.inl ⟨p7, rfl⟩⟩, o17, ph, ⟨pt.1, pt.2, Nat.zero_le _, fun i hi => absurd hi (Nat.not_lt_zero i)⟩, f, fun s' hs => ⟨(s s' hs).1, (s s' hs).2, fun hr => absurd (show (0 : Int) ≤ (-1 : Int32).toInt from hr.1) (by decide)⟩⟩
theorem zh0_rx : RX zh0 stN0 none (fun _ => -1) (fun _ => 0) (fun _ _ => 0) 0 (fun _ => 0) (fun _ => 0) := by
  have o : ∀ o ∈ rOff, hr zh0 49 o.1 = 49 + o.2.1 := by decide +kernel
  have ob : ∀ b, b < 4 → hr zh0 (49 + 24) b = 49 + 25 + b := by decide +kernel
  have t : ∀ i, i < 61 → hv zh0 (49 + 17) i = 0 ∨ hv zh0 (49 + 17) i = 1 := by decide +kernel
  have p0 : (hr zh0 49 0 = 50 ∧ hr zh0 49 1 = 51 ∧ hr zh0 49 2 = 52 ∧ hr zh0 49 3 = 53 ∧ hr zh0 49 4 = 62 ∧ hr zh0 49 5 = 63 ∧ hr zh0 49 6 = 64 ∧ hr zh0 49 8 = 65 ∧ hr zh0 49 33 = 78) ∧ ∀ s, s < 8 → hr zh0 53 s = 54 + s := by decide +kernel
  have f : ∀ i, i < 5 → hv zh0 65 (i + 2) = 0 := by decide +kernel
  have s : ∀ s, s < 8 → hv zh0 50 s = 0 := by decide +kernel
  have p7 : hv zh0 49 7 = nI 0 := by decide +kernel
  exact ⟨p0, ⟨⟨o, ob⟩, zh0_alike, zh0_wf, t⟩, Or.inl ⟨rfl, rfl⟩, ⟨Or.inl rfl, Or.inl rfl⟩, ⟨p7, fun i hi => absurd hi (Nat.not_lt_zero i)⟩, f, fun s' hs => Or.inl ⟨s s' hs, rfl⟩⟩
theorem zh0_rel : REL zT0 zh0 0 false := by
  refine ⟨⟨zh0_ok, zh0_phi, Nat.le_refl _⟩, tExt_rf _, zh0_c, fun _ => rfl, stN0, none, _, _, _, _, _, _, zh0_cx, zh0_rx, fun s hs t ht _ => ?_, fun t ht _ => ?_, fun S hS => by cases hS⟩
  · exfalso
    have e : (-1 : Int32).toInt = (nI (10 + t)).toInt := congrArg Int32.toInt ht
    rw [nI_t (by omega)] at e
    have : (-1 : Int32).toInt = -1 := rfl
    omega
  · rw [zh0_nT] at ht
    exact absurd ht (Nat.not_lt_zero t)
