/-- the class's shelves behind back -/
def bkC (h : zH) (C : Nat → Int32) (lim : Int32) : Nat → zH
  | 0 => h
  | k + 1 => if C k < lim then bkC h C lim k else hput (bkC h C lim k) (33 + 2 * k) 0 (.inl (.int (-1 : Int32)))
def bkS (C : Nat → Int32) (lim : Int32) (s : Nat) : Int32 := if C s < lim then C s else -1
theorem bkC_ne {h : zH} {C : Nat → Int32} {lim : Int32} {m i : Nat} : ∀ k, (i ≠ 0 ∨ ∀ s, s < k → m ≠ 33 + 2 * s) → hget (bkC h C lim k) m i = hget h m i
  | 0, _ => rfl
  | k + 1, hm => by
    have ih := bkC_ne (h := h) (C := C) (lim := lim) (m := m) (i := i) k (by
      rcases hm with y | y
      · exact Or.inl y
      · exact Or.inr (fun s hs => y s (by omega)))
    unfold bkC
    by_cases c : C k < lim
    · rw [if_pos c]
      exact ih
    · rw [if_neg c, hget_put_ne (by
        rcases hm with y | y
        · exact Or.inr y
        · exact Or.inl (y k (by omega)))]
      exact ih
theorem bkC_at {h : zH} {C : Nat → Int32} {lim : Int32} (g : ∀ s, s < 8 → hget h (33 + 2 * s) 0 = some (.inl (.int (C s)))) : ∀ k, k ≤ 8 → ∀ s, s < k → hv (bkC h C lim k) (33 + 2 * s) 0 = bkS C lim s
  | 0, _, s, hs => absurd hs (Nat.not_lt_zero _)
  | k + 1, hk, s, hs => by
    have gk : hget (bkC h C lim k) (33 + 2 * k) 0 = some (.inl (.int (C k))) := (bkC_ne k (Or.inr (fun s hs => by omega))).trans (g k (by omega))
    unfold bkC
    by_cases c : C k < lim
    · rw [if_pos c]
      by_cases y : s = k
      · rw [y]
        unfold hv bkS
        rw [gk, if_pos c]
      · exact bkC_at g k (by omega) s (by omega)
    · rw [if_neg c]
      by_cases y : s = k
      · rw [y, hv_put gk]
        unfold bkS
        rw [if_neg c]
      · rw [hv_ne (Or.inl (by omega))]
        exact bkC_at g k (by omega) s (by omega)
theorem back_c {h : zH} {C : Nat → Int32} {lim n7 : Int32} (el : lim = 10 + n7) (h5 : hr h 0 5 = 31) (h0 : hr h 0 0 = 1) (n8 : hv h 1 8 = n7) (hs : ∀ s, s < 8 → hr h 31 s = 33 + 2 * s ∧ hget h (33 + 2 * s) 0 = some (.inl (.int (C s)))) : fx (B_X4_back_27 0) (0, []) ((0 : Int32), h) = ((1 : Int32), bkC h C lim 8) := by
  refine fx_for (F := B_X4_back_27 0) (fun j => (nI j, bkC h C lim j)) _ 8 ?_ (fun j hj => ?_)
  · unfold B_X4_back_27
    dsimp only
    rw [if_neg (by decide)]
  · have e5 : hr (bkC h C lim j) 0 5 = 31 := (hr_eq (bkC_ne j (Or.inl (by decide)))).trans h5
    have e0 : hr (bkC h C lim j) 0 0 = 1 := (hr_eq (bkC_ne j (Or.inr (fun s hs => by omega)))).trans h0
    have e1 : hr (bkC h C lim j) 31 j = 33 + 2 * j := (hr_eq (bkC_ne j (Or.inr (fun s hs => by omega)))).trans (hs j hj).1
    have e8 : hv (bkC h C lim j) 1 8 = n7 := (hv_eq (bkC_ne j (Or.inl (by decide)))).trans n8
    have ec : hv (bkC h C lim j) (33 + 2 * j) 0 = C j := by
      unfold hv
      rw [bkC_ne j (Or.inr (fun s hs => by omega)), (hs j hj).2]
    unfold B_X4_back_27
    simp only [letf]
    rw [if_pos ((lt8 j (by omega)).mpr hj), e5, e0, nI_c (by omega), e1, e8, ec, ← el, nI_s]
    show _ = Sum.inl (nI (j + 1), if C j < lim then bkC h C lim j else hput (bkC h C lim j) (33 + 2 * j) 0 (.inl (.int (-1 : Int32))))
    by_cases c : C j < lim
    · rw [if_pos c, if_pos c]
    · rw [if_neg c, if_neg c]
/-- the reference's -/
def bkR (h : zH) (m : Nat) : Nat → zH
  | 0 => h
  | k + 1 => if hv h 50 k = 2 ∧ ¬ hv h 63 k < nI m then hput (bkR h m k) 50 k (.inl (.int (0 : Int32))) else bkR h m k
theorem bkR_ne {h : zH} {m q i : Nat} : ∀ k, (q ≠ 50 ∨ k ≤ i) → hget (bkR h m k) q i = hget h q i
  | 0, _ => rfl
  | k + 1, hm => by
    have ih := bkR_ne (h := h) (m := m) (q := q) (i := i) k (by omega)
    unfold bkR
    by_cases c : hv h 50 k = 2 ∧ ¬ hv h 63 k < nI m
    · rw [if_pos c, hget_put_ne (by omega)]
      exact ih
    · rw [if_neg c]
      exact ih
theorem bkR_at {h : zH} {m : Nat} (g : ∀ s, s < 8 → ∃ w, hget h 50 s = some w) : ∀ k, k ≤ 8 → ∀ s, s < k → hv (bkR h m k) 50 s = if hv h 50 s = 2 ∧ ¬ hv h 63 s < nI m then 0 else hv h 50 s
  | 0, _, s, hs => absurd hs (Nat.not_lt_zero _)
  | k + 1, hk, s, hs => by
    obtain ⟨w, hw⟩ := g k (by omega)
    have gk : hget (bkR h m k) 50 k = some w := (bkR_ne k (Or.inr (Nat.le_refl _))).trans hw
    unfold bkR
    by_cases c : hv h 50 k = 2 ∧ ¬ hv h 63 k < nI m
    · rw [if_pos c]
      by_cases y : s = k
      · rw [y, hv_put gk, if_pos c]
      · rw [hv_ne (Or.inr y)]
        exact bkR_at g k (by omega) s (by omega)
    · rw [if_neg c]
      by_cases y : s = k
      · rw [y, if_neg c]
        exact hv_eq (bkR_ne k (Or.inr (Nat.le_refl _)))
      · exact bkR_at g k (by omega) s (by omega)
theorem back_r {h : zH} {m : Nat} (h0 : hr h 49 0 = 50) (h5 : hr h 49 5 = 63) (n17 : hv h 49 17 = nI m) : fx (B_X5_backA_24 49) (0, []) ((0 : Int32), h) = ((1 : Int32), bkR h m 8) := by
  refine fx_for (F := B_X5_backA_24 49) (fun j => (nI j, bkR h m j)) _ 8 ?_ (fun j hj => ?_)
  · unfold B_X5_backA_24
    dsimp only
    rw [if_neg (by decide)]
  · have e0 : hr (bkR h m j) 49 0 = 50 := (hr_eq (bkR_ne j (Or.inl (by decide)))).trans h0
    have e5 : hr (bkR h m j) 49 5 = 63 := (hr_eq (bkR_ne j (Or.inl (by decide)))).trans h5
    have e1 : hv (bkR h m j) 50 j = hv h 50 j := hv_eq (bkR_ne j (Or.inr (Nat.le_refl _)))
    have e2 : hv (bkR h m j) 63 j = hv h 63 j := hv_eq (bkR_ne j (Or.inl (by decide)))
    have e17 : hv (bkR h m j) 49 17 = nI m := (hv_eq (bkR_ne j (Or.inl (by decide)))).trans n17
    unfold B_X5_backA_24
    simp only [letf]
    rw [if_pos ((lt8 j (by omega)).mpr hj), e0, e5, nI_c (by omega), e1, e2, e17, nI_s]
    show _ = Sum.inl (nI (j + 1), if hv h 50 j = 2 ∧ ¬ hv h 63 j < nI m then hput (bkR h m j) 50 j (.inl (.int (0 : Int32))) else bkR h m j)
    by_cases c : hv h 50 j = 2
    · rw [if_pos c]
      by_cases d : hv h 63 j < nI m
      · rw [if_pos d, if_neg (show ¬ (hv h 50 j = 2 ∧ ¬ hv h 63 j < nI m) from fun y => y.2 d)]
      · rw [if_neg d, if_pos (show hv h 50 j = 2 ∧ ¬ hv h 63 j < nI m from ⟨c, d⟩)]
    · rw [if_neg c, if_neg (show ¬ (hv h 50 j = 2 ∧ ¬ hv h 63 j < nI m) from fun y => c y.1)]
