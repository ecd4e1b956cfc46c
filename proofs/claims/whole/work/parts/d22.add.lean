/-- a thing more, a buyer more -/
def adT (S : ST) (k s a : Int32) : ST := fun c i => if c = 0 ∧ i = 7 then S 0 7 + 1 else if 2 ≤ c ∧ c ≤ 6 ∧ i = nT S then (if c = 2 then k else if c = 3 then s else if c = 4 then a else if c = 5 then 0 else -1) else S c i
def adB (S : ST) (p : Int32) : ST := fun c i => if c = 0 ∧ i = 8 then S 0 8 + 1 else if c = 7 ∧ i = nB S then p else S c i
theorem clamp_s {x : Int32} (h0 : 0 ≤ x.toInt) (h1 : x.toInt ≤ 1000) : (x + 1).toInt = x.toInt + 1 ∧ (x + 1).toNatClampNeg = x.toNatClampNeg + 1 := by
  have a := i_iadd (x := x) (y := 1) (by rw [e1]; omega) (by rw [e1]; omega)
  rw [e1] at a
  have b : (x + 1).toNatClampNeg = (x + 1).toInt.toNat := rfl
  have c : x.toNatClampNeg = x.toInt.toNat := rfl
  exact ⟨a, by omega⟩
theorem row_ad {n i : Nat} {x y : Int32} : (if i < n + 1 then (if i = n then x else y) else 0) = if i = n then x else if i < n then y else 0 := by
  by_cases e : i = n
  · rw [if_pos e, if_pos (by omega), if_pos e]
  · rw [if_neg e, if_neg e]
    by_cases f : i < n
    · rw [if_pos (by omega), if_pos f]
    · rw [if_neg (by omega), if_neg f]
theorem mkC_adT {rd rd' : Nat → Nat → Int32} {jj : Int64} {k s a : Int32} {n : Nat} (hn : (rd 0 8).toNatClampNeg = n) (hc : (rd 0 8 + 1).toNatClampNeg = n + 1) (hB : (rd 0 14).toNatClampNeg ≤ 4) (h8 : n < 8) (hz : ∀ i, i < 32 → ¬ (i % 8 < (rd 0 8).toNatClampNeg ∧ i / 8 < (rd 0 14).toNatClampNeg) → rd 7 i = 0)
    (hs : rd' 0 8 = rd 0 8 + 1) (h0 : ∀ i, i ≠ 8 → rd' 0 i = rd 0 i) (h1 : ∀ i, rd' 1 i = if i = n then k else rd 1 i) (h2 : ∀ i, rd' 2 i = if i = n then s else rd 2 i) (h3 : ∀ i, rd' 3 i = if i = n then a else rd 3 i) (h4 : ∀ i, rd' 4 i = if i = n then 0 else rd 4 i) (h5 : ∀ i, rd' 5 i = if i = n then -1 else rd 5 i) (h6 : ∀ i, rd' 6 i = rd 6 i) (h7 : ∀ i, rd' 7 i = rd 7 i) : mkC rd' jj = adT (mkC rd jj) k s a := by
  have row : ∀ (c i : Nat) (x : Int32), 2 ≤ c → c ≤ 6 → (∀ j, rd' (c - 1) j = if j = n then x else rd (c - 1) j) → (if i < (rd' 0 8).toNatClampNeg then rd' (c - 1) i else 0) = if i = n then x else if i < (rd 0 8).toNatClampNeg then rd (c - 1) i else 0 := by
    intro c i x _ _ hx
    rw [hs, hc, hx, row_ad, hn]
  have ad : ∀ (c i : Nat) (x : Int32), 2 ≤ c → c ≤ 6 → (if c = 2 then k else if c = 3 then s else if c = 4 then a else if c = 5 then 0 else -1) = x → adT (mkC rd jj) k s a c i = if i = n then x else mkC rd jj c i := by
    intro c i x c2 c6 hx
    have nn : nT (mkC rd jj) = n := hn
    unfold adT
    rw [if_neg (fun e => by omega), nn, hx]
    by_cases e : i = n
    · rw [if_pos ⟨c2, c6, e⟩, if_pos e]
    · rw [if_neg (fun y => e y.2.2), if_neg e]
  funext c' i'
  match c' with
  | 0 =>
    match i' with
    | 0 => exact h0 0 (by decide)
    | 1 => exact h0 1 (by decide)
    | 2 => exact h0 2 (by decide)
    | 3 => exact h0 3 (by decide)
    | 4 => exact h0 4 (by decide)
    | 5 => exact h0 5 (by decide)
    | 6 => exact h0 6 (by decide)
    | 7 => exact hs
    | 8 => exact h0 14 (by decide)
    | _ + 9 => rfl
  | 1 =>
    show (if 1 ≤ i' ∧ i' ≤ (rd' 0 0).toNatClampNeg then nI (nb (jN jj) i') else 0) = (if 1 ≤ i' ∧ i' ≤ (rd 0 0).toNatClampNeg then nI (nb (jN jj) i') else 0)
    rw [h0 0 (by decide)]
  | 2 => exact (row 2 i' k (by decide) (by decide) h1).trans (ad 2 i' k (by decide) (by decide) rfl).symm
  | 3 => exact (row 3 i' s (by decide) (by decide) h2).trans (ad 3 i' s (by decide) (by decide) rfl).symm
  | 4 => exact (row 4 i' a (by decide) (by decide) h3).trans (ad 4 i' a (by decide) (by decide) rfl).symm
  | 5 => exact (row 5 i' 0 (by decide) (by decide) h4).trans (ad 5 i' 0 (by decide) (by decide) rfl).symm
  | 6 => exact (row 6 i' (-1) (by decide) (by decide) h5).trans (ad 6 i' (-1) (by decide) (by decide) rfl).symm
  | 7 =>
    show (if i' < (rd' 0 14).toNatClampNeg then rd' 6 i' else 0) = (if i' < (rd 0 14).toNatClampNeg then rd 6 i' else 0)
    rw [h0 14 (by decide), h6]
  | 8 =>
    show (if i' % 8 < (rd' 0 8).toNatClampNeg ∧ i' / 8 < (rd' 0 14).toNatClampNeg then rd' 7 i' else 0) = (if i' % 8 < (rd 0 8).toNatClampNeg ∧ i' / 8 < (rd 0 14).toNatClampNeg then rd 7 i' else 0)
    rw [hs, hc, h0 14 (by decide), h7]
    by_cases e : i' % 8 < (rd 0 8).toNatClampNeg ∧ i' / 8 < (rd 0 14).toNatClampNeg
    · rw [if_pos e, if_pos ⟨by omega, e.2⟩]
    · rw [if_neg e]
      by_cases f : i' % 8 < n + 1 ∧ i' / 8 < (rd 0 14).toNatClampNeg
      · rw [if_pos f]
        exact hz i' (by omega) e
      · rw [if_neg f]
  | _ + 9 => rfl
theorem mkR_adT {rd rd' : Nat → Nat → Int32} {k s a : Int32} {n : Nat} (hn : (rd 0 17).toNatClampNeg = n) (hc : (rd 0 17 + 1).toNatClampNeg = n + 1) (hB : (rd 0 23).toNatClampNeg ≤ 4) (h8 : n < 8)
    (hs : rd' 0 17 = rd 0 17 + 1) (h0 : ∀ i, i ≠ 17 → rd' 0 i = rd 0 i) (h1 : ∀ i, rd' 18 i = if i = n then k else rd 18 i) (h2 : ∀ i, rd' 19 i = if i = n then s else rd 19 i) (h3 : ∀ i, rd' 20 i = if i = n then a else rd 20 i) (h4 : ∀ i, rd' 21 i = if i = n then 0 else rd 21 i) (h5 : ∀ i, rd' 22 i = if i = n then -1 else rd 22 i) (h6 : ∀ i, rd' 23 i = rd 23 i) (h9 : ∀ i, rd' 17 i = rd 17 i) (h7 : ∀ b i, b < 4 → rd' (25 + b) i = if i = n then 0 else rd (25 + b) i) : mkR rd' = adT (mkR rd) k s a := by
  have row : ∀ (c i : Nat) (x : Int32), 2 ≤ c → c ≤ 6 → (∀ j, rd' (c + 16) j = if j = n then x else rd (c + 16) j) → (if i < (rd' 0 17).toNatClampNeg then rd' (c + 16) i else 0) = if i = n then x else if i < (rd 0 17).toNatClampNeg then rd (c + 16) i else 0 := by
    intro c i x _ _ hx
    rw [hs, hc, hx, row_ad, hn]
  have ad : ∀ (c i : Nat) (x : Int32), 2 ≤ c → c ≤ 6 → (if c = 2 then k else if c = 3 then s else if c = 4 then a else if c = 5 then 0 else -1) = x → adT (mkR rd) k s a c i = if i = n then x else mkR rd c i := by
    intro c i x c2 c6 hx
    have nn : nT (mkR rd) = n := hn
    unfold adT
    rw [if_neg (fun e => by omega), nn, hx]
    by_cases e : i = n
    · rw [if_pos ⟨c2, c6, e⟩, if_pos e]
    · rw [if_neg (fun y => e y.2.2), if_neg e]
  funext c' i'
  match c' with
  | 0 =>
    match i' with
    | 0 => exact h0 9 (by decide)
    | 1 => exact h0 10 (by decide)
    | 2 => exact h0 11 (by decide)
    | 3 => exact h0 12 (by decide)
    | 4 => exact h0 13 (by decide)
    | 5 => exact h0 14 (by decide)
    | 6 => exact h0 15 (by decide)
    | 7 => exact hs
    | 8 => exact h0 23 (by decide)
    | _ + 9 => rfl
  | 1 =>
    show (if 1 ≤ i' ∧ i' ≤ (rd' 0 9).toNatClampNeg then 1 - rd' 17 i' else 0) = (if 1 ≤ i' ∧ i' ≤ (rd 0 9).toNatClampNeg then 1 - rd 17 i' else 0)
    rw [h0 9 (by decide), h9]
  | 2 => exact (row 2 i' k (by decide) (by decide) h1).trans (ad 2 i' k (by decide) (by decide) rfl).symm
  | 3 => exact (row 3 i' s (by decide) (by decide) h2).trans (ad 3 i' s (by decide) (by decide) rfl).symm
  | 4 => exact (row 4 i' a (by decide) (by decide) h3).trans (ad 4 i' a (by decide) (by decide) rfl).symm
  | 5 => exact (row 5 i' 0 (by decide) (by decide) h4).trans (ad 5 i' 0 (by decide) (by decide) rfl).symm
  | 6 => exact (row 6 i' (-1) (by decide) (by decide) h5).trans (ad 6 i' (-1) (by decide) (by decide) rfl).symm
  | 7 =>
    show (if i' < (rd' 0 23).toNatClampNeg then rd' 23 i' else 0) = (if i' < (rd 0 23).toNatClampNeg then rd 23 i' else 0)
    rw [h0 23 (by decide), h6]
  | 8 =>
    show (if i' % 8 < (rd' 0 17).toNatClampNeg ∧ i' / 8 < (rd' 0 23).toNatClampNeg then rd' (25 + i' / 8) (i' % 8) else 0) = (if i' % 8 < (rd 0 17).toNatClampNeg ∧ i' / 8 < (rd 0 23).toNatClampNeg then rd (25 + i' / 8) (i' % 8) else 0)
    rw [hs, hc, h0 23 (by decide), hn]
    by_cases f : i' / 8 < (rd 0 23).toNatClampNeg
    · rw [h7 (i' / 8) (i' % 8) (by omega)]
      by_cases g : i' % 8 = n
      · rw [if_pos g, if_pos ⟨by omega, f⟩, if_neg (fun y => by omega)]
      · rw [if_neg g]
        by_cases e : i' % 8 < n
        · rw [if_pos ⟨by omega, f⟩, if_pos ⟨e, f⟩]
        · rw [if_neg (fun y => by omega), if_neg (fun y => e y.1)]
    · rw [if_neg (fun y => f y.2), if_neg (fun y => f y.2)]
  | _ + 9 => rfl
theorem mkC_adB {rd rd' : Nat → Nat → Int32} {jj : Int64} {p : Int32} {n : Nat} (hn : (rd 0 14).toNatClampNeg = n) (hc : (rd 0 14 + 1).toNatClampNeg = n + 1) (h4 : n < 4) (hz : ∀ i, i < 32 → ¬ (i % 8 < (rd 0 8).toNatClampNeg ∧ i / 8 < (rd 0 14).toNatClampNeg) → rd 7 i = 0)
    (hs : rd' 0 14 = rd 0 14 + 1) (h0 : ∀ i, i ≠ 14 → rd' 0 i = rd 0 i) (hr : ∀ d i, 1 ≤ d → d ≤ 5 → rd' d i = rd d i) (h6 : ∀ i, rd' 6 i = if i = n then p else rd 6 i) (h7 : ∀ i, rd' 7 i = rd 7 i) : mkC rd' jj = adB (mkC rd jj) p := by
  have row : ∀ (c i : Nat), 2 ≤ c → c ≤ 6 → (if i < (rd' 0 8).toNatClampNeg then rd' (c - 1) i else 0) = if i < (rd 0 8).toNatClampNeg then rd (c - 1) i else 0 := by
    intro c i c2 c6
    rw [h0 8 (by decide), hr (c - 1) i (by omega) (by omega)]
  funext c' i'
  match c' with
  | 0 =>
    match i' with
    | 0 => exact h0 0 (by decide)
    | 1 => exact h0 1 (by decide)
    | 2 => exact h0 2 (by decide)
    | 3 => exact h0 3 (by decide)
    | 4 => exact h0 4 (by decide)
    | 5 => exact h0 5 (by decide)
    | 6 => exact h0 6 (by decide)
    | 7 => exact h0 8 (by decide)
    | 8 => exact hs
    | _ + 9 => rfl
  | 1 =>
    show (if 1 ≤ i' ∧ i' ≤ (rd' 0 0).toNatClampNeg then nI (nb (jN jj) i') else 0) = (if 1 ≤ i' ∧ i' ≤ (rd 0 0).toNatClampNeg then nI (nb (jN jj) i') else 0)
    rw [h0 0 (by decide)]
  | 2 => exact row 2 i' (by decide) (by decide)
  | 3 => exact row 3 i' (by decide) (by decide)
  | 4 => exact row 4 i' (by decide) (by decide)
  | 5 => exact row 5 i' (by decide) (by decide)
  | 6 => exact row 6 i' (by decide) (by decide)
  | 7 =>
    have nn : nB (mkC rd jj) = n := hn
    show (if i' < (rd' 0 14).toNatClampNeg then rd' 6 i' else 0) = (if 7 = 7 ∧ i' = nB (mkC rd jj) then p else if i' < (rd 0 14).toNatClampNeg then rd 6 i' else 0)
    rw [hs, hc, h6, row_ad, hn, nn]
    by_cases e : i' = n
    · rw [if_pos e, if_pos ⟨rfl, e⟩]
    · rw [if_neg e, if_neg (show ¬ (7 = 7 ∧ i' = n) from fun y => e y.2)]
  | 8 =>
    show (if i' % 8 < (rd' 0 8).toNatClampNeg ∧ i' / 8 < (rd' 0 14).toNatClampNeg then rd' 7 i' else 0) = (if i' % 8 < (rd 0 8).toNatClampNeg ∧ i' / 8 < (rd 0 14).toNatClampNeg then rd 7 i' else 0)
    rw [hs, hc, h0 8 (by decide), h7]
    by_cases e : i' % 8 < (rd 0 8).toNatClampNeg ∧ i' / 8 < (rd 0 14).toNatClampNeg
    · rw [if_pos e, if_pos ⟨e.1, by omega⟩]
    · rw [if_neg e]
      by_cases f : i' % 8 < (rd 0 8).toNatClampNeg ∧ i' / 8 < n + 1
      · rw [if_pos f]
        exact hz i' (by omega) e
      · rw [if_neg f]
  | _ + 9 => rfl
theorem mkR_adB {rd rd' : Nat → Nat → Int32} {p : Int32} {n : Nat} (hn : (rd 0 23).toNatClampNeg = n) (hc : (rd 0 23 + 1).toNatClampNeg = n + 1) (h4 : n < 4)
    (hs : rd' 0 23 = rd 0 23 + 1) (h0 : ∀ i, i ≠ 23 → rd' 0 i = rd 0 i) (hr : ∀ d i, 17 ≤ d → d ≤ 22 → rd' d i = rd d i) (h6 : ∀ i, rd' 23 i = if i = n then p else rd 23 i) (h7 : ∀ b i, b < 4 → i < 8 → rd' (25 + b) i = if b = n then 0 else rd (25 + b) i) : mkR rd' = adB (mkR rd) p := by
  have row : ∀ (c i : Nat), 2 ≤ c → c ≤ 6 → (if i < (rd' 0 17).toNatClampNeg then rd' (c + 16) i else 0) = if i < (rd 0 17).toNatClampNeg then rd (c + 16) i else 0 := by
    intro c i c2 c6
    rw [h0 17 (by decide), hr (c + 16) i (by omega) (by omega)]
  funext c' i'
  match c' with
  | 0 =>
    match i' with
    | 0 => exact h0 9 (by decide)
    | 1 => exact h0 10 (by decide)
    | 2 => exact h0 11 (by decide)
    | 3 => exact h0 12 (by decide)
    | 4 => exact h0 13 (by decide)
    | 5 => exact h0 14 (by decide)
    | 6 => exact h0 15 (by decide)
    | 7 => exact h0 17 (by decide)
    | 8 => exact hs
    | _ + 9 => rfl
  | 1 =>
    show (if 1 ≤ i' ∧ i' ≤ (rd' 0 9).toNatClampNeg then 1 - rd' 17 i' else 0) = (if 1 ≤ i' ∧ i' ≤ (rd 0 9).toNatClampNeg then 1 - rd 17 i' else 0)
    rw [h0 9 (by decide), hr 17 i' (by decide) (by decide)]
  | 2 => exact row 2 i' (by decide) (by decide)
  | 3 => exact row 3 i' (by decide) (by decide)
  | 4 => exact row 4 i' (by decide) (by decide)
  | 5 => exact row 5 i' (by decide) (by decide)
  | 6 => exact row 6 i' (by decide) (by decide)
  | 7 =>
    have nn : nB (mkR rd) = n := hn
    show (if i' < (rd' 0 23).toNatClampNeg then rd' 23 i' else 0) = (if 7 = 7 ∧ i' = nB (mkR rd) then p else if i' < (rd 0 23).toNatClampNeg then rd 23 i' else 0)
    rw [hs, hc, h6, row_ad, hn, nn]
    by_cases e : i' = n
    · rw [if_pos e, if_pos ⟨rfl, e⟩]
    · rw [if_neg e, if_neg (show ¬ (7 = 7 ∧ i' = n) from fun y => e y.2)]
  | 8 =>
    show (if i' % 8 < (rd' 0 17).toNatClampNeg ∧ i' / 8 < (rd' 0 23).toNatClampNeg then rd' (25 + i' / 8) (i' % 8) else 0) = (if i' % 8 < (rd 0 17).toNatClampNeg ∧ i' / 8 < (rd 0 23).toNatClampNeg then rd (25 + i' / 8) (i' % 8) else 0)
    rw [hs, hc, h0 17 (by decide), hn]
    by_cases f : i' / 8 < n + 1
    · rw [h7 (i' / 8) (i' % 8) (by omega) (by omega)]
      by_cases g : i' / 8 = n
      · rw [if_pos g, ite_self, if_neg (fun y => by omega)]
      · rw [if_neg g]
        by_cases e : i' % 8 < (rd 0 17).toNatClampNeg
        · rw [if_pos ⟨e, f⟩, if_pos ⟨e, by omega⟩]
        · rw [if_neg (fun y => e y.1), if_neg (fun y => e y.1)]
    · rw [if_neg (fun y => f y.2), if_neg (fun y => by omega)]
  | _ + 9 => rfl
section
variable {T : List Nat} {h h' : zH} {q : Nat} {S : ST}
theorem cm_addT (m : CM T q h S h') (w : WF S) (h8 : nT S < 8) (k s a : Int32) : (F_X1_addThing h' q k s a).1 = S 0 7 ∧ CM T q h (adT S k s a) (F_X1_addThing h' q k s a).2 := by
  have h0 := WF_th w
  have hn := nT_i w
  have b4 := nB_4 w
  have e8 : (8 : Int32).toInt = 8 := rfl
  unfold F_X1_addThing
  simp only [letf]
  rw [cm_n7 m, if_pos (by rw [i_lt, e8]; omega)]
  refine ⟨rfl, ?_⟩
  obtain ⟨rd, jj, c, kk, rfl, so⟩ := m
  have n8 : (rd 0 8).toNatClampNeg < 8 := h8
  have h0 : 0 ≤ (rd 0 8).toInt ∧ (rd 0 8).toInt ≤ 8 := h0
  have b4 : (rd 0 14).toNatClampNeg ≤ 4 := b4
  have ec : mkC rd jj 0 7 = rd 0 8 := rfl
  rw [ec]
  have c1 := CR_put (d := 1) (i := (rd 0 8).toNatClampNeg) (x := k) c (Or.inr (Or.inl ⟨rfl, n8⟩))
  have c2 := CR_put (d := 2) (i := (rd 0 8).toNatClampNeg) (x := s) c1 (Or.inr (Or.inr (Or.inl ⟨rfl, n8⟩)))
  have c3 := CR_put (d := 3) (i := (rd 0 8).toNatClampNeg) (x := a) c2 (Or.inr (Or.inr (Or.inr (Or.inl ⟨rfl, n8⟩))))
  have c4 := CR_put (d := 4) (i := (rd 0 8).toNatClampNeg) (x := 0) c3 (Or.inr (Or.inr (Or.inr (Or.inr (Or.inl ⟨rfl, n8⟩)))))
  have c5 := CR_put (d := 5) (i := (rd 0 8).toNatClampNeg) (x := -1) c4 (Or.inr (Or.inr (Or.inr (Or.inr (Or.inr (Or.inl ⟨rfl, n8⟩))))))
  have r8 := CR_0 c5 8
  rw [cl9 c.2.1, cl10 c1.2.1, cl11 c2.2.1, cl12 c3.2.1, cl13 c4.2.1, r8]
  have c6 := CR_put (d := 0) (i := 8) (x := rd 0 8 + 1) c5 (Or.inl ⟨rfl, by decide⟩)
  have cs := (clamp_s h0.1 (by omega)).2
  refine ⟨_, jj, c6, ⟨kk.1, fun i hi hn2 => kk.2 i hi (fun y => hn2 ⟨?_, y.2⟩)⟩, mkC_adT rfl cs b4 n8 kk.2 rfl (fun i hi => if_neg (fun y => hi y.2)) (fun i => by simp [upR]) (fun i => by simp [upR]) (fun i => by simp [upR]) (fun i => by simp [upR]) (fun i => by simp [upR]) (fun i => by simp [upR]) (fun i => by simp [upR]), sO_t (sO_t (sO_t (sO_t (sO_t (sO_t so (sO_put (d := 1) (by decide))) (sO_put (d := 2) (by decide))) (sO_put (d := 3) (by decide))) (sO_put (d := 4) (by decide))) (sO_put (d := 5) (by decide))) (sO_put (d := 0) (by decide))⟩
  show i % 8 < (rd 0 8 + 1).toNatClampNeg
  rw [cs]
  omega
theorem cm_addB (m : CM T q h S h') (w : WF S) (h4 : nB S < 4) (p : Int32) : (F_X1_addBuyer h' q p).1 = S 0 8 ∧ CM T q h (adB S p) (F_X1_addBuyer h' q p).2 := by
  have h0 := WF_bu w
  have hn := nB_i w
  have e4 : (4 : Int32).toInt = 4 := rfl
  unfold F_X1_addBuyer
  simp only [letf]
  rw [cm_n8 m, if_pos (by rw [i_lt, e4]; omega)]
  refine ⟨rfl, ?_⟩
  obtain ⟨rd, jj, c, kk, rfl, so⟩ := m
  have n4 : (rd 0 14).toNatClampNeg < 4 := h4
  have h0 : 0 ≤ (rd 0 14).toInt ∧ (rd 0 14).toInt ≤ 4 := h0
  have ec : mkC rd jj 0 8 = rd 0 14 := rfl
  rw [ec]
  have c1 := CR_put (d := 6) (i := (rd 0 14).toNatClampNeg) (x := p) c (Or.inr (Or.inr (Or.inr (Or.inr (Or.inr (Or.inr (Or.inl ⟨rfl, n4⟩)))))))
  have r8 := CR_0 c1 14
  rw [cl15 c.2.1, r8]
  have c6 := CR_put (d := 0) (i := 14) (x := rd 0 14 + 1) c1 (Or.inl ⟨rfl, by decide⟩)
  have cs := (clamp_s h0.1 (by omega)).2
  refine ⟨_, jj, c6, ⟨kk.1, fun i hi hn2 => kk.2 i hi (fun y => hn2 ⟨y.1, ?_⟩)⟩, mkC_adB rfl cs n4 kk.2 rfl (fun i hi => if_neg (fun y => hi y.2)) (fun d i h1 h5 => (if_neg (fun y => by omega)).trans (if_neg (fun y => by omega))) (fun i => by simp [upR]) (fun i => by simp [upR]), sO_t (sO_t so (sO_put (d := 6) (by decide))) (sO_put (d := 0) (by decide))⟩
  show i / 8 < (rd 0 14 + 1).toNatClampNeg
  rw [cs]
  omega
theorem rm_addT (m : RM T q h S h') (w : WF S) (h8 : nT S < 8) (k s a : Int32) : RM T q h (adT S k s a) (F_X5_addThing h' q k s a) := by
  have h0 := WF_th w
  have hn := nT_i w
  have b4 := nB_4 w
  obtain ⟨rd, c, kk, rfl, so⟩ := m
  have n8 : (rd 0 17).toNatClampNeg < 8 := h8
  have h0 : 0 ≤ (rd 0 17).toInt ∧ (rd 0 17).toInt ≤ 8 := h0
  have b4 : (rd 0 23).toNatClampNeg ≤ 4 := b4
  unfold F_X5_addThing
  simp only [letf]
  have c1 := RR_put (d := 18) (i := (rd 0 17).toNatClampNeg) (x := k) c (Or.inr (Or.inr (Or.inl ⟨rfl, n8⟩)))
  have c2 := RR_put (d := 19) (i := (rd 0 17).toNatClampNeg) (x := s) c1 (Or.inr (Or.inr (Or.inr (Or.inl ⟨rfl, n8⟩))))
  have c3 := RR_put (d := 20) (i := (rd 0 17).toNatClampNeg) (x := a) c2 (Or.inr (Or.inr (Or.inr (Or.inr (Or.inl ⟨rfl, n8⟩)))))
  have c4 := RR_put (d := 21) (i := (rd 0 17).toNatClampNeg) (x := 0) c3 (Or.inr (Or.inr (Or.inr (Or.inr (Or.inr (Or.inl ⟨rfl, n8⟩))))))
  have c5 := RR_put (d := 22) (i := (rd 0 17).toNatClampNeg) (x := -1) c4 (Or.inr (Or.inr (Or.inr (Or.inr (Or.inr (Or.inr (Or.inl ⟨rfl, n8⟩)))))))
  have r0 : hv h' q 17 = rd 0 17 := RR_0 c 17
  have r1 := RR_0 c1 17
  have r2 := RR_0 c2 17
  have r3 := RR_0 c3 17
  have r4 := RR_0 c4 17
  rw [r0, rl18 c.2.1, r1, rl19 c1.2.1, show upR rd 18 (rd 0 17).toNatClampNeg k 0 17 = rd 0 17 from rfl, r2, rl20 c2.2.1, show upR (upR rd 18 (rd 0 17).toNatClampNeg k) 19 (rd 0 17).toNatClampNeg s 0 17 = rd 0 17 from rfl, r3, rl21 c3.2.1, show upR (upR (upR rd 18 (rd 0 17).toNatClampNeg k) 19 (rd 0 17).toNatClampNeg s) 20 (rd 0 17).toNatClampNeg a 0 17 = rd 0 17 from rfl, r4, rl22 c4.2.1, show upR (upR (upR (upR rd 18 (rd 0 17).toNatClampNeg k) 19 (rd 0 17).toNatClampNeg s) 20 (rd 0 17).toNatClampNeg a) 21 (rd 0 17).toNatClampNeg 0 0 17 = rd 0 17 from rfl]
  have s5 : sQ q h _ := sQ_t (sQ_t (sQ_t (sQ_t (sQ_t so (sQ_put (d := 18) (v := .inl (.int k)) (i := (rd 0 17).toNatClampNeg) (Or.inr (Or.inr (Or.inl ⟨rfl, n8⟩))))) (sQ_put (d := 19) (v := .inl (.int s)) (i := (rd 0 17).toNatClampNeg) (Or.inr (Or.inr (Or.inr (Or.inl ⟨rfl, n8⟩)))))) (sQ_put (d := 20) (v := .inl (.int a)) (i := (rd 0 17).toNatClampNeg) (Or.inr (Or.inr (Or.inr (Or.inr (Or.inl ⟨rfl, n8⟩))))))) (sQ_put (d := 21) (v := .inl (.int 0)) (i := (rd 0 17).toNatClampNeg) (Or.inr (Or.inr (Or.inr (Or.inr (Or.inr (Or.inl ⟨rfl, n8⟩)))))))) (sQ_put (d := 22) (v := .inl (.int (-1))) (i := (rd 0 17).toNatClampNeg) (Or.inr (Or.inr (Or.inr (Or.inr (Or.inr (Or.inr (Or.inl ⟨rfl, n8⟩))))))))
  have cs := (clamp_s h0.1 (by omega)).2
  generalize h5e : hput _ (q + 22) (rd 0 17).toNatClampNeg (.inl (.int (-1))) = h5 at c5 s5 ⊢
  generalize hrd5 : upR _ 22 (rd 0 17).toNatClampNeg (-1) = rd5 at c5
  have f0 : ∀ i, rd5 0 i = rd 0 i := fun i => by subst hrd5; simp [upR]
  have f18 : ∀ i, rd5 18 i = if i = (rd 0 17).toNatClampNeg then k else rd 18 i := fun i => by subst hrd5; simp [upR]
  have f19 : ∀ i, rd5 19 i = if i = (rd 0 17).toNatClampNeg then s else rd 19 i := fun i => by subst hrd5; simp [upR]
  have f20 : ∀ i, rd5 20 i = if i = (rd 0 17).toNatClampNeg then a else rd 20 i := fun i => by subst hrd5; simp [upR]
  have f21 : ∀ i, rd5 21 i = if i = (rd 0 17).toNatClampNeg then 0 else rd 21 i := fun i => by subst hrd5; simp [upR]
  have f22 : ∀ i, rd5 22 i = if i = (rd 0 17).toNatClampNeg then -1 else rd 22 i := fun i => by subst hrd5; simp [upR]
  have fo : ∀ d i, d ≠ 18 → d ≠ 19 → d ≠ 20 → d ≠ 21 → d ≠ 22 → rd5 d i = rd d i := fun d i g1 g2 g3 g4 g5 => by subst hrd5; simp [upR, g1, g2, g3, g4, g5]
  have e4 : (4 : Int32).toInt = 4 := rfl
  refine fx_forI (F := B_X5_addThing_53 q k s a) (d := []) (fun j (x : Int32 × zH) => x.1 = nI j ∧ ∃ rd2, RR T x.2 q rd2 ∧ (∀ d i, rd2 d i = if 25 ≤ d ∧ d < 25 + j ∧ i = (rd 0 17).toNatClampNeg then 0 else rd5 d i) ∧ sQ q h x.2) (fun r => RM T q h (adT (mkR rd) k s a) r) 4 (fun x hx => ?_) (fun j x hj hx => ?_) ?_
  · obtain ⟨x1, x2⟩ := x
    obtain ⟨e, rd2, g1, g2, g3⟩ := hx
    have e : x1 = nI 4 := e
    have g1 : RR T x2 q rd2 := g1
    subst e
    have z17 : hv x2 q 17 = rd 0 17 := by
      have := RR_0 g1 17
      rw [this, g2, if_neg (fun y => by omega), f0]
    refine ⟨hput x2 q 17 (.inl (.int (rd 0 17 + 1))), ?_, ?_⟩
    · unfold B_X5_addThing_53
      simp only [letf]
      rw [if_neg (by rw [i_lt, e4, nI_t (by omega)]; omega), z17]
    · have g6 := RR_put (d := 0) (i := 17) (x := rd 0 17 + 1) g1 (Or.inl ⟨rfl, by decide⟩)
      have u : ∀ d i, ¬ (d = 0 ∧ i = 17) → upR rd2 0 17 (rd 0 17 + 1) d i = rd2 d i := fun d i y => if_neg y
      have v : ∀ d i, (d < 25) → ¬ (d = 0 ∧ i = 17) → upR rd2 0 17 (rd 0 17 + 1) d i = rd5 d i := fun d i y z => by rw [u d i z, g2, if_neg (fun y => by omega)]
      refine ⟨_, g6, fun i hi => ?_, mkR_adT rfl cs b4 n8 rfl (fun i hi => ?_) (fun i => ?_) (fun i => ?_) (fun i => ?_) (fun i => ?_) (fun i => ?_) (fun i => ?_) (fun i => ?_) (fun b i hb => ?_), sQ_t g3 (sQ_put (d := 0) (Or.inl ⟨rfl, by decide⟩))⟩
      · rw [v 17 i (by decide) (by omega), fo 17 i (by decide) (by decide) (by decide) (by decide) (by decide)]
        exact kk i hi
      · rw [v 0 i (by decide) (by omega), f0]
      · rw [v 18 i (by decide) (by omega), f18]
      · rw [v 19 i (by decide) (by omega), f19]
      · rw [v 20 i (by decide) (by omega), f20]
      · rw [v 21 i (by decide) (by omega), f21]
      · rw [v 22 i (by decide) (by omega), f22]
      · rw [v 23 i (by decide) (by omega), fo 23 i (by decide) (by decide) (by decide) (by decide) (by decide)]
      · rw [v 17 i (by decide) (by omega), fo 17 i (by decide) (by decide) (by decide) (by decide) (by decide)]
      · rw [u (25 + b) i (by omega), g2, fo (25 + b) i (by omega) (by omega) (by omega) (by omega) (by omega)]
        by_cases y : i = (rd 0 17).toNatClampNeg
        · rw [if_pos y, if_pos ⟨by omega, by omega, y⟩]
        · rw [if_neg y, if_neg (fun z => y z.2.2)]
  · obtain ⟨x1, x2⟩ := x
    obtain ⟨e, rd2, g1, g2, g3⟩ := hx
    have e : x1 = nI j := e
    have g1 : RR T x2 q rd2 := g1
    subst e
    have z17 : hv x2 q 17 = rd 0 17 := by
      have := RR_0 g1 17
      rw [this, g2, if_neg (fun y => by omega), f0]
    have g7 := RR_put (d := 25 + j) (i := (rd 0 17).toNatClampNeg) (x := 0) g1 (Or.inr (Or.inr (Or.inr (Or.inr (Or.inr (Or.inr (Or.inr (Or.inr ⟨_, hj, rfl, n8⟩))))))))
    refine Or.inr ⟨(nI (j + 1), hput x2 (q + (25 + j)) (rd 0 17).toNatClampNeg (.inl (.int 0))), ?_, rfl, _, g7, fun d i => ?_, sQ_t g3 (sQ_put (Or.inr (Or.inr (Or.inr (Or.inr (Or.inr (Or.inr (Or.inr (Or.inr ⟨_, hj, rfl, n8⟩)))))))))⟩
    · unfold B_X5_addThing_53
      simp only [letf]
      rw [if_pos (by rw [i_lt, e4, nI_t (by omega)]; omega), z17, rl25 g1.2.1, nI_c (by omega), (g1.2.1.2.2 j hj).1, Nat.add_assoc, nI_s]
    · show (if d = 25 + j ∧ i = (rd 0 17).toNatClampNeg then 0 else rd2 d i) = _
      rw [g2]
      by_cases y : d = 25 + j ∧ i = (rd 0 17).toNatClampNeg
      · rw [if_pos y, if_pos ⟨by omega, by omega, y.2⟩]
      · rw [if_neg y]
        by_cases z : 25 ≤ d ∧ d < 25 + j ∧ i = (rd 0 17).toNatClampNeg
        · rw [if_pos z, if_pos ⟨z.1, by omega, z.2.2⟩]
        · rw [if_neg z, if_neg (fun t => by omega)]
  · exact ⟨rfl, rd5, c5, fun d i => (if_neg (fun y => by omega)).symm, s5⟩
theorem rm_addB (m : RM T q h S h') (w : WF S) (h4 : nB S < 4) (p : Int32) : RM T q h (adB S p) (F_X5_addBuyer h' q p) := by
  have h0 := WF_bu w
  have hn := nB_i w
  obtain ⟨rd, c, kk, rfl, so⟩ := m
  have n4 : (rd 0 23).toNatClampNeg < 4 := h4
  have h0 : 0 ≤ (rd 0 23).toInt ∧ (rd 0 23).toInt ≤ 4 := h0
  unfold F_X5_addBuyer
  simp only [letf]
  have c1 := RR_put (d := 23) (i := (rd 0 23).toNatClampNeg) (x := p) c (Or.inr (Or.inr (Or.inr (Or.inr (Or.inr (Or.inr (Or.inr (Or.inl ⟨rfl, n4⟩))))))))
  have r0 : hv h' q 23 = rd 0 23 := RR_0 c 23
  rw [r0, rl24 c.2.1]
  have s5 : sQ q h _ := sQ_t so (sQ_put (d := 23) (v := .inl (.int p)) (i := (rd 0 23).toNatClampNeg) (Or.inr (Or.inr (Or.inr (Or.inr (Or.inr (Or.inr (Or.inr (Or.inl ⟨rfl, n4⟩)))))))))
  have cs := (clamp_s h0.1 (by omega)).2
  have e8 : (8 : Int32).toInt = 8 := rfl
  refine fx_forI (F := B_X5_addBuyer_12 q p) (d := []) (fun j (x : Int32 × zH) => x.1 = nI j ∧ ∃ rd2, RR T x.2 q rd2 ∧ (∀ d i, rd2 d i = if d = 25 + (rd 0 23).toNatClampNeg ∧ i < j then 0 else upR rd 23 (rd 0 23).toNatClampNeg p d i) ∧ sQ q h x.2) (fun r => RM T q h (adB (mkR rd) p) r) 8 (fun x hx => ?_) (fun j x hj hx => ?_) ?_
  · obtain ⟨x1, x2⟩ := x
    obtain ⟨e, rd2, g1, g2, g3⟩ := hx
    have e : x1 = nI 8 := e
    have g1 : RR T x2 q rd2 := g1
    subst e
    have z23 : hv x2 q 23 = rd 0 23 := by
      have := RR_0 g1 23
      rw [this, g2, if_neg (fun y => by omega)]
      rfl
    refine ⟨hput x2 q 23 (.inl (.int (rd 0 23 + 1))), ?_, ?_⟩
    · unfold B_X5_addBuyer_12
      simp only [letf]
      rw [if_neg (by rw [i_lt, e8, nI_t (by omega)]; omega), z23]
    · have g6 := RR_put (d := 0) (i := 23) (x := rd 0 23 + 1) g1 (Or.inl ⟨rfl, by decide⟩)
      have u : ∀ d i, ¬ (d = 0 ∧ i = 23) → upR rd2 0 23 (rd 0 23 + 1) d i = rd2 d i := fun d i y => if_neg y
      have v : ∀ d i, (d < 25) → ¬ (d = 0 ∧ i = 23) → upR rd2 0 23 (rd 0 23 + 1) d i = upR rd 23 (rd 0 23).toNatClampNeg p d i := fun d i y z => by rw [u d i z, g2, if_neg (fun y => by omega)]
      have u2 : ∀ d i, d ≠ 23 → upR rd 23 (rd 0 23).toNatClampNeg p d i = rd d i := fun d i y => if_neg (fun z => y z.1)
      refine ⟨_, g6, fun i hi => ?_, mkR_adB rfl cs n4 rfl (fun i hi => ?_) (fun d i d1 d2 => ?_) (fun i => ?_) (fun b i hb hi => ?_), sQ_t g3 (sQ_put (d := 0) (Or.inl ⟨rfl, by decide⟩))⟩
      · rw [v 17 i (by decide) (by omega), u2 17 i (by decide)]
        exact kk i hi
      · rw [v 0 i (by decide) (by omega), u2 0 i (by decide)]
      · rw [v d i (by omega) (by omega), u2 d i (by omega)]
      · rw [v 23 i (by decide) (by omega)]
        simp [upR]
      · rw [u (25 + b) i (by omega), g2, u2 (25 + b) i (by omega)]
        by_cases y : b = (rd 0 23).toNatClampNeg
        · rw [if_pos y, if_pos ⟨by omega, by omega⟩]
        · rw [if_neg y, if_neg (fun z => by omega)]
  · obtain ⟨x1, x2⟩ := x
    obtain ⟨e, rd2, g1, g2, g3⟩ := hx
    have e : x1 = nI j := e
    have g1 : RR T x2 q rd2 := g1
    subst e
    have z23 : hv x2 q 23 = rd 0 23 := by
      have := RR_0 g1 23
      rw [this, g2, if_neg (fun y => by omega)]
      rfl
    have g7 := RR_put (d := 25 + (rd 0 23).toNatClampNeg) (i := j) (x := 0) g1 (Or.inr (Or.inr (Or.inr (Or.inr (Or.inr (Or.inr (Or.inr (Or.inr ⟨_, n4, rfl, hj⟩))))))))
    refine Or.inr ⟨(nI (j + 1), hput x2 (q + (25 + (rd 0 23).toNatClampNeg)) j (.inl (.int 0))), ?_, rfl, _, g7, fun d i => ?_, sQ_t g3 (sQ_put (Or.inr (Or.inr (Or.inr (Or.inr (Or.inr (Or.inr (Or.inr (Or.inr ⟨_, n4, rfl, hj⟩)))))))))⟩
    · unfold B_X5_addBuyer_12
      simp only [letf]
      rw [if_pos (by rw [i_lt, e8, nI_t (by omega)]; omega), z23, rl25 g1.2.1, nI_c (by omega), (g1.2.1.2.2 _ n4).1, Nat.add_assoc, nI_s]
    · show (if d = 25 + (rd 0 23).toNatClampNeg ∧ i = j then 0 else rd2 d i) = _
      rw [g2]
      by_cases y : d = 25 + (rd 0 23).toNatClampNeg ∧ i = j
      · rw [if_pos y, if_pos ⟨y.1, by omega⟩]
      · rw [if_neg y]
        by_cases z : d = 25 + (rd 0 23).toNatClampNeg ∧ i < j
        · rw [if_pos z, if_pos ⟨z.1, by omega⟩]
        · rw [if_neg z, if_neg (fun t => by omega)]
  · exact ⟨rfl, _, c1, fun d i => (if_neg (fun y => by omega)).symm, s5⟩
end
theorem adT_o {S : ST} {k s a : Int32} {c i : Nat} (h : ¬ (c = 0 ∧ i = 7)) (h2 : ¬ (2 ≤ c ∧ c ≤ 6) ∨ i ≠ nT S) : adT S k s a c i = S c i := by
  unfold adT
  rw [if_neg h, if_neg (fun y => by omega)]
theorem WF_addT {S : ST} (w : WF S) (h8 : nT S < 8) {k s a : Int32} (hk : 0 ≤ k.toInt ∧ k.toInt ≤ 5) (hs : isS S s) (ha : 0 ≤ a.toInt ∧ a.toInt ≤ 9) (hi : S 1 s.toNatClampNeg = 1) (hf : ∀ u, u < nT S → S 3 u ≠ s) : WF (adT S k s a) := by
  have h0 := WF_th w
  have hn := nT_i w
  have cs := clamp_s (x := S 0 7) h0.1 (by omega)
  have n0 : ∀ i, i ≠ 7 → adT S k s a 0 i = S 0 i := fun i y => adT_o (by omega) (Or.inl (by omega))
  have n7 : adT S k s a 0 7 = S 0 7 + 1 := rfl
  have nn : nT (adT S k s a) = nT S + 1 := cs.2
  have r : ∀ c i, c = 1 ∨ c = 7 ∨ c = 8 → adT S k s a c i = S c i := fun c i y => adT_o (by omega) (Or.inl (by omega))
  refine ⟨?_, fun i => ?_, fun t ht => ?_, fun c => ?_, fun i => ?_⟩
  · rw [n0 0 (by decide), n0 1 (by decide), n0 2 (by decide), n0 3 (by decide), n0 8 (by decide), n7]
    exact ⟨w.1.1, w.1.2.1, w.1.2.2.1, w.1.2.2.2.1, ⟨by omega, by omega⟩, w.1.2.2.2.2.2⟩
  · rw [r 1 i (Or.inl rfl)]
    exact w.2.1 i
  · rw [nn] at ht
    by_cases e : t = nT S
    · subst e
      have v : ∀ (c : Nat) (x : Int32), 2 ≤ c → c ≤ 6 → (if c = 2 then k else if c = 3 then s else if c = 4 then a else if c = 5 then 0 else -1) = x → adT S k s a c (nT S) = x := fun c x c2 c6 hx => by
        unfold adT
        rw [if_neg (fun y => by omega), if_pos ⟨c2, c6, rfl⟩, hx]
      unfold okT
      rw [v 2 k (by decide) (by decide) rfl, v 3 s (by decide) (by decide) rfl, v 4 a (by decide) (by decide) rfl, v 6 (-1) (by decide) (by decide) rfl, n0 0 (by decide), r 1 _ (Or.inl rfl)]
      refine ⟨hk, hs, ha, Or.inl rfl, fun _ => hi, fun u hu => ?_⟩
      rw [adT_o (by omega) (Or.inr (by omega))]
      exact hf u hu
    · have v : ∀ c, 2 ≤ c → c ≤ 6 → adT S k s a c t = S c t := fun c _ _ => adT_o (by omega) (Or.inr e)
      obtain ⟨o1, o2, o3, o4, o5, o6⟩ := w.2.2.1 t (by omega)
      unfold okT
      rw [v 2 (by decide) (by decide), v 3 (by decide) (by decide), v 4 (by decide) (by decide), v 6 (by decide) (by decide), n0 0 (by decide), r 1 _ (Or.inl rfl)]
      refine ⟨o1, o2, o3, o4, o5, fun u hu => ?_⟩
      rw [adT_o (by omega) (Or.inr (by omega))]
      exact o6 u hu
  · rw [r 7 c (Or.inr (Or.inl rfl))]
    exact w.2.2.2.1 c
  · rw [r 8 i (Or.inr (Or.inr rfl))]
    exact w.2.2.2.2 i
theorem WF_addB {S : ST} (w : WF S) (h4 : nB S < 4) {p : Int32} (hp : 0 ≤ p.toInt ∧ p.toInt ≤ 9999) : WF (adB S p) := by
  have h0 := WF_bu w
  have hn := nB_i w
  have cs := clamp_s (x := S 0 8) h0.1 (by omega)
  have o : ∀ c i, ¬ (c = 0 ∧ i = 8) → ¬ (c = 7 ∧ i = nB S) → adB S p c i = S c i := fun c i y z => by
    unfold adB
    rw [if_neg y, if_neg z]
  have n0 : ∀ i, i ≠ 8 → adB S p 0 i = S 0 i := fun i y => o 0 i (by omega) (by omega)
  have n8 : adB S p 0 8 = S 0 8 + 1 := rfl
  have r : ∀ c i, c ≠ 0 → c ≠ 7 → adB S p c i = S c i := fun c i y z => o c i (by omega) (by omega)
  have nn : nT (adB S p) = nT S := congrArg Int32.toNatClampNeg (n0 7 (by decide))
  refine ⟨?_, fun i => ?_, fun t ht => ?_, fun c => ?_, fun i => ?_⟩
  · rw [n0 0 (by decide), n0 1 (by decide), n0 2 (by decide), n0 3 (by decide), n0 7 (by decide), n8]
    exact ⟨w.1.1, w.1.2.1, w.1.2.2.1, w.1.2.2.2.1, w.1.2.2.2.2.1, ⟨by omega, by omega⟩⟩
  · rw [r 1 i (by decide) (by decide)]
    exact w.2.1 i
  · rw [nn] at ht
    obtain ⟨o1, o2, o3, o4, o5, o6⟩ := w.2.2.1 t ht
    unfold okT
    rw [r 2 _ (by decide) (by decide), r 3 _ (by decide) (by decide), r 4 _ (by decide) (by decide), r 6 _ (by decide) (by decide), n0 0 (by decide), r 1 _ (by decide) (by decide)]
    refine ⟨o1, o2, o3, ?_, o5, fun u hu => ?_⟩
    · rcases o4 with y | y
      · exact Or.inl y
      · exact Or.inr ⟨y.1, by omega⟩
    · rw [r 3 _ (by decide) (by decide)]
      exact o6 u hu
  · by_cases e : c = nB S
    · have : adB S p 7 c = p := by
        unfold adB
        rw [if_neg (fun y => by omega), if_pos ⟨rfl, e⟩]
      rw [this]
      exact hp
    · rw [o 7 c (by omega) (by omega)]
      exact w.2.2.2.1 c
  · rw [r 8 i (by decide) (by decide)]
    exact w.2.2.2.2 i
