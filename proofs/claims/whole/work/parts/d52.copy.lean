/-- a copy, one by one, from another row -/
def cpL (h : zH) (src so dst d : Nat) : Nat → zH
  | 0 => h
  | k + 1 => hput (cpL h src so dst d k) dst (d + k) (.inl (.long (hJ h src (so + k))))
theorem cpL_ne {h : zH} {src so dst d m i : Nat} (hm : m ≠ dst) : ∀ j, hget (cpL h src so dst d j) m i = hget h m i
  | 0 => rfl
  | j + 1 => (hget_put_ne (Or.inl hm)).trans (cpL_ne hm j)
theorem cpL_at {h : zH} {src so dst d : Nat} (g : ∀ i, i < 40 → ∃ w, hget h dst i = some w) : ∀ n, d + n ≤ 40 → (∀ i, i < 40 → hJ (cpL h src so dst d n) dst i = if d ≤ i ∧ i < d + n then hJ h src (so + (i - d)) else hJ h dst i) ∧ ∀ i, i < 40 → ∃ w, hget (cpL h src so dst d n) dst i = some w
  | 0, _ => ⟨fun i hi => by rw [if_neg (show ¬ (d ≤ i ∧ i < d + 0) by omega)]; rfl, g⟩
  | n + 1, hn => by
    obtain ⟨a, b⟩ := cpL_at (src := src) (so := so) (dst := dst) (d := d) g n (by omega)
    obtain ⟨w, hw⟩ := b (d + n) (by omega)
    refine ⟨fun i hi => ?_, fun i hi => ?_⟩
    · by_cases y : i = d + n
      · rw [y, if_pos (show d ≤ d + n ∧ d + n < d + (n + 1) by omega), show d + n - d = n by omega]
        exact hJ_put hw
      · show hJ (hput (cpL h src so dst d n) dst (d + n) _) dst i = _
        rw [hJ_ne (Or.inr y), a i hi]
        by_cases z : d ≤ i ∧ i < d + n
        · rw [if_pos z, if_pos (show d ≤ i ∧ i < d + (n + 1) by omega)]
        · rw [if_neg z, if_neg (show ¬ (d ≤ i ∧ i < d + (n + 1)) by omega)]
    · by_cases y : i = d + n
      · rw [y]
        exact ⟨_, hget_put hw⟩
      · obtain ⟨v, hv⟩ := b i hi
        exact ⟨v, (hget_put_ne (Or.inr y)).trans hv⟩
theorem copy_in {h : zH} {p q c3 c4 c5 : Int32} {n j t : Nat} (e5 : c5 = nI n) (hn : n ≤ 40) (e4 : c4 = nI j) (hj : j ≤ 40) (et : q.toNatClampNeg = t) (ht : t < 8) (k4 : hr h 49 4 = 62) (k3 : hr h 49 3 = 53) (k : hr h 53 t = 54 + t) : fx (B_X5_copy_225 49 p q c3 c4 c5) (Sum.inr (0, [])) ((0 : Int32), h) = Sum.inr (c5, cpL h 62 0 (54 + t) j n) := by
  have f : ∀ i m, m ≠ 54 + t → hget (cpL h 62 0 (54 + t) j i) m = hget h m := fun i m hm => by
    funext x
    exact cpL_ne hm i
  refine fx_for (F := B_X5_copy_225 49 p q c3 c4 c5) (fun i => (nI i, cpL h 62 0 (54 + t) j i)) _ n ?_ (fun i hi => ?_)
  · unfold B_X5_copy_225
    dsimp only
    rw [e5, if_neg (show ¬ nI n < nI n from fun y => by rw [i_lt] at y; omega)]
  · unfold B_X5_copy_225
    simp only [letf]
    rw [e5, if_pos (show nI i < nI n by rw [i_lt, nI_t (by omega), nI_t (by omega)]; omega), et, e4, (hr_eq (cpL_ne (by omega) i)).trans k4, (hr_eq (cpL_ne (by omega) i)).trans k3, (hr_eq (cpL_ne (by omega) i)).trans k, nI_add, nI_c (by omega), nI_c (by omega), nI_s, hJ_eq (cpL_ne (by omega) i)]
    show _ = Sum.inl (nI (i + 1), hput (cpL h 62 0 (54 + t) j i) (54 + t) (j + i) (.inl (.long (hJ h 62 (0 + i)))))
    rw [Nat.zero_add]
theorem copy_out {h : zH} {p q c3 c4 c5 : Int32} {n j i s t : Nat} (e5 : c5 = nI n) (hn : n ≤ 40) (e4 : c4 = nI j) (hj : j ≤ 40) (e3 : c3 = nI i) (hi : i ≤ 40) (et : q.toNatClampNeg = t) (ht : t < 8) (es : p.toNatClampNeg = s) (hs : s < 8) (k4 : hr h 49 4 = 62) (k3 : hr h 49 3 = 53) (k : ∀ s, s < 8 → hr h 53 s = 54 + s) : fx (B_X5_copy_191 49 p q c3 c4 c5) (0, []) ((0 : Int32), h) = (c5, cpL (cpL h (54 + s) i 62 0 n) 62 0 (54 + t) j n) := by
  refine fx_for (F := B_X5_copy_191 49 p q c3 c4 c5) (fun x => (nI x, cpL h (54 + s) i 62 0 x)) _ n ?_ (fun x hx => ?_)
  · unfold B_X5_copy_191
    dsimp only
    rw [if_neg (show ¬ nI n < c5 from fun y => by rw [e5, i_lt] at y; omega)]
    exact copy_in e5 hn e4 hj et ht ((hr_eq (cpL_ne (by omega) n)).trans k4) ((hr_eq (cpL_ne (by omega) n)).trans k3) ((hr_eq (cpL_ne (by omega) n)).trans (k t ht))
  · unfold B_X5_copy_191
    simp only [letf]
    rw [if_pos (show nI x < c5 by rw [e5, i_lt, nI_t (by omega), nI_t (by omega)]; omega), es, e3, (hr_eq (cpL_ne (by omega) x)).trans k4, (hr_eq (cpL_ne (by omega) x)).trans k3, (hr_eq (cpL_ne (by omega) x)).trans (k s hs), nI_add, nI_c (by omega), nI_c (by omega), nI_s, hJ_eq (cpL_ne (by omega) x)]
    show _ = Sum.inl (nI (x + 1), hput (cpL h (54 + s) i 62 0 x) 62 (0 + x) (.inl (.long (hJ h (54 + s) (i + x)))))
    rw [Nat.zero_add]
section
variable {T T2 : List Nat} {h h2 h' h2' : zH} {N N' S : ST} {K : Option ST} {C Z C' Z' : Nat → Int32} {E E' : Nat → Nat → Int64} {n : Nat} {B R : Nat → Int32}
theorem copy_els (H : HY T T2 h h2 N K C Z E n B R) {s t : Nat} (hs : s < 8) (ht : t < 8) (rs : hv h2 50 s = 1) (rt : hv h2 50 t = 1) {i j k : Nat} (hi : i + k ≤ (Z s).toNatClampNeg) (hj : j + k ≤ (Z t).toNatClampNeg) (a : Int32) : PR h h2 (a, hcpy h (34 + 2 * s) i (34 + 2 * t) j k) (a, cpL (cpL h2 (54 + s) i 62 0 k) 62 0 (54 + t) j k) := by
  have row : ∀ u, u < 8 → hv h2 50 u = 1 → isRow (C u) ∧ (0 ≤ (Z u).toInt ∧ (Z u).toInt ≤ 40) ∧ hv h2 51 u = C u ∧ hv h2 52 u = Z u ∧ ∀ i, i < 40 → hJ h2 (54 + u) i = E u i := fun u hu l1 => by
    rcases rsh H hu with y | y | y
    · rw [y.1] at l1
      exact absurd l1 (by decide)
    · exact y.2
    · rw [y.1] at l1
      exact absurd l1 (by decide)
  obtain ⟨a2, a3, a4, a5, a6⟩ := row s hs rs
  obtain ⟨b2, b3, b4, b5, b6⟩ := row t ht rt
  have zs := clamp_i a3.1
  have zt := clamp_i b3.1
  obtain ⟨p1, p2, p3⟩ := hsh H hs
  obtain ⟨q1, q2, q3⟩ := hsh H ht
  obtain ⟨t1, t2, t3⟩ := tS _ hs
  obtain ⟨u1, u2, u3⟩ := tS _ ht
  have gm : ∀ i, i < 40 → ∃ w, hget h2 62 i = some w := fun i hi => ⟨_, k_lng H.2.2.1.1 (zT_at H.2.2.1.2.1 (q := 62) (τ := 28) rfl) (i := i) hi rfl⟩
  have gt : ∀ i, i < 40 → ∃ w, hget h2 (54 + t) i = some w := fun i hi => ⟨_, k_lng H.2.2.1.1 (zT_at H.2.2.1.2.1 u3) (i := i) hi rfl⟩
  obtain ⟨f, f1, f2, -⟩ := H.1.1.2.2 _ _ (zT_at H.1.2 t2)
  obtain ⟨g, g1, g2, -⟩ := H.1.1.2.2 _ _ (zT_at H.1.2 u2)
  have f2 : f.length = 40 := f2
  have g2 : g.length = 40 := g2
  have hc : ∀ m x, hget (hcpy h (34 + 2 * s) i (34 + 2 * t) j k) m x = if m = 34 + 2 * t ∧ j ≤ x ∧ x < j + k then hget h (34 + 2 * s) (i + (x - j)) else hget h m x := fun m x => hcpy_get f1 g1 (by omega) (by omega)
  have hc0 : ∀ m x, m ≠ 34 + 2 * t → hget (hcpy h (34 + 2 * s) i (34 + 2 * t) j k) m x = hget h m x := fun m x hm => by rw [hc, if_neg (fun y => hm y.1)]
  have m1 := (cpL_at (h := h2) (src := 54 + s) (so := i) (dst := 62) (d := 0) gm k (by omega)).1
  have gt' : ∀ x, x < 40 → ∃ w, hget (cpL h2 (54 + s) i 62 0 k) (54 + t) x = some w := fun x hx => by
    obtain ⟨w, hw⟩ := gt x hx
    exact ⟨w, (cpL_ne (by omega) k).trans hw⟩
  have m2 := (cpL_at (h := cpL h2 (54 + s) i 62 0 k) (src := 62) (so := 0) (dst := 54 + t) (d := j) gt' k (by omega)).1
  have m3 : ∀ m x, m ≠ 62 → m ≠ 54 + t → hget (cpL (cpL h2 (54 + s) i 62 0 k) 62 0 (54 + t) j k) m x = hget h2 m x := fun m x y1 y2 => (cpL_ne y2 k).trans (cpL_ne y1 k)
  refine sh_one H ht (c := C t) (z := Z t) (e := fun x => if j ≤ x ∧ x < j + k then E s (i + (x - j)) else E t x) (fun m x y1 y2 => hc0 m x y2) ⟨⟨(hr_eq (hc0 _ _ (by omega))).trans q1.1, (hr_eq (hc0 _ _ (by omega))).trans q1.2⟩, (hv_eq (hc0 _ _ (by omega))).trans (q2.trans upB_eq.symm), fun _ => ⟨(hv_eq (hc0 _ _ (by omega))).trans ((q3 b2).1.trans upB_eq.symm), fun x hx => ?_⟩⟩ (fun m x y1 y2 y3 => m3 m x y1 y2) (Or.inr (Or.inl ⟨(hv_eq (m3 _ _ (by omega) (by omega))).trans rt, by rw [upB_eq]; exact b2, by rw [upB_eq]; exact b3, (hv_eq (m3 _ _ (by omega) (by omega))).trans (b4.trans upB_eq.symm), (hv_eq (m3 _ _ (by omega) (by omega))).trans (b5.trans upB_eq.symm), fun x hx => ?_⟩)) (fun u hu u8 => H.2.2.2.2.1 t ht u hu u8) a
  · rw [upE_eq]
    by_cases y : j ≤ x ∧ x < j + k
    · have e := hc (34 + 2 * t) x
      rw [if_pos ⟨rfl, y⟩] at e
      rw [if_pos y, ← (p3 a2).2 (i + (x - j)) (by omega)]
      unfold hJ
      rw [e]
    · have e := hc (34 + 2 * t) x
      rw [if_neg (fun z => y z.2)] at e
      rw [if_neg y, hJ_eq e, (q3 b2).2 x hx]
  · rw [upE_eq, m2 x hx]
    by_cases y : j ≤ x ∧ x < j + k
    · rw [if_pos y, if_pos y, m1 _ (by omega), if_pos (by omega), ← a6 (i + (x - j)) (by omega)]
      congr 1
      omega
    · rw [if_neg y, if_neg y, hJ_eq (cpL_ne (by omega) k), b6 x hx]
end
