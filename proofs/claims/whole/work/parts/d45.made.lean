section
variable {T T2 Tv : List Nat} {h h2 h' h2' hv0 : zH} {N N' S : ST} {K : Option ST} {C Z : Nat → Int32} {E : Nat → Nat → Int64} {n : Nat} {B R : Nat → Int32} {p : Nat}
/-- the object, where only the table of values is another -/
theorem rx_frame (x : RX h N K C Z E n B R) (e : ∀ m i, m < 79 → ¬ (m = 49 ∧ i = 35) → hget h' m i = hget h m i) (ek : ∀ q, hget h 49 26 = some (.inl (.ref q)) → ∀ d i, d < 29 → hget h' (q + d) i = hget h (q + d) i) (ek2 : ∀ q, hget h 49 27 = some (.inl (.ref q)) → ∀ d i, d < 29 → hget h' (q + d) i = hget h (q + d) i) (e3 : hget h' 49 35 = some (.inl .null) ∨ ∃ p : Nat, hget h' 49 35 = some (.inl (.ref p)) ∧ 79 ≤ p ∧ ∀ g, g < 62 → hr h' p g = p + 1 + g) : RX h' N K C Z E n B R := by
  obtain ⟨x0, x1, x2, x3, x5, x6, x7⟩ := x
  refine ⟨r0P_eq (fun i hi => e 49 i (by omega) (by omega)) (fun i _ => e 53 i (by omega) (by omega)) x0, rNP_eq (fun m i q1 q2 => e m i (by omega) (fun y => by have := q1 y.1; omega)) x1, ?_, ⟨?_, e3⟩, rTP_eq (e 49 7 (by omega) (by omega)) (fun i => e 64 i (by omega) (by omega)) x5, rFP_eq (fun i => e 65 i (by omega) (by omega)) x6, rSP_eq (fun m i hm => e m i (by omega) (by omega)) x7⟩
  · rcases x2 with ⟨y, z⟩ | ⟨q, S, y1, y2, y3, y4, y5, y6, y7⟩
    · exact Or.inl ⟨by rw [e 49 26 (by omega) (by omega)]; exact y, z⟩
    · have eb := ek q y1
      have b4 := nB_4 y6
      refine Or.inr ⟨q, S, by rw [e 49 26 (by omega) (by omega)]; exact y1, y2, y3, rLy_blk eb y4, ?_, y6, rBt_blk eb y7⟩
      rw [← y5]
      refine rAbs_same ?_ eb
      rw [← y5] at b4
      exact b4
  · rw [e 49 26 (by omega) (by omega), e 49 27 (by omega) (by omega)]
    rcases x3.1 with y | ⟨q, y1, y2, y3, y4⟩
    · exact Or.inl y
    · exact Or.inr ⟨q, y1, y2, rLy_blk (ek2 q y1) y3, y4⟩
theorem nul_ref {q i τ w : Nat} (a : pNul T h q i τ) (e : hget h q i = some (.inl (.ref w))) : T[w]? = some τ := by
  rcases a with y | ⟨u, y1, y2⟩
  · rw [y] at e
    cases e
  · rw [y1] at e
    cases e
    exact y2
/-- the table is there -/
theorem va_of (re : RE T h) (x : RX h N K C Z E n B R) (e : hget h 49 35 = some (.inl (.ref p))) : VC T h p := by
  obtain ⟨r1, r2, r3, r4, r5, r6⟩ := re
  have hp : 79 ≤ p ∧ ∀ g, g < 62 → hr h p g = p + 1 + g := by
    rcases x.2.2.2.1.2 with y | ⟨q, y1, y2, y3⟩
    · rw [y] at e
      cases e
    · rw [y1] at e
      cases e
      exact ⟨y2, y3⟩
  have tp := nul_ref r6 e
  have tg : ∀ g, g < 62 → T[p + 1 + g]? = some 42 := fun g hg => by
    have := (k_rf r1 tp (i := g) hg rfl).2
    rw [hp.2 g hg] at this
    exact this
  have sep : ∀ q, T[q]? = some 6 → ∀ d, d < 29 → ¬ (p < q + d ∧ q + d ≤ p + 62) := fun q hq d hd hh => by
    obtain ⟨τ, a1, a2, a3, a4⟩ := r3 q hq d (by omega)
    have := tg (q + d - p - 1) (by omega)
    rw [show p + 1 + (q + d - p - 1) = q + d by omega, a1] at this
    cases this
    exact a3 rfl
  refine ⟨⟨hr_of e, by omega, fun g hg => ⟨hp.2 g hg, tg g hg⟩⟩, fun q hq => sep q (nul_ref r4 hq), fun q hq => sep q (nul_ref r5 hq)⟩
theorem hget_lt {q i : Nat} {v : zV} (e : hget h q i = some v) : q < h.length := by
  unfold hget at e
  by_cases y : q < h.length
  · exact y
  · rw [List.getElem?_eq_none (by omega)] at e
    cases e
/-- the table is made -/
theorem vb_of (re : RE T h) (x : RX h N K C Z E n B R) (hl : T.length ≤ 900000) : hOK kty (T ++ vTys) (hV h 49) ∧ tExt zT0 (T ++ vTys) ∧ RX (hV h 49) N K C Z E n B R ∧ VC (T ++ vTys) (hV h 49) h.length ∧ fr0 h (hV h 49) := by
  obtain ⟨r1, r2, r3, r4, r5, r6⟩ := re
  have t49 : T[49]? = some 5 := r2 _ _ rfl
  obtain ⟨k1, k2, k3⟩ := hV_ok (W := [(5, 35)]) r1 hl t49 rfl
  have ln : h.length = T.length := r1.1
  have l79 : 79 ≤ h.length := by
    have := r2 78 _ rfl
    obtain ⟨y, -⟩ := List.getElem?_eq_some_iff.mp this
    omega
  have fr : ∀ m i, m < h.length → ¬ (m = 49 ∧ i = 35) → hget (hV h 49) m i = hget h m i := fun m i hm hn => by
    unfold hV
    rw [hget_put_ne (by omega), hget_app hm]
  have e35 : hget (hV h 49) 49 35 = some (.inl (.ref h.length)) := hput_at (i := 35) k1 (tExt_app T vTys _ _ t49) (Nat.le_of_ble_eq_true rfl)
  have eg : ∀ g, g < 62 → hget (hV h 49) h.length g = some (.inl (.ref (h.length + 1 + g))) := fun g hg => by
    unfold hV
    rw [hget_put_ne (by omega)]
    unfold hget vCells
    rw [List.getElem?_append_right (Nat.le_refl _), Nat.sub_self]
    show ((List.range 62).map (fun i => (.inl (.ref (h.length + 1 + i)) : zV)))[g]? = _
    rw [List.getElem?_map, List.getElem?_range hg]
    rfl
  have blk : ∀ q, T[q]? = some 6 → ∀ d, d < 29 → q + d < h.length := fun q hq d hd => by
    obtain ⟨τ, a1, -⟩ := r3 q hq d (by omega)
    obtain ⟨y, -⟩ := List.getElem?_eq_some_iff.mp a1
    omega
  have sep : ∀ q, T[q]? = some 6 → ∀ d i, d < 29 → hget (hV h 49) (q + d) i = hget h (q + d) i := fun q hq d i hd => fr _ i (blk q hq d hd) (fun y => by
    obtain ⟨τ, a1, a2, a3, a4⟩ := r3 q hq d (by omega)
    rw [y.1, t49] at a1
    by_cases z : d = 0
    · subst z
      rw [show q = 49 from y.1, t49] at hq
      cases hq
    · have hq49 : q < 49 := by omega
      have : ∀ q, q < 49 → zT0[q]? ≠ some 6 := by decide
      have b1 : ∃ τ, zT0[q]? = some τ := ⟨_, List.getElem?_eq_getElem (show q < zT0.length from Nat.lt_of_lt_of_le hq49 (by decide))⟩
      obtain ⟨σ, b1⟩ := b1
      have b2 := r2 _ _ b1
      rw [hq] at b2
      cases b2
      exact this q hq49 b1)
  refine ⟨k2.1, fun q τ e => tExt_app T vTys _ _ (r2 q τ e), rx_frame x (fun m i hm hn => fr m i (by omega) hn) (fun q hq => sep q (nul_ref r4 hq)) (fun q hq => sep q (nul_ref r5 hq)) (Or.inr ⟨_, e35, l79, fun g hg => hr_of (eg g hg)⟩), ⟨⟨hr_of e35, by omega, fun g hg => ⟨hr_of (eg g hg), ?_⟩⟩, ?_, ?_⟩, fun m i hm => fr m i (by omega) (by omega)⟩
  · have := vT_at T hg
    rw [ln]
    exact this
  · intro q hq d hd y
    rw [fr 49 26 (by omega) (by omega)] at hq
    have := blk q (nul_ref r4 hq) d hd
    omega
  · intro q hq d hd y
    rw [fr 49 27 (by omega) (by omega)] at hq
    have := blk q (nul_ref r5 hq) d hd
    omega
end
