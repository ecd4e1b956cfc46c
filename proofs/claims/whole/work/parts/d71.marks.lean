section
variable {T : List Nat} {h0 h h' : zH} {A M J : Nat → Int32} {S : ST}
/-- one set, by its things: the class -/
theorem c_mark46 (w : WF S) (ht : tT T) {k m t0 : Nat} (hk : k < 12) (hm : inT S m) (h8 : t0 < 8) (c : TH T h0 h (lkNs S) A M J) :
    (∃ r, fx (B_X3_markNext_46 25 (nI k) (nI (inN S) - nI k) (nI (rdN S (S 0 4 + nI k) (nI (inN S) - nI k))) ((1 : Int32) <<< (nI t0 &&& 31)) (nI m)) (Sum.inr (0, [])) ((0 : Int32), h) = Sum.inr (1, r) ∧ hitC S t0 k m ∧ ∃ M', TH T h0 r (lkNs S) A M' J) ∨
    (∃ r M', fx (B_X3_markNext_46 25 (nI k) (nI (inN S) - nI k) (nI (rdN S (S 0 4 + nI k) (nI (inN S) - nI k))) ((1 : Int32) <<< (nI t0 &&& 31)) (nI m)) (Sum.inr (0, [])) ((0 : Int32), h) = Sum.inl (nI m + 1, r) ∧ ¬ hitC S t0 k m ∧ TH T h0 r (lkNs S) A M' J ∧ ∀ g m', g ≤ 60 → m' < 256 → (mkB M' g m' = true ↔ mkB M g m' = true ∨ (g = k + 1 ∧ stpT S k m (nT S) m'))) := by
  have n8 := nT_8 w
  have rl : rdN S (S 0 4 + nI k) (nI (inN S) - nI k) < 256 := setN_256 n8
  refine fx_forI (F := B_X3_markNext_46 25 (nI k) (nI (inN S) - nI k) (nI (rdN S (S 0 4 + nI k) (nI (inN S) - nI k))) ((1 : Int32) <<< (nI t0 &&& 31)) (nI m)) (d := (Sum.inr (0, [])))
    (fun j (s : Int32 × zH) => s.1 = nI j ∧ (∀ t, t < j → ¬ (nb m t ≠ 0 ∧ freeB S (S 0 4 + nI k) (nI (inN S) - nI k) t = true ∧ nb (wonN S t m) t0 ≠ 0)) ∧ ∃ M', TH T h0 s.2 (lkNs S) A M' J ∧ ∀ g m', g ≤ 60 → m' < 256 → (mkB M' g m' = true ↔ mkB M g m' = true ∨ (g = k + 1 ∧ stpT S k m j m')))
    (fun r => (∃ r', r = Sum.inr (1, r') ∧ hitC S t0 k m ∧ ∃ M', TH T h0 r' (lkNs S) A M' J) ∨ ∃ r' M', r = Sum.inl (nI m + 1, r') ∧ ¬ hitC S t0 k m ∧ TH T h0 r' (lkNs S) A M' J ∧ ∀ g m', g ≤ 60 → m' < 256 → (mkB M' g m' = true ↔ mkB M g m' = true ∨ (g = k + 1 ∧ stpT S k m (nT S) m'))) (nT S) (fun s hs => ?_) (fun j s hj hs => ?_) ⟨rfl, fun t h => absurd h (Nat.not_lt_zero t), M, c, fun g m' _ _ => ⟨Or.inl, fun y => y.elim id (fun z => absurd z.2 (stpT_0 S k m m'))⟩⟩
  · obtain ⟨s1, s2⟩ := s
    obtain ⟨e, hn, M', c1, c2⟩ := hs
    have e : s1 = nI (nT S) := e
    subst e
    have c1 : TH T h0 s2 (lkNs S) A M' J := c1
    have h3 : hv s2 25 3 = S 0 7 := c1.2.2.2.1 3 (by decide) (by decide)
    unfold B_X3_markNext_46
    dsimp only
    rw [h3, if_neg (fun y => absurd ((lt_T w (by omega)).mp y) (Nat.lt_irrefl _))]
    exact ⟨_, rfl, Or.inr ⟨s2, M', rfl, fun ⟨t, a, b⟩ => hn t a b, c1, c2⟩⟩
  · obtain ⟨s1, s2⟩ := s
    obtain ⟨e, hn, M', c1, c2⟩ := hs
    have e : s1 = nI j := e
    subst e
    have c1 : TH T h0 s2 (lkNs S) A M' J := c1
    have h3 : hv s2 25 3 = S 0 7 := c1.2.2.2.1 3 (by decide) (by decide)
    have wl := wonN_lt w (m := m) hj
    have hb : nb (m &&& rdN S (S 0 4 + nI k) (nI (inN S) - nI k)) j = 0 ↔ ¬ (nb m j ≠ 0 ∧ freeB S (S 0 4 + nI k) (nI (inN S) - nI k) j = true) := by
      rw [nb_and, nb_rd _ _ hj]
      have := nb_lt m j
      by_cases f : freeB S (S 0 4 + nI k) (nI (inN S) - nI k) j = true
      · rw [if_pos f]
        by_cases g : nb m j = 1
        · rw [if_pos ⟨g, rfl⟩]
          exact ⟨fun y => absurd y (by decide), fun y => absurd ⟨by omega, f⟩ y⟩
        · rw [if_neg (fun y => g y.1)]
          exact ⟨fun _ y => g (by omega), fun _ => rfl⟩
      · rw [if_neg f, if_neg (fun y => absurd y.2 (by decide))]
        exact ⟨fun _ y => f y.2, fun _ => rfl⟩
    have and_lt : m &&& rdN S (S 0 4 + nI k) (nI (inN S) - nI k) < 256 := Nat.lt_of_le_of_lt Nat.and_le_left hm.1
    have tst := s_test _ and_lt j (by omega)
    unfold B_X3_markNext_46
    simp only [letf]
    rw [h3, if_pos ((lt_T w (by omega)).mpr hj), s_and hm.1 rl, nI_s]
    by_cases y : nb (m &&& rdN S (S 0 4 + nI k) (nI (inN S) - nI k)) j = 0
    · rw [if_pos (tst.mpr y)]
      have y' := hb.mp y
      refine Or.inr ⟨_, rfl, rfl, fun t ht q => ?_, M', c1, fun g m' hg hm' => ?_⟩
      · by_cases e : t = j
        · subst e
          exact y' ⟨q.1, q.2.1⟩
        · exact hn t (by omega) q
      · rw [c2 g m' hg hm', stpT_s hj]
        exact ⟨fun z => z.elim Or.inl (fun z => Or.inr ⟨z.1, Or.inl z.2⟩), fun z => z.elim Or.inl (fun z => z.2.elim (fun q => Or.inr ⟨z.1, q⟩) (fun q => absurd ⟨q.1, q.2.1⟩ y'))⟩
    · rw [if_neg (fun z => y (tst.mp z)), c_wonWith w c1 hj hm]
      have y' : nb m j ≠ 0 ∧ freeB S (S 0 4 + nI k) (nI (inN S) - nI k) j = true := Decidable.byContradiction (fun z => y (hb.mpr z))
      have tst2 := s_test _ wl t0 h8
      by_cases z : nb (wonN S j m) t0 = 0
      · rw [if_pos (tst2.mpr z), s_andnot hm.1 wl, nI_s]
        obtain ⟨M2, c3, c4⟩ := c_mark ht c1 (g := k + 1) (m := sDiff m (wonN S j m)) (by omega) (sDiff_lt _ _)
        refine Or.inr ⟨_, rfl, rfl, fun t ht q => ?_, M2, c3, fun g m' hg hm' => ?_⟩
        · by_cases e : t = j
          · subst e
            exact q.2.2 z
          · exact hn t (by omega) q
        · rw [c4 g m' hg hm', stpT_s hj]
          by_cases q : g = k + 1 ∧ m' = sDiff m (wonN S j m)
          · rw [if_pos q]
            exact ⟨fun _ => Or.inr ⟨q.1, Or.inr ⟨y'.1, y'.2, q.2⟩⟩, fun _ => rfl⟩
          · rw [if_neg q, c2 g m' hg hm']
            exact ⟨fun z => z.elim Or.inl (fun z => Or.inr ⟨z.1, Or.inl z.2⟩), fun z => z.elim Or.inl (fun z => z.2.elim (fun q => Or.inr ⟨z.1, q⟩) (fun q2 => absurd ⟨z.1, q2.2.2⟩ q))⟩
      · rw [if_neg (fun q => z (tst2.mp q))]
        exact Or.inl ⟨_, rfl, Or.inl ⟨s2, rfl, ⟨j, hj, y'.1, y'.2, z⟩, M', c1⟩⟩
/-- a layer -/
theorem c_markNext (w : WF S) (ht : tT T) {k t0 : Nat} (hk : k < 12) (h8 : t0 < 8) (c : TH T h0 h (lkNs S) A M J) (m1 : ∀ m, m < 256 → (mkB M k m = true ↔ rchC S k m)) (m2 : ∀ g m, k < g → g ≤ 60 → m < 256 → mkB M g m = false) :
    (∃ r, F_X3_markNext h 25 (nI k) (nI (inN S) - nI k) (nI (rdN S (S 0 4 + nI k) (nI (inN S) - nI k))) ((1 : Int32) <<< (nI t0 &&& 31)) = (1, r) ∧ hitL S t0 k ∧ ∃ M', TH T h0 r (lkNs S) A M' J) ∨
    (∃ r M', F_X3_markNext h 25 (nI k) (nI (inN S) - nI k) (nI (rdN S (S 0 4 + nI k) (nI (inN S) - nI k))) ((1 : Int32) <<< (nI t0 &&& 31)) = (0, r) ∧ ¬ hitL S t0 k ∧ TH T h0 r (lkNs S) A M' J ∧ (∀ m, m < 256 → (mkB M' (k + 1) m = true ↔ rchC S (k + 1) m)) ∧ ∀ g m, k + 1 < g → g ≤ 60 → m < 256 → mkB M' g m = false) := by
  have st := own_lt w (-1)
  have st : stN S < 256 := st
  have rle : ∀ m, rchC S k m → m < stN S + 1 := fun m hm => by
    obtain ⟨a, b⟩ := rch_sub w hm
    have := sub_le a st b
    omega
  unfold F_X3_markNext
  refine fx_forI (F := B_X3_markNext_3 25 (nI k) (nI (inN S) - nI k) (nI (rdN S (S 0 4 + nI k) (nI (inN S) - nI k))) ((1 : Int32) <<< (nI t0 &&& 31))) (d := (0, []))
    (fun j (s : Int32 × zH) => s.1 = nI j ∧ (∀ m, m < j → rchC S k m → ¬ hitC S t0 k m) ∧ ∃ M', TH T h0 s.2 (lkNs S) A M' J ∧ ∀ g m', k ≤ g → g ≤ 60 → m' < 256 → (mkB M' g m' = true ↔ mkB M g m' = true ∨ (g = k + 1 ∧ stpB S k j m')))
    (fun q => (∃ r, q = (1, r) ∧ hitL S t0 k ∧ ∃ M', TH T h0 r (lkNs S) A M' J) ∨ ∃ r M', q = (0, r) ∧ ¬ hitL S t0 k ∧ TH T h0 r (lkNs S) A M' J ∧ (∀ m, m < 256 → (mkB M' (k + 1) m = true ↔ rchC S (k + 1) m)) ∧ ∀ g m, k + 1 < g → g ≤ 60 → m < 256 → mkB M' g m = false) (stN S + 1) (fun s hs => ?_) (fun j s hj hs => ?_) ⟨rfl, fun m h => absurd h (Nat.not_lt_zero m), M, c, fun g m' _ _ _ => ⟨Or.inl, fun y => y.elim id (fun ⟨_, m, a, _⟩ => absurd a (Nat.not_lt_zero m))⟩⟩
  · obtain ⟨s1, s2⟩ := s
    obtain ⟨e, hn, M', c1, c2⟩ := hs
    have e : s1 = nI (stN S + 1) := e
    subst e
    have c1 : TH T h0 s2 (lkNs S) A M' J := c1
    have h4 : hv s2 25 4 = nI (stN S) := c1.2.2.2.1 4 (by decide) (by decide)
    unfold B_X3_markNext_3
    dsimp only
    rw [h4, if_pos (by rw [i_lt, nI_t (by omega), nI_t (by omega)]; omega)]
    refine ⟨_, rfl, Or.inr ⟨s2, M', rfl, fun ⟨m, a, b⟩ => hn m (rle m a) a b, c1, fun m hm => ?_, fun g m hg g6 hm => ?_⟩⟩
    · rw [c2 (k + 1) m (by omega) (by omega) hm, m2 (k + 1) m (by omega) (by omega) hm, stpB_all rle]
      exact ⟨fun y => y.elim (fun z => absurd z nff) (fun z => z.2), fun y => Or.inr ⟨rfl, y⟩⟩
    · cases e : mkB M' g m with
      | false => rfl
      | true =>
        rcases (c2 g m (by omega) g6 hm).mp e with y | y
        · rw [m2 g m (by omega) g6 hm] at y
          cases y
        · omega
  · obtain ⟨s1, s2⟩ := s
    obtain ⟨e, hn, M', c1, c2⟩ := hs
    have e : s1 = nI j := e
    subst e
    have c1 : TH T h0 s2 (lkNs S) A M' J := c1
    have h4 : hv s2 25 4 = nI (stN S) := c1.2.2.2.1 4 (by decide) (by decide)
    have jm : j < 256 := by omega
    have mk : mkB M' k j = true ↔ rchC S k j := by
      rw [c2 k j (Nat.le_refl _) (by omega) jm, m1 j jm]
      exact ⟨fun y => y.elim id (fun z => absurd z.1 (by omega)), Or.inl⟩
    unfold B_X3_markNext_3
    simp only [letf]
    rw [h4, if_neg (by rw [i_lt, nI_t (by omega), nI_t (by omega)]; omega), c_isMarked c1 (by omega) jm]
    by_cases y : mkB M' k j = true
    · have rj := mk.mp y
      have ij := rch_inT w rj
      rw [if_pos y, if_neg t10, F_J6_eq j jm]
      have fin : ∀ (s3 : zH) (M3 : Nat → Int32), TH T h0 s3 (lkNs S) A M3 J → (∀ g m', g ≤ 60 → m' < 256 → (mkB M3 g m' = true ↔ mkB M' g m' = true ∨ (g = k + 1 ∧ m' = j ∧ nI (pcount 8 j) < nI (inN S) - nI k))) → (∃ r, fx (B_X3_markNext_46 25 (nI k) (nI (inN S) - nI k) (nI (rdN S (S 0 4 + nI k) (nI (inN S) - nI k))) ((1 : Int32) <<< (nI t0 &&& 31)) (nI j)) (Sum.inr (0, [])) ((0 : Int32), s3) = Sum.inr r ∧ ((∃ r', r = (1, r') ∧ hitL S t0 k ∧ ∃ M', TH T h0 r' (lkNs S) A M' J) ∨ ∃ r' M', r = (0, r') ∧ ¬ hitL S t0 k ∧ TH T h0 r' (lkNs S) A M' J ∧ (∀ m, m < 256 → (mkB M' (k + 1) m = true ↔ rchC S (k + 1) m)) ∧ ∀ g m, k + 1 < g → g ≤ 60 → m < 256 → mkB M' g m = false)) ∨ ∃ s' : Int32 × zH, fx (B_X3_markNext_46 25 (nI k) (nI (inN S) - nI k) (nI (rdN S (S 0 4 + nI k) (nI (inN S) - nI k))) ((1 : Int32) <<< (nI t0 &&& 31)) (nI j)) (Sum.inr (0, [])) ((0 : Int32), s3) = Sum.inl s' ∧ s'.1 = nI (j + 1) ∧ (∀ m, m < j + 1 → rchC S k m → ¬ hitC S t0 k m) ∧ ∃ M', TH T h0 s'.2 (lkNs S) A M' J ∧ ∀ g m', k ≤ g → g ≤ 60 → m' < 256 → (mkB M' g m' = true ↔ mkB M g m' = true ∨ (g = k + 1 ∧ stpB S k (j + 1) m')) := by
        intro s3 M3 d1 d2
        rcases c_mark46 w ht hk ij h8 d1 with ⟨r, e1, e2, e3⟩ | ⟨r, M4, e1, e2, e3, e4⟩
        · exact Or.inl ⟨_, e1, Or.inl ⟨r, rfl, ⟨j, rj, e2⟩, e3⟩⟩
        · refine Or.inr ⟨_, e1, nI_s j, fun m hm rm => ?_, M4, e3, fun g m' hk' hg hm' => ?_⟩
          · by_cases e : m = j
            · subst e
              exact e2
            · exact hn m (by omega) rm
          · rw [e4 g m' hg hm', d2 g m' hg hm', c2 g m' hk' hg hm', stpB_s rj, stpT_n]
            constructor
            · rintro ((( q | q) | q) | q)
              · exact Or.inl q
              · exact Or.inr ⟨q.1, Or.inl q.2⟩
              · exact Or.inr ⟨q.1, Or.inr (Or.inl q.2)⟩
              · exact Or.inr ⟨q.1, Or.inr (Or.inr q.2)⟩
            · rintro (q | ⟨q1, q | q | q⟩)
              · exact Or.inl (Or.inl (Or.inl q))
              · exact Or.inl (Or.inl (Or.inr ⟨q1, q⟩))
              · exact Or.inl (Or.inr ⟨q1, q⟩)
              · exact Or.inr ⟨q1, q⟩
      by_cases z : nI (pcount 8 j) < nI (inN S) - nI k
      · rw [if_pos z, nI_s]
        obtain ⟨M3, c3, c4⟩ := c_mark ht c1 (g := k + 1) (m := j) (by omega) jm
        refine fin _ M3 c3 (fun g m' hg hm' => ?_)
        rw [c4 g m' hg hm']
        by_cases q : g = k + 1 ∧ m' = j
        · rw [if_pos q]
          exact ⟨fun _ => Or.inr ⟨q.1, q.2, z⟩, fun _ => rfl⟩
        · rw [if_neg q]
          exact ⟨Or.inl, fun y => y.elim id (fun y => absurd ⟨y.1, y.2.1⟩ q)⟩
      · rw [if_neg z]
        exact fin _ M' c1 (fun g m' _ _ => ⟨Or.inl, fun y => y.elim id (fun y => absurd y.2.2 z)⟩)
    · rw [if_neg y, if_pos rfl, nI_s]
      have nr : ¬ rchC S k j := fun q => y (mk.mpr q)
      refine Or.inr ⟨_, rfl, rfl, fun m hm rm => ?_, M', c1, fun g m' hk' hg hm' => ?_⟩
      · by_cases e : m = j
        · subst e
          exact absurd rm nr
        · exact hn m (by omega) rm
      · rw [c2 g m' hk' hg hm', stpB_n nr]
end
