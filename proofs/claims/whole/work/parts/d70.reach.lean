/-- what a go can make of those that stand behind k goes; what can come about -/
def stpC (S : ST) (k m m' : Nat) : Prop := (m' = m ∧ nI (pcount 8 m) < nI (inN S) - nI k) ∨ ∃ t, t < nT S ∧ nb m t ≠ 0 ∧ freeB S (S 0 4 + nI k) (nI (inN S) - nI k) t = true ∧ m' = sDiff m (wonN S t m)
def hitC (S : ST) (t0 k m : Nat) : Prop := ∃ t, t < nT S ∧ nb m t ≠ 0 ∧ freeB S (S 0 4 + nI k) (nI (inN S) - nI k) t = true ∧ nb (wonN S t m) t0 ≠ 0
def rchC (S : ST) : Nat → Nat → Prop
  | 0, m => m = stN S
  | k + 1, m' => ∃ m, rchC S k m ∧ stpC S k m m'
def hitL (S : ST) (t0 k : Nat) : Prop := ∃ m, rchC S k m ∧ hitC S t0 k m
def chnR (S : ST) (t0 : Nat) (a : Int32) : Prop := (∃ k, k < 12 ∧ hitL S t0 k ∧ (∀ j, j < k → ¬ hitL S t0 j) ∧ a = nI (k + 1)) ∨ ((∀ k, k < 12 → ¬ hitL S t0 k) ∧ a = -1)
theorem chn_uniq {S : ST} {t0 : Nat} {a b : Int32} (ha : chnR S t0 a) (hb : chnR S t0 b) : a = b := by
  rcases ha with ⟨k, k1, k2, k3, k4⟩ | ⟨k1, k2⟩
  · rcases hb with ⟨j, j1, j2, j3, j4⟩ | ⟨j1, j2⟩
    · have : k = j := by
        rcases Nat.lt_trichotomy k j with y | y | y
        · exact absurd k2 (j3 k y)
        · exact y
        · exact absurd j2 (k3 j y)
      rw [k4, j4, this]
    · exact absurd k2 (j1 k k1)
  · rcases hb with ⟨j, j1, j2, j3, j4⟩ | ⟨j1, j2⟩
    · exact absurd j2 (k1 j j1)
    · rw [k2, j2]
theorem rch_sub {S : ST} (w : WF S) : ∀ {k m : Nat}, rchC S k m → m < 256 ∧ subS m (stN S)
  | 0, m => fun h => by
    have h : m = stN S := h
    rw [h]
    exact ⟨own_lt w (-1), sub_rf _⟩
  | k + 1, m' => fun h => by
    obtain ⟨m, h1, h2⟩ := h
    obtain ⟨a, b⟩ := rch_sub w h1
    rcases h2 with ⟨e, -⟩ | ⟨t, -, -, -, e⟩
    · rw [e]
      exact ⟨a, b⟩
    · rw [e]
      exact ⟨sDiff_lt _ _, sub_diff b⟩
theorem rch_inT {S : ST} (w : WF S) {k m : Nat} (h : rchC S k m) : inT S m := by
  obtain ⟨a, b⟩ := rch_sub w h
  exact sub_inT a b (inT_st w)
theorem rch_has {S : ST} {t0 : Nat} (h8 : t0 < 8) (h0 : nb (stN S) t0 ≠ 0) : ∀ {k : Nat}, (∀ j, j < k → ¬ hitL S t0 j) → ∀ m, rchC S k m → nb m t0 ≠ 0
  | 0, _, m => fun h => by
    have h : m = stN S := h
    rw [h]
    exact h0
  | k + 1, hn, m' => fun h => by
    obtain ⟨m, h1, h2⟩ := h
    have ih := rch_has h8 h0 (k := k) (fun j hj => hn j (by omega)) m h1
    rcases h2 with ⟨e, -⟩ | ⟨t, a, b, c, e⟩
    · rw [e]
      exact ih
    · rw [e, nb_diff _ _ _ h8]
      have z : ¬ nb (wonN S t m) t0 ≠ 0 := fun y => hn k (by omega) ⟨m, h1, t, a, b, c, y⟩
      have := nb_lt m t0
      rw [if_pos ⟨by omega, by omega⟩]
      decide
theorem hit_iff {S : ST} {t0 : Nat} (h8 : t0 < 8) {k : Nat} (hh : ∀ m, rchC S k m → nb m t0 ≠ 0) : hitL S t0 k ↔ ∃ m', rchC S (k + 1) m' ∧ nb m' t0 = 0 := by
  constructor
  · rintro ⟨m, h1, t, a, b, c, d⟩
    refine ⟨sDiff m (wonN S t m), ⟨m, h1, Or.inr ⟨t, a, b, c, rfl⟩⟩, ?_⟩
    rw [nb_diff _ _ _ h8, if_neg (fun y => d y.2)]
  · rintro ⟨m', ⟨m, h1, h2⟩, z⟩
    have y := hh m h1
    rcases h2 with ⟨e, -⟩ | ⟨t, a, b, c, e⟩
    · rw [e] at z
      exact absurd z y
    · refine ⟨m, h1, t, a, b, c, fun q => ?_⟩
      rw [e, nb_diff _ _ _ h8] at z
      have := nb_lt m t0
      rw [if_pos ⟨by omega, q⟩] at z
      cases z
/-- of the sets below j -/
def stpB (S : ST) (k j m' : Nat) : Prop := ∃ m, m < j ∧ rchC S k m ∧ stpC S k m m'
/-- by the things below u -/
def stpT (S : ST) (k m u m' : Nat) : Prop := ∃ t, t < u ∧ t < nT S ∧ nb m t ≠ 0 ∧ freeB S (S 0 4 + nI k) (nI (inN S) - nI k) t = true ∧ m' = sDiff m (wonN S t m)
theorem stpT_0 (S : ST) (k m m' : Nat) : ¬ stpT S k m 0 m' := fun ⟨t, h, _⟩ => absurd h (Nat.not_lt_zero t)
theorem stpT_s {S : ST} {k m u m' : Nat} (hu : u < nT S) : stpT S k m (u + 1) m' ↔ stpT S k m u m' ∨ (nb m u ≠ 0 ∧ freeB S (S 0 4 + nI k) (nI (inN S) - nI k) u = true ∧ m' = sDiff m (wonN S u m)) := by
  constructor
  · rintro ⟨t, a, b, c⟩
    by_cases e : t = u
    · subst e
      exact Or.inr c
    · exact Or.inl ⟨t, by omega, b, c⟩
  · rintro (⟨t, a, b, c⟩ | c)
    · exact ⟨t, by omega, b, c⟩
    · exact ⟨u, by omega, hu, c⟩
theorem stpT_n {S : ST} {k m m' : Nat} : stpC S k m m' ↔ (m' = m ∧ nI (pcount 8 m) < nI (inN S) - nI k) ∨ stpT S k m (nT S) m' := by
  constructor
  · rintro (h | ⟨t, a, b⟩)
    · exact Or.inl h
    · exact Or.inr ⟨t, a, a, b⟩
  · rintro (h | ⟨t, -, a, b⟩)
    · exact Or.inl h
    · exact Or.inr ⟨t, a, b⟩
theorem stpB_s {S : ST} {k j m' : Nat} (hr : rchC S k j) : stpB S k (j + 1) m' ↔ stpB S k j m' ∨ stpC S k j m' := by
  constructor
  · rintro ⟨m, a, b, c⟩
    by_cases e : m = j
    · subst e
      exact Or.inr c
    · exact Or.inl ⟨m, by omega, b, c⟩
  · rintro (⟨m, a, b, c⟩ | c)
    · exact ⟨m, by omega, b, c⟩
    · exact ⟨j, by omega, hr, c⟩
theorem stpB_n {S : ST} {k j m' : Nat} (hr : ¬ rchC S k j) : stpB S k (j + 1) m' ↔ stpB S k j m' := by
  constructor
  · rintro ⟨m, a, b, c⟩
    by_cases e : m = j
    · subst e
      exact absurd b hr
    · exact ⟨m, by omega, b, c⟩
  · rintro ⟨m, a, b, c⟩
    exact ⟨m, by omega, b, c⟩
theorem stpB_all {S : ST} {k j m' : Nat} (h : ∀ m, rchC S k m → m < j) : stpB S k j m' ↔ rchC S (k + 1) m' := by
  constructor
  · rintro ⟨m, a, b, c⟩
    exact ⟨m, b, c⟩
  · rintro ⟨m, b, c⟩
    exact ⟨m, h m b, b, c⟩
theorem nb_rd {S : ST} (g l : Int32) {t : Nat} (ht : t < nT S) : nb (rdN S g l) t = if freeB S g l t = true then 1 else 0 := by
  unfold rdN
  rw [nb_set]
  by_cases y : freeB S g l t = true
  · rw [if_pos y, if_pos ⟨ht, y⟩]
  · rw [if_neg y, if_neg (fun z => y z.2)]
