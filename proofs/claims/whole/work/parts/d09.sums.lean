/-- sums of integers -/
def sumZ (f : Nat → Int) : Nat → Int
  | 0 => 0
  | m + 1 => sumZ f m + f m
theorem sumZ_congr {f g : Nat → Int} : ∀ {m : Nat}, (∀ i, i < m → f i = g i) → sumZ f m = sumZ g m
  | 0, _ => rfl
  | m + 1, h => by
    show sumZ f m + f m = sumZ g m + g m
    rw [sumZ_congr (fun i hi => h i (by omega)), h m (by omega)]
theorem sumZ_add (f g : Nat → Int) : ∀ m : Nat, sumZ (fun i => f i + g i) m = sumZ f m + sumZ g m
  | 0 => rfl
  | m + 1 => by
    show sumZ (fun i => f i + g i) m + (f m + g m) = (sumZ f m + f m) + (sumZ g m + g m)
    rw [sumZ_add f g m]
    omega
theorem sumZ_0 : ∀ m : Nat, sumZ (fun _ => 0) m = 0
  | 0 => rfl
  | m + 1 => by
    show sumZ (fun _ => 0) m + 0 = 0
    rw [sumZ_0 m]
    rfl
theorem sumZ_swap (g : Nat → Nat → Int) (n : Nat) : ∀ m : Nat, sumZ (fun i => sumZ (g i) n) m = sumZ (fun t => sumZ (fun i => g i t) m) n
  | 0 => (sumZ_0 n).symm
  | m + 1 => by
    show sumZ (fun i => sumZ (g i) n) m + sumZ (g m) n = sumZ (fun t => sumZ (fun i => g i t) m + g m t) n
    rw [sumZ_swap g n m, sumZ_add]
theorem sumZ_one (s : Nat) (c : Int) : ∀ m : Nat, sumZ (fun i => if s = i then c else 0) m = if s < m then c else 0
  | 0 => by
    rw [if_neg (Nat.not_lt_zero _)]
    rfl
  | m + 1 => by
    show sumZ (fun i => if s = i then c else 0) m + (if s = m then c else 0) = _
    rw [sumZ_one s c m]
    by_cases h1 : s < m
    · rw [if_pos h1, if_neg (by omega), if_pos (by omega)]
      omega
    · by_cases h2 : s = m
      · rw [if_neg h1, if_pos h2, if_pos (by omega)]
        omega
      · rw [if_neg h1, if_neg h2, if_neg (by omega)]
        rfl
/-- of several with places of their own, what stands at place i -/
theorem sumZ_at (sl : Nat → Nat) (f : Nat → Int) (i : Nat) : ∀ n : Nat, (∀ t u, t < n → u < t → sl u ≠ sl t) → (∀ t, t < n → sl t = i → sumZ (fun t => if sl t = i then f t else 0) n = f t) ∧ ((∀ t, t < n → sl t ≠ i) → sumZ (fun t => if sl t = i then f t else 0) n = 0)
  | 0, _ => ⟨fun t h => absurd h (Nat.not_lt_zero _), fun _ => rfl⟩
  | n + 1, hd => by
    have ih := sumZ_at sl f i n (fun t u h1 h2 => hd t u (by omega) h2)
    constructor
    · intro t ht e
      show sumZ (fun t => if sl t = i then f t else 0) n + (if sl n = i then f n else 0) = f t
      by_cases et : t = n
      · subst et
        rw [if_pos e, ih.2 (fun u hu x => hd t u (by omega) hu (by rw [x, e]))]
        omega
      · rw [ih.1 t (by omega) e, if_neg (fun x => hd n t (by omega) (by omega) (by rw [x, e]))]
        omega
    · intro h
      show sumZ (fun t => if sl t = i then f t else 0) n + (if sl n = i then f n else 0) = 0
      rw [ih.2 (fun t ht => h t (by omega)), if_neg (h n (by omega))]
      rfl
theorem sumZ_le {f : Nat → Int} {a b : Int} : ∀ {m : Nat}, (∀ i, i < m → a ≤ f i ∧ f i ≤ b) → m * a ≤ sumZ f m ∧ sumZ f m ≤ m * b
  | 0, _ => by
    show ((0 : Nat) : Int) * a ≤ 0 ∧ 0 ≤ ((0 : Nat) : Int) * b
    rw [show ((0 : Nat) : Int) = 0 from rfl, Int.zero_mul, Int.zero_mul]
    exact ⟨Int.le_refl _, Int.le_refl _⟩
  | m + 1, h => by
    have := sumZ_le (fun i (hi : i < m) => h i (by omega))
    have h2 := h m (by omega)
    show ((m + 1 : Nat) : Int) * a ≤ sumZ f m + f m ∧ sumZ f m + f m ≤ ((m + 1 : Nat) : Int) * b
    rw [show ((m + 1 : Nat) : Int) = (m : Int) + 1 by omega, Int.add_mul, Int.add_mul, Int.one_mul, Int.one_mul]
    omega
/-- an int of an integer -/
def iZ (z : Int) : Int32 := Int32.ofInt z
theorem iZ_add (a b : Int) : iZ (a + b) = iZ a + iZ b := Int32.ofInt_add a b
theorem iZ_t {z : Int} (h1 : -2147483648 ≤ z) (h2 : z ≤ 2147483647) : (iZ z).toInt = z := by
  unfold iZ
  rw [Int32.toInt_ofInt]
  show z.bmod 4294967296 = z
  exact Int.bmod_eq_of_le (by omega) (by omega)
theorem iZ_i (x : Int32) : iZ x.toInt = x := Int32.ofInt_toInt x
theorem iZ_n (k : Nat) : iZ (k : Int) = nI k := rfl
/-- how much a buyer likes a thing, a set -/
def lkS (S : ST) (b t : Nat) : Int := if b < nB S ∧ t < nT S then (S 8 (8 * b + t)).toInt else 0
def lkN (S : ST) (b m : Nat) : Int := sumZ (fun t => if nb m t = 0 then 0 else lkS S b t) (nT S)
theorem lk_ix : ∀ b : Nat, b < 4 → ∀ t : Nat, t < 8 → (nI b * (8 : Int32) + nI t).toNatClampNeg = 8 * b + t := by decide +kernel
theorem lkS_b {S : ST} (w : WF S) (b t : Nat) : 0 ≤ lkS S b t ∧ lkS S b t ≤ 999 := by
  unfold lkS
  by_cases e : b < nB S ∧ t < nT S
  · rw [if_pos e]
    exact w.2.2.2.2 _
  · rw [if_neg e]
    decide
section
variable {T : List Nat} {h : zH} {q : Nat}
theorem c_isT' {S : ST} (hS : S = cAbs h q) (w : WF S) {t : Nat} (ht : t < nT S) : F_X1_isThing h q (nI t) = 1 := by
  subst hS
  rcases c_isT (h := h) (q := q) (nI t) with ⟨-, n⟩ | ⟨e, -⟩
  · exact absurd (isT_n w ht) n
  · exact e
theorem isB_n {S : ST} (w : WF S) {b : Nat} (hb : b < nB S) : isB S (nI b) := by
  have n4 := nB_4 w
  have := nB_i w
  show 0 ≤ (nI b).toInt ∧ (nI b).toInt < _
  rw [nI_t (by omega)]
  omega
theorem c_isB' {S : ST} (hS : S = cAbs h q) (w : WF S) {b : Nat} (hb : b < nB S) : F_X1_isBuyer h q (nI b) = 1 := by
  subst hS
  rcases c_isB (h := h) (q := q) (nI b) with ⟨-, n⟩ | ⟨e, -⟩
  · exact absurd (isB_n w hb) n
  · exact e
theorem c_lk (c : CC T h q) {b t : Nat} (hb : b < nB (cAbs h q)) (ht : t < nT (cAbs h q)) : F_X1_liking h q (nI b) (nI t) = iZ (lkS (cAbs h q) b t) := by
  have w := c.2.2.1
  have n8 := nT_8 w
  have n4 := nB_4 w
  have h10 : ¬ (1 : Int32) = 0 := by decide
  unfold F_X1_liking lkS
  simp only [letf]
  rw [c_isB' rfl w hb, if_neg h10, c_isT' rfl w ht, if_neg h10, cl16 c.2.1, lk_ix b (by omega) t (by omega), if_pos ⟨hb, ht⟩, iZ_i]
  have e : (8 * b + t) % 8 < (hv h q 8).toNatClampNeg ∧ (8 * b + t) / 8 < (hv h q 14).toNatClampNeg := by
    rw [show (8 * b + t) % 8 = t by omega, show (8 * b + t) / 8 = b by omega]
    exact ⟨ht, hb⟩
  exact (if_pos e).symm
theorem c_lkAll (c : CC T h q) {b m : Nat} (hb : b < nB (cAbs h q)) (hm : m < 256) : F_X1_likingOfAll h q (nI b) (nI m) = iZ (lkN (cAbs h q) b m) := by
  have w := c.2.2.1
  have n8 := nT_8 w
  unfold F_X1_likingOfAll lkN
  refine fx_for (fun j => (iZ (sumZ (fun t => if nb m t = 0 then 0 else lkS (cAbs h q) b t) j), nI j)) _ (nT (cAbs h q)) ?_ (fun j hj => ?_)
  · unfold B_X1_likingOfAll_5
    dsimp only
    rw [if_neg (fun e => absurd ((cT_lt w (by omega)).mp e) (Nat.lt_irrefl _))]
  · unfold B_X1_likingOfAll_5
    simp only [letf]
    have st := s_test m hm j (by omega)
    rw [if_pos ((cT_lt w (by omega)).mpr hj), c_lk c hb hj, nI_s]
    show _ = Sum.inl (iZ (sumZ (fun t => if nb m t = 0 then 0 else lkS (cAbs h q) b t) j + (if nb m j = 0 then 0 else lkS (cAbs h q) b j)), _)
    by_cases e : nb m j = 0
    · rw [if_pos (st.mpr e), if_pos e, Int.add_zero]
    · rw [if_neg (fun x => e (st.mp x)), if_neg e, iZ_add]
theorem r_lk (c : RC T h q) {b t : Nat} (hb : b < nB (rAbs h q)) (ht : t < nT (rAbs h q)) : hv h (hr h (hr h q 25) b) t = iZ (lkS (rAbs h q) b t) := by
  have w := c.2.2.1
  have n8 := nT_8 w
  have n4 := nB_4 w
  unfold lkS
  rw [rl25 c.2.1, (c.2.1.2.2 b (by omega)).1, if_pos ⟨hb, ht⟩, iZ_i]
  have e : (8 * b + t) % 8 < (hv h q 17).toNatClampNeg ∧ (8 * b + t) / 8 < (hv h q 23).toNatClampNeg := by
    rw [show (8 * b + t) % 8 = t by omega, show (8 * b + t) / 8 = b by omega]
    exact ⟨ht, hb⟩
  have e2 : rAbs h q 8 (8 * b + t) = hv h (q + 25 + (8 * b + t) / 8) ((8 * b + t) % 8) := if_pos e
  rw [show (8 * b + t) % 8 = t by omega, show (8 * b + t) / 8 = b by omega] at e2
  exact e2.symm
theorem r_lkAll (c : RC T h q) {b m : Nat} (hb : b < nB (rAbs h q)) (hm : m < 256) : F_X5_liked h q (nI b) (nI m) = iZ (lkN (rAbs h q) b m) := by
  have w := c.2.2.1
  have n8 := nT_8 w
  have n4 := nB_4 w
  unfold F_X5_liked lkN
  refine fx_for (fun j => (iZ (sumZ (fun t => if nb m t = 0 then 0 else lkS (rAbs h q) b t) j), nI j)) _ (nT (rAbs h q)) ?_ (fun j hj => ?_)
  · unfold B_X5_liked_5
    dsimp only
    rw [if_neg (fun e => absurd ((rT_lt w (by omega)).mp e) (Nat.lt_irrefl _))]
  · unfold B_X5_liked_5
    dsimp only
    have ms : nI (nb m j) = 0 ↔ nb m j = 0 := by
      rw [i_eq, nI_t (by have := nb_lt m j; omega), e0]
      omega
    have z : ∀ x : Int32, x + (0 : Int32) = x := fun x => Int32.add_zero x
    rw [if_pos ((rT_lt w (by omega)).mpr hj), s_shr m hm j (by omega), nI_c (k := b) (by omega), nI_c (k := j) (by omega), r_lk c hb hj, nI_s, z]
    show _ = Sum.inl (iZ (sumZ (fun t => if nb m t = 0 then 0 else lkS (rAbs h q) b t) j + (if nb m j = 0 then 0 else lkS (rAbs h q) b j)), _)
    by_cases e : nb m j = 0
    · rw [if_pos (ms.mpr e), if_pos e, Int.add_zero]
    · rw [if_neg (fun x => e (ms.mp x)), if_neg e, iZ_add]
end
