theorem cAbs_z0 (h : zH) (q k : Nat) : cAbs h q 0 (k + 9) = 0 := rfl
theorem cAbs_z (h : zH) (q k i : Nat) : cAbs h q (k + 9) i = 0 := rfl
theorem rAbs_z0 (h : zH) (q k : Nat) : rAbs h q 0 (k + 9) = 0 := rfl
theorem rAbs_z (h : zH) (q k i : Nat) : rAbs h q (k + 9) i = 0 := rfl
/-- a stall that nobody touched -/
theorem cAbs_same {h h' : zH} {q : Nat} (e : ∀ d i, d < 8 → hget h' (q + d) i = hget h (q + d) i) : cAbs h' q = cAbs h q := by
  have r : ∀ d i, d < 8 → hv h' (q + d) i = hv h (q + d) i := fun d i hd => hv_eq (e d i hd)
  have r0 : ∀ i, hv h' q i = hv h q i := fun i => r 0 i (by decide)
  have j : hJ h' q 7 = hJ h q 7 := hJ_eq (e 0 7 (by decide))
  have row : ∀ (d i : Nat), d < 8 → (if i < (hv h' q 8).toNatClampNeg then hv h' (q + d) i else 0) = (if i < (hv h q 8).toNatClampNeg then hv h (q + d) i else 0) := fun d i hd => by
    rw [r0, r d i hd]
  funext c i
  match c with
  | 0 =>
    match i with
    | 0 => exact r0 0
    | 1 => exact r0 1
    | 2 => exact r0 2
    | 3 => exact r0 3
    | 4 => exact r0 4
    | 5 => exact r0 5
    | 6 => exact r0 6
    | 7 => exact r0 8
    | 8 => exact r0 14
    | k + 9 => exact (cAbs_z0 h' q k).trans (cAbs_z0 h q k).symm
  | 1 =>
    show (if 1 ≤ i ∧ i ≤ (hv h' q 0).toNatClampNeg then nI (nb (jN (hJ h' q 7)) i) else 0) = (if 1 ≤ i ∧ i ≤ (hv h q 0).toNatClampNeg then nI (nb (jN (hJ h q 7)) i) else 0)
    rw [r0, j]
  | 2 => exact row 1 i (by decide)
  | 3 => exact row 2 i (by decide)
  | 4 => exact row 3 i (by decide)
  | 5 => exact row 4 i (by decide)
  | 6 => exact row 5 i (by decide)
  | 7 =>
    show (if i < (hv h' q 14).toNatClampNeg then hv h' (q + 6) i else 0) = (if i < (hv h q 14).toNatClampNeg then hv h (q + 6) i else 0)
    rw [r0, r 6 i (by decide)]
  | 8 =>
    show (if i % 8 < (hv h' q 8).toNatClampNeg ∧ i / 8 < (hv h' q 14).toNatClampNeg then hv h' (q + 7) i else 0) = (if i % 8 < (hv h q 8).toNatClampNeg ∧ i / 8 < (hv h q 14).toNatClampNeg then hv h (q + 7) i else 0)
    rw [r0, r0, r 7 i (by decide)]
  | k + 9 => exact (cAbs_z h' q k i).trans (cAbs_z h q k i).symm
theorem rAbs_same {h h' : zH} {q : Nat} (b4 : (hv h q 23).toNatClampNeg ≤ 4) (e : ∀ d i, d < 29 → hget h' (q + d) i = hget h (q + d) i) : rAbs h' q = rAbs h q := by
  have r : ∀ d i, d < 29 → hv h' (q + d) i = hv h (q + d) i := fun d i hd => hv_eq (e d i hd)
  have r0 : ∀ i, hv h' q i = hv h q i := fun i => r 0 i (by decide)
  have row : ∀ (d i : Nat), d < 29 → (if i < (hv h' q 17).toNatClampNeg then hv h' (q + d) i else 0) = (if i < (hv h q 17).toNatClampNeg then hv h (q + d) i else 0) := fun d i hd => by
    rw [r0, r d i hd]
  funext c i
  match c with
  | 0 =>
    match i with
    | 0 => exact r0 9
    | 1 => exact r0 10
    | 2 => exact r0 11
    | 3 => exact r0 12
    | 4 => exact r0 13
    | 5 => exact r0 14
    | 6 => exact r0 15
    | 7 => exact r0 17
    | 8 => exact r0 23
    | k + 9 => exact (rAbs_z0 h' q k).trans (rAbs_z0 h q k).symm
  | 1 =>
    show (if 1 ≤ i ∧ i ≤ (hv h' q 9).toNatClampNeg then 1 - hv h' (q + 17) i else 0) = (if 1 ≤ i ∧ i ≤ (hv h q 9).toNatClampNeg then 1 - hv h (q + 17) i else 0)
    rw [r0, r 17 i (by decide)]
  | 2 => exact row 18 i (by decide)
  | 3 => exact row 19 i (by decide)
  | 4 => exact row 20 i (by decide)
  | 5 => exact row 21 i (by decide)
  | 6 => exact row 22 i (by decide)
  | 7 =>
    show (if i < (hv h' q 23).toNatClampNeg then hv h' (q + 23) i else 0) = (if i < (hv h q 23).toNatClampNeg then hv h (q + 23) i else 0)
    rw [r0, r 23 i (by decide)]
  | 8 =>
    show (if i % 8 < (hv h' q 17).toNatClampNeg ∧ i / 8 < (hv h' q 23).toNatClampNeg then hv h' (q + 25 + i / 8) (i % 8) else 0) = (if i % 8 < (hv h q 17).toNatClampNeg ∧ i / 8 < (hv h q 23).toNatClampNeg then hv h (q + 25 + i / 8) (i % 8) else 0)
    rw [r0, r0]
    by_cases y : i % 8 < (hv h q 17).toNatClampNeg ∧ i / 8 < (hv h q 23).toNatClampNeg
    · rw [if_pos y, if_pos y]
      have := r (25 + i / 8) (i % 8) (by omega)
      rw [← Nat.add_assoc] at this
      exact this
    · rw [if_neg y, if_neg y]
  | k + 9 => exact (rAbs_z h' q k i).trans (rAbs_z h q k i).symm
theorem CC_same {T T' : List Nat} {h h' : zH} {q : Nat} (c : CC T h q) (hk : hOK kty T' h') (ht : tExt T T') (e : ∀ d i, d < 8 → hget h' (q + d) i = hget h (q + d) i) : CC T' h' q ∧ cAbs h' q = cAbs h q := by
  have a := cAbs_same e
  have r0 : ∀ i, hv h' q i = hv h q i := fun i => hv_eq (e 0 i (by decide))
  refine ⟨⟨hk, ⟨ht _ _ c.2.1.1, fun o ho => ⟨(hr_eq (e 0 o.1 (by decide))).trans (c.2.1.2 o ho).1, ht _ _ (c.2.1.2 o ho).2⟩⟩, by rw [a]; exact c.2.2.1, fun i hi h0 => ?_, fun i hi hn => ?_⟩, a⟩
  · have j7 : hJ h' q 7 = hJ h q 7 := hJ_eq (e 0 7 (by decide))
    rw [j7]
    rw [r0] at h0
    exact c.2.2.2.1 i hi h0
  · rw [hv_eq (e 7 i (by decide))]
    rw [r0, r0] at hn
    exact c.2.2.2.2 i hi hn
theorem RC_same {T T' : List Nat} {h h' : zH} {q : Nat} (c : RC T h q) (hk : hOK kty T' h') (ht : tExt T T') (e : ∀ d i, d < 29 → hget h' (q + d) i = hget h (q + d) i) : RC T' h' q ∧ rAbs h' q = rAbs h q := by
  have a := rAbs_same (nB_4 c.2.2.1) e
  refine ⟨⟨hk, ⟨?_, fun o ho => ⟨(hr_eq (e 0 o.1 (by decide))).trans (c.2.1.2.1 o ho).1, ht _ _ (c.2.1.2.1 o ho).2⟩, fun b hb => ⟨(hr_eq (e 24 b (by decide))).trans (c.2.1.2.2 b hb).1, ht _ _ (c.2.1.2.2 b hb).2⟩⟩, by rw [a]; exact c.2.2.1, fun i hi => ?_⟩, a⟩
  · rcases c.2.1.1 with y | y
    · exact Or.inl (ht _ _ y)
    · exact Or.inr (ht _ _ y)
  · rw [hv_eq (e 17 i (by decide))]
    exact c.2.2.2 i hi
/-- long numbers -/
def lZ (z : Int) : Int64 := Int64.ofInt z
theorem lZ_t {z : Int} (h1 : -9223372036854775808 ≤ z) (h2 : z ≤ 9223372036854775807) : (lZ z).toInt = z := Int64.toInt_ofInt_of_le h1 (by omega)
theorem lZ_i (x : Int32) : Int32.toInt64 x = lZ x.toInt := by
  have h1 := t_lo x
  have h2 := t_hi x
  rw [l_eq, i2l, lZ_t (by omega) (by omega)]
theorem lZ_n {k : Nat} (h : k < 2147483648) : Int32.toInt64 (nI k) = lZ (k : Int) := by
  rw [lZ_i, nI_t h]
theorem lZ_add (a b : Int) : lZ (a + b) = lZ a + lZ b := Int64.ofInt_add a b
theorem lZ_mul (a b : Int) : lZ (a * b) = lZ a * lZ b := Int64.ofInt_mul a b
theorem lZ_sub (a b : Int) : lZ (a - b) = lZ a - lZ b := Int64.ofInt_sub a b
theorem lZ_div {a b : Int} (ha : 0 ≤ a) (ha2 : a ≤ 9000000000000000000) (hb : 0 < b) (hb2 : b ≤ 9000000000000000000) : lZ a / lZ b = lZ (a / b) := by
  have h0 := Int.ediv_nonneg ha (Int.le_of_lt hb)
  have h1 : a / b ≤ a := Int.ediv_le_self _ ha
  rw [l_eq, Int64.toInt_div, lZ_t (by omega) (by omega), lZ_t (by omega) (by omega), lZ_t (by omega) (by omega), Int.tdiv_eq_ediv_of_nonneg ha]
  refine Int.bmod_eq_of_le ?_ ?_
  · omega
  · omega
theorem lZ_lt {a : Int} (h1 : -9223372036854775808 ≤ a) (h2 : a ≤ 9223372036854775807) : (0 : Int64) < lZ a ↔ 0 < a := by
  rw [l_lt, lZ_t h1 h2]
  exact Iff.rfl
theorem lZ_i32 {a : Int} (h1 : -2147483648 ≤ a) (h2 : a ≤ 2147483647) : Int64.toInt32 (lZ a) = iZ a := by
  unfold lZ iZ
  exact Int64.toInt32_ofInt
/-- bits of words -/
theorem w_test {x : Int32} {a : Nat} (ha : a < 32) : (x &&& ((1 : Int32) <<< (nI a &&& 31))) = 0 ↔ x.toBitVec.getLsbD a = false := by
  have e : ((1 : Int32) <<< (nI a &&& 31)).toBitVec = BitVec.twoPow 32 a := by
    have : ∀ a : Nat, a < 32 → ((1 : Int32) <<< (nI a &&& 31)).toBitVec = BitVec.twoPow 32 a := by decide +kernel
    exact this a ha
  rw [← Int32.toBitVec_inj, Int32.toBitVec_and, e]
  constructor
  · intro h
    have := congrArg (fun v => v.getLsbD a) h
    simp only [BitVec.getLsbD_and, BitVec.getLsbD_twoPow] at this
    simpa [ha] using this
  · intro h
    apply BitVec.eq_of_getLsbD_eq
    intro i hi
    rw [BitVec.getLsbD_and, BitVec.getLsbD_twoPow]
    by_cases y : i = a
    · subst y
      rw [h]
      simp
    · have : decide (a = i) = false := decide_eq_false (fun z => y z.symm)
      simp [this]
theorem w_put {x : Int32} {a b : Nat} (ha : a < 32) (hb : b < 32) : (x ||| ((1 : Int32) <<< (nI a &&& 31))).toBitVec.getLsbD b = if b = a then true else x.toBitVec.getLsbD b := by
  have e : ((1 : Int32) <<< (nI a &&& 31)).toBitVec = BitVec.twoPow 32 a := by
    have : ∀ a : Nat, a < 32 → ((1 : Int32) <<< (nI a &&& 31)).toBitVec = BitVec.twoPow 32 a := by decide +kernel
    exact this a ha
  rw [Int32.toBitVec_or, e, BitVec.getLsbD_or, BitVec.getLsbD_twoPow]
  by_cases y : b = a
  · subst y
    simp [hb]
  · have : decide (a = b) = false := decide_eq_false (fun z => y z.symm)
    simp [this, y]
theorem w_rem : ∀ m : Nat, m < 256 → jrem (nI m) (32 : Int32) = nI (m % 32) := by decide +kernel
theorem w_ix {g m : Nat} (hg : g ≤ 60) (hm : m < 256) : (((nI g * (256 : Int32)) + nI m) / (32 : Int32)).toNatClampNeg = 8 * g + m / 32 := by
  have h256 : (256 : Int32).toInt = 256 := rfl
  have h32 : (32 : Int32).toInt = 32 := rfl
  have a : (nI g * (256 : Int32)).toInt = (g : Int) * 256 := by
    rw [t_mul (by rw [nI_t (by omega), h256]; omega) (by rw [nI_t (by omega), h256]; omega), nI_t (by omega), h256]
  have c : ((nI g * (256 : Int32)) + nI m) = nI (256 * g + m) := by
    rw [i_eq, i_iadd (by rw [a, nI_t (by omega)]; omega) (by rw [a, nI_t (by omega)]; omega), a, nI_t (by omega), nI_t (by omega)]
    omega
  have d : (nI (256 * g + m) / (32 : Int32)) = nI (8 * g + m / 32) := by
    rw [i_eq, Int32.toInt_div, nI_t (by omega), nI_t (by omega), h32, Int.tdiv_eq_ediv_of_nonneg (by omega)]
    refine (Int.bmod_eq_of_le ?_ ?_).trans ?_
    · omega
    · omega
    · omega
  rw [c, d, nI_c (by omega)]
