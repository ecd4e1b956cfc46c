/-- a bit of a number -/
def nb (n i : Nat) : Nat := n / 2 ^ i % 2
theorem nb_lt (n i : Nat) : nb n i < 2 := Nat.mod_lt _ (by decide)
theorem nb_test (n i : Nat) : nb n i = if n.testBit i then 1 else 0 := by
  rw [Nat.testBit_eq_decide_div_mod_eq]
  unfold nb
  have := Nat.mod_lt (n / 2 ^ i) (show 2 > 0 by decide)
  by_cases h : n / 2 ^ i % 2 = 1
  · rw [h]
    rfl
  · rw [show n / 2 ^ i % 2 = 0 by omega]
    rfl
theorem nb_succ (n i : Nat) : nb n (i + 1) = nb (n / 2) i := by
  unfold nb
  rw [Nat.pow_succ, Nat.mul_comm, Nat.div_div_eq_div_mul]
/-- the sum of f over the first m -/
def sumN (f : Nat → Nat) : Nat → Nat
  | 0 => 0
  | m + 1 => sumN f m + f m
theorem sumN_congr {f g : Nat → Nat} : ∀ {m : Nat}, (∀ i, i < m → f i = g i) → sumN f m = sumN g m
  | 0, _ => rfl
  | m + 1, h => by
    show sumN f m + f m = sumN g m + g m
    rw [sumN_congr (fun i hi => h i (by omega)), h m (by omega)]
theorem sumN_succ' (f : Nat → Nat) : ∀ m : Nat, sumN f (m + 1) = f 0 + sumN (fun i => f (i + 1)) m
  | 0 => by
    show 0 + f 0 = f 0 + 0
    omega
  | m + 1 => by
    show sumN f (m + 1) + f (m + 1) = f 0 + (sumN (fun i => f (i + 1)) m + f (m + 1))
    rw [sumN_succ' f m]
    omega
theorem sumN_zero {f : Nat → Nat} {a : Nat} : ∀ {m : Nat}, (∀ i, a ≤ i → i < m → f i = 0) → a ≤ m → sumN f m = sumN f a := by
  intro m
  induction m with
  | zero =>
    intro _ h2
    obtain rfl : a = 0 := by omega
    rfl
  | succ m ih =>
    intro h h2
    by_cases e : a = m + 1
    · rw [e]
    · show sumN f m + f m = _
      rw [h m (by omega) (by omega), ih (fun i h3 h4 => h i h3 (by omega)) (by omega)]
      rfl
theorem sumN_le {f : Nat → Nat} {b : Nat} : ∀ {m : Nat}, (∀ i, i < m → f i ≤ b) → sumN f m ≤ m * b
  | 0, _ => Nat.zero_le _
  | m + 1, h => by
    have := sumN_le (fun i (hi : i < m) => h i (by omega))
    have h2 := h m (by omega)
    show sumN f m + f m ≤ (m + 1) * b
    rw [Nat.add_mul, Nat.one_mul]
    omega
theorem pcount_sum : ∀ m n : Nat, pcount m n = sumN (nb n) m
  | 0, _ => rfl
  | m + 1, n => by
    rw [sumN_succ']
    show n % 2 + pcount m (n / 2) = nb n 0 + _
    rw [pcount_sum m]
    have e : nb n 0 = n % 2 := by
      show n / 2 ^ 0 % 2 = n % 2
      rw [Nat.pow_zero, Nat.div_one]
    rw [e]
    congr 1
    exact sumN_congr (fun i _ => (nb_succ n i).symm)
/-- the number that a long's bits are -/
def jN (x : Int64) : Nat := x.toBitVec.toNat
theorem jN_lt (x : Int64) : jN x < 256 ^ 8 := x.toBitVec.isLt
theorem bv_and {x y : BitVec 64} : (x &&& y).toNat = x.toNat &&& y.toNat := BitVec.toNat_and x y
theorem F_J13_bv (x : Int64) : ∃ A B C D E H : BitVec 64, A = x.toBitVec - ((x.toBitVec >>> 1) &&& 6148914691236517205#64) ∧ B = (A &&& 3689348814741910323#64) + ((A >>> 2) &&& 3689348814741910323#64) ∧ C = (B + (B >>> 4)) &&& 1085102592571150095#64 ∧ D = C + (C >>> 8) ∧ E = D + (D >>> 16) ∧ H = E + (E >>> 32) ∧ F_J13_bitCount_95d88 x = (⟨⟨H.signExtend 32 &&& 127#32⟩⟩ : Int32) :=
  ⟨_, _, _, _, _, _, rfl, rfl, rfl, rfl, rfl, rfl, rfl⟩
theorem sw_masks : sw_mk 85 8 = 6148914691236517205 ∧ sw_mk 51 8 = 3689348814741910323 ∧ sw_mk 15 8 = 1085102592571150095 := by decide +kernel
theorem F_J13_eq (x : Int64) : (F_J13_bitCount_95d88 x).toInt = (pcount 64 (jN x) : Int) := by
  obtain ⟨A, B, C, D, E, H, eA, eB, eC, eD, eE, eH, e⟩ := F_J13_bv x
  obtain ⟨a, b, c, ea, eb, ec, l1, l2, l3, l4, l5, l6, l7⟩ := swar (jN x) (jN_lt x)
  obtain ⟨m1, m2, m3⟩ := sw_masks
  rw [m1] at ea
  rw [m2] at eb
  rw [m3] at ec
  have p64 : (256 : Nat) ^ 8 = 2 ^ 64 := by decide
  have hx : x.toBitVec.toNat = jN x := rfl
  have hA : A.toNat = a := by
    have i1 : x.toBitVec.toNat >>> 1 &&& 6148914691236517205 ≤ x.toBitVec.toNat := Nat.le_trans Nat.and_le_left (by rw [Nat.shiftRight_eq_div_pow]; exact Nat.div_le_self _ _)
    have i2 := jN_lt x
    rw [p64] at i2
    rw [eA, BitVec.toNat_sub, bv_and, BitVec.toNat_ushiftRight, ea, show (6148914691236517205#64).toNat = 6148914691236517205 from rfl]
    rw [hx] at i1 ⊢
    rw [show jN x >>> 1 = jN x / 2 from Nat.shiftRight_eq_div_pow _ 1] at i1 ⊢
    omega
  have hB : B.toNat = b := by
    rw [eB, BitVec.toNat_add, bv_and, bv_and, BitVec.toNat_ushiftRight, hA, show (3689348814741910323#64).toNat = 3689348814741910323 from rfl, show a >>> 2 = a / 4 from Nat.shiftRight_eq_div_pow _ 2, ← eb]
    exact Nat.mod_eq_of_lt (by rw [← p64]; exact l2)
  have hC : C.toNat = c := by
    rw [eC, bv_and, BitVec.toNat_add, BitVec.toNat_ushiftRight, hB, show (1085102592571150095#64).toNat = 1085102592571150095 from rfl, show b >>> 4 = b / 16 from Nat.shiftRight_eq_div_pow _ 4, Nat.mod_eq_of_lt (by rw [← p64]; exact l3)]
    exact ec.symm
  have hD : D.toNat = c + c / 256 := by
    rw [eD, BitVec.toNat_add, BitVec.toNat_ushiftRight, hC, show c >>> 8 = c / 256 from Nat.shiftRight_eq_div_pow _ 8]
    exact Nat.mod_eq_of_lt (by rw [← p64]; exact l4)
  have hE : E.toNat = (c + c / 256) + (c + c / 256) / 65536 := by
    rw [eE, BitVec.toNat_add, BitVec.toNat_ushiftRight, hD, show (c + c / 256) >>> 16 = (c + c / 256) / 65536 from Nat.shiftRight_eq_div_pow _ 16]
    exact Nat.mod_eq_of_lt (by rw [← p64]; exact l5)
  have hH : H.toNat = ((c + c / 256) + (c + c / 256) / 65536) + ((c + c / 256) + (c + c / 256) / 65536) / 4294967296 := by
    rw [eH, BitVec.toNat_add, BitVec.toNat_ushiftRight, hE, show ((c + c / 256) + (c + c / 256) / 65536) >>> 32 = ((c + c / 256) + (c + c / 256) / 65536) / 4294967296 from Nat.shiftRight_eq_div_pow _ 32]
    exact Nat.mod_eq_of_lt (by rw [← p64]; exact l6)
  rw [e]
  have hs : (H.signExtend 32).toNat = H.toNat % 2 ^ 32 := by
    rw [BitVec.signExtend_eq_setWidth_of_le H (by decide), BitVec.toNat_setWidth]
  have hn : (H.signExtend 32 &&& 127#32).toNat = pcount 64 (jN x) := by
    rw [BitVec.toNat_and, hs, show (127#32).toNat = 2 ^ 7 - 1 from rfl, Nat.and_two_pow_sub_one_eq_mod, hH, ← l7]
    omega
  have hp : pcount 64 (jN x) < 128 := by
    rw [← l7]
    exact Nat.mod_lt _ (by decide)
  show (H.signExtend 32 &&& 127#32).toInt = _
  rw [BitVec.toInt_eq_toNat_of_lt (by rw [hn]; omega), hn]
theorem F_J6_eq : ∀ k : Nat, k < 256 → F_J6_bitCount_0f7a4 (nI k) = nI (pcount 8 k) := by decide +kernel
/-- the bits of a long, and what the class does to them -/
theorem jN_one {i : Nat} (hi : i < 64) {s : Int32} (hs : s.toInt = (i : Int)) : ((1 : Int64) <<< (Int32.toInt64 s &&& 63)).toBitVec = BitVec.twoPow 64 i := by
  have key : ∀ k : Nat, k < 64 → ((1 : Int64) <<< (Int32.toInt64 (nI k) &&& 63)).toBitVec = BitVec.twoPow 64 k := by decide +kernel
  have e : s = nI i := by rw [i_eq, nI_t (by omega), hs]
  rw [e]
  exact key i hi
theorem jN_nb (x : Int64) (i : Nat) : nb (jN x) i = if x.toBitVec.getLsbD i then 1 else 0 := nb_test _ _
theorem j_isIn {x : Int64} {i : Nat} (hi : i < 64) {s : Int32} (hs : s.toInt = (i : Int)) : (x &&& ((1 : Int64) <<< (Int32.toInt64 s &&& 63))) = 0 ↔ nb (jN x) i = 0 := by
  rw [← Int64.toBitVec_inj, Int64.toBitVec_and, jN_one hi hs, jN_nb]
  constructor
  · intro h
    have := congrArg (fun y : BitVec 64 => y.getLsbD i) h
    have this : (x.toBitVec &&& BitVec.twoPow 64 i).getLsbD i = (Int64.toBitVec 0).getLsbD i := this
    rw [BitVec.getLsbD_and, BitVec.getLsbD_twoPow] at this
    have h2 : (Int64.toBitVec 0).getLsbD i = false := BitVec.getLsbD_zero
    rw [h2] at this
    cases hb : x.toBitVec.getLsbD i with
    | false => rfl
    | true =>
      rw [hb] at this
      simp [hi] at this
  · intro h
    refine BitVec.eq_of_getLsbD_eq (fun j hj => ?_)
    rw [BitVec.getLsbD_and, BitVec.getLsbD_twoPow]
    have h2 : (Int64.toBitVec 0).getLsbD j = false := BitVec.getLsbD_zero
    rw [h2]
    by_cases e : i = j
    · subst e
      cases hb : x.toBitVec.getLsbD i with
      | false => rfl
      | true =>
        rw [hb] at h
        cases h
    · simp [e]
theorem j_out {x : Int64} {i : Nat} (hi : i < 64) {s : Int32} (hs : s.toInt = (i : Int)) (j : Nat) : nb (jN (x &&& (((1 : Int64) <<< (Int32.toInt64 s &&& 63)) ^^^ (-1 : Int64)))) j = if j = i then 0 else nb (jN x) j := by
  rw [jN_nb, jN_nb, Int64.toBitVec_and, Int64.toBitVec_xor, jN_one hi hs, BitVec.getLsbD_and, BitVec.getLsbD_xor, BitVec.getLsbD_twoPow]
  have h1 : (Int64.toBitVec (-1)).getLsbD j = decide (j < 64) := by
    rw [show Int64.toBitVec (-1) = BitVec.allOnes 64 from rfl, BitVec.getLsbD_allOnes]
  rw [h1]
  by_cases e : j = i
  · subst e
    simp [hi]
  · rw [if_neg e]
    by_cases hj : j < 64
    · have e2 : ¬ i = j := fun h => e h.symm
      simp [hj, e2]
    · have : x.toBitVec.getLsbD j = false := BitVec.getLsbD_of_ge _ _ (by omega)
      simp [this]
theorem j_all : ∀ n : Nat, n < 61 → ∀ j : Nat, j < 64 → nb (jN ((((1 : Int64) <<< (Int32.toInt64 (nI n) &&& 63)) - 1) <<< (Int32.toInt64 1 &&& 63))) j = if 1 ≤ j ∧ j ≤ n then 1 else 0 := by decide +kernel
