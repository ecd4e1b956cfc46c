/-- sets of things as numbers below 256 -/
def setN (p : Nat → Bool) : Nat → Nat
  | 0 => 0
  | n + 1 => if p n then setN p n + 2 ^ n else setN p n
theorem setN_lt (p : Nat → Bool) : ∀ n, setN p n < 2 ^ n
  | 0 => Nat.one_pos
  | n + 1 => by
    have := setN_lt p n
    rw [Nat.pow_succ]
    unfold setN
    split <;> omega
theorem setN_256 {p : Nat → Bool} {n : Nat} (hn : n ≤ 8) : setN p n < 256 :=
  Nat.lt_of_lt_of_le (setN_lt p n) (Nat.pow_le_pow_right (by decide) hn)
theorem setN_congr {p q : Nat → Bool} : ∀ {n : Nat}, (∀ t, t < n → p t = q t) → setN p n = setN q n
  | 0, _ => rfl
  | n + 1, h => by
    unfold setN
    rw [h n (by omega), setN_congr (fun t ht => h t (by omega))]
theorem nb_add {m n : Nat} (h : m < 2 ^ n) (t : Nat) : nb (m + 2 ^ n) t = if t = n then 1 else nb m t := by
  unfold nb
  by_cases e : t = n
  · subst e
    rw [if_pos rfl, Nat.add_div_right _ (Nat.two_pow_pos t), Nat.div_eq_of_lt h]
  · rw [if_neg e]
    by_cases l : t < n
    · have e2 : 2 ^ n = 2 ^ t * (2 * 2 ^ (n - t - 1)) := by
        rw [← Nat.mul_assoc, ← Nat.pow_succ, ← Nat.pow_add]
        congr 1
        omega
      rw [e2, Nat.add_mul_div_left _ _ (Nat.two_pow_pos t)]
      omega
    · have h1 : m + 2 ^ n < 2 ^ t := by
        have : 2 ^ (n + 1) ≤ 2 ^ t := Nat.pow_le_pow_right (by decide) (by omega)
        rw [Nat.pow_succ] at this
        omega
      rw [Nat.div_eq_of_lt h1, Nat.div_eq_of_lt (by omega)]
theorem nb_big {m t : Nat} (h : m < 2 ^ t) : nb m t = 0 := by
  unfold nb
  rw [Nat.div_eq_of_lt h]
theorem nb_set (p : Nat → Bool) : ∀ (n t : Nat), nb (setN p n) t = if t < n ∧ p t = true then 1 else 0
  | 0, t => by
    rw [if_neg (by omega)]
    exact nb_big (Nat.two_pow_pos t)
  | n + 1, t => by
    have ih := nb_set p n t
    unfold setN
    by_cases e : p n = true
    · rw [if_pos e, nb_add (setN_lt p n)]
      by_cases et : t = n
      · subst et
        rw [if_pos rfl, if_pos ⟨by omega, e⟩]
      · rw [if_neg et, ih]
        by_cases l : t < n ∧ p t = true
        · rw [if_pos l, if_pos ⟨by omega, l.2⟩]
        · rw [if_neg l, if_neg (fun x => l ⟨by omega, x.2⟩)]
    · rw [if_neg e, ih]
      by_cases l : t < n ∧ p t = true
      · rw [if_pos l, if_pos ⟨by omega, l.2⟩]
      · rw [if_neg l, if_neg (fun x => l ⟨by
          by_cases et : t = n
          · subst et
            exact absurd x.2 e
          · omega, x.2⟩)]
theorem nb_ext {m k : Nat} (hm : m < 256) (hk : k < 256) (h : ∀ t, t < 8 → nb m t = nb k t) : m = k := by
  refine Nat.eq_of_testBit_eq (fun i => ?_)
  by_cases hi : i < 8
  · have := h i hi
    rw [nb_test, nb_test] at this
    cases e1 : m.testBit i <;> cases e2 : k.testBit i <;> rw [e1, e2] at this <;> first | rfl | cases this
  · have p : 2 ^ 8 ≤ 2 ^ i := Nat.pow_le_pow_right (by decide) (by omega)
    rw [show (2 : Nat) ^ 8 = 256 from rfl] at p
    rw [Nat.testBit_lt_two_pow (by omega), Nat.testBit_lt_two_pow (by omega)]
/-- what the programs do to sets -/
theorem s_add : ∀ m : Nat, m < 256 → ∀ t : Nat, t < 8 → m < 2 ^ t → nI m ||| ((1 : Int32) <<< (nI t &&& 31)) = nI (m + 2 ^ t) := by decide +kernel
theorem s_test : ∀ m : Nat, m < 256 → ∀ t : Nat, t < 8 → ((nI m &&& ((1 : Int32) <<< (nI t &&& 31)) = 0) ↔ nb m t = 0) := by decide +kernel
theorem s_shr : ∀ m : Nat, m < 256 → ∀ t : Nat, t < 8 → ((nI m >>> (nI t &&& 31)) &&& 1) = nI (nb m t) := by decide +kernel
theorem s_one : ∀ t : Nat, t < 8 → (1 : Int32) <<< (nI t &&& 31) = nI (2 ^ t) := by decide +kernel
theorem s_or0 (x : Int32) : x ||| (0 : Int32) = x := by
  apply Int32.toBitVec_inj.mp
  rw [Int32.toBitVec_or]
  exact BitVec.or_zero
theorem nI_bv {m : Nat} : (nI m).toBitVec = BitVec.ofNat 32 m := rfl
theorem s_and {m k : Nat} (hm : m < 256) (hk : k < 256) : nI m &&& nI k = nI (m &&& k) := by
  apply Int32.toBitVec_inj.mp
  rw [Int32.toBitVec_and, nI_bv, nI_bv, nI_bv]
  apply BitVec.eq_of_toNat_eq
  rw [BitVec.toNat_and, BitVec.toNat_ofNat, BitVec.toNat_ofNat, BitVec.toNat_ofNat, Nat.mod_eq_of_lt (by omega), Nat.mod_eq_of_lt (by omega)]
  have : m &&& k ≤ m := Nat.and_le_left
  exact (Nat.mod_eq_of_lt (by omega)).symm
theorem s_or {m k : Nat} (hm : m < 256) (hk : k < 256) : nI m ||| nI k = nI (m ||| k) := by
  apply Int32.toBitVec_inj.mp
  rw [Int32.toBitVec_or, nI_bv, nI_bv, nI_bv]
  apply BitVec.eq_of_toNat_eq
  rw [BitVec.toNat_or, BitVec.toNat_ofNat, BitVec.toNat_ofNat, BitVec.toNat_ofNat, Nat.mod_eq_of_lt (by omega), Nat.mod_eq_of_lt (by omega)]
  have : m ||| k < 2 ^ 8 := Nat.or_lt_two_pow hm hk
  rw [show (2 : Nat) ^ 8 = 256 from rfl] at this
  exact (Nat.mod_eq_of_lt (by omega)).symm
theorem s_not : ∀ k : Nat, k < 256 → (nI k ^^^ (-1 : Int32)).toBitVec = ~~~ (BitVec.ofNat 32 k) := fun k _ => by
  rw [Int32.toBitVec_xor, nI_bv]
  show BitVec.ofNat 32 k ^^^ BitVec.allOnes 32 = _
  rw [BitVec.xor_allOnes]
/-- m without k -/
def sDiff (m k : Nat) : Nat := setN (fun t => decide (nb m t = 1 ∧ nb k t = 0)) 8
theorem sDiff_lt (m k : Nat) : sDiff m k < 256 := setN_256 (Nat.le_refl _)
theorem nb_diff (m k t : Nat) (ht : t < 8) : nb (sDiff m k) t = if nb m t = 1 ∧ nb k t = 0 then 1 else 0 := by
  unfold sDiff
  rw [nb_set]
  by_cases e : nb m t = 1 ∧ nb k t = 0
  · rw [if_pos e, if_pos ⟨ht, decide_eq_true e⟩]
  · rw [if_neg e, if_neg (fun x => e (of_decide_eq_true x.2))]
theorem nb_and (m k t : Nat) : nb (m &&& k) t = if nb m t = 1 ∧ nb k t = 1 then 1 else 0 := by
  rw [nb_test, nb_test, nb_test, Nat.testBit_and]
  cases m.testBit t <;> cases k.testBit t <;> rfl
theorem nb_orr (m k t : Nat) : nb (m ||| k) t = if nb m t = 1 ∨ nb k t = 1 then 1 else 0 := by
  rw [nb_test, nb_test, nb_test, Nat.testBit_or]
  cases m.testBit t <;> cases k.testBit t <;> rfl
theorem nb_pow (k t : Nat) : nb (2 ^ k) t = if t = k then 1 else 0 := by
  have := nb_add (m := 0) (n := k) (Nat.two_pow_pos k) t
  rw [Nat.zero_add] at this
  rw [this, nb_big (m := 0) (Nat.two_pow_pos t)]
theorem s_andnot {m k : Nat} (hm : m < 256) (hk : k < 256) : nI m &&& (nI k ^^^ (-1 : Int32)) = nI (sDiff m k) := by
  have key : ∀ t, t < 8 → nb ((BitVec.ofNat 32 m &&& ~~~ (BitVec.ofNat 32 k)).toNat) t = nb (sDiff m k) t := fun t ht => by
    rw [nb_diff m k t ht, nb_test]
    have e : (BitVec.ofNat 32 m &&& ~~~ (BitVec.ofNat 32 k)).toNat.testBit t = (BitVec.ofNat 32 m &&& ~~~ (BitVec.ofNat 32 k)).getLsbD t := rfl
    rw [e, BitVec.getLsbD_and, BitVec.getLsbD_not, BitVec.getLsbD_ofNat, BitVec.getLsbD_ofNat, nb_test, nb_test]
    have ht2 : decide (t < 32) = true := decide_eq_true (by omega)
    rw [ht2]
    cases m.testBit t <;> cases k.testBit t <;> rfl
  have hl : (BitVec.ofNat 32 m &&& ~~~ (BitVec.ofNat 32 k)).toNat < 256 := by
    rw [BitVec.toNat_and, BitVec.toNat_ofNat, Nat.mod_eq_of_lt (by omega)]
    exact Nat.lt_of_le_of_lt Nat.and_le_left hm
  apply Int32.toBitVec_inj.mp
  rw [Int32.toBitVec_and, s_not k hk, nI_bv, nI_bv]
  apply BitVec.eq_of_toNat_eq
  rw [nb_ext hl (sDiff_lt m k) key, BitVec.toNat_ofNat]
  have := sDiff_lt m k
  exact (Nat.mod_eq_of_lt (by omega)).symm
/-- a loop that gathers a set -/
theorem fx_set {F : Int32 × Int32 → (Int32 × Int32) ⊕ Int32} {d : Int32} (p : Nat → Bool) (n : Nat) (hn : n ≤ 8)
    (hend : ∀ m, F (nI m, nI n) = .inr (nI m))
    (hstep : ∀ j m, j < n → F (nI m, nI j) = if p j then .inl (nI m ||| ((1 : Int32) <<< (nI j &&& 31)), nI j + 1) else .inl (nI m, nI j + 1)) : fx F d (0, 0) = nI (setN p n) := by
  refine fx_for (fun j => (nI (setN p j), nI j)) _ n (hend _) (fun j hj => ?_)
  rw [hstep j _ hj]
  have l := setN_lt p j
  have l2 : setN p j < 256 := setN_256 (by omega)
  have e1 : setN p (j + 1) = if p j = true then setN p j + 2 ^ j else setN p j := rfl
  show _ = Sum.inl (nI (setN p (j + 1)), nI (j + 1))
  rw [e1]
  by_cases e : p j = true
  · rw [if_pos e, if_pos e, s_add _ l2 j (by omega) l, nI_s]
  · rw [if_neg e, if_neg e, nI_s]
/-- how many things there are in a set -/
theorem pc8_sum (m : Nat) : pcount 8 m = sumN (nb m) 8 := pcount_sum 8 m
