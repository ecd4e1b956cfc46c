/-- bit t of a set, as the rows take it -/
def nbt (x : Int32) (t : Nat) : Int := ((x >>> (Int32.ofNat t &&& 31)) &&& (1 : Int32)).toInt
theorem nb_sm : ∀ k, k < 32 → ((Int32.ofNat k &&& 31).toBitVec.smod 32).toNat = k := by decide +kernel
theorem nb_bit {x : Int32} {t : Nat} (ht : t < 32) : nbt x t = if x.toBitVec.getLsbD t then 1 else 0 := by
  unfold nbt
  show ((x >>> (Int32.ofNat t &&& 31)) &&& (1 : Int32)).toBitVec.toInt = _
  rw [Int32.toBitVec_and, Int32.toBitVec_shiftRight, BitVec.sshiftRight_eq', nb_sm t ht]
  have e : (1 : Int32).toBitVec = 1#32 := rfl
  rw [e, BitVec.and_one_eq_setWidth_ofBool_getLsbD, BitVec.getLsbD_sshiftRight]
  have h1 : (!decide (32 ≤ 0) && if t + 0 < 32 then x.toBitVec.getLsbD (t + 0) else x.toBitVec.msb) = x.toBitVec.getLsbD t := by
    rw [if_pos (by omega)]
    rfl
  rw [h1]
  cases x.toBitVec.getLsbD t <;> rfl
theorem nb_01 {x : Int32} {t : Nat} (ht : t < 32) : nbt x t = 0 ∨ nbt x t = 1 := by
  rw [nb_bit ht]
  split
  · exact Or.inr rfl
  · exact Or.inl rfl
theorem nb_or {x y : Int32} {t : Nat} (ht : t < 32) (h : nbt x t = 1 ∨ nbt y t = 1) : nbt (x ||| y) t = 1 := by
  rw [nb_bit ht, Int32.toBitVec_or, BitVec.getLsbD_or]
  rw [nb_bit ht, nb_bit ht] at h
  cases hx : x.toBitVec.getLsbD t <;> cases hy : y.toBitVec.getLsbD t <;> rw [hx, hy] at h <;> simp at h ⊢
theorem nb_or0 {x y : Int32} {t : Nat} (ht : t < 32) (h : nbt x t = 0) (h2 : nbt y t = 0) : nbt (x ||| y) t = 0 := by
  rw [nb_bit ht] at h h2
  rw [nb_bit ht, Int32.toBitVec_or, BitVec.getLsbD_or]
  cases hx : x.toBitVec.getLsbD t <;> cases hy : y.toBitVec.getLsbD t <;> rw [hx] at h <;> rw [hy] at h2 <;> simp at h h2 ⊢
theorem nb_zero {t : Nat} (ht : t < 8) : nbt 0 t = 0 := by
  have h : ∀ k, k < 8 → nbt 0 k = 0 := by decide +kernel
  exact h t ht
theorem nb_shl {t u : Nat} (ht : t < 8) (hu : u < 8) : nbt ((1 : Int32) <<< (Int32.ofNat t &&& 31)) u = if t = u then 1 else 0 := by
  have h : ∀ k, k < 8 → ∀ j, j < 8 → nbt ((1 : Int32) <<< (Int32.ofNat k &&& 31)) j = if k = j then 1 else 0 := by decide +kernel
  exact h t ht u hu
/-- what is left of a set -/
theorem nb_less {x w : Int32} {t : Nat} (ht : t < 32) : nbt (x &&& (w ^^^ (-1 : Int32))) t = if nbt w t = 1 then 0 else nbt x t := by
  rw [nb_bit ht, nb_bit ht, nb_bit ht, Int32.toBitVec_and, Int32.toBitVec_xor, BitVec.getLsbD_and, BitVec.getLsbD_xor]
  have e : ((-1 : Int32).toBitVec).getLsbD t = true := by
    have h : ∀ k, k < 32 → ((-1 : Int32).toBitVec).getLsbD k = true := by decide +kernel
    exact h t ht
  rw [e]
  cases x.toBitVec.getLsbD t <;> cases w.toBitVec.getLsbD t <;> simp
/-- how many of the first k things a set has -/
def popc (x : Int32) : Nat → Int
  | 0 => 0
  | k + 1 => popc x k + nbt x k
theorem popc_b {x : Int32} : ∀ {k : Nat}, k ≤ 32 → 0 ≤ popc x k ∧ popc x k ≤ (k : Int)
  | 0, _ => ⟨Int.le_refl _, Int.le_refl _⟩
  | k + 1, hk => by
    have := popc_b (x := x) (k := k) (by omega)
    have h2 := nb_01 (x := x) (t := k) (by omega)
    show 0 ≤ popc x k + nbt x k ∧ popc x k + nbt x k ≤ _
    omega
theorem popc_le {x y : Int32} : ∀ {k : Nat}, k ≤ 32 → (∀ t, t < k → nbt x t ≤ nbt y t) → popc x k ≤ popc y k
  | 0, _, _ => Int.le_refl _
  | k + 1, hk, h => by
    have := popc_le (x := x) (y := y) (k := k) (by omega) (fun t ht => h t (by omega))
    have h2 := h k (by omega)
    show popc x k + nbt x k ≤ popc y k + nbt y k
    omega
theorem popc_lt {x y : Int32} : ∀ {k u : Nat}, k ≤ 32 → u < k → (∀ t, t < k → nbt x t ≤ nbt y t) → nbt x u + 1 ≤ nbt y u → popc x k + 1 ≤ popc y k
  | 0, _, _, h, _, _ => absurd h (by omega)
  | k + 1, u, hk, hu, h, h1 => by
    show popc x k + nbt x k + 1 ≤ popc y k + nbt y k
    by_cases e : u = k
    · subst e
      have := popc_le (x := x) (y := y) (k := u) (by omega) (fun t ht => h t (by omega))
      omega
    · have := popc_lt (x := x) (y := y) (k := k) (u := u) (by omega) (by omega) (fun t ht => h t (by omega)) h1
      have h2 := h k (by omega)
      omega
theorem popc_less {x w : Int32} {u : Nat} (hu : u < 8) (h1 : nbt x u = 1) (h2 : nbt w u = 1) : popc (x &&& (w ^^^ (-1 : Int32))) 8 + 1 ≤ popc x 8 := by
  refine popc_lt (u := u) (by omega) hu (fun t ht => ?_) ?_
  · rw [nb_less (by omega)]
    have := nb_01 (x := x) (t := t) (by omega)
    split <;> omega
  · rw [nb_less (by omega), if_pos h2, h1]
    omega
theorem less_rng {x w : Int32} (h0 : 0 ≤ x.toInt) (h1 : x.toInt ≤ 255) : 0 ≤ (x &&& (w ^^^ (-1 : Int32))).toInt ∧ (x &&& (w ^^^ (-1 : Int32))).toInt ≤ 255 := by
  have := t_and (x := x) (y := w ^^^ (-1 : Int32)) h0
  omega
/-- what stands, as a set -/
def hStd (h : zH) (q : Nat) (x : Int32) : Prop := ∀ t : Nat, t < 8 → nbt x t = if (t : Int) < hi h q 17 ∧ hi h (q + 22) t = -1 then 1 else 0
/-- how many of the first k things stand with their slips up to j -/
noncomputable def hA (h : zH) (q : Nat) (j : Int) : Nat → Int
  | 0 => 0
  | k + 1 => hA h q j k + (if (k : Int) < hi h q 17 ∧ hi h (q + 22) k = -1 ∧ hi h (q + 19) k ≤ j then 1 else 0)
noncomputable def hB (h : zH) (q : Nat) (s : Int) : Nat → Int
  | 0 => 0
  | k + 1 => hB h q s k + (if (k : Int) < hi h q 17 ∧ hi h (q + 22) k = -1 ∧ hi h (q + 19) k = s then 1 else 0)
theorem hA_succ {h : zH} {q : Nat} {j : Int} : ∀ k : Nat, hA h q (j + 1) k = hA h q j k + hB h q (j + 1) k
  | 0 => rfl
  | k + 1 => by
    have := hA_succ (h := h) (q := q) (j := j) k
    show hA h q (j + 1) k + _ = hA h q j k + _ + (hB h q (j + 1) k + _)
    rw [this]
    by_cases e1 : (k : Int) < hi h q 17 ∧ hi h (q + 22) k = -1
    · by_cases e2 : hi h (q + 19) k ≤ j
      · rw [if_pos ⟨e1.1, e1.2, by omega⟩, if_pos ⟨e1.1, e1.2, e2⟩, if_neg (fun x => by omega)]
        omega
      · by_cases e3 : hi h (q + 19) k = j + 1
        · rw [if_pos ⟨e1.1, e1.2, by omega⟩, if_neg (fun x => by omega), if_pos ⟨e1.1, e1.2, e3⟩]
          omega
        · rw [if_neg (fun x => by omega), if_neg (fun x => by omega), if_neg (fun x => by omega)]
          omega
    · rw [if_neg (fun x => e1 ⟨x.1, x.2.1⟩), if_neg (fun x => e1 ⟨x.1, x.2.1⟩), if_neg (fun x => e1 ⟨x.1, x.2.1⟩)]
      omega
theorem hB_zero {h : zH} {q : Nat} {s : Int} : ∀ k : Nat, (∀ u : Nat, u < k → (u : Int) < hi h q 17 → hi h (q + 22) u = -1 → hi h (q + 19) u ≠ s) → hB h q s k = 0
  | 0, _ => rfl
  | k + 1, hu => by
    show hB h q s k + _ = 0
    rw [hB_zero k (fun u h1 => hu u (by omega)), if_neg (fun x => hu k (by omega) x.1 x.2.1 x.2.2)]
    rfl
theorem hB_b {h : zH} {q : Nat} {s : Int} (hJ : pJ h q) : ∀ k : Nat, hB h q s k = 0 ∨ (hB h q s k = 1 ∧ ∃ u : Nat, u < k ∧ (u : Int) < hi h q 17 ∧ hi h (q + 22) u = -1 ∧ hi h (q + 19) u = s)
  | 0 => Or.inl rfl
  | k + 1 => by
    show hB h q s k + _ = 0 ∨ (hB h q s k + _ = 1 ∧ _)
    by_cases e : (k : Int) < hi h q 17 ∧ hi h (q + 22) k = -1 ∧ hi h (q + 19) k = s
    · rw [if_pos e, hB_zero k (fun u h1 _ _ h4 => (hJ k e.1).2.2 u h1 (by rw [h4, e.2.2]))]
      exact Or.inr ⟨rfl, k, by omega, e⟩
    · rw [if_neg e]
      rcases hB_b (s := s) hJ k with h1 | ⟨h1, u, h2, h3⟩
      · exact Or.inl (by omega)
      · exact Or.inr ⟨by omega, u, by omega, h3⟩
theorem hA_zero {h : zH} {q : Nat} (hJ : pJ h q) : ∀ k : Nat, hA h q 0 k = 0
  | 0 => rfl
  | k + 1 => by
    show hA h q 0 k + _ = 0
    rw [hA_zero hJ k, if_neg (fun x => by have := (hJ k x.1).1.1; omega)]
    rfl
/-- every slip of a thing that stands is in -/
theorem hA_ins {h : zH} {q : Nat} (hJ : pJ h q) (h01 : ∀ s : Nat, 1 ≤ s → s ≤ 60 → 0 ≤ hi h (q + 17) s ∧ hi h (q + 17) s ≤ 1) : ∀ j : Nat, j ≤ 60 → hA h q (j : Int) 8 ≤ hins h q j
  | 0, _ => by
    rw [show ((0 : Nat) : Int) = 0 from rfl, hA_zero hJ]
    exact Int.le_refl _
  | j + 1, hj => by
    have ih := hA_ins hJ h01 j (by omega)
    have e : ((j + 1 : Nat) : Int) = (j : Int) + 1 := by omega
    rw [e, hA_succ]
    show _ ≤ hins h q j + (1 - hi h (q + 17) (j + 1))
    have h2 := h01 (j + 1) (by omega) hj
    rcases hB_b (s := (j : Int) + 1) hJ 8 with h1 | ⟨h1, u, h3, h4, h5, h6⟩
    · omega
    · have h7 := (hJ u h4).2.1 h5
      rw [h6] at h7
      have h8 : ((j : Int) + 1).toNat = j + 1 := by omega
      rw [h8] at h7
      omega
/-- where every slip that is in has a thing that stands, there are no more in than stand -/
theorem hA_all {h : zH} {q : Nat} (hJ : pJ h q) (h01 : ∀ s : Nat, 1 ≤ s → s ≤ 60 → 0 ≤ hi h (q + 17) s ∧ hi h (q + 17) s ≤ 1) : ∀ j : Nat, j ≤ 60 → (∀ s : Nat, 1 ≤ s → s ≤ j → hi h (q + 17) s = 0 → ∃ u : Nat, u < 8 ∧ (u : Int) < hi h q 17 ∧ hi h (q + 22) u = -1 ∧ hi h (q + 19) u = (s : Int)) → hins h q j ≤ hA h q (j : Int) 8
  | 0, _, _ => by
    rw [show ((0 : Nat) : Int) = 0 from rfl, hA_zero hJ]
    exact Int.le_refl _
  | j + 1, hj, hs => by
    have ih := hA_all hJ h01 j (by omega) (fun s h1 h2 => hs s h1 (by omega))
    have e : ((j + 1 : Nat) : Int) = (j : Int) + 1 := by omega
    rw [e, hA_succ]
    show hins h q j + (1 - hi h (q + 17) (j + 1)) ≤ _
    have h2 := h01 (j + 1) (by omega) hj
    have hb : 0 ≤ hB h q ((j : Int) + 1) 8 := by
      rcases hB_b (s := (j : Int) + 1) hJ 8 with h1 | ⟨h1, -⟩ <;> omega
    by_cases e0 : hi h (q + 17) (j + 1) = 0
    · obtain ⟨u, h3, h4, h5, h6⟩ := hs (j + 1) (by omega) (Nat.le_refl _) e0
      rcases hB_b (s := (j : Int) + 1) hJ 8 with h1 | ⟨h1, -⟩
      · exfalso
        have key : ∀ k : Nat, k ≤ 8 → u < k → 1 ≤ hB h q ((j : Int) + 1) k := by
          intro k
          induction k with
          | zero => intro _ h; omega
          | succ k ih2 =>
            intro hk hu
            show 1 ≤ hB h q ((j : Int) + 1) k + _
            have hbk : 0 ≤ hB h q ((j : Int) + 1) k := by
              rcases hB_b (s := (j : Int) + 1) hJ k with h1 | ⟨h1, -⟩ <;> omega
            by_cases e2 : u = k
            · subst e2
              rw [if_pos ⟨h4, h5, by rw [h6]; omega⟩]
              omega
            · have := ih2 (by omega) (by omega)
              split <;> omega
        have := key 8 (by omega) h3
        omega
      · omega
    · omega
theorem popc_A {h : zH} {q : Nat} {x : Int32} {j : Int} (hJ : pJ h q) (hx : hStd h q x) (hj : hi h q 9 ≤ j) : ∀ k : Nat, k ≤ 8 → popc x k = hA h q j k
  | 0, _ => rfl
  | k + 1, hk => by
    show popc x k + nbt x k = hA h q j k + _
    rw [popc_A hJ hx hj k (by omega), hx k (by omega)]
    by_cases e : (k : Int) < hi h q 17 ∧ hi h (q + 22) k = -1
    · rw [if_pos e, if_pos ⟨e.1, e.2, by have := (hJ k e.1).1.2; omega⟩]
    · rw [if_neg e, if_neg (fun x => e ⟨x.1, x.2.1⟩)]
