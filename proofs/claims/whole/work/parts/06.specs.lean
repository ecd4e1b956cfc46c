theorem z_blt {a b : Nat} (h : Nat.blt a b = true) : a < b := by simpa [Nat.blt_eq] using h
theorem z_ble {a b : Nat} (h : Nat.ble a b = true) : a ≤ b := Nat.le_of_ble_eq_true h
theorem z_and {a b : Bool} (h : (a && b) = true) : a = true ∧ b = true := by simpa using h
theorem zg_int (ρ : Nat → Option Nat) (x : Int32) : zg ρ (.inl (.int x)) (.int x) := rfl
theorem zg_long (ρ : Nat → Option Nat) (x : Int64) : zg ρ (.inl (.long x)) (.long x) := rfl
theorem zg_null (ρ : Nat → Option Nat) : zg ρ (.inl .null) .null := rfl
theorem zld_sp {P : zV → Bool} {L : zL} {i : Nat} {k : zV → Bool} (h : zld P L i k = true) : ∃ v, zget L i = some v ∧ P v = true ∧ k v = true := by
  unfold zld at h
  split at h
  · next v hv => exact ⟨v, hv, (z_and h).1, (z_and h).2⟩
  · cases h
theorem zs1_sp {P : zV → Bool} {L : zL} {nL i : Nat} {st : List zV} {k : zL → List zV → Bool} (h : zs1 P L nL i st k = true) : ∃ v r, st = v :: r ∧ P v = true ∧ i < nL ∧ k (zst1 L i v) r = true := by
  unfold zs1 at h
  split at h
  · next v r => exact ⟨v, r, rfl, (z_and h).1, z_blt (z_and (z_and h).2).1, (z_and (z_and h).2).2⟩
  · cases h
theorem zs2_sp {L : zL} {nL i : Nat} {st : List zV} {k : zL → List zV → Bool} (h : zs2 L nL i st k = true) : ∃ v r, st = v :: r ∧ zisL v = true ∧ i + 1 < nL ∧ k (zst2 L i v) r = true := by
  unfold zs2 at h
  split at h
  · next v r => exact ⟨v, r, rfl, (z_and h).1, z_blt (z_and (z_and h).2).1, (z_and (z_and h).2).2⟩
  · cases h
theorem zL2_2 {ρ : Nat → Option Nat} {a b : zV} {r : List zV} {vs : List Value} (h : zL2 ρ (b :: a :: r) vs) : ∃ y x rc, vs = y :: x :: rc ∧ zg ρ b y ∧ zg ρ a x ∧ zL2 ρ r rc := by
  obtain ⟨y, vs', rfl, h1, h2⟩ := zL2_cons h
  obtain ⟨x, rc, rfl, h3, h4⟩ := zL2_cons h2
  exact ⟨y, x, rc, rfl, h1, h3, h4⟩
theorem zb2_sp {ρ : Nat → Option Nat} {f : Int32 → Int32 → Int32} {st : List zV} {stc : List Value} {k : List zV → Bool} (h : zb2 f st k = true) (hst : zL2 ρ st stc) : ∃ (x y : Int32) (rc : List Value) (v : zV) (r : List zV), stc = .int y :: .int x :: rc ∧ zg ρ v (.int (f x y)) ∧ zL2 ρ r rc ∧ k (v :: r) = true := by
  unfold zb2 at h
  split at h
  · obtain ⟨y, x, rc, rfl, h1, h2, h3⟩ := zL2_2 hst
    cases h1
    cases h2
    exact ⟨_, _, rc, _, _, rfl, zg_int ρ _, h3, h⟩
  · obtain ⟨y, x, rc, rfl, h1, h2, h3⟩ := zL2_2 hst
    obtain ⟨y', rfl, -⟩ := zg_I h1 (z_and (z_and h).2).1
    obtain ⟨x', rfl, -⟩ := zg_I h2 (z_and h).1
    exact ⟨_, _, rc, _, _, rfl, zg_I0 ρ _, h3, (z_and (z_and h).2).2⟩
  · cases h
theorem zml_sp {ρ : Nat → Option Nat} {st : List zV} {stc : List Value} {k : List zV → Bool} (h : zml st k = true) (hst : zL2 ρ st stc) : ∃ (x y : Int32) (rc : List Value) (v : zV) (r : List zV), stc = .int y :: .int x :: rc ∧ zg ρ v (.int (x * y)) ∧ zL2 ρ r rc ∧ k (v :: r) = true := by
  unfold zml at h
  split at h
  · obtain ⟨y, x, rc, rfl, h1, h2, h3⟩ := zL2_2 hst
    cases h1
    cases h2
    exact ⟨_, _, rc, _, _, rfl, zg_int ρ _, h3, h⟩
  · obtain ⟨y, x, rc, rfl, h1, h2, h3⟩ := zL2_2 hst
    obtain ⟨y', rfl, -⟩ := zg_I h1 (z_and h).1
    cases h2
    refine ⟨_, _, rc, _, _, rfl, ?_, h3, (z_and h).2⟩
    split
    · next a0 =>
      rw [a0, Int32.zero_mul]
      exact rfl
    · exact zg_I0 ρ _
  · obtain ⟨y, x, rc, rfl, h1, h2, h3⟩ := zL2_2 hst
    obtain ⟨y', rfl, -⟩ := zg_I h1 (z_and (z_and h).2).1
    obtain ⟨x', rfl, -⟩ := zg_I h2 (z_and h).1
    exact ⟨_, _, rc, _, _, rfl, zg_I0 ρ _, h3, (z_and (z_and h).2).2⟩
  · cases h
theorem zdv_sp {ρ : Nat → Option Nat} {f : Int32 → Int32 → Int32} {st : List zV} {stc : List Value} {k : List zV → Bool} (h : zdv f st k = true) (hst : zL2 ρ st stc) : ∃ (x y : Int32) (rc : List Value) (v : zV) (r : List zV), stc = .int y :: .int x :: rc ∧ ¬ y = 0 ∧ zg ρ v (.int (f x y)) ∧ zL2 ρ r rc ∧ k (v :: r) = true := by
  unfold zdv at h
  split at h
  · obtain ⟨y, x, rc, rfl, h1, h2, h3⟩ := zL2_2 hst
    cases h1
    cases h2
    refine ⟨_, _, rc, _, _, rfl, ?_, zg_int ρ _, h3, (z_and h).2⟩
    have := (z_and h).1
    simpa using this
  · cases h
theorem zdvl_sp {ρ : Nat → Option Nat} {f : Int64 → Int64 → Int64} {st : List zV} {stc : List Value} {k : List zV → Bool} (h : zdvl f st k = true) (hst : zL2 ρ st stc) : ∃ (x y : Int64) (rc : List Value) (v : zV) (r : List zV), stc = .long y :: .long x :: rc ∧ ¬ y = 0 ∧ zg ρ v (.long (f x y)) ∧ zL2 ρ r rc ∧ k (v :: r) = true := by
  unfold zdvl at h
  split at h
  · obtain ⟨y, x, rc, rfl, h1, h2, h3⟩ := zL2_2 hst
    cases h1
    cases h2
    refine ⟨_, _, rc, _, _, rfl, ?_, zg_long ρ _, h3, (z_and h).2⟩
    have := (z_and h).1
    simpa using this
  · cases h
theorem zb2l_sp {ρ : Nat → Option Nat} {f : Int64 → Int64 → Int64} {st : List zV} {stc : List Value} {k : List zV → Bool} (h : zb2l f st k = true) (hst : zL2 ρ st stc) : ∃ (x y : Int64) (rc : List Value) (v : zV) (r : List zV), stc = .long y :: .long x :: rc ∧ zg ρ v (.long (f x y)) ∧ zL2 ρ r rc ∧ k (v :: r) = true := by
  unfold zb2l at h
  split at h
  · obtain ⟨y, x, rc, rfl, h1, h2, h3⟩ := zL2_2 hst
    cases h1
    cases h2
    exact ⟨_, _, rc, _, _, rfl, zg_long ρ _, h3, h⟩
  · obtain ⟨y, x, rc, rfl, h1, h2, h3⟩ := zL2_2 hst
    obtain ⟨y', rfl, -⟩ := zg_L h1 (z_and (z_and h).2).1
    obtain ⟨x', rfl, -⟩ := zg_L h2 (z_and h).1
    exact ⟨_, _, rc, _, _, rfl, zg_L0 ρ _, h3, (z_and (z_and h).2).2⟩
  · cases h
theorem zshl_sp {ρ : Nat → Option Nat} {f : Int64 → Int32 → Int64} {st : List zV} {stc : List Value} {k : List zV → Bool} (h : zshl f st k = true) (hst : zL2 ρ st stc) : ∃ (x : Int64) (y : Int32) (rc : List Value) (v : zV) (r : List zV), stc = .int y :: .long x :: rc ∧ zg ρ v (.long (f x y)) ∧ zL2 ρ r rc ∧ k (v :: r) = true := by
  unfold zshl at h
  split at h
  · obtain ⟨y, x, rc, rfl, h1, h2, h3⟩ := zL2_2 hst
    cases h1
    cases h2
    exact ⟨_, _, rc, _, _, rfl, zg_long ρ _, h3, h⟩
  · obtain ⟨y, x, rc, rfl, h1, h2, h3⟩ := zL2_2 hst
    obtain ⟨y', rfl, -⟩ := zg_I h1 (z_and (z_and h).2).1
    obtain ⟨x', rfl, -⟩ := zg_L h2 (z_and h).1
    exact ⟨_, _, rc, _, _, rfl, zg_L0 ρ _, h3, (z_and (z_and h).2).2⟩
  · cases h
theorem zof_sp {pc : Nat} {off : Int} {k : Nat → Bool} (h : zof pc off k = true) : ∃ t : Nat, (pc : Int) + off = (t : Int) ∧ k t = true := by
  unfold zof at h
  split at h
  · next t ht => exact ⟨t, ht, h⟩
  · cases h
theorem zbr_t {o : Option Bool} {kt kf : Bool} (h : zbr o kt kf = true) (ho : o ≠ some false) : kt = true := by
  unfold zbr at h
  split at h
  · exact h
  · exact absurd rfl ho
  · exact (z_and h).1
theorem zbr_f {o : Option Bool} {kt kf : Bool} (h : zbr o kt kf = true) (ho : o ≠ some true) : kf = true := by
  unfold zbr at h
  split at h
  · exact absurd rfl ho
  · exact h
  · exact (z_and h).2
theorem znot_t {o : Option Bool} (h : o ≠ some true) : znot o ≠ some false := by
  intro q
  unfold znot at q
  split at q
  · next b => cases b <;> first | exact h rfl | cases q
  · cases q
theorem znot_f {o : Option Bool} (h : o ≠ some false) : znot o ≠ some true := by
  intro q
  unfold znot at q
  split at q
  · next b => cases b <;> first | exact h rfl | cases q
  · cases q
theorem zlt_t {a b : zV} {x y : Int} (h1 : zlo a ≤ x) (h3 : zlo b ≤ y ∧ y ≤ zhi b) (h : x < y) : zlt a b ≠ some false := by
  intro q
  unfold zlt at q
  split at q
  · cases q
  · split at q
    · omega
    · cases q
theorem zlt_f {a b : zV} {x y : Int} (h2 : x ≤ zhi a) (h3 : zlo b ≤ y) (h : ¬ x < y) : zlt a b ≠ some true := by
  intro q
  unfold zlt at q
  split at q
  · omega
  · split at q
    · cases q
    · cases q
theorem zeq_t {a b : zV} {x y : Int} (h1 : zlo a ≤ x ∧ x ≤ zhi a) (h3 : zlo b ≤ y ∧ y ≤ zhi b) (h : x = y) : zeq a b ≠ some false := by
  intro q
  unfold zeq at q
  split at q
  · omega
  · split at q
    · cases q
    · cases q
theorem zeq_f {a b : zV} {x y : Int} (h1 : zlo a ≤ x ∧ x ≤ zhi a) (h3 : zlo b ≤ y ∧ y ≤ zhi b) (h : ¬ x = y) : zeq a b ≠ some true := by
  intro q
  unfold zeq at q
  split at q
  · cases q
  · split at q
    · omega
    · cases q
def zop : ClassFile.Cond → Int32 → Int32 → Prop
  | .eq, x, y => x = y
  | .ne, x, y => ¬ x = y
  | .lt, x, y => x < y
  | .ge, x, y => y ≤ x
  | .gt, x, y => y < x
  | .le, x, y => x ≤ y
theorem zcond_t {a b : zV} {x y : Int32} {cd : ClassFile.Cond} (h1 : zlo a ≤ x.toInt ∧ x.toInt ≤ zhi a) (h3 : zlo b ≤ y.toInt ∧ y.toInt ≤ zhi b) (h : zop cd x y) : zcond cd a b ≠ some false := by
  cases cd with
  | eq => exact zeq_t h1 h3 (congrArg Int32.toInt h)
  | ne => exact znot_t (zeq_f h1 h3 (fun q => h (Int32.toInt_inj.mp q)))
  | lt => exact zlt_t h1.1 h3 (Int32.lt_iff_toInt_lt.mp h)
  | ge => exact znot_t (zlt_f h1.2 h3.1 (fun q => by have := Int32.le_iff_toInt_le.mp h; omega))
  | gt => exact zlt_t h3.1 h1 (Int32.lt_iff_toInt_lt.mp h)
  | le => exact znot_t (zlt_f h3.2 h1.1 (fun q => by have := Int32.le_iff_toInt_le.mp h; omega))
theorem zcond_f {a b : zV} {x y : Int32} {cd : ClassFile.Cond} (h1 : zlo a ≤ x.toInt ∧ x.toInt ≤ zhi a) (h3 : zlo b ≤ y.toInt ∧ y.toInt ≤ zhi b) (h : ¬ zop cd x y) : zcond cd a b ≠ some true := by
  cases cd with
  | eq => exact zeq_f h1 h3 (fun q => h (Int32.toInt_inj.mp q))
  | ne => exact znot_f (zeq_t h1 h3 (congrArg Int32.toInt (Classical.not_not.mp h)))
  | lt => exact zlt_f h1.2 h3.1 (fun q => h (Int32.lt_iff_toInt_lt.mpr q))
  | ge => exact znot_f (zlt_t h1.1 h3 (by have h4 : ¬ y.toInt ≤ x.toInt := fun q => h (Int32.le_iff_toInt_le.mpr q); omega))
  | gt => exact zlt_f h3.2 h1.1 (fun q => h (Int32.lt_iff_toInt_lt.mpr q))
  | le => exact znot_f (zlt_t h3.1 h1 (by have h4 : ¬ x.toInt ≤ y.toInt := fun q => h (Int32.le_iff_toInt_le.mpr q); omega))
theorem zrow_sp {h : zH} {q t : Nat} {k : List zV → Bool} (hh : zrow h q t k = true) : ∃ vs, h[q]? = some (t, vs) ∧ q < 1000000 ∧ k vs = true := by
  unfold zrow at hh
  split at hh
  · next c hc =>
    obtain ⟨c1, c2⟩ := c
    have h1 := Nat.eq_of_beq_eq_true (z_and (z_and hh).2).1
    exact ⟨c2, by rw [hc]; exact congrArg (fun z => some (z, c2)) h1, z_blt (z_and hh).1, (z_and (z_and hh).2).2⟩
  · cases hh
theorem z_nn {i : Int32} (h : ¬ i < 0) : i.toInt = (i.toNatClampNeg : Int) := by
  have hz0 : (0 : Int) ≤ i.toInt := by
    have := Int32.not_lt.mp h
    simpa using Int32.le_iff_toInt_le.mp this
  show i.toInt = ((i.toInt.toNat : Nat) : Int)
  omega
theorem zel_sp {vs : List zV} {i : Int32} {k : zV → Bool} (h : zel vs i k = true) : ∃ v, vs[i.toNatClampNeg]? = some v ∧ vp_in i vs.length ∧ k v = true := by
  unfold zel at h
  split at h
  · cases h
  · next hi =>
    split at h
    · next v hv =>
      refine ⟨v, hv, ?_, h⟩
      have := (List.getElem?_eq_some_iff.mp hv).1
      rintro (q | q)
      · exact hi q
      · omega
    · cases h
theorem zix_sp {vs : List zV} {i : Int32} (h : zix vs i = true) : vp_in i vs.length := by
  unfold zix at h
  split at h
  · cases h
  · next hi =>
    have := z_blt h
    rintro (q | q)
    · exact hi q
    · omega
theorem zcmpL_g {ρ : Nat → Option Nat} {a b : zV} {x y : Int64} (h1 : zlo a ≤ x.toInt ∧ x.toInt ≤ zhi a) (h3 : zlo b ≤ y.toInt ∧ y.toInt ≤ zhi b) : zg ρ (zcmpL a b) (.int (lg_cmp x y)) := by
  have key : (y.toInt < x.toInt ∧ (lg_cmp x y).toInt = 1) ∨ (x.toInt = y.toInt ∧ (lg_cmp x y).toInt = 0) ∨ (x.toInt < y.toInt ∧ (lg_cmp x y).toInt = -1) := by
    unfold lg_cmp
    by_cases g : x > y
    · rw [if_pos g]
      exact Or.inl ⟨Int64.lt_iff_toInt_lt.mp g, rfl⟩
    · rw [if_neg g]
      by_cases g2 : x = y
      · rw [if_pos g2]
        exact Or.inr (Or.inl ⟨congrArg Int64.toInt g2, rfl⟩)
      · rw [if_neg g2]
        refine Or.inr (Or.inr ⟨?_, rfl⟩)
        have n1 : ¬ y.toInt < x.toInt := fun q => g (Int64.lt_iff_toInt_lt.mpr q)
        have n2 : ¬ x.toInt = y.toInt := fun q => g2 (Int64.toInt_inj.mp q)
        omega
  unfold zcmpL
  refine zmk_g ?_ ?_
  · split
    · omega
    · split <;> omega
  · split
    · omega
    · split <;> omega
theorem zval_len {ρ : Nat → Option Nat} {ct : Nat → ClassId} {c : zC} {e : va_E} (h : zCell ρ ct c e) {t : Nat} (hc : c.1 = 10 + t) : ∃ (n : Nat) (a : (Nat → Int32) ⊕ (Nat → Int64) ⊕ (Nat → UInt32) ⊕ (Nat → UInt64) ⊕ (Nat → Option Nat)), e = .inl (ct t, n, a) ∧ t < 6 ∧ c.2.length = n ∧ zkd t a ∧ ∀ (j : Nat) (v : zV), c.2[j]? = some v → zg ρ v (zval a j) := by
  cases e with
  | inr o =>
    have h1 := h.1
    have h2 := h.2.1
    omega
  | inl o =>
    obtain ⟨t', h1, h2, h3, h4, h5, h6⟩ := h
    have e1 : t' = t := by omega
    subst e1
    obtain ⟨o1, o2, o3⟩ := o
    cases h3
    exact ⟨o2, o3, rfl, h2, h4, h5, h6⟩
theorem zobj {ρ : Nat → Option Nat} {ct : Nat → ClassId} {c : zC} {e : va_E} (h : zCell ρ ct c e) (hc : c.1 < 10) : ∃ fs : List Value, e = .inr (c.1, fs) ∧ zL2 ρ c.2 fs := by
  cases e with
  | inl o =>
    obtain ⟨t', h1, -⟩ := h
    omega
  | inr o =>
    obtain ⟨o1, o2⟩ := o
    have h1 : c.1 = o1 := h.1
    subst h1
    exact ⟨o2, rfl, h.2.2⟩
theorem zdef_g (ρ : Nat → Option Nat) (ty : FieldType) (h : (defaultValue ty) = .int 0 ∨ defaultValue ty = .long 0 ∨ defaultValue ty = .null) : zg ρ (zdef ty) (defaultValue ty) := by
  cases ty <;> first | exact rfl | (exfalso; revert h; simp [defaultValue])
theorem zrep_g {ρ : Nat → Option Nat} {v : zV} {w : Value} (h : zg ρ v w) (n : Nat) : ∀ (j : Nat) (a : zV), (List.replicate n v)[j]? = some a → zg ρ a w := by
  intro j a hj
  have h1 := List.eq_of_mem_replicate (List.mem_of_getElem? hj)
  rw [h1]
  exact h
