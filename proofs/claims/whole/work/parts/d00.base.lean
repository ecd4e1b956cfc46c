/-- loops that count -/
theorem fx_step {σ ρ : Type} {F : σ → σ ⊕ ρ} {d : ρ} {s s' : σ} (h : F s = .inl s') : fx F d s = fx F d s' := by
  rw [fx_eq, h]
theorem fx_stop {σ ρ : Type} {F : σ → σ ⊕ ρ} {d r : ρ} {s : σ} (h : F s = .inr r) : fx F d s = r := by
  rw [fx_eq, h]
/-- st j: where the loop stands behind j turns; g j: what comes of it from there -/
theorem fx_rec {σ ρ : Type} {F : σ → σ ⊕ ρ} {d : ρ} (st : Nat → σ) (g : Nat → ρ) (N : Nat) (hend : F (st N) = .inr (g N)) (hstep : ∀ j, j < N → F (st j) = .inr (g j) ∨ (F (st j) = .inl (st (j + 1)) ∧ g j = g (j + 1))) : fx F d (st 0) = g 0 := by
  have key : ∀ k j, j + k = N → fx F d (st j) = g j := by
    intro k
    induction k with
    | zero =>
      intro j hj
      have : j = N := by omega
      rw [this]
      exact fx_stop hend
    | succ k ih =>
      intro j hj
      rcases hstep j (by omega) with h | ⟨h, e⟩
      · exact fx_stop h
      · rw [fx_step h, e]
        exact ih (j + 1) (by omega)
  exact key N 0 (by omega)
theorem fx_for {σ ρ : Type} {F : σ → σ ⊕ ρ} {d : ρ} (st : Nat → σ) (out : ρ) (N : Nat) (hend : F (st N) = .inr out) (hstep : ∀ j, j < N → F (st j) = .inl (st (j + 1))) : fx F d (st 0) = out :=
  fx_rec st (fun _ => out) N hend (fun j hj => Or.inr ⟨hstep j hj, rfl⟩)
/-- with something known of each place -/
theorem fx_forI {σ ρ : Type} {F : σ → σ ⊕ ρ} {d : ρ} (I : Nat → σ → Prop) (Q : ρ → Prop) (N : Nat) (hend : ∀ s, I N s → ∃ r, F s = .inr r ∧ Q r) (hstep : ∀ j s, j < N → I j s → (∃ r, F s = .inr r ∧ Q r) ∨ ∃ s', F s = .inl s' ∧ I (j + 1) s') {s : σ} (h0 : I 0 s) : Q (fx F d s) := by
  have key : ∀ k j s, j + k = N → I j s → Q (fx F d s) := by
    intro k
    induction k with
    | zero =>
      intro j s hj hi
      have : j = N := by omega
      rw [this] at hi
      obtain ⟨r, h, q⟩ := hend s hi
      rw [fx_stop h]
      exact q
    | succ k ih =>
      intro j s hj hi
      rcases hstep j s (by omega) hi with ⟨r, h, q⟩ | ⟨s', h, hi'⟩
      · rw [fx_stop h]
        exact q
      · rw [fx_step h]
        exact ih (j + 1) s' (by omega) hi'
  exact key N 0 s (by omega) h0
/-- numbers -/
theorem nI_t {k : Nat} (h : k < 2147483648) : (nI k).toInt = (k : Int) := nI_toInt (n := k) (by omega)
theorem nI_s (k : Nat) : nI k + (1 : Int32) = nI (k + 1) := (nI_succ k).symm
theorem nI_c {k : Nat} (h : k < 2147483648) : (nI k).toNatClampNeg = k := by
  have := nI_t h
  show (nI k).toInt.toNat = k
  omega
theorem i_lt {x y : Int32} : x < y ↔ x.toInt < y.toInt := Int32.lt_iff_toInt_lt
theorem i_le {x y : Int32} : x ≤ y ↔ x.toInt ≤ y.toInt := Int32.le_iff_toInt_le
theorem i_eq {x y : Int32} : x = y ↔ x.toInt = y.toInt := Int32.toInt_inj.symm
theorem nI_back {x : Int32} (h : 0 ≤ x.toInt) : x = nI x.toNatClampNeg := by
  rw [i_eq]
  have h1 : x.toNatClampNeg = x.toInt.toNat := rfl
  have h2 := t_hi x
  rw [nI_t (by omega)]
  omega
theorem l_lt {x y : Int64} : x < y ↔ x.toInt < y.toInt := Int64.lt_iff_toInt_lt
theorem l_eq {x y : Int64} : x = y ↔ x.toInt = y.toInt := Int64.toInt_inj.symm
theorem i2l (x : Int32) : (Int32.toInt64 x).toInt = x.toInt := q_i2l x
theorem ite_b {P : Prop} {d : Decidable P} : (¬ (@ite Int32 P d 1 0 = 0)) ↔ P := by
  by_cases h : P
  · rw [if_pos h]
    exact ⟨fun _ => h, fun _ => by decide⟩
  · rw [if_neg h]
    exact ⟨fun e => absurd rfl e, fun e => absurd e h⟩
theorem i_isub {x y : Int32} (h1 : -2147483648 ≤ x.toInt - y.toInt) (h2 : x.toInt - y.toInt ≤ 2147483647) : (x - y).toInt = x.toInt - y.toInt := t_sub h1 h2
theorem i_iadd {x y : Int32} (h1 : -2147483648 ≤ x.toInt + y.toInt) (h2 : x.toInt + y.toInt ≤ 2147483647) : (x + y).toInt = x.toInt + y.toInt := t_add h1 h2
/-- the two tests of bounds -/
theorem F_isWithin_eq (x y z : Int32) : F_X4_isWithin x y z = if y.toInt ≤ x.toInt ∧ x.toInt ≤ z.toInt then 1 else 0 := by
  unfold F_X4_isWithin
  by_cases h1 : x < y
  · rw [if_pos h1, if_neg (by rw [i_lt] at h1; omega)]
  · by_cases h2 : z < x
    · rw [if_neg h1, if_pos h2, if_neg (by rw [i_lt] at h2; omega)]
    · rw [if_neg h1, if_neg h2, if_pos (by rw [i_lt] at h1 h2; omega)]
theorem F_in_eq (x y z : Int64) : F_X5_in x y z = if y.toInt ≤ x.toInt ∧ x.toInt ≤ z.toInt then 1 else 0 := by
  unfold F_X5_in
  by_cases h1 : x < y
  · rw [if_pos h1, if_neg (by rw [l_lt] at h1; omega)]
  · by_cases h2 : z < x
    · rw [if_neg h1, if_pos h2, if_neg (by rw [l_lt] at h2; omega)]
    · rw [if_neg h1, if_neg h2, if_pos (by rw [l_lt] at h1 h2; omega)]
/-- slots -/
theorem hv_eq {h h' : zH} {q i : Nat} (e : hget h' q i = hget h q i) : hv h' q i = hv h q i := by
  unfold hv
  rw [e]
theorem hJ_eq {h h' : zH} {q i : Nat} (e : hget h' q i = hget h q i) : hJ h' q i = hJ h q i := by
  unfold hJ
  rw [e]
theorem hv_put {h : zH} {q i : Nat} {x : Int32} {w : zV} (hw : hget h q i = some w) : hv (hput h q i (.inl (.int x))) q i = x := by
  unfold hv
  rw [hget_put hw]
theorem hJ_put {h : zH} {q i : Nat} {x : Int64} {w : zV} (hw : hget h q i = some w) : hJ (hput h q i (.inl (.long x))) q i = x := by
  unfold hJ
  rw [hget_put hw]
theorem hv_ne {h : zH} {q i p j : Nat} {v : zV} (hne : p ≠ q ∨ j ≠ i) : hv (hput h q i v) p j = hv h p j := hv_eq (hget_put_ne hne)
theorem hJ_ne {h : zH} {q i p j : Nat} {v : zV} (hne : p ≠ q ∨ j ≠ i) : hJ (hput h q i v) p j = hJ h p j := hJ_eq (hget_put_ne hne)
theorem hr_ne {h : zH} {q i p j : Nat} {v : zV} (hne : p ≠ q ∨ j ≠ i) : hr (hput h q i v) p j = hr h p j := hr_eq (hget_put_ne hne)
