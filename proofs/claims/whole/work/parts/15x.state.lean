theorem tget_mem {aL : tL} {k : Nat} {a : tA} (h : tget aL k = some a) : (k, a) ∈ aL := by
  unfold tget at h
  split at h
  · next p hp =>
    cases h
    have h1 := List.find?_some hp
    have h2 : p.1 = k := Nat.eq_of_beq_eq_true h1
    rw [← h2]
    exact List.mem_of_find?_eq_some hp
  · cases h
theorem tget_ok {T : List Nat} {aL : tL} {L : zL} {k : Nat} {a : tA} (hL : okL T aL L) (h : tget aL k = some a) : ∃ v, zget L k = some v ∧ okA T a v := hL _ (tget_mem h)
theorem okSt_cons {T : List Nat} {L : zL} {a : tA} {l : List tA} {vs : List zV} (h : okSt T L (a :: l) vs) : ∃ v vs', vs = v :: vs' ∧ okA T a v ∧ okTag L a v ∧ okSt T L l vs' := by
  cases vs with
  | nil => exact h.elim
  | cons v vs' => exact ⟨v, vs', rfl, h.1.1, h.1.2, h.2⟩
theorem okSt_nil {T : List Nat} {L : zL} {vs : List zV} (h : okSt T L [] vs) : vs = [] := by
  cases vs with
  | nil => rfl
  | cons v vs' => exact h.elim
theorem okSt_len {T : List Nat} {L : zL} : ∀ {l : List tA} {vs : List zV}, okSt T L l vs → l.length = vs.length
  | [], [], _ => rfl
  | _ :: _, _ :: _, h => by simp only [List.length_cons]; rw [okSt_len h.2]
  | [], _ :: _, h => h.elim
  | _ :: _, [], h => h.elim
theorem okSt_take {T : List Nat} {L : zL} : ∀ (n : Nat) {l : List tA} {vs : List zV}, okSt T L l vs → okSt T L (l.take n) (vs.take n)
  | 0, _, _, _ => by simp only [List.take_zero]; trivial
  | n + 1, [], [], _ => trivial
  | n + 1, _ :: _, _ :: _, h => ⟨h.1, okSt_take n h.2⟩
  | n + 1, [], _ :: _, h => h.elim
  | n + 1, _ :: _, [], h => h.elim
theorem okSt_drop {T : List Nat} {L : zL} : ∀ (n : Nat) {l : List tA} {vs : List zV}, okSt T L l vs → okSt T L (l.drop n) (vs.drop n)
  | 0, _, _, h => h
  | n + 1, [], [], _ => trivial
  | n + 1, _ :: _, _ :: _, h => okSt_drop n h.2
  | n + 1, [], _ :: _, h => h.elim
  | n + 1, _ :: _, [], h => h.elim
theorem okSt_app {T : List Nat} {L : zL} : ∀ {l l2 : List tA} {vs vs2 : List zV}, okSt T L l vs → okSt T L l2 vs2 → okSt T L (l ++ l2) (vs ++ vs2)
  | [], _, [], _, _, h2 => h2
  | _ :: _, _, _ :: _, _, h, h2 => ⟨h.1, okSt_app h.2 h2⟩
  | [], _, _ :: _, _, h, _ => h.elim
  | _ :: _, _, [], _, h, _ => h.elim
theorem okSt_rev {T : List Nat} {L : zL} : ∀ {l : List tA} {vs : List zV}, okSt T L l vs → okSt T L l.reverse vs.reverse
  | [], [], _ => trivial
  | a :: l, v :: vs, h => by
    rw [List.reverse_cons, List.reverse_cons]
    exact okSt_app (okSt_rev h.2) ⟨h.1, trivial⟩
  | [], _ :: _, h => h.elim
  | _ :: _, [], h => h.elim
theorem okSt_get {T : List Nat} {L : zL} : ∀ (n : Nat) {l : List tA} {vs : List zV} {a : tA}, okSt T L l vs → l[n]? = some a → ∃ v, vs[n]? = some v ∧ okA T a v ∧ okTag L a v
  | _, [], _, _, _, h => by simp at h
  | 0, _ :: _, _ :: _, _, h, h2 => by
    simp only [List.getElem?_cons_zero, Option.some.injEq] at h2
    subst h2
    exact ⟨_, rfl, h.1.1, h.1.2⟩
  | n + 1, _ :: _, _ :: _, _, h, h2 => by
    simp only [List.getElem?_cons_succ] at h2 ⊢
    exact okSt_get n h.2 h2
  | _, _ :: _, [], _, h, _ => h.elim
theorem okA_cat {T : List Nat} {a : tA} {v : zV} (h : okA T a v) : zcat v = tcat a := by
  unfold okA at h
  unfold tcat
  split at h
  · next q => obtain ⟨x, rfl, -⟩ := h; rw [q]; rfl
  · next q => obtain ⟨x, rfl, -⟩ := h; rw [q]; rfl
  · next q => obtain ⟨x, rfl, -⟩ := h; rw [q]; rfl
  · next q => rw [h, q]; rfl
  · exact h.elim
theorem okSt_sum {T : List Nat} {L : zL} : ∀ {l : List tA} {vs : List zV}, okSt T L l vs → zsum vs = tsum l
  | [], [], _ => rfl
  | _ :: _, _ :: _, h => by
    simp only [zsum, tsum]
    rw [okA_cat h.1.1, okSt_sum h.2]
  | [], _ :: _, h => h.elim
  | _ :: _, [], h => h.elim
theorem okA_mono {T T' : List Nat} (hT : ∀ q τ : Nat, T[q]? = some τ → T'[q]? = some τ) {a : tA} {v : zV} (h : okA T a v) : okA T' a v := by
  unfold okA at h ⊢
  split at h
  · exact h
  · exact h
  · obtain ⟨q, h1, h2⟩ := h
    exact ⟨q, h1, hT _ _ h2⟩
  · exact h
  · exact h.elim
theorem okL_mono {T T' : List Nat} (hT : ∀ q τ : Nat, T[q]? = some τ → T'[q]? = some τ) {aL : tL} {L : zL} (h : okL T aL L) : okL T' aL L := fun p hp => by
  obtain ⟨v, h1, h2⟩ := h p hp
  exact ⟨v, h1, okA_mono hT h2⟩
theorem okSt_mono {T T' : List Nat} (hT : ∀ q τ : Nat, T[q]? = some τ → T'[q]? = some τ) {L : zL} : ∀ {l : List tA} {vs : List zV}, okSt T L l vs → okSt T' L l vs
  | [], [], _ => trivial
  | _ :: _, _ :: _, h => ⟨⟨okA_mono hT h.1.1, h.1.2⟩, okSt_mono hT h.2⟩
  | [], _ :: _, h => h.elim
  | _ :: _, [], h => h.elim
/-- the stack where one local is laid anew -/
theorem okTag_fog {L L' : zL} {k : Nat} (hk : ∀ (j : Nat) (x : Int32), j ≠ k → zget L j = some (.inl (.int x)) → zget L' j = some (.inl (.int x))) {a : tA} {v : zV} (h : okTag L a v) : okTag L' (tfog1 k a) v := by
  refine ⟨fun j hj he => ?_, fun c hc hv => ?_⟩
  · have hj : a.1 ≤ 1 := hj
    have he : (if a.1 ≤ 1 ∧ a.2.2.2.1 = k + 1 then 0 else a.2.2.2.1) = j + 1 := he
    split at he
    · omega
    · next q =>
      obtain ⟨x, h1, h2⟩ := h.1 j hj he
      exact ⟨x, hk j x (fun e => q ⟨hj, by omega⟩) h1, h2⟩
  · obtain ⟨hc1, hc2⟩ := List.mem_filter.mp hc
    obtain ⟨x, h1, h2⟩ := h.2 c hc1 hv
    refine ⟨x, hk _ x (fun e => ?_) h1, h2⟩
    rw [z_beq, e] at hc2
    simp at hc2
theorem okA_fog {T : List Nat} {k : Nat} {a : tA} {v : zV} (h : okA T a v) : okA T (tfog1 k a) v := by
  have h0 : (tfog1 k a).1 = a.1 := rfl
  unfold okA at h ⊢
  rw [h0]
  split at h
  · exact h
  · exact h
  · next q =>
    have e : (tfog1 k a).2.2.2.1 = a.2.2.2.1 := by
      show (if a.1 ≤ 1 ∧ a.2.2.2.1 = k + 1 then 0 else a.2.2.2.1) = _
      rw [if_neg (by omega)]
    rw [e]
    exact h
  · next q =>
    have e : (tfog1 k a).2.2.2.1 = a.2.2.2.1 := by
      show (if a.1 ≤ 1 ∧ a.2.2.2.1 = k + 1 then 0 else a.2.2.2.1) = _
      rw [if_neg (by omega)]
    rw [e]
    exact h
  · exact h.elim
theorem okSt_fog {T : List Nat} {L L' : zL} {k : Nat} (hk : ∀ (j : Nat) (x : Int32), j ≠ k → zget L j = some (.inl (.int x)) → zget L' j = some (.inl (.int x))) : ∀ {l : List tA} {vs : List zV}, okSt T L l vs → okSt T L' (tfog k l) vs
  | [], [], _ => trivial
  | _ :: _, _ :: _, h => ⟨⟨okA_fog h.1.1, okTag_fog hk h.1.2⟩, okSt_fog hk h.2⟩
  | [], _ :: _, h => h.elim
  | _ :: _, [], h => h.elim
theorem zget_cons_ne {L : zL} {i j : Nat} {v : zV} (h : j ≠ i) : zget ((i, v) :: L) j = zget L j := by
  unfold zget
  rw [List.find?_cons_of_neg (by simp only [z_beq]; simpa using Ne.symm h)]
theorem zget_cons_eq {L : zL} {i : Nat} {v : zV} : zget ((i, v) :: L) i = some v := by
  unfold zget
  rw [List.find?_cons_of_pos (by simp only [z_beq]; simp)]
theorem zget_filter {L : zL} {P : Nat × zV → Bool} {j : Nat} {v : zV} (h : zget L j = some v) (hP : P (j, v) = true) : zget (L.filter P) j = some v := by
  induction L with
  | nil => exact absurd h (by simp [zget])
  | cons p L ih =>
    obtain ⟨i, w⟩ := p
    by_cases hi : j = i
    · subst hi
      rw [zget_cons_eq] at h
      cases h
      rw [List.filter_cons_of_pos hP]
      exact zget_cons_eq
    · rw [zget_cons_ne hi] at h
      by_cases hp : P (i, w) = true
      · rw [List.filter_cons_of_pos hp, zget_cons_ne hi]
        exact ih h
      · rw [List.filter_cons_of_neg hp]
        exact ih h
theorem zst1_get {L : zL} {i j : Nat} {v w : zV} (h : zget L j = some w) (hj : j ≠ i) (hc : j + 1 ≠ i ∨ zcat w ≠ 2) : zget (zst1 L i v) j = some w := by
  unfold zst1
  rw [zget_cons_ne hj]
  refine zget_filter h ?_
  simp only [z_beq]
  rcases hc with hc | hc <;> simp [hj, hc]
theorem zst2_get {L : zL} {i j : Nat} {v w : zV} (h : zget L j = some w) (hj : j ≠ i) (hj2 : j ≠ i + 1) (hc : j + 1 ≠ i ∨ zcat w ≠ 2) : zget (zst2 L i v) j = some w := by
  unfold zst2
  rw [zget_cons_ne hj]
  refine zget_filter h ?_
  simp only [z_beq]
  rcases hc with hc | hc <;> simp [hj, hj2, hc]
theorem okA_norm {T : List Nat} {a : tA} {v : zV} (h : okA T a v) : okA T (a.1, a.2.1, a.2.2.1, (if a.1 ≤ 1 then 0 else a.2.2.2.1), []) v := by
  unfold okA at h ⊢
  split at h
  · next q => simp only [q]; exact h
  · next q => simp only [q]; exact h
  · next q => simp only [q]; exact h
  · next q => simp only [q]; exact h
  · exact h.elim
theorem tput_ok {T : List Nat} {aL : tL} {L : zL} {k : Nat} {a : tA} {v : zV} (hL : okL T aL L) (ha : okA T a v) : okL T (tput aL k a) (zst1 L k v) := by
  intro p hp
  rcases List.mem_cons.mp hp with rfl | hp
  · exact ⟨v, zget_cons_eq, okA_norm ha⟩
  · obtain ⟨h1, h2⟩ := List.mem_filter.mp hp
    obtain ⟨w, h3, h4⟩ := hL p h1
    simp only [z_beq, Bool.and_eq_true, Bool.not_eq_true', beq_eq_false_iff_ne, Bool.and_eq_false_iff, ne_eq] at h2
    refine ⟨w, zst1_get h3 h2.1 ?_, h4⟩
    rcases h2.2 with h5 | h5
    · exact Or.inl h5
    · refine Or.inr ?_
      rw [okA_cat h4]
      unfold tcat
      rw [if_neg h5]
      omega
theorem tput2_ok {T : List Nat} {aL : tL} {L : zL} {k : Nat} {a : tA} {v : zV} (hL : okL T aL L) (ha : okA T a v) (hl : tlong a = true) : okL T (tput2 aL k a) (zst2 L k v) := by
  intro p hp
  rcases List.mem_cons.mp hp with rfl | hp
  · refine ⟨v, zget_cons_eq, ?_⟩
    have h1 : a.1 = 1 := Nat.eq_of_beq_eq_true hl
    have := okA_norm ha
    rw [if_pos (by omega)] at this
    exact this
  · obtain ⟨h1, h2⟩ := List.mem_filter.mp hp
    obtain ⟨w, h3, h4⟩ := hL p h1
    simp only [z_beq, Bool.and_eq_true, Bool.not_eq_true', beq_eq_false_iff_ne, Bool.and_eq_false_iff, ne_eq] at h2
    refine ⟨w, zst2_get h3 h2.1 h2.2.1 ?_, h4⟩
    rcases h2.2.2 with h5 | h5
    · exact Or.inl h5
    · refine Or.inr ?_
      rw [okA_cat h4]
      unfold tcat
      rw [if_neg h5]
      omega
theorem zst1_keep {L : zL} {k : Nat} {v : zV} (j : Nat) (x : Int32) (hj : j ≠ k) (h : zget L j = some (.inl (.int x))) : zget (zst1 L k v) j = some (.inl (.int x)) := zst1_get h hj (Or.inr (by show (1 : Nat) ≠ 2; omega))
theorem tpush_ok {T : List Nat} {L : zL} {k : Nat} {a : tA} {v : zV} (h : okA T a v) (hg : zget L k = some v) : okA T (tpush k a) v ∧ okTag L (tpush k a) v := by
  unfold tpush
  by_cases h1 : a.1 ≤ 1
  · rw [if_pos h1]
    by_cases h0 : a.1 = 0
    · rw [if_pos h0]
      obtain ⟨x, rfl, hx⟩ := tint_sp (T := T) (a := a) (by unfold tint; rw [h0]; rfl) h
      refine ⟨?_, fun j hj he => ?_, fun c hc => by cases hc⟩
      · unfold okA
        simp only [h0]
        exact ⟨x, rfl, hx⟩
      · have he : k + 1 = j + 1 := he
        have : j = k := by omega
        subst this
        exact ⟨x, hg, rfl⟩
    · rw [if_neg h0]
      refine ⟨?_, okTag_none (Or.inl rfl) rfl⟩
      have := okA_norm h
      rw [if_pos h1] at this
      exact this
  · rw [if_neg h1]
    refine ⟨?_, okTag_none (Or.inr (by show 2 ≤ a.1; omega)) rfl⟩
    have := okA_norm h
    rw [if_neg h1] at this
    exact this
/-- local k is cut: what is known of it is true -/
theorem tcutO_ok {T : List Nat} {aL : tL} {L : zL} {k : Nat} {lo hi : Int} {K : tL → Bool} {x : Int32} (hL : okL T aL L) (hg : zget L k = some (.inl (.int x))) (hx : lo ≤ x.toInt ∧ x.toInt ≤ hi) (h : tcutO aL k lo hi K = true) : ∃ aL', okL T aL' L ∧ K aL' = true := by
  unfold tcutO tcut at h
  split at h
  · next aL' he =>
    refine ⟨aL', ?_, h⟩
    split at he
    · next a ha =>
      obtain ⟨v, h1, h2⟩ := tget_ok hL ha
      rw [hg] at h1
      cases h1
      split at he
      · next h0 =>
        obtain ⟨y, hy, hb⟩ := tint_sp (T := T) (a := a) (by unfold tint; rw [h0]; rfl) h2
        cases hy
        split at he
        · cases he
          intro p hp
          rcases List.mem_cons.mp hp with rfl | hp
          · refine ⟨_, hg, okA_I ?_ ?_⟩
            · exact Int.max_le.mpr ⟨hb.1, hx.1⟩
            · exact Int.le_min.mpr ⟨hb.2, hx.2⟩
          · exact hL p (List.mem_filter.mp hp).1
        · cases he
      · cases he
        exact hL
    · cases he
      exact hL
  · next he =>
    exfalso
    split at he
    · next a ha =>
      obtain ⟨v, h1, h2⟩ := tget_ok hL ha
      rw [hg] at h1
      cases h1
      split at he
      · next h0 =>
        obtain ⟨y, hy, hb⟩ := tint_sp (T := T) (a := a) (by unfold tint; rw [h0]; rfl) h2
        cases hy
        split at he
        · cases he
        · next q =>
          have q1 : max a.2.1 lo ≤ x.toInt := Int.max_le.mpr ⟨hb.1, hx.1⟩
          have q2 : x.toInt ≤ min a.2.2.1 hi := Int.le_min.mpr ⟨hb.2, hx.2⟩
          exact q (Int.le_trans q1 q2)
      · cases he
    · cases he
theorem tcutA_ok {T : List Nat} {aL : tL} {L : zL} {a : tA} {lo hi : Int} {K : tL → Bool} {x : Int32} (hL : okL T aL L) (ht : okTag L a (.inl (.int x))) (hi0 : tint a = true) (ha : tlo a ≤ x.toInt ∧ x.toInt ≤ thi a) (hx : lo ≤ x.toInt ∧ x.toInt ≤ hi) (h : tcutA aL a lo hi K = true) : ∃ aL', okL T aL' L ∧ K aL' = true := by
  unfold tcutA at h
  rw [if_pos ⟨by omega, by omega, by omega⟩] at h
  split at h
  · exact ⟨aL, hL, h⟩
  · next k hk =>
    have h0 : a.1 = 0 := Nat.eq_of_beq_eq_true hi0
    obtain ⟨y, h1, h2⟩ := ht.1 k (by omega) hk
    have h2 : x.toInt = y.toInt := h2
    have := Int32.toInt_inj.mp h2
    subst this
    exact tcutO_ok hL h1 hx h
theorem tcutC_ok {T : List Nat} {L : zL} {K : tL → Bool} : ∀ {cs : tC} {aL : tL}, okL T aL L → (∀ c ∈ cs, ∃ x : Int32, zget L c.1 = some (.inl (.int x)) ∧ c.2.1 ≤ x.toInt ∧ x.toInt ≤ c.2.2) → tcutC cs aL K = true → ∃ aL', okL T aL' L ∧ K aL' = true
  | [], aL, hL, _, h => ⟨aL, hL, h⟩
  | c :: cs, aL, hL, hc, h => by
    obtain ⟨x, h1, h2⟩ := hc c List.mem_cons_self
    obtain ⟨aL', h3, h4⟩ := tcutO_ok hL h1 h2 h
    exact tcutC_ok h3 (fun d hd => hc d (List.mem_cons_of_mem _ hd)) h4
theorem tcmp_ok {T : List Nat} {aL : tL} {L : zL} {cd : ClassFile.Cond} {a b : tA} {K : tL → Bool} {x y : Int32} (hL : okL T aL L) (ta : okTag L a (.inl (.int x))) (tb : okTag L b (.inl (.int y))) (ia : tint a = true) (ib : tint b = true) (ha : tlo a ≤ x.toInt ∧ x.toInt ≤ thi a) (hb : tlo b ≤ y.toInt ∧ y.toInt ≤ thi b) (hc : zop cd x y) (h : tcmp cd aL a b K = true) : ∃ aL', okL T aL' L ∧ K aL' = true := by
  cases cd with
  | eq =>
    have e : x.toInt = y.toInt := congrArg Int32.toInt hc
    simp only [tcmp] at h
    obtain ⟨aL1, h1, h2⟩ := tcutA_ok hL ta ia ha (by omega) h
    exact tcutA_ok h1 tb ib hb (by omega) h2
  | ne =>
    have e : x.toInt ≠ y.toInt := fun q => hc (Int32.toInt_inj.mp q)
    simp only [tcmp] at h
    split at h
    · split at h
      · exact tcutA_ok hL ta ia ha (by omega) h
      · split at h
        · exact tcutA_ok hL ta ia ha (by omega) h
        · exact ⟨aL, hL, h⟩
    · split at h
      · split at h
        · exact tcutA_ok hL tb ib hb (by omega) h
        · split at h
          · exact tcutA_ok hL tb ib hb (by omega) h
          · exact ⟨aL, hL, h⟩
      · exact ⟨aL, hL, h⟩
  | lt =>
    have e : x.toInt < y.toInt := Int32.lt_iff_toInt_lt.mp hc
    simp only [tcmp] at h
    obtain ⟨aL1, h1, h2⟩ := tcutA_ok hL ta ia ha (by omega) h
    exact tcutA_ok h1 tb ib hb (by omega) h2
  | ge =>
    have e : y.toInt ≤ x.toInt := Int32.le_iff_toInt_le.mp hc
    simp only [tcmp] at h
    obtain ⟨aL1, h1, h2⟩ := tcutA_ok hL ta ia ha (by omega) h
    exact tcutA_ok h1 tb ib hb (by omega) h2
  | gt =>
    have e : y.toInt < x.toInt := Int32.lt_iff_toInt_lt.mp hc
    simp only [tcmp] at h
    obtain ⟨aL1, h1, h2⟩ := tcutA_ok hL ta ia ha (by omega) h
    exact tcutA_ok h1 tb ib hb (by omega) h2
  | le =>
    have e : x.toInt ≤ y.toInt := Int32.le_iff_toInt_le.mp hc
    simp only [tcmp] at h
    obtain ⟨aL1, h1, h2⟩ := tcutA_ok hL ta ia ha (by omega) h
    exact tcutA_ok h1 tb ib hb (by omega) h2
theorem zcond_some (cd : ClassFile.Cond) (x y : Int32) : ∃ b, zcond cd (.inl (.int x)) (.inl (.int y)) = some b := by
  have hlt : ∀ u w : Int32, ∃ b, zlt (.inl (.int u)) (.inl (.int w)) = some b := fun u w => by
    unfold zlt
    by_cases g : zhi (.inl (.int u)) < zlo (.inl (.int w))
    · exact ⟨true, if_pos g⟩
    · refine ⟨false, ?_⟩
      rw [if_neg g, if_pos]
      have g : ¬ u.toInt < w.toInt := g
      show w.toInt ≤ u.toInt
      omega
  have heq : ∀ u w : Int32, ∃ b, zeq (.inl (.int u)) (.inl (.int w)) = some b := fun u w => by
    unfold zeq
    by_cases g : zhi (.inl (.int u)) < zlo (.inl (.int w)) ∨ zhi (.inl (.int w)) < zlo (.inl (.int u))
    · exact ⟨false, if_pos g⟩
    · refine ⟨true, ?_⟩
      rw [if_neg g, if_pos]
      have g : ¬ (u.toInt < w.toInt ∨ w.toInt < u.toInt) := g
      show u.toInt ≤ w.toInt ∧ w.toInt ≤ u.toInt
      omega
  cases cd with
  | eq => exact heq x y
  | ne => obtain ⟨b, hb⟩ := heq x y; exact ⟨!b, by show znot (zeq _ _) = _; rw [hb]; rfl⟩
  | lt => exact hlt x y
  | ge => obtain ⟨b, hb⟩ := hlt x y; exact ⟨!b, by show znot (zlt _ _) = _; rw [hb]; rfl⟩
  | gt => exact hlt y x
  | le => obtain ⟨b, hb⟩ := hlt y x; exact ⟨!b, by show znot (zlt _ _) = _; rw [hb]; rfl⟩
/-- a comparison of the machine, on exact ints -/
theorem zbr_ex {cd : ClassFile.Cond} {x y : Int32} {kt kf : Bool} (ht : zop cd x y → kt = true) (hf : ¬ zop cd x y → kf = true) : zbr (zcond cd (.inl (.int x)) (.inl (.int y))) kt kf = true := by
  have bx : zlo (.inl (.int x)) ≤ x.toInt ∧ x.toInt ≤ zhi (.inl (.int x)) := ⟨Int.le_refl _, Int.le_refl _⟩
  have bb : zlo (.inl (.int y)) ≤ y.toInt ∧ y.toInt ≤ zhi (.inl (.int y)) := ⟨Int.le_refl _, Int.le_refl _⟩
  obtain ⟨b, hb⟩ := zcond_some cd x y
  by_cases h : zop cd x y
  · have h1 := zcond_t bx bb h
    rw [hb] at h1 ⊢
    cases b
    · exact absurd rfl h1
    · exact ht h
  · have h1 := zcond_f bx bb h
    rw [hb] at h1 ⊢
    cases b
    · exact hf h
    · exact absurd rfl h1
theorem zop_neg {cd : ClassFile.Cond} {x y : Int32} (h : ¬ zop cd x y) : zop (tneg cd) x y := by
  cases cd with
  | eq => exact h
  | ne => exact Classical.not_not.mp h
  | lt => exact Int32.not_lt.mp h
  | ge => exact Int32.not_le.mp h
  | gt => exact Int32.not_lt.mp h
  | le => exact Int32.not_le.mp h
