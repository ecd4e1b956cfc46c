def okC (T : List Nat) (τ : Nat) (c : zC) : Prop := c.1 = (zty τ).1 ∧ c.2.length = (zty τ).2.1 ∧ ∀ (i : Nat) (v : zV), c.2[i]? = some v → okS T ((zty τ).2.2 i) v
def okCs (T : List Nat) : List Nat → List zC → Prop
  | [], [] => True
  | τ :: ts, c :: cs => okC T τ c ∧ okCs T ts cs
  | _, _ => False
theorem okCs_at {T : List Nat} : ∀ {ts : List Nat} {cs : List zC} {k τ : Nat}, okCs T ts cs → ts[k]? = some τ → ∃ c, cs[k]? = some c ∧ okC T τ c
  | [], _, _, _, _, h => by cases h
  | _ :: _, [], _, _, h, _ => h.elim
  | _ :: _, c :: _, 0, _, h, e => by
    cases e
    exact ⟨c, rfl, h.1⟩
  | _ :: _, _ :: _, k + 1, _, h, e => okCs_at (k := k) h.2 e
theorem okCs_len {T : List Nat} : ∀ {ts : List Nat} {cs : List zC}, okCs T ts cs → cs.length = ts.length
  | [], [], _ => rfl
  | [], _ :: _, h => h.elim
  | _ :: _, [], h => h.elim
  | _ :: ts, _ :: cs, h => by
    show cs.length + 1 = ts.length + 1
    rw [okCs_len h.2]
theorem okS_mono {T T' : List Nat} (hT : tExt T T') {s : tSl} {v : zV} (h : okS T s v) : okS T' s v := by
  unfold okS at h ⊢
  split at h
  · exact h
  · exact h
  · obtain ⟨q, e, h2⟩ := h
    exact ⟨q, e, hT _ _ h2⟩
  · trivial
theorem hOK_app {T ts : List Nat} {h cs : zH} (hok : hOK zty T h) (hl : h.length + cs.length ≤ 1000000) (hc : okCs (T ++ ts) ts cs) : hOK zty (T ++ ts) (h ++ cs) := by
  refine ⟨?_, ?_, fun q τ hq => ?_⟩
  · rw [List.length_append, List.length_append, hok.1, okCs_len hc]
  · rw [List.length_append]
    exact hl
  · by_cases e : q < T.length
    · rw [List.getElem?_append_left e] at hq
      obtain ⟨vs, h1, h2, h3⟩ := hok.2.2 q τ hq
      refine ⟨vs, ?_, h2, fun i v hv => okS_mono (tExt_app T ts) (h3 i v hv)⟩
      rw [List.getElem?_append_left (by rw [hok.1]; exact e)]
      exact h1
    · rw [List.getElem?_append_right (by omega)] at hq
      obtain ⟨c, h1, h2, h3, h4⟩ := okCs_at hc hq
      refine ⟨c.2, ?_, h3, h4⟩
      rw [List.getElem?_append_right (by rw [hok.1]; omega), hok.1, h1, ← h2]
theorem okC_rep {T : List Nat} {τ n : Nat} {tag : Nat} {v : zV} (h1 : (zty τ).1 = tag) (h2 : (zty τ).2.1 = n) (hv : ∀ i, okS T ((zty τ).2.2 i) v) : okC T τ (tag, List.replicate n v) := by
  refine ⟨h1.symm, by rw [List.length_replicate, h2], fun i w hw => ?_⟩
  have := List.eq_of_mem_replicate (List.mem_of_getElem? hw)
  rw [this]
  exact hv i
theorem okC_refs {T : List Nat} {τ n b σ : Nat} {tag : Nat} (h1 : (zty τ).1 = tag) (h2 : (zty τ).2.1 = n) (hs : ∀ i, (zty τ).2.2 i = (4, 0, 0, σ, false)) (hT : ∀ i, i < n → T[b + i]? = some σ) : okC T τ (tag, (List.range n).map (fun i => .inl (.ref (b + i)))) := by
  refine ⟨h1.symm, by rw [List.length_map, List.length_range, h2], fun i w hw => ?_⟩
  rw [List.getElem?_map] at hw
  have hi : i < n := by
    by_cases e : i < n
    · exact e
    · rw [List.getElem?_eq_none (by rw [List.length_range]; omega)] at hw
      cases hw
  rw [List.getElem?_range hi] at hw
  cases hw
  rw [hs]
  exact ⟨b + i, rfl, hT i hi⟩
theorem iTy_at (T : List Nat) {k τ : Nat} (h : iTys[k]? = some τ) : (T ++ iTys)[T.length + k]? = some τ := by
  rw [List.getElem?_append_right (by omega), Nat.add_sub_cancel_left]
  exact h
theorem iObj_ok (T : List Nat) : ∀ (i : Nat) (v : zV), (iObj T.length 22)[i]? = some v → okS (T ++ iTys) ((zty 6).2.2 i) v
  | 0, v, hv => by
    obtain rfl := (Option.some.inj (show some _ = some v from hv))
    exact ⟨_, rfl, iTy_at T (k := 1) rfl⟩
  | 1, v, hv => by
    obtain rfl := (Option.some.inj (show some _ = some v from hv))
    exact ⟨_, rfl, iTy_at T (k := 2) rfl⟩
  | 2, v, hv => by
    obtain rfl := (Option.some.inj (show some _ = some v from hv))
    exact ⟨_, rfl, iTy_at T (k := 3) rfl⟩
  | 3, v, hv => by
    obtain rfl := (Option.some.inj (show some _ = some v from hv))
    exact ⟨_, rfl, iTy_at T (k := 4) rfl⟩
  | 4, v, hv => by
    obtain rfl := (Option.some.inj (show some _ = some v from hv))
    exact ⟨_, rfl, iTy_at T (k := 13) rfl⟩
  | 5, v, hv => by
    obtain rfl := (Option.some.inj (show some _ = some v from hv))
    exact ⟨_, rfl, iTy_at T (k := 14) rfl⟩
  | 6, v, hv => by
    obtain rfl := (Option.some.inj (show some _ = some v from hv))
    exact ⟨_, rfl, iTy_at T (k := 15) rfl⟩
  | 7, v, hv => by
    obtain rfl := (Option.some.inj (show some _ = some v from hv))
    exact ⟨0, rfl, by show (0 : Int) ≤ 0; decide, by show (0 : Int) ≤ 250; decide⟩
  | 8, v, hv => by
    obtain rfl := (Option.some.inj (show some _ = some v from hv))
    exact ⟨_, rfl, iTy_at T (k := 16) rfl⟩
  | 9, v, hv => by
    obtain rfl := (Option.some.inj (show some _ = some v from hv))
    exact ⟨20, rfl, by show (1 : Int) ≤ 20; decide, by show (20 : Int) ≤ 60; decide⟩
  | 10, v, hv => by
    obtain rfl := (Option.some.inj (show some _ = some v from hv))
    exact ⟨5, rfl, by show (2 : Int) ≤ 5; decide, by show (5 : Int) ≤ 10; decide⟩
  | 11, v, hv => by
    obtain rfl := (Option.some.inj (show some _ = some v from hv))
    exact ⟨10, rfl, by show (1 : Int) ≤ 10; decide, by show (10 : Int) ≤ 495; decide⟩
  | 12, v, hv => by
    obtain rfl := (Option.some.inj (show some _ = some v from hv))
    exact ⟨40, rfl, by show (1 : Int) ≤ 40; decide, by show (40 : Int) ≤ 495; decide⟩
  | 13, v, hv => by
    obtain rfl := (Option.some.inj (show some _ = some v from hv))
    exact ⟨0, rfl, by show ((-2147483648) : Int) ≤ 0; decide, by show (0 : Int) ≤ 2147483647; decide⟩
  | 14, v, hv => by
    obtain rfl := (Option.some.inj (show some _ = some v from hv))
    exact ⟨0, rfl, by show ((-2147483648) : Int) ≤ 0; decide, by show (0 : Int) ≤ 2147483647; decide⟩
  | 15, v, hv => by
    obtain rfl := (Option.some.inj (show some _ = some v from hv))
    exact ⟨1, rfl, by show ((-2147483648) : Int) ≤ 1; decide, by show (1 : Int) ≤ 2147483647; decide⟩
  | 16, v, hv => by
    obtain rfl := (Option.some.inj (show some _ = some v from hv))
    exact ⟨_, rfl, iTy_at T (k := 17) rfl⟩
  | 17, v, hv => by
    obtain rfl := (Option.some.inj (show some _ = some v from hv))
    exact ⟨0, rfl, by show (0 : Int) ≤ 0; decide, by show (0 : Int) ≤ 8; decide⟩
  | 18, v, hv => by
    obtain rfl := (Option.some.inj (show some _ = some v from hv))
    exact ⟨_, rfl, iTy_at T (k := 18) rfl⟩
  | 19, v, hv => by
    obtain rfl := (Option.some.inj (show some _ = some v from hv))
    exact ⟨_, rfl, iTy_at T (k := 19) rfl⟩
  | 20, v, hv => by
    obtain rfl := (Option.some.inj (show some _ = some v from hv))
    exact ⟨_, rfl, iTy_at T (k := 20) rfl⟩
  | 21, v, hv => by
    obtain rfl := (Option.some.inj (show some _ = some v from hv))
    exact ⟨_, rfl, iTy_at T (k := 21) rfl⟩
  | 22, v, hv => by
    obtain rfl := (Option.some.inj (show some _ = some v from hv))
    exact ⟨_, rfl, iTy_at T (k := 22) rfl⟩
  | 23, v, hv => by
    obtain rfl := (Option.some.inj (show some _ = some v from hv))
    exact ⟨0, rfl, by show (0 : Int) ≤ 0; decide, by show (0 : Int) ≤ 4; decide⟩
  | 24, v, hv => by
    obtain rfl := (Option.some.inj (show some _ = some v from hv))
    exact ⟨_, rfl, iTy_at T (k := 23) rfl⟩
  | 25, v, hv => by
    obtain rfl := (Option.some.inj (show some _ = some v from hv))
    exact ⟨_, rfl, iTy_at T (k := 24) rfl⟩
  | 26, v, hv => by
    obtain rfl := (Option.some.inj (show some _ = some v from hv))
    exact trivial
  | 27, v, hv => by
    obtain rfl := (Option.some.inj (show some _ = some v from hv))
    exact trivial
  | 28, v, hv => by
    obtain rfl := (Option.some.inj (show some _ = some v from hv))
    exact ⟨0, rfl, by show (0 : Int) ≤ 0; decide, by show (0 : Int) ≤ 250; decide⟩
  | 29, v, hv => by
    obtain rfl := (Option.some.inj (show some _ = some v from hv))
    exact ⟨0, rfl, by show (0 : Int) ≤ 0; decide, by show (0 : Int) ≤ 4; decide⟩
  | 30, v, hv => by
    obtain rfl := (Option.some.inj (show some _ = some v from hv))
    exact ⟨0, rfl, by show (0 : Int) ≤ 0; decide, by show (0 : Int) ≤ 250; decide⟩
  | 31, v, hv => by
    obtain rfl := (Option.some.inj (show some _ = some v from hv))
    exact ⟨0, rfl, by show ((-2147483648) : Int) ≤ 0; decide, by show (0 : Int) ≤ 2147483647; decide⟩
  | 32, v, hv => by
    obtain rfl := (Option.some.inj (show some _ = some v from hv))
    exact ⟨0, rfl, by show ((-2147483648) : Int) ≤ 0; decide, by show (0 : Int) ≤ 2147483647; decide⟩
  | 33, v, hv => by
    obtain rfl := (Option.some.inj (show some _ = some v from hv))
    exact ⟨_, rfl, iTy_at T (k := 29) rfl⟩
  | 34, v, hv => by
    obtain rfl := (Option.some.inj (show some _ = some v from hv))
    exact ⟨0, rfl, by show ((-2147483648) : Int) ≤ 0; decide, by show (0 : Int) ≤ 2147483647; decide⟩
  | 35, v, hv => by
    obtain rfl := (Option.some.inj (show some _ = some v from hv))
    exact trivial
  | 36, v, hv => by
    obtain rfl := (Option.some.inj (show some _ = some v from hv))
    exact ⟨0, rfl, by show (0 : Int) ≤ 0; decide, by show (0 : Int) ≤ 3; decide⟩
  | 37, v, hv => by
    obtain rfl := (Option.some.inj (show some _ = some v from hv))
    exact ⟨0, rfl, by show ((-2147483648) : Int) ≤ 0; decide, by show (0 : Int) ≤ 2147483647; decide⟩
  | 38, v, hv => by
    obtain rfl := (Option.some.inj (show some _ = some v from hv))
    exact ⟨0, rfl, by show (0 : Int) ≤ 0; decide, by show (0 : Int) ≤ 60; decide⟩
  | 39, v, hv => by
    obtain rfl := (Option.some.inj (show some _ = some v from hv))
    exact ⟨0, rfl, by show (0 : Int) ≤ 0; decide, by show (0 : Int) ≤ 61; decide⟩
  | 40, v, hv => by
    obtain rfl := (Option.some.inj (show some _ = some v from hv))
    exact ⟨0, rfl, by show ((-2147483648) : Int) ≤ 0; decide, by show (0 : Int) ≤ 2147483647; decide⟩
  | _ + 41, v, hv => by
    exact absurd hv (by show ¬ (none : Option zV) = some v; exact fun e => by cases e)
theorem iAll_ok (T : List Nat) : okCs (T ++ iTys) iTys ((5, iObj T.length 22) :: iCells T.length) := by
  refine ⟨⟨rfl, rfl, iObj_ok T⟩, okC_rep rfl rfl (fun _ => ⟨0, rfl, by show (0 : Int) ≤ 0; decide, by show (0 : Int) ≤ 2; decide⟩), okC_rep rfl rfl (fun _ => ⟨0, rfl, by show (0 : Int) ≤ 0; decide, by show (0 : Int) ≤ 4; decide⟩), okC_rep rfl rfl (fun _ => ⟨0, rfl, by show (0 : Int) ≤ 0; decide, by show (0 : Int) ≤ 40; decide⟩), okC_refs (b := T.length + 5) rfl rfl (fun _ => rfl) (fun i hi => ?_), okC_rep rfl rfl (fun _ => ⟨_, rfl⟩), okC_rep rfl rfl (fun _ => ⟨_, rfl⟩), okC_rep rfl rfl (fun _ => ⟨_, rfl⟩), okC_rep rfl rfl (fun _ => ⟨_, rfl⟩), okC_rep rfl rfl (fun _ => ⟨_, rfl⟩), okC_rep rfl rfl (fun _ => ⟨_, rfl⟩), okC_rep rfl rfl (fun _ => ⟨_, rfl⟩), okC_rep rfl rfl (fun _ => ⟨_, rfl⟩), okC_rep rfl rfl (fun _ => ⟨_, rfl⟩), okC_rep rfl rfl (fun _ => ⟨0, rfl, by show ((-1) : Int) ≤ 0; decide, by show (0 : Int) ≤ 7; decide⟩), okC_rep rfl rfl (fun _ => ⟨0, rfl, by show (0 : Int) ≤ 0; decide, by show (0 : Int) ≤ 255; decide⟩), okC_rep rfl rfl (fun _ => ⟨0, rfl, by show ((-2147483648) : Int) ≤ 0; decide, by show (0 : Int) ≤ 2147483647; decide⟩), okC_rep rfl rfl (fun _ => ⟨0, rfl, by show (0 : Int) ≤ 0; decide, by show (0 : Int) ≤ 1; decide⟩), okC_rep rfl rfl (fun _ => ⟨0, rfl, by show (0 : Int) ≤ 0; decide, by show (0 : Int) ≤ 5; decide⟩), okC_rep rfl rfl (fun _ => ⟨0, rfl, by show (0 : Int) ≤ 0; decide, by show (0 : Int) ≤ 60; decide⟩), okC_rep rfl rfl (fun _ => ⟨0, rfl, by show (0 : Int) ≤ 0; decide, by show (0 : Int) ≤ 9; decide⟩), okC_rep rfl rfl (fun _ => ⟨0, rfl, by show ((-2147483648) : Int) ≤ 0; decide, by show (0 : Int) ≤ 2147483647; decide⟩), okC_rep rfl rfl (fun _ => ⟨0, rfl, by show ((-1) : Int) ≤ 0; decide, by show (0 : Int) ≤ 3; decide⟩), okC_rep rfl rfl (fun _ => ⟨0, rfl, by show ((-2147483648) : Int) ≤ 0; decide, by show (0 : Int) ≤ 2147483647; decide⟩), okC_refs (b := T.length + 25) rfl rfl (fun _ => rfl) (fun i hi => ?_), okC_rep rfl rfl (fun _ => ⟨0, rfl, by show ((-2147483648) : Int) ≤ 0; decide, by show (0 : Int) ≤ 2147483647; decide⟩), okC_rep rfl rfl (fun _ => ⟨0, rfl, by show ((-2147483648) : Int) ≤ 0; decide, by show (0 : Int) ≤ 2147483647; decide⟩), okC_rep rfl rfl (fun _ => ⟨0, rfl, by show ((-2147483648) : Int) ≤ 0; decide, by show (0 : Int) ≤ 2147483647; decide⟩), okC_rep rfl rfl (fun _ => ⟨0, rfl, by show ((-2147483648) : Int) ≤ 0; decide, by show (0 : Int) ≤ 2147483647; decide⟩), okC_rep rfl rfl (fun _ => ⟨0, rfl, by show ((-2147483648) : Int) ≤ 0; decide, by show (0 : Int) ≤ 2147483647; decide⟩), trivial⟩
  · have key : ∀ j, j < 8 → iTys[5 + j]? = some 28 := by decide
    rw [Nat.add_assoc]
    exact iTy_at T (key i hi)
  · have key : ∀ j, j < 4 → iTys[25 + j]? = some 39 := by decide
    rw [Nat.add_assoc]
    exact iTy_at T (key i hi)
/-- a new object of the reference's: its place in the heap, its types, and Φ -/
theorem new_ok {P : pP} {N : Nat} {T : List Nat} {h : zH} (ok : wOK (zPhi P) N T h) (hN : h.length + 30 ≤ N) (h6 : N ≤ 1000000) : wOK (zPhi P) N (T ++ iTys) (iHp h 22 29) ∧ (T ++ iTys)[h.length]? = some 6 ∧ (∀ p i : Nat, p < h.length → hget (iHp h 22 29) p i = hget h p i) := by
  have el : h.length = T.length := ok.1.1
  have e1 : iHp h 22 29 = h ++ ((5, iObj T.length 22) :: iCells T.length) := by
    unfold iHp
    rw [el]
    rfl
  have old : ∀ p i : Nat, p < h.length → hget (iHp h 22 29) p i = hget h p i := fun p i hp => by
    rw [e1]
    unfold hget
    rw [List.getElem?_append_left hp]
  have t6 : (T ++ iTys)[h.length]? = some 6 := by
    rw [el]
    exact iTy_at T (k := 0) rfl
  have hk : hOK zty (T ++ iTys) (iHp h 22 29) := by
    rw [e1]
    refine hOK_app ok.1 ?_ (iAll_ok T)
    show h.length + 30 ≤ 1000000
    omega
  have nw : ∀ (k i : Nat) (c : zC), ((5, iObj T.length 22) :: iCells T.length)[k]? = some c → hget (iHp h 22 29) (h.length + k) i = c.2[i]? := fun k i c hc => by
    rw [e1]
    unfold hget
    rw [List.getElem?_append_right (by omega), Nat.add_sub_cancel_left, hc]
  have lt : ∀ p σ : Nat, T[p]? = some σ → p < h.length := fun p σ hp => by
    rw [el]
    exact (List.getElem?_eq_some_iff.mp hp).1
  have n5 : ∀ q τ : Nat, (T ++ iTys)[q]? = some τ → T[q]? = some τ ∨ (T.length ≤ q ∧ iTys[q - T.length]? = some τ) := fun q τ hq => by
    by_cases e : q < T.length
    · rw [List.getElem?_append_left e] at hq
      exact Or.inl hq
    · rw [List.getElem?_append_right (by omega)] at hq
      exact Or.inr ⟨by omega, hq⟩
  have no : ∀ k τ : Nat, iTys[k]? = some τ → τ ≠ 2 ∧ τ ≠ 4 ∧ τ ≠ 5 ∧ (τ = 6 → k = 0) := fun k τ hk => by
    have key : ∀ k, k < 30 → ∀ τ, iTys[k]? = some τ → τ ≠ 2 ∧ τ ≠ 4 ∧ τ ≠ 5 ∧ (τ = 6 → k = 0) := by
      intro k hk τ hτ
      have : (iTys.map (fun τ => decide (τ ≠ 2 ∧ τ ≠ 4 ∧ τ ≠ 5))).all id = true := by decide
      have hm := List.mem_of_getElem? hτ
      have h0 : ∀ τ ∈ iTys, τ ≠ 2 ∧ τ ≠ 4 ∧ τ ≠ 5 := by decide
      have h1 : ∀ k, k < 30 → 1 ≤ k → iTys[k]? ≠ some 6 := by decide
      refine ⟨(h0 τ hm).1, (h0 τ hm).2.1, (h0 τ hm).2.2, fun e => ?_⟩
      subst e
      by_cases e0 : k = 0
      · exact e0
      · exact absurd hτ (h1 k hk (by omega))
    exact key k (List.getElem?_eq_some_iff.mp hk).1 τ hk
  obtain ⟨lay, hj⟩ := ok.2.1.2.1 49 5 ok.2.1.1.2.2.1 (Or.inl rfl)
  obtain ⟨a1, a2, a3, a4, a5, a6⟩ := ok.2.1.1
  obtain ⟨b1, b2⟩ := p_arr ok.2.1
  obtain ⟨-, -, c, d, e, f, g, k1, k2, k3⟩ := id ok.2.1
  have o49 : ∀ i, hget (iHp h 22 29) 49 i = hget h 49 i := fun i => old _ _ (lt _ _ a3)
  have lay2 : pLay (T ++ iTys) (iHp h 22 29) h.length := by
    refine ⟨fun o ho => ?_, fun i hi => ?_, fun i hi => ?_⟩
    · have key : ∀ o ∈ pOff, iTys[o.2.1]? = some o.2.2 := by decide
      refine ⟨?_, by rw [el]; exact iTy_at T (key o ho)⟩
      have := nw 0 o.1 _ rfl
      rw [Nat.add_zero] at this
      rw [this, el]
      have key : ∀ o ∈ pOff, (iObj T.length 22)[o.1]? = some (.inl (.ref (T.length + o.2.1))) := by
        simp only [pOff, List.forall_mem_cons]
        exact ⟨rfl, rfl, rfl, rfl, rfl, rfl, rfl, rfl, rfl, rfl, rfl, rfl, rfl, rfl, rfl, rfl, rfl, fun _ h => absurd h List.not_mem_nil⟩
      exact key o ho
    · refine ⟨?_, by rw [el, show T.length + (5 + i) = T.length + (5 + i) from rfl]; exact iTy_at T (by have key : ∀ i, i < 8 → iTys[5 + i]? = some 28 := by decide
                                                                                                        exact key i hi)⟩
      have := nw 4 i _ rfl
      rw [this, el]
      show ((List.range 8).map (fun i => (.inl (.ref (T.length + 5 + i)) : zV)))[i]? = _
      rw [List.getElem?_map, List.getElem?_range hi, ← Nat.add_assoc]
      rfl
    · refine ⟨?_, by rw [el]; exact iTy_at T (by have key : ∀ i, i < 4 → iTys[25 + i]? = some 39 := by decide
                                                 exact key i hi)⟩
      have := nw 24 i _ rfl
      rw [this, el]
      show ((List.range 4).map (fun i => (.inl (.ref (T.length + 25 + i)) : zV)))[i]? = _
      rw [List.getElem?_map, List.getElem?_range hi, ← Nat.add_assoc]
      rfl
  have pj2 : pJ (iHp h 22 29) h.length := fun t ht => by
    exfalso
    have h17 : hi (iHp h 22 29) h.length 17 = 0 := by
      unfold hi
      have := nw 0 17 _ rfl
      rw [Nat.add_zero] at this
      rw [this]
      rfl
    omega
  refine ⟨⟨hk, ?_, by rw [iHp_len h 22 29 (by decide)]; omega⟩, t6, old⟩
  refine p_keepG (q := 49) (tExt_app T iTys) (fun q τ hq hτ => ?_) (fun q2 hq2 => ?_) (fun p σ i h1 h2 h3 => old p i (lt p σ h1)) ?_ ?_ ?_ (fun s hs h2 => ?_) (fun μ hμ => ?_) (fun hv => pRef_mono (tExt_app T iTys) (o49 35) (g hv)) (pNul_mono (tExt_app T iTys) (o49 26) k1) (pNul_mono (tExt_app T iTys) (o49 27) k2) (pNul_mono (tExt_app T iTys) (o49 35) k3) ok.2.1
  · rcases n5 q τ hq with h1 | ⟨h1, h2⟩
    · exact h1
    · have := no _ _ h2
      omega
  · rcases n5 q2 6 hq2 with h1 | ⟨h1, h2⟩
    · exact Or.inl h1
    · have := (no _ _ h2).2.2.2 rfl
      have e2 : q2 = h.length := by omega
      rw [e2]
      exact Or.inr ⟨lay2, pj2⟩
  · exact (p_lay a3 (Or.inl rfl) (tExt_app T iTys) (fun p σ i h1 _ => old p i (lt p σ h1)) ⟨lay, hj⟩).2
  · rw [hi_eq (old 29 1 (lt _ _ a2))]
    exact c
  · rw [hi_eq (o49 7)]
    exact d
  · rw [hi_eq (old 50 s (lt _ _ b1))] at h2
    rw [hi_eq (old 63 s (lt _ _ b2))]
    exact e s hs h2
  · rw [hi_eq (o49 28)]
    exact f μ hμ
