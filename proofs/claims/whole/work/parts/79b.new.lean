def okC (T : List Nat) (τ : Nat) (c : zC) : Prop := c.1 = (zty τ).1 ∧ c.2.length = (zty τ).2.1 ∧ ∀ (i : Nat) (v : zV), c.2[i]? = some v → okS T ((zty τ).2.2 i) v
def okCs (T : List Nat) : List Nat → List zC → Prop
  | [], [] => True
  | τ :: ts, c :: cs => okC T τ c ∧ okCs T ts cs
  | _, _ => False
theorem okCs_at {T : List Nat} : ∀ {ts : List Nat} {cs : List zC} {k τ : Nat}, okCs T ts cs → ts[k]? = some τ → ∃ c, cs[k]? = some c ∧ okC T τ c
  | [], _, _, _, _, h => by cases h
  | _ :: _, [], _, _, h, _ => h.elim
  | _ :: _, c :: _, 0, _, h, e => by
    cases e
    exact ⟨c, rfl, h.1⟩
  | _ :: _, _ :: _, k + 1, _, h, e => okCs_at (k := k) h.2 e
theorem okCs_len {T : List Nat} : ∀ {ts : List Nat} {cs : List zC}, okCs T ts cs → cs.length = ts.length
  | [], [], _ => rfl
  | [], _ :: _, h => h.elim
  | _ :: _, [], h => h.elim
  | _ :: ts, _ :: cs, h => by
    show cs.length + 1 = ts.length + 1
    rw [okCs_len h.2]
theorem okS_mono2 {T T' : List Nat} (hT : tExt T T') {s : tSl} {v : zV} (h : okS T s v) : okS T' s v := by
  unfold okS at h ⊢
  split at h
  · exact h
  · exact h
  · obtain ⟨q, e, h2⟩ := h
    exact ⟨q, e, hT _ _ h2⟩
  · trivial
theorem hOK_app2 {T ts : List Nat} {h cs : zH} (hok : hOK zty T h) (hl : h.length + cs.length ≤ 1000000) (hc : okCs (T ++ ts) ts cs) : hOK zty (T ++ ts) (h ++ cs) := by
  refine ⟨?_, ?_, fun q τ hq => ?_⟩
  · rw [List.length_append, List.length_append, hok.1, okCs_len hc]
  · rw [List.length_append]
    exact hl
  · by_cases e : q < T.length
    · rw [List.getElem?_append_left e] at hq
      obtain ⟨vs, h1, h2, h3⟩ := hok.2.2 q τ hq
      refine ⟨vs, ?_, h2, fun i v hv => okS_mono2 (tExt_app T ts) (h3 i v hv)⟩
      rw [List.getElem?_append_left (by rw [hok.1]; exact e)]
      exact h1
    · rw [List.getElem?_append_right (by omega)] at hq
      obtain ⟨c, h1, h2, h3, h4⟩ := okCs_at hc hq
      refine ⟨c.2, ?_, h3, h4⟩
      rw [List.getElem?_append_right (by rw [hok.1]; omega), hok.1, h1, ← h2]
theorem okC_rep {T : List Nat} {τ n : Nat} {tag : Nat} {v : zV} (h1 : (zty τ).1 = tag) (h2 : (zty τ).2.1 = n) (hv : ∀ i, okS T ((zty τ).2.2 i) v) : okC T τ (tag, List.replicate n v) := by
  refine ⟨h1.symm, by rw [List.length_replicate, h2], fun i w hw => ?_⟩
  have := List.eq_of_mem_replicate (List.mem_of_getElem? hw)
  rw [this]
  exact hv i
theorem okC_refs {T : List Nat} {τ n b σ : Nat} {tag : Nat} (h1 : (zty τ).1 = tag) (h2 : (zty τ).2.1 = n) (hs : ∀ i, (zty τ).2.2 i = (4, 0, 0, σ, false)) (hT : ∀ i, i < n → T[b + i]? = some σ) : okC T τ (tag, (List.range n).map (fun i => .inl (.ref (b + i)))) := by
  refine ⟨h1.symm, by rw [List.length_map, List.length_range, h2], fun i w hw => ?_⟩
  rw [List.getElem?_map] at hw
  have hi : i < n := by
    by_cases e : i < n
    · exact e
    · rw [List.getElem?_eq_none (by rw [List.length_range]; omega)] at hw
      cases hw
  rw [List.getElem?_range hi] at hw
  cases hw
  rw [hs]
  exact ⟨b + i, rfl, hT i hi⟩
theorem iTy_at (T : List Nat) {k τ : Nat} (h : iTys[k]? = some τ) : (T ++ iTys)[T.length + k]? = some τ := by
  rw [List.getElem?_append_right (by omega), Nat.add_sub_cancel_left]
  exact h
theorem iO0 (n : Nat) : iObj n 0 = [.inl .null, .inl .null, .inl .null, .inl .null, .inl .null, .inl .null, .inl .null, .inl (.int 0), .inl .null, .inl (.int 0), .inl (.int 0), .inl (.int 0), .inl (.int 0), .inl (.int 0), .inl (.int 0), .inl (.int 0), .inl .null, .inl (.int 0), .inl .null, .inl .null, .inl .null, .inl .null, .inl .null, .inl (.int 0), .inl .null, .inl .null, .inl .null, .inl .null, .inl (.int 0), .inl (.int 0), .inl (.int 0), .inl (.int 0), .inl (.int 0), .inl .null, .inl (.int 0), .inl .null, .inl (.int 0), .inl (.int 0), .inl (.int 0), .inl (.int 0), .inl (.int 0)] := rfl
theorem iO1 (n : Nat) : iObj n 1 = [.inl (.ref (n + 1)), .inl .null, .inl .null, .inl .null, .inl .null, .inl .null, .inl .null, .inl (.int 0), .inl .null, .inl (.int 0), .inl (.int 0), .inl (.int 0), .inl (.int 0), .inl (.int 0), .inl (.int 0), .inl (.int 0), .inl .null, .inl (.int 0), .inl .null, .inl .null, .inl .null, .inl .null, .inl .null, .inl (.int 0), .inl .null, .inl .null, .inl .null, .inl .null, .inl (.int 0), .inl (.int 0), .inl (.int 0), .inl (.int 0), .inl (.int 0), .inl .null, .inl (.int 0), .inl .null, .inl (.int 0), .inl (.int 0), .inl (.int 0), .inl (.int 0), .inl (.int 0)] := by
  rw [← iObj_set (n := n) (k := 0) (b := 0) (v := .inl (.ref (n + 1))) rfl, iO0]
  rfl
theorem iO2 (n : Nat) : iObj n 2 = [.inl (.ref (n + 1)), .inl (.ref (n + 2)), .inl .null, .inl .null, .inl .null, .inl .null, .inl .null, .inl (.int 0), .inl .null, .inl (.int 0), .inl (.int 0), .inl (.int 0), .inl (.int 0), .inl (.int 0), .inl (.int 0), .inl (.int 0), .inl .null, .inl (.int 0), .inl .null, .inl .null, .inl .null, .inl .null, .inl .null, .inl (.int 0), .inl .null, .inl .null, .inl .null, .inl .null, .inl (.int 0), .inl (.int 0), .inl (.int 0), .inl (.int 0), .inl (.int 0), .inl .null, .inl (.int 0), .inl .null, .inl (.int 0), .inl (.int 0), .inl (.int 0), .inl (.int 0), .inl (.int 0)] := by
  rw [← iObj_set (n := n) (k := 1) (b := 1) (v := .inl (.ref (n + 2))) rfl, iO1]
  rfl
theorem iO3 (n : Nat) : iObj n 3 = [.inl (.ref (n + 1)), .inl (.ref (n + 2)), .inl (.ref (n + 3)), .inl .null, .inl .null, .inl .null, .inl .null, .inl (.int 0), .inl .null, .inl (.int 0), .inl (.int 0), .inl (.int 0), .inl (.int 0), .inl (.int 0), .inl (.int 0), .inl (.int 0), .inl .null, .inl (.int 0), .inl .null, .inl .null, .inl .null, .inl .null, .inl .null, .inl (.int 0), .inl .null, .inl .null, .inl .null, .inl .null, .inl (.int 0), .inl (.int 0), .inl (.int 0), .inl (.int 0), .inl (.int 0), .inl .null, .inl (.int 0), .inl .null, .inl (.int 0), .inl (.int 0), .inl (.int 0), .inl (.int 0), .inl (.int 0)] := by
  rw [← iObj_set (n := n) (k := 2) (b := 2) (v := .inl (.ref (n + 3))) rfl, iO2]
  rfl
theorem iO4 (n : Nat) : iObj n 4 = [.inl (.ref (n + 1)), .inl (.ref (n + 2)), .inl (.ref (n + 3)), .inl (.ref (n + 4)), .inl .null, .inl .null, .inl .null, .inl (.int 0), .inl .null, .inl (.int 0), .inl (.int 0), .inl (.int 0), .inl (.int 0), .inl (.int 0), .inl (.int 0), .inl (.int 0), .inl .null, .inl (.int 0), .inl .null, .inl .null, .inl .null, .inl .null, .inl .null, .inl (.int 0), .inl .null, .inl .null, .inl .null, .inl .null, .inl (.int 0), .inl (.int 0), .inl (.int 0), .inl (.int 0), .inl (.int 0), .inl .null, .inl (.int 0), .inl .null, .inl (.int 0), .inl (.int 0), .inl (.int 0), .inl (.int 0), .inl (.int 0)] := by
  rw [← iObj_set (n := n) (k := 3) (b := 3) (v := .inl (.ref (n + 4))) rfl, iO3]
  rfl
theorem iO5 (n : Nat) : iObj n 5 = [.inl (.ref (n + 1)), .inl (.ref (n + 2)), .inl (.ref (n + 3)), .inl (.ref (n + 4)), .inl (.ref (n + 13)), .inl .null, .inl .null, .inl (.int 0), .inl .null, .inl (.int 0), .inl (.int 0), .inl (.int 0), .inl (.int 0), .inl (.int 0), .inl (.int 0), .inl (.int 0), .inl .null, .inl (.int 0), .inl .null, .inl .null, .inl .null, .inl .null, .inl .null, .inl (.int 0), .inl .null, .inl .null, .inl .null, .inl .null, .inl (.int 0), .inl (.int 0), .inl (.int 0), .inl (.int 0), .inl (.int 0), .inl .null, .inl (.int 0), .inl .null, .inl (.int 0), .inl (.int 0), .inl (.int 0), .inl (.int 0), .inl (.int 0)] := by
  rw [← iObj_set (n := n) (k := 4) (b := 4) (v := .inl (.ref (n + 13))) rfl, iO4]
  rfl
theorem iO6 (n : Nat) : iObj n 6 = [.inl (.ref (n + 1)), .inl (.ref (n + 2)), .inl (.ref (n + 3)), .inl (.ref (n + 4)), .inl (.ref (n + 13)), .inl (.ref (n + 14)), .inl .null, .inl (.int 0), .inl .null, .inl (.int 0), .inl (.int 0), .inl (.int 0), .inl (.int 0), .inl (.int 0), .inl (.int 0), .inl (.int 0), .inl .null, .inl (.int 0), .inl .null, .inl .null, .inl .null, .inl .null, .inl .null, .inl (.int 0), .inl .null, .inl .null, .inl .null, .inl .null, .inl (.int 0), .inl (.int 0), .inl (.int 0), .inl (.int 0), .inl (.int 0), .inl .null, .inl (.int 0), .inl .null, .inl (.int 0), .inl (.int 0), .inl (.int 0), .inl (.int 0), .inl (.int 0)] := by
  rw [← iObj_set (n := n) (k := 5) (b := 5) (v := .inl (.ref (n + 14))) rfl, iO5]
  rfl
theorem iO7 (n : Nat) : iObj n 7 = [.inl (.ref (n + 1)), .inl (.ref (n + 2)), .inl (.ref (n + 3)), .inl (.ref (n + 4)), .inl (.ref (n + 13)), .inl (.ref (n + 14)), .inl (.ref (n + 15)), .inl (.int 0), .inl .null, .inl (.int 0), .inl (.int 0), .inl (.int 0), .inl (.int 0), .inl (.int 0), .inl (.int 0), .inl (.int 0), .inl .null, .inl (.int 0), .inl .null, .inl .null, .inl .null, .inl .null, .inl .null, .inl (.int 0), .inl .null, .inl .null, .inl .null, .inl .null, .inl (.int 0), .inl (.int 0), .inl (.int 0), .inl (.int 0), .inl (.int 0), .inl .null, .inl (.int 0), .inl .null, .inl (.int 0), .inl (.int 0), .inl (.int 0), .inl (.int 0), .inl (.int 0)] := by
  rw [← iObj_set (n := n) (k := 6) (b := 6) (v := .inl (.ref (n + 15))) rfl, iO6]
  rfl
theorem iO8 (n : Nat) : iObj n 8 = [.inl (.ref (n + 1)), .inl (.ref (n + 2)), .inl (.ref (n + 3)), .inl (.ref (n + 4)), .inl (.ref (n + 13)), .inl (.ref (n + 14)), .inl (.ref (n + 15)), .inl (.int 0), .inl (.ref (n + 16)), .inl (.int 0), .inl (.int 0), .inl (.int 0), .inl (.int 0), .inl (.int 0), .inl (.int 0), .inl (.int 0), .inl .null, .inl (.int 0), .inl .null, .inl .null, .inl .null, .inl .null, .inl .null, .inl (.int 0), .inl .null, .inl .null, .inl .null, .inl .null, .inl (.int 0), .inl (.int 0), .inl (.int 0), .inl (.int 0), .inl (.int 0), .inl .null, .inl (.int 0), .inl .null, .inl (.int 0), .inl (.int 0), .inl (.int 0), .inl (.int 0), .inl (.int 0)] := by
  rw [← iObj_set (n := n) (k := 7) (b := 8) (v := .inl (.ref (n + 16))) rfl, iO7]
  rfl
theorem iO9 (n : Nat) : iObj n 9 = [.inl (.ref (n + 1)), .inl (.ref (n + 2)), .inl (.ref (n + 3)), .inl (.ref (n + 4)), .inl (.ref (n + 13)), .inl (.ref (n + 14)), .inl (.ref (n + 15)), .inl (.int 0), .inl (.ref (n + 16)), .inl (.int 20), .inl (.int 0), .inl (.int 0), .inl (.int 0), .inl (.int 0), .inl (.int 0), .inl (.int 0), .inl .null, .inl (.int 0), .inl .null, .inl .null, .inl .null, .inl .null, .inl .null, .inl (.int 0), .inl .null, .inl .null, .inl .null, .inl .null, .inl (.int 0), .inl (.int 0), .inl (.int 0), .inl (.int 0), .inl (.int 0), .inl .null, .inl (.int 0), .inl .null, .inl (.int 0), .inl (.int 0), .inl (.int 0), .inl (.int 0), .inl (.int 0)] := by
  rw [← iObj_set (n := n) (k := 8) (b := 9) (v := .inl (.int 20)) rfl, iO8]
  rfl
theorem iO10 (n : Nat) : iObj n 10 = [.inl (.ref (n + 1)), .inl (.ref (n + 2)), .inl (.ref (n + 3)), .inl (.ref (n + 4)), .inl (.ref (n + 13)), .inl (.ref (n + 14)), .inl (.ref (n + 15)), .inl (.int 0), .inl (.ref (n + 16)), .inl (.int 20), .inl (.int 5), .inl (.int 0), .inl (.int 0), .inl (.int 0), .inl (.int 0), .inl (.int 0), .inl .null, .inl (.int 0), .inl .null, .inl .null, .inl .null, .inl .null, .inl .null, .inl (.int 0), .inl .null, .inl .null, .inl .null, .inl .null, .inl (.int 0), .inl (.int 0), .inl (.int 0), .inl (.int 0), .inl (.int 0), .inl .null, .inl (.int 0), .inl .null, .inl (.int 0), .inl (.int 0), .inl (.int 0), .inl (.int 0), .inl (.int 0)] := by
  rw [← iObj_set (n := n) (k := 9) (b := 10) (v := .inl (.int 5)) rfl, iO9]
  rfl
theorem iO11 (n : Nat) : iObj n 11 = [.inl (.ref (n + 1)), .inl (.ref (n + 2)), .inl (.ref (n + 3)), .inl (.ref (n + 4)), .inl (.ref (n + 13)), .inl (.ref (n + 14)), .inl (.ref (n + 15)), .inl (.int 0), .inl (.ref (n + 16)), .inl (.int 20), .inl (.int 5), .inl (.int 10), .inl (.int 0), .inl (.int 0), .inl (.int 0), .inl (.int 0), .inl .null, .inl (.int 0), .inl .null, .inl .null, .inl .null, .inl .null, .inl .null, .inl (.int 0), .inl .null, .inl .null, .inl .null, .inl .null, .inl (.int 0), .inl (.int 0), .inl (.int 0), .inl (.int 0), .inl (.int 0), .inl .null, .inl (.int 0), .inl .null, .inl (.int 0), .inl (.int 0), .inl (.int 0), .inl (.int 0), .inl (.int 0)] := by
  rw [← iObj_set (n := n) (k := 10) (b := 11) (v := .inl (.int 10)) rfl, iO10]
  rfl
theorem iO12 (n : Nat) : iObj n 12 = [.inl (.ref (n + 1)), .inl (.ref (n + 2)), .inl (.ref (n + 3)), .inl (.ref (n + 4)), .inl (.ref (n + 13)), .inl (.ref (n + 14)), .inl (.ref (n + 15)), .inl (.int 0), .inl (.ref (n + 16)), .inl (.int 20), .inl (.int 5), .inl (.int 10), .inl (.int 40), .inl (.int 0), .inl (.int 0), .inl (.int 0), .inl .null, .inl (.int 0), .inl .null, .inl .null, .inl .null, .inl .null, .inl .null, .inl (.int 0), .inl .null, .inl .null, .inl .null, .inl .null, .inl (.int 0), .inl (.int 0), .inl (.int 0), .inl (.int 0), .inl (.int 0), .inl .null, .inl (.int 0), .inl .null, .inl (.int 0), .inl (.int 0), .inl (.int 0), .inl (.int 0), .inl (.int 0)] := by
  rw [← iObj_set (n := n) (k := 11) (b := 12) (v := .inl (.int 40)) rfl, iO11]
  rfl
theorem iO13 (n : Nat) : iObj n 13 = [.inl (.ref (n + 1)), .inl (.ref (n + 2)), .inl (.ref (n + 3)), .inl (.ref (n + 4)), .inl (.ref (n + 13)), .inl (.ref (n + 14)), .inl (.ref (n + 15)), .inl (.int 0), .inl (.ref (n + 16)), .inl (.int 20), .inl (.int 5), .inl (.int 10), .inl (.int 40), .inl (.int 0), .inl (.int 0), .inl (.int 1), .inl .null, .inl (.int 0), .inl .null, .inl .null, .inl .null, .inl .null, .inl .null, .inl (.int 0), .inl .null, .inl .null, .inl .null, .inl .null, .inl (.int 0), .inl (.int 0), .inl (.int 0), .inl (.int 0), .inl (.int 0), .inl .null, .inl (.int 0), .inl .null, .inl (.int 0), .inl (.int 0), .inl (.int 0), .inl (.int 0), .inl (.int 0)] := by
  rw [← iObj_set (n := n) (k := 12) (b := 15) (v := .inl (.int 1)) rfl, iO12]
  rfl
theorem iO14 (n : Nat) : iObj n 14 = [.inl (.ref (n + 1)), .inl (.ref (n + 2)), .inl (.ref (n + 3)), .inl (.ref (n + 4)), .inl (.ref (n + 13)), .inl (.ref (n + 14)), .inl (.ref (n + 15)), .inl (.int 0), .inl (.ref (n + 16)), .inl (.int 20), .inl (.int 5), .inl (.int 10), .inl (.int 40), .inl (.int 0), .inl (.int 0), .inl (.int 1), .inl (.ref (n + 17)), .inl (.int 0), .inl .null, .inl .null, .inl .null, .inl .null, .inl .null, .inl (.int 0), .inl .null, .inl .null, .inl .null, .inl .null, .inl (.int 0), .inl (.int 0), .inl (.int 0), .inl (.int 0), .inl (.int 0), .inl .null, .inl (.int 0), .inl .null, .inl (.int 0), .inl (.int 0), .inl (.int 0), .inl (.int 0), .inl (.int 0)] := by
  rw [← iObj_set (n := n) (k := 13) (b := 16) (v := .inl (.ref (n + 17))) rfl, iO13]
  rfl
theorem iO15 (n : Nat) : iObj n 15 = [.inl (.ref (n + 1)), .inl (.ref (n + 2)), .inl (.ref (n + 3)), .inl (.ref (n + 4)), .inl (.ref (n + 13)), .inl (.ref (n + 14)), .inl (.ref (n + 15)), .inl (.int 0), .inl (.ref (n + 16)), .inl (.int 20), .inl (.int 5), .inl (.int 10), .inl (.int 40), .inl (.int 0), .inl (.int 0), .inl (.int 1), .inl (.ref (n + 17)), .inl (.int 0), .inl (.ref (n + 18)), .inl .null, .inl .null, .inl .null, .inl .null, .inl (.int 0), .inl .null, .inl .null, .inl .null, .inl .null, .inl (.int 0), .inl (.int 0), .inl (.int 0), .inl (.int 0), .inl (.int 0), .inl .null, .inl (.int 0), .inl .null, .inl (.int 0), .inl (.int 0), .inl (.int 0), .inl (.int 0), .inl (.int 0)] := by
  rw [← iObj_set (n := n) (k := 14) (b := 18) (v := .inl (.ref (n + 18))) rfl, iO14]
  rfl
theorem iO16 (n : Nat) : iObj n 16 = [.inl (.ref (n + 1)), .inl (.ref (n + 2)), .inl (.ref (n + 3)), .inl (.ref (n + 4)), .inl (.ref (n + 13)), .inl (.ref (n + 14)), .inl (.ref (n + 15)), .inl (.int 0), .inl (.ref (n + 16)), .inl (.int 20), .inl (.int 5), .inl (.int 10), .inl (.int 40), .inl (.int 0), .inl (.int 0), .inl (.int 1), .inl (.ref (n + 17)), .inl (.int 0), .inl (.ref (n + 18)), .inl (.ref (n + 19)), .inl .null, .inl .null, .inl .null, .inl (.int 0), .inl .null, .inl .null, .inl .null, .inl .null, .inl (.int 0), .inl (.int 0), .inl (.int 0), .inl (.int 0), .inl (.int 0), .inl .null, .inl (.int 0), .inl .null, .inl (.int 0), .inl (.int 0), .inl (.int 0), .inl (.int 0), .inl (.int 0)] := by
  rw [← iObj_set (n := n) (k := 15) (b := 19) (v := .inl (.ref (n + 19))) rfl, iO15]
  rfl
theorem iO17 (n : Nat) : iObj n 17 = [.inl (.ref (n + 1)), .inl (.ref (n + 2)), .inl (.ref (n + 3)), .inl (.ref (n + 4)), .inl (.ref (n + 13)), .inl (.ref (n + 14)), .inl (.ref (n + 15)), .inl (.int 0), .inl (.ref (n + 16)), .inl (.int 20), .inl (.int 5), .inl (.int 10), .inl (.int 40), .inl (.int 0), .inl (.int 0), .inl (.int 1), .inl (.ref (n + 17)), .inl (.int 0), .inl (.ref (n + 18)), .inl (.ref (n + 19)), .inl (.ref (n + 20)), .inl .null, .inl .null, .inl (.int 0), .inl .null, .inl .null, .inl .null, .inl .null, .inl (.int 0), .inl (.int 0), .inl (.int 0), .inl (.int 0), .inl (.int 0), .inl .null, .inl (.int 0), .inl .null, .inl (.int 0), .inl (.int 0), .inl (.int 0), .inl (.int 0), .inl (.int 0)] := by
  rw [← iObj_set (n := n) (k := 16) (b := 20) (v := .inl (.ref (n + 20))) rfl, iO16]
  rfl
theorem iO18 (n : Nat) : iObj n 18 = [.inl (.ref (n + 1)), .inl (.ref (n + 2)), .inl (.ref (n + 3)), .inl (.ref (n + 4)), .inl (.ref (n + 13)), .inl (.ref (n + 14)), .inl (.ref (n + 15)), .inl (.int 0), .inl (.ref (n + 16)), .inl (.int 20), .inl (.int 5), .inl (.int 10), .inl (.int 40), .inl (.int 0), .inl (.int 0), .inl (.int 1), .inl (.ref (n + 17)), .inl (.int 0), .inl (.ref (n + 18)), .inl (.ref (n + 19)), .inl (.ref (n + 20)), .inl (.ref (n + 21)), .inl .null, .inl (.int 0), .inl .null, .inl .null, .inl .null, .inl .null, .inl (.int 0), .inl (.int 0), .inl (.int 0), .inl (.int 0), .inl (.int 0), .inl .null, .inl (.int 0), .inl .null, .inl (.int 0), .inl (.int 0), .inl (.int 0), .inl (.int 0), .inl (.int 0)] := by
  rw [← iObj_set (n := n) (k := 17) (b := 21) (v := .inl (.ref (n + 21))) rfl, iO17]
  rfl
theorem iO19 (n : Nat) : iObj n 19 = [.inl (.ref (n + 1)), .inl (.ref (n + 2)), .inl (.ref (n + 3)), .inl (.ref (n + 4)), .inl (.ref (n + 13)), .inl (.ref (n + 14)), .inl (.ref (n + 15)), .inl (.int 0), .inl (.ref (n + 16)), .inl (.int 20), .inl (.int 5), .inl (.int 10), .inl (.int 40), .inl (.int 0), .inl (.int 0), .inl (.int 1), .inl (.ref (n + 17)), .inl (.int 0), .inl (.ref (n + 18)), .inl (.ref (n + 19)), .inl (.ref (n + 20)), .inl (.ref (n + 21)), .inl (.ref (n + 22)), .inl (.int 0), .inl .null, .inl .null, .inl .null, .inl .null, .inl (.int 0), .inl (.int 0), .inl (.int 0), .inl (.int 0), .inl (.int 0), .inl .null, .inl (.int 0), .inl .null, .inl (.int 0), .inl (.int 0), .inl (.int 0), .inl (.int 0), .inl (.int 0)] := by
  rw [← iObj_set (n := n) (k := 18) (b := 22) (v := .inl (.ref (n + 22))) rfl, iO18]
  rfl
theorem iO20 (n : Nat) : iObj n 20 = [.inl (.ref (n + 1)), .inl (.ref (n + 2)), .inl (.ref (n + 3)), .inl (.ref (n + 4)), .inl (.ref (n + 13)), .inl (.ref (n + 14)), .inl (.ref (n + 15)), .inl (.int 0), .inl (.ref (n + 16)), .inl (.int 20), .inl (.int 5), .inl (.int 10), .inl (.int 40), .inl (.int 0), .inl (.int 0), .inl (.int 1), .inl (.ref (n + 17)), .inl (.int 0), .inl (.ref (n + 18)), .inl (.ref (n + 19)), .inl (.ref (n + 20)), .inl (.ref (n + 21)), .inl (.ref (n + 22)), .inl (.int 0), .inl (.ref (n + 23)), .inl .null, .inl .null, .inl .null, .inl (.int 0), .inl (.int 0), .inl (.int 0), .inl (.int 0), .inl (.int 0), .inl .null, .inl (.int 0), .inl .null, .inl (.int 0), .inl (.int 0), .inl (.int 0), .inl (.int 0), .inl (.int 0)] := by
  rw [← iObj_set (n := n) (k := 19) (b := 24) (v := .inl (.ref (n + 23))) rfl, iO19]
  rfl
theorem iO21 (n : Nat) : iObj n 21 = [.inl (.ref (n + 1)), .inl (.ref (n + 2)), .inl (.ref (n + 3)), .inl (.ref (n + 4)), .inl (.ref (n + 13)), .inl (.ref (n + 14)), .inl (.ref (n + 15)), .inl (.int 0), .inl (.ref (n + 16)), .inl (.int 20), .inl (.int 5), .inl (.int 10), .inl (.int 40), .inl (.int 0), .inl (.int 0), .inl (.int 1), .inl (.ref (n + 17)), .inl (.int 0), .inl (.ref (n + 18)), .inl (.ref (n + 19)), .inl (.ref (n + 20)), .inl (.ref (n + 21)), .inl (.ref (n + 22)), .inl (.int 0), .inl (.ref (n + 23)), .inl (.ref (n + 24)), .inl .null, .inl .null, .inl (.int 0), .inl (.int 0), .inl (.int 0), .inl (.int 0), .inl (.int 0), .inl .null, .inl (.int 0), .inl .null, .inl (.int 0), .inl (.int 0), .inl (.int 0), .inl (.int 0), .inl (.int 0)] := by
  rw [← iObj_set (n := n) (k := 20) (b := 25) (v := .inl (.ref (n + 24))) rfl, iO20]
  rfl
theorem iO22 (n : Nat) : iObj n 22 = [.inl (.ref (n + 1)), .inl (.ref (n + 2)), .inl (.ref (n + 3)), .inl (.ref (n + 4)), .inl (.ref (n + 13)), .inl (.ref (n + 14)), .inl (.ref (n + 15)), .inl (.int 0), .inl (.ref (n + 16)), .inl (.int 20), .inl (.int 5), .inl (.int 10), .inl (.int 40), .inl (.int 0), .inl (.int 0), .inl (.int 1), .inl (.ref (n + 17)), .inl (.int 0), .inl (.ref (n + 18)), .inl (.ref (n + 19)), .inl (.ref (n + 20)), .inl (.ref (n + 21)), .inl (.ref (n + 22)), .inl (.int 0), .inl (.ref (n + 23)), .inl (.ref (n + 24)), .inl .null, .inl .null, .inl (.int 0), .inl (.int 0), .inl (.int 0), .inl (.int 0), .inl (.int 0), .inl (.ref (n + 29)), .inl (.int 0), .inl .null, .inl (.int 0), .inl (.int 0), .inl (.int 0), .inl (.int 0), .inl (.int 0)] := by
  rw [← iObj_set (n := n) (k := 21) (b := 33) (v := .inl (.ref (n + 29))) rfl, iO21]
  rfl
theorem iObj_ok (T : List Nat) (i : Nat) (v : zV) (hv : (iObj T.length 22)[i]? = some v) : okS (T ++ iTys) ((zty 6).2.2 i) v := by
  rw [iO22] at hv
  match i, hv with
  | 0, hv =>
    obtain rfl := Option.some.inj hv
    exact ⟨_, rfl, iTy_at T (k := 1) rfl⟩
  | 1, hv =>
    obtain rfl := Option.some.inj hv
    exact ⟨_, rfl, iTy_at T (k := 2) rfl⟩
  | 2, hv =>
    obtain rfl := Option.some.inj hv
    exact ⟨_, rfl, iTy_at T (k := 3) rfl⟩
  | 3, hv =>
    obtain rfl := Option.some.inj hv
    exact ⟨_, rfl, iTy_at T (k := 4) rfl⟩
  | 4, hv =>
    obtain rfl := Option.some.inj hv
    exact ⟨_, rfl, iTy_at T (k := 13) rfl⟩
  | 5, hv =>
    obtain rfl := Option.some.inj hv
    exact ⟨_, rfl, iTy_at T (k := 14) rfl⟩
  | 6, hv =>
    obtain rfl := Option.some.inj hv
    exact ⟨_, rfl, iTy_at T (k := 15) rfl⟩
  | 7, hv =>
    obtain rfl := Option.some.inj hv
    exact ⟨0, rfl, by show (0 : Int) ≤ 0; decide, by show (0 : Int) ≤ 250; decide⟩
  | 8, hv =>
    obtain rfl := Option.some.inj hv
    exact ⟨_, rfl, iTy_at T (k := 16) rfl⟩
  | 9, hv =>
    obtain rfl := Option.some.inj hv
    exact ⟨20, rfl, by show (1 : Int) ≤ 20; decide, by show (20 : Int) ≤ 60; decide⟩
  | 10, hv =>
    obtain rfl := Option.some.inj hv
    exact ⟨5, rfl, by show (2 : Int) ≤ 5; decide, by show (5 : Int) ≤ 10; decide⟩
  | 11, hv =>
    obtain rfl := Option.some.inj hv
    exact ⟨10, rfl, by show (1 : Int) ≤ 10; decide, by show (10 : Int) ≤ 495; decide⟩
  | 12, hv =>
    obtain rfl := Option.some.inj hv
    exact ⟨40, rfl, by show (1 : Int) ≤ 40; decide, by show (40 : Int) ≤ 495; decide⟩
  | 13, hv =>
    obtain rfl := Option.some.inj hv
    exact ⟨0, rfl, by show ((-2147483648) : Int) ≤ 0; decide, by show (0 : Int) ≤ 2147483647; decide⟩
  | 14, hv =>
    obtain rfl := Option.some.inj hv
    exact ⟨0, rfl, by show ((-2147483648) : Int) ≤ 0; decide, by show (0 : Int) ≤ 2147483647; decide⟩
  | 15, hv =>
    obtain rfl := Option.some.inj hv
    exact ⟨1, rfl, by show ((-2147483648) : Int) ≤ 1; decide, by show (1 : Int) ≤ 2147483647; decide⟩
  | 16, hv =>
    obtain rfl := Option.some.inj hv
    exact ⟨_, rfl, iTy_at T (k := 17) rfl⟩
  | 17, hv =>
    obtain rfl := Option.some.inj hv
    exact ⟨0, rfl, by show (0 : Int) ≤ 0; decide, by show (0 : Int) ≤ 8; decide⟩
  | 18, hv =>
    obtain rfl := Option.some.inj hv
    exact ⟨_, rfl, iTy_at T (k := 18) rfl⟩
  | 19, hv =>
    obtain rfl := Option.some.inj hv
    exact ⟨_, rfl, iTy_at T (k := 19) rfl⟩
  | 20, hv =>
    obtain rfl := Option.some.inj hv
    exact ⟨_, rfl, iTy_at T (k := 20) rfl⟩
  | 21, hv =>
    obtain rfl := Option.some.inj hv
    exact ⟨_, rfl, iTy_at T (k := 21) rfl⟩
  | 22, hv =>
    obtain rfl := Option.some.inj hv
    exact ⟨_, rfl, iTy_at T (k := 22) rfl⟩
  | 23, hv =>
    obtain rfl := Option.some.inj hv
    exact ⟨0, rfl, by show (0 : Int) ≤ 0; decide, by show (0 : Int) ≤ 4; decide⟩
  | 24, hv =>
    obtain rfl := Option.some.inj hv
    exact ⟨_, rfl, iTy_at T (k := 23) rfl⟩
  | 25, hv =>
    obtain rfl := Option.some.inj hv
    exact ⟨_, rfl, iTy_at T (k := 24) rfl⟩
  | 26, hv =>
    obtain rfl := Option.some.inj hv
    exact trivial
  | 27, hv =>
    obtain rfl := Option.some.inj hv
    exact trivial
  | 28, hv =>
    obtain rfl := Option.some.inj hv
    exact ⟨0, rfl, by show (0 : Int) ≤ 0; decide, by show (0 : Int) ≤ 250; decide⟩
  | 29, hv =>
    obtain rfl := Option.some.inj hv
    exact ⟨0, rfl, by show (0 : Int) ≤ 0; decide, by show (0 : Int) ≤ 4; decide⟩
  | 30, hv =>
    obtain rfl := Option.some.inj hv
    exact ⟨0, rfl, by show (0 : Int) ≤ 0; decide, by show (0 : Int) ≤ 250; decide⟩
  | 31, hv =>
    obtain rfl := Option.some.inj hv
    exact ⟨0, rfl, by show ((-2147483648) : Int) ≤ 0; decide, by show (0 : Int) ≤ 2147483647; decide⟩
  | 32, hv =>
    obtain rfl := Option.some.inj hv
    exact ⟨0, rfl, by show ((-2147483648) : Int) ≤ 0; decide, by show (0 : Int) ≤ 2147483647; decide⟩
  | 33, hv =>
    obtain rfl := Option.some.inj hv
    exact ⟨_, rfl, iTy_at T (k := 29) rfl⟩
  | 34, hv =>
    obtain rfl := Option.some.inj hv
    exact ⟨0, rfl, by show ((-2147483648) : Int) ≤ 0; decide, by show (0 : Int) ≤ 2147483647; decide⟩
  | 35, hv =>
    obtain rfl := Option.some.inj hv
    exact trivial
  | 36, hv =>
    obtain rfl := Option.some.inj hv
    exact ⟨0, rfl, by show (0 : Int) ≤ 0; decide, by show (0 : Int) ≤ 3; decide⟩
  | 37, hv =>
    obtain rfl := Option.some.inj hv
    exact ⟨0, rfl, by show ((-2147483648) : Int) ≤ 0; decide, by show (0 : Int) ≤ 2147483647; decide⟩
  | 38, hv =>
    obtain rfl := Option.some.inj hv
    exact ⟨0, rfl, by show (0 : Int) ≤ 0; decide, by show (0 : Int) ≤ 60; decide⟩
  | 39, hv =>
    obtain rfl := Option.some.inj hv
    exact ⟨0, rfl, by show (0 : Int) ≤ 0; decide, by show (0 : Int) ≤ 61; decide⟩
  | 40, hv =>
    obtain rfl := Option.some.inj hv
    exact ⟨0, rfl, by show ((-2147483648) : Int) ≤ 0; decide, by show (0 : Int) ≤ 2147483647; decide⟩
  | _ + 41, hv => cases hv
theorem okC_obj (T : List Nat) : okC (T ++ iTys) 6 (5, iObj T.length 22) := by
  have hv := iObj_ok T
  have hl := iObj_len T.length 22
  revert hv hl
  generalize iObj T.length 22 = ob
  intro hv hl
  exact ⟨rfl, hl, hv⟩
theorem iKey (T : List Nat) : ∀ o ∈ pOff, (iObj T.length 22)[o.1]? = some (.inl (.ref (T.length + o.2.1))) := by
  rw [iO22]
  simp only [pOff, List.forall_mem_cons]
  exact ⟨rfl, rfl, rfl, rfl, rfl, rfl, rfl, rfl, rfl, rfl, rfl, rfl, rfl, rfl, rfl, rfl, rfl, fun _ h => absurd h List.not_mem_nil⟩
theorem iKey17 (n : Nat) : (iObj n 22)[17]? = some (.inl (.int 0)) := by
  rw [iO22]
  rfl
theorem iCell3 (n : Nat) : (iCells n)[3]? = some (13, (List.range 8).map (fun i => .inl (.ref (n + 5 + i)))) := rfl
theorem iCell23 (n : Nat) : (iCells n)[23]? = some (14, (List.range 4).map (fun i => .inl (.ref (n + 25 + i)))) := rfl
theorem iAll_ok (T : List Nat) : okCs (T ++ iTys) iTys ((5, iObj T.length 22) :: iCells T.length) := by
  have h0 := okC_obj T
  revert h0
  generalize iObj T.length 22 = ob
  intro h0
  refine ⟨h0, okC_rep rfl rfl (fun _ => ⟨0, rfl, by show (0 : Int) ≤ 0; decide, by show (0 : Int) ≤ 2; decide⟩), okC_rep rfl rfl (fun _ => ⟨0, rfl, by show (0 : Int) ≤ 0; decide, by show (0 : Int) ≤ 4; decide⟩), okC_rep rfl rfl (fun _ => ⟨0, rfl, by show (0 : Int) ≤ 0; decide, by show (0 : Int) ≤ 40; decide⟩), okC_refs (b := T.length + 5) rfl rfl (fun _ => rfl) (fun i hi => ?_), okC_rep rfl rfl (fun _ => ⟨_, rfl⟩), okC_rep rfl rfl (fun _ => ⟨_, rfl⟩), okC_rep rfl rfl (fun _ => ⟨_, rfl⟩), okC_rep rfl rfl (fun _ => ⟨_, rfl⟩), okC_rep rfl rfl (fun _ => ⟨_, rfl⟩), okC_rep rfl rfl (fun _ => ⟨_, rfl⟩), okC_rep rfl rfl (fun _ => ⟨_, rfl⟩), okC_rep rfl rfl (fun _ => ⟨_, rfl⟩), okC_rep rfl rfl (fun _ => ⟨_, rfl⟩), okC_rep rfl rfl (fun _ => ⟨0, rfl, by show ((-1) : Int) ≤ 0; decide, by show (0 : Int) ≤ 7; decide⟩), okC_rep rfl rfl (fun _ => ⟨0, rfl, by show (0 : Int) ≤ 0; decide, by show (0 : Int) ≤ 255; decide⟩), okC_rep rfl rfl (fun _ => ⟨0, rfl, by show ((-2147483648) : Int) ≤ 0; decide, by show (0 : Int) ≤ 2147483647; decide⟩), okC_rep rfl rfl (fun _ => ⟨0, rfl, by show (0 : Int) ≤ 0; decide, by show (0 : Int) ≤ 1; decide⟩), okC_rep rfl rfl (fun _ => ⟨0, rfl, by show (0 : Int) ≤ 0; decide, by show (0 : Int) ≤ 5; decide⟩), okC_rep rfl rfl (fun _ => ⟨0, rfl, by show (0 : Int) ≤ 0; decide, by show (0 : Int) ≤ 60; decide⟩), okC_rep rfl rfl (fun _ => ⟨0, rfl, by show (0 : Int) ≤ 0; decide, by show (0 : Int) ≤ 9; decide⟩), okC_rep rfl rfl (fun _ => ⟨0, rfl, by show ((-2147483648) : Int) ≤ 0; decide, by show (0 : Int) ≤ 2147483647; decide⟩), okC_rep rfl rfl (fun _ => ⟨0, rfl, by show ((-1) : Int) ≤ 0; decide, by show (0 : Int) ≤ 3; decide⟩), okC_rep rfl rfl (fun _ => ⟨0, rfl, by show ((-2147483648) : Int) ≤ 0; decide, by show (0 : Int) ≤ 2147483647; decide⟩), okC_refs (b := T.length + 25) rfl rfl (fun _ => rfl) (fun i hi => ?_), okC_rep rfl rfl (fun _ => ⟨0, rfl, by show ((-2147483648) : Int) ≤ 0; decide, by show (0 : Int) ≤ 2147483647; decide⟩), okC_rep rfl rfl (fun _ => ⟨0, rfl, by show ((-2147483648) : Int) ≤ 0; decide, by show (0 : Int) ≤ 2147483647; decide⟩), okC_rep rfl rfl (fun _ => ⟨0, rfl, by show ((-2147483648) : Int) ≤ 0; decide, by show (0 : Int) ≤ 2147483647; decide⟩), okC_rep rfl rfl (fun _ => ⟨0, rfl, by show ((-2147483648) : Int) ≤ 0; decide, by show (0 : Int) ≤ 2147483647; decide⟩), okC_rep rfl rfl (fun _ => ⟨0, rfl, by show ((-2147483648) : Int) ≤ 0; decide, by show (0 : Int) ≤ 2147483647; decide⟩), trivial⟩
  · have key : ∀ j, j < 8 → iTys[5 + j]? = some 28 := by decide
    rw [Nat.add_assoc]
    exact iTy_at T (key i hi)
  · have key : ∀ j, j < 4 → iTys[25 + j]? = some 39 := by decide
    rw [Nat.add_assoc]
    exact iTy_at T (key i hi)
/-- a new object of the reference's: its place in the heap, its types, and Φ -/
theorem new_ok {P : pP} {N : Nat} {T : List Nat} {h : zH} (ok : wOK (zPhi P) N T h) (hN : h.length + 30 ≤ N) (h6 : N ≤ 1000000) : wOK (zPhi P) N (T ++ iTys) (iHp h 22 29) ∧ (T ++ iTys)[h.length]? = some 6 ∧ (∀ p i : Nat, p < h.length → hget (iHp h 22 29) p i = hget h p i) := by
  have el : h.length = T.length := ok.1.1
  have hkey := iKey T
  have h17 := iKey17 T.length
  have hall := iAll_ok T
  have e1 : iHp h 22 29 = h ++ ((5, iObj T.length 22) :: iCells T.length) := by
    unfold iHp
    rw [el, show (iCells T.length).take 29 = iCells T.length from List.take_of_length_le (by show 29 ≤ 29; decide)]
  have elen := iHp_len h 22 29 (by decide)
  revert hkey h17 hall e1 elen
  generalize iHp h 22 29 = H2
  generalize iObj T.length 22 = ob
  intro hkey h17 hall e1 elen
  have old : ∀ p i : Nat, p < h.length → hget (H2) p i = hget h p i := fun p i hp => by
    rw [e1]
    unfold hget
    rw [List.getElem?_append_left hp]
  have t6 : (T ++ iTys)[h.length]? = some 6 := by
    rw [el]
    exact iTy_at T (k := 0) rfl
  have hk : hOK zty (T ++ iTys) (H2) := by
    rw [e1]
    refine hOK_app2 ok.1 ?_ hall
    show h.length + 30 ≤ 1000000
    omega
  have nw : ∀ (k i : Nat) (c : zC), ((5, ob) :: iCells T.length)[k]? = some c → hget (H2) (h.length + k) i = c.2[i]? := fun k i c hc => by
    rw [e1]
    unfold hget
    rw [List.getElem?_append_right (by omega), Nat.add_sub_cancel_left, hc]
  have lt : ∀ p σ : Nat, T[p]? = some σ → p < h.length := fun p σ hp => by
    rw [el]
    exact (List.getElem?_eq_some_iff.mp hp).1
  have n5 : ∀ q τ : Nat, (T ++ iTys)[q]? = some τ → T[q]? = some τ ∨ (T.length ≤ q ∧ iTys[q - T.length]? = some τ) := fun q τ hq => by
    by_cases e : q < T.length
    · rw [List.getElem?_append_left e] at hq
      exact Or.inl hq
    · rw [List.getElem?_append_right (by omega)] at hq
      exact Or.inr ⟨by omega, hq⟩
  have no : ∀ k τ : Nat, iTys[k]? = some τ → τ ≠ 2 ∧ τ ≠ 4 ∧ τ ≠ 5 ∧ (τ = 6 → k = 0) := fun k τ hk => by
    have key : ∀ k, k < 30 → ∀ τ, iTys[k]? = some τ → τ ≠ 2 ∧ τ ≠ 4 ∧ τ ≠ 5 ∧ (τ = 6 → k = 0) := by
      intro k hk τ hτ
      have : (iTys.map (fun τ => decide (τ ≠ 2 ∧ τ ≠ 4 ∧ τ ≠ 5))).all id = true := by decide
      have hm := List.mem_of_getElem? hτ
      have h0 : ∀ τ ∈ iTys, τ ≠ 2 ∧ τ ≠ 4 ∧ τ ≠ 5 := by decide
      have h1 : ∀ k, k < 30 → 1 ≤ k → iTys[k]? ≠ some 6 := by decide
      refine ⟨(h0 τ hm).1, (h0 τ hm).2.1, (h0 τ hm).2.2, fun e => ?_⟩
      subst e
      by_cases e0 : k = 0
      · exact e0
      · exact absurd hτ (h1 k hk (by omega))
    exact key k (List.getElem?_eq_some_iff.mp hk).1 τ hk
  obtain ⟨lay, hj⟩ := ok.2.1.2.1 49 5 ok.2.1.1.2.2.1 (Or.inl rfl)
  obtain ⟨a1, a2, a3, a4, a5, a6⟩ := ok.2.1.1
  obtain ⟨b1, b2⟩ := p_arr ok.2.1
  obtain ⟨-, -, c, d, e, f, g, k1, k2, k3⟩ := id ok.2.1
  have o49 : ∀ i, hget (H2) 49 i = hget h 49 i := fun i => old _ _ (lt _ _ a3)
  have lay2 : pLay (T ++ iTys) (H2) h.length := by
    refine ⟨fun o ho => ?_, fun i hi => ?_, fun i hi => ?_⟩
    · have key : ∀ o ∈ pOff, iTys[o.2.1]? = some o.2.2 := by decide
      refine ⟨?_, by rw [el]; exact iTy_at T (key o ho)⟩
      have := nw 0 o.1 (5, ob) rfl
      rw [Nat.add_zero] at this
      rw [this, el]
      exact hkey o ho
    · refine ⟨?_, by rw [el, show T.length + (5 + i) = T.length + (5 + i) from rfl]; exact iTy_at T (by have key : ∀ i, i < 8 → iTys[5 + i]? = some 28 := by decide
                                                                                                        exact key i hi)⟩
      have := nw 4 i _ (iCell3 T.length)
      rw [this, el]
      show ((List.range 8).map (fun i => (.inl (.ref (T.length + 5 + i)) : zV)))[i]? = _
      rw [List.getElem?_map, List.getElem?_range hi, ← Nat.add_assoc]
      rfl
    · refine ⟨?_, by rw [el]; exact iTy_at T (by have key : ∀ i, i < 4 → iTys[25 + i]? = some 39 := by decide
                                                 exact key i hi)⟩
      have := nw 24 i _ (iCell23 T.length)
      rw [this, el]
      show ((List.range 4).map (fun i => (.inl (.ref (T.length + 25 + i)) : zV)))[i]? = _
      rw [List.getElem?_map, List.getElem?_range hi, ← Nat.add_assoc]
      rfl
  have pj2 : pJ (H2) h.length := fun t ht => by
    exfalso
    have h17 : hi (H2) h.length 17 = 0 := by
      unfold hi
      have := nw 0 17 (5, ob) rfl
      rw [Nat.add_zero] at this
      rw [this]
      show (match ob[17]? with | some (.inl (.int x)) => x.toInt | _ => 0) = 0
      rw [h17]
      rfl
    omega
  refine ⟨⟨hk, ?_, by rw [elen]; omega⟩, t6, old⟩
  refine p_keepG (q := 49) (tExt_app T iTys) (fun q τ hq hτ => ?_) (fun q2 hq2 => ?_) (fun p σ i h1 h2 h3 => old p i (lt p σ h1)) ?_ ?_ ?_ (fun s hs h2 => ?_) (fun μ hμ => ?_) (fun hv => pRef_mono (tExt_app T iTys) (o49 35) (g hv)) (pNul_mono (tExt_app T iTys) (o49 26) k1) (pNul_mono (tExt_app T iTys) (o49 27) k2) (pNul_mono (tExt_app T iTys) (o49 35) k3) ok.2.1
  · rcases n5 q τ hq with h1 | ⟨h1, h2⟩
    · exact h1
    · have := no _ _ h2
      omega
  · rcases n5 q2 6 hq2 with h1 | ⟨h1, h2⟩
    · exact Or.inl h1
    · have := (no _ _ h2).2.2.2 rfl
      have e2 : q2 = h.length := by omega
      rw [e2]
      exact Or.inr ⟨lay2, pj2⟩
  · exact (p_lay a3 (Or.inl rfl) (tExt_app T iTys) (fun p σ i h1 _ => old p i (lt p σ h1)) ⟨lay, hj⟩).2
  · rw [hi_eq (old 29 1 (lt _ _ a2))]
    exact c
  · rw [hi_eq (o49 7)]
    exact d
  · rw [hi_eq (old 50 s (lt _ _ b1))] at h2
    rw [hi_eq (old 63 s (lt _ _ b2))]
    exact e s hs h2
  · rw [hi_eq (o49 28)]
    exact f μ hμ
