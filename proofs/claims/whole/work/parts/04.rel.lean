def zg (ρ : Nat → Option Nat) : zV → Value → Prop
  | .inl (.int x), v => v = .int x
  | .inl (.long x), v => v = .long x
  | .inl .null, v => v = .null
  | .inl (.ref k), v => ∃ a : Nat, ρ k = some a ∧ v = .ref a
  | .inl (.float _), _ => False
  | .inl (.double _), _ => False
  | .inl (.retAddr _), _ => False
  | .inr (false, lo, hi), v => ∃ x : Int32, v = .int x ∧ lo ≤ x.toInt ∧ x.toInt ≤ hi
  | .inr (true, lo, hi), v => ∃ x : Int64, v = .long x ∧ lo ≤ x.toInt ∧ x.toInt ≤ hi
theorem zg_I {ρ : Nat → Option Nat} {v : zV} {w : Value} (h : zg ρ v w) (hi : zisI v = true) : ∃ x : Int32, w = .int x ∧ zlo v ≤ x.toInt ∧ x.toInt ≤ zhi v := by
  rcases v with (x | x | x | x | _ | x | x) | ⟨_ | _, lo, hi2⟩ <;> simp only [zisI, Bool.false_eq_true] at hi
  · exact ⟨x, h, Int.le_refl _, Int.le_refl _⟩
  · exact h
theorem zg_L {ρ : Nat → Option Nat} {v : zV} {w : Value} (h : zg ρ v w) (hi : zisL v = true) : ∃ x : Int64, w = .long x ∧ zlo v ≤ x.toInt ∧ x.toInt ≤ zhi v := by
  rcases v with (x | x | x | x | _ | x | x) | ⟨_ | _, lo, hi2⟩ <;> simp only [zisL, Bool.false_eq_true] at hi
  · exact ⟨x, h, Int.le_refl _, Int.le_refl _⟩
  · exact h
theorem zg_R {ρ : Nat → Option Nat} {v : zV} {w : Value} (h : zg ρ v w) (hi : zisR v = true) : (v = .inl .null ∧ w = .null) ∨ ∃ k a : Nat, v = .inl (.ref k) ∧ ρ k = some a ∧ w = .ref a := by
  rcases v with (x | x | x | x | _ | x | x) | ⟨_ | _, lo, hi2⟩ <;> simp only [zisR, Bool.false_eq_true] at hi
  · exact Or.inl ⟨rfl, h⟩
  · obtain ⟨a, h1, h2⟩ := h
    exact Or.inr ⟨x, a, rfl, h1, h2⟩
theorem zg_cat {ρ : Nat → Option Nat} {v : zV} {w : Value} (h : zg ρ v w) : w.category = zcat v := by
  rcases v with (x | x | x | x | _ | x | x) | ⟨_ | _, lo, hi2⟩
  · rw [show w = .int x from h]; rfl
  · rw [show w = .long x from h]; rfl
  · exact h.elim
  · exact h.elim
  · rw [show w = .null from h]; rfl
  · obtain ⟨a, -, h2⟩ := h
    rw [h2]; rfl
  · exact h.elim
  · obtain ⟨x, h2, -⟩ := h
    rw [h2]; rfl
  · obtain ⟨x, h2, -⟩ := h
    rw [h2]; rfl
theorem zg_mono {ρ ρ' : Nat → Option Nat} (hm : ∀ k a : Nat, ρ k = some a → ρ' k = some a) {v : zV} {w : Value} (h : zg ρ v w) : zg ρ' v w := by
  rcases v with (x | x | x | x | _ | x | x) | ⟨_ | _, lo, hi2⟩ <;> first | exact h | (obtain ⟨a, h1, h2⟩ := h; exact ⟨a, hm _ _ h1, h2⟩)
theorem zg_I0 (ρ : Nat → Option Nat) (x : Int32) : zg ρ zI0 (.int x) := by
  refine ⟨x, rfl, ?_, ?_⟩
  · have := x.le_toInt
    simpa using this
  · have := x.toInt_lt
    have h2 : x.toInt < 2147483648 := by simpa using this
    omega
theorem zg_L0 (ρ : Nat → Option Nat) (x : Int64) : zg ρ zL0 (.long x) := by
  refine ⟨x, rfl, ?_, ?_⟩
  · have := x.le_toInt
    simpa using this
  · have := x.toInt_lt
    have h2 : x.toInt < 9223372036854775808 := by simpa using this
    omega
theorem zmk_g {ρ : Nat → Option Nat} {lo hi : Int} {x : Int32} (h1 : lo ≤ x.toInt) (h2 : x.toInt ≤ hi) : zg ρ (zmk lo hi) (.int x) := by
  unfold zmk
  split
  · next h =>
    have e : x.toInt = lo := by omega
    show Value.int x = Value.int (Int32.ofInt lo)
    rw [← e, Int32.ofInt_toInt]
  · exact ⟨x, rfl, h1, h2⟩
def zL2 (ρ : Nat → Option Nat) : List zV → List Value → Prop
  | [], [] => True
  | a :: l, v :: vs => zg ρ a v ∧ zL2 ρ l vs
  | _, _ => False
theorem zL2_len {ρ : Nat → Option Nat} : ∀ {l : List zV} {vs : List Value}, zL2 ρ l vs → l.length = vs.length
  | [], [], _ => rfl
  | _ :: _, _ :: _, h => by simp only [List.length_cons]; rw [zL2_len h.2]
  | [], _ :: _, h => h.elim
  | _ :: _, [], h => h.elim
theorem zL2_mono {ρ ρ' : Nat → Option Nat} (hm : ∀ k a : Nat, ρ k = some a → ρ' k = some a) : ∀ {l : List zV} {vs : List Value}, zL2 ρ l vs → zL2 ρ' l vs
  | [], [], _ => trivial
  | _ :: _, _ :: _, h => ⟨zg_mono hm h.1, zL2_mono hm h.2⟩
  | [], _ :: _, h => h.elim
  | _ :: _, [], h => h.elim
theorem zL2_cons {ρ : Nat → Option Nat} {a : zV} {l : List zV} {vs : List Value} (h : zL2 ρ (a :: l) vs) : ∃ v vs', vs = v :: vs' ∧ zg ρ a v ∧ zL2 ρ l vs' := by
  cases vs with
  | nil => exact h.elim
  | cons v vs' => exact ⟨v, vs', rfl, h.1, h.2⟩
theorem zL2_nil {ρ : Nat → Option Nat} {vs : List Value} (h : zL2 ρ [] vs) : vs = [] := by
  cases vs with
  | nil => rfl
  | cons v vs' => exact h.elim
theorem zL2_take {ρ : Nat → Option Nat} : ∀ (n : Nat) {l : List zV} {vs : List Value}, zL2 ρ l vs → zL2 ρ (l.take n) (vs.take n)
  | 0, _, _, _ => by simp only [List.take_zero]; trivial
  | n + 1, [], [], _ => trivial
  | n + 1, _ :: _, _ :: _, h => ⟨h.1, zL2_take n h.2⟩
  | n + 1, [], _ :: _, h => h.elim
  | n + 1, _ :: _, [], h => h.elim
theorem zL2_drop {ρ : Nat → Option Nat} : ∀ (n : Nat) {l : List zV} {vs : List Value}, zL2 ρ l vs → zL2 ρ (l.drop n) (vs.drop n)
  | 0, _, _, h => h
  | n + 1, [], [], _ => trivial
  | n + 1, _ :: _, _ :: _, h => zL2_drop n h.2
  | n + 1, [], _ :: _, h => h.elim
  | n + 1, _ :: _, [], h => h.elim
theorem zL2_app {ρ : Nat → Option Nat} : ∀ {l l2 : List zV} {vs vs2 : List Value}, zL2 ρ l vs → zL2 ρ l2 vs2 → zL2 ρ (l ++ l2) (vs ++ vs2)
  | [], _, [], _, _, h2 => h2
  | _ :: _, _, _ :: _, _, h, h2 => ⟨h.1, zL2_app h.2 h2⟩
  | [], _, _ :: _, _, h, _ => h.elim
  | _ :: _, _, [], _, h, _ => h.elim
theorem zL2_rev {ρ : Nat → Option Nat} : ∀ {l : List zV} {vs : List Value}, zL2 ρ l vs → zL2 ρ l.reverse vs.reverse
  | [], [], _ => trivial
  | a :: l, v :: vs, h => by
    rw [List.reverse_cons, List.reverse_cons]
    exact zL2_app (zL2_rev h.2) ⟨h.1, trivial⟩
  | [], _ :: _, h => h.elim
  | _ :: _, [], h => h.elim
theorem zL2_get {ρ : Nat → Option Nat} : ∀ (n : Nat) {l : List zV} {vs : List Value} {a : zV}, zL2 ρ l vs → l[n]? = some a → ∃ v, vs[n]? = some v ∧ zg ρ a v
  | _, [], _, _, _, h => by simp at h
  | 0, _ :: _, _ :: _, _, h, h2 => by
    simp only [List.getElem?_cons_zero, Option.some.injEq] at h2
    subst h2
    exact ⟨_, rfl, h.1⟩
  | n + 1, _ :: _, _ :: _, _, h, h2 => by
    simp only [List.getElem?_cons_succ] at h2 ⊢
    exact zL2_get n h.2 h2
  | _, _ :: _, [], _, h, _ => h.elim
theorem zL2_set {ρ : Nat → Option Nat} {a : zV} {v : Value} (hg : zg ρ a v) : ∀ (n : Nat) {l : List zV} {vs : List Value}, zL2 ρ l vs → zL2 ρ (l.set n a) (vs.set n v)
  | _, [], [], _ => trivial
  | 0, _ :: _, _ :: _, h => ⟨hg, h.2⟩
  | n + 1, _ :: _, _ :: _, h => ⟨h.1, zL2_set hg n h.2⟩
  | _, [], _ :: _, h => h.elim
  | _, _ :: _, [], h => h.elim
theorem zL2_sum {ρ : Nat → Option Nat} : ∀ {l : List zV} {vs : List Value}, zL2 ρ l vs → (vs.map fun v => v.category).sum = zsum l
  | [], [], _ => rfl
  | _ :: _, _ :: _, h => by
    simp only [List.map_cons, List.sum_cons, zsum]
    rw [zg_cat h.1, zL2_sum h.2]
  | [], _ :: _, h => h.elim
  | _ :: _, [], h => h.elim
def zLo (ρ : Nat → Option Nat) (L : zL) (ls : Array Slot) : Prop := ∀ q ∈ L, ∃ v : Value, ls[q.1]? = some (.val v) ∧ zg ρ q.2 v
theorem zLo_mono {ρ ρ' : Nat → Option Nat} (hm : ∀ k a : Nat, ρ k = some a → ρ' k = some a) {L : zL} {ls : Array Slot} (h : zLo ρ L ls) : zLo ρ' L ls := fun q hq => by
  obtain ⟨v, h1, h2⟩ := h q hq
  exact ⟨v, h1, zg_mono hm h2⟩
theorem zLo_get {ρ : Nat → Option Nat} {L : zL} {ls : Array Slot} (h : zLo ρ L ls) {i : Nat} {a : zV} (hg : zget L i = some a) : ∃ v : Value, ls[i]? = some (.val v) ∧ zg ρ a v := by
  unfold zget at hg
  split at hg
  · next q hq =>
    cases hg
    have h1 := List.mem_of_find?_eq_some hq
    have h0 := List.find?_some hq
    have h2 : q.1 = i := Nat.eq_of_beq_eq_true h0
    obtain ⟨v, h3, h4⟩ := h q h1
    exact ⟨v, by rw [← h2]; exact h3, h4⟩
  · cases hg
theorem z_beq (a b : Nat) : Nat.beq a b = (a == b) := by
  rw [Bool.eq_iff_iff]
  simp [Nat.beq_eq]
def zslv : Option Slot → Value
  | some (Slot.val v) => v
  | _ => .null
def zconc (L : zL) (ls : Array Slot) : List (Nat × Value) := L.map (fun q => (q.1, zslv ls[q.1]?))
theorem zconc_has {ρ : Nat → Option Nat} {L : zL} {ls : Array Slot} {nL : Nat} (hl : lv_has ls nL []) (h : zLo ρ L ls) : lv_has ls nL (zconc L ls) := by
  refine ⟨hl.1, hl.2.1, fun q hq => ?_⟩
  obtain ⟨r, hr, rfl⟩ := List.mem_map.mp hq
  obtain ⟨v, h1, -⟩ := h r hr
  show ls[r.1]? = some (.val (zslv ls[r.1]?))
  rw [h1]
  rfl
theorem zconc_mem {ρ : Nat → Option Nat} {L : zL} {ls : Array Slot} (h : zLo ρ L ls) {q : Nat × zV} (hq : q ∈ L) : ∃ v : Value, (q.1, v) ∈ zconc L ls ∧ zg ρ q.2 v := by
  obtain ⟨v, h1, h2⟩ := h q hq
  refine ⟨v, List.mem_map.mpr ⟨q, hq, ?_⟩, h2⟩
  rw [h1]
  rfl
theorem zLo_st1 {ρ : Nat → Option Nat} {L : zL} {ls ls' : Array Slot} {nL i : Nat} {a : zV} {v : Value} (h : zLo ρ L ls) (hg : zg ρ a v)
    (hl : lv_has ls' nL ((i, v) :: (zconc L ls).filter (fun q => !(q.1 == i) && !(q.1 + 1 == i && q.2.category == 2)))) : zLo ρ (zst1 L i a) ls' := by
  intro q hq
  rcases List.mem_cons.mp hq with rfl | hq
  · exact ⟨v, hl.2.2 (i, v) List.mem_cons_self, hg⟩
  · obtain ⟨h1, h2⟩ := List.mem_filter.mp hq
    obtain ⟨w, h3, h4⟩ := zconc_mem h h1
    refine ⟨w, hl.2.2 (q.1, w) (List.mem_cons_of_mem _ (List.mem_filter.mpr ⟨h3, ?_⟩)), h4⟩
    have hc := zg_cat h4
    rw [hc]
    simp only [z_beq] at h2
    exact h2
theorem zLo_st2 {ρ : Nat → Option Nat} {L : zL} {ls ls' : Array Slot} {nL i : Nat} {a : zV} {v : Value} (h : zLo ρ L ls) (hg : zg ρ a v)
    (hl : lv_has ls' nL ((i, v) :: (zconc L ls).filter (fun q => !(q.1 == i) && (!(q.1 == i + 1) && !(q.1 + 1 == i && q.2.category == 2))))) : zLo ρ (zst2 L i a) ls' := by
  intro q hq
  rcases List.mem_cons.mp hq with rfl | hq
  · exact ⟨v, hl.2.2 (i, v) List.mem_cons_self, hg⟩
  · obtain ⟨h1, h2⟩ := List.mem_filter.mp hq
    obtain ⟨w, h3, h4⟩ := zconc_mem h h1
    refine ⟨w, hl.2.2 (q.1, w) (List.mem_cons_of_mem _ (List.mem_filter.mpr ⟨h3, ?_⟩)), h4⟩
    have hc := zg_cat h4
    rw [hc]
    simp only [z_beq] at h2
    exact h2
theorem zLo_arg {ρ : Nat → Option Nat} {ls : Array Slot} {nL : Nat} : ∀ (i : Nat) {l : List zV} {vs : List Value}, zL2 ρ l vs → (∀ q ∈ lv_args i vs, ls[q.1]? = some (.val q.2)) → zLo ρ (zarg i l) ls
  | _, [], [], _, _ => fun q hq => by cases hq
  | i, a :: l, v :: vs, h, hl => by
    intro q hq
    rcases List.mem_cons.mp hq with rfl | hq
    · exact ⟨v, hl (i, v) List.mem_cons_self, h.1⟩
    · refine zLo_arg (nL := nL) (if zcat a = 2 then i + 2 else i + 1) h.2 (fun r hr => hl r (List.mem_cons_of_mem _ ?_)) q hq
      rw [← zg_cat h.1] at hr
      exact hr
  | _, [], _ :: _, h, _ => h.elim
  | _, _ :: _, [], h, _ => h.elim
def zrho (ws : va_W) (ext : Nat → Option Nat) (k : Nat) : Option Nat := if k < 1000000 then (ws[k]?).map (fun q => q.1) else ext k
theorem zrho_set {ws : va_W} {ext : Nat → Option Nat} {p a : Nat} {e0 e : va_E} (h : ws[p]? = some (a, e0)) : zrho (ws.set p (a, e)) ext = zrho ws ext := by
  funext k
  unfold zrho
  split
  · by_cases hk : k = p
    · subst hk
      rw [List.getElem?_set_self (List.getElem?_eq_some_iff.mp h).1, h]
      rfl
    · rw [List.getElem?_set_ne (Ne.symm hk)]
  · rfl
theorem zrho_app {ws w2 : va_W} {ext : Nat → Option Nat} {k a : Nat} (h : zrho ws ext k = some a) : zrho (ws ++ w2) ext k = some a := by
  unfold zrho at h ⊢
  split
  · next hk =>
    rw [if_pos hk] at h
    obtain ⟨q, h1, h2⟩ := Option.map_eq_some_iff.mp h
    rw [List.getElem?_append_left (List.getElem?_eq_some_iff.mp h1).1, h1]
    exact congrArg some h2
  · next hk =>
    rw [if_neg hk] at h
    exact h
theorem zrho_at {ws : va_W} {ext : Nat → Option Nat} {k a : Nat} {e : va_E} (hk : k < 1000000) (h : ws[k]? = some (a, e)) : zrho ws ext k = some a := by
  unfold zrho
  rw [if_pos hk, h]
  rfl
def zPre (ws0 ws : va_W) : Prop := ∀ (k : Nat) (q : Nat × va_E), ws0[k]? = some q → ∃ e : va_E, ws[k]? = some (q.1, e)
theorem zPre_rf (ws : va_W) : zPre ws ws := fun _ q h => ⟨q.2, h⟩
theorem zPre_tr {a b c : va_W} (h1 : zPre a b) (h2 : zPre b c) : zPre a c := fun k q h => by
  obtain ⟨e, h3⟩ := h1 k q h
  obtain ⟨e2, h4⟩ := h2 k _ h3
  exact ⟨e2, h4⟩
theorem zPre_app (ws w2 : va_W) : zPre ws (ws ++ w2) := fun k q h => ⟨q.2, by rw [List.getElem?_append_left (List.getElem?_eq_some_iff.mp h).1]; exact h⟩
theorem zPre_set {ws : va_W} {p a : Nat} {e0 e : va_E} (h : ws[p]? = some (a, e0)) : zPre ws (ws.set p (a, e)) := fun k q hk => by
  by_cases hkp : k = p
  · subst hkp
    rw [h] at hk
    cases hk
    exact ⟨e, by rw [List.getElem?_set_self (List.getElem?_eq_some_iff.mp h).1]⟩
  · exact ⟨q.2, by rw [List.getElem?_set_ne (Ne.symm hkp)]; exact hk⟩
theorem zPre_rho {ws ws' : va_W} {ext : Nat → Option Nat} (h : zPre ws ws') : ∀ k a : Nat, zrho ws ext k = some a → zrho ws' ext k = some a := by
  intro k a hk
  unfold zrho at hk ⊢
  split
  · next hlt =>
    rw [if_pos hlt] at hk
    obtain ⟨q, h1, h2⟩ := Option.map_eq_some_iff.mp hk
    obtain ⟨e, h3⟩ := h k q h1
    rw [h3]
    exact congrArg some h2
  · next hlt =>
    rw [if_neg hlt] at hk
    exact hk
def zval (a : (Nat → Int32) ⊕ (Nat → Int64) ⊕ (Nat → UInt32) ⊕ (Nat → UInt64) ⊕ (Nat → Option Nat)) (j : Nat) : Value := match a with
  | .inl f => .int (f j)
  | .inr (.inl f) => .long (f j)
  | .inr (.inr (.inl f)) => .float (f j)
  | .inr (.inr (.inr (.inl f))) => .double (f j)
  | .inr (.inr (.inr (.inr f))) => va_rf (f j)
def zkd (t : Nat) (a : (Nat → Int32) ⊕ (Nat → Int64) ⊕ (Nat → UInt32) ⊕ (Nat → UInt64) ⊕ (Nat → Option Nat)) : Prop := match t with
  | 0 => ∃ f, a = .inl f
  | 1 => ∃ f, a = .inr (.inl f)
  | 5 => ∃ f, a = .inl f
  | _ => ∃ f, a = .inr (.inr (.inr (.inr f)))
def zCell (ρ : Nat → Option Nat) (ct : Nat → ClassId) (c : zC) (e : va_E) : Prop := match e with
  | .inr o => c.1 = o.1 ∧ o.1 < 10 ∧ zL2 ρ c.2 o.2
  | .inl o => ∃ t : Nat, c.1 = 10 + t ∧ t < 6 ∧ o.1 = ct t ∧ c.2.length = o.2.1 ∧ zkd t o.2.2 ∧ ∀ (j : Nat) (a : zV), c.2[j]? = some a → zg ρ a (zval o.2.2 j)
theorem zCell_mono {ρ ρ' : Nat → Option Nat} (hm : ∀ k a : Nat, ρ k = some a → ρ' k = some a) {ct : Nat → ClassId} {c : zC} {e : va_E} (h : zCell ρ ct c e) : zCell ρ' ct c e := by
  cases e with
  | inr o => exact ⟨h.1, h.2.1, zL2_mono hm h.2.2⟩
  | inl o =>
    obtain ⟨t, h1, h2, h3, h4, h5, h6⟩ := h
    exact ⟨t, h1, h2, h3, h4, h5, fun j a hj => zg_mono hm (h6 j a hj)⟩
def zHp (ρ : Nat → Option Nat) (ct : Nat → ClassId) (h : zH) (ws : va_W) : Prop := h.length = ws.length ∧ ∀ (i : Nat) (c : zC) (q : Nat × va_E), h[i]? = some c → ws[i]? = some q → zCell ρ ct c q.2
theorem zHp_mono {ρ ρ' : Nat → Option Nat} (hm : ∀ k a : Nat, ρ k = some a → ρ' k = some a) {ct : Nat → ClassId} {h : zH} {ws : va_W} (hh : zHp ρ ct h ws) : zHp ρ' ct h ws := ⟨hh.1, fun i c q h1 h2 => zCell_mono hm (hh.2 i c q h1 h2)⟩
theorem zHp_get {ρ : Nat → Option Nat} {ct : Nat → ClassId} {h : zH} {ws : va_W} (hh : zHp ρ ct h ws) {i : Nat} {c : zC} (hi : h[i]? = some c) : ∃ (a : Nat) (e : va_E), ws[i]? = some (a, e) ∧ zCell ρ ct c e := by
  have h1 : i < h.length := (List.getElem?_eq_some_iff.mp hi).1
  have h2 : i < ws.length := by rw [← hh.1]; exact h1
  have h3 : ws[i]? = some ws[i] := List.getElem?_eq_getElem h2
  exact ⟨ws[i].1, ws[i].2, h3, hh.2 i c _ hi h3⟩
theorem zHp_set {ρ : Nat → Option Nat} {ct : Nat → ClassId} {h : zH} {ws : va_W} (hh : zHp ρ ct h ws) {i a : Nat} {c : zC} {e : va_E} (he : zCell ρ ct c e) : zHp ρ ct (h.set i c) (ws.set i (a, e)) := by
  refine ⟨by simp only [List.length_set]; exact hh.1, fun j c' q h1 h2 => ?_⟩
  by_cases hj : j = i
  · subst hj
    have l1 : j < h.length := by
      have := (List.getElem?_eq_some_iff.mp h1).1
      simpa using this
    have l2 : j < ws.length := by rw [← hh.1]; exact l1
    rw [List.getElem?_set_self l1] at h1
    rw [List.getElem?_set_self l2] at h2
    cases h1
    cases h2
    exact he
  · rw [List.getElem?_set_ne (Ne.symm hj)] at h1 h2
    exact hh.2 j c' q h1 h2
theorem zHp_app {ρ : Nat → Option Nat} {ct : Nat → ClassId} {h h2 : zH} {ws w2 : va_W} (hh : zHp ρ ct h ws) (hh2 : zHp ρ ct h2 w2) : zHp ρ ct (h ++ h2) (ws ++ w2) := by
  refine ⟨by simp only [List.length_append]; rw [hh.1, hh2.1], fun j c q h3 h4 => ?_⟩
  by_cases hj : j < h.length
  · rw [List.getElem?_append_left hj] at h3
    rw [List.getElem?_append_left (by rw [← hh.1]; exact hj)] at h4
    exact hh.2 j c q h3 h4
  · rw [List.getElem?_append_right (by omega)] at h3
    rw [List.getElem?_append_right (by rw [← hh.1]; omega), ← hh.1] at h4
    exact hh2.2 _ c q h3 h4
theorem zHp_one {ρ : Nat → Option Nat} {ct : Nat → ClassId} {c : zC} {a : Nat} {e : va_E} (he : zCell ρ ct c e) : zHp ρ ct [c] [(a, e)] := by
  refine ⟨rfl, fun j c' q h1 h2 => ?_⟩
  have h0 : j < 1 := (List.getElem?_eq_some_iff.mp h1).1
  rw [show j = 0 by omega] at h1 h2
  cases h1
  cases h2
  exact he
