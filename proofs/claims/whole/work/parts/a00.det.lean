/-- what is known whole: no ranges -/
def cV (v : zV) : Prop := ∃ x : Value, v = .inl x
def cT (l : List zV) : Prop := ∀ v ∈ l, cV v
def cL (L : zL) : Prop := ∀ p ∈ L, cV p.2
def cH (h : zH) : Prop := ∀ c ∈ h, cT c.2
def cS (x : zS) : Prop := cL x.2.1 ∧ cT x.2.2.1 ∧ cH x.2.2.2.1
def cR (r : Option zV) : Prop := ∀ v, r = some v → cV v
theorem cV_i (x : Value) : cV (.inl x) := ⟨x, rfl⟩
theorem cT_nil : cT [] := fun _ h => absurd h List.not_mem_nil
theorem cT_cons {v : zV} {l : List zV} (hv : cV v) (hl : cT l) : cT (v :: l) := fun w hw => by
  rcases List.mem_cons.mp hw with rfl | hw
  · exact hv
  · exact hl w hw
theorem cT_hd {v : zV} {l : List zV} (h : cT (v :: l)) : cV v := h v List.mem_cons_self
theorem cT_tl {v : zV} {l : List zV} (h : cT (v :: l)) : cT l := fun w hw => h w (List.mem_cons_of_mem _ hw)
theorem cT_drop {l : List zV} (h : cT l) (n : Nat) : cT (l.drop n) := fun v hv => h v (List.mem_of_mem_drop hv)
theorem cT_take {l : List zV} (h : cT l) (n : Nat) : cT (l.take n) := fun v hv => h v (List.mem_of_mem_take hv)
theorem cT_rev {l : List zV} (h : cT l) : cT l.reverse := fun v hv => h v (List.mem_reverse.mp hv)
theorem cT_app {l m : List zV} (h1 : cT l) (h2 : cT m) : cT (l ++ m) := fun v hv => by
  rcases List.mem_append.mp hv with hv | hv
  · exact h1 v hv
  · exact h2 v hv
theorem cT_at {l : List zV} (h : cT l) {i : Nat} {v : zV} (hv : l[i]? = some v) : cV v := h v (List.mem_of_getElem? hv)
theorem cT_of {l : List zV} (h : ∀ (i : Nat) (v : zV), l[i]? = some v → cV v) : cT l := fun v hv => by
  obtain ⟨i, hi⟩ := List.mem_iff_getElem?.mp hv
  exact h i v hi
theorem cT_set {l : List zV} (h : cT l) {i : Nat} {v : zV} (hv : cV v) : cT (l.set i v) := fun w hw => by
  rcases List.mem_or_eq_of_mem_set hw with hw | rfl
  · exact h w hw
  · exact hv
theorem cT_rep {n : Nat} {x : Value} : cT (List.replicate n (.inl x)) := fun v hv => ⟨x, (List.mem_replicate.mp hv).2⟩
theorem cH_at {h : zH} (hh : cH h) {q t : Nat} {vs : List zV} (hq : h[q]? = some (t, vs)) : cT vs := hh (t, vs) (List.mem_of_getElem? hq)
theorem cH_set {h : zH} (hh : cH h) {q t : Nat} {vs : List zV} (hv : cT vs) : cH (h.set q (t, vs)) := fun c hc => by
  rcases List.mem_or_eq_of_mem_set hc with hc | rfl
  · exact hh c hc
  · exact hv
theorem cH_app {h h' : zH} (h1 : cH h) (h2 : cH h') : cH (h ++ h') := fun c hc => by
  rcases List.mem_append.mp hc with hc | hc
  · exact h1 c hc
  · exact h2 c hc
theorem cH_one {t : Nat} {vs : List zV} (h : cT vs) : cH [(t, vs)] := fun c hc => by
  rcases List.mem_cons.mp hc with rfl | hc
  · exact h
  · exact absurd hc List.not_mem_nil
theorem cH_cons {t : Nat} {vs : List zV} {h : zH} (h1 : cT vs) (h2 : cH h) : cH ((t, vs) :: h) := fun c hc => by
  rcases List.mem_cons.mp hc with rfl | hc
  · exact h1
  · exact h2 c hc
theorem cH_rep {n t : Nat} {vs : List zV} (h : cT vs) : cH (List.replicate n (t, vs)) := fun c hc => by
  have := (List.mem_replicate.mp hc).2
  subst this
  exact h
theorem cL_get {L : zL} (h : cL L) {i : Nat} {v : zV} (hv : zget L i = some v) : cV v := by
  unfold zget at hv
  split at hv
  · next q hq =>
    cases hv
    exact h q (List.mem_of_find?_eq_some hq)
  · cases hv
theorem cL_st1 {L : zL} (h : cL L) {i : Nat} {v : zV} (hv : cV v) : cL (zst1 L i v) := fun p hp => by
  rcases List.mem_cons.mp hp with rfl | hp
  · exact hv
  · exact h p (List.mem_filter.mp hp).1
theorem cL_st2 {L : zL} (h : cL L) {i : Nat} {v : zV} (hv : cV v) : cL (zst2 L i v) := fun p hp => by
  rcases List.mem_cons.mp hp with rfl | hp
  · exact hv
  · exact h p (List.mem_filter.mp hp).1
theorem cL_arg : ∀ {vs : List zV} (_ : cT vs) (i : Nat), cL (zarg i vs)
  | [], _, _ => fun _ hp => absurd hp List.not_mem_nil
  | v :: vs, h, i => fun p hp => by
    rcases List.mem_cons.mp hp with rfl | hp
    · exact cT_hd h
    · exact cL_arg (cT_tl h) _ p hp
theorem cT_push {r : Option zV} {l : List zV} (h1 : cR r) (h2 : cT l) : cT (zpush r l) := by
  cases r with
  | none => exact h2
  | some v => exact cT_cons (h1 v rfl) h2
theorem cT_def : ∀ (a : Nat), cT (zdfl a) := fun a v hv => by
  unfold zdfl at hv
  obtain ⟨k, -, rfl⟩ := List.mem_map.mp hv
  unfold zdef
  split <;> exact ⟨_, rfl⟩
theorem cT_cpy {f g : List zV} (hf : cT f) (hg : cT g) (a b n : Nat) : cT (zcpy f g a b n) := cT_app (cT_take hg _) (cT_app (cT_take (cT_drop hf _) _) (cT_drop hg _))
/-- a step that ends in one place, or in none -/
def Dt (f : (zS → Bool) → Bool) : Prop := (∀ K, f K = false) ∨ ∃ y, cS y ∧ ∀ K, f K = K y
theorem Dt_f : Dt (fun _ => false) := Or.inl (fun _ => rfl)
theorem Dt_pt {y : zS} (h : cS y) : Dt (fun K => K y) := Or.inr ⟨y, h, fun _ => rfl⟩
theorem Dt_and {b : Bool} {f : (zS → Bool) → Bool} (h : b = true → Dt f) : Dt (fun K => b && f K) := by
  cases b with
  | false => exact Or.inl (fun _ => rfl)
  | true => exact h rfl
theorem Dt_ite {c : Prop} {d : Decidable c} {f g : (zS → Bool) → Bool} (hf : c → Dt f) (hg : ¬ c → Dt g) : Dt (fun K => @ite Bool c d (f K) (g K)) := by
  cases d with
  | isTrue h => exact hf h
  | isFalse h => exact hg h
theorem Dt_ld {P : zV → Bool} {L : zL} {i : Nat} {k : (zS → Bool) → zV → Bool} (hL : cL L) (h : ∀ v, cV v → Dt (fun K => k K v)) : Dt (fun K => zld P L i (k K)) := by
  unfold zld
  cases e : zget L i with
  | none => exact Dt_f
  | some v => exact Dt_and (fun _ => h v (cL_get hL e))
theorem Dt_s1 {P : zV → Bool} {L : zL} {nL i : Nat} {st : List zV} {k : (zS → Bool) → zL → List zV → Bool} (hL : cL L) (hs : cT st) (h : ∀ L' r, cL L' → cT r → Dt (fun K => k K L' r)) : Dt (fun K => zs1 P L nL i st (k K)) := by
  cases st with
  | nil => exact Dt_f
  | cons v r => exact Dt_and (fun _ => Dt_and (fun _ => h _ r (cL_st1 hL (cT_hd hs)) (cT_tl hs)))
theorem Dt_s2 {L : zL} {nL i : Nat} {st : List zV} {k : (zS → Bool) → zL → List zV → Bool} (hL : cL L) (hs : cT st) (h : ∀ L' r, cL L' → cT r → Dt (fun K => k K L' r)) : Dt (fun K => zs2 L nL i st (k K)) := by
  cases st with
  | nil => exact Dt_f
  | cons v r => exact Dt_and (fun _ => Dt_and (fun _ => h _ r (cL_st2 hL (cT_hd hs)) (cT_tl hs)))
theorem Dt_b2 {f : Int32 → Int32 → Int32} {st : List zV} {k : (zS → Bool) → List zV → Bool} (hs : cT st) (h : ∀ l, cT l → Dt (fun K => k K l)) : Dt (fun K => zb2 f st (k K)) := by
  cases st with
  | nil => exact Dt_f
  | cons b r =>
    obtain ⟨vb, rfl⟩ := cT_hd hs
    cases r with
    | nil => cases vb <;> exact Dt_f
    | cons a r =>
      obtain ⟨va, rfl⟩ := cT_hd (cT_tl hs)
      cases vb <;> cases va <;> first | exact Or.inl (fun _ => rfl) | exact h _ (cT_cons ⟨_, rfl⟩ (cT_tl (cT_tl hs)))
theorem Dt_ml {st : List zV} {k : (zS → Bool) → List zV → Bool} (hs : cT st) (h : ∀ l, cT l → Dt (fun K => k K l)) : Dt (fun K => zml st (k K)) := by
  cases st with
  | nil => exact Dt_f
  | cons b r =>
    obtain ⟨vb, rfl⟩ := cT_hd hs
    cases r with
    | nil => cases vb <;> exact Dt_f
    | cons a r =>
      obtain ⟨va, rfl⟩ := cT_hd (cT_tl hs)
      cases vb <;> cases va <;> first | exact Or.inl (fun _ => rfl) | exact h _ (cT_cons ⟨_, rfl⟩ (cT_tl (cT_tl hs)))
theorem Dt_dv {f : Int32 → Int32 → Int32} {st : List zV} {k : (zS → Bool) → List zV → Bool} (hs : cT st) (h : ∀ l, cT l → Dt (fun K => k K l)) : Dt (fun K => zdv f st (k K)) := by
  cases st with
  | nil => exact Dt_f
  | cons b r =>
    obtain ⟨vb, rfl⟩ := cT_hd hs
    cases r with
    | nil => cases vb <;> exact Dt_f
    | cons a r =>
      obtain ⟨va, rfl⟩ := cT_hd (cT_tl hs)
      cases vb <;> cases va <;> first | exact Or.inl (fun _ => rfl) | exact Dt_and (fun _ => h _ (cT_cons ⟨_, rfl⟩ (cT_tl (cT_tl hs))))
theorem Dt_b2l {f : Int64 → Int64 → Int64} {st : List zV} {k : (zS → Bool) → List zV → Bool} (hs : cT st) (h : ∀ l, cT l → Dt (fun K => k K l)) : Dt (fun K => zb2l f st (k K)) := by
  cases st with
  | nil => exact Dt_f
  | cons b r =>
    obtain ⟨vb, rfl⟩ := cT_hd hs
    cases r with
    | nil => cases vb <;> exact Dt_f
    | cons a r =>
      obtain ⟨va, rfl⟩ := cT_hd (cT_tl hs)
      cases vb <;> cases va <;> first | exact Or.inl (fun _ => rfl) | exact h _ (cT_cons ⟨_, rfl⟩ (cT_tl (cT_tl hs)))
theorem Dt_dvl {f : Int64 → Int64 → Int64} {st : List zV} {k : (zS → Bool) → List zV → Bool} (hs : cT st) (h : ∀ l, cT l → Dt (fun K => k K l)) : Dt (fun K => zdvl f st (k K)) := by
  cases st with
  | nil => exact Dt_f
  | cons b r =>
    obtain ⟨vb, rfl⟩ := cT_hd hs
    cases r with
    | nil => cases vb <;> exact Dt_f
    | cons a r =>
      obtain ⟨va, rfl⟩ := cT_hd (cT_tl hs)
      cases vb <;> cases va <;> first | exact Or.inl (fun _ => rfl) | exact Dt_and (fun _ => h _ (cT_cons ⟨_, rfl⟩ (cT_tl (cT_tl hs))))
theorem Dt_shl {f : Int64 → Int32 → Int64} {st : List zV} {k : (zS → Bool) → List zV → Bool} (hs : cT st) (h : ∀ l, cT l → Dt (fun K => k K l)) : Dt (fun K => zshl f st (k K)) := by
  cases st with
  | nil => exact Dt_f
  | cons b r =>
    obtain ⟨vb, rfl⟩ := cT_hd hs
    cases r with
    | nil => cases vb <;> exact Dt_f
    | cons a r =>
      obtain ⟨va, rfl⟩ := cT_hd (cT_tl hs)
      cases vb <;> cases va <;> first | exact Or.inl (fun _ => rfl) | exact h _ (cT_cons ⟨_, rfl⟩ (cT_tl (cT_tl hs)))
theorem Dt_of {pc : Nat} {off : Int} {k : (zS → Bool) → Nat → Bool} (h : ∀ t, Dt (fun K => k K t)) : Dt (fun K => zof pc off (k K)) := by
  unfold zof
  cases (pc : Int) + off with
  | ofNat t => exact h t
  | negSucc t => exact Dt_f
theorem Dt_row {h : zH} {q t : Nat} {k : (zS → Bool) → List zV → Bool} (hh : cH h) (hk : ∀ vs, cT vs → Dt (fun K => k K vs)) : Dt (fun K => zrow h q t (k K)) := by
  unfold zrow
  cases e : h[q]? with
  | none => exact Dt_f
  | some c => exact Dt_and (fun _ => Dt_and (fun _ => hk c.2 (hh c (List.mem_of_getElem? e))))
theorem Dt_el {vs : List zV} {i : Int32} {k : (zS → Bool) → zV → Bool} (hv : cT vs) (hk : ∀ v, cV v → Dt (fun K => k K v)) : Dt (fun K => zel vs i (k K)) := by
  unfold zel
  refine Dt_ite (fun _ => Dt_f) (fun _ => ?_)
  cases e : vs[i.toNatClampNeg]? with
  | none => exact Dt_f
  | some v => exact hk v (cT_at hv e)
theorem zlh {v : zV} (h : cV v) : zlo v = zhi v := by
  obtain ⟨x, rfl⟩ := h
  cases x <;> rfl
theorem zlt_c {a b : zV} (ha : cV a) (hb : cV b) : ∃ t, zlt a b = some t := by
  have h1 := zlh ha
  have h2 := zlh hb
  unfold zlt
  by_cases e : zhi a < zlo b
  · exact ⟨true, if_pos e⟩
  · exact ⟨false, by rw [if_neg e, if_pos (by omega)]⟩
theorem zeq_c {a b : zV} (ha : cV a) (hb : cV b) : ∃ t, zeq a b = some t := by
  have h1 := zlh ha
  have h2 := zlh hb
  unfold zeq
  by_cases e : zhi a < zlo b ∨ zhi b < zlo a
  · exact ⟨false, if_pos e⟩
  · exact ⟨true, by rw [if_neg e, if_pos (by omega)]⟩
theorem zcond_c {cd : ClassFile.Cond} {a b : zV} (ha : cV a) (hb : cV b) : ∃ t, zcond cd a b = some t := by
  obtain ⟨t1, e1⟩ := zeq_c ha hb
  obtain ⟨t2, e2⟩ := zlt_c ha hb
  obtain ⟨t3, e3⟩ := zlt_c hb ha
  cases cd
  · exact ⟨t1, e1⟩
  · exact ⟨!t1, by show znot (zeq a b) = _; rw [e1]; rfl⟩
  · exact ⟨t2, e2⟩
  · exact ⟨!t2, by show znot (zlt a b) = _; rw [e2]; rfl⟩
  · first | exact ⟨t3, e3⟩ | exact ⟨!t3, by show znot (zlt b a) = _; rw [e3]; rfl⟩
  · first | exact ⟨t3, e3⟩ | exact ⟨!t3, by show znot (zlt b a) = _; rw [e3]; rfl⟩
theorem Dt_br {cd : ClassFile.Cond} {a b : zV} {f g : (zS → Bool) → Bool} (ha : cV a) (hb : cV b) (h1 : Dt f) (h2 : Dt g) : Dt (fun K => zbr (zcond cd a b) (f K) (g K)) := by
  obtain ⟨t, e⟩ := zcond_c (cd := cd) ha hb
  rw [e]
  cases t
  · exact h2
  · exact h1
theorem cV_cmp {x y : zV} (hx : cV x) (hy : cV y) : cV (zcmpL x y) := by
  have h1 := zlh hx
  have h2 := zlh hy
  unfold zcmpL zmk
  rw [h1, ← h2]
  by_cases e1 : zlo y < zhi x
  · rw [if_pos e1, if_neg (by omega : ¬ zhi x < zlo y), if_neg (by omega : ¬ zhi x ≤ zlo y), if_pos rfl]
    exact ⟨_, rfl⟩
  · by_cases e2 : zlo y ≤ zhi x
    · rw [if_neg e1, if_pos e2, if_neg (by omega : ¬ zhi x < zlo y), if_pos (by omega : zhi x ≤ zlo y), if_pos rfl]
      exact ⟨_, rfl⟩
    · rw [if_neg e1, if_neg e2, if_pos (by omega : zhi x < zlo y), if_pos rfl]
      exact ⟨_, rfl⟩
/-- what is called ends in one place, or in none -/
def Dcc (cc : zK) : Prop := ∀ (j : Nat) (vs : List zV) (h : zH), cT vs → cH h → (∀ post, cc j vs h post = false) ∨ ∃ r h', cR r ∧ cH h' ∧ ∀ post, cc j vs h post = post r h'
theorem Dt_cc {cc : zK} {j : Nat} {vs : List zV} {h : zH} {k : (zS → Bool) → Option zV → zH → Bool} (hc : Dcc cc) (hv : cT vs) (hh : cH h) (hk : ∀ r h', cR r → cH h' → Dt (fun K => k K r h')) : Dt (fun K => cc j vs h (k K)) := by
  rcases hc j vs h hv hh with e | ⟨r, h', h1, h2, e⟩
  · exact Or.inl (fun K => e _)
  · rcases hk r h' h1 h2 with g | ⟨y, g1, g2⟩
    · exact Or.inl (fun K => (e _).trans (g K))
    · exact Or.inr ⟨y, g1, fun K => (e _).trans (g2 K)⟩
theorem Dt_call {prog : Nat → Option zE} {cc : zK} {j nc ns rc rs : Nat} {st : List zV} {h : zH} {k : (zS → Bool) → List zV → zH → Nat → Nat → Bool} (hc : Dcc cc) (hs : cT st) (hh : cH h) (hk : ∀ st' h' nc' ns', cT st' → cH h' → Dt (fun K => k K st' h' nc' ns')) : Dt (fun K => zcall prog cc j st h nc ns rc rs (k K)) := by
  unfold zcall
  cases prog j with
  | none => exact Dt_f
  | some E => exact Dt_and (fun _ => Dt_and (fun _ => Dt_and (fun _ => Dt_and (fun _ => Dt_cc hc (cT_rev (cT_take hs _)) hh (fun r h' h1 h2 => hk _ _ _ _ (cT_push h1 (cT_drop hs _)) h2)))))
theorem Dt_calv {prog : Nat → Option zE} {cc : zK} {j nc ns rc rs : Nat} {st : List zV} {h : zH} {k : (zS → Bool) → List zV → zH → Nat → Nat → Bool} (hc : Dcc cc) (hs : cT st) (hh : cH h) (hk : ∀ st' h' nc' ns', cT st' → cH h' → Dt (fun K => k K st' h' nc' ns')) : Dt (fun K => zcalv prog cc j st h nc ns rc rs (k K)) := by
  unfold zcalv
  cases prog j with
  | none => exact Dt_f
  | some E =>
    refine Dt_and (fun _ => Dt_and (fun _ => Dt_and (fun _ => ?_)))
    have hd := cT_drop hs (zEp E)
    cases e : st.drop (zEp E) with
    | nil => exact Dt_f
    | cons v r =>
      rw [e] at hd
      obtain ⟨x, rfl⟩ := cT_hd hd
      cases x <;> first | exact Dt_f | exact Dt_row hh (fun _ _ => Dt_and (fun _ => Dt_cc hc (cT_cons ⟨_, rfl⟩ (cT_rev (cT_take hs _))) hh (fun r' h' h1 h2 => hk _ _ _ _ (cT_push h1 (cT_tl hd)) h2)))
