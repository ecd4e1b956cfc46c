def okAs (T : List Nat) : List tA → List zV → Prop
  | [], [] => True
  | a :: l, v :: vs => okA T a v ∧ okAs T l vs
  | _, _ => False
def tExt (T T' : List Nat) : Prop := ∀ q τ : Nat, T[q]? = some τ → T'[q]? = some τ
def tRes (T : List Nat) (vs : List zV) (e : tE) (r : Option zV) : Prop := match e.2.1 with
  | 0 => r = none
  | 1 => ∃ v, r = some v ∧ okA T e.2.2.1 v ∧ ∀ c ∈ e.2.2.2, v ≠ .inl (.int 0) → ∃ a, vs[c.1]? = some a ∧ c.2.1 ≤ tval a ∧ tval a ≤ c.2.2
  | _ => ∃ v, r = some v ∧ okA T (tI 0 1) v ∧ (v ≠ .inl (.int 0) → ∃ a l m, vs[0]? = some a ∧ vs[1]? = some l ∧ vs[2]? = some m ∧ tval l ≤ tval a ∧ tval a ≤ tval m)
/-- what a method keeps: the types and Φ -/
def tCon (ty : Nat → tTy) (Φ : List Nat → zH → Prop) (E : zE) (cc : zK) (j : Nat) (e : tE) : Prop :=
  ∀ (T : List Nat) (h : zH) (vs : List zV) (post : Option zV → zH → Bool), hOK ty T h → Φ T h → h.length + zEc E ≤ 1000000 → okAs T e.1 vs →
    (∀ (r : Option zV) (T' : List Nat) (h' : zH), tExt T T' → hOK ty T' h' → Φ T' h' → h'.length ≤ h.length + zEc E → tRes T' vs e r → post r h' = true) → cc j vs h post = true
def tStab (ty : Nat → tTy) (tB : Nat) (Φ : List Nat → zH → Prop) : Prop :=
  (∀ (T : List Nat) (h : zH) (q τ : Nat) (vs vs' : List zV), hOK ty T h → Φ T h → T[q]? = some τ → h[q]? = some ((ty τ).1, vs) → vs'.length = vs.length → (∀ i, ((ty τ).2.2 i).2.2.2.2 = false → vs'[i]? = vs[i]?) → (∀ (i : Nat) (v : zV), vs'[i]? = some v → okS T ((ty τ).2.2 i) v) → Φ T (h.set q ((ty τ).1, vs'))) ∧
  (∀ (T : List Nat) (h : zH), hOK ty T h → Φ T h → Φ (T ++ [tB]) (h ++ [(15, List.replicate (ty tB).2.1 (.inl (.int 0)))])) ∧
  (∀ τ i : Nat, 10 ≤ (ty τ).1 → (ty τ).2.2 i = (ty τ).2.2 0) ∧ (ty tB).1 = 15 ∧ ((ty tB).2.2 0).1 = 0 ∧ ((ty tB).2.2 0).2.1 ≤ 0 ∧ 0 ≤ ((ty tB).2.2 0).2.2.1 ∧ (ty tB).2.1 ≤ 65536
theorem tExt_rf (T : List Nat) : tExt T T := fun _ _ h => h
theorem tExt_tr {A B C : List Nat} (h1 : tExt A B) (h2 : tExt B C) : tExt A C := fun q τ h => h2 q τ (h1 q τ h)
theorem tExt_app (T U : List Nat) : tExt T (T ++ U) := fun q τ h => by
  rw [List.getElem?_append_left (List.getElem?_eq_some_iff.mp h).1]
  exact h
theorem okS_mono {T T' : List Nat} (hT : tExt T T') {s : tSl} {v : zV} (h : okS T s v) : okS T' s v := by
  unfold okS at h ⊢
  split at h
  · exact h
  · exact h
  · obtain ⟨q, h1, h2⟩ := h
    exact ⟨q, h1, hT _ _ h2⟩
  · trivial
theorem hOK_set {ty : Nat → tTy} {T : List Nat} {h : zH} {q τ : Nat} {vs vs' : List zV} (hh : hOK ty T h) (hq : T[q]? = some τ) (hv : h[q]? = some ((ty τ).1, vs)) (hl : vs'.length = vs.length) (hs : ∀ (i : Nat) (v : zV), vs'[i]? = some v → okS T ((ty τ).2.2 i) v) : hOK ty T (h.set q ((ty τ).1, vs')) := by
  obtain ⟨h1, h2, h3⟩ := hh
  refine ⟨by rw [List.length_set]; exact h1, by rw [List.length_set]; exact h2, fun p σ hp => ?_⟩
  by_cases e : q = p
  · subst e
    rw [hq] at hp
    cases hp
    obtain ⟨us, g1, g2, -⟩ := h3 q τ hq
    rw [hv] at g1
    cases g1
    exact ⟨vs', List.getElem?_set_self (List.getElem?_eq_some_iff.mp hv).1, by rw [hl]; exact g2, hs⟩
  · rw [List.getElem?_set_ne e]
    exact h3 p σ hp
theorem hOK_app {ty : Nat → tTy} {T : List Nat} {h : zH} {τ : Nat} {vs : List zV} (hh : hOK ty T h) (hb : h.length < 1000000) (hl : vs.length = (ty τ).2.1) (hs : ∀ (i : Nat) (v : zV), vs[i]? = some v → okS (T ++ [τ]) ((ty τ).2.2 i) v) : hOK ty (T ++ [τ]) (h ++ [((ty τ).1, vs)]) := by
  obtain ⟨h1, h2, h3⟩ := hh
  refine ⟨by simp [h1], by simp; omega, fun p σ hp => ?_⟩
  by_cases e : p < T.length
  · rw [List.getElem?_append_left e] at hp
    obtain ⟨us, g1, g2, g3⟩ := h3 p σ hp
    exact ⟨us, by rw [List.getElem?_append_left (by omega)]; exact g1, g2, fun i v hi => okS_mono (tExt_app T [τ]) (g3 i v hi)⟩
  · rw [List.getElem?_append_right (by omega)] at hp
    have e2 : p - T.length = 0 := by
      have := (List.getElem?_eq_some_iff.mp hp).1
      simp at this
      omega
    rw [e2] at hp
    cases hp
    exact ⟨vs, by rw [List.getElem?_append_right (by omega), h1, e2]; rfl, hl, hs⟩
theorem okAs_get {T : List Nat} : ∀ (n : Nat) {l : List tA} {vs : List zV} {a : tA}, okAs T l vs → l[n]? = some a → ∃ v, vs[n]? = some v ∧ okA T a v
  | _, [], _, _, _, h => by simp at h
  | 0, _ :: _, _ :: _, _, h, h2 => by
    simp only [List.getElem?_cons_zero, Option.some.injEq] at h2
    subst h2
    exact ⟨_, rfl, h.1⟩
  | n + 1, _ :: _, _ :: _, _, h, h2 => by
    simp only [List.getElem?_cons_succ] at h2 ⊢
    exact okAs_get n h.2 h2
  | _, _ :: _, [], _, h, _ => h.elim
theorem tle_ok {T : List Nat} {a f : tA} {v : zV} (h : tle a f = true) (ho : okA T a v) : okA T f v := by
  unfold tle at h
  obtain ⟨h1, h2⟩ := z_and h
  have h1 := Nat.eq_of_beq_eq_true h1
  unfold okA at ho ⊢
  rw [h1] at ho
  split at h2
  · next q =>
    simp only [q] at ho ⊢
    obtain ⟨g1, g2⟩ := z_and h2
    obtain ⟨x, e, b1, b2⟩ := ho
    exact ⟨x, e, Int.le_trans (of_decide_eq_true g1) b1, Int.le_trans b2 (of_decide_eq_true g2)⟩
  · next q =>
    simp only [q] at ho ⊢
    obtain ⟨g1, g2⟩ := z_and h2
    obtain ⟨x, e, b1, b2⟩ := ho
    exact ⟨x, e, Int.le_trans (of_decide_eq_true g1) b1, Int.le_trans b2 (of_decide_eq_true g2)⟩
  · next q =>
    simp only [q] at ho ⊢
    have h2 : a.2.2.2.1 = f.2.2.2.1 := Nat.eq_of_beq_eq_true h2
    rw [h2] at ho
    exact ho
  · next q =>
    simp only [q] at ho ⊢
    have h2 : a.2.2.2.1 = f.2.2.2.1 := Nat.eq_of_beq_eq_true h2
    rw [h2] at ho
    exact ho
  · cases h2
theorem tles_ok {T : List Nat} {L : zL} : ∀ {l f : List tA} {vs : List zV}, tles l f = true → okSt T L l vs → okAs T f vs
  | [], [], [], _, _ => trivial
  | _ :: _, _ :: _, _ :: _, h, h2 => ⟨tle_ok (z_and h).1 h2.1.1, tles_ok (z_and h).2 h2.2⟩
  | [], [], _ :: _, _, h2 => h2.elim
  | _ :: _, _ :: _, [], _, h2 => h2.elim
  | [], _ :: _, _, h, _ => absurd h Bool.false_ne_true
  | _ :: _, [], _, h, _ => absurd h Bool.false_ne_true
theorem tleL_ok {T : List Nat} {aL fL : tL} {L : zL} (h : tleL aL fL = true) (hL : okL T aL L) : okL T fL L := by
  intro p hp
  have h1 := List.all_eq_true.mp h p hp
  split at h1
  · next a ha =>
    obtain ⟨v, h2, h3⟩ := tget_ok hL ha
    exact ⟨v, h2, tle_ok h1 h3⟩
  · cases h1
theorem zof_mk {pc t : Nat} {off : Int} {k : Nat → Bool} (h : (pc : Int) + off = (t : Int)) (hk : k t = true) : zof pc off k = true := by
  unfold zof
  rw [h]
  exact hk
theorem zmk_cmp (p q : Int) : ∃ z : Int32, zmk (if q < p then 1 else if q ≤ p then 0 else -1) (if p < q then -1 else if p ≤ q then 0 else 1) = .inl (.int z) ∧ -1 ≤ z.toInt ∧ z.toInt ≤ 1 := by
  by_cases h1 : q < p
  · have n1 : ¬ p < q := by omega
    have n2 : ¬ p ≤ q := by omega
    rw [if_pos h1, if_neg n1, if_neg n2]
    exact ⟨1, rfl, by decide, by decide⟩
  · by_cases h2 : p < q
    · have n2 : ¬ q ≤ p := by omega
      rw [if_neg h1, if_neg n2, if_pos h2]
      exact ⟨-1, rfl, by decide, by decide⟩
    · have n2 : q ≤ p := by omega
      have n3 : p ≤ q := by omega
      rw [if_neg h1, if_pos n2, if_neg h2, if_pos n3]
      exact ⟨0, rfl, by decide, by decide⟩
theorem zcmp_ex (x y : Int64) : ∃ z : Int32, zcmpL (.inl (.long x)) (.inl (.long y)) = .inl (.int z) ∧ -1 ≤ z.toInt ∧ z.toInt ≤ 1 := zmk_cmp x.toInt y.toInt
theorem okTag_fog2 {L L' : zL} {k : Nat} (hk : ∀ (j : Nat) (x : Int32), j ≠ k → j ≠ k + 1 → zget L j = some (.inl (.int x)) → zget L' j = some (.inl (.int x))) {a : tA} {v : zV} (h : okTag L a v) : okTag L' (tfog1 k (tfog1 (k + 1) a)) v := by
  refine ⟨fun j hj he => ?_, fun c hc hv => ?_⟩
  · have hj : a.1 ≤ 1 := hj
    have he : (if a.1 ≤ 1 ∧ (if a.1 ≤ 1 ∧ a.2.2.2.1 = k + 1 + 1 then 0 else a.2.2.2.1) = k + 1 then 0 else (if a.1 ≤ 1 ∧ a.2.2.2.1 = k + 1 + 1 then 0 else a.2.2.2.1)) = j + 1 := he
    by_cases q1 : a.1 ≤ 1 ∧ a.2.2.2.1 = k + 1 + 1
    · rw [if_pos q1] at he
      split at he <;> omega
    · rw [if_neg q1] at he
      split at he
      · omega
      · next q2 =>
        obtain ⟨x, h1, h2⟩ := h.1 j hj he
        exact ⟨x, hk j x (fun e => q2 ⟨hj, by omega⟩) (fun e => q1 ⟨hj, by omega⟩) h1, h2⟩
  · obtain ⟨hc1, hc2⟩ := List.mem_filter.mp hc
    obtain ⟨hc3, hc4⟩ := List.mem_filter.mp hc1
    obtain ⟨x, h1, h2⟩ := h.2 c hc3 hv
    refine ⟨x, hk _ x (fun e => ?_) (fun e => ?_) h1, h2⟩
    · rw [z_beq, e] at hc2
      simp at hc2
    · rw [z_beq, e] at hc4
      simp at hc4
theorem okSt_fog2 {T : List Nat} {L L' : zL} {k : Nat} (hk : ∀ (j : Nat) (x : Int32), j ≠ k → j ≠ k + 1 → zget L j = some (.inl (.int x)) → zget L' j = some (.inl (.int x))) : ∀ {l : List tA} {vs : List zV}, okSt T L l vs → okSt T L' (tfog k (tfog (k + 1) l)) vs
  | [], [], _ => trivial
  | _ :: _, _ :: _, h => ⟨⟨okA_fog (okA_fog h.1.1), okTag_fog2 hk h.1.2⟩, okSt_fog2 hk h.2⟩
  | [], _ :: _, h => h.elim
  | _ :: _, [], h => h.elim
def tSt (ty : Nat → tTy) (Φ : List Nat → zH → Prop) (fx : List Nat) (L0 : zL) (N0 rc : Nat) (T0 T : List Nat) (aL : tL) (st : List tA) (nc ns : Nat) (x : zS) : Prop :=
  okL T aL x.2.1 ∧ okSt T x.2.1 st x.2.2.1 ∧ hOK ty T x.2.2.2.1 ∧ Φ T x.2.2.2.1 ∧ x.2.2.2.1.length ≤ N0 + nc ∧ x.2.2.2.2.1 = nc ∧ x.2.2.2.2.2 = ns ∧ (∀ k ∈ fx, zget x.2.1 k = zget L0 k) ∧ tExt T0 T ∧ nc ≤ rc
section
variable {ty : Nat → tTy} {tB : Nat} {prog : Nat → Option zE} {sm : Nat → List tE} {hts : Nat → Nat} {fx : List Nat} {D0 nL rc rs N0 : Nat} {scr : List zV} {cc : zK} {Φ : List Nat → zH → Prop} {G : zS → Prop} {L0 L : zL} {T0 T : List Nat} {K : tK} {aL : tL} {st : List tA} {stk : List zV} {h : zH} {pc nc ns : Nat}
theorem tpu (KG : ∀ (T : List Nat) (pc : Nat) (aL : tL) (st : List tA) (nc ns : Nat) (x : zS), x.1 = pc → K pc aL st nc ns = true → tSt ty Φ fx L0 N0 rc T0 T aL st nc ns x → G x) (hS : tSt ty Φ fx L0 N0 rc T0 T aL st nc ns (pc, L, stk, h, nc, ns)) {pc' : Nat} {st' : List tA} {stk' : List zV} (hk : K pc' aL st' nc ns = true) (hst : okSt T L st' stk') : zB (G (pc', L, stk', h, nc, ns)) = true :=
  zB_iff.mpr (KG T pc' aL st' nc ns _ rfl hk ⟨hS.1, hst, hS.2.2.1, hS.2.2.2.1, hS.2.2.2.2.1, rfl, rfl, hS.2.2.2.2.2.2.2⟩)
theorem tlc (KG : ∀ (T : List Nat) (pc : Nat) (aL : tL) (st : List tA) (nc ns : Nat) (x : zS), x.1 = pc → K pc aL st nc ns = true → tSt ty Φ fx L0 N0 rc T0 T aL st nc ns x → G x) (hS : tSt ty Φ fx L0 N0 rc T0 T aL st nc ns (pc, L, stk, h, nc, ns)) {pc' : Nat} {aL' : tL} {st' : List tA} {stk' : List zV} (hk : K pc' aL' st' nc ns = true) (hL : okL T aL' L) (hst : okSt T L st' stk') : zB (G (pc', L, stk', h, nc, ns)) = true :=
  zB_iff.mpr (KG T pc' aL' st' nc ns _ rfl hk ⟨hL, hst, hS.2.2.1, hS.2.2.2.1, hS.2.2.2.2.1, rfl, rfl, hS.2.2.2.2.2.2.2⟩)
theorem tlc1 (KG : ∀ (T : List Nat) (pc : Nat) (aL : tL) (st : List tA) (nc ns : Nat) (x : zS), x.1 = pc → K pc aL st nc ns = true → tSt ty Φ fx L0 N0 rc T0 T aL st nc ns x → G x) (hS : tSt ty Φ fx L0 N0 rc T0 T aL st nc ns (pc, L, stk, h, nc, ns)) (hf0 : ∀ k ∈ fx, ∃ x : Int32, zget L0 k = some (.inl (.int x))) {pc' k : Nat} {a : tA} {v : zV} {st' : List tA} {stk' : List zV} (hk : K pc' (tput aL k a) (tfog k st') nc ns = true) (ha : okA T a v) (hfx : fx.contains k = false) (hst : okSt T L st' stk') : zB (G (pc', zst1 L k v, stk', h, nc, ns)) = true := by
  refine zB_iff.mpr (KG T pc' _ _ nc ns _ rfl hk ⟨tput_ok hS.1 ha, okSt_fog (fun j x hj hg => zst1_keep j x hj hg) hst, hS.2.2.1, hS.2.2.2.1, hS.2.2.2.2.1, rfl, rfl, fun j hj => ?_, hS.2.2.2.2.2.2.2.2⟩)
  have hne : j ≠ k := fun e => by
    subst e
    rw [List.contains_iff_mem.mpr hj] at hfx
    cases hfx
  have h9 : zget L j = zget L0 j := hS.2.2.2.2.2.2.2.1 j hj
  obtain ⟨x, hx⟩ := hf0 j hj
  show zget (zst1 L k v) j = _
  rw [hx]
  rw [hx] at h9
  exact zst1_keep j x hne h9
theorem tlc2 (KG : ∀ (T : List Nat) (pc : Nat) (aL : tL) (st : List tA) (nc ns : Nat) (x : zS), x.1 = pc → K pc aL st nc ns = true → tSt ty Φ fx L0 N0 rc T0 T aL st nc ns x → G x) (hS : tSt ty Φ fx L0 N0 rc T0 T aL st nc ns (pc, L, stk, h, nc, ns)) (hf0 : ∀ k ∈ fx, ∃ x : Int32, zget L0 k = some (.inl (.int x))) {pc' k : Nat} {a : tA} {v : zV} {st' : List tA} {stk' : List zV} (hk : K pc' (tput2 aL k a) (tfog k (tfog (k + 1) st')) nc ns = true) (ha : okA T a v) (hl : tlong a = true) (hfx : fx.contains k = false) (hfx2 : fx.contains (k + 1) = false) (hst : okSt T L st' stk') : zB (G (pc', zst2 L k v, stk', h, nc, ns)) = true := by
  refine zB_iff.mpr (KG T pc' _ _ nc ns _ rfl hk ⟨tput2_ok hS.1 ha hl, ?_, hS.2.2.1, hS.2.2.2.1, hS.2.2.2.2.1, rfl, rfl, fun j hj => ?_, hS.2.2.2.2.2.2.2.2⟩)
  · exact okSt_fog2 (fun j x hj hj2 hg => zst2_get hg hj hj2 (Or.inr (by show (1 : Nat) ≠ 2; omega))) hst
  · have hne : j ≠ k := fun e => by
      subst e
      rw [List.contains_iff_mem.mpr hj] at hfx
      cases hfx
    have hne2 : j ≠ k + 1 := fun e => by
      subst e
      rw [List.contains_iff_mem.mpr hj] at hfx2
      cases hfx2
    have h9 : zget L j = zget L0 j := hS.2.2.2.2.2.2.2.1 j hj
    obtain ⟨x, hx⟩ := hf0 j hj
    show zget (zst2 L k v) j = _
    rw [hx]
    rw [hx] at h9
    exact zst2_get h9 hne hne2 (Or.inr (by show (1 : Nat) ≠ 2; omega))
end
