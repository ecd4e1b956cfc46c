theorem okS_w {T : List Nat} {τ i : Nat} {v : zV} (h4 : okS T ((zty τ).2.2 i) v) : okS T ((kty τ).2.2 i) v := by
  by_cases e : ((zty τ).2.2 i).1 = 0
  · rw [kty_0 e]
    unfold okS at h4
    rw [e] at h4
    obtain ⟨x, rfl, -, -⟩ := h4
    exact okS_int
  · rw [kty_n e]
    exact h4
theorem hOK_appk {T ts : List Nat} {h cs : zH} (hok : hOK kty T h) (hl : h.length + cs.length ≤ 1000000) (hc : okCs (T ++ ts) ts cs) : hOK kty (T ++ ts) (h ++ cs) := by
  refine ⟨?_, ?_, fun q τ hq => ?_⟩
  · rw [List.length_append, List.length_append, hok.1, okCs_len hc]
  · rw [List.length_append]
    exact hl
  · by_cases e : q < T.length
    · rw [List.getElem?_append_left e] at hq
      obtain ⟨vs, h1, h2, h3⟩ := hok.2.2 q τ hq
      refine ⟨vs, ?_, h2, fun i v hv => okS_mono2 (tExt_app T ts) (h3 i v hv)⟩
      rw [List.getElem?_append_left (by rw [hok.1]; exact e)]
      exact h1
    · rw [List.getElem?_append_right (by omega)] at hq
      obtain ⟨c, h1, h2, h3, h4⟩ := okCs_at hc hq
      refine ⟨c.2, ?_, h3, fun i v hv => okS_w (h4 i v hv)⟩
      rw [List.getElem?_append_right (by rw [hok.1]; omega), hok.1, h1]
      show some c = some ((zty τ).1, c.2)
      rw [← h2]
theorem hOK_put3 {T : List Nat} {h : zH} {q τ i : Nat} {v : zV} (K : hOK kty T h) (hq : T[q]? = some τ) (hk : ((zty τ).2.2 i).1 = 3) : hOK kty T (hput h q i v) := hOK_put K hq (by
  rw [kty_n (by rw [hk]; decide)]
  unfold okS
  rw [hk]
  trivial)
theorem hget_app {h cs : zH} {q i : Nat} (hq : q < h.length) : hget (h ++ cs) q i = hget h q i := by
  unfold hget
  rw [List.getElem?_append_left hq]
theorem kOK_app {W : List (Nat × Nat)} {T ts : List Nat} {h cs : zH} (K : hOK kty T h) (K1 : hOK kty (T ++ ts) (h ++ cs)) : kOK W T (T ++ ts) h (h ++ cs) := ⟨K1, tExt_app T ts, fun q τ i hq _ => hget_app (by
  have := (List.getElem?_eq_some_iff.mp hq).1
  rw [K.1]
  exact this)⟩
theorem hput_at {h : zH} {q i τ : Nat} {T : List Nat} {v : zV} (K : hOK kty T h) (hq : T[q]? = some τ) (hi : i < (zty τ).2.1) : hget (hput h q i v) q i = some v := by
  obtain ⟨w, hw, -⟩ := hOK_get K hq hi
  exact hget_put hw
theorem hr_of {h : zH} {q i w : Nat} (e : hget h q i = some (.inl (.ref w))) : hr h q i = w := by
  unfold hr
  rw [e]
/-- a new one, kept in slot i -/
def hM (i : Nat) (h : zH) (q : Nat) : zH := hput (iHp h 22 29) q i (.inl (.ref h.length))
theorem iHp_ok {T : List Nat} {h : zH} (K : hOK kty T h) (hl : T.length ≤ 900000) : hOK kty (T ++ iTys) (iHp h 22 29) := by
  refine hOK_appk K ?_ (by rw [K.1]; exact iAll_ok T)
  have e : ((5, iObj T.length 22) :: (iCells T.length).take 29 : zH).length = 30 := okCs_len (iAll_ok T)
  rw [K.1, e]
  omega
theorem hM_ok {T : List Nat} {h : zH} {q i : Nat} {W : List (Nat × Nat)} (K : hOK kty T h) (hl : T.length ≤ 900000) (hq : T[q]? = some 5) (hk : ((zty 5).2.2 i).1 = 3) (hi : i < (zty 5).2.1) (hw : wIn W 5 i = true) : kOK W T (T ++ iTys) h (hM i h q) ∧ kN (T ++ iTys) (hM i h q) q i 6 := by
  have K1 := iHp_ok K hl
  have hq1 := tExt_app T iTys _ _ hq
  have K2 : kOK W T (T ++ iTys) h (iHp h 22 29) := kOK_app K K1
  have K3 := hOK_put3 (v := .inl (.ref h.length)) K1 hq1 hk
  refine ⟨kOK_put K2 hq1 hw K3, ?_⟩
  have e := hput_at (v := .inl (.ref h.length)) K1 hq1 hi
  have e2 : hr (hM i h q) q i = h.length := hr_of e
  refine ⟨by rw [e2]; exact e, ?_⟩
  rw [e2, K.1, List.getElem?_append_right (Nat.le_refl _), Nat.sub_self]
  rfl
section
variable {E : zE} {scr : List zV} {rc rs : Nat} {cc : zK} {r : Option zV} {h' : zH} {G : Nat → Prop → zS → Prop} {m : Nat} {P : Prop}
variable {pc nc ns d0 : Nat} {L : zL} {st : List zV} {h : zH} {T : List Nat} {q τ : Nat} {v : zV} {cv : zV} {a b c e9 : Nat} {w : zV × Nat × Nat × Nat × Nat}
theorem k_new (HG : G = GL E scr rc rs cc r h') {ix : Nat} (hf : zft (zEd E) pc = some (.new ix, cv, a, b, c, e9)) (kk : G m P (pc + 3, L, .inl (.ref h.length) :: st, h ++ [(a, zdfl a)], nc + 1, ns + zNf a)) : G m P (pc, L, st, h, nc, ns) := by
  refine k_lib HG hf rfl (fun _ hz => ?_)
  simp only [zstep] at hz ⊢
  obtain ⟨z1, hz⟩ := z_and hz
  obtain ⟨z2, hz⟩ := z_and hz
  obtain ⟨z3, -⟩ := z_and hz
  exact t_and2 z1 (t_and2 z2 (t_and2 z3 (zB_iff.mpr kk)))
theorem k_put0 (HG : G = GL E scr rc rs cc r h') {ix : Nat} (hf : zft (zEd E) pc = some (.putfield ix, cv, a, b, c, e9)) (K : hOK kty T h) (hq : T[q]? = some τ) (ht : (zty τ).1 = a) (kk : G m P (pc + 3, L, st, hput h q b v, nc, ns)) : G m P (pc, L, v :: .inl (.ref q) :: st, h, nc, ns) :=
  k_putF (W := []) HG hf (kOK_refl K) hq ht kk
end
/-- the constructor of the reference, whatever stands behind it -/
theorem x_init {scr : List zV} {d : Nat} {h : zH} {r : Option zV} {h' : zH} (hl : h.length + 30 ≤ 1000000) (hx : xD scr d 192 [.inl (.ref h.length)] (h ++ [(5, zdfl 5)]) r h') : r = none ∧ h' = iHp h 22 29 := by
  cases d with
  | zero => exact absurd hx (fun q => xD_zero q)
  | succ d =>
    have h1 := c_init (scr := scr) (d := d) (h := h) (post := fun v w => zB (v = none ∧ w = iHp h 22 29)) hl (zB_iff.mpr ⟨rfl, rfl⟩)
    rw [hx] at h1
    exact zB_iff.mp h1
