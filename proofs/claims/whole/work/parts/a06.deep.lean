/-- a slot that may be null, and isn't -/
def kN (T : List Nat) (h : zH) (q i σ : Nat) : Prop := hget h q i = some (.inl (.ref (hr h q i))) ∧ T[hr h q i]? = some σ
theorem hr_eq {h h' : zH} {q i : Nat} (e : hget h' q i = hget h q i) : hr h' q i = hr h q i := by
  unfold hr
  rw [e]
theorem kN_of {W : List (Nat × Nat)} {T0 T : List Nat} {h0 h : zH} {q i σ τ : Nat} (V : kN T0 h0 q i σ) (K : kOK W T0 T h0 h) (hq : T0[q]? = some τ) (hw : wIn W τ i = false) : kN T h q i σ := by
  have e := K.2.2 q τ i hq hw
  have e2 := hr_eq e
  refine ⟨by rw [e, e2]; exact V.1, ?_⟩
  rw [e2]
  exact K.2.1 _ _ V.2
theorem kNul_of {W : List (Nat × Nat)} {T0 T : List Nat} {h0 h : zH} {q i τ : Nat} {v : zV} (V : hget h0 q i = some v) (K : kOK W T0 T h0 h) (hq : T0[q]? = some τ) (hw : wIn W τ i = false) : hget h q i = some v := (K.2.2 q τ i hq hw).trans V
section
variable {E : zE} {scr : List zV} {rc rs : Nat} {cc : zK} {r : Option zV} {h' : zH} {G : Nat → Prop → zS → Prop} {m : Nat} {P : Prop} {α : Type} {Pf : α → Prop}
variable {W V : List (Nat × Nat)} {h0 : zH} {T0 T' : List Nat} {pc nc ns d0 : Nat} {L : zL} {st : List zV} {h : zH} {T : List Nat} {q τ : Nat} {v : zV} {cv : zV} {a b c e9 : Nat} {w : zV × Nat × Nat × Nat × Nat}
theorem k_getN (HG : G = GL E scr rc rs cc r h') {ix : Nat} (hf : zft (zEd E) pc = some (.getfield ix, cv, a, b, c, e9)) (K : kOK W T0 T h0 h) (hq : T[q]? = some τ) (ht : (zty τ).1 = a) {σ : Nat} (V : kN T h q b σ) (kk : T[hr h q b]? = some σ → G m P (pc + 3, L, .inl (.ref (hr h q b)) :: st, h, nc, ns)) : G m P (pc, L, .inl (.ref q) :: st, h, nc, ns) :=
  k_get HG hf K hq ht V.1 (kk V.2)
theorem k_get0 (HG : G = GL E scr rc rs cc r h') {ix : Nat} (hf : zft (zEd E) pc = some (.getfield ix, cv, a, b, c, e9)) (K : kOK W T0 T h0 h) (hq : T[q]? = some τ) (ht : (zty τ).1 = a) (V : hget h q b = some (.inl .null)) (kk : G m P (pc + 3, L, .inl .null :: st, h, nc, ns)) : G m P (pc, L, .inl (.ref q) :: st, h, nc, ns) :=
  k_get HG hf K hq ht V kk
theorem kOK_wk {V W : List (Nat × Nat)} {T0 T : List Nat} {h0 h : zH} (hs : wSub V W = true) (K : kOK V T0 T h0 h) : kOK W T0 T h0 h := ⟨K.1, K.2.1, fun q τ i hq hw => K.2.2 q τ i hq (wSub_ok hs hw)⟩
def xIHd (scr : List zV) (W : List (Nat × Nat)) (T T' : List Nat) (Q : Int32 × zH → Prop) (d j : Nat) (vs : List zV) (h : zH) (v : Int32 × zH) : Prop := ∀ r h', xD scr d j vs h r h' → r = some (.inl (.int v.1)) ∧ h' = v.2 ∧ kOK W T T' h h' ∧ Q v
def xIHe (scr : List zV) (W : List (Nat × Nat)) (T : List Nat) (d j : Nat) (vs : List zV) (h : zH) (v : Int32 × zH) : Prop := ∀ r h', xD scr d j vs h r h' → r = some (.inl (.int v.1)) ∧ h' = v.2 ∧ ∃ T', kOK W T T' h h'
def xJHd (scr : List zV) (W : List (Nat × Nat)) (T T' : List Nat) (Q : Int64 × zH → Prop) (d j : Nat) (vs : List zV) (h : zH) (v : Int64 × zH) : Prop := ∀ r h', xD scr d j vs h r h' → r = some (.inl (.long v.1)) ∧ h' = v.2 ∧ kOK W T T' h h' ∧ Q v
def xJHe (scr : List zV) (W : List (Nat × Nat)) (T : List Nat) (d j : Nat) (vs : List zV) (h : zH) (v : Int64 × zH) : Prop := ∀ r h', xD scr d j vs h r h' → r = some (.inl (.long v.1)) ∧ h' = v.2 ∧ ∃ T', kOK W T T' h h'
def xRHd (scr : List zV) (W : List (Nat × Nat)) (T T' : List Nat) (Q : Nat × zH → Prop) (d j : Nat) (vs : List zV) (h : zH) (v : Nat × zH) : Prop := ∀ r h', xD scr d j vs h r h' → r = some (.inl (.ref v.1)) ∧ h' = v.2 ∧ kOK W T T' h h' ∧ Q v
def xRHe (scr : List zV) (W : List (Nat × Nat)) (T : List Nat) (d j : Nat) (vs : List zV) (h : zH) (v : Nat × zH) : Prop := ∀ r h', xD scr d j vs h r h' → r = some (.inl (.ref v.1)) ∧ h' = v.2 ∧ ∃ T', kOK W T T' h h'
def xHd (scr : List zV) (W : List (Nat × Nat)) (T T' : List Nat) (Q : zH → Prop) (d j : Nat) (vs : List zV) (h : zH) (v : zH) : Prop := ∀ r h', xD scr d j vs h r h' → r = none ∧ h' = v ∧ kOK W T T' h h' ∧ Q v
def xHe (scr : List zV) (W : List (Nat × Nat)) (T : List Nat) (d j : Nat) (vs : List zV) (h : zH) (v : zH) : Prop := ∀ r h', xD scr d j vs h r h' → r = none ∧ h' = v ∧ ∃ T', kOK W T T' h h'
theorem k_cVIHd {ins : Instr} (HG : G = GL E scr rc rs (zD zprog scr d0) r h') {E' : zE} {ix : Nat} {rest : List zV} {u : Int32 × zH} {Q : Int32 × zH → Prop} {B : Int32 × zH → α} (hi : ins = .invokevirtual ix ∧ b = 0 ∨ ins = .invokespecial ix ∧ b = 0) (hsc : cT scr) (hf : zft (zEd E) pc = some (ins, cv, a, b, c, e9)) (hE : zprog a = some E') (hd : st.drop (zEp E') = .inl (.ref q) :: rest) (K : kOK W T0 T h0 h) (hs : wSub V W = true) (hx : cH h → xIHd scr V T T' Q d0 a (.inl (.ref q) :: (st.take (zEp E')).reverse) h u)
    (kk : ∀ y, kOK W T0 T' h0 y.2 → Q y → G m (Pf (B y)) (pc + 3, L, .inl (.int y.1) :: rest, y.2, nc + zEc E', ns + zEs E')) : G m (Pf (letf u B)) (pc, L, st, h, nc, ns) := by
  refine k_callV HG hi hsc hf hE hd (fun hh r1 g1 hd => ?_)
  obtain ⟨rfl, rfl, hk, hQ⟩ := hx hh r1 g1 hd
  exact kk _ (kOK_trans K hs hk) hQ
theorem k_cVJHd {ins : Instr} (HG : G = GL E scr rc rs (zD zprog scr d0) r h') {E' : zE} {ix : Nat} {rest : List zV} {u : Int64 × zH} {Q : Int64 × zH → Prop} {B : Int64 × zH → α} (hi : ins = .invokevirtual ix ∧ b = 0 ∨ ins = .invokespecial ix ∧ b = 0) (hsc : cT scr) (hf : zft (zEd E) pc = some (ins, cv, a, b, c, e9)) (hE : zprog a = some E') (hd : st.drop (zEp E') = .inl (.ref q) :: rest) (K : kOK W T0 T h0 h) (hs : wSub V W = true) (hx : cH h → xJHd scr V T T' Q d0 a (.inl (.ref q) :: (st.take (zEp E')).reverse) h u)
    (kk : ∀ y, kOK W T0 T' h0 y.2 → Q y → G m (Pf (B y)) (pc + 3, L, .inl (.long y.1) :: rest, y.2, nc + zEc E', ns + zEs E')) : G m (Pf (letf u B)) (pc, L, st, h, nc, ns) := by
  refine k_callV HG hi hsc hf hE hd (fun hh r1 g1 hd => ?_)
  obtain ⟨rfl, rfl, hk, hQ⟩ := hx hh r1 g1 hd
  exact kk _ (kOK_trans K hs hk) hQ
theorem k_cVRHd {ins : Instr} (HG : G = GL E scr rc rs (zD zprog scr d0) r h') {E' : zE} {ix : Nat} {rest : List zV} {u : Nat × zH} {Q : Nat × zH → Prop} {B : Nat × zH → α} (hi : ins = .invokevirtual ix ∧ b = 0 ∨ ins = .invokespecial ix ∧ b = 0) (hsc : cT scr) (hf : zft (zEd E) pc = some (ins, cv, a, b, c, e9)) (hE : zprog a = some E') (hd : st.drop (zEp E') = .inl (.ref q) :: rest) (K : kOK W T0 T h0 h) (hs : wSub V W = true) (hx : cH h → xRHd scr V T T' Q d0 a (.inl (.ref q) :: (st.take (zEp E')).reverse) h u)
    (kk : ∀ y, kOK W T0 T' h0 y.2 → Q y → G m (Pf (B y)) (pc + 3, L, .inl (.ref y.1) :: rest, y.2, nc + zEc E', ns + zEs E')) : G m (Pf (letf u B)) (pc, L, st, h, nc, ns) := by
  refine k_callV HG hi hsc hf hE hd (fun hh r1 g1 hd => ?_)
  obtain ⟨rfl, rfl, hk, hQ⟩ := hx hh r1 g1 hd
  exact kk _ (kOK_trans K hs hk) hQ
theorem k_cVHd {ins : Instr} (HG : G = GL E scr rc rs (zD zprog scr d0) r h') {E' : zE} {ix : Nat} {rest : List zV} {u : zH} {Q : zH → Prop} {B : zH → α} (hi : ins = .invokevirtual ix ∧ b = 0 ∨ ins = .invokespecial ix ∧ b = 0) (hsc : cT scr) (hf : zft (zEd E) pc = some (ins, cv, a, b, c, e9)) (hE : zprog a = some E') (hd : st.drop (zEp E') = .inl (.ref q) :: rest) (K : kOK W T0 T h0 h) (hs : wSub V W = true) (hx : cH h → xHd scr V T T' Q d0 a (.inl (.ref q) :: (st.take (zEp E')).reverse) h u)
    (kk : ∀ y, kOK W T0 T' h0 y → Q y → G m (Pf (B y)) (pc + 3, L, rest, y, nc + zEc E', ns + zEs E')) : G m (Pf (letf u B)) (pc, L, st, h, nc, ns) := by
  refine k_callV HG hi hsc hf hE hd (fun hh r1 g1 hd => ?_)
  obtain ⟨rfl, rfl, hk, hQ⟩ := hx hh r1 g1 hd
  exact kk _ (kOK_trans K hs hk) hQ
end
theorem xIHd_intro {E : zE} {scr : List zV} {W : List (Nat × Nat)} {T T' : List Nat} {Q : Int32 × zH → Prop} {d j : Nat} {vs : List zV} {h : zH} {v : Int32 × zH} (hsc : cT scr) (hE : zprog j = some E) (hv : cT vs) (hh : cH h) (hw : ∀ (r : Option zV) (h' : zH) (G : Nat → Prop → zS → Prop), G = GL E scr (zEc E) (zEs E) (zD zprog scr d) r h' → ∀ Pf : Int32 × zH → Prop, (∀ y hh, some (.inl (.int y)) = r → hh = h' → kOK W T T' h hh → Q (y, hh) → Pf (y, hh)) → ∀ m, G m (Pf v) (0, zarg 0 vs, [], h, 0, 0)) : xIHd scr W T T' Q (d + 1) j vs h v := fun r h' hx => by
  obtain ⟨n, hn⟩ := xD_run hsc hE hv hh hx
  exact hw r h' _ rfl (fun v => r = some (.inl (.int v.1)) ∧ h' = v.2 ∧ kOK W T T' h h' ∧ Q v) (fun _ _ e1 e2 k q => ⟨e1.symm, e2.symm, e2 ▸ k, q⟩) n n (Nat.le_refl _) hn
theorem xJHd_intro {E : zE} {scr : List zV} {W : List (Nat × Nat)} {T T' : List Nat} {Q : Int64 × zH → Prop} {d j : Nat} {vs : List zV} {h : zH} {v : Int64 × zH} (hsc : cT scr) (hE : zprog j = some E) (hv : cT vs) (hh : cH h) (hw : ∀ (r : Option zV) (h' : zH) (G : Nat → Prop → zS → Prop), G = GL E scr (zEc E) (zEs E) (zD zprog scr d) r h' → ∀ Pf : Int64 × zH → Prop, (∀ y hh, some (.inl (.long y)) = r → hh = h' → kOK W T T' h hh → Q (y, hh) → Pf (y, hh)) → ∀ m, G m (Pf v) (0, zarg 0 vs, [], h, 0, 0)) : xJHd scr W T T' Q (d + 1) j vs h v := fun r h' hx => by
  obtain ⟨n, hn⟩ := xD_run hsc hE hv hh hx
  exact hw r h' _ rfl (fun v => r = some (.inl (.long v.1)) ∧ h' = v.2 ∧ kOK W T T' h h' ∧ Q v) (fun _ _ e1 e2 k q => ⟨e1.symm, e2.symm, e2 ▸ k, q⟩) n n (Nat.le_refl _) hn
theorem xRHd_intro {E : zE} {scr : List zV} {W : List (Nat × Nat)} {T T' : List Nat} {Q : Nat × zH → Prop} {d j : Nat} {vs : List zV} {h : zH} {v : Nat × zH} (hsc : cT scr) (hE : zprog j = some E) (hv : cT vs) (hh : cH h) (hw : ∀ (r : Option zV) (h' : zH) (G : Nat → Prop → zS → Prop), G = GL E scr (zEc E) (zEs E) (zD zprog scr d) r h' → ∀ Pf : Nat × zH → Prop, (∀ y hh, some (.inl (.ref y)) = r → hh = h' → kOK W T T' h hh → Q (y, hh) → Pf (y, hh)) → ∀ m, G m (Pf v) (0, zarg 0 vs, [], h, 0, 0)) : xRHd scr W T T' Q (d + 1) j vs h v := fun r h' hx => by
  obtain ⟨n, hn⟩ := xD_run hsc hE hv hh hx
  exact hw r h' _ rfl (fun v => r = some (.inl (.ref v.1)) ∧ h' = v.2 ∧ kOK W T T' h h' ∧ Q v) (fun _ _ e1 e2 k q => ⟨e1.symm, e2.symm, e2 ▸ k, q⟩) n n (Nat.le_refl _) hn
theorem xHd_intro {E : zE} {scr : List zV} {W : List (Nat × Nat)} {T T' : List Nat} {Q : zH → Prop} {d j : Nat} {vs : List zV} {h : zH} {v : zH} (hsc : cT scr) (hE : zprog j = some E) (hv : cT vs) (hh : cH h) (hw : ∀ (r : Option zV) (h' : zH) (G : Nat → Prop → zS → Prop), G = GL E scr (zEc E) (zEs E) (zD zprog scr d) r h' → ∀ Pf : zH → Prop, (∀ hh, (none : Option zV) = r → hh = h' → kOK W T T' h hh → Q hh → Pf hh) → ∀ m, G m (Pf v) (0, zarg 0 vs, [], h, 0, 0)) : xHd scr W T T' Q (d + 1) j vs h v := fun r h' hx => by
  obtain ⟨n, hn⟩ := xD_run hsc hE hv hh hx
  exact hw r h' _ rfl (fun v => r = none ∧ h' = v ∧ kOK W T T' h h' ∧ Q v) (fun _ e1 e2 k q => ⟨e1.symm, e2.symm, e2 ▸ k, q⟩) n n (Nat.le_refl _) hn
theorem xIHe_intro {E : zE} {scr : List zV} {W : List (Nat × Nat)} {T : List Nat} {d j : Nat} {vs : List zV} {h : zH} {v : Int32 × zH} (hsc : cT scr) (hE : zprog j = some E) (hv : cT vs) (hh : cH h) (hw : ∀ (r : Option zV) (h' : zH) (G : Nat → Prop → zS → Prop), G = GL E scr (zEc E) (zEs E) (zD zprog scr d) r h' → ∀ Pf : Int32 × zH → Prop, (∀ y hh T', some (.inl (.int y)) = r → hh = h' → kOK W T T' h hh → Pf (y, hh)) → ∀ m, G m (Pf v) (0, zarg 0 vs, [], h, 0, 0)) : xIHe scr W T (d + 1) j vs h v := fun r h' hx => by
  obtain ⟨n, hn⟩ := xD_run hsc hE hv hh hx
  exact hw r h' _ rfl (fun v => r = some (.inl (.int v.1)) ∧ h' = v.2 ∧ ∃ T', kOK W T T' h h') (fun _ _ T' e1 e2 k => ⟨e1.symm, e2.symm, T', e2 ▸ k⟩) n n (Nat.le_refl _) hn
theorem xJHe_intro {E : zE} {scr : List zV} {W : List (Nat × Nat)} {T : List Nat} {d j : Nat} {vs : List zV} {h : zH} {v : Int64 × zH} (hsc : cT scr) (hE : zprog j = some E) (hv : cT vs) (hh : cH h) (hw : ∀ (r : Option zV) (h' : zH) (G : Nat → Prop → zS → Prop), G = GL E scr (zEc E) (zEs E) (zD zprog scr d) r h' → ∀ Pf : Int64 × zH → Prop, (∀ y hh T', some (.inl (.long y)) = r → hh = h' → kOK W T T' h hh → Pf (y, hh)) → ∀ m, G m (Pf v) (0, zarg 0 vs, [], h, 0, 0)) : xJHe scr W T (d + 1) j vs h v := fun r h' hx => by
  obtain ⟨n, hn⟩ := xD_run hsc hE hv hh hx
  exact hw r h' _ rfl (fun v => r = some (.inl (.long v.1)) ∧ h' = v.2 ∧ ∃ T', kOK W T T' h h') (fun _ _ T' e1 e2 k => ⟨e1.symm, e2.symm, T', e2 ▸ k⟩) n n (Nat.le_refl _) hn
theorem xRHe_intro {E : zE} {scr : List zV} {W : List (Nat × Nat)} {T : List Nat} {d j : Nat} {vs : List zV} {h : zH} {v : Nat × zH} (hsc : cT scr) (hE : zprog j = some E) (hv : cT vs) (hh : cH h) (hw : ∀ (r : Option zV) (h' : zH) (G : Nat → Prop → zS → Prop), G = GL E scr (zEc E) (zEs E) (zD zprog scr d) r h' → ∀ Pf : Nat × zH → Prop, (∀ y hh T', some (.inl (.ref y)) = r → hh = h' → kOK W T T' h hh → Pf (y, hh)) → ∀ m, G m (Pf v) (0, zarg 0 vs, [], h, 0, 0)) : xRHe scr W T (d + 1) j vs h v := fun r h' hx => by
  obtain ⟨n, hn⟩ := xD_run hsc hE hv hh hx
  exact hw r h' _ rfl (fun v => r = some (.inl (.ref v.1)) ∧ h' = v.2 ∧ ∃ T', kOK W T T' h h') (fun _ _ T' e1 e2 k => ⟨e1.symm, e2.symm, T', e2 ▸ k⟩) n n (Nat.le_refl _) hn
theorem xHe_intro {E : zE} {scr : List zV} {W : List (Nat × Nat)} {T : List Nat} {d j : Nat} {vs : List zV} {h : zH} {v : zH} (hsc : cT scr) (hE : zprog j = some E) (hv : cT vs) (hh : cH h) (hw : ∀ (r : Option zV) (h' : zH) (G : Nat → Prop → zS → Prop), G = GL E scr (zEc E) (zEs E) (zD zprog scr d) r h' → ∀ Pf : zH → Prop, (∀ hh T', (none : Option zV) = r → hh = h' → kOK W T T' h hh → Pf hh) → ∀ m, G m (Pf v) (0, zarg 0 vs, [], h, 0, 0)) : xHe scr W T (d + 1) j vs h v := fun r h' hx => by
  obtain ⟨n, hn⟩ := xD_run hsc hE hv hh hx
  exact hw r h' _ rfl (fun v => r = none ∧ h' = v ∧ ∃ T', kOK W T T' h h') (fun _ T' e1 e2 k => ⟨e1.symm, e2.symm, T', e2 ▸ k⟩) n n (Nat.le_refl _) hn
