def cTb (l : List zV) : Bool := l.all (fun v => match v with
  | .inl _ => true
  | .inr _ => false)
theorem cTb_ok {l : List zV} (h : cTb l = true) : cT l := fun v hv => by
  have h1 := List.all_eq_true.mp h v hv
  cases v with
  | inl x => exact ⟨x, rfl⟩
  | inr z => cases h1
theorem k_sw {x y : Int32} {z : Int} (h : x.toInt = z) (e : y.toInt = z) : x = y := Int32.toInt_inj.mp (h.trans e.symm)
theorem k_swn {x y : Int32} {lo hi : Int} (h : x.toInt < lo ∨ hi < x.toInt) (e : lo ≤ y.toInt ∧ y.toInt ≤ hi) : ¬ x = y := fun q => by
  subst q
  omega
def sln (q : Nat) : Int32 := match zslen q with
  | some x => x
  | none => 0
def sch (q : Nat) (i : Int32) : Int32 := match zsch q i with
  | some x => x
  | none => 0
def hcpy (h : zH) (q0 sp q1 dp n : Nat) : zH := match h[q0]?, h[q1]? with
  | some f, some g => h.set q1 (g.1, zcpy f.2 g.2 sp dp n)
  | _, _ => h
section
variable {E : zE} {scr : List zV} {rc rs : Nat} {cc : zK} {r : Option zV} {h' : zH} {G : Nat → Prop → zS → Prop} {m : Nat} {P : Prop} {α : Type} {Pf : α → Prop}
variable {W : List (Nat × Nat)} {h0 : zH} {T0 : List Nat} {pc nc ns : Nat} {L : zL} {st : List zV} {h : zH} {T : List Nat} {q τ : Nat} {v : zV} {cv : zV} {a b c e9 : Nat} {w : zV × Nat × Nat × Nat × Nat}
theorem k_len (HG : G = GL E scr rc rs cc r h') (hf : zft (zEd E) pc = some (.arraylength, w)) (K : kOK W T0 T h0 h) (hq : T[q]? = some τ) (ht : 10 ≤ (zty τ).1) {n : Int32} (hn : n = Int32.ofNat (zty τ).2.1) (kk : G m P (pc + 1, L, .inl (.int n) :: st, h, nc, ns)) : G m P (pc, L, .inl (.ref q) :: st, h, nc, ns) := by
  obtain ⟨vs, h1, h2, h3⟩ := hOK_cell K.1 hq
  have h1 : h[q]? = some ((zty τ).1, vs) := h1
  have h2 : vs.length = (zty τ).2.1 := h2
  refine g_step (k_walk HG) hf rfl ?_
  simp only [zstep]
  rw [if_neg (show ¬ q = 10000000 by omega), h1]
  refine t_and2 (t_blt h3) (t_and2 (t_ble ht) (zB_iff.mpr ?_))
  show G m P (pc + 1, L, .inl (.int (Int32.ofNat vs.length)) :: st, h, nc, ns)
  rw [h2, ← hn]
  exact kk
theorem k_sln (HG : G = GL E scr rc rs cc r h') {ix : Nat} (hf : zft (zEd E) pc = some (.invokevirtual ix, cv, a, 8, c, e9)) (kk : G m P (pc + 3, L, .inl (.int (sln q)) :: st, h, nc, ns)) : G m P (pc, L, .inl (.ref q) :: st, h, nc, ns) := by
  refine k_lib HG hf rfl (fun _ hz => ?_)
  have hz : (match zslen q with
    | some x => Nat.ble (zsum st) 8 && true
    | none => false) = true := hz
  show (match zslen q with
    | some x => Nat.ble (zsum st) 8 && zB (G m P (pc + 3, L, .inl (.int x) :: st, h, nc, ns))
    | none => false) = true
  cases e : zslen q with
  | none =>
    rw [e] at hz
    cases hz
  | some x =>
    rw [e] at hz
    have ex : sln q = x := by
      unfold sln
      rw [e]
    rw [ex] at kk
    exact t_and2 (z_and hz).1 (zB_iff.mpr kk)
theorem k_sch (HG : G = GL E scr rc rs cc r h') {ix : Nat} {i : Int32} (hf : zft (zEd E) pc = some (.invokevirtual ix, cv, a, 11, c, e9)) (kk : G m P (pc + 3, L, .inl (.int (sch q i)) :: st, h, nc, ns)) : G m P (pc, L, .inl (.int i) :: .inl (.ref q) :: st, h, nc, ns) := by
  refine k_lib HG hf rfl (fun _ hz => ?_)
  have hz : (match zsch q i with
    | some x => Nat.ble (zsum st) 8 && true
    | none => false) = true := hz
  show (match zsch q i with
    | some x => Nat.ble (zsum st) 8 && zB (G m P (pc + 3, L, .inl (.int x) :: st, h, nc, ns))
    | none => false) = true
  cases e : zsch q i with
  | none =>
    rw [e] at hz
    cases hz
  | some x =>
    rw [e] at hz
    have ex : sch q i = x := by
      unfold sch
      rw [e]
    rw [ex] at kk
    exact t_and2 (z_and hz).1 (zB_iff.mpr kk)
theorem zcpy_at {f g : List zV} {sp dp n i : Nat} {v : zV} (hv : (zcpy f g sp dp n)[i]? = some v) : ∃ j : Nat, f[j]? = some v ∨ g[j]? = some v := by
  have hm := List.mem_of_getElem? hv
  unfold zcpy at hm
  rcases List.mem_append.mp hm with hm | hm
  · obtain ⟨j, hj⟩ := List.mem_iff_getElem?.mp (List.mem_of_mem_take hm)
    exact ⟨j, Or.inr hj⟩
  · rcases List.mem_append.mp hm with hm | hm
    · obtain ⟨j, hj⟩ := List.mem_iff_getElem?.mp (List.mem_of_mem_drop (List.mem_of_mem_take hm))
      exact ⟨j, Or.inl hj⟩
    · obtain ⟨j, hj⟩ := List.mem_iff_getElem?.mp (List.mem_of_mem_drop hm)
      exact ⟨j, Or.inr hj⟩
theorem kcpy_len {f g : List zV} {sp dp n : Nat} (h1 : sp + n ≤ f.length) (h2 : dp + n ≤ g.length) : (zcpy f g sp dp n).length = g.length := by
  unfold zcpy
  rw [List.length_append, List.length_append, List.length_take, List.length_take, List.length_drop, List.length_drop]
  omega
theorem hcpy_ok {κ σ : Nat} {q0 q1 sp dp n : Nat} {f g : List zV} (K : hOK kty T h) (hq0 : T[q0]? = some σ) (hq1 : T[q1]? = some τ) (e0 : h[q0]? = some ((zty σ).1, f)) (e1 : h[q1]? = some ((zty τ).1, g)) (hk0 : ∀ i, ((zty σ).2.2 i).1 = κ) (hk1 : ∀ i, ((zty τ).2.2 i).1 = κ) (hκ : κ = 0 ∨ κ = 1) (b0 : sp + n ≤ f.length) (b1 : dp + n ≤ g.length) : hOK kty T (h.set q1 ((zty τ).1, zcpy f g sp dp n)) := by
  obtain ⟨f', e0', l0, s0⟩ := K.2.2 q0 σ hq0
  obtain ⟨g', e1', l1, s1⟩ := K.2.2 q1 τ hq1
  have e0' : h[q0]? = some ((zty σ).1, f') := e0'
  have e1' : h[q1]? = some ((zty τ).1, g') := e1'
  rw [e0] at e0'
  rw [e1] at e1'
  cases e0'
  cases e1'
  refine hOK_set K hq1 e1 (kcpy_len b0 b1) (fun i v hv => ?_)
  obtain ⟨j, hj⟩ := zcpy_at hv
  rcases hκ with rfl | rfl
  · rw [kty_0 (hk1 i)]
    rcases hj with hj | hj
    · have := s0 j v hj
      rw [kty_0 (hk0 j)] at this
      exact this
    · have := s1 j v hj
      rw [kty_0 (hk1 j)] at this
      exact this
  · have t1 : ∀ {ρ i : Nat} {v : zV}, ((zty ρ).2.2 i).1 = 1 → (okS T ((kty ρ).2.2 i) v ↔ ∃ x : Int64, v = .inl (.long x)) := fun {ρ i v} hr => by
      rw [kty_n (by rw [hr]; decide)]
      unfold okS
      rw [hr]
      exact Iff.rfl
    rw [t1 (hk1 i)]
    rcases hj with hj | hj
    · exact (t1 (hk0 j)).mp (s0 j v hj)
    · exact (t1 (hk1 j)).mp (s1 j v hj)
theorem kOK_set {c1 : zC} (K : kOK W T0 T h0 h) (hq : T[q]? = some τ) (hw : wAll W τ = true) (hk : hOK kty T (h.set q c1)) : kOK W T0 T h0 (h.set q c1) := ⟨hk, K.2.1, fun q2 τ2 i2 hq2 hw2 => by
  rw [← K.2.2 q2 τ2 i2 hq2 hw2]
  have hne : q ≠ q2 := fun e => by
    subst e
    have hq2 := K.2.1 _ _ hq2
    rw [hq] at hq2
    cases hq2
    rw [wIn_all hw i2] at hw2
    cases hw2
  unfold hget
  rw [List.getElem?_set_ne hne]⟩
theorem hcpy_eq {q0 q1 sp dp n t0 t1 : Nat} {f g : List zV} (e0 : h[q0]? = some (t0, f)) (e1 : h[q1]? = some (t1, g)) : hcpy h q0 sp q1 dp n = h.set q1 (t1, zcpy f g sp dp n) := by
  unfold hcpy
  rw [e0, e1]
theorem k_acp {σ : Nat} (HG : G = GL E scr rc rs cc r h') {ix q0 q1 : Nat} {n dp sp : Int32} {B : zH → α} (hf : zft (zEd E) pc = some (.invokestatic ix, cv, a, 7, c, e9)) (K : kOK W T0 T h0 h) (hq0 : T[q0]? = some σ) (hq1 : T[q1]? = some τ) (ht0 : (zty σ).1 = 10) (ht1 : (zty τ).1 = 10) (hk0 : ∀ i, ((zty σ).2.2 i).1 = 0) (hk1 : ∀ i, ((zty τ).2.2 i).1 = 0) (hw : wAll W τ = true) (kk : ∀ h1, kOK W T0 T h0 h1 → G m (Pf (B h1)) (pc + 3, L, [], h1, nc, ns)) : G m (Pf (letf (hcpy h q0 sp.toNatClampNeg q1 dp.toNatClampNeg n.toNatClampNeg) B)) (pc, L, [.inl (.int n), .inl (.int dp), .inl (.ref q1), .inl (.int sp), .inl (.ref q0)], h, nc, ns) := by
  refine k_lib HG hf rfl (fun _ hz => ?_)
  obtain ⟨f, e0, l0, b0⟩ := hOK_cell K.1 hq0
  obtain ⟨g, e1, l1, b1⟩ := hOK_cell K.1 hq1
  have e0 : h[q0]? = some ((zty σ).1, f) := e0
  have e1 : h[q1]? = some ((zty τ).1, g) := e1
  have kk := fun b0 b1 => kk _ (kOK_set K hq1 hw (hcpy_ok (sp := sp.toNatClampNeg) (dp := dp.toNatClampNeg) (n := n.toNatClampNeg) K.1 hq0 hq1 e0 e1 hk0 hk1 (Or.inl rfl) b0 b1))
  rw [ht0] at e0
  rw [ht1] at e1
  have hz : (if n < 0 then false else if dp < 0 then false else if sp < 0 then false else zrow h q0 10 (fun f => zrow h q1 10 (fun g => Nat.ble (sp.toNatClampNeg + n.toNatClampNeg) f.length && (Nat.ble (dp.toNatClampNeg + n.toNatClampNeg) g.length && true)))) = true := hz
  show (if n < 0 then false else if dp < 0 then false else if sp < 0 then false else zrow h q0 10 (fun f => zrow h q1 10 (fun g => Nat.ble (sp.toNatClampNeg + n.toNatClampNeg) f.length && (Nat.ble (dp.toNatClampNeg + n.toNatClampNeg) g.length && zB (G m (Pf (letf (hcpy h q0 sp.toNatClampNeg q1 dp.toNatClampNeg n.toNatClampNeg) B)) (pc + 3, L, [], h.set q1 (10, zcpy f g sp.toNatClampNeg dp.toNatClampNeg n.toNatClampNeg), nc, ns)))))) = true
  by_cases c1 : n < 0
  · rw [if_pos c1] at hz; cases hz
  by_cases c2 : dp < 0
  · rw [if_neg c1, if_pos c2] at hz; cases hz
  by_cases c3 : sp < 0
  · rw [if_neg c1, if_neg c2, if_pos c3] at hz; cases hz
  rw [if_neg c1, if_neg c2, if_neg c3] at hz ⊢
  have hz := krow_sp e1 (krow_sp e0 hz)
  obtain ⟨z1, hz⟩ := z_and hz
  obtain ⟨z2, -⟩ := z_and hz
  refine zrow_mk e0 b0 (zrow_mk e1 b1 (t_and2 z1 (t_and2 z2 (zB_iff.mpr ?_))))
  rw [hcpy_eq e0 e1]
  have kk := kk (z_ble z1) (z_ble z2)
  rw [ht1] at kk
  exact kk
theorem k_acpL {σ : Nat} (HG : G = GL E scr rc rs cc r h') {ix q0 q1 : Nat} {n dp sp : Int32} {B : zH → α} (hf : zft (zEd E) pc = some (.invokestatic ix, cv, a, 12, c, e9)) (K : kOK W T0 T h0 h) (hq0 : T[q0]? = some σ) (hq1 : T[q1]? = some τ) (ht0 : (zty σ).1 = 11) (ht1 : (zty τ).1 = 11) (hk0 : ∀ i, ((zty σ).2.2 i).1 = 1) (hk1 : ∀ i, ((zty τ).2.2 i).1 = 1) (hw : wAll W τ = true) (kk : ∀ h1, kOK W T0 T h0 h1 → G m (Pf (B h1)) (pc + 3, L, [], h1, nc, ns)) : G m (Pf (letf (hcpy h q0 sp.toNatClampNeg q1 dp.toNatClampNeg n.toNatClampNeg) B)) (pc, L, [.inl (.int n), .inl (.int dp), .inl (.ref q1), .inl (.int sp), .inl (.ref q0)], h, nc, ns) := by
  refine k_lib HG hf rfl (fun _ hz => ?_)
  obtain ⟨f, e0, l0, b0⟩ := hOK_cell K.1 hq0
  obtain ⟨g, e1, l1, b1⟩ := hOK_cell K.1 hq1
  have e0 : h[q0]? = some ((zty σ).1, f) := e0
  have e1 : h[q1]? = some ((zty τ).1, g) := e1
  have kk := fun b0 b1 => kk _ (kOK_set K hq1 hw (hcpy_ok (sp := sp.toNatClampNeg) (dp := dp.toNatClampNeg) (n := n.toNatClampNeg) K.1 hq0 hq1 e0 e1 hk0 hk1 (Or.inr rfl) b0 b1))
  rw [ht0] at e0
  rw [ht1] at e1
  have hz : (if n < 0 then false else if dp < 0 then false else if sp < 0 then false else zrow h q0 11 (fun f => zrow h q1 11 (fun g => Nat.ble (sp.toNatClampNeg + n.toNatClampNeg) f.length && (Nat.ble (dp.toNatClampNeg + n.toNatClampNeg) g.length && true)))) = true := hz
  show (if n < 0 then false else if dp < 0 then false else if sp < 0 then false else zrow h q0 11 (fun f => zrow h q1 11 (fun g => Nat.ble (sp.toNatClampNeg + n.toNatClampNeg) f.length && (Nat.ble (dp.toNatClampNeg + n.toNatClampNeg) g.length && zB (G m (Pf (letf (hcpy h q0 sp.toNatClampNeg q1 dp.toNatClampNeg n.toNatClampNeg) B)) (pc + 3, L, [], h.set q1 (11, zcpy f g sp.toNatClampNeg dp.toNatClampNeg n.toNatClampNeg), nc, ns)))))) = true
  by_cases c1 : n < 0
  · rw [if_pos c1] at hz; cases hz
  by_cases c2 : dp < 0
  · rw [if_neg c1, if_pos c2] at hz; cases hz
  by_cases c3 : sp < 0
  · rw [if_neg c1, if_neg c2, if_pos c3] at hz; cases hz
  rw [if_neg c1, if_neg c2, if_neg c3] at hz ⊢
  have hz := krow_sp e1 (krow_sp e0 hz)
  obtain ⟨z1, hz⟩ := z_and hz
  obtain ⟨z2, -⟩ := z_and hz
  refine zrow_mk e0 b0 (zrow_mk e1 b1 (t_and2 z1 (t_and2 z2 (zB_iff.mpr ?_))))
  rw [hcpy_eq e0 e1]
  have kk := kk (z_ble z1) (z_ble z2)
  rw [ht1] at kk
  exact kk
end
theorem xI_intro {E : zE} {scr : List zV} {j : Nat} {vs : List zV} {h : zH} {v : Int32} (hsc : cT scr) (hE : zprog j = some E) (hv : cT vs) (hh : cH h) (hw : ∀ (d : Nat) (r : Option zV) (h' : zH) (G : Nat → Prop → zS → Prop), G = GL E scr (zEc E) (zEs E) (zD zprog scr d) r h' → ∀ Pf : Int32 → Prop, (∀ y, some (.inl (.int y)) = r → h = h' → Pf y) → ∀ m, G m (Pf v) (0, zarg 0 vs, [], h, 0, 0)) : xI scr j vs h v := fun _ r h' hx =>
  xD_intro (P := r = some (.inl (.int v)) ∧ h' = h) hsc hE hv hh (fun d m => hw d r h' _ rfl (fun y => r = some (.inl (.int y)) ∧ h' = h) (fun _ e1 e2 => ⟨e1.symm, e2.symm⟩) m) hx
theorem xJ_intro {E : zE} {scr : List zV} {j : Nat} {vs : List zV} {h : zH} {v : Int64} (hsc : cT scr) (hE : zprog j = some E) (hv : cT vs) (hh : cH h) (hw : ∀ (d : Nat) (r : Option zV) (h' : zH) (G : Nat → Prop → zS → Prop), G = GL E scr (zEc E) (zEs E) (zD zprog scr d) r h' → ∀ Pf : Int64 → Prop, (∀ y, some (.inl (.long y)) = r → h = h' → Pf y) → ∀ m, G m (Pf v) (0, zarg 0 vs, [], h, 0, 0)) : xJ scr j vs h v := fun _ r h' hx =>
  xD_intro (P := r = some (.inl (.long v)) ∧ h' = h) hsc hE hv hh (fun d m => hw d r h' _ rfl (fun y => r = some (.inl (.long y)) ∧ h' = h) (fun _ e1 e2 => ⟨e1.symm, e2.symm⟩) m) hx
theorem xIH_intro {E : zE} {scr : List zV} {W : List (Nat × Nat)} {T T' : List Nat} {j : Nat} {vs : List zV} {h : zH} {v : Int32 × zH} (hsc : cT scr) (hE : zprog j = some E) (hv : cT vs) (hh : cH h) (hw : ∀ (d : Nat) (r : Option zV) (h' : zH) (G : Nat → Prop → zS → Prop), G = GL E scr (zEc E) (zEs E) (zD zprog scr d) r h' → ∀ Pf : Int32 × zH → Prop, (∀ y hh, some (.inl (.int y)) = r → hh = h' → kOK W T T' h hh → Pf (y, hh)) → ∀ m, G m (Pf v) (0, zarg 0 vs, [], h, 0, 0)) : xIH scr W T T' j vs h v := fun _ r h' hx =>
  xD_intro (P := r = some (.inl (.int v.1)) ∧ h' = v.2 ∧ kOK W T T' h h') hsc hE hv hh (fun d m => hw d r h' _ rfl (fun v => r = some (.inl (.int v.1)) ∧ h' = v.2 ∧ kOK W T T' h h') (fun _ _ e1 e2 k => ⟨e1.symm, e2.symm, e2 ▸ k⟩) m) hx
theorem xH_intro {E : zE} {scr : List zV} {W : List (Nat × Nat)} {T T' : List Nat} {j : Nat} {vs : List zV} {h : zH} {v : zH} (hsc : cT scr) (hE : zprog j = some E) (hv : cT vs) (hh : cH h) (hw : ∀ (d : Nat) (r : Option zV) (h' : zH) (G : Nat → Prop → zS → Prop), G = GL E scr (zEc E) (zEs E) (zD zprog scr d) r h' → ∀ Pf : zH → Prop, (∀ hh, (none : Option zV) = r → hh = h' → kOK W T T' h hh → Pf hh) → ∀ m, G m (Pf v) (0, zarg 0 vs, [], h, 0, 0)) : xH scr W T T' j vs h v := fun _ r h' hx =>
  xD_intro (P := r = none ∧ h' = v ∧ kOK W T T' h h') hsc hE hv hh (fun d m => hw d r h' _ rfl (fun v => r = none ∧ h' = v ∧ kOK W T T' h h') (fun _ e1 e2 k => ⟨e1.symm, e2.symm, e2 ▸ k⟩) m) hx
