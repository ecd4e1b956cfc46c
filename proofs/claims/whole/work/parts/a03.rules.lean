/-- kinds alone: no ranges -/
def kty (τ : Nat) : tTy := ((zty τ).1, (zty τ).2.1, fun i => if ((zty τ).2.2 i).1 = 0 then (0, -2147483648, 2147483647, 0, true) else (zty τ).2.2 i)
theorem kty_0 {τ i : Nat} (h : ((zty τ).2.2 i).1 = 0) : (kty τ).2.2 i = (0, -2147483648, 2147483647, 0, true) := if_pos h
theorem kty_n {τ i : Nat} (h : ((zty τ).2.2 i).1 ≠ 0) : (kty τ).2.2 i = (zty τ).2.2 i := if_neg h
theorem okS_int {T : List Nat} {x : Int32} : okS T (0, -2147483648, 2147483647, 0, true) (.inl (.int x)) := ⟨x, rfl, t_lo _, t_hi _⟩
theorem k_of {T : List Nat} {h : zH} (hh : hOK zty T h) : hOK kty T h := by
  refine ⟨hh.1, hh.2.1, fun q τ hq => ?_⟩
  obtain ⟨vs, h1, h2, h3⟩ := hh.2.2 q τ hq
  refine ⟨vs, h1, h2, fun i v hv => ?_⟩
  have h4 := h3 i v hv
  by_cases e : ((zty τ).2.2 i).1 = 0
  · rw [kty_0 e]
    unfold okS at h4
    rw [e] at h4
    obtain ⟨x, rfl, -, -⟩ := h4
    exact okS_int
  · rw [kty_n e]
    exact h4
def hv (h : zH) (q i : Nat) : Int32 := match hget h q i with
  | some (.inl (.int x)) => x
  | _ => 0
def hJ (h : zH) (q i : Nat) : Int64 := match hget h q i with
  | some (.inl (.long x)) => x
  | _ => 0
def hr (h : zH) (q i : Nat) : Nat := match hget h q i with
  | some (.inl (.ref x)) => x
  | _ => 0
def letf {α β : Type} (v : α) (f : α → β) : β := f v
def jmin (x y : Int32) : Int32 := if y < x then y else x
def jmax (x y : Int32) : Int32 := if x < y then y else x
def jrem (x y : Int32) : Int32 := x - x / y * y
section
variable {T : List Nat} {h : zH} {q τ : Nat}
theorem k_int (K : hOK kty T h) (hq : T[q]? = some τ) {i : Nat} (hi : i < (zty τ).2.1) (hk : ((zty τ).2.2 i).1 = 0) : hget h q i = some (.inl (.int (hv h q i))) := by
  obtain ⟨v, h1, h2⟩ := hOK_get K hq (i := i) hi
  rw [kty_0 hk] at h2
  obtain ⟨x, rfl, -, -⟩ := h2
  unfold hv
  rw [h1]
theorem k_lng (K : hOK kty T h) (hq : T[q]? = some τ) {i : Nat} (hi : i < (zty τ).2.1) (hk : ((zty τ).2.2 i).1 = 1) : hget h q i = some (.inl (.long (hJ h q i))) := by
  obtain ⟨v, h1, h2⟩ := hOK_get K hq (i := i) hi
  rw [kty_n (by rw [hk]; decide)] at h2
  unfold okS at h2
  rw [hk] at h2
  obtain ⟨x, rfl⟩ := h2
  unfold hJ
  rw [h1]
theorem k_rf (K : hOK kty T h) (hq : T[q]? = some τ) {i : Nat} (hi : i < (zty τ).2.1) (hk : ((zty τ).2.2 i).1 = 4) : hget h q i = some (.inl (.ref (hr h q i))) ∧ T[hr h q i]? = some ((zty τ).2.2 i).2.2.2.1 := by
  obtain ⟨v, h1, h2⟩ := hOK_get K hq (i := i) hi
  rw [kty_n (by rw [hk]; decide)] at h2
  unfold okS at h2
  rw [hk] at h2
  obtain ⟨x, rfl, h3⟩ := h2
  have e : hr h q i = x := by
    unfold hr
    rw [h1]
  rw [e]
  exact ⟨h1, h3⟩
theorem k_put (K : hOK kty T h) (hq : T[q]? = some τ) {i : Nat} (hk : ((zty τ).2.2 i).1 = 0) (x : Int32) : hOK kty T (hput h q i (.inl (.int x))) := hOK_put K hq (by rw [kty_0 hk]; exact okS_int)
theorem k_putL (K : hOK kty T h) (hq : T[q]? = some τ) {i : Nat} (hk : ((zty τ).2.2 i).1 = 1) (x : Int64) : hOK kty T (hput h q i (.inl (.long x))) := hOK_put K hq (by
  rw [kty_n (by rw [hk]; decide)]
  unfold okS
  rw [hk]
  exact ⟨x, rfl⟩)
theorem hgc (K : hOK kty T h) (hq : T[q]? = some τ) {i : Nat} {v : zV} (hg : hget h q i = some v) : ∃ vs : List zV, h[q]? = some ((zty τ).1, vs) ∧ vs[i]? = some v ∧ vs.length = (zty τ).2.1 ∧ q < 1000000 := by
  obtain ⟨vs, h1, h2, h3⟩ := hOK_cell K hq
  rw [hget_eq h1] at hg
  exact ⟨vs, h1, hg, h2, h3⟩
end
/-- slots that may be written: a type and a place, 1000 for all places of it -/
def wIn (W : List (Nat × Nat)) (τ i : Nat) : Bool := W.any (fun p => Nat.beq p.1 τ && (Nat.beq p.2 i || Nat.beq p.2 1000))
def wAll (W : List (Nat × Nat)) (τ : Nat) : Bool := W.any (fun p => Nat.beq p.1 τ && Nat.beq p.2 1000)
def wSub (V W : List (Nat × Nat)) : Bool := V.all (fun p => if p.2 = 1000 then wAll W p.1 else wIn W p.1 p.2)
theorem wIn_all {W : List (Nat × Nat)} {τ : Nat} (h : wAll W τ = true) (i : Nat) : wIn W τ i = true := by
  obtain ⟨p, h1, h2⟩ := List.any_eq_true.mp h
  obtain ⟨h3, h4⟩ := z_and h2
  refine List.any_eq_true.mpr ⟨p, h1, ?_⟩
  rw [h3, h4]
  cases Nat.beq p.2 i <;> rfl
theorem wSub_ok {V W : List (Nat × Nat)} (h : wSub V W = true) {τ i : Nat} (hw : wIn W τ i = false) : wIn V τ i = false := by
  cases e : wIn V τ i with
  | false => rfl
  | true =>
    exfalso
    obtain ⟨p, h1, h2⟩ := List.any_eq_true.mp e
    obtain ⟨h3, h4⟩ := z_and h2
    have h5 := List.all_eq_true.mp h p h1
    have e1 : p.1 = τ := Nat.eq_of_beq_eq_true h3
    have h5 : (if p.2 = 1000 then wAll W p.1 else wIn W p.1 p.2) = true := h5
    by_cases e2 : p.2 = 1000
    · rw [if_pos e2, e1] at h5
      rw [wIn_all h5 i] at hw
      cases hw
    · rw [if_neg e2, e1] at h5
      have e3 : p.2 = i := by
        cases e4 : Nat.beq p.2 i with
        | true => exact Nat.eq_of_beq_eq_true e4
        | false =>
          rw [e4] at h4
          exact absurd (Nat.eq_of_beq_eq_true h4) e2
      rw [e3] at h5
      rw [h5] at hw
      cases hw
/-- the heap's kinds, and what is as it was at the method's start (T0: the types there) -/
def kOK (W : List (Nat × Nat)) (T0 T : List Nat) (h0 h : zH) : Prop := hOK kty T h ∧ tExt T0 T ∧ ∀ q τ i, T0[q]? = some τ → wIn W τ i = false → hget h q i = hget h0 q i
theorem kOK_refl {W : List (Nat × Nat)} {T : List Nat} {h : zH} (K : hOK kty T h) : kOK W T T h h := ⟨K, tExt_rf T, fun _ _ _ _ _ => rfl⟩
theorem kOK_trans {V W : List (Nat × Nat)} {T0 T T1 : List Nat} {h0 h h1 : zH} (K : kOK W T0 T h0 h) (hs : wSub V W = true) (K1 : kOK V T T1 h h1) : kOK W T0 T1 h0 h1 := ⟨K1.1, tExt_tr K.2.1 K1.2.1, fun q τ i hq hw => (K1.2.2 q τ i (K.2.1 q τ hq) (wSub_ok hs hw)).trans (K.2.2 q τ i hq hw)⟩
theorem kOK_put {W : List (Nat × Nat)} {T0 T : List Nat} {h0 h : zH} {q τ i : Nat} {v : zV} (K : kOK W T0 T h0 h) (hq : T[q]? = some τ) (hw : wIn W τ i = true) (hk : hOK kty T (hput h q i v)) : kOK W T0 T h0 (hput h q i v) := ⟨hk, K.2.1, fun q2 τ2 i2 hq2 hw2 => by
  rw [← K.2.2 q2 τ2 i2 hq2 hw2]
  refine hget_put_ne ?_
  by_cases e : q2 = q
  · right
    intro e2
    subst e
    subst e2
    have hq2 := K.2.1 _ _ hq2
    rw [hq] at hq2
    cases hq2
    rw [hw] at hw2
    cases hw2
  · exact Or.inl e⟩
section
variable {E : zE} {scr : List zV} {rc rs : Nat} {cc : zK} {r : Option zV} {h' : zH} {G : Nat → Prop → zS → Prop} {m : Nat} {P : Prop} {α : Type} {Pf : α → Prop}
variable {W : List (Nat × Nat)} {h0 : zH} {T0 : List Nat} {pc nc ns : Nat} {L : zL} {st : List zV} {h : zH} {T : List Nat} {q τ : Nat} {v : zV} {cv : zV} {a b c e9 : Nat} {w : zV × Nat × Nat × Nat × Nat}
theorem k_walk (HG : G = GL E scr rc rs cc r h') : zWalk zprog E scr rc rs cc (PL r h' P) (G m P) := by
  subst HG
  exact GL_walk
theorem k_steps (HG : G = GL E scr rc rs cc r h') (n : Nat) {x : zS} (hx : zrn zprog E scr rc rs cc (PL r h' P) (fun y => zB (G m P y)) n x = true) : G m P x := zrn_ok (k_walk HG) n hx
theorem k_first (HG : G = GL E scr rc rs cc r h') (n : Nat) {x : zS} (hx : zrn zprog E scr rc rs cc (PL r h' P) (fun y => zB (G m P y)) (n + 1) x = true) : G (m + 1) P x := by
  subst HG
  exact GL_first hx
theorem k_zero (HG : G = GL E scr rc rs cc r h') {x : zS} : G 0 P x := by
  subst HG
  intro n hn hx
  obtain rfl : n = 0 := by omega
  exact absurd hx (fun h => h)
theorem k_mono (HG : G = GL E scr rc rs cc r h') {m' : Nat} (hm : m ≤ m') {x : zS} (hg : G m' P x) : G m P x := by
  subst HG
  exact GL_mono hm (fun p => p) hg
theorem k_lib (HG : G = GL E scr rc rs cc r h') {x : zS} {i : zI} (hi : zft (zEd E) x.1 = some i) (hr : zisRet i.1 = false)
    (hz : cS x → zstep zNf zdfl zslen zprog (zEm E) rc rs scr cc (fun _ => true) i.1 i.2.1 i.2.2.1 i.2.2.2.1 i.2.2.2.2.1 x.1 x.2.1 x.2.2.1 x.2.2.2.1 x.2.2.2.2.1 x.2.2.2.2.2 = true → zstep zNf zdfl zslen zprog (zEm E) rc rs scr cc (fun y => zB (G m P y)) i.1 i.2.1 i.2.2.1 i.2.2.2.1 i.2.2.2.2.1 x.1 x.2.1 x.2.2.1 x.2.2.2.1 x.2.2.2.2.1 x.2.2.2.2.2 = true) : G m P x := by
  subst HG
  exact GL_mono (Nat.le_succ _) (fun p => p) (GL_one hi hr (fun y hy => zB_iff.mp hy) hz)
theorem k_get (HG : G = GL E scr rc rs cc r h') {ix : Nat} (hf : zft (zEd E) pc = some (.getfield ix, cv, a, b, c, e9)) (K : kOK W T0 T h0 h) (hq : T[q]? = some τ) (ht : (zty τ).1 = a) (hg : hget h q b = some v) (kk : G m P (pc + 3, L, v :: st, h, nc, ns)) : G m P (pc, L, .inl (.ref q) :: st, h, nc, ns) := by
  obtain ⟨vs, h1, h2, -, h3⟩ := hgc K.1 hq hg
  rw [ht] at h1
  refine g_step (k_walk HG) hf rfl ?_
  simp only [zstep]
  refine zrow_mk h1 h3 ?_
  rw [h2]
  exact zB_iff.mpr kk
theorem k_getI (HG : G = GL E scr rc rs cc r h') {ix : Nat} (hf : zft (zEd E) pc = some (.getfield ix, cv, a, b, c, e9)) (K : kOK W T0 T h0 h) (hq : T[q]? = some τ) (ht : (zty τ).1 = a) (hb : b < (zty τ).2.1) (hk : ((zty τ).2.2 b).1 = 0) (kk : G m P (pc + 3, L, .inl (.int (hv h q b)) :: st, h, nc, ns)) : G m P (pc, L, .inl (.ref q) :: st, h, nc, ns) :=
  k_get HG hf K hq ht (k_int K.1 hq hb hk) kk
theorem k_getJ (HG : G = GL E scr rc rs cc r h') {ix : Nat} (hf : zft (zEd E) pc = some (.getfield ix, cv, a, b, c, e9)) (K : kOK W T0 T h0 h) (hq : T[q]? = some τ) (ht : (zty τ).1 = a) (hb : b < (zty τ).2.1) (hk : ((zty τ).2.2 b).1 = 1) (kk : G m P (pc + 3, L, .inl (.long (hJ h q b)) :: st, h, nc, ns)) : G m P (pc, L, .inl (.ref q) :: st, h, nc, ns) :=
  k_get HG hf K hq ht (k_lng K.1 hq hb hk) kk
theorem k_getR (HG : G = GL E scr rc rs cc r h') {ix : Nat} (hf : zft (zEd E) pc = some (.getfield ix, cv, a, b, c, e9)) (K : kOK W T0 T h0 h) (hq : T[q]? = some τ) (ht : (zty τ).1 = a) (hb : b < (zty τ).2.1) {σ : Nat} (hk : ((zty τ).2.2 b).1 = 4) (hs : ((zty τ).2.2 b).2.2.2.1 = σ) (kk : T[hr h q b]? = some σ → G m P (pc + 3, L, .inl (.ref (hr h q b)) :: st, h, nc, ns)) : G m P (pc, L, .inl (.ref q) :: st, h, nc, ns) := by
  have := k_rf K.1 hq hb hk
  rw [hs] at this
  exact k_get HG hf K hq ht this.1 (kk this.2)
theorem k_putF (HG : G = GL E scr rc rs cc r h') {ix : Nat} (hf : zft (zEd E) pc = some (.putfield ix, cv, a, b, c, e9)) (K : kOK W T0 T h0 h) (hq : T[q]? = some τ) (ht : (zty τ).1 = a) (kk : G m P (pc + 3, L, st, hput h q b v, nc, ns)) : G m P (pc, L, v :: .inl (.ref q) :: st, h, nc, ns) := by
  refine k_lib HG hf rfl (fun _ hz => ?_)
  obtain ⟨vs, h1, h2, h3⟩ := hOK_cell K.1 hq
  have h1 : h[q]? = some ((zty τ).1, vs) := h1
  rw [ht] at h1
  simp only [zstep] at hz ⊢
  unfold zrow at hz ⊢
  rw [h1] at hz ⊢
  rw [hput_eq h1] at kk
  obtain ⟨z1, hz⟩ := z_and hz
  obtain ⟨z2, hz⟩ := z_and hz
  obtain ⟨z3, hz⟩ := z_and hz
  obtain ⟨z4, -⟩ := z_and hz
  exact t_and2 z1 (t_and2 z2 (t_and2 z3 (t_and2 z4 (zB_iff.mpr kk))))
theorem k_putI (HG : G = GL E scr rc rs cc r h') {ix : Nat} {x : Int32} {B : zH → α} (hf : zft (zEd E) pc = some (.putfield ix, cv, a, b, c, e9)) (K : kOK W T0 T h0 h) (hq : T[q]? = some τ) (ht : (zty τ).1 = a) (hk : ((zty τ).2.2 b).1 = 0) (hw : wIn W τ b = true) (kk : ∀ h1, kOK W T0 T h0 h1 → G m (Pf (B h1)) (pc + 3, L, st, h1, nc, ns)) : G m (Pf (letf (hput h q b (.inl (.int x))) B)) (pc, L, .inl (.int x) :: .inl (.ref q) :: st, h, nc, ns) :=
  k_putF HG hf K hq ht (kk _ (kOK_put K hq hw (k_put K.1 hq hk x)))
theorem k_putJ (HG : G = GL E scr rc rs cc r h') {ix : Nat} {x : Int64} {B : zH → α} (hf : zft (zEd E) pc = some (.putfield ix, cv, a, b, c, e9)) (K : kOK W T0 T h0 h) (hq : T[q]? = some τ) (ht : (zty τ).1 = a) (hk : ((zty τ).2.2 b).1 = 1) (hw : wIn W τ b = true) (kk : ∀ h1, kOK W T0 T h0 h1 → G m (Pf (B h1)) (pc + 3, L, st, h1, nc, ns)) : G m (Pf (letf (hput h q b (.inl (.long x))) B)) (pc, L, .inl (.long x) :: .inl (.ref q) :: st, h, nc, ns) :=
  k_putF HG hf K hq ht (kk _ (kOK_put K hq hw (k_putL K.1 hq hk x)))
theorem kel_sp {vs : List zV} {i : Int32} {k : zV → Bool} (h : zel vs i k = true) : ∃ v, ¬ i < 0 ∧ vs[i.toNatClampNeg]? = some v ∧ k v = true := by
  unfold zel at h
  by_cases e : i < 0
  · rw [if_pos e] at h
    cases h
  · rw [if_neg e] at h
    split at h
    · next v hv => exact ⟨v, e, hv, h⟩
    · cases h
theorem kel_ok {vs : List zV} {i : Int32} {k : zV → Bool} {v : zV} (e : ¬ i < 0) (hv : vs[i.toNatClampNeg]? = some v) (h : k v = true) : zel vs i k = true := by
  unfold zel
  rw [if_neg e, hv]
  exact h
theorem krow_sp {q t : Nat} {k : List zV → Bool} {vs : List zV} (h1 : h[q]? = some (t, vs)) (hz : zrow h q t k = true) : k vs = true := by
  unfold zrow at hz
  rw [h1] at hz
  exact (z_and (z_and hz).2).2
theorem k_iald (HG : G = GL E scr rc rs cc r h') (hf : zft (zEd E) pc = some (.iaload, w)) (K : kOK W T0 T h0 h) (hq : T[q]? = some τ) (ht : (zty τ).1 = 10) (hk : ∀ i, ((zty τ).2.2 i).1 = 0) {x : Int32} (kk : G m P (pc + 1, L, .inl (.int (hv h q x.toNatClampNeg)) :: st, h, nc, ns)) : G m P (pc, L, .inl (.int x) :: .inl (.ref q) :: st, h, nc, ns) := by
  refine k_lib HG hf rfl (fun _ hz => ?_)
  obtain ⟨vs, h1, h2, h3⟩ := hOK_cell K.1 hq
  have h1 : h[q]? = some ((zty τ).1, vs) := h1
  rw [ht] at h1
  have hz : (if q = 10000000 then _ else if q = 10000001 then _ else zrow h q 10 _) = true := hz
  show (if q = 10000000 then _ else if q = 10000001 then _ else zrow h q 10 _) = true
  rw [if_neg (by omega), if_neg (by omega)] at hz ⊢
  obtain ⟨v, z1, z2, -⟩ := kel_sp (krow_sp h1 hz)
  have hl : x.toNatClampNeg < (zty τ).2.1 := by
    have := (List.getElem?_eq_some_iff.mp z2).1
    have h2 : vs.length = (zty τ).2.1 := h2
    omega
  have hg := k_int K.1 hq hl (hk _)
  rw [hget_eq h1, z2] at hg
  cases hg
  exact zrow_mk h1 h3 (kel_ok z1 z2 (zB_iff.mpr kk))
theorem k_lald (HG : G = GL E scr rc rs cc r h') (hf : zft (zEd E) pc = some (.laload, w)) (K : kOK W T0 T h0 h) (hq : T[q]? = some τ) (ht : (zty τ).1 = 11) (hk : ∀ i, ((zty τ).2.2 i).1 = 1) {x : Int32} (kk : G m P (pc + 1, L, .inl (.long (hJ h q x.toNatClampNeg)) :: st, h, nc, ns)) : G m P (pc, L, .inl (.int x) :: .inl (.ref q) :: st, h, nc, ns) := by
  refine k_lib HG hf rfl (fun _ hz => ?_)
  obtain ⟨vs, h1, h2, h3⟩ := hOK_cell K.1 hq
  have h1 : h[q]? = some ((zty τ).1, vs) := h1
  rw [ht] at h1
  simp only [zstep] at hz ⊢
  obtain ⟨v, z1, z2, -⟩ := kel_sp (krow_sp h1 hz)
  have hl : x.toNatClampNeg < (zty τ).2.1 := by
    have := (List.getElem?_eq_some_iff.mp z2).1
    have h2 : vs.length = (zty τ).2.1 := h2
    omega
  have hg := k_lng K.1 hq hl (hk _)
  rw [hget_eq h1, z2] at hg
  cases hg
  exact zrow_mk h1 h3 (kel_ok z1 z2 (zB_iff.mpr kk))
theorem k_bald (HG : G = GL E scr rc rs cc r h') (hf : zft (zEd E) pc = some (.baload, w)) (K : kOK W T0 T h0 h) (hq : T[q]? = some τ) (ht : (zty τ).1 = 15) (hk : ∀ i, ((zty τ).2.2 i).1 = 0) {x : Int32} (kk : G m P (pc + 1, L, .inl (.int (hv h q x.toNatClampNeg)) :: st, h, nc, ns)) : G m P (pc, L, .inl (.int x) :: .inl (.ref q) :: st, h, nc, ns) := by
  refine k_lib HG hf rfl (fun _ hz => ?_)
  obtain ⟨vs, h1, h2, h3⟩ := hOK_cell K.1 hq
  have h1 : h[q]? = some ((zty τ).1, vs) := h1
  rw [ht] at h1
  simp only [zstep] at hz ⊢
  obtain ⟨v, z1, z2, -⟩ := kel_sp (krow_sp h1 hz)
  have hl : x.toNatClampNeg < (zty τ).2.1 := by
    have := (List.getElem?_eq_some_iff.mp z2).1
    have h2 : vs.length = (zty τ).2.1 := h2
    omega
  have hg := k_int K.1 hq hl (hk _)
  rw [hget_eq h1, z2] at hg
  cases hg
  exact zrow_mk h1 h3 (kel_ok z1 z2 (zB_iff.mpr kk))
theorem k_aald (HG : G = GL E scr rc rs cc r h') (hf : zft (zEd E) pc = some (.aaload, w)) (K : kOK W T0 T h0 h) (hq : T[q]? = some τ) {σ : Nat} (hk : ∀ i, ((zty τ).2.2 i).1 = 4 ∧ ((zty τ).2.2 i).2.2.2.1 = σ) {x : Int32} (kk : T[hr h q x.toNatClampNeg]? = some σ → G m P (pc + 1, L, .inl (.ref (hr h q x.toNatClampNeg)) :: st, h, nc, ns)) : G m P (pc, L, .inl (.int x) :: .inl (.ref q) :: st, h, nc, ns) := by
  refine k_lib HG hf rfl (fun _ hz => ?_)
  obtain ⟨vs, h1, h2, h3⟩ := hOK_cell K.1 hq
  have h1 : h[q]? = some ((zty τ).1, vs) := h1
  simp only [zstep] at hz ⊢
  rw [h1] at hz ⊢
  obtain ⟨y1, hz⟩ := z_and hz
  obtain ⟨y2, hz⟩ := z_and hz
  obtain ⟨y3, hz⟩ := z_and hz
  obtain ⟨v, z1, z2, -⟩ := kel_sp hz
  have hl : x.toNatClampNeg < (zty τ).2.1 := by
    have := (List.getElem?_eq_some_iff.mp z2).1
    have h2 : vs.length = (zty τ).2.1 := h2
    have : x.toNatClampNeg < vs.length := this
    omega
  have hg := k_rf K.1 hq hl (hk _).1
  rw [hget_eq h1, (hk _).2, z2] at hg
  obtain ⟨g1, g2⟩ := hg
  cases g1
  exact t_and2 y1 (t_and2 y2 (t_and2 y3 (kel_ok z1 z2 (zB_iff.mpr (kk g2)))))
theorem k_ast {tg : Nat} {ins : Instr} (HG : G = GL E scr rc rs cc r h') (hf : zft (zEd E) pc = some (ins, w)) (hi : ins = .iastore ∧ tg = 10 ∨ ins = .lastore ∧ tg = 11) (K : kOK W T0 T h0 h) (hq : T[q]? = some τ) (ht : (zty τ).1 = tg) {x : Int32} (kk : G m P (pc + 1, L, st, hput h q x.toNatClampNeg v, nc, ns)) : G m P (pc, L, v :: .inl (.int x) :: .inl (.ref q) :: st, h, nc, ns) := by
  obtain ⟨vs, h1, h2, h3⟩ := hOK_cell K.1 hq
  have h1 : h[q]? = some ((zty τ).1, vs) := h1
  rw [ht] at h1
  rw [hput_eq h1] at kk
  rcases hi with ⟨rfl, rfl⟩ | ⟨rfl, rfl⟩
  · refine k_lib HG hf rfl (fun _ hz => ?_)
    simp only [zstep] at hz ⊢
    obtain ⟨z1, hz⟩ := z_and hz
    obtain ⟨z2, -⟩ := z_and (krow_sp h1 hz)
    exact t_and2 z1 (zrow_mk h1 h3 (t_and2 z2 (zB_iff.mpr kk)))
  · refine k_lib HG hf rfl (fun _ hz => ?_)
    simp only [zstep] at hz ⊢
    obtain ⟨z1, hz⟩ := z_and hz
    obtain ⟨z2, -⟩ := z_and (krow_sp h1 hz)
    exact t_and2 z1 (zrow_mk h1 h3 (t_and2 z2 (zB_iff.mpr kk)))
theorem k_iast (HG : G = GL E scr rc rs cc r h') {B : zH → α} {x y : Int32} (hf : zft (zEd E) pc = some (.iastore, w)) (K : kOK W T0 T h0 h) (hq : T[q]? = some τ) (ht : (zty τ).1 = 10) (hk : ∀ i, ((zty τ).2.2 i).1 = 0) (hw : wAll W τ = true) (kk : ∀ h1, kOK W T0 T h0 h1 → G m (Pf (B h1)) (pc + 1, L, st, h1, nc, ns)) : G m (Pf (letf (hput h q x.toNatClampNeg (.inl (.int y))) B)) (pc, L, .inl (.int y) :: .inl (.int x) :: .inl (.ref q) :: st, h, nc, ns) :=
  k_ast HG hf (Or.inl ⟨rfl, rfl⟩) K hq ht (kk _ (kOK_put K hq (wIn_all hw _) (k_put K.1 hq (hk _) y)))
theorem k_last (HG : G = GL E scr rc rs cc r h') {B : zH → α} {x : Int32} {y : Int64} (hf : zft (zEd E) pc = some (.lastore, w)) (K : kOK W T0 T h0 h) (hq : T[q]? = some τ) (ht : (zty τ).1 = 11) (hk : ∀ i, ((zty τ).2.2 i).1 = 1) (hw : wAll W τ = true) (kk : ∀ h1, kOK W T0 T h0 h1 → G m (Pf (B h1)) (pc + 1, L, st, h1, nc, ns)) : G m (Pf (letf (hput h q x.toNatClampNeg (.inl (.long y))) B)) (pc, L, .inl (.long y) :: .inl (.int x) :: .inl (.ref q) :: st, h, nc, ns) :=
  k_ast HG hf (Or.inr ⟨rfl, rfl⟩) K hq ht (kk _ (kOK_put K hq (wIn_all hw _) (k_putL K.1 hq (hk _) y)))
theorem k_bast (HG : G = GL E scr rc rs cc r h') {B : zH → α} {x y : Int32} (hf : zft (zEd E) pc = some (.bastore, w)) (K : kOK W T0 T h0 h) (hq : T[q]? = some τ) (ht : (zty τ).1 = 15) (hk : ∀ i, ((zty τ).2.2 i).1 = 0) (hw : wAll W τ = true) (kk : ∀ h1, kOK W T0 T h0 h1 → G m (Pf (B h1)) (pc + 1, L, st, h1, nc, ns)) : G m (Pf (letf (hput h q x.toNatClampNeg (.inl (.int (y &&& 1)))) B)) (pc, L, .inl (.int y) :: .inl (.int x) :: .inl (.ref q) :: st, h, nc, ns) := by
  obtain ⟨vs, h1, h2, h3⟩ := hOK_cell K.1 hq
  have h1 : h[q]? = some ((zty τ).1, vs) := h1
  rw [ht] at h1
  have kk := kk _ (kOK_put K hq (wIn_all hw _) (k_put K.1 hq (i := x.toNatClampNeg) (hk _) (y &&& 1)))
  refine k_lib HG hf rfl (fun _ hz => ?_)
  simp only [zstep] at hz ⊢
  obtain ⟨z2, -⟩ := z_and (krow_sp h1 hz)
  rw [hput_eq h1] at kk
  exact zrow_mk h1 h3 (t_and2 z2 (zB_iff.mpr (by unfold letf; rw [hput_eq h1]; exact kk)))
def und (x : Int32) : Int32 := match zund[x.toNatClampNeg]? with
  | some (.inl (.int y)) => y
  | _ => 0
theorem k_und (HG : G = GL E scr rc rs cc r h') (hf : zft (zEd E) pc = some (.iaload, w)) {x : Int32} (kk : G m P (pc + 1, L, .inl (.int (und x)) :: st, h, nc, ns)) : G m P (pc, L, .inl (.int x) :: .inl (.ref 10000001) :: st, h, nc, ns) := by
  refine k_lib HG hf rfl (fun _ hz => ?_)
  have hz : zel zund x _ = true := hz
  show zel zund x _ = true
  obtain ⟨v, z1, z2, -⟩ := kel_sp hz
  refine kel_ok z1 z2 (zB_iff.mpr ?_)
  have hv : v = .inl (.int (und x)) := by
    have key : ∀ k : Nat, k < 6 → ∃ y, zund[k]? = some (.inl (.int y)) := by
      intro k hk
      match k, hk with
      | 0, _ => exact ⟨_, rfl⟩
      | 1, _ => exact ⟨_, rfl⟩
      | 2, _ => exact ⟨_, rfl⟩
      | 3, _ => exact ⟨_, rfl⟩
      | 4, _ => exact ⟨_, rfl⟩
      | 5, _ => exact ⟨_, rfl⟩
    obtain ⟨y, hy⟩ := key x.toNatClampNeg (List.getElem?_eq_some_iff.mp z2).1
    rw [hy] at z2
    cases z2
    unfold und
    rw [hy]
  rw [hv]
  exact kk
theorem k_div (HG : G = GL E scr rc rs cc r h') (hf : zft (zEd E) pc = some (.idiv, w)) {x y : Int32} (kk : G m P (pc + 1, L, .inl (.int (x / y)) :: st, h, nc, ns)) : G m P (pc, L, .inl (.int y) :: .inl (.int x) :: st, h, nc, ns) := by
  refine k_lib HG hf rfl (fun _ hz => ?_)
  have hz : (!(y == 0) && _) = true := hz
  exact t_and2 (z_and hz).1 (zB_iff.mpr kk)
theorem k_rem (HG : G = GL E scr rc rs cc r h') (hf : zft (zEd E) pc = some (.irem, w)) {x y : Int32} (kk : G m P (pc + 1, L, .inl (.int (jrem x y)) :: st, h, nc, ns)) : G m P (pc, L, .inl (.int y) :: .inl (.int x) :: st, h, nc, ns) := by
  refine k_lib HG hf rfl (fun _ hz => ?_)
  have hz : (!(y == 0) && _) = true := hz
  exact t_and2 (z_and hz).1 (zB_iff.mpr kk)
theorem k_ldv (HG : G = GL E scr rc rs cc r h') (hf : zft (zEd E) pc = some (.ldiv, w)) {x y : Int64} (kk : G m P (pc + 1, L, .inl (.long (x / y)) :: st, h, nc, ns)) : G m P (pc, L, .inl (.long y) :: .inl (.long x) :: st, h, nc, ns) := by
  refine k_lib HG hf rfl (fun _ hz => ?_)
  have hz : (!(y == 0) && _) = true := hz
  exact t_and2 (z_and hz).1 (zB_iff.mpr kk)
/-- the end of a method -/
theorem k_end {ins : Instr} (HG : G = GL E scr rc rs cc r h') (hf : zft (zEd E) pc = some (ins, w)) (hi : zisRet ins = true) (he : ∃ b : Bool, ∀ post, zret E.2.2.2.1 ins st h post = (b && post (if ins = .return_ then none else some v) h)) (kk : (if ins = .return_ then none else some v) = r → h = h' → P) : G m P (pc, L, st, h, nc, ns) := by
  subst HG
  intro n hn hx
  cases n with
  | zero => exact absurd hx (fun h => h)
  | succ n =>
    obtain ⟨h1, i', h2, h3⟩ := hx
    have h2 : zft (zEd E) pc = some i' := h2
    rw [hf] at h2
    cases h2
    rcases h3 with ⟨-, -, -, h4⟩ | ⟨h3, -⟩
    · obtain ⟨b, hb⟩ := he
      have e : ∀ post : Option zV → zH → Bool, (b && post (if ins = .return_ then none else some v) h) = post r h' := fun post => (hb post).symm.trans (h4 post)
      have e1 := e (fun _ _ => true)
      have e1 : (b && true) = true := e1
      obtain ⟨rfl, -⟩ := z_and e1
      have e2 := e (fun x y => zB (x = (if ins = .return_ then none else some v) ∧ y = h))
      have e3 : zB (r = (if ins = .return_ then none else some v) ∧ h' = h) = true := by
        rw [← e2]
        exact zB_iff.mpr ⟨rfl, rfl⟩
      have e4 := zB_iff.mp e3
      exact kk e4.1.symm e4.2.symm
    · have h3 : zisRet ins = false := h3
      rw [hi] at h3
      cases h3
end
