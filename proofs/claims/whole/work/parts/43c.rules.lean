section
variable {E : zE} {scr : List zV} {rc rs : Nat} {cc : zK} {post : Option zV → zH → Bool} {G : zS → Prop}
variable {pc nc ns : Nat} {L : zL} {st : List zV} {h : zH} {T : List Nat} {q τ : Nat} {v : zV} {cv : zV} {a b c e9 : Nat}
theorem hget_cell (hok : hOK zty T h) (hq : T[q]? = some τ) {i : Nat} (hg : hget h q i = some v) : ∃ vs : List zV, h[q]? = some ((zty τ).1, vs) ∧ vs[i]? = some v ∧ vs.length = (zty τ).2.1 ∧ q < 1000000 := by
  obtain ⟨vs, h1, h2, h3⟩ := hOK_cell hok hq
  rw [hget_eq h1] at hg
  exact ⟨vs, h1, hg, h2, h3⟩
theorem hi_val (hok : hOK zty T h) (hq : T[q]? = some τ) {i : Nat} (hi0 : i < (zty τ).2.1) (hk : ((zty τ).2.2 i).1 = 0) : ∃ x : Int32, hget h q i = some (.inl (.int x)) ∧ hi h q i = x.toInt ∧ ((zty τ).2.2 i).2.1 ≤ x.toInt ∧ x.toInt ≤ ((zty τ).2.2 i).2.2.1 := by
  obtain ⟨w, h1, h2⟩ := hOK_get hok hq hi0
  unfold okS at h2
  rw [hk] at h2
  obtain ⟨x, rfl, h3, h4⟩ := h2
  refine ⟨x, h1, ?_, h3, h4⟩
  unfold hi
  rw [h1]
theorem hi_put {i : Nat} {x : Int32} {w : zV} (hw : hget h q i = some w) : hi (hput h q i (.inl (.int x))) q i = x.toInt := by
  unfold hi
  rw [hget_put hw]
theorem hi_put_ne {i p j : Nat} (hne : p ≠ q ∨ j ≠ i) : hi (hput h q i v) p j = hi h p j := hi_eq (hget_put_ne hne)
theorem g_getf (HW : zWalk zprog E scr rc rs cc post G) {ix : Nat} (hf : zft (zEd E) pc = some (.getfield ix, cv, a, b, c, e9)) (hok : hOK zty T h) (hq : T[q]? = some τ) (ht : (zty τ).1 = a) (hg : hget h q b = some v) (kk : G (pc + 3, L, v :: st, h, nc, ns)) : G (pc, L, .inl (.ref q) :: st, h, nc, ns) := by
  obtain ⟨vs, h1, h2, -, h3⟩ := hget_cell hok hq hg
  rw [ht] at h1
  refine g_step HW hf rfl ?_
  simp only [zstep]
  refine zrow_mk h1 h3 ?_
  rw [h2]
  exact zB_iff.mpr kk
theorem g_putf (HW : zWalk zprog E scr rc rs cc post G) {ix : Nat} (hf : zft (zEd E) pc = some (.putfield ix, cv, a, b, c, e9)) (hok : hOK zty T h) (hq : T[q]? = some τ) (ht : (zty τ).1 = a) (hb : b < (zty τ).2.1) (hz : zfit c v = true) (kk : G (pc + 3, L, st, hput h q b v, nc, ns)) : G (pc, L, v :: .inl (.ref q) :: st, h, nc, ns) := by
  obtain ⟨vs, h1, h2, h3⟩ := hOK_cell hok hq
  rw [ht] at h1
  rw [hput_eq h1] at kk
  refine g_step HW hf rfl ?_
  simp only [zstep]
  refine zrow_mk h1 h3 ?_
  exact t_and2 (t_blt (by omega)) (t_and2 hz (zB_iff.mpr kk))
theorem g_iald (HW : zWalk zprog E scr rc rs cc post G) {w : zV × Nat × Nat × Nat × Nat} (hf : zft (zEd E) pc = some (.iaload, w)) (hok : hOK zty T h) (hq : T[q]? = some τ) (ht : (zty τ).1 = 10) {x : Int32} (hx : 0 ≤ x.toInt) (hg : hget h q x.toInt.toNat = some v) (kk : G (pc + 1, L, v :: st, h, nc, ns)) : G (pc, L, .inl (.int x) :: .inl (.ref q) :: st, h, nc, ns) := by
  obtain ⟨vs, h1, h2, -, h3⟩ := hget_cell hok hq hg
  rw [ht] at h1
  refine g_step HW hf rfl ?_
  show (if q = 10000000 then _ else if q = 10000001 then _ else zrow h q 10 _) = true
  rw [if_neg (by omega), if_neg (by omega)]
  exact zrow_mk h1 h3 (zel_mk hx h2 (zB_iff.mpr kk))
theorem g_aald (HW : zWalk zprog E scr rc rs cc post G) {w : zV × Nat × Nat × Nat × Nat} (hf : zft (zEd E) pc = some (.aaload, w)) (hok : hOK zty T h) (hq : T[q]? = some τ) (ht : 12 ≤ (zty τ).1 ∧ (zty τ).1 ≤ 14) {x : Int32} (hx : 0 ≤ x.toInt) (hg : hget h q x.toInt.toNat = some v) (kk : G (pc + 1, L, v :: st, h, nc, ns)) : G (pc, L, .inl (.int x) :: .inl (.ref q) :: st, h, nc, ns) := by
  obtain ⟨vs, h1, h2, -, h3⟩ := hget_cell hok hq hg
  refine g_step HW hf rfl ?_
  show (match h[q]? with
    | some x' => Nat.blt q 1000000 && (Nat.ble 12 x'.1 && (Nat.ble x'.1 14 && zel x'.2 x _))
    | none => false) = true
  rw [h1]
  exact t_and2 (t_blt h3) (t_and2 (t_ble ht.1) (t_and2 (t_ble ht.2) (zel_mk hx h2 (zB_iff.mpr kk))))
theorem g_iast (HW : zWalk zprog E scr rc rs cc post G) {w : zV × Nat × Nat × Nat × Nat} (hf : zft (zEd E) pc = some (.iastore, w)) (hok : hOK zty T h) (hq : T[q]? = some τ) (ht : (zty τ).1 = 10) {x y : Int32} (hx : 0 ≤ x.toInt) (hl : x.toInt < ((zty τ).2.1 : Int)) (kk : G (pc + 1, L, st, hput h q x.toInt.toNat (.inl (.int y)), nc, ns)) : G (pc, L, .inl (.int y) :: .inl (.int x) :: .inl (.ref q) :: st, h, nc, ns) := by
  obtain ⟨vs, h1, h2, h3⟩ := hOK_cell hok hq
  rw [ht] at h1
  rw [hput_eq h1] at kk
  refine g_step HW hf rfl ?_
  simp only [zstep]
  refine t_and2 rfl ?_
  refine zrow_mk h1 h3 ?_
  exact t_and2 (zix_mk hx (by omega)) (zB_iff.mpr kk)
end
theorem phi_put {Φ : List Nat → zH → Prop} {T : List Nat} {h : zH} {q τ i : Nat} {v : zV} (hst : tStab zty 43 Φ) (hok : hOK zty T h) (hΦ : Φ T h) (hq : T[q]? = some τ) (hw : ((zty τ).2.2 i).2.2.2.2 = true) (hs : okS T ((zty τ).2.2 i) v) : Φ T (hput h q i v) := by
  obtain ⟨vs, h1, h2, h3⟩ := hok.2.2 q τ hq
  rw [hput_eq h1]
  exact hst.1 T h q τ vs (vs.set i v) hok hΦ hq h1 List.length_set (tset_w hw) (tset_s hs h3)
/-- what a hand-made walk carries along -/
def wOK (Φ : List Nat → zH → Prop) (N : Nat) (T : List Nat) (h : zH) : Prop := hOK zty T h ∧ Φ T h ∧ h.length ≤ N
theorem wOK_put {Φ : List Nat → zH → Prop} {N : Nat} {T : List Nat} {h : zH} {q τ i : Nat} {v : zV} (hst : tStab zty 43 Φ) (hok : wOK Φ N T h) (hq : T[q]? = some τ) (hw : ((zty τ).2.2 i).2.2.2.2 = true) (hs : okS T ((zty τ).2.2 i) v) : wOK Φ N T (hput h q i v) := ⟨hOK_put hok.1 hq hs, phi_put hst hok.1 hok.2.1 hq hw hs, by rw [hput_len]; exact hok.2.2⟩
theorem zlt_i {x y : Int32} (h : zop .lt x y) : x.toInt < y.toInt := Int32.lt_iff_toInt_lt.mp h
theorem znlt_i {x y : Int32} (h : ¬ zop .lt x y) : y.toInt ≤ x.toInt := Int32.le_iff_toInt_le.mp (Int32.not_lt.mp h)
theorem hi_ne {h : zH} {q p i j : Nat} {v : zV} (hne : p ≠ q ∨ j ≠ i) {z : Int} (e : hi (hput h q i v) p j = z) : hi h p j = z := by
  rw [hi_put_ne hne] at e
  exact e
theorem ty_ne {T : List Nat} {p q σ τ : Nat} (hp : T[p]? = some σ) (hq : T[q]? = some τ) (hne : σ ≠ τ) : p ≠ q := fun e => by
  rw [e, hq] at hp
  cases hp
  exact hne rfl
theorem t_inc {x : Int32} (h : x.toInt ≤ 1000000) : (x + (1 : Int32)).toInt = x.toInt + 1 := by
  have h1 : (1 : Int32).toInt = 1 := rfl
  have h2 := t_lo x
  have := t_add (x := x) (y := 1) (by omega) (by omega)
  omega
theorem nz_i {y : Int32} (h : y.toInt ≠ 0) : (!(y == 0)) = true := by
  have : y ≠ 0 := fun e => by
    subst e
    exact h rfl
  simpa using this
theorem wOK_le {Φ : List Nat → zH → Prop} {N : Nat} {T : List Nat} {h h' : zH} (ok : wOK Φ N T h) (h1 : hOK zty T h') (h2 : Φ T h') (h3 : h'.length ≤ h.length) : wOK Φ N T h' := ⟨h1, h2, Nat.le_trans h3 ok.2.2⟩
theorem zret_v {ret : Option FieldType} {h : zH} {post : Option zV → zH → Bool} (hr : ret = none) (hp : post none h = true) : zret ret .return_ [] h post = true := by
  rw [hr]
  exact t_and2 rfl hp
def zopI : ClassFile.Cond → Int → Int → Prop
  | .eq, x, y => x = y
  | .ne, x, y => ¬ x = y
  | .lt, x, y => x < y
  | .ge, x, y => y ≤ x
  | .gt, x, y => y < x
  | .le, x, y => x ≤ y
theorem zop_int {cd : ClassFile.Cond} {x y : Int32} : zop cd x y ↔ zopI cd x.toInt y.toInt := by
  cases cd with
  | eq => exact ⟨fun h => congrArg Int32.toInt h, fun h => Int32.toInt_inj.mp h⟩
  | ne => exact ⟨fun h q => h (Int32.toInt_inj.mp q), fun h q => h (congrArg Int32.toInt q)⟩
  | lt => exact Int32.lt_iff_toInt_lt
  | ge => exact Int32.le_iff_toInt_le
  | gt => exact Int32.lt_iff_toInt_lt
  | le => exact Int32.le_iff_toInt_le
