theorem t_addC {x y : Int32} (h1 : -2147483648 ≤ x.toInt + y.toInt) (h2 : x.toInt + y.toInt ≤ 2147483647) : (x + y).toInt = x.toInt + y.toInt := t_add h1 h2
theorem t_subC {x y : Int32} (h1 : -2147483648 ≤ x.toInt - y.toInt) (h2 : x.toInt - y.toInt ≤ 2147483647) : (x - y).toInt = x.toInt - y.toInt := t_sub h1 h2
theorem t_min (x y : Int32) : ∃ m : Int32, (if y < x then y else x) = m ∧ ((m.toInt = x.toInt ∧ x.toInt ≤ y.toInt) ∨ (m.toInt = y.toInt ∧ y.toInt < x.toInt)) := by
  by_cases h : y < x
  · exact ⟨y, if_pos h, Or.inr ⟨rfl, Int32.lt_iff_toInt_lt.mp h⟩⟩
  · exact ⟨x, if_neg h, Or.inl ⟨rfl, Int32.le_iff_toInt_le.mp (Int32.not_lt.mp h)⟩⟩
theorem t_max (x y : Int32) : ∃ m : Int32, (if x < y then y else x) = m ∧ ((m.toInt = x.toInt ∧ y.toInt ≤ x.toInt) ∨ (m.toInt = y.toInt ∧ x.toInt < y.toInt)) := by
  by_cases h : x < y
  · exact ⟨y, if_pos h, Or.inr ⟨rfl, Int32.lt_iff_toInt_lt.mp h⟩⟩
  · exact ⟨x, if_neg h, Or.inl ⟨rfl, Int32.le_iff_toInt_le.mp (Int32.not_lt.mp h)⟩⟩
theorem zret_l {ret : Option FieldType} {v : zV} {h : zH} {post : Option zV → zH → Bool} (hr : ret = some .long) (hv : zisL v = true) (hp : post (some v) h = true) : zret ret .lreturn [v] h post = true := by
  subst hr
  exact t_and2 hv hp
/-- the ways out of a switch -/
def zswR (P : Int → Int → Prop) : Int → List Int → Prop
  | _, [] => True
  | lo, o :: l => P lo o ∧ zswR P (lo + 1) l
theorem zswR_at {P : Int → Int → Prop} : ∀ {l : List Int} {lo : Int} {k : Nat} {o : Int}, zswR P lo l → l[k]? = some o → P (lo + k) o
  | [], _, _, _, _, h => by cases h
  | o :: l, lo, 0, o', h, e => by
    cases e
    have : lo + ((0 : Nat) : Int) = lo := by omega
    rw [this]
    exact h.1
  | o :: l, lo, k + 1, o', h, e => by
    have := zswR_at (k := k) h.2 e
    have e2 : lo + 1 + (k : Int) = lo + ((k + 1 : Nat) : Int) := by omega
    rw [← e2]
    exact this
section
variable {E : zE} {scr : List zV} {rc rs : Nat} {cc : zK} {post : Option zV → zH → Bool} {G : zS → Prop}
variable {pc nc ns : Nat} {L : zL} {st : List zV} {h : zH} {T : List Nat} {q τ : Nat} {v : zV}
theorem g_tsw (HW : zWalk zprog E scr rc rs cc post G) {d lo hi : Int} {offs : Array Int} {w : zV × Nat × Nat × Nat × Nat} (hf : zft (zEd E) pc = some (.tableswitch d lo hi offs, w)) {x : Int32} (hl : (offs.toList.length : Int) = hi - lo + 1) (h0 : x.toInt < lo ∨ hi < x.toInt → zof pc d (fun t => zB (G (t, L, st, h, nc, ns))) = true) (h1 : zswR (fun z o => x.toInt = z → zof pc o (fun t => zB (G (t, L, st, h, nc, ns))) = true) lo offs.toList) : G (pc, L, .inl (.int x) :: st, h, nc, ns) := by
  refine g_step HW hf rfl ?_
  show (true && (if x.toInt < lo ∨ hi < x.toInt then zof pc d (fun t => zB (G (t, L, st, h, nc, ns))) else !(decide (x.toInt < lo)) && (!(decide (hi < x.toInt)) && (match offs[(x.toInt - lo).toNat]? with
        | some off => zof pc off (fun t => zB (G (t, L, st, h, nc, ns)))
        | none => false)))) = true
  refine t_and2 rfl ?_
  by_cases hc : x.toInt < lo ∨ hi < x.toInt
  · rw [if_pos hc]
    exact h0 hc
  · rw [if_neg hc]
    have n1 : ¬ x.toInt < lo := fun e => hc (Or.inl e)
    have n2 : ¬ hi < x.toInt := fun e => hc (Or.inr e)
    have hk : (x.toInt - lo).toNat < offs.toList.length := by omega
    refine t_and2 (by rw [decide_eq_false n1]; rfl) (t_and2 (by rw [decide_eq_false n2]; rfl) ?_)
    rw [← Array.getElem?_toList, List.getElem?_eq_getElem hk]
    exact zswR_at h1 (List.getElem?_eq_getElem hk) (by omega)
theorem g_lald (HW : zWalk zprog E scr rc rs cc post G) {w : zV × Nat × Nat × Nat × Nat} (hf : zft (zEd E) pc = some (.laload, w)) (hok : hOK zty T h) (hq : T[q]? = some τ) (ht : (zty τ).1 = 11) {x : Int32} (hx : 0 ≤ x.toInt) (hg : hget h q x.toInt.toNat = some v) (kk : G (pc + 1, L, v :: st, h, nc, ns)) : G (pc, L, .inl (.int x) :: .inl (.ref q) :: st, h, nc, ns) := by
  obtain ⟨vs, h1, h2, -, h3⟩ := hget_cell hok hq hg
  rw [ht] at h1
  refine g_step HW hf rfl ?_
  simp only [zstep]
  exact zrow_mk h1 h3 (zel_mk hx h2 (zB_iff.mpr kk))
theorem g_last (HW : zWalk zprog E scr rc rs cc post G) {w : zV × Nat × Nat × Nat × Nat} (hf : zft (zEd E) pc = some (.lastore, w)) (hok : hOK zty T h) (hq : T[q]? = some τ) (ht : (zty τ).1 = 11) {x : Int32} {y : Int64} (hx : 0 ≤ x.toInt) (hl : x.toInt < ((zty τ).2.1 : Int)) (kk : G (pc + 1, L, st, hput h q x.toInt.toNat (.inl (.long y)), nc, ns)) : G (pc, L, .inl (.long y) :: .inl (.int x) :: .inl (.ref q) :: st, h, nc, ns) := by
  obtain ⟨vs, h1, h2, h3⟩ := hOK_cell hok hq
  rw [ht] at h1
  rw [hput_eq h1] at kk
  refine g_step HW hf rfl ?_
  simp only [zstep]
  refine t_and2 rfl ?_
  refine zrow_mk h1 h3 ?_
  exact t_and2 (zix_mk hx (by omega)) (zB_iff.mpr kk)
end
/-- all that the methods up to a height keep -/
def tBel (Φ : List Nat → zH → Prop) (scr : List zV) (D0 : Nat) : Prop := ∀ (j' : Nat) (e' : tE), e' ∈ zsm j' → zhts j' ≤ D0 → tAll zty Φ zprog scr zhts j' e'
theorem tBel_le {Φ : List Nat → zH → Prop} {scr : List zV} {D0 D1 : Nat} (h : tBel Φ scr D0) (hd : D1 ≤ D0) : tBel Φ scr D1 := fun j' e' h1 h2 => h j' e' h1 (by omega)
theorem tLow_of {Φ : List Nat → zH → Prop} {scr : List zV} {D0 d : Nat} (h : tBel Φ scr D0) (hd : D0 ≤ d) : tLow Φ (zD zprog scr d) D0 := fun j' E' e' h1 h2 h3 => h j' e' h2 h3 E' h1 d (by omega)
theorem t_hand2 {Φ : List Nat → zH → Prop} {scr : List zV} {j D0 : Nat} {E : zE} {e : tE} (hE : zprog j = some E) (hD : zhts j = D0 + 1) (hs : Nat.ble (tsum e.1) (zEm E) = true)
    (hk : ∀ (d : Nat) (T : List Nat) (h : zH) (vs : List zV) (post : Option zV → zH → Bool) (G : zS → Prop), D0 ≤ d → hOK zty T h → Φ T h → h.length + zEc E ≤ 1000000 → okAs T e.1 vs →
      (∀ (r : Option zV) (T' : List Nat) (h' : zH), tExt T T' → hOK zty T' h' → Φ T' h' → h'.length ≤ h.length + zEc E → tRes T' vs e r → post r h' = true) →
      tBel Φ scr D0 →
      zWalk zprog E scr (zEc E) (zEs E) (zD zprog scr d) post G → G (0, zarg 0 vs, [], h, 0, 0)) : tM zty Φ zprog scr zhts zsm j e := by
  intro IH E' hE' d hd T h vs post hok hΦ hlen hvs hp
  rw [hE] at hE'
  cases hE'
  obtain ⟨d, rfl⟩ : ∃ d', d = d' + 1 := ⟨d - 1, by omega⟩
  exact zD_intro hE (by rw [okAs_sum hvs]; exact hs) (fun G HW => hk d T h vs post G (by omega) hok hΦ hlen hvs hp (fun j' e' h2 h3 => IH j' e' h2 (by omega)) HW)
theorem zbr_l {cd : ClassFile.Cond} {x y : Int64} {kt kf : Bool} (ht : zopI cd x.toInt y.toInt → kt = true) (hf : ¬ zopI cd x.toInt y.toInt → kf = true) : zbr (zcond cd (zcmpL (.inl (.long x)) (.inl (.long y))) (.inl (.int 0))) kt kf = true := by
  cases cd <;> rcases zcmp3 x y with ⟨h, e⟩ | ⟨h, e⟩ | ⟨h, e⟩ <;> rw [e] <;> first
    | exact ht (by simp only [zopI]; omega)
    | exact hf (by simp only [zopI]; omega)
theorem t_LB {z : Int} (h1 : -9223372036854775808 ≤ z) (h2 : z ≤ 9223372036854775807) : z.bmod (2 ^ 64) = z := Int.bmod_eq_of_le (by omega) (by omega)
theorem t_Ladd {x y : Int64} (h1 : -9223372036854775808 ≤ x.toInt + y.toInt) (h2 : x.toInt + y.toInt ≤ 9223372036854775807) : (x + y).toInt = x.toInt + y.toInt := by
  rw [Int64.toInt_add]
  exact t_LB h1 h2
/-- System.arraycopy of longs between rows of shelves -/
theorem g_acpL {E : zE} {scr : List zV} {rc rs : Nat} {cc : zK} {post : Option zV → zH → Bool} {G : zS → Prop} {pc nc ns : Nat} {L : zL} {h : zH} {T : List Nat} {q0 q1 : Nat} {Φ : List Nat → zH → Prop} {N : Nat} (hst : tStab zty 43 Φ) (HW : zWalk zprog E scr rc rs cc post G) {ix a c e9 : Nat} {cv : zV} (hf : zft (zEd E) pc = some (.invokestatic ix, cv, a, 12, c, e9)) (ok : wOK Φ N T h) (h0 : T[q0]? = some 10) (h1 : T[q1]? = some 10) {n dp sp : Int32} (hn : 0 ≤ n.toInt) (hd : 0 ≤ dp.toInt) (hs : 0 ≤ sp.toInt) (b0 : sp.toInt + n.toInt ≤ 40) (b1 : dp.toInt + n.toInt ≤ 40) (kk : ∀ h', wOK Φ N T h' → G (pc + 3, L, [], h', nc, ns)) : G (pc, L, [.inl (.int n), .inl (.int dp), .inl (.ref q1), .inl (.int sp), .inl (.ref q0)], h, nc, ns) := by
  obtain ⟨f, c0, l0, s0⟩ := ok.1.2.2 q0 10 h0
  obtain ⟨g, c1, l1, s1⟩ := ok.1.2.2 q1 10 h1
  obtain ⟨-, -, -, z0⟩ := hOK_cell ok.1 h0
  obtain ⟨-, -, -, z1⟩ := hOK_cell ok.1 h1
  have l0 : f.length = 40 := l0
  have l1 : g.length = 40 := l1
  have en : n.toNatClampNeg = n.toInt.toNat := rfl
  have ed : dp.toNatClampNeg = dp.toInt.toNat := rfl
  have es : sp.toNatClampNeg = sp.toInt.toNat := rfl
  have n1 : ¬ n < 0 := fun e => by
    have := Int32.lt_iff_toInt_lt.mp e
    have h0 : (0 : Int32).toInt = 0 := rfl
    omega
  have n2 : ¬ dp < 0 := fun e => by
    have := Int32.lt_iff_toInt_lt.mp e
    have h0 : (0 : Int32).toInt = 0 := rfl
    omega
  have n3 : ¬ sp < 0 := fun e => by
    have := Int32.lt_iff_toInt_lt.mp e
    have h0 : (0 : Int32).toInt = 0 := rfl
    omega
  have hlen : (zcpy f g sp.toNatClampNeg dp.toNatClampNeg n.toNatClampNeg).length = g.length := by
    unfold zcpy
    rw [en, ed, es]
    simp only [List.length_append, List.length_take, List.length_drop]
    omega
  have hval : ∀ (i : Nat) (v : zV), (zcpy f g sp.toNatClampNeg dp.toNatClampNeg n.toNatClampNeg)[i]? = some v → okS T ((zty 10).2.2 i) v := by
    intro i v hv
    have hm := List.mem_of_getElem? hv
    unfold zcpy at hm
    rcases List.mem_append.mp hm with hm | hm
    · obtain ⟨j, hj⟩ := List.mem_iff_getElem?.mp (List.mem_of_mem_take hm)
      exact s1 j v hj
    · rcases List.mem_append.mp hm with hm | hm
      · obtain ⟨j, hj⟩ := List.mem_iff_getElem?.mp (List.mem_of_mem_drop (List.mem_of_mem_take hm))
        exact s0 j v hj
      · obtain ⟨j, hj⟩ := List.mem_iff_getElem?.mp (List.mem_of_mem_drop hm)
        exact s1 j v hj
  have hok : wOK Φ N T (h.set q1 (11, zcpy f g sp.toNatClampNeg dp.toNatClampNeg n.toNatClampNeg)) := by
    refine ⟨hOK_set ok.1 h1 c1 hlen hval, hst.1 T h q1 10 g _ ok.1 ok.2.1 h1 c1 hlen (fun i hi => absurd (show true = false from hi) (by decide)) hval, by rw [List.length_set]; exact ok.2.2⟩
  refine g_step HW hf rfl ?_
  show (if n < 0 then false else if dp < 0 then false else if sp < 0 then false else zrow h q0 11 (fun f => zrow h q1 11 (fun g => Nat.ble (sp.toNatClampNeg + n.toNatClampNeg) f.length && (Nat.ble (dp.toNatClampNeg + n.toNatClampNeg) g.length && zB (G (pc + 3, L, [], h.set q1 (11, zcpy f g sp.toNatClampNeg dp.toNatClampNeg n.toNatClampNeg), nc, ns)))))) = true
  rw [if_neg n1, if_neg n2, if_neg n3]
  refine zrow_mk c0 z0 (zrow_mk c1 z1 (t_and2 (t_ble ?_) (t_and2 (t_ble ?_) (zB_iff.mpr (kk _ hok)))))
  · rw [en, es, l0]
    omega
  · rw [en, ed, l1]
    omega
