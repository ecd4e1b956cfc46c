def hget (h : zH) (q i : Nat) : Option zV := match h[q]? with
  | some c => c.2[i]?
  | none => none
def hput (h : zH) (q i : Nat) (v : zV) : zH := match h[q]? with
  | some c => h.set q (c.1, c.2.set i v)
  | none => h
theorem hput_len (h : zH) (q i : Nat) (v : zV) : (hput h q i v).length = h.length := by
  unfold hput
  split
  · exact List.length_set
  · rfl
theorem hput_eq {h : zH} {q i t : Nat} {vs : List zV} {v : zV} (hq : h[q]? = some (t, vs)) : hput h q i v = h.set q (t, vs.set i v) := by
  unfold hput
  rw [hq]
theorem hget_eq {h : zH} {q i t : Nat} {vs : List zV} (hq : h[q]? = some (t, vs)) : hget h q i = vs[i]? := by
  unfold hget
  rw [hq]
theorem hget_put {h : zH} {q i : Nat} {v w : zV} (hw : hget h q i = some w) : hget (hput h q i v) q i = some v := by
  unfold hget at hw
  split at hw
  · next c hc =>
    obtain ⟨t, vs⟩ := c
    rw [hput_eq hc]
    have h1 := (List.getElem?_eq_some_iff.mp hc).1
    have h2 := (List.getElem?_eq_some_iff.mp hw).1
    rw [hget_eq (List.getElem?_set_self h1)]
    exact List.getElem?_set_self h2
  · cases hw
theorem hget_put_ne {h : zH} {q i p j : Nat} {v : zV} (hne : p ≠ q ∨ j ≠ i) : hget (hput h q i v) p j = hget h p j := by
  unfold hput
  split
  · next c hc =>
    by_cases hp : p = q
    · subst hp
      have hj : j ≠ i := by
        rcases hne with h1 | h1
        · exact absurd rfl h1
        · exact h1
      obtain ⟨t, vs⟩ := c
      have h1 := (List.getElem?_eq_some_iff.mp hc).1
      rw [hget_eq (List.getElem?_set_self h1), hget_eq hc]
      exact List.getElem?_set_ne (Ne.symm hj)
    · unfold hget
      rw [List.getElem?_set_ne (Ne.symm hp)]
  · rfl
theorem hOK_cell {ty : Nat → tTy} {T : List Nat} {h : zH} {q τ : Nat} (hh : hOK ty T h) (hq : T[q]? = some τ) : ∃ vs : List zV, h[q]? = some ((ty τ).1, vs) ∧ vs.length = (ty τ).2.1 ∧ q < 1000000 := by
  obtain ⟨vs, h1, h2, -⟩ := hh.2.2 q τ hq
  have h3 := (List.getElem?_eq_some_iff.mp h1).1
  have h4 := hh.2.1
  exact ⟨vs, h1, h2, by omega⟩
theorem hOK_get {ty : Nat → tTy} {T : List Nat} {h : zH} {q τ i : Nat} (hh : hOK ty T h) (hq : T[q]? = some τ) (hi : i < (ty τ).2.1) : ∃ v, hget h q i = some v ∧ okS T ((ty τ).2.2 i) v := by
  obtain ⟨vs, h1, h2, h3⟩ := hh.2.2 q τ hq
  have h4 : i < vs.length := by omega
  have h5 := List.getElem?_eq_getElem h4
  exact ⟨vs[i], by rw [hget_eq h1]; exact h5, h3 _ _ h5⟩
theorem hOK_put {ty : Nat → tTy} {T : List Nat} {h : zH} {q τ i : Nat} {v : zV} (hh : hOK ty T h) (hq : T[q]? = some τ) (hv : okS T ((ty τ).2.2 i) v) : hOK ty T (hput h q i v) := by
  obtain ⟨vs, h1, h2, h3⟩ := hh.2.2 q τ hq
  rw [hput_eq h1]
  exact hOK_set hh hq h1 List.length_set (tset_s hv h3)
section
variable {prog : Nat → Option zE} {E : zE} {scr : List zV} {rc rs : Nat} {cc : zK} {post : Option zV → zH → Bool} {G : zS → Prop}
variable {pc nc ns : Nat} {L : zL} {st : List zV} {h : zH}
theorem g_step (HW : zWalk prog E scr rc rs cc post G) {i : zI} (hf : zft (zEd E) pc = some i) (hr : zisRet i.1 = false) (hz : zstep zNf zdfl zslen prog (zEm E) rc rs scr cc (fun y => zB (G y)) i.1 i.2.1 i.2.2.1 i.2.2.2.1 i.2.2.2.2.1 pc L st h nc ns = true) : G (pc, L, st, h, nc, ns) := by
  refine HW _ i (fun y => zB (G y)) (fun y hy => zB_iff.mp hy) hf ?_
  unfold zS1
  rw [if_neg (by rw [hr]; exact Bool.false_ne_true)]
  exact hz
theorem g_ret (HW : zWalk prog E scr rc rs cc post G) {i : zI} (hf : zft (zEd E) pc = some i) (hr : zisRet i.1 = true) (hz : zret E.2.2.2.1 i.1 st h post = true) : G (pc, L, st, h, nc, ns) := by
  refine HW _ i (fun y => zB (G y)) (fun y hy => zB_iff.mp hy) hf ?_
  unfold zS1
  rw [if_pos hr]
  exact hz
/-- n steps at once, their ends sent to K -/
noncomputable def zrn (prog : Nat → Option zE) (E : zE) (scr : List zV) (rc rs : Nat) (cc : zK) (post : Option zV → zH → Bool) (K : zS → Bool) (n : Nat) : zS → Bool :=
  Nat.rec K (fun _ ih x => match zft (zEd E) x.1 with
    | some i => zS1 prog E scr rc rs cc post ih i x
    | none => false) n
theorem zrn_ok (HW : zWalk prog E scr rc rs cc post G) : ∀ (n : Nat) {x : zS}, zrn prog E scr rc rs cc post (fun y => zB (G y)) n x = true → G x := by
  intro n
  induction n with
  | zero =>
    intro x hx
    exact zB_iff.mp hx
  | succ n ih =>
    intro x hx
    have hx : (match zft (zEd E) x.1 with
      | some i => zS1 prog E scr rc rs cc post (zrn prog E scr rc rs cc post (fun y => zB (G y)) n) i x
      | none => false) = true := hx
    split at hx
    · next i hi => exact HW _ i _ (fun y hy => ih hy) hi hx
    · cases hx
end
