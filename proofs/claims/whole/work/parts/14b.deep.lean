noncomputable def zB (P : Prop) : Bool := @decide P (Classical.propDecidable P)
theorem zB_iff {P : Prop} : zB P = true ↔ P := by
  unfold zB
  exact @decide_eq_true_iff P (Classical.propDecidable P)
/-- one step of E's code from x, its ends sent to K -/
noncomputable def zS1 (prog : Nat → Option zE) (E : zE) (scr : List zV) (rc rs : Nat) (cc : zK) (post : Option zV → zH → Bool) (K : zS → Bool) (i : zI) (x : zS) : Bool :=
  if zisRet i.1 then zret E.2.2.2.1 i.1 x.2.2.1 x.2.2.2.1 post else zstep zNf zdfl zslen prog (zEm E) rc rs scr cc K i.1 i.2.1 i.2.2.1 i.2.2.2.1 i.2.2.2.2.1 x.1 x.2.1 x.2.2.1 x.2.2.2.1 x.2.2.2.2.1 x.2.2.2.2.2
def zWalk (prog : Nat → Option zE) (E : zE) (scr : List zV) (rc rs : Nat) (cc : zK) (post : Option zV → zH → Bool) (G : zS → Prop) : Prop :=
  ∀ (x : zS) (i : zI) (K : zS → Bool), (∀ y, K y = true → G y) → zft (zEd E) x.1 = some i → zS1 prog E scr rc rs cc post K i x = true → G x
noncomputable def zD (prog : Nat → Option zE) (scr : List zV) (d : Nat) : zK :=
  Nat.rec (fun _ _ _ _ => false) (fun _ ih j vs h post => match prog j with
    | some E => Nat.ble (zsum vs) (zEm E) && zB (∀ G : zS → Prop, zWalk prog E scr (zEc E) (zEs E) ih post G → G (0, zarg 0 vs, [], h, 0, 0))
    | none => false) d
theorem zD_intro {prog : Nat → Option zE} {scr : List zV} {d j : Nat} {vs : List zV} {h : zH} {post : Option zV → zH → Bool} {E : zE} (hE : prog j = some E) (hs : Nat.ble (zsum vs) (zEm E) = true)
    (hw : ∀ G : zS → Prop, zWalk prog E scr (zEc E) (zEs E) (zD prog scr d) post G → G (0, zarg 0 vs, [], h, 0, 0)) : zD prog scr (d + 1) j vs h post = true := by
  show (match prog j with
    | some E => Nat.ble (zsum vs) (zEm E) && zB (∀ G : zS → Prop, zWalk prog E scr (zEc E) (zEs E) (zD prog scr d) post G → G (0, zarg 0 vs, [], h, 0, 0))
    | none => false) = true
  rw [hE]
  show (_ && _) = true
  rw [hs, zB_iff.mpr hw]
  rfl
theorem zD_sound {l : Launch} {prog : Nat → Option zE} {zst : zSt} {TG TN : List Cond} {scr : List zV} {adK adV : Nat → Nat} {ext : Nat → Option Nat} {D : va_G} {ct : Nat → ClassId}
    (hG : zGood TG) (hTN : zTNok TN) (hOk : zOkP prog zst TG TN) (huw : ∀ w ∈ zuws, w ∈ TG) (HL : ∀ d, zSL l zst TG TN scr adK adV ext D ct (d + 3)) (hLw : ∀ w ∈ zmwords zESL ++ zmwords zESC, w ∈ TG) (hgl : ∀ w ∈ zglob, w ∈ TG) :
    ∀ (d j : Nat) (vs : List zV) (h : zH) (post : Option zV → zH → Bool), zD prog scr d j vs h post = true → zMet l prog zst TG TN scr adK adV ext D ct (d + 3) j vs h post := by
  intro d
  induction d with
  | zero =>
    intro j vs h post hz
    exact absurd hz Bool.false_ne_true
  | succ d ih =>
    intro j vs h post hz E hE ws sz argv hv hH
    have hz : (match prog j with
      | some E => Nat.ble (zsum vs) (zEm E) && zB (∀ G : zS → Prop, zWalk prog E scr (zEc E) (zEs E) (zD prog scr d) post G → G (0, zarg 0 vs, [], h, 0, 0))
      | none => false) = true := hz
    rw [hE] at hz
    obtain ⟨h1, h2⟩ := z_and hz
    have h2 := zB_iff.mp h2
    refine z_metG hOk huw hE (z_ble h1) (fun {p e s m args below meth c Q A ws0} C hr => h2 _ ?_) hv hH
    intro x i K hKG hi hx
    unfold zS1 at hx
    by_cases hri : zisRet i.1 = true
    · rw [if_pos hri] at hx
      exact hr x i hi hri hx
    · rw [if_neg hri] at hx
      obtain ⟨k1, k2, k3, k4⟩ := C.2.2.2.2.2.2.2.2.2.2.2.2.2.2.2.2.2.1 x.1 i hi
      intro ls stc H locs ws' hrel
      exact zstep_sound C hG hTN hOk (HL d) hLw hgl ih hKG hrel k1 k2 k3 k4 hx
