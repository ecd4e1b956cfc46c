section
variable {E : zE} {scr : List zV} {rc rs : Nat} {cc : zK} {r : Option zV} {h' : zH}
/-- the run from a state ends with r and h', within n steps -/
def xAt (E : zE) (scr : List zV) (rc rs : Nat) (cc : zK) (r : Option zV) (h' : zH) : Nat → zS → Prop
  | 0, _ => False
  | n + 1, x => cS x ∧ ∃ i, zft (zEd E) x.1 = some i ∧ ((zisRet i.1 = true ∧ cR r ∧ cH h' ∧ ∀ post, zret E.2.2.2.1 i.1 x.2.2.1 x.2.2.2.1 post = post r h') ∨ (zisRet i.1 = false ∧ ∃ y, (∀ K, zstep zNf zdfl zslen zprog (zEm E) rc rs scr cc K i.1 i.2.1 i.2.2.1 i.2.2.2.1 i.2.2.2.2.1 x.1 x.2.1 x.2.2.1 x.2.2.2.1 x.2.2.2.2.1 x.2.2.2.2.2 = K y) ∧ xAt E scr rc rs cc r h' n y))
theorem xAt_mono : ∀ {n m : Nat} {x : zS}, n ≤ m → xAt E scr rc rs cc r h' n x → xAt E scr rc rs cc r h' m x := by
  intro n
  induction n with
  | zero => intro m x _ h; exact absurd h (fun h => h)
  | succ n ih =>
    intro m x hm h
    obtain ⟨m, rfl⟩ : ∃ k, m = k + 1 := ⟨m - 1, by omega⟩
    obtain ⟨h1, i, h2, h3⟩ := h
    refine ⟨h1, i, h2, ?_⟩
    rcases h3 with h3 | ⟨h3, y, h4, h5⟩
    · exact Or.inl h3
    · exact Or.inr ⟨h3, y, h4, ih (by omega) h5⟩
/-- the walk's set: who stands there and comes to (r, h') gives the goal -/
def GL (E : zE) (scr : List zV) (rc rs : Nat) (cc : zK) (r : Option zV) (h' : zH) (m : Nat) (P : Prop) (x : zS) : Prop := ∀ n, n ≤ m → xAt E scr rc rs cc r h' n x → P
theorem GL_mono {m m' : Nat} {P Q : Prop} {x : zS} (hm : m ≤ m') (hp : P → Q) (hg : GL E scr rc rs cc r h' m' P x) : GL E scr rc rs cc r h' m Q x := fun n hn hx => hp (hg n (by omega) hx)
theorem K_inj {y z : zS} (h : ∀ K : zS → Bool, K y = K z) : y = z := by
  have := h (fun w => zB (w = z))
  rw [zB_iff.mpr rfl] at this
  exact zB_iff.mp this
/-- one step on -/
theorem GL_one {m : Nat} {P : Prop} {x : zS} {i : zI} {K : zS → Bool} (hi : zft (zEd E) x.1 = some i) (hr : zisRet i.1 = false) (hK : ∀ y, K y = true → GL E scr rc rs cc r h' m P y)
    (hz : cS x → zstep zNf zdfl zslen zprog (zEm E) rc rs scr cc (fun _ => true) i.1 i.2.1 i.2.2.1 i.2.2.2.1 i.2.2.2.2.1 x.1 x.2.1 x.2.2.1 x.2.2.2.1 x.2.2.2.2.1 x.2.2.2.2.2 = true → zstep zNf zdfl zslen zprog (zEm E) rc rs scr cc K i.1 i.2.1 i.2.2.1 i.2.2.2.1 i.2.2.2.2.1 x.1 x.2.1 x.2.2.1 x.2.2.2.1 x.2.2.2.2.1 x.2.2.2.2.2 = true) : GL E scr rc rs cc r h' (m + 1) P x := by
  intro n hn hx
  cases n with
  | zero => exact absurd hx (fun h => h)
  | succ n =>
    obtain ⟨h1, i', h2, h3⟩ := hx
    rw [hi] at h2
    cases h2
    rcases h3 with ⟨h3, -⟩ | ⟨-, y, h4, h5⟩
    · rw [hr] at h3; cases h3
    · have h6 := hz h1 (h4 _)
      rw [h4] at h6
      exact hK y h6 n (by omega) h5
noncomputable def PL (r : Option zV) (h' : zH) (P : Prop) : Option zV → zH → Bool := fun v h => zB (v = r → h = h' → P)
theorem GL_walk {m : Nat} {P : Prop} : zWalk zprog E scr rc rs cc (PL r h' P) (GL E scr rc rs cc r h' m P) := by
  intro x i K hK hi hz
  unfold zS1 at hz
  by_cases hr : zisRet i.1 = true
  · rw [if_pos hr] at hz
    intro n hn hx
    cases n with
    | zero => exact absurd hx (fun h => h)
    | succ n =>
      obtain ⟨h1, i', h2, h3⟩ := hx
      rw [hi] at h2
      cases h2
      rcases h3 with ⟨-, -, -, h4⟩ | ⟨h3, -⟩
      · rw [h4] at hz
        exact zB_iff.mp hz rfl rfl
      · rw [hr] at h3; cases h3
  · rw [if_neg hr] at hz
    exact GL_mono (Nat.le_succ _) (fun p => p) (GL_one hi (by cases e : zisRet i.1 <;> simp_all) hK (fun _ _ => hz))
/-- n + 1 steps on, one of them counted -/
theorem GL_first {m : Nat} {P : Prop} {n : Nat} {x : zS} (hx : zrn zprog E scr rc rs cc (PL r h' P) (fun y => zB (GL E scr rc rs cc r h' m P y)) (n + 1) x = true) : GL E scr rc rs cc r h' (m + 1) P x := by
  have hx : (match zft (zEd E) x.1 with
    | some i => zS1 zprog E scr rc rs cc (PL r h' P) (zrn zprog E scr rc rs cc (PL r h' P) (fun y => zB (GL E scr rc rs cc r h' m P y)) n) i x
    | none => false) = true := hx
  split at hx
  · next i hi =>
    by_cases hr : zisRet i.1 = true
    · exact GL_walk (m := m + 1) x i (fun _ => false) (fun y hy => by cases hy) hi (by
        unfold zS1 at hx ⊢
        rw [if_pos hr] at hx ⊢
        exact hx)
    · unfold zS1 at hx
      rw [if_neg hr] at hx
      exact GL_one hi (by cases e : zisRet i.1 <;> simp_all) (fun y hy => zrn_ok GL_walk n hy) (fun _ _ => hx)
  · cases hx
end
/-- a call of j ends with r and h' -/
def xD (scr : List zV) (d j : Nat) (vs : List zV) (h : zH) (r : Option zV) (h' : zH) : Prop := ∀ post, zD zprog scr d j vs h post = post r h'
theorem zret_and {b : Bool} {v : zV} {h : zH} (hv : cV v) : (∀ post : Option zV → zH → Bool, (b && post (some v) h) = false) ∨ ∃ r, cR r ∧ ∀ post : Option zV → zH → Bool, (b && post (some v) h) = post r h := by
  cases b with
  | false => exact Or.inl (fun _ => rfl)
  | true => exact Or.inr ⟨some v, fun w hw => by cases hw; exact hv, fun _ => rfl⟩
theorem zret_det {ret : Option FieldType} {ins : Instr} {st : List zV} {h : zH} (hs : cT st) : (∀ post, zret ret ins st h post = false) ∨ ∃ r, cR r ∧ ∀ post, zret ret ins st h post = post r h := by
  cases ins <;> try (exact Or.inl (fun _ => rfl))
  case ireturn =>
    cases st with
    | nil => exact Or.inl (fun _ => rfl)
    | cons v l =>
      cases l with
      | cons w l => exact Or.inl (fun _ => rfl)
      | nil =>
        cases ret with
        | none => exact Or.inl (fun _ => rfl)
        | some t => cases t <;> first | exact Or.inl (fun _ => rfl) | exact zret_and (b := zisI v) (cT_hd hs) | exact zret_and (b := zfit 3 v) (cT_hd hs)
  case lreturn =>
    cases st with
    | nil => exact Or.inl (fun _ => rfl)
    | cons v l =>
      cases l with
      | cons w l => exact Or.inl (fun _ => rfl)
      | nil =>
        show (∀ post : Option zV → zH → Bool, (decide (ret = some .long) && (zisL v && post (some v) h)) = false) ∨ ∃ r, cR r ∧ ∀ post : Option zV → zH → Bool, (decide (ret = some .long) && (zisL v && post (some v) h)) = post r h
        cases decide (ret = some .long) with
        | false => exact Or.inl (fun _ => rfl)
        | true => exact zret_and (b := zisL v) (cT_hd hs)
  case areturn =>
    cases st with
    | nil => exact Or.inl (fun _ => rfl)
    | cons v l =>
      cases l with
      | cons w l => exact Or.inl (fun _ => rfl)
      | nil =>
        cases ret with
        | none => exact Or.inl (fun _ => rfl)
        | some t => cases t <;> first | exact Or.inl (fun _ => rfl) | exact zret_and (b := zisR v) (cT_hd hs)
  case return_ =>
    cases st with
    | cons v l => exact Or.inl (fun _ => rfl)
    | nil =>
      show (∀ post : Option zV → zH → Bool, (decide (ret = none) && post none h) = false) ∨ ∃ r, cR r ∧ ∀ post : Option zV → zH → Bool, (decide (ret = none) && post none h) = post r h
      cases decide (ret = none) with
      | false => exact Or.inl (fun _ => rfl)
      | true => exact Or.inr ⟨none, (fun w hw => by cases hw), fun _ => rfl⟩
theorem xAt_zD {E : zE} {scr : List zV} {rc rs : Nat} {cc : zK} {r : Option zV} {h' : zH} {post : Option zV → zH → Bool} {G : zS → Prop} (HW : zWalk zprog E scr rc rs cc post G) (hp : post r h' = true) : ∀ {n : Nat} {x : zS}, xAt E scr rc rs cc r h' n x → G x := by
  intro n
  induction n with
  | zero => intro x h; exact absurd h (fun h => h)
  | succ n ih =>
    intro x h
    obtain ⟨-, i, h2, h3⟩ := h
    rcases h3 with ⟨h3, -, -, h4⟩ | ⟨h3, y, h4, h5⟩
    · refine HW x i (fun _ => false) (fun y hy => by cases hy) h2 ?_
      unfold zS1
      rw [if_pos h3, h4]
      exact hp
    · refine HW x i (fun z => zB (G z)) (fun y hy => zB_iff.mp hy) h2 ?_
      unfold zS1
      rw [if_neg (by rw [h3]; exact Bool.false_ne_true), h4]
      exact zB_iff.mpr (ih h5)
theorem zD_succ {scr : List zV} {d j : Nat} {vs : List zV} {h : zH} {E : zE} (hE : zprog j = some E) (post : Option zV → zH → Bool) : zD zprog scr (d + 1) j vs h post = (Nat.ble (zsum vs) (zEm E) && zB (∀ G : zS → Prop, zWalk zprog E scr (zEc E) (zEs E) (zD zprog scr d) post G → G (0, zarg 0 vs, [], h, 0, 0))) := by
  show (match zprog j with
    | some E => Nat.ble (zsum vs) (zEm E) && zB (∀ G : zS → Prop, zWalk zprog E scr (zEc E) (zEs E) (zD zprog scr d) post G → G (0, zarg 0 vs, [], h, 0, 0))
    | none => false) = _
  rw [hE]
theorem zD_none {scr : List zV} {d j : Nat} {vs : List zV} {h : zH} (hE : zprog j = none) (post : Option zV → zH → Bool) : zD zprog scr (d + 1) j vs h post = false := by
  show (match zprog j with
    | some E => Nat.ble (zsum vs) (zEm E) && zB (∀ G : zS → Prop, zWalk zprog E scr (zEc E) (zEs E) (zD zprog scr d) post G → G (0, zarg 0 vs, [], h, 0, 0))
    | none => false) = _
  rw [hE]
theorem xAt_end {E : zE} {scr : List zV} {rc rs : Nat} {cc : zK} {r : Option zV} {h' : zH} : ∀ {n : Nat} {x : zS}, xAt E scr rc rs cc r h' n x → cR r ∧ cH h' := by
  intro n
  induction n with
  | zero => intro x h; exact absurd h (fun h => h)
  | succ n ih =>
    intro x h
    obtain ⟨-, i, h2, h3⟩ := h
    rcases h3 with ⟨-, h4, h5, -⟩ | ⟨h3, y, h4, h5⟩
    · exact ⟨h4, h5⟩
    · exact ih h5
/-- every concrete call ends in one place, by a run, or in none -/
theorem zD_run {scr : List zV} {d j : Nat} {vs : List zV} {h : zH} {E : zE} (hsc : cT scr) (hcc : Dcc (zD zprog scr d)) (hK : ∀ pc i, zft (zEd E) pc = some i → cV i.2.1) (hE : zprog j = some E) (hv : cT vs) (hh : cH h) :
    (∀ post, zD zprog scr (d + 1) j vs h post = false) ∨ ∃ r h', cR r ∧ cH h' ∧ (∀ post, zD zprog scr (d + 1) j vs h post = post r h') ∧ ∃ n, xAt E scr (zEc E) (zEs E) (zD zprog scr d) r h' n (0, zarg 0 vs, [], h, 0, 0) := by
  by_cases hb0 : Nat.ble (zsum vs) (zEm E) = false
  · refine Or.inl (fun post => ?_)
    rw [zD_succ hE, hb0]
    rfl
  have hb : Nat.ble (zsum vs) (zEm E) = true := by
    cases e : Nat.ble (zsum vs) (zEm E)
    · exact absurd e hb0
    · rfl
  by_cases hx : ∃ r h' n, xAt E scr (zEc E) (zEs E) (zD zprog scr d) r h' n (0, zarg 0 vs, [], h, 0, 0)
  · obtain ⟨r, h', n, hx⟩ := hx
    have he := xAt_end hx
    refine Or.inr ⟨r, h', he.1, he.2, fun post => ?_, n, hx⟩
    rw [zD_succ hE, hb]
    show zB _ = _
    cases hp : post r h' with
    | true => exact zB_iff.mpr (fun G HW => xAt_zD HW hp hx)
    | false =>
      cases hz : zB (∀ G : zS → Prop, zWalk zprog E scr (zEc E) (zEs E) (zD zprog scr d) post G → G (0, zarg 0 vs, [], h, 0, 0)) with
      | false => rfl
      | true =>
        exfalso
        have hz := zB_iff.mp hz (fun x => ∀ n, xAt E scr (zEc E) (zEs E) (zD zprog scr d) r h' n x → post r h' = true) ?_
        · rw [hz n hx] at hp
          cases hp
        · intro x i K hK hi hzz n hx
          cases n with
          | zero => exact absurd hx (fun h => h)
          | succ n =>
            obtain ⟨-, i', h2, h3⟩ := hx
            rw [hi] at h2
            cases h2
            unfold zS1 at hzz
            rcases h3 with ⟨h3, -, -, h4⟩ | ⟨h3, y, h4, h5⟩
            · rw [if_pos h3, h4] at hzz
              exact hzz
            · rw [if_neg (by rw [h3]; exact Bool.false_ne_true), h4] at hzz
              exact hK y hzz n h5
  · refine Or.inl (fun post => ?_)
    rw [zD_succ hE, hb]
    show zB _ = _
    cases hz : zB (∀ G : zS → Prop, zWalk zprog E scr (zEc E) (zEs E) (zD zprog scr d) post G → G (0, zarg 0 vs, [], h, 0, 0)) with
    | false => rfl
    | true =>
      exfalso
      have hz := zB_iff.mp hz (fun x => cS x → ∃ r h' n, xAt E scr (zEc E) (zEs E) (zD zprog scr d) r h' n x) ?_ ⟨cL_arg hv 0, cT_nil, hh⟩
      · exact hx hz
      · intro x i K hKG hi hzz hc
        unfold zS1 at hzz
        by_cases hr : zisRet i.1 = true
        · rw [if_pos hr] at hzz
          rcases zret_det (ret := E.2.2.2.1) (ins := i.1) (h := x.2.2.2.1) hc.2.1 with e | ⟨r, h1, e⟩
          · rw [e] at hzz
            cases hzz
          · exact ⟨r, x.2.2.2.1, 1, hc, i, hi, Or.inl ⟨hr, h1, hc.2.2, e⟩⟩
        · rw [if_neg hr] at hzz
          have hr2 : zisRet i.1 = false := by cases e : zisRet i.1 <;> simp_all
          rcases zstep_det (prog := zprog) (nL := zEm E) (rc := zEc E) (rs := zEs E) hsc hcc i.1 i.2.1 i.2.2.1 i.2.2.2.1 i.2.2.2.2.1 x.1 x.2.1 x.2.2.1 x.2.2.2.1 x.2.2.2.2.1 x.2.2.2.2.2 (hK x.1 i hi) hc.1 hc.2.1 hc.2.2 with e | ⟨y, h1, e⟩
          · have hf : true = false := hzz.symm.trans (e K)
            cases hf
          · have hzz : K y = true := (e K).symm.trans hzz
            obtain ⟨r, h', n, hn⟩ := hKG y hzz h1
            exact ⟨r, h', n + 1, hc, i, hi, Or.inr ⟨hr2, y, e, hn⟩⟩
/-- every constant of the program's tables is whole -/
def zcK (cd : zCd) : Bool := cd.all (fun q => q.2.all (fun r => match r.2.2.1 with
  | .inl _ => true
  | .inr _ => false))
theorem zcK_ok {cd : zCd} (h : zcK cd = true) {pc : Nat} {i : zI} (hi : zft cd pc = some i) : cV i.2.1 := by
  unfold zft at hi
  split at hi
  · next q hq =>
    split at hi
    · next r hr =>
      cases hi
      have h1 := List.all_eq_true.mp h q (List.mem_of_find?_eq_some hq)
      have h2 := List.all_eq_true.mp h1 r (List.mem_of_find?_eq_some hr)
      have h2 : (match r.2.2.1 with
        | .inl _ => true
        | .inr _ => false) = true := h2
      split at h2
      · next x hx => exact ⟨x, hx⟩
      · cases h2
    · cases hi
  · cases hi
theorem zcK_all : ∀ E ∈ zprogL, zcK (zEd E) = true := by decide +kernel
theorem zcK_prog {j : Nat} {E : zE} (hE : zprog j = some E) : ∀ pc i, zft (zEd E) pc = some i → cV i.2.1 := fun _ _ hi => zcK_ok (zcK_all E (List.mem_of_getElem? hE)) hi
theorem Dcc_zD {scr : List zV} (hsc : cT scr) : ∀ d, Dcc (zD zprog scr d)
  | 0 => fun _ _ _ _ _ => Or.inl (fun _ => rfl)
  | d + 1 => fun j vs h hv hh => by
    cases hE : zprog j with
    | none => exact Or.inl (fun post => zD_none hE post)
    | some E =>
      rcases zD_run hsc (Dcc_zD hsc d) (zcK_prog hE) hE hv hh with e | ⟨r, h', h1, h2, h3, -⟩
      · exact Or.inl e
      · exact Or.inr ⟨r, h', h1, h2, h3⟩
/-- a call that ends well ends in one place -/
theorem zD_xD {scr : List zV} {d j : Nat} {vs : List zV} {h : zH} {post : Option zV → zH → Bool} (hsc : cT scr) (hv : cT vs) (hh : cH h) (hz : zD zprog scr d j vs h post = true) : ∃ r h', cR r ∧ cH h' ∧ xD scr d j vs h r h' ∧ post r h' = true := by
  rcases Dcc_zD hsc d j vs h hv hh with e | ⟨r, h', h1, h2, h3⟩
  · rw [e] at hz
    cases hz
  · exact ⟨r, h', h1, h2, h3, (h3 post).symm.trans hz⟩
theorem xD_eq {scr : List zV} {d j : Nat} {vs : List zV} {h : zH} {r r' : Option zV} {h' h'' : zH} (h1 : xD scr d j vs h r h') (h2 : xD scr d j vs h r' h'') : r = r' ∧ h' = h'' := by
  have e1 := h1 (fun v w => zB (v = r ∧ w = h'))
  have e2 := h2 (fun v w => zB (v = r ∧ w = h'))
  rw [e1] at e2
  have e3 : zB (r = r ∧ h' = h') = true := zB_iff.mpr ⟨rfl, rfl⟩
  have e4 : zB (r = r ∧ h' = h') = zB (r' = r ∧ h'' = h') := e2
  rw [e3] at e4
  have := zB_iff.mp e4.symm
  exact ⟨this.1.symm, this.2.symm⟩
/-- the run behind a call that ends -/
theorem xD_run {scr : List zV} {d j : Nat} {vs : List zV} {h : zH} {r : Option zV} {h' : zH} {E : zE} (hsc : cT scr) (hE : zprog j = some E) (hv : cT vs) (hh : cH h) (hx : xD scr (d + 1) j vs h r h') : ∃ n, xAt E scr (zEc E) (zEs E) (zD zprog scr d) r h' n (0, zarg 0 vs, [], h, 0, 0) := by
  rcases zD_run hsc (Dcc_zD hsc d) (zcK_prog hE) hE hv hh with e | ⟨r1, h1, -, -, e, n, hn⟩
  · have := hx (fun _ _ => true)
    rw [e] at this
    cases this
  · have := xD_eq hx e
    obtain ⟨rfl, rfl⟩ := this
    exact ⟨n, hn⟩
theorem xD_zero {scr : List zV} {j : Nat} {vs : List zV} {h : zH} {r : Option zV} {h' : zH} (hx : xD scr 0 j vs h r h') : False := by
  have := hx (fun _ _ => true)
  cases this
/-- what a method's walk gives -/
theorem xD_intro {scr : List zV} {d j : Nat} {vs : List zV} {h : zH} {r : Option zV} {h' : zH} {E : zE} {P : Prop} (hsc : cT scr) (hE : zprog j = some E) (hv : cT vs) (hh : cH h) (hw : ∀ d m, GL E scr (zEc E) (zEs E) (zD zprog scr d) r h' m P (0, zarg 0 vs, [], h, 0, 0)) (hx : xD scr d j vs h r h') : P := by
  cases d with
  | zero => exact absurd hx (fun h => xD_zero h)
  | succ d =>
    obtain ⟨n, hn⟩ := xD_run hsc hE hv hh hx
    exact hw d n n (Nat.le_refl _) hn
