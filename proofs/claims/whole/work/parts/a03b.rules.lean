section
variable {E : zE} {scr : List zV} {rc rs : Nat} {cc : zK} {r : Option zV} {h' : zH} {G : Nat → Prop → zS → Prop} {m : Nat} {P : Prop} {α : Type} {Pf : α → Prop}
variable {W V : List (Nat × Nat)} {h0 : zH} {T0 T' : List Nat} {pc nc ns d0 : Nat} {L : zL} {st : List zV} {h : zH} {T : List Nat} {q τ : Nat} {v : zV} {cv : zV} {a b c e9 : Nat} {w : zV × Nat × Nat × Nat × Nat}
theorem k_reti (HG : G = GL E scr rc rs cc r h') (hf : zft (zEd E) pc = some (.ireturn, w)) (he : E.2.2.2.1 = some .int) (kk : some v = r → h = h' → P) : G m P (pc, L, [v], h, nc, ns) :=
  k_end (ins := .ireturn) HG hf rfl ⟨zisI v, fun post => by rw [he]; rfl⟩ kk
theorem k_retz (HG : G = GL E scr rc rs cc r h') (hf : zft (zEd E) pc = some (.ireturn, w)) (he : E.2.2.2.1 = some .boolean) (kk : some v = r → h = h' → P) : G m P (pc, L, [v], h, nc, ns) :=
  k_end (ins := .ireturn) HG hf rfl ⟨zfit 3 v, fun post => by rw [he]; rfl⟩ kk
theorem k_retl (HG : G = GL E scr rc rs cc r h') (hf : zft (zEd E) pc = some (.lreturn, w)) (he : E.2.2.2.1 = some .long) (kk : some v = r → h = h' → P) : G m P (pc, L, [v], h, nc, ns) :=
  k_end (ins := .lreturn) HG hf rfl ⟨decide (E.2.2.2.1 = some .long) && zisL v, fun post => by rw [he]; rfl⟩ kk
theorem k_reta {s : String} (HG : G = GL E scr rc rs cc r h') (hf : zft (zEd E) pc = some (.areturn, w)) (he : E.2.2.2.1 = some (.object s)) (kk : some v = r → h = h' → P) : G m P (pc, L, [v], h, nc, ns) :=
  k_end (ins := .areturn) HG hf rfl ⟨zisR v, fun post => by rw [he]; rfl⟩ kk
theorem k_retv (HG : G = GL E scr rc rs cc r h') (hf : zft (zEd E) pc = some (.return_, w)) (he : E.2.2.2.1 = none) (kk : (none : Option zV) = r → h = h' → P) : G m P (pc, L, [], h, nc, ns) :=
  k_end (ins := .return_) (v := .inl (.int 0)) HG hf rfl ⟨true, fun post => by rw [he]; rfl⟩ kk
theorem k_pos {d : Decidable P} {A B : α} {x : zS} (hc : P) (hg : G m (Pf A) x) : G m (Pf (@ite α P d A B)) x := by
  rw [if_pos hc]
  exact hg
theorem k_neg {d : Decidable P} {A B : α} {x : zS} (hc : ¬ P) (hg : G m (Pf B) x) : G m (Pf (@ite α P d A B)) x := by
  rw [if_neg hc]
  exact hg
theorem kb_eq {x y : Int32} {A B : α} {s1 s2 : zS} (h1 : G m (Pf A) s1) (h2 : G m (Pf B) s2) : zbr (zcond .eq (.inl (.int x)) (.inl (.int y))) (zB (G m (Pf (if x = y then A else B)) s1)) (zB (G m (Pf (if x = y then A else B)) s2)) = true :=
  zbr_ex (fun hc => zB_iff.mpr (k_pos hc h1)) (fun hc => zB_iff.mpr (k_neg hc h2))
theorem kb_ne {x y : Int32} {A B : α} {s1 s2 : zS} (h1 : G m (Pf B) s1) (h2 : G m (Pf A) s2) : zbr (zcond .ne (.inl (.int x)) (.inl (.int y))) (zB (G m (Pf (if x = y then A else B)) s1)) (zB (G m (Pf (if x = y then A else B)) s2)) = true :=
  zbr_ex (fun hc => zB_iff.mpr (k_neg hc h1)) (fun hc => zB_iff.mpr (k_pos (Classical.not_not.mp hc) h2))
theorem kb_lt {x y : Int32} {A B : α} {s1 s2 : zS} (h1 : G m (Pf A) s1) (h2 : G m (Pf B) s2) : zbr (zcond .lt (.inl (.int x)) (.inl (.int y))) (zB (G m (Pf (if x < y then A else B)) s1)) (zB (G m (Pf (if x < y then A else B)) s2)) = true :=
  zbr_ex (fun hc => zB_iff.mpr (k_pos hc h1)) (fun hc => zB_iff.mpr (k_neg hc h2))
theorem kb_ge {x y : Int32} {A B : α} {s1 s2 : zS} (h1 : G m (Pf B) s1) (h2 : G m (Pf A) s2) : zbr (zcond .ge (.inl (.int x)) (.inl (.int y))) (zB (G m (Pf (if x < y then A else B)) s1)) (zB (G m (Pf (if x < y then A else B)) s2)) = true :=
  zbr_ex (fun hc => zB_iff.mpr (k_neg (Int32.not_lt.mpr hc) h1)) (fun hc => zB_iff.mpr (k_pos (Int32.not_le.mp hc) h2))
theorem kb_gt {x y : Int32} {A B : α} {s1 s2 : zS} (h1 : G m (Pf A) s1) (h2 : G m (Pf B) s2) : zbr (zcond .gt (.inl (.int x)) (.inl (.int y))) (zB (G m (Pf (if y < x then A else B)) s1)) (zB (G m (Pf (if y < x then A else B)) s2)) = true :=
  zbr_ex (fun hc => zB_iff.mpr (k_pos hc h1)) (fun hc => zB_iff.mpr (k_neg hc h2))
theorem kb_le {x y : Int32} {A B : α} {s1 s2 : zS} (h1 : G m (Pf B) s1) (h2 : G m (Pf A) s2) : zbr (zcond .le (.inl (.int x)) (.inl (.int y))) (zB (G m (Pf (if y < x then A else B)) s1)) (zB (G m (Pf (if y < x then A else B)) s2)) = true :=
  zbr_ex (fun hc => zB_iff.mpr (k_neg (Int32.not_lt.mpr hc) h1)) (fun hc => zB_iff.mpr (k_pos (Int32.not_le.mp hc) h2))
theorem kl_eq {x y : Int64} {A B : α} {s1 s2 : zS} (h1 : G m (Pf A) s1) (h2 : G m (Pf B) s2) : zbr (zcond .eq (zcmpL (.inl (.long x)) (.inl (.long y))) (.inl (.int 0))) (zB (G m (Pf (if x = y then A else B)) s1)) (zB (G m (Pf (if x = y then A else B)) s2)) = true :=
  zbr_l (fun hc => zB_iff.mpr (k_pos (Int64.toInt_inj.mp hc) h1)) (fun hc => zB_iff.mpr (k_neg (fun e => hc (Int64.toInt_inj.mpr e)) h2))
theorem kl_ne {x y : Int64} {A B : α} {s1 s2 : zS} (h1 : G m (Pf B) s1) (h2 : G m (Pf A) s2) : zbr (zcond .ne (zcmpL (.inl (.long x)) (.inl (.long y))) (.inl (.int 0))) (zB (G m (Pf (if x = y then A else B)) s1)) (zB (G m (Pf (if x = y then A else B)) s2)) = true :=
  zbr_l (fun hc => zB_iff.mpr (k_neg (fun e => hc (Int64.toInt_inj.mpr e)) h1)) (fun hc => zB_iff.mpr (k_pos (Int64.toInt_inj.mp (Classical.not_not.mp hc)) h2))
theorem kl_lt {x y : Int64} {A B : α} {s1 s2 : zS} (h1 : G m (Pf A) s1) (h2 : G m (Pf B) s2) : zbr (zcond .lt (zcmpL (.inl (.long x)) (.inl (.long y))) (.inl (.int 0))) (zB (G m (Pf (if x < y then A else B)) s1)) (zB (G m (Pf (if x < y then A else B)) s2)) = true :=
  zbr_l (fun hc => zB_iff.mpr (k_pos (Int64.lt_iff_toInt_lt.mpr hc) h1)) (fun hc => zB_iff.mpr (k_neg (fun e => hc (Int64.lt_iff_toInt_lt.mp e)) h2))
theorem kl_ge {x y : Int64} {A B : α} {s1 s2 : zS} (h1 : G m (Pf B) s1) (h2 : G m (Pf A) s2) : zbr (zcond .ge (zcmpL (.inl (.long x)) (.inl (.long y))) (.inl (.int 0))) (zB (G m (Pf (if x < y then A else B)) s1)) (zB (G m (Pf (if x < y then A else B)) s2)) = true :=
  zbr_l (fun hc => zB_iff.mpr (k_neg (fun e => by have := Int64.lt_iff_toInt_lt.mp e; have hc : x.toInt ≥ y.toInt := hc; omega) h1)) (fun hc => zB_iff.mpr (k_pos (Int64.lt_iff_toInt_lt.mpr (by have hc : ¬ x.toInt ≥ y.toInt := hc; omega)) h2))
theorem kl_gt {x y : Int64} {A B : α} {s1 s2 : zS} (h1 : G m (Pf A) s1) (h2 : G m (Pf B) s2) : zbr (zcond .gt (zcmpL (.inl (.long x)) (.inl (.long y))) (.inl (.int 0))) (zB (G m (Pf (if y < x then A else B)) s1)) (zB (G m (Pf (if y < x then A else B)) s2)) = true :=
  zbr_l (fun hc => zB_iff.mpr (k_pos (Int64.lt_iff_toInt_lt.mpr hc) h1)) (fun hc => zB_iff.mpr (k_neg (fun e => hc (Int64.lt_iff_toInt_lt.mp e)) h2))
theorem kl_le {x y : Int64} {A B : α} {s1 s2 : zS} (h1 : G m (Pf B) s1) (h2 : G m (Pf A) s2) : zbr (zcond .le (zcmpL (.inl (.long x)) (.inl (.long y))) (.inl (.int 0))) (zB (G m (Pf (if y < x then A else B)) s1)) (zB (G m (Pf (if y < x then A else B)) s2)) = true :=
  zbr_l (fun hc => zB_iff.mpr (k_neg (fun e => by have := Int64.lt_iff_toInt_lt.mp e; have hc : x.toInt ≤ y.toInt := hc; omega) h1)) (fun hc => zB_iff.mpr (k_pos (Int64.lt_iff_toInt_lt.mpr (by have hc : ¬ x.toInt ≤ y.toInt := hc; omega)) h2))
/-- a call, whatever it answers -/
theorem k_callS (HG : G = GL E scr rc rs (zD zprog scr d0) r h') {E' : zE} {ix : Nat} (hb : b = 0 ∨ b = 1) (hsc : cT scr) (hf : zft (zEd E) pc = some (.invokestatic ix, cv, a, b, c, e9)) (hE : zprog a = some E')
    (kk : cH h → ∀ r1 h1, xD scr d0 a (st.take (zEp E')).reverse h r1 h1 → G m P (pc + 3, L, zpush r1 (st.drop (zEp E')), h1, nc + zEc E', ns + zEs E')) : G m P (pc, L, st, h, nc, ns) := by
  refine k_lib HG hf rfl (fun hcs hz => ?_)
  have key : ∀ K : zS → Bool, zstep zNf zdfl zslen zprog (zEm E) rc rs scr (zD zprog scr d0) K (.invokestatic ix) cv a b c pc L st h nc ns = (Nat.ble (zEp E') st.length && (Nat.ble (nc + zEc E') rc && (Nat.ble (ns + zEs E') rs && (Nat.ble (zsum (st.drop (zEp E'))) 8 && zD zprog scr d0 a (st.take (zEp E')).reverse h (fun r h' => K (pc + 3, L, zpush r (st.drop (zEp E')), h', nc + zEc E', ns + zEs E')))))) := by
    intro K
    rcases hb with rfl | rfl
    · simp only [zstep]
      unfold zcall
      rw [hE]
    · simp only [zstep]
      unfold zcall
      rw [hE]
  have hz : zstep zNf zdfl zslen zprog (zEm E) rc rs scr (zD zprog scr d0) (fun _ => true) (.invokestatic ix) cv a b c pc L st h nc ns = true := hz
  show zstep zNf zdfl zslen zprog (zEm E) rc rs scr (zD zprog scr d0) (fun y => zB (G m P y)) (.invokestatic ix) cv a b c pc L st h nc ns = true
  rw [key] at hz ⊢
  obtain ⟨z1, hz⟩ := z_and hz
  obtain ⟨z2, hz⟩ := z_and hz
  obtain ⟨z3, hz⟩ := z_and hz
  obtain ⟨z4, hz⟩ := z_and hz
  have hst : cT st := hcs.2.1
  have hh : cH h := hcs.2.2
  obtain ⟨r1, h1, -, -, hx, -⟩ := zD_xD hsc (cT_rev (cT_take hst _)) hh hz
  refine t_and2 z1 (t_and2 z2 (t_and2 z3 (t_and2 z4 ?_)))
  rw [hx]
  exact zB_iff.mpr (kk hh r1 h1 hx)
theorem k_callV {ins : Instr} (HG : G = GL E scr rc rs (zD zprog scr d0) r h') {E' : zE} {ix : Nat} {rest : List zV} (hi : ins = .invokevirtual ix ∧ b = 0 ∨ ins = .invokespecial ix ∧ b = 0) (hsc : cT scr) (hf : zft (zEd E) pc = some (ins, cv, a, b, c, e9)) (hE : zprog a = some E') (hd : st.drop (zEp E') = .inl (.ref q) :: rest)
    (kk : cH h → ∀ r1 h1, xD scr d0 a (.inl (.ref q) :: (st.take (zEp E')).reverse) h r1 h1 → G m P (pc + 3, L, zpush r1 rest, h1, nc + zEc E', ns + zEs E')) : G m P (pc, L, st, h, nc, ns) := by
  have hri : zisRet ins = false := by rcases hi with ⟨rfl, -⟩ | ⟨rfl, -⟩ <;> rfl
  refine k_lib HG hf hri (fun hcs hz => ?_)
  have key : ∀ K : zS → Bool, zstep zNf zdfl zslen zprog (zEm E) rc rs scr (zD zprog scr d0) K ins cv a b c pc L st h nc ns = (Nat.ble (zEp E') st.length && (Nat.ble (nc + zEc E') rc && (Nat.ble (ns + zEs E') rs && zrow h q (zEk E') (fun _ => Nat.ble (zsum rest) 8 && zD zprog scr d0 a (.inl (.ref q) :: (st.take (zEp E')).reverse) h (fun r h' => K (pc + 3, L, zpush r rest, h', nc + zEc E', ns + zEs E')))))) := by
    intro K
    rcases hi with ⟨rfl, rfl⟩ | ⟨rfl, rfl⟩
    · simp only [zstep]
      unfold zcalv
      rw [hE]
      show (_ && (_ && (_ && (match st.drop (zEp E') with
        | .inl (.ref q) :: r => zrow h q (zEk E') (fun _ => Nat.ble (zsum r) 8 && zD zprog scr d0 a (.inl (.ref q) :: (st.take (zEp E')).reverse) h (fun v h' => K (pc + 3, L, zpush v r, h', nc + zEc E', ns + zEs E')))
        | _ => false)))) = _
      rw [hd]
    · simp only [zstep]
      unfold zcalv
      rw [hE]
      show (_ && (_ && (_ && (match st.drop (zEp E') with
        | .inl (.ref q) :: r => zrow h q (zEk E') (fun _ => Nat.ble (zsum r) 8 && zD zprog scr d0 a (.inl (.ref q) :: (st.take (zEp E')).reverse) h (fun v h' => K (pc + 3, L, zpush v r, h', nc + zEc E', ns + zEs E')))
        | _ => false)))) = _
      rw [hd]
  have hz : zstep zNf zdfl zslen zprog (zEm E) rc rs scr (zD zprog scr d0) (fun _ => true) ins cv a b c pc L st h nc ns = true := hz
  show zstep zNf zdfl zslen zprog (zEm E) rc rs scr (zD zprog scr d0) (fun y => zB (G m P y)) ins cv a b c pc L st h nc ns = true
  rw [key] at hz ⊢
  obtain ⟨z1, hz⟩ := z_and hz
  obtain ⟨z2, hz⟩ := z_and hz
  obtain ⟨z3, hz⟩ := z_and hz
  refine t_and2 z1 (t_and2 z2 (t_and2 z3 ?_))
  unfold zrow at hz ⊢
  split at hz
  · next c0 hc0 =>
    obtain ⟨z4, hz⟩ := z_and hz
    obtain ⟨z5, hz⟩ := z_and hz
    obtain ⟨z6, hz⟩ := z_and hz
    refine t_and2 z4 (t_and2 z5 (t_and2 z6 ?_))
    have hst : cT st := hcs.2.1
    have hh : cH h := hcs.2.2
    obtain ⟨r1, h1, -, -, hx, -⟩ := zD_xD hsc (cT_cons ⟨_, rfl⟩ (cT_rev (cT_take hst _))) hh hz
    rw [hx]
    exact zB_iff.mpr (kk hh r1 h1 hx)
  · cases hz
/-- what a call leaves: the heap as it is, an int; a long; the heap, an int; the heap alone -/
def xI (scr : List zV) (j : Nat) (vs : List zV) (h : zH) (v : Int32) : Prop := ∀ d r h', xD scr d j vs h r h' → r = some (.inl (.int v)) ∧ h' = h
def xJ (scr : List zV) (j : Nat) (vs : List zV) (h : zH) (v : Int64) : Prop := ∀ d r h', xD scr d j vs h r h' → r = some (.inl (.long v)) ∧ h' = h
def xIH (scr : List zV) (W : List (Nat × Nat)) (T T' : List Nat) (j : Nat) (vs : List zV) (h : zH) (v : Int32 × zH) : Prop := ∀ d r h', xD scr d j vs h r h' → r = some (.inl (.int v.1)) ∧ h' = v.2 ∧ kOK W T T' h h'
def xH (scr : List zV) (W : List (Nat × Nat)) (T T' : List Nat) (j : Nat) (vs : List zV) (h : zH) (v : zH) : Prop := ∀ d r h', xD scr d j vs h r h' → r = none ∧ h' = v ∧ kOK W T T' h h'
theorem k_cSI (HG : G = GL E scr rc rs (zD zprog scr d0) r h') {E' : zE} {ix : Nat} {u : Int32} {B : Int32 → α} (hb : b = 0 ∨ b = 1) (hsc : cT scr) (hf : zft (zEd E) pc = some (.invokestatic ix, cv, a, b, c, e9)) (hE : zprog a = some E') (z0 : zEc E' = 0) (z1 : zEs E' = 0) (hx : cH h → xI scr a (st.take (zEp E')).reverse h u)
    (kk : ∀ y, G m (Pf (B y)) (pc + 3, L, .inl (.int y) :: st.drop (zEp E'), h, nc, ns)) : G m (Pf (letf u B)) (pc, L, st, h, nc, ns) := by
  refine k_callS HG hb hsc hf hE (fun hh r1 g1 hd => ?_)
  obtain ⟨rfl, rfl⟩ := hx hh d0 r1 g1 hd
  rw [z0, z1]
  exact kk u
theorem k_cVI {ins : Instr} (HG : G = GL E scr rc rs (zD zprog scr d0) r h') {E' : zE} {ix : Nat} {rest : List zV} {u : Int32} {B : Int32 → α} (hi : ins = .invokevirtual ix ∧ b = 0 ∨ ins = .invokespecial ix ∧ b = 0) (hsc : cT scr) (hf : zft (zEd E) pc = some (ins, cv, a, b, c, e9)) (hE : zprog a = some E') (hd : st.drop (zEp E') = .inl (.ref q) :: rest) (z0 : zEc E' = 0) (z1 : zEs E' = 0) (hx : cH h → xI scr a (.inl (.ref q) :: (st.take (zEp E')).reverse) h u)
    (kk : ∀ y, G m (Pf (B y)) (pc + 3, L, .inl (.int y) :: rest, h, nc, ns)) : G m (Pf (letf u B)) (pc, L, st, h, nc, ns) := by
  refine k_callV HG hi hsc hf hE hd (fun hh r1 g1 hd => ?_)
  obtain ⟨rfl, rfl⟩ := hx hh d0 r1 g1 hd
  rw [z0, z1]
  exact kk u
theorem k_cSJ (HG : G = GL E scr rc rs (zD zprog scr d0) r h') {E' : zE} {ix : Nat} {u : Int64} {B : Int64 → α} (hb : b = 0 ∨ b = 1) (hsc : cT scr) (hf : zft (zEd E) pc = some (.invokestatic ix, cv, a, b, c, e9)) (hE : zprog a = some E') (z0 : zEc E' = 0) (z1 : zEs E' = 0) (hx : cH h → xJ scr a (st.take (zEp E')).reverse h u)
    (kk : ∀ y, G m (Pf (B y)) (pc + 3, L, .inl (.long y) :: st.drop (zEp E'), h, nc, ns)) : G m (Pf (letf u B)) (pc, L, st, h, nc, ns) := by
  refine k_callS HG hb hsc hf hE (fun hh r1 g1 hd => ?_)
  obtain ⟨rfl, rfl⟩ := hx hh d0 r1 g1 hd
  rw [z0, z1]
  exact kk u
theorem k_cVJ {ins : Instr} (HG : G = GL E scr rc rs (zD zprog scr d0) r h') {E' : zE} {ix : Nat} {rest : List zV} {u : Int64} {B : Int64 → α} (hi : ins = .invokevirtual ix ∧ b = 0 ∨ ins = .invokespecial ix ∧ b = 0) (hsc : cT scr) (hf : zft (zEd E) pc = some (ins, cv, a, b, c, e9)) (hE : zprog a = some E') (hd : st.drop (zEp E') = .inl (.ref q) :: rest) (z0 : zEc E' = 0) (z1 : zEs E' = 0) (hx : cH h → xJ scr a (.inl (.ref q) :: (st.take (zEp E')).reverse) h u)
    (kk : ∀ y, G m (Pf (B y)) (pc + 3, L, .inl (.long y) :: rest, h, nc, ns)) : G m (Pf (letf u B)) (pc, L, st, h, nc, ns) := by
  refine k_callV HG hi hsc hf hE hd (fun hh r1 g1 hd => ?_)
  obtain ⟨rfl, rfl⟩ := hx hh d0 r1 g1 hd
  rw [z0, z1]
  exact kk u
theorem k_cSIH (HG : G = GL E scr rc rs (zD zprog scr d0) r h') {E' : zE} {ix : Nat} {u : Int32 × zH} {B : Int32 × zH → α} (hb : b = 0 ∨ b = 1) (hsc : cT scr) (hf : zft (zEd E) pc = some (.invokestatic ix, cv, a, b, c, e9)) (hE : zprog a = some E') (z0 : zEc E' = 0) (z1 : zEs E' = 0) (K : kOK W T0 T h0 h) (hs : wSub V W = true) (hx : cH h → xIH scr V T T' a (st.take (zEp E')).reverse h u)
    (kk : ∀ y, kOK W T0 T' h0 y.2 → G m (Pf (B y)) (pc + 3, L, .inl (.int y.1) :: st.drop (zEp E'), y.2, nc, ns)) : G m (Pf (letf u B)) (pc, L, st, h, nc, ns) := by
  refine k_callS HG hb hsc hf hE (fun hh r1 g1 hd => ?_)
  obtain ⟨rfl, rfl, hk⟩ := hx hh d0 r1 g1 hd
  rw [z0, z1]
  exact kk u (kOK_trans K hs hk)
theorem k_cVIH {ins : Instr} (HG : G = GL E scr rc rs (zD zprog scr d0) r h') {E' : zE} {ix : Nat} {rest : List zV} {u : Int32 × zH} {B : Int32 × zH → α} (hi : ins = .invokevirtual ix ∧ b = 0 ∨ ins = .invokespecial ix ∧ b = 0) (hsc : cT scr) (hf : zft (zEd E) pc = some (ins, cv, a, b, c, e9)) (hE : zprog a = some E') (hd : st.drop (zEp E') = .inl (.ref q) :: rest) (z0 : zEc E' = 0) (z1 : zEs E' = 0) (K : kOK W T0 T h0 h) (hs : wSub V W = true) (hx : cH h → xIH scr V T T' a (.inl (.ref q) :: (st.take (zEp E')).reverse) h u)
    (kk : ∀ y, kOK W T0 T' h0 y.2 → G m (Pf (B y)) (pc + 3, L, .inl (.int y.1) :: rest, y.2, nc, ns)) : G m (Pf (letf u B)) (pc, L, st, h, nc, ns) := by
  refine k_callV HG hi hsc hf hE hd (fun hh r1 g1 hd => ?_)
  obtain ⟨rfl, rfl, hk⟩ := hx hh d0 r1 g1 hd
  rw [z0, z1]
  exact kk u (kOK_trans K hs hk)
theorem k_cSH (HG : G = GL E scr rc rs (zD zprog scr d0) r h') {E' : zE} {ix : Nat} {u : zH} {B : zH → α} (hb : b = 0 ∨ b = 1) (hsc : cT scr) (hf : zft (zEd E) pc = some (.invokestatic ix, cv, a, b, c, e9)) (hE : zprog a = some E') (z0 : zEc E' = 0) (z1 : zEs E' = 0) (K : kOK W T0 T h0 h) (hs : wSub V W = true) (hx : cH h → xH scr V T T' a (st.take (zEp E')).reverse h u)
    (kk : ∀ y, kOK W T0 T' h0 y → G m (Pf (B y)) (pc + 3, L, st.drop (zEp E'), y, nc, ns)) : G m (Pf (letf u B)) (pc, L, st, h, nc, ns) := by
  refine k_callS HG hb hsc hf hE (fun hh r1 g1 hd => ?_)
  obtain ⟨rfl, rfl, hk⟩ := hx hh d0 r1 g1 hd
  rw [z0, z1]
  exact kk _ (kOK_trans K hs hk)
theorem k_cVH {ins : Instr} (HG : G = GL E scr rc rs (zD zprog scr d0) r h') {E' : zE} {ix : Nat} {rest : List zV} {u : zH} {B : zH → α} (hi : ins = .invokevirtual ix ∧ b = 0 ∨ ins = .invokespecial ix ∧ b = 0) (hsc : cT scr) (hf : zft (zEd E) pc = some (ins, cv, a, b, c, e9)) (hE : zprog a = some E') (hd : st.drop (zEp E') = .inl (.ref q) :: rest) (z0 : zEc E' = 0) (z1 : zEs E' = 0) (K : kOK W T0 T h0 h) (hs : wSub V W = true) (hx : cH h → xH scr V T T' a (.inl (.ref q) :: (st.take (zEp E')).reverse) h u)
    (kk : ∀ y, kOK W T0 T' h0 y → G m (Pf (B y)) (pc + 3, L, rest, y, nc, ns)) : G m (Pf (letf u B)) (pc, L, st, h, nc, ns) := by
  refine k_callV HG hi hsc hf hE hd (fun hh r1 g1 hd => ?_)
  obtain ⟨rfl, rfl, hk⟩ := hx hh d0 r1 g1 hd
  rw [z0, z1]
  exact kk _ (kOK_trans K hs hk)
end
section
variable {σ ρ : Type}
/-- a loop: on as long as F says so -/
def fxn (F : σ → σ ⊕ ρ) : Nat → σ → Option ρ
  | 0, _ => none
  | n + 1, s => match F s with
    | .inl s' => fxn F n s'
    | .inr r => some r
noncomputable def fx (F : σ → σ ⊕ ρ) (d : ρ) (s : σ) : ρ := @dite _ (∃ r n, fxn F n s = some r) (Classical.propDecidable _) (fun h => Classical.choose h) (fun _ => d)
theorem fxn_det {F : σ → σ ⊕ ρ} : ∀ {n m : Nat} {s : σ} {r r' : ρ}, fxn F n s = some r → fxn F m s = some r' → r = r' := by
  intro n
  induction n with
  | zero => intro m s r r' h; cases h
  | succ n ih =>
    intro m s r r' h1 h2
    cases m with
    | zero => cases h2
    | succ m =>
      unfold fxn at h1 h2
      cases e : F s with
      | inl s' =>
        rw [e] at h1 h2
        exact ih h1 h2
      | inr y =>
        rw [e] at h1 h2
        cases h1
        cases h2
        rfl
theorem fx_some {F : σ → σ ⊕ ρ} {d r : ρ} {n : Nat} {s : σ} (h : fxn F n s = some r) : fx F d s = r := by
  unfold fx
  have hx : ∃ r n, fxn F n s = some r := ⟨r, n, h⟩
  rw [dif_pos hx]
  obtain ⟨m, hm⟩ := Classical.choose_spec hx
  exact fxn_det hm h
theorem fx_none {F : σ → σ ⊕ ρ} {d : ρ} {s : σ} (h : ¬ ∃ r n, fxn F n s = some r) : fx F d s = d := by
  unfold fx
  rw [dif_neg h]
theorem fx_eq (F : σ → σ ⊕ ρ) (d : ρ) (s : σ) : fx F d s = match F s with
    | .inl s' => fx F d s'
    | .inr r => r := by
  cases e : F s with
  | inr r => exact fx_some (n := 1) (by unfold fxn; rw [e])
  | inl s' =>
    show fx F d s = fx F d s'
    by_cases hx : ∃ r n, fxn F n s' = some r
    · obtain ⟨r, n, hn⟩ := hx
      rw [fx_some hn]
      exact fx_some (n := n + 1) (by unfold fxn; rw [e]; exact hn)
    · rw [fx_none hx]
      refine fx_none (fun hy => hx ?_)
      obtain ⟨r, n, hn⟩ := hy
      cases n with
      | zero => cases hn
      | succ n =>
        unfold fxn at hn
        rw [e] at hn
        exact ⟨r, n, hn⟩
abbrev fxP (Pf : ρ → Prop) (F : σ → σ ⊕ ρ) (d : ρ) : σ ⊕ ρ → Prop := fun z => Pf (match z with
  | .inl s => fx F d s
  | .inr r => r)
theorem k_fx {G : Nat → Prop → zS → Prop} {m : Nat} {Pf : ρ → Prop} {F : σ → σ ⊕ ρ} {d : ρ} {s : σ} {x : zS} (hg : G m (fxP Pf F d (F s)) x) : G m (Pf (fx F d s)) x := by
  rw [fx_eq]
  exact hg
end
