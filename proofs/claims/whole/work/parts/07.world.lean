abbrev zSt : Type := List (String × Nat × String × Nat)
def zFacts (zst : zSt) (scr : List zV) (adK adV : Nat → Nat) (ext : Nat → Option Nat) (A : Nat → Prop) (U : State) (H : Heap) : Prop :=
  (∀ q ∈ zst, vk_R q.1 q.2.1 q.2.2.1 (adK q.2.2.2) U ∧ q.2.2.2 < 8) ∧ (∀ i, i < 8 → ext (1000000 + i) = some (adK i)) ∧ vk_S 8 zlens zbyts adK adV A U H ∧ va_Z "java/lang/String" "COMPACT_STRINGS" "Z" (.int 1) A U H ∧
  (∃ (b : Nat) (xs : Nat → Int32), ext 10000000 = some b ∧ ¬ A b ∧ b < H.size ∧ va_X b scr.length xs U H ∧ ∀ (j : Nat) (v : zV), scr[j]? = some v → zisI v = true ∧ zg (fun _ => none) v (.int (xs j))) ∧
  (∃ (b : Nat) (xs : Nat → Int32), ext 10000001 = some b ∧ va_T .int b 6 (fun j => .int (xs j)) A U H ∧ va_Z "EndsInFive" "UNDER" "[I" (.ref b) A U H ∧ ∀ (j : Nat) (v : zV), zund[j]? = some v → v = .inl (.int (xs j))) ∧
  va_Zq "jdk/internal/util/Preconditions" "SIOOBE_FORMATTER" "Ljava/util/function/BiFunction;" A U H
theorem va_X_moved {b L : Nat} {xs : Nat → Int32} {u U : State} {H : Heap} (hvm : u.vm.Alike U.vm) (h : va_X b L xs u H) : va_X b L xs U H := by
  obtain ⟨scr, h1, h2, h3, h4, h5⟩ := h
  exact ⟨scr, h1, State.isArrayOf_alike hvm h2, h3, h4, h5⟩
theorem va_X_kept {b L : Nat} {xs : Nat → Int32} {U : State} {H H1 : Heap} (hk : H1[b]? = H[b]?) (h : va_X b L xs U H) : va_X b L xs U H1 := by
  obtain ⟨scr, h1, h2, h3, h4, h5⟩ := h
  exact ⟨scr, hk.trans h1, h2, h3, h4, h5⟩
theorem zFacts_warm {zst : zSt} {scr : List zV} {adK adV : Nat → Nat} {ext : Nat → Option Nat} {A B : Nat → Prop} {s U : State} {H H1 : Heap} (hW : s.WarmedH U.vm) (hAB : ∀ q, B q → A q) (hz : H.size ≤ H1.size) (hk : ∀ q : Nat, q < H.size → ¬ A q → H1[q]? = H[q]?) (h : zFacts zst scr adK adV ext A s H) : zFacts zst scr adK adV ext B U H1 := by
  obtain ⟨h1, h2, h3, h4, ⟨b, xs, h5, h6, h7, h8, h9⟩, ⟨b', xs', g5, g8, g10, g9⟩, gq⟩ := h
  refine ⟨fun q hq => ⟨vk_R.warm hW (h1 q hq).1, (h1 q hq).2⟩, h2, ((h3.moved hW.alike).kept hk).narrow hAB, ((h4.moved hW.alike).kept hk).narrow hAB, ⟨b, xs, h5, fun q => h6 (hAB b q), Nat.lt_of_lt_of_le h7 hz, va_X_kept (hk b h7 h6) (va_X_moved hW.alike h8), h9⟩, ⟨b', xs', g5, ((g8.moved hW.alike).kept hk).narrow hAB, ((g10.moved hW.alike).kept hk).narrow hAB, g9⟩, ((gq.moved hW.alike).kept hk).narrow hAB⟩
theorem zFacts_same {zst : zSt} {scr : List zV} {adK adV : Nat → Nat} {ext : Nat → Option Nat} {A : Nat → Prop} {s U : State} {H : Heap} (hv : U.vm = s.vm) (h : zFacts zst scr adK adV ext A s H) : zFacts zst scr adK adV ext A U H := by
  have hal : s.vm.Alike U.vm := by rw [hv]; exact Vm.Alike.refl _
  obtain ⟨h1, h2, h3, h4, ⟨b, xs, h5, h6, h7, h8, h9⟩, ⟨b', xs', g5, g8, g10, g9⟩, gq⟩ := h
  exact ⟨fun q hq => ⟨vk_R.same hv (h1 q hq).1, (h1 q hq).2⟩, h2, h3.moved hal, h4.moved hal, ⟨b, xs, h5, h6, h7, va_X_moved hal h8, h9⟩, ⟨b', xs', g5, g8.moved hal, g10.moved hal, g9⟩, gq.moved hal⟩
def zWS (TG : List Cond) (E : zE) : List Cond := .code E.1 E.2.1 (zEm E) E.2.2.2.1 :: TG
def zrm (E : zE) (d : Nat) : Room := { frames := d + 1, cells := zEc E, slots := zEs E, locals := 60 * (d + 1) }
def zgo (ρ : Nat → Option Nat) : Option zV → Option Value → Prop
  | none, none => True
  | some a, some v => zg ρ a v
  | _, _ => False
def zPcB (zst : zSt) (TN : List Cond) (scr : List zV) (adK adV : Nat → Nat) (ext : Nat → Option Nat) (D : va_G) (ct : Nat → ClassId) (ws : va_W) (sz : Nat) (U : State) : Prop :=
  U.heap.size = sz ∧ va_P D vwCl ws U.heap ∧ va_K D vwCl (ztys ct) U ∧ va_D (fun _ => True) ws ∧ (∀ w ∈ TN, va_Nw w U) ∧ zFacts zst scr adK adV ext (va_A ws sz) U U.heap ∧ va_AO RX0 U ∧ va_AOA .long U ∧ va_AOA .int U
def zQr (ext : Nat → Option Nat) (D : va_G) (ct : Nat → ClassId) (ws : va_W) (sz : Nat) (post : Option zV → zH → Bool) : Array Value → State → Outcome → State → Prop := fun _ st o t =>
  (∃ (r : Option zV) (h' : zH) (v : Option Value) (ws' : va_W), post r h' = true ∧ o = .returned v ∧ zgo (zrho ws' ext) r v ∧ zHp (zrho ws' ext) ct h' ws' ∧ va_P D vwCl ws' t.heap ∧ va_D (va_A ws sz) ws' ∧ zPre ws ws') ∧ va_F (va_A ws sz) st t
def zMet (l : Launch) (prog : Nat → Option zE) (zst : zSt) (TG TN : List Cond) (scr : List zV) (adK adV : Nat → Nat) (ext : Nat → Option Nat) (D : va_G) (ct : Nat → ClassId) (d j : Nat) (vs : List zV) (h : zH) (post : Option zV → zH → Bool) : Prop :=
  ∀ (E : zE), prog j = some E → ∀ (ws : va_W) (sz : Nat) (argv : List Value), zL2 (zrho ws ext) vs argv → zHp (zrho ws ext) ct h ws →
    Met l E.1 (zWS TG E) (zrm E d) (va_Pc argv (zPcB zst TN scr adK adV ext D ct ws sz)) (zQr ext D ct ws sz post) (zEc E) (zEs E) (va_A ws sz)
def zRel (ext : Nat → Option Nat) (D : va_G) (ct : Nat → ClassId) (nL rc rs : Nat) (A : Nat → Prop) (H0 : Heap) (ws0 : va_W) (L : zL) (st : List zV) (h : zH) (nc ns : Nat) (ls : Array Slot) (stc : List Value) (H : Heap) (locs : List Loc) (ws : va_W) : Prop :=
  lv_has ls nL [] ∧ zLo (zrho ws ext) L ls ∧ zL2 (zrho ws ext) st stc ∧ zHp (zrho ws ext) ct h ws ∧ va_P D vwCl ws H ∧ va_D A ws ∧ va_S A H0 H locs ∧ nc ≤ rc ∧ ns ≤ rs ∧ zPre ws0 ws
def zGo (p : Program) (l : Launch) (e : Env) (R : Room) (s : State) (m : MethodId) (args : Array Value) (below : List Frame) (meth : Method) (c : Code) (Q : State → Prop) (ext : Nat → Option Nat) (D : va_G) (ct : Nat → ClassId) (nL rc rs : Nat) (A : Nat → Prop) (ws0 : va_W) (x : zS) : Prop :=
  ∀ (ls : Array Slot) (stc : List Value) (H : Heap) (locs : List Loc) (ws : va_W), zRel ext D ct nL rc rs A s.heap ws0 x.2.1 x.2.2.1 x.2.2.2.1 x.2.2.2.2.1 x.2.2.2.2.2 ls stc H locs ws →
    W p l e R s m args below meth c H locs x.2.2.2.2.1 x.2.2.2.2.2 Q (F0 m x.1 ls stc)
def zCx (p : Program) (R : Room) (s : State) (m : MethodId) (args : Array Value) (meth : Method) (c : Code) (prog : Nat → Option zE) (zst : zSt) (TG TN : List Cond) (scr : List zV) (adK adV : Nat → Nat) (ext : Nat → Option Nat) (D : va_G) (ct : Nat → ClassId) (A : Nat → Prop) (E : zE) (rc rs d : Nat) : Prop :=
  p.tables.exec = Jvm.exec ∧ c.code = E.2.1 ∧ c.maxLocals = zEm E ∧ s.vm.findClass E.1.cls = some m.cls ∧ (∀ w ∈ TG, w.before args s = true) ∧ (E.1.name = "<init>" → meth.name = "<init>") ∧ va_K D vwCl (ztys ct) s ∧ (∀ w ∈ TN, va_Nw w s) ∧ zFacts zst scr adK adV ext A s s.heap ∧ va_AO RX0 s ∧ va_AOA .long s ∧ va_AOA .int s ∧ (∀ q, s.heap.size ≤ q → A q) ∧ d + 2 ≤ R.frames ∧ 60 * (d + 2) ≤ R.locals ∧ rc ≤ R.cells ∧ rs ≤ R.slots ∧ zOkC prog zst TG TN E ∧ (∀ w ∈ zuws, w ∈ TG)
def zGood (TG : List Cond) : Prop := ∀ w ∈ TG, (w.onTables && w.keeps) = true ∨ ∃ ty, w = .arrayClass ty
def zTNok (TN : List Cond) : Prop := ∀ w ∈ TN, ∃ (a : String) (i : Nat) (x : MethodName) (h : String), w = .methodLinkNest a i x h
theorem zPcB_blind {zst : zSt} {TN : List Cond} {scr : List zV} {adK adV : Nat → Nat} {ext : Nat → Option Nat} {D : va_G} {ct : Nat → ClassId} {ws : va_W} {sz : Nat} {argv : List Value} (hTN : zTNok TN) : FrameBlind (va_Pc argv (zPcB zst TN scr adK adV ext D ct ws sz)) := by
  intro a U g mk ⟨h0, h1, h2, h3, h4, h5, h6, h7, h8, h9⟩
  have hv : (U.calling g mk a).vm = U.vm := rfl
  have hal : U.vm.Alike (U.calling g mk a).vm := Vm.Alike.refl _
  refine ⟨h0, h1, h2, va_K.moved hal h3, h4, fun w hw => ?_, zFacts_same hv h6, va_AO.moved hal h7, va_AOA.moved hal h8, va_AOA.moved hal h9⟩
  obtain ⟨_, _, _, _, rfl⟩ := hTN w hw
  exact va_Nw.same rfl hv.symm (h5 _ hw)
section
variable {p : Program} {l : Launch} {e : Env} {R : Room} {s : State} {m : MethodId} {args : Array Value} {below : List Frame} {meth : Method} {c : Code} {Q : State → Prop}
variable {prog : Nat → Option zE} {zst : zSt} {TG TN : List Cond} {scr : List zV} {adK adV : Nat → Nat} {ext : Nat → Option Nat} {D : va_G} {ct : Nat → ClassId} {A : Nat → Prop} {E : zE} {rc rs d : Nat} {ws0 : va_W}
theorem zPcB_at (C : zCx p R s m args meth c prog zst TG TN scr adK adV ext D ct A E rc rs d) (hTN : zTNok TN) {H : Heap} {locs : List Loc} {ws : va_W} (hP : va_P D vwCl ws H) (hD : va_D A ws) (hS : va_S A s.heap H locs) {U : State} (hU : U.heap = H) (hW : s.WarmedH U.vm) : zPcB zst TN scr adK adV ext D ct ws H.size U := by
  obtain ⟨-, -, -, -, -, -, hK, hN, hF, h1, h2, h3, hA, -⟩ := C
  have hfree : ∀ q, va_A ws H.size q → A q := va_free hD hS hA (List.range ws.length) (by
    apply List.ext_getElem?
    intro i
    by_cases hi : i < ws.length
    · simp [hi]
    · simp [Nat.not_lt.mp hi])
  refine ⟨by rw [hU], by rw [hU]; exact hP, va_K.moved hW.alike hK, hD.weaken (fun _ _ _ _ => trivial), fun w hw => ?_, by rw [hU]; exact zFacts_warm hW hfree hS.1 hS.2.1 hF, va_AO.moved hW.alike h1, va_AOA.moved hW.alike h2, va_AOA.moved hW.alike h3⟩
  obtain ⟨_, _, _, _, rfl⟩ := hTN w hw
  exact va_Nw.warmM hW (hN _ hw)
theorem z_after {post : Option zV → zH → Bool} {a : Array Value} {pc : Nat} {ls : Array Slot} {stc rest : List Value} {H : Heap} {locs : List Loc} {ws : va_W} {nL nc ns mc ms : Nat} {L : zL} {r0 : List zV}
    (hA : ∀ q, s.heap.size ≤ q → A q) (hl : lv_has ls nL []) (hL : zLo (zrho ws ext) L ls) (hr0 : zL2 (zrho ws ext) r0 rest) (hD : va_D A ws) (hS : va_S A s.heap H locs) (hnc : nc + mc ≤ rc) (hns : ns + ms ≤ rs) (hpre : zPre ws0 ws)
    (hrun : va_Run p l e R s m args below meth c H locs nc ns mc ms (F0 m pc ls stc) rest (zQr ext D ct ws H.size post a) (va_A ws H.size))
    (kk : ∀ (r : Option zV) (h' : zH), post r h' = true → zGo p l e R s m args below meth c Q ext D ct nL rc rs A ws0 (pc + 3, L, zpush r r0, h', nc + mc, ns + ms)) :
    W p l e R s m args below meth c H locs nc ns Q (F0 m pc ls stc) := by
  have hfree : ∀ q, va_A ws H.size q → A q := va_free hD hS hA (List.range ws.length) (by
    apply List.ext_getElem?
    intro i
    by_cases hi : i < ws.length
    · simp [hi]
    · simp [Nat.not_lt.mp hi])
  intro T hT X
  obtain ⟨v, st₀, t, T', L1, h0, X', hL1, e1, e2, ⟨⟨r, h', v', ws', hp, ho, hg, hH, hP', hD', hpr⟩, hz, hk⟩, st⟩ := hrun T hT X
  cases ho
  rw [h0] at hz hk
  have hm := zPre_rho (ext := ext) hpr
  have hst : zL2 (zrho ws' ext) (zpush r r0) (v.toList ++ rest) := by
    cases r with
    | none =>
      cases v with
      | none => exact zL2_mono hm hr0
      | some v => exact hg.elim
    | some a =>
      cases v with
      | none => exact hg.elim
      | some v => exact ⟨hg, zL2_mono hm hr0⟩
  obtain ⟨t2, a1, b1⟩ := kk r h' hp ls (v.toList ++ rest) T'.heap (locs ++ L1) ws' ⟨hl, zLo_mono hm hL, hst, hH, by rw [e1]; exact hP', hD'.weaken (fun k q _ hq => hfree q.1 hq),
    ⟨Nat.le_trans hS.1 (by rw [e1]; exact hz), fun q h1 h2 => by
      rw [e1, hk q (Nat.lt_of_lt_of_le h1 hS.1) (fun z => h2 (hfree q z))]
      exact hS.2.1 q h1 h2, fun q hq => by
      rcases List.mem_append.mp hq with h3 | h3
      · exact hS.2.2 q h3
      · exact hfree _ (hL1 q h3)⟩, hnc, hns, zPre_tr hpre hpr⟩ T' rfl X'
  exact ⟨t2, st t2 a1, b1⟩
end
