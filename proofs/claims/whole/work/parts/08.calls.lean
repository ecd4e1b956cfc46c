section
variable {p : Program} {l : Launch} {e : Env} {R : Room} {s : State} {m : MethodId} {args : Array Value} {below : List Frame} {meth : Method} {c : Code} {Q : State → Prop}
variable {prog : Nat → Option zE} {zst : zSt} {TG TN : List Cond} {scr : List zV} {adK adV : Nat → Nat} {ext : Nat → Option Nat} {D : va_G} {ct : Nat → ClassId} {A : Nat → Prop} {E : zE} {rc rs d : Nat} {ws0 : va_W}
theorem z_mside {E' : zE} (h : zmside E' = true) : (parseMethodDescriptor E'.1.desc).map (fun d => d.parameters.length) = some (zEp E') ∧ E'.1.cls ≠ "java/lang/invoke/MethodHandle" ∧ E'.1.cls ≠ "java/lang/invoke/VarHandle" ∧ zEm E' ≤ 40 ∧ plainName E'.1.cls = true ∧ (zEk E' ≠ 99 → zEk E' < 6 ∧ E'.1.cls = zRf (zEk E') ∧ (E'.1.name = "<init>" → E'.2.2.2.1 = none)) := by
  unfold zmside at h
  obtain ⟨h0, h⟩ := z_and h
  obtain ⟨h1, h⟩ := z_and h
  obtain ⟨h2, h⟩ := z_and h
  obtain ⟨h3, h⟩ := z_and h
  obtain ⟨h4, h⟩ := z_and h
  refine ⟨of_decide_eq_true h1, of_decide_eq_true h2, of_decide_eq_true h3, z_ble h4, h0, fun hne => ?_⟩
  rw [if_neg hne] at h
  obtain ⟨h5, h⟩ := z_and h
  obtain ⟨h6, h⟩ := z_and h
  refine ⟨z_blt h5, of_decide_eq_true h6, fun hi => ?_⟩
  rw [if_pos hi] at h
  exact of_decide_eq_true h
theorem z_mw {E' : zE} (h : ∀ w ∈ zmwords E', w ∈ TG) : Cond.code E'.1 E'.2.1 E'.2.2.1 E'.2.2.2.1 ∈ TG ∧ Cond.initialized E'.1.cls ∈ TG ∧ (zEk E' = 99 → Cond.static E'.1 ∈ TG) ∧ (zEk E' ≠ 99 → Cond.instanceMethod E'.1 ∈ TG ∧ (E'.1.name ≠ "<init>" → Cond.selects E'.1.cls E'.1 E'.1 ∈ TG)) := by
  unfold zmwords at h
  by_cases h1 : zEk E' = 99
  · rw [if_pos h1] at h
    exact ⟨h _ (by simp), h _ (by simp), fun _ => h _ (by simp), fun q => absurd h1 q⟩
  · rw [if_neg h1] at h
    by_cases h2 : E'.1.name = "<init>"
    · rw [if_pos h2] at h
      exact ⟨h _ (by simp), h _ (by simp), fun q => absurd q h1, fun _ => ⟨h _ (by simp), fun q => absurd h2 q⟩⟩
    · rw [if_neg h2] at h
      exact ⟨h _ (by simp), h _ (by simp), fun q => absurd q h1, fun _ => ⟨h _ (by simp), fun _ => h _ (by simp)⟩⟩
theorem z_pay (C : zCx p R s m args meth c prog zst TG TN scr adK adV ext D ct A E rc rs d) (hG : zGood TG) {E' : zE} (hm : ∀ w ∈ zmwords E', w ∈ TG) : ∀ w ∈ zWS TG E', ∀ (a' : Array Value) (U : State), s.WarmedH U.vm → w.before a' U = true := by
  intro w hw a' U hW
  obtain ⟨-, -, -, -, hts, -⟩ := C
  rcases List.mem_cons.mp hw with rfl | hw
  · have hc := (z_mw hm).1
    exact word_at hW (hG _ hc) (hts _ hc)
  · exact word_at hW (hG _ hw) (hts _ hw)
theorem z_cb (C : zCx p R s m args meth c prog zst TG TN scr adK adV ext D ct A E rc rs d) (hG : zGood TG) {E' : zE} (hm : ∀ w ∈ zmwords E', w ∈ TG) (hs : zmside E' = true) {ix : Nat} (hl : Cond.methodLink E.1.cls ix E'.1 ∈ TG) :
    CallB R s args E.1.cls ix E'.1 E'.2.1 (zEm E') E'.2.2.2.1 (zWS TG E') (zrm E' d) (zEc E') (zEs E') (zEp E') := by
  have hpay := z_pay C hG hm
  obtain ⟨-, -, -, -, hts, -, -, -, -, -, -, -, -, hfr, hlo, -⟩ := C
  obtain ⟨s1, s2, s3, s4, -⟩ := z_mside hs
  obtain ⟨w1, w2, -⟩ := z_mw hm
  refine ⟨rfl, rfl, hfr, ?_, hpay, List.mem_cons_self, hts _ w1, hts _ w2, ⟨s2, s3⟩, fun sig h => ?_, hts _ hl⟩
  · show 8 + (zEm E' + 11) + 60 * (d + 1) ≤ R.locals
    omega
  · rw [h] at s1
    exact (Option.some.inj s1).symm
theorem z_cn (C : zCx p R s m args meth c prog zst TG TN scr adK adV ext D ct A E rc rs d) (hG : zGood TG) {E' : zE} (hm : ∀ w ∈ zmwords E', w ∈ TG) (hs : zmside E' = true) {ix : Nat} {host : String} (hl : Cond.methodLinkNest E.1.cls ix E'.1 host ∈ TN) :
    va_CN R s args E.1.cls ix E'.1 host E'.2.1 (zEm E') E'.2.2.2.1 (zWS TG E') (zrm E' d) (zEc E') (zEs E') (zEp E') := by
  have hpay := z_pay C hG hm
  obtain ⟨-, -, -, -, hts, -, -, hN, -, -, -, -, -, hfr, hlo, -⟩ := C
  obtain ⟨s1, s2, s3, s4, -⟩ := z_mside hs
  obtain ⟨w1, w2, -⟩ := z_mw hm
  refine ⟨⟨rfl, rfl, hfr, ?_, hpay, List.mem_cons_self⟩, hts _ w1, hts _ w2, ⟨s2, s3⟩, fun sig h => ?_, va_Nw.use rfl (hN _ hl)⟩
  · show 8 + (zEm E' + 11) + 60 * (d + 1) ≤ R.locals
    omega
  · rw [h] at s1
    exact (Option.some.inj s1).symm
theorem zcalv_sp {cc : zK} {j nc ns : Nat} {st : List zV} {h : zH} {k : List zV → zH → Nat → Nat → Bool} (hz : zcalv prog cc j st h nc ns rc rs k = true) : ∃ (E' : zE) (q : Nat) (r fs : List zV), prog j = some E' ∧ zEp E' ≤ st.length ∧ nc + zEc E' ≤ rc ∧ ns + zEs E' ≤ rs ∧ st.drop (zEp E') = .inl (.ref q) :: r ∧ h[q]? = some (zEk E', fs) ∧ q < 1000000 ∧ zsum r ≤ 8 ∧ cc j (.inl (.ref q) :: (st.take (zEp E')).reverse) h (fun v h' => k (zpush v r) h' (nc + zEc E') (ns + zEs E')) = true := by
  unfold zcalv at hz
  split at hz
  · next E' hE =>
    obtain ⟨h1, hz⟩ := z_and hz
    obtain ⟨h2, hz⟩ := z_and hz
    obtain ⟨h3, hz⟩ := z_and hz
    split at hz
    · next q r hq =>
      obtain ⟨fs, h4, h5, hz⟩ := zrow_sp hz
      obtain ⟨h6, h7⟩ := z_and hz
      exact ⟨E', q, r, fs, hE, z_ble h1, z_ble h2, z_ble h3, hq, h4, h5, z_ble h6, h7⟩
    · cases hz
  · cases hz
theorem zcall_sp {cc : zK} {j nc ns : Nat} {st : List zV} {h : zH} {k : List zV → zH → Nat → Nat → Bool} (hz : zcall prog cc j st h nc ns rc rs k = true) : ∃ E' : zE, prog j = some E' ∧ zEp E' ≤ st.length ∧ nc + zEc E' ≤ rc ∧ ns + zEs E' ≤ rs ∧ zsum (st.drop (zEp E')) ≤ 8 ∧ cc j (st.take (zEp E')).reverse h (fun v h' => k (zpush v (st.drop (zEp E'))) h' (nc + zEc E') (ns + zEs E')) = true := by
  unfold zcall at hz
  split at hz
  · next E' hE =>
    obtain ⟨h1, hz⟩ := z_and hz
    obtain ⟨h2, hz⟩ := z_and hz
    obtain ⟨h3, hz⟩ := z_and hz
    obtain ⟨h4, h5⟩ := z_and hz
    exact ⟨E', hE, z_ble h1, z_ble h2, z_ble h3, z_ble h4, h5⟩
  · cases hz
theorem z_refobj {h : zH} {ws : va_W} {q k b : Nat} {fs : List zV} (hH : zHp (zrho ws ext) ct h ws) (hq : h[q]? = some (k, fs)) (hlt : q < 1000000) (hk : k < 10) (hb : zrho ws ext q = some b) : ∃ fv : List Value, ws[q]? = some (b, .inr (k, fv)) ∧ zL2 (zrho ws ext) fs fv := by
  obtain ⟨a, e', h1, h2⟩ := zHp_get hH hq
  obtain ⟨fv, rfl, h3⟩ := zobj h2 hk
  have h4 := zrho_at (ext := ext) hlt h1
  rw [hb] at h4
  cases h4
  exact ⟨fv, h1, h3⟩
theorem z_refarr {h : zH} {ws : va_W} {q t b : Nat} {vs : List zV} (hH : zHp (zrho ws ext) ct h ws) (hq : h[q]? = some (10 + t, vs)) (hlt : q < 1000000) (hb : zrho ws ext q = some b) : ∃ (n : Nat) (a : (Nat → Int32) ⊕ (Nat → Int64) ⊕ (Nat → UInt32) ⊕ (Nat → UInt64) ⊕ (Nat → Option Nat)), ws[q]? = some (b, .inl (ct t, n, a)) ∧ t < 6 ∧ vs.length = n ∧ zkd t a ∧ ∀ (j : Nat) (v : zV), vs[j]? = some v → zg (zrho ws ext) v (zval a j) := by
  obtain ⟨a, e', h1, h2⟩ := zHp_get hH hq
  obtain ⟨n, f, rfl, h3⟩ := zval_len h2 (t := t) rfl
  have h4 := zrho_at (ext := ext) hlt h1
  rw [hb] at h4
  cases h4
  exact ⟨n, f, h1, h3⟩
theorem z_stk {n : Nat} {st : List zV} {stc : List Value} {ρ : Nat → Option Nat} (hst : zL2 ρ st stc) (hn : n ≤ st.length) : stc = (stc.take n).reverse.reverse ++ stc.drop n ∧ (stc.take n).reverse.length = n := by
  refine ⟨by rw [List.reverse_reverse, List.take_append_drop], ?_⟩
  rw [List.length_reverse, List.length_take, ← zL2_len hst]
  omega
theorem z_invV (C : zCx p R s m args meth c prog zst TG TN scr adK adV ext D ct A E rc rs d) (hG : zGood TG) (hTN : zTNok TN) (hOk : zOkP prog zst TG TN) {cc : zK} (HM : ∀ j vs h post, cc j vs h post = true → zMet l prog zst TG TN scr adK adV ext D ct d j vs h post) {K : zS → Bool}
    (IH : ∀ x, K x = true → zGo p l e R s m args below meth c Q ext D ct (zEm E) rc rs A ws0 x) {ix j pc nc ns : Nat} {L : zL} {st : List zV} {h : zH} {ls : Array Slot} {stc : List Value} {H : Heap} {locs : List Loc} {ws : va_W}
    (hrel : zRel ext D ct (zEm E) rc rs A s.heap ws0 L st h nc ns ls stc H locs ws) (hsd : ∀ E', prog j = some E' → zEk E' < 6 ∧ E'.1.name ≠ "<init>" ∧ Cond.methodLink E.1.cls ix E'.1 ∈ TG) (hdg : decode E.2.1 pc = .ok (.invokevirtual ix, 3))
    (hz : zcalv prog cc j st h nc ns rc rs (fun st' h' nc' ns' => K (pc + 3, L, st', h', nc', ns')) = true) : W p l e R s m args below meth c H locs nc ns Q (F0 m pc ls stc) := by
  obtain ⟨E', q, r, fs, hE, h1, h2, h3, h4, h5, h6, h7, h8⟩ := zcalv_sp hz
  obtain ⟨hl, hL, hst, hH, hP, hD, hS, hnc, hns, hpre⟩ := hrel
  obtain ⟨k1, k2, k3⟩ := hsd E' hE
  obtain ⟨-, hms, hmw⟩ := hOk j E' hE
  have hne : zEk E' ≠ 99 := by omega
  obtain ⟨m1, m2, m3⟩ := (z_mside hms).2.2.2.2.2 hne
  obtain ⟨w1, w2, w3, w4⟩ := z_mw hmw
  have hdr := zL2_drop (zEp E') hst
  rw [h4] at hdr
  obtain ⟨v0, rest, e0, g0, hrest⟩ := zL2_cons hdr
  obtain ⟨b, hb, rfl⟩ := g0
  obtain ⟨e1, e2⟩ := z_stk hst h1
  rw [e0] at e1
  obtain ⟨fv, hw, -⟩ := z_refobj hH h5 h6 (by omega) hb
  have cb := z_cb C hG hmw hms k3
  have hpcB : ∀ U : State, U.heap = H → s.WarmedH U.vm → va_Pc (Value.ref b :: (stc.take (zEp E')).reverse) (zPcB zst TN scr adK adV ext D ct ws H.size) (Value.ref b :: (stc.take (zEp E')).reverse).toArray U := fun U hU hW => ⟨rfl, zPcB_at C hTN hP hD hS hU hW⟩
  have hA : ∀ q, s.heap.size ≤ q → A q := C.2.2.2.2.2.2.2.2.2.2.2.2.1
  have hrc : rc ≤ R.cells ∧ rs ≤ R.slots := ⟨C.2.2.2.2.2.2.2.2.2.2.2.2.2.2.2.1, C.2.2.2.2.2.2.2.2.2.2.2.2.2.2.2.2.1⟩
  have hM := HM j _ h _ h8 E' hE ws H.size (Value.ref b :: (stc.take (zEp E')).reverse) ⟨⟨b, hb, rfl⟩, zL2_rev (zL2_take _ hst)⟩ hH
  refine z_after hA hl hL hrest hD hS h2 h3 hpre (va_runV (C := E'.1.cls) (nL := zEm E) ⟨C.1, C.2.1, C.2.2.1, C.2.2.2.1, C.2.2.2.2.1⟩ hM ⟨cb, C.2.2.2.2.1 _ (w4 hne).1, C.2.2.2.2.1 _ ((w4 hne).2 k2)⟩ ⟨zPcB_blind hTN, by rw [m2]; exact va_recv C.2.2.2.2.2.2.1 hP (z_cl m1) hw, hpcB⟩ rfl e2 hl.1 e1 (lv_room (by rw [zL2_sum hrest]; exact h7)) hdg ⟨by omega, by omega⟩) (fun r' h' hp => IH _ hp)
theorem z_invI (C : zCx p R s m args meth c prog zst TG TN scr adK adV ext D ct A E rc rs d) (hG : zGood TG) (hTN : zTNok TN) (hOk : zOkP prog zst TG TN) {cc : zK} (HM : ∀ j vs h post, cc j vs h post = true → zMet l prog zst TG TN scr adK adV ext D ct d j vs h post) {K : zS → Bool}
    (IH : ∀ x, K x = true → zGo p l e R s m args below meth c Q ext D ct (zEm E) rc rs A ws0 x) {ix j pc nc ns : Nat} {L : zL} {st : List zV} {h : zH} {ls : Array Slot} {stc : List Value} {H : Heap} {locs : List Loc} {ws : va_W}
    (hrel : zRel ext D ct (zEm E) rc rs A s.heap ws0 L st h nc ns ls stc H locs ws) (hsd : ∀ E', prog j = some E' → zEk E' < 6 ∧ E'.1.name = "<init>" ∧ (Cond.methodLink E.1.cls ix E'.1 ∈ TG ∨ Cond.methodLinkNest E.1.cls ix E'.1 zhost ∈ TN)) (hdg : decode E.2.1 pc = .ok (.invokespecial ix, 3))
    (hz : zcalv prog cc j st h nc ns rc rs (fun st' h' nc' ns' => K (pc + 3, L, st', h', nc', ns')) = true) : W p l e R s m args below meth c H locs nc ns Q (F0 m pc ls stc) := by
  obtain ⟨E', q, r, fs, hE, h1, h2, h3, h4, h5, h6, h7, h8⟩ := zcalv_sp hz
  obtain ⟨hl, hL, hst, hH, hP, hD, hS, hnc, hns, hpre⟩ := hrel
  obtain ⟨k1, k2, k3⟩ := hsd E' hE
  obtain ⟨-, hms, hmw⟩ := hOk j E' hE
  have hne : zEk E' ≠ 99 := by omega
  obtain ⟨m1, m2, m3⟩ := (z_mside hms).2.2.2.2.2 hne
  obtain ⟨w1, w2, w3, w4⟩ := z_mw hmw
  have hdr := zL2_drop (zEp E') hst
  rw [h4] at hdr
  obtain ⟨v0, rest, e0, g0, hrest⟩ := zL2_cons hdr
  obtain ⟨b, hb, rfl⟩ := g0
  obtain ⟨e1, e2⟩ := z_stk hst h1
  rw [e0] at e1
  have hpcB : ∀ U : State, U.heap = H → s.WarmedH U.vm → va_Pc (Value.ref b :: (stc.take (zEp E')).reverse) (zPcB zst TN scr adK adV ext D ct ws H.size) (Value.ref b :: (stc.take (zEp E')).reverse).toArray U := fun U hU hW => ⟨rfl, zPcB_at C hTN hP hD hS hU hW⟩
  have hA : ∀ q, s.heap.size ≤ q → A q := C.2.2.2.2.2.2.2.2.2.2.2.2.1
  have hrc : rc ≤ R.cells ∧ rs ≤ R.slots := ⟨C.2.2.2.2.2.2.2.2.2.2.2.2.2.2.2.1, C.2.2.2.2.2.2.2.2.2.2.2.2.2.2.2.2.1⟩
  have hM := HM j _ h _ h8 E' hE ws H.size (Value.ref b :: (stc.take (zEp E')).reverse) ⟨⟨b, hb, rfl⟩, zL2_rev (zL2_take _ hst)⟩ hH
  rcases k3 with k3 | k3
  · have cb := z_cb C hG hmw hms k3
    rw [m3 k2] at cb
    exact z_after hA hl hL hrest hD hS h2 h3 hpre (va_runI (nL := zEm E) ⟨C.1, C.2.1, C.2.2.1, C.2.2.2.1, C.2.2.2.2.1⟩ hM ⟨cb, k2, C.2.2.2.2.1 _ (w4 hne).1⟩ ⟨zPcB_blind hTN, hpcB⟩ rfl e2 hl.1 e1 (lv_room (by rw [zL2_sum hrest]; exact h7)) hdg ⟨by omega, by omega⟩) (fun r' h' hp => IH _ hp)
  · have cb := z_cn C hG hmw hms k3
    rw [m3 k2] at cb
    exact z_after hA hl hL hrest hD hS h2 h3 hpre (va_runIN (nL := zEm E) ⟨C.1, C.2.1, C.2.2.1, C.2.2.2.1, C.2.2.2.2.1⟩ hM ⟨cb, k2, C.2.2.2.2.1 _ (w4 hne).1⟩ ⟨zPcB_blind hTN, hpcB⟩ rfl e2 hl.1 e1 (lv_room (by rw [zL2_sum hrest]; exact h7)) hdg ⟨by omega, by omega⟩) (fun r' h' hp => IH _ hp)
theorem z_invS (C : zCx p R s m args meth c prog zst TG TN scr adK adV ext D ct A E rc rs d) (hG : zGood TG) (hTN : zTNok TN) (hOk : zOkP prog zst TG TN) {cc : zK} (HM : ∀ j vs h post, cc j vs h post = true → zMet l prog zst TG TN scr adK adV ext D ct d j vs h post) {K : zS → Bool}
    (IH : ∀ x, K x = true → zGo p l e R s m args below meth c Q ext D ct (zEm E) rc rs A ws0 x) {ix j pc nc ns : Nat} {L : zL} {st : List zV} {h : zH} {ls : Array Slot} {stc : List Value} {H : Heap} {locs : List Loc} {ws : va_W}
    (hrel : zRel ext D ct (zEm E) rc rs A s.heap ws0 L st h nc ns ls stc H locs ws) (hsd : ∀ E', prog j = some E' → zEk E' = 99 ∧ (Cond.methodLink E.1.cls ix E'.1 ∈ TG ∨ Cond.methodLinkNest E.1.cls ix E'.1 zhost ∈ TN)) (hdg : decode E.2.1 pc = .ok (.invokestatic ix, 3))
    (hz : zcall prog cc j st h nc ns rc rs (fun st' h' nc' ns' => K (pc + 3, L, st', h', nc', ns')) = true) : W p l e R s m args below meth c H locs nc ns Q (F0 m pc ls stc) := by
  obtain ⟨E', hE, h1, h2, h3, h7, h8⟩ := zcall_sp hz
  obtain ⟨hl, hL, hst, hH, hP, hD, hS, hnc, hns, hpre⟩ := hrel
  obtain ⟨k1, k3⟩ := hsd E' hE
  obtain ⟨-, hms, hmw⟩ := hOk j E' hE
  obtain ⟨w1, w2, w3, w4⟩ := z_mw hmw
  have hrest := zL2_drop (zEp E') hst
  obtain ⟨e1, e2⟩ := z_stk hst h1
  have hpcB : ∀ U : State, U.heap = H → s.WarmedH U.vm → va_Pc (stc.take (zEp E')).reverse (zPcB zst TN scr adK adV ext D ct ws H.size) (stc.take (zEp E')).reverse.toArray U := fun U hU hW => ⟨rfl, zPcB_at C hTN hP hD hS hU hW⟩
  have hA : ∀ q, s.heap.size ≤ q → A q := C.2.2.2.2.2.2.2.2.2.2.2.2.1
  have hrc : rc ≤ R.cells ∧ rs ≤ R.slots := ⟨C.2.2.2.2.2.2.2.2.2.2.2.2.2.2.2.1, C.2.2.2.2.2.2.2.2.2.2.2.2.2.2.2.2.1⟩
  have hM := HM j _ h _ h8 E' hE ws H.size (stc.take (zEp E')).reverse (zL2_rev (zL2_take _ hst)) hH
  rcases k3 with k3 | k3
  · exact z_after hA hl hL hrest hD hS h2 h3 hpre (va_runS (nL := zEm E) ⟨C.1, C.2.1, C.2.2.1, C.2.2.2.1, C.2.2.2.2.1⟩ hM ⟨z_cb C hG hmw hms k3, C.2.2.2.2.1 _ (w3 k1)⟩ ⟨zPcB_blind hTN, hpcB⟩ rfl e2 hl.1 e1 (lv_room (by rw [zL2_sum hrest]; exact h7)) hdg ⟨by omega, by omega⟩) (fun r' h' hp => IH _ hp)
  · exact z_after hA hl hL hrest hD hS h2 h3 hpre (va_runSN (nL := zEm E) ⟨C.1, C.2.1, C.2.2.1, C.2.2.2.1, C.2.2.2.2.1⟩ hM ⟨z_cn C hG hmw hms k3, C.2.2.2.2.1 _ (w3 k1), trivial⟩ ⟨zPcB_blind hTN, hpcB⟩ rfl e2 hl.1 e1 (lv_room (by rw [zL2_sum hrest]; exact h7)) hdg ⟨by omega, by omega⟩) (fun r' h' hp => IH _ hp)
end
