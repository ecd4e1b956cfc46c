abbrev zESL : zE := (zySL, cJ0_length_8abf5, 1, some .int, 0, 98, 0, 0, [])
def zSL1 (l : Launch) (zst : zSt) (TG TN : List Cond) (scr : List zV) (adK adV : Nat → Nat) (ext : Nat → Option Nat) (D : va_G) (ct : Nat → ClassId) (d : Nat) : Prop :=
  ∀ (i : Nat), i < 8 → ∀ (h : zH) (ws : va_W) (sz : Nat), zHp (zrho ws ext) ct h ws →
    Met l zySL (zWS TG zESL) (zrm zESL d) (va_Pc [.ref (adK i)] (zPcB zst TN scr adK adV ext D ct ws sz)) (zQr ext D ct ws sz (fun r h' => decide (r = some (.inl (.int (Int32.ofNat (zlens.getD i 0))))) && decide (h' = h))) 0 0 (va_A ws sz)
abbrev zESC : zE := (zySC, cJ0_charAt_5068e, 2, some .char, 1, 98, 0, 0, [])
def zchr (i k : Nat) : Int32 := (zbyts.getD i []).getD k 0
def zSC (l : Launch) (zst : zSt) (TG TN : List Cond) (scr : List zV) (adK adV : Nat → Nat) (ext : Nat → Option Nat) (D : va_G) (ct : Nat → ClassId) (d : Nat) : Prop :=
  ∀ (i k : Nat), i < 8 → k < zlens.getD i 0 → ∀ (h : zH) (ws : va_W) (sz : Nat), zHp (zrho ws ext) ct h ws →
    Met l zySC (zWS TG zESC) (zrm zESC d) (va_Pc [.ref (adK i), .int (Int32.ofNat k)] (zPcB zst TN scr adK adV ext D ct ws sz)) (zQr ext D ct ws sz (fun r h' => decide (r = some (.inl (.int (zchr i k)))) && decide (h' = h))) 0 0 (va_A ws sz)
def zSL (l : Launch) (zst : zSt) (TG TN : List Cond) (scr : List zV) (adK adV : Nat → Nat) (ext : Nat → Option Nat) (D : va_G) (ct : Nat → ClassId) (d : Nat) : Prop := zSL1 l zst TG TN scr adK adV ext D ct d ∧ zSC l zst TG TN scr adK adV ext D ct d
theorem zsch_sp {q : Nat} {x v : Int32} (h : zsch q x = some v) : ∃ i k, i < 8 ∧ k < zlens.getD i 0 ∧ q = 1000000 + i ∧ x = Int32.ofNat k ∧ v = zchr i k := by
  unfold zsch at h
  split at h
  · next hq =>
    split at h
    · cases h
    · next hx =>
      obtain ⟨i, hi, rfl⟩ : ∃ i, i < 8 ∧ q = 1000000 + i := ⟨q - 1000000, by omega, by omega⟩
      rw [show 1000000 + i - 1000000 = i by omega] at h
      have hlen : ∀ j, j < 8 → (zbyts.getD j []).length = zlens.getD j 0 := by decide +kernel
      have hk := (List.getElem?_eq_some_iff.mp h).1
      rw [hlen i hi] at hk
      refine ⟨i, x.toNatClampNeg, hi, hk, rfl, ?_, ?_⟩
      · have h1 := z_nn hx
        have h2 : Int32.ofInt x.toInt = x := Int32.ofInt_toInt x
        rw [h1] at h2
        exact h2.symm
      · unfold zchr
        rw [List.getD_eq_getElem?_getD, h]
        rfl
  · cases h
section
variable {p : Program} {l : Launch} {e : Env} {R : Room} {s : State} {m : MethodId} {args : Array Value} {below : List Frame} {meth : Method} {c : Code} {Q : State → Prop}
variable {prog : Nat → Option zE} {zst : zSt} {TG TN : List Cond} {scr : List zV} {adK adV : Nat → Nat} {ext : Nat → Option Nat} {D : va_G} {ct : Nat → ClassId} {A : Nat → Prop} {E : zE} {rc rs d : Nat} {ws0 : va_W}
theorem z_invL (C : zCx p R s m args meth c prog zst TG TN scr adK adV ext D ct A E rc rs d) (hG : zGood TG) (hTN : zTNok TN) (HL : zSL l zst TG TN scr adK adV ext D ct d) (hLw0 : ∀ w ∈ zmwords zESL ++ zmwords zESC, w ∈ TG) {K : zS → Bool}
    (IH : ∀ x, K x = true → zGo p l e R s m args below meth c Q ext D ct (zEm E) rc rs A ws0 x) {ix pc nc ns q : Nat} {L : zL} {r : List zV} {h : zH} {ls : Array Slot} {stc : List Value} {H : Heap} {locs : List Loc} {ws : va_W} {x : Int32}
    (hrel : zRel ext D ct (zEm E) rc rs A s.heap ws0 L (.inl (.ref q) :: r) h nc ns ls stc H locs ws) (hl0 : Cond.methodLink E.1.cls ix zySL ∈ TG) (hdg : decode E.2.1 pc = .ok (.invokevirtual ix, 3)) (hx : zslen q = some x) (h7 : zsum r ≤ 8)
    (hz : K (pc + 3, L, .inl (.int x) :: r, h, nc, ns) = true) : W p l e R s m args below meth c H locs nc ns Q (F0 m pc ls stc) := by
  have hLw : ∀ w ∈ zmwords zESL, w ∈ TG := fun w h => hLw0 w (List.mem_append_left _ h)
  obtain ⟨hl, hL, hst, hH, hP, hD, hS, hnc, hns, hpre⟩ := hrel
  obtain ⟨v0, rest, rfl, g0, hrest⟩ := zL2_cons hst
  obtain ⟨b, hb, rfl⟩ := g0
  unfold zslen at hx
  split at hx
  · next hq =>
    have hx := Option.some.inj hx
    subst hx
    obtain ⟨i, hi, rfl⟩ : ∃ i, i < 8 ∧ q = 1000000 + i := ⟨q - 1000000, by omega, by omega⟩
    have hF := C.2.2.2.2.2.2.2.2.1
    have hbi : b = adK i := by
      have h1 := hF.2.1 i hi
      unfold zrho at hb
      rw [if_neg (by omega), h1] at hb
      exact (Option.some.inj hb).symm
    subst hbi
    rw [show 1000000 + i - 1000000 = i by omega] at hz
    have hpay := z_pay C hG hLw
    obtain ⟨w1, w2, w3, w4⟩ := z_mw hLw
    have hts := C.2.2.2.2.1
    have hA : ∀ q, s.heap.size ≤ q → A q := C.2.2.2.2.2.2.2.2.2.2.2.2.1
    have hfr := C.2.2.2.2.2.2.2.2.2.2.2.2.2.1
    have hlo := C.2.2.2.2.2.2.2.2.2.2.2.2.2.2.1
    have hrc : rc ≤ R.cells ∧ rs ≤ R.slots := ⟨C.2.2.2.2.2.2.2.2.2.2.2.2.2.2.2.1, C.2.2.2.2.2.2.2.2.2.2.2.2.2.2.2.2.1⟩
    have cb : CallB R s args E.1.cls ix zySL zESL.2.1 (zEm zESL) zESL.2.2.2.1 (zWS TG zESL) (zrm zESL d) 0 0 0 := by
      refine ⟨rfl, rfl, hfr, ?_, hpay, List.mem_cons_self, hts _ w1, hts _ w2, ⟨by decide, by decide⟩, fun sig h => ?_, hts _ hl0⟩
      · show 8 + (1 + 11) + 60 * (d + 1) ≤ R.locals
        omega
      · have h9 : (parseMethodDescriptor zySL.desc).map (fun d => d.parameters.length) = some 0 := by decide +kernel
        rw [h] at h9
        exact (Option.some.inj h9).symm
    have hpcB : ∀ U : State, U.heap = H → s.WarmedH U.vm → va_Pc [Value.ref (adK i)] (zPcB zst TN scr adK adV ext D ct ws H.size) (Value.ref (adK i) :: []).toArray U := fun U hU hW => ⟨rfl, zPcB_at C hTN hP hD hS hU hW⟩
    have hM := HL.1 i hi h ws H.size hH
    refine z_after (mc := 0) (ms := 0) hA hl hL hrest hD hS hnc hns hpre (va_runV (As := []) (n := 0) (C := "java/lang/String") (nL := zEm E) ⟨C.1, C.2.1, C.2.2.1, C.2.2.2.1, C.2.2.2.2.1⟩ hM ⟨cb, hts _ (w4 (by decide)).1, hts _ ((w4 (by decide)).2 (by decide))⟩ ⟨zPcB_blind hTN, vk_recv hF.2.2.1 hi hS, hpcB⟩ rfl rfl hl.1 rfl (lv_room (by rw [zL2_sum hrest]; exact h7)) hdg ⟨by omega, by omega⟩) (fun r' h' hp => ?_)
    obtain ⟨p1, p2⟩ := z_and hp
    have p1 := of_decide_eq_true p1
    have p2 := of_decide_eq_true p2
    subst p1
    subst p2
    exact IH _ hz
  · cases hx
theorem z_invC (C : zCx p R s m args meth c prog zst TG TN scr adK adV ext D ct A E rc rs d) (hG : zGood TG) (hTN : zTNok TN) (HL : zSL l zst TG TN scr adK adV ext D ct d) (hLw0 : ∀ w ∈ zmwords zESL ++ zmwords zESC, w ∈ TG) {K : zS → Bool}
    (IH : ∀ x, K x = true → zGo p l e R s m args below meth c Q ext D ct (zEm E) rc rs A ws0 x) {ix pc nc ns q : Nat} {L : zL} {r : List zV} {h : zH} {ls : Array Slot} {stc : List Value} {H : Heap} {locs : List Loc} {ws : va_W} {x y : Int32}
    (hrel : zRel ext D ct (zEm E) rc rs A s.heap ws0 L (.inl (.int y) :: .inl (.ref q) :: r) h nc ns ls stc H locs ws) (hl0 : Cond.methodLink E.1.cls ix zySC ∈ TG) (hdg : decode E.2.1 pc = .ok (.invokevirtual ix, 3)) (hx : zsch q y = some x) (h7 : zsum r ≤ 8)
    (hz : K (pc + 3, L, .inl (.int x) :: r, h, nc, ns) = true) : W p l e R s m args below meth c H locs nc ns Q (F0 m pc ls stc) := by
  have hLw : ∀ w ∈ zmwords zESC, w ∈ TG := fun w h => hLw0 w (List.mem_append_right _ h)
  obtain ⟨hl, hL, hst, hH, hP, hD, hS, hnc, hns, hpre⟩ := hrel
  obtain ⟨w0, v0, rest, rfl, gy, g0, hrest⟩ := zL2_2 hst
  cases gy
  obtain ⟨b, hb, rfl⟩ := g0
  obtain ⟨i, k, hi, hk, rfl, rfl, rfl⟩ := zsch_sp hx
  have hF := C.2.2.2.2.2.2.2.2.1
  have hbi : b = adK i := by
    have h1 := hF.2.1 i hi
    unfold zrho at hb
    rw [if_neg (by omega), h1] at hb
    exact (Option.some.inj hb).symm
  subst hbi
  have hpay := z_pay C hG hLw
  obtain ⟨w1, w2, w3, w4⟩ := z_mw hLw
  have hts := C.2.2.2.2.1
  have hA : ∀ q, s.heap.size ≤ q → A q := C.2.2.2.2.2.2.2.2.2.2.2.2.1
  have hfr := C.2.2.2.2.2.2.2.2.2.2.2.2.2.1
  have hlo := C.2.2.2.2.2.2.2.2.2.2.2.2.2.2.1
  have hrc : rc ≤ R.cells ∧ rs ≤ R.slots := ⟨C.2.2.2.2.2.2.2.2.2.2.2.2.2.2.2.1, C.2.2.2.2.2.2.2.2.2.2.2.2.2.2.2.2.1⟩
  have cb : CallB R s args E.1.cls ix zySC zESC.2.1 (zEm zESC) zESC.2.2.2.1 (zWS TG zESC) (zrm zESC d) 0 0 1 := by
    refine ⟨rfl, rfl, hfr, ?_, hpay, List.mem_cons_self, hts _ w1, hts _ w2, ⟨by decide, by decide⟩, fun sig h => ?_, hts _ hl0⟩
    · show 8 + (2 + 11) + 60 * (d + 1) ≤ R.locals
      omega
    · have h9 : (parseMethodDescriptor zySC.desc).map (fun d => d.parameters.length) = some 1 := by decide +kernel
      rw [h] at h9
      exact (Option.some.inj h9).symm
  have hpcB : ∀ U : State, U.heap = H → s.WarmedH U.vm → va_Pc [Value.ref (adK i), .int (Int32.ofNat k)] (zPcB zst TN scr adK adV ext D ct ws H.size) (Value.ref (adK i) :: [.int (Int32.ofNat k)]).toArray U := fun U hU hW => ⟨rfl, zPcB_at C hTN hP hD hS hU hW⟩
  have hM := HL.2 i k hi hk h ws H.size hH
  refine z_after (mc := 0) (ms := 0) hA hl hL hrest hD hS hnc hns hpre (va_runV (As := [.int (Int32.ofNat k)]) (n := 1) (C := "java/lang/String") (nL := zEm E) ⟨C.1, C.2.1, C.2.2.1, C.2.2.2.1, C.2.2.2.2.1⟩ hM ⟨cb, hts _ (w4 (by decide)).1, hts _ ((w4 (by decide)).2 (by decide))⟩ ⟨zPcB_blind hTN, vk_recv hF.2.2.1 hi hS, hpcB⟩ rfl rfl hl.1 rfl (lv_room (by rw [zL2_sum hrest]; exact h7)) hdg ⟨by omega, by omega⟩) (fun r' h' hp => ?_)
  obtain ⟨p1, p2⟩ := z_and hp
  have p1 := of_decide_eq_true p1
  have p2 := of_decide_eq_true p2
  subst p1
  subst p2
  exact IH _ hz
end
