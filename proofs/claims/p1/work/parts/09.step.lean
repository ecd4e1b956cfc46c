abbrev zESL : zE := (zySL, cJ0_length_8abf5, 1, some .int, 0, 98, 0, 0, [])
def zSL (l : Launch) (zst : zSt) (TG TN : List Cond) (scr : List zV) (adK adV : Nat → Nat) (ext : Nat → Option Nat) (D : va_G) (ct : Nat → ClassId) (d : Nat) : Prop :=
  ∀ (i : Nat), i < 8 → ∀ (h : zH) (ws : va_W) (sz : Nat), zHp (zrho ws ext) ct h ws →
    Met l zySL (zWS TG zESL) (zrm zESL d) (va_Pc [.ref (adK i)] (zPcB zst TN scr adK adV ext D ct ws sz)) (zQr ext D ct ws sz (fun r h' => decide (r = some (.inl (.int (Int32.ofNat (zlens.getD i 0))))) && decide (h' = h))) 0 0 (va_A ws sz)
section
variable {p : Program} {l : Launch} {e : Env} {R : Room} {s : State} {m : MethodId} {args : Array Value} {below : List Frame} {meth : Method} {c : Code} {Q : State → Prop}
variable {prog : Nat → Option zE} {zst : zSt} {TG TN : List Cond} {scr : List zV} {adK adV : Nat → Nat} {ext : Nat → Option Nat} {D : va_G} {ct : Nat → ClassId} {A : Nat → Prop} {E : zE} {rc rs d : Nat} {ws0 : va_W}
theorem z_invL (C : zCx p R s m args meth c prog zst TG TN scr adK adV ext D ct A E rc rs d) (hG : zGood TG) (hTN : zTNok TN) (HL : zSL l zst TG TN scr adK adV ext D ct d) (hLw : ∀ w ∈ zmwords zESL, w ∈ TG) {K : zS → Bool}
    (IH : ∀ x, K x = true → zGo p l e R s m args below meth c Q ext D ct (zEm E) rc rs A ws0 x) {ix pc nc ns q : Nat} {L : zL} {r : List zV} {h : zH} {ls : Array Slot} {stc : List Value} {H : Heap} {locs : List Loc} {ws : va_W} {x : Int32}
    (hrel : zRel ext D ct (zEm E) rc rs A s.heap ws0 L (.inl (.ref q) :: r) h nc ns ls stc H locs ws) (hl0 : Cond.methodLink E.1.cls ix zySL ∈ TG) (hdg : decode E.2.1 pc = .ok (.invokevirtual ix, 3)) (hx : zslen q = some x) (h7 : zsum r ≤ 8)
    (hz : K (pc + 3, L, .inl (.int x) :: r, h, nc, ns) = true) : W p l e R s m args below meth c H locs nc ns Q (F0 m pc ls stc) := by
  obtain ⟨hl, hL, hst, hH, hP, hD, hS, hnc, hns, hpre⟩ := hrel
  obtain ⟨v0, rest, rfl, g0, hrest⟩ := zL2_cons hst
  obtain ⟨b, hb, rfl⟩ := g0
  unfold zslen at hx
  split at hx
  · next hq =>
    have hx := Option.some.inj hx
    subst hx
    obtain ⟨i, hi, rfl⟩ : ∃ i, i < 8 ∧ q = 1000000 + i := ⟨q - 1000000, by omega, by omega⟩
    have hF := C.2.2.2.2.2.2.2.2.1
    have hbi : b = adK i := by
      have h1 := hF.2.1 i hi
      unfold zrho at hb
      rw [if_neg (by omega), h1] at hb
      exact (Option.some.inj hb).symm
    subst hbi
    rw [show 1000000 + i - 1000000 = i by omega] at hz
    have hpay := z_pay C hG hLw
    obtain ⟨w1, w2, w3, w4⟩ := z_mw hLw
    have hts := C.2.2.2.2.1
    have hA : ∀ q, s.heap.size ≤ q → A q := C.2.2.2.2.2.2.2.2.2.2.2.2.1
    have hfr := C.2.2.2.2.2.2.2.2.2.2.2.2.2.1
    have hlo := C.2.2.2.2.2.2.2.2.2.2.2.2.2.2.1
    have hrc : rc ≤ R.cells ∧ rs ≤ R.slots := ⟨C.2.2.2.2.2.2.2.2.2.2.2.2.2.2.2.1, C.2.2.2.2.2.2.2.2.2.2.2.2.2.2.2.2.1⟩
    have cb : CallB R s args E.1.cls ix zySL zESL.2.1 (zEm zESL) zESL.2.2.2.1 (zWS TG zESL) (zrm zESL d) 0 0 0 := by
      refine ⟨rfl, rfl, hfr, ?_, hpay, List.mem_cons_self, hts _ w1, hts _ w2, ⟨by decide, by decide⟩, fun sig h => ?_, hts _ hl0⟩
      · show 8 + (1 + 11) + 60 * (d + 1) ≤ R.locals
        omega
      · have h9 : (parseMethodDescriptor zySL.desc).map (fun d => d.parameters.length) = some 0 := by decide +kernel
        rw [h] at h9
        exact (Option.some.inj h9).symm
    have hpcB : ∀ U : State, U.heap = H → s.WarmedH U.vm → va_Pc [Value.ref (adK i)] (zPcB zst TN scr adK adV ext D ct ws H.size) (Value.ref (adK i) :: []).toArray U := fun U hU hW => ⟨rfl, zPcB_at C hTN hP hD hS hU hW⟩
    have hM := HL i hi h ws H.size hH
    refine z_after (mc := 0) (ms := 0) hA hl hL hrest hD hS hnc hns hpre (va_runV (As := []) (n := 0) (C := "java/lang/String") (nL := zEm E) ⟨C.1, C.2.1, C.2.2.1, C.2.2.2.1, C.2.2.2.2.1⟩ hM ⟨cb, hts _ (w4 (by decide)).1, hts _ ((w4 (by decide)).2 (by decide))⟩ ⟨zPcB_blind hTN, vk_recv hF.2.2.1 hi hS, hpcB⟩ rfl rfl hl.1 rfl (lv_room (by rw [zL2_sum hrest]; exact h7)) hdg ⟨by omega, by omega⟩) (fun r' h' hp => ?_)
    obtain ⟨p1, p2⟩ := z_and hp
    have p1 := of_decide_eq_true p1
    have p2 := of_decide_eq_true p2
    subst p1
    subst p2
    exact IH _ hz
  · cases hx
end
