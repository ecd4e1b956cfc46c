def zpost1 : Option zV → zH → Bool := fun r _ => decide (r = some (.inl (.int 1)))
theorem zdec_ir {bs : ByteArray} {pc : Nat} (h : zdec bs pc .ireturn = true) : decode bs pc = .ok (.ireturn, 1) := of_decide_eq_true h
section
variable {p : Program} {l : Launch} {e : Env} {s : State} {m : MethodId} {below : List Frame} {meth : Method} {c : Code} {b : Nat} {D : va_G} {ct : Nat → ClassId} {adK adV : Nat → Nat} {u : Nat}
def zGL (p : Program) (l : Launch) (e : Env) (s : State) (m : MethodId) (below : List Frame) (meth : Method) (c : Code) (b u : Nat) (D : va_G) (ct : Nat → ClassId) (adK : Nat → Nat) (x : zS) : Prop :=
  zGo p l e room_1 s m #[Value.ref b] below meth c (lw_Z below #[Value.ref b] s) (zext b u adK) D ct 4 room_1.cells room_1.slots (fun q : Nat => s.heap.size ≤ q) [] x
theorem z_lawcx {L dd : Nat} {xs : Nat → Int32} {scr : List zV} (hdd : dd ≤ 1000) (C0 : lw_At p s m meth c b L xs) (hK : va_K D vwCl (ztys ct) s) (hN : ∀ w ∈ zTN, va_Nw w s) (hO : va_AO RX0 s) (hO1 : va_AOA .long s) (hO2 : va_AOA .int s) (hF : zFacts zst scr adK adV (zext b u adK) (fun q : Nat => s.heap.size ≤ q) s s.heap) :
    zCx p room_1 s m #[Value.ref b] meth c zprog zst zTG zTN scr adK adV (zext b u adK) D ct (fun q : Nat => s.heap.size ≤ q) ze_L_law room_1.cells room_1.slots dd := by
  obtain ⟨hx, hb, hr, hml, hown, hts, hX, hbl, hlocks, hgv⟩ := C0
  exact ⟨hx, hb, hml, hown, fun w hw => hts w (List.mem_filter.mp hw).1, fun q => absurd q (by decide), hK, hN, hF, hO, hO1, hO2, fun q h => h, by show dd + 2 ≤ 2048; omega, by show 60 * (dd + 2) ≤ 84000; omega, Nat.le_refl _, Nat.le_refl _, zk_L_law, z_uwsin⟩
theorem z_lawret {L : Nat} {xs : Nat → Int32} (C0 : lw_At p s m meth c b L xs) (x : zS) (i : zI) (hi : zft (zEd ze_L_law) x.1 = some i) (hr : zret ze_L_law.2.2.2.1 i.1 x.2.2.1 x.2.2.2.1 zpost1 = true) : zGL p l e s m below meth c b u D ct adK x := by
  obtain ⟨hx, hb, hrt, hml, hown, hts, hX, hbl, hlocks, hgv⟩ := C0
  intro ls stc H locs ws hrel
  obtain ⟨hl, hL, hst, hH, hP, hD, hS, hnc, hns, hpre⟩ := hrel
  have k1 := (zk_L_law x.1 i hi).1
  refine W.widen hnc hns (va_forget hS.2.2 ?_)
  rcases zret_sp hr with ⟨v, hi1, hst1, hty, hp⟩ | ⟨v, hi1, hst1, hty, h9, hp⟩ | ⟨v, n9, hi1, hst1, hty, h9, hp⟩ | ⟨hi1, hst1, hty, hp⟩
  · have hp : some v = some (.inl (.int 1)) := of_decide_eq_true hp
    cases hp
    rw [hi1] at k1
    rw [hst1] at hst
    obtain ⟨w, r', rfl, hg, hr'⟩ := zL2_cons hst
    have e0 := zL2_nil hr'
    subst e0
    cases hg
    exact lw_ret hx hb hrt hlocks (zdec_ir k1)
  · cases hty
  · cases hty
  · cases hty
theorem z_lawwalk {L DD : Nat} {xs : Nat → Int32} {scr : List zV} (hDD : DD ≤ 900) (C0 : lw_At p s m meth c b L xs) (hK : va_K D vwCl (ztys ct) s) (hN : ∀ w ∈ zTN, va_Nw w s) (hO : va_AO RX0 s) (hO1 : va_AOA .long s) (hO2 : va_AOA .int s) (hF : zFacts zst scr adK adV (zext b u adK) (fun q : Nat => s.heap.size ≤ q) s s.heap) :
    zWalk zprog ze_L_law scr room_1.cells room_1.slots (zD zprog scr DD) zpost1 (zGL p l e s m below meth c b u D ct adK) := by
  have C := z_lawcx (dd := DD + 3) (by omega) C0 hK hN hO hO1 hO2 hF
  have HL : ∀ d, zSL l zst zTG zTN scr adK adV (zext b u adK) D ct (d + 3) := fun d => ⟨z_slen zGood_TG zTNok_TN z_slw z_uwsin (d + 3), z_schar zGood_TG zTNok_TN z_slw z_scx z_uwsin d⟩
  intro x i K hKG hi hx
  unfold zS1 at hx
  by_cases hri : zisRet i.1 = true
  · rw [if_pos hri] at hx
    exact z_lawret C0 x i hi hx
  · rw [if_neg hri] at hx
    obtain ⟨k1, k2, k3, k4⟩ := C.2.2.2.2.2.2.2.2.2.2.2.2.2.2.2.2.2.1 x.1 i hi
    intro ls stc H locs ws' hrel
    exact zstep_sound C zGood_TG zTNok_TN z_okP (HL DD) z_eslw z_glob (zD_sound zGood_TG zTNok_TN z_okP z_uwsin HL z_eslw z_glob DD) hKG hrel k1 k2 k3 k4 hx
theorem z_lawcxN {L dd : Nat} {xs : Nat → Int32} {scr : List zV} (hdd : dd ≤ 1000) (C0 : lw_At p s m meth c b L xs) (hK : va_K D vwCl (ztys ct) s) (hN : ∀ w ∈ zTN, va_Nw w s) (hO : va_AO RX0 s) (hO1 : va_AOA .long s) (hO2 : va_AOA .int s) (hF : zFacts zst scr adK adV (zext b u adK) (fun q : Nat => s.heap.size ≤ q) s s.heap) :
    zCx p room_1 s m #[Value.ref b] meth c zprog zst zTG zTN scr adK adV (zext b u adK) D ct (fun q : Nat => s.heap.size ≤ q) ze_L_lawN room_1.cells room_1.slots dd := by
  obtain ⟨hx, hb, hr, hml, hown, hts, hX, hbl, hlocks, hgv⟩ := C0
  exact ⟨hx, hb, hml, hown, fun w hw => hts w (List.mem_filter.mp hw).1, fun q => absurd q (by decide), hK, hN, hF, hO, hO1, hO2, fun q h => h, by show dd + 2 ≤ 2048; omega, by show 60 * (dd + 2) ≤ 84000; omega, Nat.le_refl _, Nat.le_refl _, zk_L_lawN, z_uwsin⟩
theorem z_lawretN {L : Nat} {xs : Nat → Int32} (C0 : lw_At p s m meth c b L xs) (x : zS) (i : zI) (hi : zft (zEd ze_L_lawN) x.1 = some i) (hr : zret ze_L_lawN.2.2.2.1 i.1 x.2.2.1 x.2.2.2.1 zpost1 = true) : zGL p l e s m below meth c b u D ct adK x := by
  obtain ⟨hx, hb, hrt, hml, hown, hts, hX, hbl, hlocks, hgv⟩ := C0
  intro ls stc H locs ws hrel
  obtain ⟨hl, hL, hst, hH, hP, hD, hS, hnc, hns, hpre⟩ := hrel
  have k1 := (zk_L_lawN x.1 i hi).1
  refine W.widen hnc hns (va_forget hS.2.2 ?_)
  rcases zret_sp hr with ⟨v, hi1, hst1, hty, hp⟩ | ⟨v, hi1, hst1, hty, h9, hp⟩ | ⟨v, n9, hi1, hst1, hty, h9, hp⟩ | ⟨hi1, hst1, hty, hp⟩
  · have hp : some v = some (.inl (.int 1)) := of_decide_eq_true hp
    cases hp
    rw [hi1] at k1
    rw [hst1] at hst
    obtain ⟨w, r', rfl, hg, hr'⟩ := zL2_cons hst
    have e0 := zL2_nil hr'
    subst e0
    cases hg
    exact lw_ret hx hb hrt hlocks (zdec_ir k1)
  · cases hty
  · cases hty
  · cases hty
theorem z_lawwalkN {L DD : Nat} {xs : Nat → Int32} {scr : List zV} (hDD : DD ≤ 900) (C0 : lw_At p s m meth c b L xs) (hK : va_K D vwCl (ztys ct) s) (hN : ∀ w ∈ zTN, va_Nw w s) (hO : va_AO RX0 s) (hO1 : va_AOA .long s) (hO2 : va_AOA .int s) (hF : zFacts zst scr adK adV (zext b u adK) (fun q : Nat => s.heap.size ≤ q) s s.heap) :
    zWalk zprog ze_L_lawN scr room_1.cells room_1.slots (zD zprog scr DD) zpost1 (zGL p l e s m below meth c b u D ct adK) := by
  have C := z_lawcxN (dd := DD + 3) (by omega) C0 hK hN hO hO1 hO2 hF
  have HL : ∀ d, zSL l zst zTG zTN scr adK adV (zext b u adK) D ct (d + 3) := fun d => ⟨z_slen zGood_TG zTNok_TN z_slw z_uwsin (d + 3), z_schar zGood_TG zTNok_TN z_slw z_scx z_uwsin d⟩
  intro x i K hKG hi hx
  unfold zS1 at hx
  by_cases hri : zisRet i.1 = true
  · rw [if_pos hri] at hx
    exact z_lawretN C0 x i hi hx
  · rw [if_neg hri] at hx
    obtain ⟨k1, k2, k3, k4⟩ := C.2.2.2.2.2.2.2.2.2.2.2.2.2.2.2.2.2.1 x.1 i hi
    intro ls stc H locs ws' hrel
    exact zstep_sound C zGood_TG zTNok_TN z_okP (HL DD) z_eslw z_glob (zD_sound zGood_TG zTNok_TN z_okP z_uwsin HL z_eslw z_glob DD) hKG hrel k1 k2 k3 k4 hx
theorem z_entry {x : zS} (hx : x = (0, [(0, .inl (.ref 10000000))], [], [], 0, 0)) (h : zGL p l e s m below meth c b u D ct adK x) : W p l e room_1 s m #[Value.ref b] below meth c s.heap [] 0 0 (lw_Z below #[Value.ref b] s) (entryFrame m ([Value.ref b] : List Value).toArray 4) := by
  subst hx
  have hl := lv_entry ([.ref b]) (n := 4) (Nat.le_of_ble_eq_true rfl)
  rw [lg_entry_eq]
  generalize (lg_sl ([.ref b]) ++ List.replicate (4 - (lg_sl ([.ref b])).length) Slot.unset).toArray = ls at hl ⊢
  have hl : lv_has ls 4 [(0, .ref b)] := hl
  refine h ls [] s.heap [] [] ⟨lv_sub hl [] rfl, fun q hq => ?_, trivial, ⟨rfl, fun i c q h1 _ => by simp at h1⟩, fun k q h => by simp at h, ⟨fun i j p q h => by simp at h, fun k q h => by simp at h⟩, va_S.rf, Nat.zero_le _, Nat.zero_le _, zPre_rf _⟩
  rw [List.mem_singleton.mp hq]
  refine ⟨_, lv_at hl 0 rfl, b, ?_, rfl⟩
  unfold zrho zext
  rw [if_neg (Nat.not_lt.mpr (Nat.le_of_ble_eq_true rfl)), if_pos rfl]
end
def zscr (L : Nat) (xs : Nat → Int32) : List zV := (List.range L).map (fun j => .inl (.int (xs j)))
theorem zscr_len {L : Nat} {xs : Nat → Int32} : (zscr L xs).length = L := by simp [zscr]
theorem zscr_at {L : Nat} {xs : Nat → Int32} {j : Nat} (h : j < L) : (zscr L xs)[j]? = some (.inl (.int (xs j))) := by simp [zscr, h]
