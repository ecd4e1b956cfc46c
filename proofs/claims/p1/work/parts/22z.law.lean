def zpost1 : Option zV → zH → Bool := fun r _ => decide (r = some (.inl (.int 1)))
def zdeC : DecidableEq zC := inferInstance
def zdeH : DecidableEq zH := @instDecidableEqList _ zdeC
theorem zdec_ir {bs : ByteArray} {pc : Nat} (h : zdec bs pc .ireturn = true) : decode bs pc = .ok (.ireturn, 1) := of_decide_eq_true h
def zfin27 : Nat → zS → Bool := fun pc x => Nat.beq pc 27 && (Nat.beq x.1 27 && (decide (x.2.1 = zl0s) && (decide (x.2.2.1 = []) && (@decide (x.2.2.2.1 = zh0) (zdeH _ _) && (Nat.beq x.2.2.2.2.1 79 && Nat.beq x.2.2.2.2.2 2750)))))
theorem zfin27_sp {x : zS} (h : zfin27 x.1 x = true) : x = (27, zl0s, [], zh0, 79, 2750) := by
  obtain ⟨a, b, c, d, e, f⟩ := x
  obtain ⟨-, h⟩ := z_and h
  obtain ⟨h1, h⟩ := z_and h
  obtain ⟨h2, h⟩ := z_and h
  obtain ⟨h3, h⟩ := z_and h
  obtain ⟨h4, h⟩ := z_and h
  obtain ⟨h5, h6⟩ := z_and h
  have e1 : a = 27 := Nat.eq_of_beq_eq_true h1
  have e2 : b = zl0s := of_decide_eq_true h2
  have e3 : c = [] := of_decide_eq_true h3
  have e4 : d = zh0 := @of_decide_eq_true _ (zdeH _ _) h4
  have e5 : e = 79 := Nat.eq_of_beq_eq_true h5
  have e6 : f = 2750 := Nat.eq_of_beq_eq_true h6
  subst e1 e2 e3 e4 e5 e6
  rfl
theorem zseg1 : zrun zNf zdfl zslen zprog ze_L_law (zscr []) 600000 7302250 (zdeep zNf zdfl zslen zprog (zscr []) 10) zfin27 (fun _ _ => false) 300 (0, [(0, .inl (.ref 10000000))], [], [], 0, 0) = true := by decide +kernel
theorem zshort : ∀ n, n < 6 → zrun zNf zdfl zslen zprog ze_L_law (List.replicate n zI0) 600000 7302250 (zdeep zNf zdfl zslen zprog (List.replicate n zI0) 10) (fun _ _ => false) zpost1 300 (0, [(0, .inl (.ref 10000000))], [], [], 0, 0) = true := by decide +kernel
section
variable {p : Program} {l : Launch} {e : Env} {s : State} {m : MethodId} {below : List Frame} {meth : Method} {c : Code} {b : Nat} {D : va_G} {ct : Nat → ClassId} {adK adV : Nat → Nat}
def zGL (p : Program) (l : Launch) (e : Env) (s : State) (m : MethodId) (below : List Frame) (meth : Method) (c : Code) (b : Nat) (D : va_G) (ct : Nat → ClassId) (adK : Nat → Nat) (x : zS) : Prop :=
  zGo p l e room_1 s m #[Value.ref b] below meth c (lw_Z below #[Value.ref b] s) (zext b adK) D ct 4 600000 7302250 (fun q : Nat => s.heap.size ≤ q) [] x
theorem z_lawcx {L : Nat} {xs : Nat → Int32} {scr : List zV} (C0 : lw_At p s m meth c b L xs) (hK : va_K D vwCl (ztys ct) s) (hN : ∀ w ∈ zTN, va_Nw w s) (hO : va_AO RX0 s) (hO1 : va_AOA .long s) (hO2 : va_AOA .int s) (hF : zFacts zst scr adK adV (zext b adK) (fun q : Nat => s.heap.size ≤ q) s s.heap) :
    zCx p room_1 s m #[Value.ref b] meth c zprog zst zTG zTN scr adK adV (zext b adK) D ct (fun q : Nat => s.heap.size ≤ q) ze_L_law 600000 7302250 10 := by
  obtain ⟨hx, hb, hr, hml, hown, hts, hX, hbl, hlocks, hgv⟩ := C0
  exact ⟨hx, hb, hml, hown, fun w hw => hts w (List.mem_filter.mp hw).1, fun q => absurd q (by decide), hK, hN, hF, hO, hO1, hO2, fun q h => h, Nat.le_of_ble_eq_true rfl, Nat.le_of_ble_eq_true rfl, Nat.le_refl _, Nat.le_refl _, zk_L_law, z_uwsin⟩
theorem z_lawret {L : Nat} {xs : Nat → Int32} (C0 : lw_At p s m meth c b L xs) (x : zS) (i : zI) (hi : zft (zEd ze_L_law) x.1 = some i) (hr : zret ze_L_law.2.2.2.1 i.1 x.2.2.1 x.2.2.2.1 zpost1 = true) : zGL p l e s m below meth c b D ct adK x := by
  obtain ⟨hx, hb, hrt, hml, hown, hts, hX, hbl, hlocks, hgv⟩ := C0
  intro ls stc H locs ws hrel
  obtain ⟨hl, hL, hst, hH, hP, hD, hS, hnc, hns, hpre⟩ := hrel
  have k1 := (zk_L_law x.1 i hi).1
  refine W.widen hnc hns (va_forget hS.2.2 ?_)
  rcases zret_sp hr with ⟨v, hi1, hst1, hty, hp⟩ | ⟨v, hi1, hst1, hty, h9, hp⟩ | ⟨v, n9, hi1, hst1, hty, h9, hp⟩ | ⟨hi1, hst1, hty, hp⟩
  · have hp : some v = some (.inl (.int 1)) := of_decide_eq_true hp
    cases hp
    rw [hi1] at k1
    rw [hst1] at hst
    obtain ⟨w, r', rfl, hg, hr'⟩ := zL2_cons hst
    have e0 := zL2_nil hr'
    subst e0
    cases hg
    exact lw_ret hx hb hrt hlocks (zdec_ir k1)
  · cases hty
  · cases hty
  · cases hty
theorem z_lawrun {L : Nat} {xs : Nat → Int32} {scr : List zV} (C0 : lw_At p s m meth c b L xs) (C : zCx p room_1 s m #[Value.ref b] meth c zprog zst zTG zTN scr adK adV (zext b adK) D ct (fun q : Nat => s.heap.size ≤ q) ze_L_law 600000 7302250 10) {fin : Nat → zS → Bool} {post : Option zV → zH → Bool} (hfin : ∀ x : zS, fin x.1 x = true → zGL p l e s m below meth c b D ct adK x)
    (hpost : ∀ (x : zS) (i : zI), zret ze_L_law.2.2.2.1 i.1 x.2.2.1 x.2.2.2.1 post = true → zret ze_L_law.2.2.2.1 i.1 x.2.2.1 x.2.2.2.1 zpost1 = true) (n : Nat) (x : zS)
    (h : zrun zNf zdfl zslen zprog ze_L_law scr 600000 7302250 (zdeep zNf zdfl zslen zprog scr 10) fin post n x = true) : zGL p l e s m below meth c b D ct adK x :=
  zrun_sound C zGood_TG zTNok_TN z_okP (z_slen zGood_TG zTNok_TN z_slw z_uwsin 10) z_eslw z_glob (zdeep_sound zGood_TG zTNok_TN z_okP z_uwsin (fun d => z_slen zGood_TG zTNok_TN z_slw z_uwsin d) z_eslw z_glob 10) hfin (fun x i hi _ hr => z_lawret C0 x i hi (hpost x i hr)) n x h
theorem z_entry {x : zS} (hx : x = (0, [(0, .inl (.ref 10000000))], [], [], 0, 0)) (h : zGL p l e s m below meth c b D ct adK x) : W p l e room_1 s m #[Value.ref b] below meth c s.heap [] 0 0 (lw_Z below #[Value.ref b] s) (entryFrame m ([Value.ref b] : List Value).toArray 4) := by
  subst hx
  have hl := lv_entry ([.ref b]) (n := 4) (Nat.le_of_ble_eq_true rfl)
  rw [lg_entry_eq]
  generalize (lg_sl ([.ref b]) ++ List.replicate (4 - (lg_sl ([.ref b])).length) Slot.unset).toArray = ls at hl ⊢
  have hl : lv_has ls 4 [(0, .ref b)] := hl
  refine h ls [] s.heap [] [] ⟨lv_sub hl [] rfl, fun q hq => ?_, trivial, ⟨rfl, fun i c q h1 _ => by simp at h1⟩, fun k q h => by simp at h, ⟨fun i j p q h => by simp at h, fun k q h => by simp at h⟩, va_S.rf, Nat.zero_le _, Nat.zero_le _, zPre_rf _⟩
  rw [List.mem_singleton.mp hq]
  refine ⟨_, lv_at hl 0 rfl, b, ?_, rfl⟩
  unfold zrho zext
  rw [if_neg (Nat.not_lt.mpr (Nat.le_of_ble_eq_true rfl)), if_pos rfl]
theorem z_switch {xs : Nat → Int32} (C0 : lw_At p s m meth c b 6 xs) (h52 : zGL p l e s m below meth c b D ct adK (1663, zl0s, [], zh0, 79, 2750)) (hop : ∀ j, j < 52 → zGL p l e s m below meth c b D ct adK (ztgs.getD j 0, zl0s, [], zh0, 79, 2750)) : zGL p l e s m below meth c b D ct adK (27, zl0s, [], zh0, 79, 2750) := by
  obtain ⟨hx, hb, hrt, hml, hown, hts, hX, hbl, hlocks, hgv⟩ := C0
  intro ls stc H locs ws hrel
  obtain ⟨hl, hL, hst, hH, hP, hD, hS, hnc, hns, hpre⟩ := id hrel
  have e0 := zL2_nil hst
  subst e0
  have hbA : ¬ (fun q : Nat => s.heap.size ≤ q) b := Nat.not_le.mpr hbl
  have g0 : zget zl0s 0 = some (.inl (.ref 10000000)) := rfl
  have g3 : zget zl0s 3 = some (.inl (.int 0)) := rfl
  obtain ⟨w0, hw0, b0, hb0, rfl⟩ := zLo_get hL g0
  obtain ⟨w3, hw3, hg3⟩ := zLo_get hL g3
  have hg3 : w3 = .int 0 := hg3
  subst hg3
  have hb1 : b0 = b := by
    unfold zrho zext at hb0
    rw [if_neg (Nat.not_lt.mpr (Nat.le_of_ble_eq_true rfl)), if_pos rfl] at hb0
    exact (Option.some.inj hb0).symm
  subst hb1
  refine lv_aload_n hx hb zd_27 rfl hw0 ?_
  refine lv_iload_n hx hb zd_28 rfl hw3 ?_
  refine va_sld hx hb hX hbl hbA hS (by rintro (q | q) <;> revert q <;> decide) zd_29 ?_
  refine lv_bipush (v := 63) hx hb zd_30 rfl ?_
  refine lv_iand hx hb zd_32 ?_
  obtain ⟨j, hj, ej⟩ := pk_andE (xs (0 : Int32).toNatClampNeg) (m := 63) 6 rfl
  rw [ej]
  have hji : (nI j).toInt = (j : Int) := nI_toInt (by omega)
  by_cases h : j < 52
  · refine lv_tableIn (tgt := ztgs.getD j 0) hx hb zd_33 (by rw [hji]; omega) (by rw [hji]; omega) (off := ((ztgs.getD j 0 : Nat) - 33 : Int)) ?_ (by omega) (hop j h ls [] H locs ws hrel)
    rw [hji, show ((j : Int) - 0).toNat = j by omega]
    exact ztg_ok j h
  · exact lv_tableOut (tgt := 1663) hx hb zd_33 (by rw [hji]; omega) (by decide) (h52 ls [] H locs ws hrel)
theorem z_opgo {xs : Nat → Int32} (C0 : lw_At p s m meth c b 6 xs) (hK : va_K D vwCl (ztys ct) s) (hN : ∀ w ∈ zTN, va_Nw w s) (hO : va_AO RX0 s) (hO1 : va_AOA .long s) (hO2 : va_AOA .int s)
    (hFs : ∀ (scr : List zV) (xs : Nat → Int32), va_X b scr.length xs s s.heap → (∀ (j : Nat) (v : zV), scr[j]? = some v → zisI v = true ∧ zg (fun _ => none) v (.int (xs j))) → zFacts zst scr adK adV (zext b adK) (fun q : Nat => s.heap.size ≤ q) s s.heap)
    {Ps : List (List (Int × Int))} {tg : Nat} (hP : zallT Ps (fun t => zop1 tg (zscr t)) = true) (hc : Ps.all zcov = true ∧ Ps.length ≤ 5) : zGL p l e s m below meth c b D ct adK (tg, zl0s, [], zh0, 79, 2750) := by
  obtain ⟨t, h1, h2, h3⟩ := z_cover Ps _ (fun j => xs (j + 1)) hP hc.1
  obtain ⟨h4, h5⟩ := zscr_rel (t := t) (xs := xs) (by rw [h2]; exact hc.2) h3
  have hX : va_X b (zscr t).length xs s s.heap := by
    rw [h4]
    exact C0.2.2.2.2.2.2.1
  exact z_lawrun C0 (z_lawcx C0 hK hN hO hO1 hO2 (hFs (zscr t) xs hX h5)) (fun x hx => absurd hx Bool.false_ne_true) (fun x i h => h) 2000 _ h1
end
