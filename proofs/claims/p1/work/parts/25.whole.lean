section
variable {p : Program} {l : Launch} {e : Env} {s : State} {m : MethodId} {below : List Frame} {meth : Method} {c : Code} {b : Nat} {D : va_G} {ct : Nat → ClassId} {adK adV : Nat → Nat}
theorem z_opall {xs : Nat → Int32} (C0 : lw_At p s m meth c b 6 xs) (hK : va_K D vwCl (ztys ct) s) (hN : ∀ w ∈ zTN, va_Nw w s) (hO : va_AO RX0 s) (hO1 : va_AOA .long s) (hO2 : va_AOA .int s)
    (hFs : ∀ (scr : List zV) (xs : Nat → Int32), va_X b scr.length xs s s.heap → (∀ (j : Nat) (v : zV), scr[j]? = some v → zisI v = true ∧ zg (fun _ => none) v (.int (xs j))) → zFacts zst scr adK adV (zext b adK) (fun q : Nat => s.heap.size ≤ q) s s.heap)
    (h52 : zGL p l e s m below meth c b D ct adK (1663, zl0s, [], zh0, 79, 2750)) : ∀ j, j < 52 → zGL p l e s m below meth c b D ct adK (ztgs.getD j 0, zl0s, [], zh0, 79, 2750)
  | 0, _ => z_opgo C0 hK hN hO hO1 hO2 hFs zo_0 zcv_0
  | 1, _ => z_opgo C0 hK hN hO hO1 hO2 hFs zo_1 zcv_1
  | 2, _ => z_opgo C0 hK hN hO hO1 hO2 hFs zo_2 zcv_2
  | 3, _ => z_opgo C0 hK hN hO hO1 hO2 hFs zo_3 zcv_3
  | 4, _ => z_opgo C0 hK hN hO hO1 hO2 hFs zo_4 zcv_4
  | 5, _ => z_opgo C0 hK hN hO hO1 hO2 hFs zo_5 zcv_5
  | 6, _ => z_opgo C0 hK hN hO hO1 hO2 hFs zo_6 zcv_6
  | 7, _ => z_opgo C0 hK hN hO hO1 hO2 hFs zo_7 zcv_7
  | 8, _ => z_opgo C0 hK hN hO hO1 hO2 hFs zo_8 zcv_8
  | 9, _ => z_opgo C0 hK hN hO hO1 hO2 hFs zo_9 zcv_9
  | 10, _ => z_opgo C0 hK hN hO hO1 hO2 hFs zo_10 zcv_10
  | 11, _ => z_opgo C0 hK hN hO hO1 hO2 hFs zo_11 zcv_11
  | 12, _ => z_opgo C0 hK hN hO hO1 hO2 hFs zo_12 zcv_12
  | 13, _ => z_opgo C0 hK hN hO hO1 hO2 hFs zo_13 zcv_13
  | 14, _ => z_opgo C0 hK hN hO hO1 hO2 hFs zo_14 zcv_14
  | 15, _ => z_opgo C0 hK hN hO hO1 hO2 hFs zo_15 zcv_15
  | 16, _ => z_opgo C0 hK hN hO hO1 hO2 hFs zo_16 zcv_16
  | 17, _ => z_opgo C0 hK hN hO hO1 hO2 hFs zo_17 zcv_17
  | 18, _ => z_opgo C0 hK hN hO hO1 hO2 hFs zo_18 zcv_18
  | 19, _ => z_opgo C0 hK hN hO hO1 hO2 hFs zo_19 zcv_19
  | 20, _ => z_opgo C0 hK hN hO hO1 hO2 hFs zo_20 zcv_20
  | 21, _ => z_opgo C0 hK hN hO hO1 hO2 hFs zo_21 zcv_21
  | 22, _ => z_opgo C0 hK hN hO hO1 hO2 hFs zo_22 zcv_22
  | 23, _ => z_opgo C0 hK hN hO hO1 hO2 hFs zo_23 zcv_23
  | 24, _ => z_opgo C0 hK hN hO hO1 hO2 hFs zo_24 zcv_24
  | 25, _ => z_opgo C0 hK hN hO hO1 hO2 hFs zo_25 zcv_25
  | 26, _ => z_opgo C0 hK hN hO hO1 hO2 hFs zo_26 zcv_26
  | 27, _ => z_opgo C0 hK hN hO hO1 hO2 hFs zo_27 zcv_27
  | 28, _ => z_opgo C0 hK hN hO hO1 hO2 hFs zo_28 zcv_28
  | 29, _ => z_opgo C0 hK hN hO hO1 hO2 hFs zo_29 zcv_29
  | 30, _ => z_opgo C0 hK hN hO hO1 hO2 hFs zo_30 zcv_30
  | 31, _ => z_opgo C0 hK hN hO hO1 hO2 hFs zo_31 zcv_31
  | 32, _ => z_op32 C0 hK hN hO hO1 hO2 hFs h52
  | 33, _ => z_op33 C0 hK hN hO hO1 hO2 hFs h52
  | 34, _ => z_opgo C0 hK hN hO hO1 hO2 hFs zo_34 zcv_34
  | 35, _ => z_opgo C0 hK hN hO hO1 hO2 hFs zo_35 zcv_35
  | 36, _ => z_opgo C0 hK hN hO hO1 hO2 hFs zo_36 zcv_36
  | 37, _ => z_opgo C0 hK hN hO hO1 hO2 hFs zo_37 zcv_37
  | 38, _ => z_opgo C0 hK hN hO hO1 hO2 hFs zo_38 zcv_38
  | 39, _ => z_opgo C0 hK hN hO hO1 hO2 hFs zo_39 zcv_39
  | 40, _ => z_opgo C0 hK hN hO hO1 hO2 hFs zo_40 zcv_40
  | 41, _ => z_opgo C0 hK hN hO hO1 hO2 hFs zo_41 zcv_41
  | 42, _ => z_opgo C0 hK hN hO hO1 hO2 hFs zo_42 zcv_42
  | 43, _ => z_opgo C0 hK hN hO hO1 hO2 hFs zo_43 zcv_43
  | 44, _ => z_opgo C0 hK hN hO hO1 hO2 hFs zo_44 zcv_44
  | 45, _ => z_opgo C0 hK hN hO hO1 hO2 hFs zo_45 zcv_45
  | 46, _ => z_opgo C0 hK hN hO hO1 hO2 hFs zo_46 zcv_46
  | 47, _ => z_opgo C0 hK hN hO hO1 hO2 hFs zo_47 zcv_47
  | 48, _ => z_opgo C0 hK hN hO hO1 hO2 hFs zo_48 zcv_48
  | 49, _ => z_opgo C0 hK hN hO hO1 hO2 hFs zo_49 zcv_49
  | 50, _ => z_opgo C0 hK hN hO hO1 hO2 hFs zo_50 zcv_50
  | 51, _ => z_opgo C0 hK hN hO hO1 hO2 hFs zo_51 zcv_51
  | j + 52, h => absurd h (by omega)
end
theorem whole_start {p : Program} {e : Env} {s : State} {m : MethodId} {below : List Frame} {meth : Method} {c : Code} (l : Launch) (hflags : l.flags = flags0) {b L : Nat} {xs : Nat → Int32} (hL : L ≤ 6) (C0 : lw_At p s m meth c b L xs) : W p l e room_1 s m #[Value.ref b] below meth c s.heap [] 0 0 (lw_Z below #[Value.ref b] s) (entryFrame m ([Value.ref b] : List Value).toArray 4) := by
  obtain ⟨hx, hb, hr, hml, hown, hts, hX, hbl, hlocks, hgv⟩ := id C0
  obtain ⟨D, ct, adK, adV, hK, hN, hO, hO1, hO2, hFs⟩ := z_start hts hgv hbl
  by_cases h6 : L < 6
  · have hX' : va_X b (List.replicate L zI0).length xs s s.heap := by
      rw [List.length_replicate]
      exact hX
    have hs : ∀ (j : Nat) (v : zV), (List.replicate L zI0)[j]? = some v → zisI v = true ∧ zg (fun _ => none) v (.int (xs j)) := fun j v hj => by
      rw [List.eq_of_mem_replicate (List.mem_of_getElem? hj)]
      exact z_x0 _
    exact z_entry rfl (z_lawrun C0 (z_lawcx C0 hK hN hO hO1 hO2 (hFs _ xs hX' hs)) (fun x hx => absurd hx Bool.false_ne_true) (fun x i h => h) 300 _ (zshort L h6))
  · have e6 : L = 6 := by omega
    subst e6
    obtain ⟨h4, h5⟩ := zscr_rel (t := []) (xs := xs) (Nat.zero_le _) (fun j v h => by simp at h)
    have hX' : va_X b (zscr []).length xs s s.heap := by
      rw [h4]
      exact hX
    have h52 : zGL p l e s m below meth c b D ct adK (1663, zl0s, [], zh0, 79, 2750) := z_opgo C0 hK hN hO hO1 hO2 hFs zo_52 zcv_52
    refine z_entry rfl (z_lawrun C0 (z_lawcx C0 hK hN hO hO1 hO2 (hFs (zscr []) xs hX' h5)) (fin := zfin27) (post := fun _ _ => false) (fun x hx => ?_) (fun x i h => absurd h zret_no) 300 _ zseg1)
    rw [zfin27_sp hx]
    exact z_switch C0 h52 (z_opall C0 hK hN hO hO1 hO2 hFs h52)
