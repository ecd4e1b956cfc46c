theorem lw_case13 {scr : List zV} {post : Option zV → zH → Bool} {G : zS → Prop} {D : Nat} {T : List Nat} {h : zH} {nc ns : Nat} {i : Int32} {t : Int} {v : Bool} (HW : zWalk zprog ze_L_law scr room_1.cells room_1.slots (zD zprog scr D) post G) (HWN : zWalk zprog ze_L_lawN scr room_1.cells room_1.slots (zD zprog scr D) post G) (hD : 300 ≤ D) (IHP : ∀ P : pP, tBel (zPhi P) scr 300) (hscr : ∀ j : Nat, (j : Int) < i.toInt + 6 → ∃ x : Int32, scr[j]? = some (.inl (.int x))) (hi0 : 0 ≤ i.toInt ∧ i.toInt ≤ 100000) (ok : wOK (zPhi (t, t, none, v)) h.length T h) (hl : h.length + 4000 ≤ 1000000) (hc : nc + 4000 ≤ room_1.cells) (hs : ns + 980000 ≤ room_1.slots)
    (HP : ∀ (x : Int64) (pc : Nat), (pc = 449 ∨ pc = 464) → ∀ (h : zH) (nc ns : Nat), G (pc + 1, [(3, .inl (.int i)), (2, .inl (.ref 49)), (1, .inl (.ref 0)), (0, .inl (.ref 10000000))], [], h, nc, ns) → G (pc, [(3, .inl (.int i)), (2, .inl (.ref 49)), (1, .inl (.ref 0)), (0, .inl (.ref 10000000))], [.inl (.long x)], h, nc, ns))
    (nxt : ∀ (T' : List Nat) (h' : zH) (t' : Int) (v' : Bool) (dc ds : Nat), wOK (zPhi (t', t', none, v')) (h.length + dc) T' h' → ((dc ≤ 30 ∧ ds ≤ 3328 ∧ v' = v) ∨ (v = false ∧ v' = true ∧ dc ≤ 3843 ∧ ds ≤ 971974)) → G (1662, [(3, .inl (.int i)), (2, .inl (.ref 49)), (1, .inl (.ref 0)), (0, .inl (.ref 10000000))], [], h', nc + dc, ns + ds)) : G (745, [(3, .inl (.int i)), (2, .inl (.ref 49)), (1, .inl (.ref 0)), (0, .inl (.ref 10000000))], [], h, nc, ns) := by
  have hq_0 : T[0]? = some 4 := ok.2.1.1.1
  have hq_49 : T[49]? = some 5 := ok.2.1.1.2.2.1
  have y1 : -2147483648 ≤ i.toInt + (1 : Int) → i.toInt + (1 : Int) ≤ 2147483647 → (i + (1 : Int32)).toInt = i.toInt + (1 : Int) := t_addC (x := i) (y := (1 : Int32))
  refine zrn_ok HW 5 (zB_iff.mpr (?_ : G (750, [(3, .inl (.int i)), (2, .inl (.ref 49)), (1, .inl (.ref 0)), (0, .inl (.ref 10000000))], [.inl (.int (i + (1 : Int32))), .inl (.ref 10000000), .inl (.ref 0)], h, nc, ns)))
  obtain ⟨x2, s2⟩ := hscr ((i + (1 : Int32))).toInt.toNat (by omega)
  refine g_scr HW rfl (by omega) s2 ?_
  have y3 : -2147483648 ≤ i.toInt + (2 : Int) → i.toInt + (2 : Int) ≤ 2147483647 → (i + (2 : Int32)).toInt = i.toInt + (2 : Int) := t_addC (x := i) (y := (2 : Int32))
  refine zrn_ok HW 4 (zB_iff.mpr (?_ : G (755, [(3, .inl (.int i)), (2, .inl (.ref 49)), (1, .inl (.ref 0)), (0, .inl (.ref 10000000))], [.inl (.int (i + (2 : Int32))), .inl (.ref 10000000), .inl (.int x2), .inl (.ref 0)], h, nc, ns)))
  obtain ⟨x4, s4⟩ := hscr ((i + (2 : Int32))).toInt.toNat (by omega)
  refine g_scr HW rfl (by omega) s4 ?_
  refine g_tVa (e := te_X4_purse_0) (E' := ze_X4_purse) (c := 0) (s := 0) HW (tLow_of (IHP _) hD) rfl rfl (show te_X4_purse_0 ∈ [te_X4_purse_0] from List.mem_cons_self) (by decide +kernel) (Nat.le_of_ble_eq_true rfl) rfl rfl (by omega) (by omega) ok.1 ok.2.1 (by have := ok.2.2; omega) rfl hq_0 rfl (Nat.le_of_ble_eq_true rfl) ⟨⟨_, rfl, hq_0⟩, okA_If _, okA_If _, trivial⟩ (fun v5 T5 h5 m5 k5 f5 lh5 r5 => ?_)
  obtain ⟨w5, rfl, hw5, cd5⟩ := r5
  obtain ⟨x5, rfl, l5, u5⟩ := tint_sp rfl hw5
  have ok5 : wOK (zPhi (t, t, none, v)) h.length T5 h5 := ⟨k5, f5, Nat.le_trans lh5 ok.2.2⟩
  have hq_0 := m5 _ _ hq_0
  have hq_49 := m5 _ _ hq_49
  show G (759, [(3, .inl (.int i)), (2, .inl (.ref 49)), (1, .inl (.ref 0)), (0, .inl (.ref 10000000))], [.inl (.int x5)], h5, nc, ns)
  have y6 : -2147483648 ≤ i.toInt + (1 : Int) → i.toInt + (1 : Int) ≤ 2147483647 → (i + (1 : Int32)).toInt = i.toInt + (1 : Int) := t_addC (x := i) (y := (1 : Int32))
  refine zrn_ok HW 6 (zB_iff.mpr (?_ : G (765, [(3, .inl (.int i)), (2, .inl (.ref 49)), (1, .inl (.ref 0)), (0, .inl (.ref 10000000))], [.inl (.int (i + (1 : Int32))), .inl (.ref 10000000), .inl (.ref 49)], h5, nc, ns)))
  obtain ⟨x7, s7⟩ := hscr ((i + (1 : Int32))).toInt.toNat (by omega)
  refine g_scr HW rfl (by omega) s7 ?_
  have y8 : -2147483648 ≤ i.toInt + (2 : Int) → i.toInt + (2 : Int) ≤ 2147483647 → (i + (2 : Int32)).toInt = i.toInt + (2 : Int) := t_addC (x := i) (y := (2 : Int32))
  refine zrn_ok HW 4 (zB_iff.mpr (?_ : G (770, [(3, .inl (.int i)), (2, .inl (.ref 49)), (1, .inl (.ref 0)), (0, .inl (.ref 10000000))], [.inl (.int (i + (2 : Int32))), .inl (.ref 10000000), .inl (.int x7), .inl (.ref 49)], h5, nc, ns)))
  obtain ⟨x9, s9⟩ := hscr ((i + (2 : Int32))).toInt.toNat (by omega)
  refine g_scr HW rfl (by omega) s9 ?_
  refine g_tVa (e := te_X5_purse_0) (E' := ze_X5_purse) (c := 0) (s := 0) HW (tLow_of (IHP _) hD) rfl rfl (show te_X5_purse_0 ∈ [te_X5_purse_0] from List.mem_cons_self) (by decide +kernel) (Nat.le_of_ble_eq_true rfl) rfl rfl (by omega) (by omega) ok5.1 ok5.2.1 (by have := ok5.2.2; omega) rfl hq_49 rfl (Nat.le_of_ble_eq_true rfl) ⟨⟨_, rfl, hq_49⟩, okA_If _, okA_If _, trivial⟩ (fun v10 T10 h10 m10 k10 f10 lh10 r10 => ?_)
  obtain ⟨w10, rfl, hw10, cd10⟩ := r10
  obtain ⟨x10, rfl, l10, u10⟩ := tint_sp rfl hw10
  have ok10 : wOK (zPhi (t, t, none, v)) h.length T10 h10 := ⟨k10, f10, Nat.le_trans lh10 ok5.2.2⟩
  have hq_0 := m10 _ _ hq_0
  have hq_49 := m10 _ _ hq_49
  show G (774, [(3, .inl (.int i)), (2, .inl (.ref 49)), (1, .inl (.ref 0)), (0, .inl (.ref 10000000))], [.inl (.int x10)], h10, nc, ns)
  refine zrn_ok HW 2 (zB_iff.mpr (?_ : G (1662, [(3, .inl (.int i)), (2, .inl (.ref 49)), (1, .inl (.ref 0)), (0, .inl (.ref 10000000))], [], h10, nc, ns)))
  exact nxt T10 h10 _ _ 0 0 (wOK_up ok10 (by omega)) (Or.inl ⟨by decide, by decide, rfl⟩)

theorem lw_case14 {scr : List zV} {post : Option zV → zH → Bool} {G : zS → Prop} {D : Nat} {T : List Nat} {h : zH} {nc ns : Nat} {i : Int32} {t : Int} {v : Bool} (HW : zWalk zprog ze_L_law scr room_1.cells room_1.slots (zD zprog scr D) post G) (HWN : zWalk zprog ze_L_lawN scr room_1.cells room_1.slots (zD zprog scr D) post G) (hD : 300 ≤ D) (IHP : ∀ P : pP, tBel (zPhi P) scr 300) (hscr : ∀ j : Nat, (j : Int) < i.toInt + 6 → ∃ x : Int32, scr[j]? = some (.inl (.int x))) (hi0 : 0 ≤ i.toInt ∧ i.toInt ≤ 100000) (ok : wOK (zPhi (t, t, none, v)) h.length T h) (hl : h.length + 4000 ≤ 1000000) (hc : nc + 4000 ≤ room_1.cells) (hs : ns + 980000 ≤ room_1.slots)
    (HP : ∀ (x : Int64) (pc : Nat), (pc = 449 ∨ pc = 464) → ∀ (h : zH) (nc ns : Nat), G (pc + 1, [(3, .inl (.int i)), (2, .inl (.ref 49)), (1, .inl (.ref 0)), (0, .inl (.ref 10000000))], [], h, nc, ns) → G (pc, [(3, .inl (.int i)), (2, .inl (.ref 49)), (1, .inl (.ref 0)), (0, .inl (.ref 10000000))], [.inl (.long x)], h, nc, ns))
    (nxt : ∀ (T' : List Nat) (h' : zH) (t' : Int) (v' : Bool) (dc ds : Nat), wOK (zPhi (t', t', none, v')) (h.length + dc) T' h' → ((dc ≤ 30 ∧ ds ≤ 3328 ∧ v' = v) ∨ (v = false ∧ v' = true ∧ dc ≤ 3843 ∧ ds ≤ 971974)) → G (1662, [(3, .inl (.int i)), (2, .inl (.ref 49)), (1, .inl (.ref 0)), (0, .inl (.ref 10000000))], [], h', nc + dc, ns + ds)) : G (778, [(3, .inl (.int i)), (2, .inl (.ref 49)), (1, .inl (.ref 0)), (0, .inl (.ref 10000000))], [], h, nc, ns) := by
  have hq_0 : T[0]? = some 4 := ok.2.1.1.1
  have hq_49 : T[49]? = some 5 := ok.2.1.1.2.2.1
  obtain ⟨D, rfl⟩ : ∃ D', D = D' + 2 := ⟨D - 2, by omega⟩
  have y1 : -2147483648 ≤ i.toInt + (1 : Int) → i.toInt + (1 : Int) ≤ 2147483647 → (i + (1 : Int32)).toInt = i.toInt + (1 : Int) := t_addC (x := i) (y := (1 : Int32))
  refine zrn_ok HW 5 (zB_iff.mpr (?_ : G (783, [(3, .inl (.int i)), (2, .inl (.ref 49)), (1, .inl (.ref 0)), (0, .inl (.ref 10000000))], [.inl (.int (i + (1 : Int32))), .inl (.ref 10000000), .inl (.ref 0)], h, nc, ns)))
  obtain ⟨x2, s2⟩ := hscr ((i + (1 : Int32))).toInt.toNat (by omega)
  refine g_scr HW rfl (by omega) s2 ?_
  refine g_callV (E' := ze_X4_feed) HW rfl rfl (Nat.le_of_ble_eq_true rfl) (by show nc + 0 ≤ room_1.cells; omega) (by show ns + 0 ≤ room_1.slots; omega) ok.1 rfl hq_0 rfl (Nat.le_of_ble_eq_true rfl) (c4_feed (fun P => tBel_le (IHP P) (by decide)) (by omega) ok hq_0 (fun r3 T3 h3 m3 ok3 => zB_iff.mpr ?_))
  show G (787, [(3, .inl (.int i)), (2, .inl (.ref 49)), (1, .inl (.ref 0)), (0, .inl (.ref 10000000))], [.inl (.int r3)], h3, nc, ns)
  have hq_0 := m3 _ _ hq_0
  have hq_49 := m3 _ _ hq_49
  have y4 : -2147483648 ≤ i.toInt + (1 : Int) → i.toInt + (1 : Int) ≤ 2147483647 → (i + (1 : Int32)).toInt = i.toInt + (1 : Int) := t_addC (x := i) (y := (1 : Int32))
  refine zrn_ok HW 6 (zB_iff.mpr (?_ : G (793, [(3, .inl (.int i)), (2, .inl (.ref 49)), (1, .inl (.ref 0)), (0, .inl (.ref 10000000))], [.inl (.int (i + (1 : Int32))), .inl (.ref 10000000), .inl (.ref 49)], h3, nc, ns)))
  obtain ⟨x5, s5⟩ := hscr ((i + (1 : Int32))).toInt.toNat (by omega)
  refine g_scr HW rfl (by omega) s5 ?_
  have ex6 : x5 = x2 := by have := s5.symm.trans s2; cases this; rfl
  refine g_callV (E' := ze_X5_feed) HW rfl rfl (Nat.le_of_ble_eq_true rfl) (by show nc + 0 ≤ room_1.cells; omega) (by show ns + 0 ≤ room_1.slots; omega) ok3.1 rfl hq_49 rfl (Nat.le_of_ble_eq_true rfl) (c5_feed (tBel_le (IHP _) (by decide)) ok3 (fun r6 T6 h6 m6 ok6 => zB_iff.mpr ?_))
  show G (797, [(3, .inl (.int i)), (2, .inl (.ref 49)), (1, .inl (.ref 0)), (0, .inl (.ref 10000000))], [.inl (.int r6)], h6, nc, ns)
  rw [ex6] at ok6
  have hq_0 := m6 _ _ hq_0
  have hq_49 := m6 _ _ hq_49
  refine zrn_ok HW 2 (zB_iff.mpr (?_ : G (1662, [(3, .inl (.int i)), (2, .inl (.ref 49)), (1, .inl (.ref 0)), (0, .inl (.ref 10000000))], [], h6, nc, ns)))
  exact nxt T6 h6 _ _ 0 0 (wOK_up ok6 (by omega)) (Or.inl ⟨by decide, by decide, rfl⟩)

theorem lw_case15 {scr : List zV} {post : Option zV → zH → Bool} {G : zS → Prop} {D : Nat} {T : List Nat} {h : zH} {nc ns : Nat} {i : Int32} {t : Int} {v : Bool} (HW : zWalk zprog ze_L_law scr room_1.cells room_1.slots (zD zprog scr D) post G) (HWN : zWalk zprog ze_L_lawN scr room_1.cells room_1.slots (zD zprog scr D) post G) (hD : 300 ≤ D) (IHP : ∀ P : pP, tBel (zPhi P) scr 300) (hscr : ∀ j : Nat, (j : Int) < i.toInt + 6 → ∃ x : Int32, scr[j]? = some (.inl (.int x))) (hi0 : 0 ≤ i.toInt ∧ i.toInt ≤ 100000) (ok : wOK (zPhi (t, t, none, v)) h.length T h) (hl : h.length + 4000 ≤ 1000000) (hc : nc + 4000 ≤ room_1.cells) (hs : ns + 980000 ≤ room_1.slots)
    (HP : ∀ (x : Int64) (pc : Nat), (pc = 449 ∨ pc = 464) → ∀ (h : zH) (nc ns : Nat), G (pc + 1, [(3, .inl (.int i)), (2, .inl (.ref 49)), (1, .inl (.ref 0)), (0, .inl (.ref 10000000))], [], h, nc, ns) → G (pc, [(3, .inl (.int i)), (2, .inl (.ref 49)), (1, .inl (.ref 0)), (0, .inl (.ref 10000000))], [.inl (.long x)], h, nc, ns))
    (nxt : ∀ (T' : List Nat) (h' : zH) (t' : Int) (v' : Bool) (dc ds : Nat), wOK (zPhi (t', t', none, v')) (h.length + dc) T' h' → ((dc ≤ 30 ∧ ds ≤ 3328 ∧ v' = v) ∨ (v = false ∧ v' = true ∧ dc ≤ 3843 ∧ ds ≤ 971974)) → G (1662, [(3, .inl (.int i)), (2, .inl (.ref 49)), (1, .inl (.ref 0)), (0, .inl (.ref 10000000))], [], h', nc + dc, ns + ds)) : G (801, [(3, .inl (.int i)), (2, .inl (.ref 49)), (1, .inl (.ref 0)), (0, .inl (.ref 10000000))], [], h, nc, ns) := by
  have hq_0 : T[0]? = some 4 := ok.2.1.1.1
  have hq_49 : T[49]? = some 5 := ok.2.1.1.2.2.1
  obtain ⟨D, rfl⟩ : ∃ D', D = D' + 1 := ⟨D - 1, by omega⟩
  refine zrn_ok HW 1 (zB_iff.mpr (?_ : G (802, [(3, .inl (.int i)), (2, .inl (.ref 49)), (1, .inl (.ref 0)), (0, .inl (.ref 10000000))], [.inl (.ref 0)], h, nc, ns)))
  refine g_callV (E' := ze_X4_wipe) HW rfl rfl (Nat.le_of_ble_eq_true rfl) (by show nc + 0 ≤ room_1.cells; omega) (by show ns + 0 ≤ room_1.slots; omega) ok.1 rfl hq_0 rfl (Nat.le_of_ble_eq_true rfl) (c4_wipe ok hq_0 (fun r1 h1 er1 ok1 => zB_iff.mpr ?_))
  show G (805, [(3, .inl (.int i)), (2, .inl (.ref 49)), (1, .inl (.ref 0)), (0, .inl (.ref 10000000))], [.inl (.int r1)], h1, nc, ns)
  refine zrn_ok HW 1 (zB_iff.mpr (?_ : G (806, [(3, .inl (.int i)), (2, .inl (.ref 49)), (1, .inl (.ref 0)), (0, .inl (.ref 10000000))], [.inl (.ref 49), .inl (.int r1)], h1, nc, ns)))
  refine g_callV (E' := ze_X5_wipe) HW rfl rfl (Nat.le_of_ble_eq_true rfl) (by show nc + 0 ≤ room_1.cells; omega) (by show ns + 0 ≤ room_1.slots; omega) ok1.1 rfl hq_49 rfl (Nat.le_of_ble_eq_true rfl) (c5_wipe ok1 (fun r2 h2 er2 ok2 => zB_iff.mpr ?_))
  show G (809, [(3, .inl (.int i)), (2, .inl (.ref 49)), (1, .inl (.ref 0)), (0, .inl (.ref 10000000))], [.inl (.int r2), .inl (.int r1)], h2, nc, ns)
  refine zrn_ok HW 1 (zbr_ex (cd := .eq) (x := r1) (y := r2) (fun hc3 => zB_iff.mpr ?_) (fun hc3 => zB_iff.mpr ?_))
  · -- pc 1662
    have i3 : r1.toInt = r2.toInt := zop_int.mp hc3
    exact nxt T h2 _ _ 0 0 (wOK_up ok2 (by omega)) (Or.inl ⟨by decide, by decide, rfl⟩)
  · -- pc 812
    have i3 : ¬ (r1.toInt = r2.toInt) := fun e => hc3 (zop_int.mpr e)
    refine zrn_ok HW 2 ?_
    exfalso
    exact i3 (er1.trans er2.symm)

theorem lw_case16 {scr : List zV} {post : Option zV → zH → Bool} {G : zS → Prop} {D : Nat} {T : List Nat} {h : zH} {nc ns : Nat} {i : Int32} {t : Int} {v : Bool} (HW : zWalk zprog ze_L_law scr room_1.cells room_1.slots (zD zprog scr D) post G) (HWN : zWalk zprog ze_L_lawN scr room_1.cells room_1.slots (zD zprog scr D) post G) (hD : 300 ≤ D) (IHP : ∀ P : pP, tBel (zPhi P) scr 300) (hscr : ∀ j : Nat, (j : Int) < i.toInt + 6 → ∃ x : Int32, scr[j]? = some (.inl (.int x))) (hi0 : 0 ≤ i.toInt ∧ i.toInt ≤ 100000) (ok : wOK (zPhi (t, t, none, v)) h.length T h) (hl : h.length + 4000 ≤ 1000000) (hc : nc + 4000 ≤ room_1.cells) (hs : ns + 980000 ≤ room_1.slots)
    (HP : ∀ (x : Int64) (pc : Nat), (pc = 449 ∨ pc = 464) → ∀ (h : zH) (nc ns : Nat), G (pc + 1, [(3, .inl (.int i)), (2, .inl (.ref 49)), (1, .inl (.ref 0)), (0, .inl (.ref 10000000))], [], h, nc, ns) → G (pc, [(3, .inl (.int i)), (2, .inl (.ref 49)), (1, .inl (.ref 0)), (0, .inl (.ref 10000000))], [.inl (.long x)], h, nc, ns))
    (nxt : ∀ (T' : List Nat) (h' : zH) (t' : Int) (v' : Bool) (dc ds : Nat), wOK (zPhi (t', t', none, v')) (h.length + dc) T' h' → ((dc ≤ 30 ∧ ds ≤ 3328 ∧ v' = v) ∨ (v = false ∧ v' = true ∧ dc ≤ 3843 ∧ ds ≤ 971974)) → G (1662, [(3, .inl (.int i)), (2, .inl (.ref 49)), (1, .inl (.ref 0)), (0, .inl (.ref 10000000))], [], h', nc + dc, ns + ds)) : G (814, [(3, .inl (.int i)), (2, .inl (.ref 49)), (1, .inl (.ref 0)), (0, .inl (.ref 10000000))], [], h, nc, ns) := by
  have hq_0 : T[0]? = some 4 := ok.2.1.1.1
  have hq_49 : T[49]? = some 5 := ok.2.1.1.2.2.1
  obtain ⟨D, rfl⟩ : ∃ D', D = D' + 8 := ⟨D - 8, by omega⟩
  refine zrn_ok HW 1 (zB_iff.mpr (?_ : G (815, [(3, .inl (.int i)), (2, .inl (.ref 49)), (1, .inl (.ref 0)), (0, .inl (.ref 10000000))], [.inl (.ref 0)], h, nc, ns)))
  refine g_callV (E' := ze_X4_stall) HW rfl rfl (Nat.le_of_ble_eq_true rfl) (by show nc + 0 ≤ room_1.cells; omega) (by show ns + 0 ≤ room_1.slots; omega) ok.1 rfl hq_0 rfl (Nat.le_of_ble_eq_true rfl) (c4_stall (fun P => tBel_le (IHP P) (by decide)) (by omega) ok hq_0 (fun r1 T1 h1 m1 ok1 => zB_iff.mpr ?_))
  show G (818, [(3, .inl (.int i)), (2, .inl (.ref 49)), (1, .inl (.ref 0)), (0, .inl (.ref 10000000))], [.inl (.int r1)], h1, nc, ns)
  have hq_0 := m1 _ _ hq_0
  have hq_49 := m1 _ _ hq_49
  refine zrn_ok HW 2 (zB_iff.mpr (?_ : G (820, [(3, .inl (.int i)), (2, .inl (.ref 49)), (1, .inl (.ref 0)), (0, .inl (.ref 10000000))], [.inl (.ref 49)], h1, nc, ns)))
  refine g_callV (E' := ze_X5_stall) HW rfl rfl (Nat.le_of_ble_eq_true rfl) (by show nc + 30 ≤ room_1.cells; omega) (by show ns + 843 ≤ room_1.slots; omega) ok1.1 rfl hq_49 rfl (Nat.le_of_ble_eq_true rfl) (c5_stall (N := h.length + 30) (tBel_le (IHP _) (by decide)) (wOK_up ok1 (Nat.le_add_right _ _)) (by have := ok1.2.2; omega) (by omega) (fun r2 T2 h2 m2 ok2 => zB_iff.mpr ?_))
  show G (823, [(3, .inl (.int i)), (2, .inl (.ref 49)), (1, .inl (.ref 0)), (0, .inl (.ref 10000000))], [.inl (.int r2)], h2, (nc + 30), (ns + 843))
  have hq_0 := m2 _ _ hq_0
  have hq_49 := m2 _ _ hq_49
  refine zrn_ok HW 2 (zB_iff.mpr (?_ : G (1662, [(3, .inl (.int i)), (2, .inl (.ref 49)), (1, .inl (.ref 0)), (0, .inl (.ref 10000000))], [], h2, (nc + 30), (ns + 843))))
  exact nxt T2 h2 _ _ 30 843 (wOK_up ok2 (by omega)) (Or.inl ⟨by decide, by decide, rfl⟩)

theorem lw_case17 {scr : List zV} {post : Option zV → zH → Bool} {G : zS → Prop} {D : Nat} {T : List Nat} {h : zH} {nc ns : Nat} {i : Int32} {t : Int} {v : Bool} (HW : zWalk zprog ze_L_law scr room_1.cells room_1.slots (zD zprog scr D) post G) (HWN : zWalk zprog ze_L_lawN scr room_1.cells room_1.slots (zD zprog scr D) post G) (hD : 300 ≤ D) (IHP : ∀ P : pP, tBel (zPhi P) scr 300) (hscr : ∀ j : Nat, (j : Int) < i.toInt + 6 → ∃ x : Int32, scr[j]? = some (.inl (.int x))) (hi0 : 0 ≤ i.toInt ∧ i.toInt ≤ 100000) (ok : wOK (zPhi (t, t, none, v)) h.length T h) (hl : h.length + 4000 ≤ 1000000) (hc : nc + 4000 ≤ room_1.cells) (hs : ns + 980000 ≤ room_1.slots)
    (HP : ∀ (x : Int64) (pc : Nat), (pc = 449 ∨ pc = 464) → ∀ (h : zH) (nc ns : Nat), G (pc + 1, [(3, .inl (.int i)), (2, .inl (.ref 49)), (1, .inl (.ref 0)), (0, .inl (.ref 10000000))], [], h, nc, ns) → G (pc, [(3, .inl (.int i)), (2, .inl (.ref 49)), (1, .inl (.ref 0)), (0, .inl (.ref 10000000))], [.inl (.long x)], h, nc, ns))
    (nxt : ∀ (T' : List Nat) (h' : zH) (t' : Int) (v' : Bool) (dc ds : Nat), wOK (zPhi (t', t', none, v')) (h.length + dc) T' h' → ((dc ≤ 30 ∧ ds ≤ 3328 ∧ v' = v) ∨ (v = false ∧ v' = true ∧ dc ≤ 3843 ∧ ds ≤ 971974)) → G (1662, [(3, .inl (.int i)), (2, .inl (.ref 49)), (1, .inl (.ref 0)), (0, .inl (.ref 10000000))], [], h', nc + dc, ns + ds)) : G (827, [(3, .inl (.int i)), (2, .inl (.ref 49)), (1, .inl (.ref 0)), (0, .inl (.ref 10000000))], [], h, nc, ns) := by
  have hq_0 : T[0]? = some 4 := ok.2.1.1.1
  have hq_49 : T[49]? = some 5 := ok.2.1.1.2.2.1
  have y1 : -2147483648 ≤ i.toInt + (1 : Int) → i.toInt + (1 : Int) ≤ 2147483647 → (i + (1 : Int32)).toInt = i.toInt + (1 : Int) := t_addC (x := i) (y := (1 : Int32))
  refine zrn_ok HW 5 (zB_iff.mpr (?_ : G (832, [(3, .inl (.int i)), (2, .inl (.ref 49)), (1, .inl (.ref 0)), (0, .inl (.ref 10000000))], [.inl (.int (i + (1 : Int32))), .inl (.ref 10000000), .inl (.ref 0)], h, nc, ns)))
  obtain ⟨x2, s2⟩ := hscr ((i + (1 : Int32))).toInt.toNat (by omega)
  refine g_scr HW rfl (by omega) s2 ?_
  have y3 : -2147483648 ≤ i.toInt + (2 : Int) → i.toInt + (2 : Int) ≤ 2147483647 → (i + (2 : Int32)).toInt = i.toInt + (2 : Int) := t_addC (x := i) (y := (2 : Int32))
  refine zrn_ok HW 4 (zB_iff.mpr (?_ : G (837, [(3, .inl (.int i)), (2, .inl (.ref 49)), (1, .inl (.ref 0)), (0, .inl (.ref 10000000))], [.inl (.int (i + (2 : Int32))), .inl (.ref 10000000), .inl (.int x2), .inl (.ref 0)], h, nc, ns)))
  obtain ⟨x4, s4⟩ := hscr ((i + (2 : Int32))).toInt.toNat (by omega)
  refine g_scr HW rfl (by omega) s4 ?_
  refine g_tVa (e := te_X4_thingOf_0) (E' := ze_X4_thingOf) (c := 0) (s := 0) HW (tLow_of (IHP _) hD) rfl rfl (show te_X4_thingOf_0 ∈ [te_X4_thingOf_0] from List.mem_cons_self) (by decide +kernel) (Nat.le_of_ble_eq_true rfl) rfl rfl (by omega) (by omega) ok.1 ok.2.1 (by have := ok.2.2; omega) rfl hq_0 rfl (Nat.le_of_ble_eq_true rfl) ⟨⟨_, rfl, hq_0⟩, okA_If _, okA_If _, trivial⟩ (fun v5 T5 h5 m5 k5 f5 lh5 r5 => ?_)
  obtain ⟨w5, rfl, hw5, cd5⟩ := r5
  obtain ⟨x5, rfl, l5, u5⟩ := tint_sp rfl hw5
  have ok5 : wOK (zPhi (t, t, none, v)) h.length T5 h5 := ⟨k5, f5, Nat.le_trans lh5 ok.2.2⟩
  have hq_0 := m5 _ _ hq_0
  have hq_49 := m5 _ _ hq_49
  show G (841, [(3, .inl (.int i)), (2, .inl (.ref 49)), (1, .inl (.ref 0)), (0, .inl (.ref 10000000))], [.inl (.int x5)], h5, nc, ns)
  have y6 : -2147483648 ≤ i.toInt + (1 : Int) → i.toInt + (1 : Int) ≤ 2147483647 → (i + (1 : Int32)).toInt = i.toInt + (1 : Int) := t_addC (x := i) (y := (1 : Int32))
  refine zrn_ok HW 6 (zB_iff.mpr (?_ : G (847, [(3, .inl (.int i)), (2, .inl (.ref 49)), (1, .inl (.ref 0)), (0, .inl (.ref 10000000))], [.inl (.int (i + (1 : Int32))), .inl (.ref 10000000), .inl (.ref 49)], h5, nc, ns)))
  obtain ⟨x7, s7⟩ := hscr ((i + (1 : Int32))).toInt.toNat (by omega)
  refine g_scr HW rfl (by omega) s7 ?_
  have y8 : -2147483648 ≤ i.toInt + (2 : Int) → i.toInt + (2 : Int) ≤ 2147483647 → (i + (2 : Int32)).toInt = i.toInt + (2 : Int) := t_addC (x := i) (y := (2 : Int32))
  refine zrn_ok HW 4 (zB_iff.mpr (?_ : G (852, [(3, .inl (.int i)), (2, .inl (.ref 49)), (1, .inl (.ref 0)), (0, .inl (.ref 10000000))], [.inl (.int (i + (2 : Int32))), .inl (.ref 10000000), .inl (.int x7), .inl (.ref 49)], h5, nc, ns)))
  obtain ⟨x9, s9⟩ := hscr ((i + (2 : Int32))).toInt.toNat (by omega)
  refine g_scr HW rfl (by omega) s9 ?_
  refine g_tVa (e := te_X5_thingOf_0) (E' := ze_X5_thingOf) (c := 0) (s := 0) HW (tLow_of (IHP _) hD) rfl rfl (show te_X5_thingOf_0 ∈ [te_X5_thingOf_0] from List.mem_cons_self) (by decide +kernel) (Nat.le_of_ble_eq_true rfl) rfl rfl (by omega) (by omega) ok5.1 ok5.2.1 (by have := ok5.2.2; omega) rfl hq_49 rfl (Nat.le_of_ble_eq_true rfl) ⟨⟨_, rfl, hq_49⟩, okA_If _, okA_If _, trivial⟩ (fun v10 T10 h10 m10 k10 f10 lh10 r10 => ?_)
  obtain ⟨w10, rfl, hw10, cd10⟩ := r10
  obtain ⟨x10, rfl, l10, u10⟩ := tint_sp rfl hw10
  have ok10 : wOK (zPhi (t, t, none, v)) h.length T10 h10 := ⟨k10, f10, Nat.le_trans lh10 ok5.2.2⟩
  have hq_0 := m10 _ _ hq_0
  have hq_49 := m10 _ _ hq_49
  show G (856, [(3, .inl (.int i)), (2, .inl (.ref 49)), (1, .inl (.ref 0)), (0, .inl (.ref 10000000))], [.inl (.int x10)], h10, nc, ns)
  refine zrn_ok HW 2 (zB_iff.mpr (?_ : G (1662, [(3, .inl (.int i)), (2, .inl (.ref 49)), (1, .inl (.ref 0)), (0, .inl (.ref 10000000))], [], h10, nc, ns)))
  exact nxt T10 h10 _ _ 0 0 (wOK_up ok10 (by omega)) (Or.inl ⟨by decide, by decide, rfl⟩)

theorem lw_case18 {scr : List zV} {post : Option zV → zH → Bool} {G : zS → Prop} {D : Nat} {T : List Nat} {h : zH} {nc ns : Nat} {i : Int32} {t : Int} {v : Bool} (HW : zWalk zprog ze_L_law scr room_1.cells room_1.slots (zD zprog scr D) post G) (HWN : zWalk zprog ze_L_lawN scr room_1.cells room_1.slots (zD zprog scr D) post G) (hD : 300 ≤ D) (IHP : ∀ P : pP, tBel (zPhi P) scr 300) (hscr : ∀ j : Nat, (j : Int) < i.toInt + 6 → ∃ x : Int32, scr[j]? = some (.inl (.int x))) (hi0 : 0 ≤ i.toInt ∧ i.toInt ≤ 100000) (ok : wOK (zPhi (t, t, none, v)) h.length T h) (hl : h.length + 4000 ≤ 1000000) (hc : nc + 4000 ≤ room_1.cells) (hs : ns + 980000 ≤ room_1.slots)
    (HP : ∀ (x : Int64) (pc : Nat), (pc = 449 ∨ pc = 464) → ∀ (h : zH) (nc ns : Nat), G (pc + 1, [(3, .inl (.int i)), (2, .inl (.ref 49)), (1, .inl (.ref 0)), (0, .inl (.ref 10000000))], [], h, nc, ns) → G (pc, [(3, .inl (.int i)), (2, .inl (.ref 49)), (1, .inl (.ref 0)), (0, .inl (.ref 10000000))], [.inl (.long x)], h, nc, ns))
    (nxt : ∀ (T' : List Nat) (h' : zH) (t' : Int) (v' : Bool) (dc ds : Nat), wOK (zPhi (t', t', none, v')) (h.length + dc) T' h' → ((dc ≤ 30 ∧ ds ≤ 3328 ∧ v' = v) ∨ (v = false ∧ v' = true ∧ dc ≤ 3843 ∧ ds ≤ 971974)) → G (1662, [(3, .inl (.int i)), (2, .inl (.ref 49)), (1, .inl (.ref 0)), (0, .inl (.ref 10000000))], [], h', nc + dc, ns + ds)) : G (860, [(3, .inl (.int i)), (2, .inl (.ref 49)), (1, .inl (.ref 0)), (0, .inl (.ref 10000000))], [], h, nc, ns) := by
  have hq_0 : T[0]? = some 4 := ok.2.1.1.1
  have hq_49 : T[49]? = some 5 := ok.2.1.1.2.2.1
  have y1 : -2147483648 ≤ i.toInt + (1 : Int) → i.toInt + (1 : Int) ≤ 2147483647 → (i + (1 : Int32)).toInt = i.toInt + (1 : Int) := t_addC (x := i) (y := (1 : Int32))
  refine zrn_ok HW 5 (zB_iff.mpr (?_ : G (865, [(3, .inl (.int i)), (2, .inl (.ref 49)), (1, .inl (.ref 0)), (0, .inl (.ref 10000000))], [.inl (.int (i + (1 : Int32))), .inl (.ref 10000000), .inl (.ref 0)], h, nc, ns)))
  obtain ⟨x2, s2⟩ := hscr ((i + (1 : Int32))).toInt.toNat (by omega)
  refine g_scr HW rfl (by omega) s2 ?_
  have y3 : -2147483648 ≤ i.toInt + (2 : Int) → i.toInt + (2 : Int) ≤ 2147483647 → (i + (2 : Int32)).toInt = i.toInt + (2 : Int) := t_addC (x := i) (y := (2 : Int32))
  refine zrn_ok HW 4 (zB_iff.mpr (?_ : G (870, [(3, .inl (.int i)), (2, .inl (.ref 49)), (1, .inl (.ref 0)), (0, .inl (.ref 10000000))], [.inl (.int (i + (2 : Int32))), .inl (.ref 10000000), .inl (.int x2), .inl (.ref 0)], h, nc, ns)))
  obtain ⟨x4, s4⟩ := hscr ((i + (2 : Int32))).toInt.toNat (by omega)
  refine g_scr HW rfl (by omega) s4 ?_
  refine g_tVa (e := te_X4_buyerOf_0) (E' := ze_X4_buyerOf) (c := 0) (s := 0) HW (tLow_of (IHP _) hD) rfl rfl (show te_X4_buyerOf_0 ∈ [te_X4_buyerOf_0] from List.mem_cons_self) (by decide +kernel) (Nat.le_of_ble_eq_true rfl) rfl rfl (by omega) (by omega) ok.1 ok.2.1 (by have := ok.2.2; omega) rfl hq_0 rfl (Nat.le_of_ble_eq_true rfl) ⟨⟨_, rfl, hq_0⟩, okA_If _, okA_If _, trivial⟩ (fun v5 T5 h5 m5 k5 f5 lh5 r5 => ?_)
  obtain ⟨w5, rfl, hw5, cd5⟩ := r5
  obtain ⟨x5, rfl, l5, u5⟩ := tint_sp rfl hw5
  have ok5 : wOK (zPhi (t, t, none, v)) h.length T5 h5 := ⟨k5, f5, Nat.le_trans lh5 ok.2.2⟩
  have hq_0 := m5 _ _ hq_0
  have hq_49 := m5 _ _ hq_49
  show G (874, [(3, .inl (.int i)), (2, .inl (.ref 49)), (1, .inl (.ref 0)), (0, .inl (.ref 10000000))], [.inl (.int x5)], h5, nc, ns)
  have y6 : -2147483648 ≤ i.toInt + (1 : Int) → i.toInt + (1 : Int) ≤ 2147483647 → (i + (1 : Int32)).toInt = i.toInt + (1 : Int) := t_addC (x := i) (y := (1 : Int32))
  refine zrn_ok HW 6 (zB_iff.mpr (?_ : G (880, [(3, .inl (.int i)), (2, .inl (.ref 49)), (1, .inl (.ref 0)), (0, .inl (.ref 10000000))], [.inl (.int (i + (1 : Int32))), .inl (.ref 10000000), .inl (.ref 49)], h5, nc, ns)))
  obtain ⟨x7, s7⟩ := hscr ((i + (1 : Int32))).toInt.toNat (by omega)
  refine g_scr HW rfl (by omega) s7 ?_
  have y8 : -2147483648 ≤ i.toInt + (2 : Int) → i.toInt + (2 : Int) ≤ 2147483647 → (i + (2 : Int32)).toInt = i.toInt + (2 : Int) := t_addC (x := i) (y := (2 : Int32))
  refine zrn_ok HW 4 (zB_iff.mpr (?_ : G (885, [(3, .inl (.int i)), (2, .inl (.ref 49)), (1, .inl (.ref 0)), (0, .inl (.ref 10000000))], [.inl (.int (i + (2 : Int32))), .inl (.ref 10000000), .inl (.int x7), .inl (.ref 49)], h5, nc, ns)))
  obtain ⟨x9, s9⟩ := hscr ((i + (2 : Int32))).toInt.toNat (by omega)
  refine g_scr HW rfl (by omega) s9 ?_
  refine g_tVa (e := te_X5_buyerOf_0) (E' := ze_X5_buyerOf) (c := 0) (s := 0) HW (tLow_of (IHP _) hD) rfl rfl (show te_X5_buyerOf_0 ∈ [te_X5_buyerOf_0] from List.mem_cons_self) (by decide +kernel) (Nat.le_of_ble_eq_true rfl) rfl rfl (by omega) (by omega) ok5.1 ok5.2.1 (by have := ok5.2.2; omega) rfl hq_49 rfl (Nat.le_of_ble_eq_true rfl) ⟨⟨_, rfl, hq_49⟩, okA_If _, okA_If _, trivial⟩ (fun v10 T10 h10 m10 k10 f10 lh10 r10 => ?_)
  obtain ⟨w10, rfl, hw10, cd10⟩ := r10
  obtain ⟨x10, rfl, l10, u10⟩ := tint_sp rfl hw10
  have ok10 : wOK (zPhi (t, t, none, v)) h.length T10 h10 := ⟨k10, f10, Nat.le_trans lh10 ok5.2.2⟩
  have hq_0 := m10 _ _ hq_0
  have hq_49 := m10 _ _ hq_49
  show G (889, [(3, .inl (.int i)), (2, .inl (.ref 49)), (1, .inl (.ref 0)), (0, .inl (.ref 10000000))], [.inl (.int x10)], h10, nc, ns)
  refine zrn_ok HW 2 (zB_iff.mpr (?_ : G (1662, [(3, .inl (.int i)), (2, .inl (.ref 49)), (1, .inl (.ref 0)), (0, .inl (.ref 10000000))], [], h10, nc, ns)))
  exact nxt T10 h10 _ _ 0 0 (wOK_up ok10 (by omega)) (Or.inl ⟨by decide, by decide, rfl⟩)

theorem lw_case19 {scr : List zV} {post : Option zV → zH → Bool} {G : zS → Prop} {D : Nat} {T : List Nat} {h : zH} {nc ns : Nat} {i : Int32} {t : Int} {v : Bool} (HW : zWalk zprog ze_L_law scr room_1.cells room_1.slots (zD zprog scr D) post G) (HWN : zWalk zprog ze_L_lawN scr room_1.cells room_1.slots (zD zprog scr D) post G) (hD : 300 ≤ D) (IHP : ∀ P : pP, tBel (zPhi P) scr 300) (hscr : ∀ j : Nat, (j : Int) < i.toInt + 6 → ∃ x : Int32, scr[j]? = some (.inl (.int x))) (hi0 : 0 ≤ i.toInt ∧ i.toInt ≤ 100000) (ok : wOK (zPhi (t, t, none, v)) h.length T h) (hl : h.length + 4000 ≤ 1000000) (hc : nc + 4000 ≤ room_1.cells) (hs : ns + 980000 ≤ room_1.slots)
    (HP : ∀ (x : Int64) (pc : Nat), (pc = 449 ∨ pc = 464) → ∀ (h : zH) (nc ns : Nat), G (pc + 1, [(3, .inl (.int i)), (2, .inl (.ref 49)), (1, .inl (.ref 0)), (0, .inl (.ref 10000000))], [], h, nc, ns) → G (pc, [(3, .inl (.int i)), (2, .inl (.ref 49)), (1, .inl (.ref 0)), (0, .inl (.ref 10000000))], [.inl (.long x)], h, nc, ns))
    (nxt : ∀ (T' : List Nat) (h' : zH) (t' : Int) (v' : Bool) (dc ds : Nat), wOK (zPhi (t', t', none, v')) (h.length + dc) T' h' → ((dc ≤ 30 ∧ ds ≤ 3328 ∧ v' = v) ∨ (v = false ∧ v' = true ∧ dc ≤ 3843 ∧ ds ≤ 971974)) → G (1662, [(3, .inl (.int i)), (2, .inl (.ref 49)), (1, .inl (.ref 0)), (0, .inl (.ref 10000000))], [], h', nc + dc, ns + ds)) : G (893, [(3, .inl (.int i)), (2, .inl (.ref 49)), (1, .inl (.ref 0)), (0, .inl (.ref 10000000))], [], h, nc, ns) := by
  have hq_0 : T[0]? = some 4 := ok.2.1.1.1
  have hq_49 : T[49]? = some 5 := ok.2.1.1.2.2.1
  have y1 : -2147483648 ≤ i.toInt + (1 : Int) → i.toInt + (1 : Int) ≤ 2147483647 → (i + (1 : Int32)).toInt = i.toInt + (1 : Int) := t_addC (x := i) (y := (1 : Int32))
  refine zrn_ok HW 5 (zB_iff.mpr (?_ : G (898, [(3, .inl (.int i)), (2, .inl (.ref 49)), (1, .inl (.ref 0)), (0, .inl (.ref 10000000))], [.inl (.int (i + (1 : Int32))), .inl (.ref 10000000), .inl (.ref 0)], h, nc, ns)))
  obtain ⟨x2, s2⟩ := hscr ((i + (1 : Int32))).toInt.toNat (by omega)
  refine g_scr HW rfl (by omega) s2 ?_
  have y3 : -2147483648 ≤ i.toInt + (2 : Int) → i.toInt + (2 : Int) ≤ 2147483647 → (i + (2 : Int32)).toInt = i.toInt + (2 : Int) := t_addC (x := i) (y := (2 : Int32))
  refine zrn_ok HW 4 (zB_iff.mpr (?_ : G (903, [(3, .inl (.int i)), (2, .inl (.ref 49)), (1, .inl (.ref 0)), (0, .inl (.ref 10000000))], [.inl (.int (i + (2 : Int32))), .inl (.ref 10000000), .inl (.int x2), .inl (.ref 0)], h, nc, ns)))
  obtain ⟨x4, s4⟩ := hscr ((i + (2 : Int32))).toInt.toNat (by omega)
  refine g_scr HW rfl (by omega) s4 ?_
  refine g_tVa (e := te_X4_slipOf_0) (E' := ze_X4_slipOf) (c := 0) (s := 0) HW (tLow_of (IHP _) hD) rfl rfl (show te_X4_slipOf_0 ∈ [te_X4_slipOf_0] from List.mem_cons_self) (by decide +kernel) (Nat.le_of_ble_eq_true rfl) rfl rfl (by omega) (by omega) ok.1 ok.2.1 (by have := ok.2.2; omega) rfl hq_0 rfl (Nat.le_of_ble_eq_true rfl) ⟨⟨_, rfl, hq_0⟩, okA_If _, okA_If _, trivial⟩ (fun v5 T5 h5 m5 k5 f5 lh5 r5 => ?_)
  obtain ⟨w5, rfl, hw5, cd5⟩ := r5
  obtain ⟨x5, rfl, l5, u5⟩ := tint_sp rfl hw5
  have ok5 : wOK (zPhi (t, t, none, v)) h.length T5 h5 := ⟨k5, f5, Nat.le_trans lh5 ok.2.2⟩
  have hq_0 := m5 _ _ hq_0
  have hq_49 := m5 _ _ hq_49
  show G (907, [(3, .inl (.int i)), (2, .inl (.ref 49)), (1, .inl (.ref 0)), (0, .inl (.ref 10000000))], [.inl (.int x5)], h5, nc, ns)
  have y6 : -2147483648 ≤ i.toInt + (1 : Int) → i.toInt + (1 : Int) ≤ 2147483647 → (i + (1 : Int32)).toInt = i.toInt + (1 : Int) := t_addC (x := i) (y := (1 : Int32))
  refine zrn_ok HW 6 (zB_iff.mpr (?_ : G (913, [(3, .inl (.int i)), (2, .inl (.ref 49)), (1, .inl (.ref 0)), (0, .inl (.ref 10000000))], [.inl (.int (i + (1 : Int32))), .inl (.ref 10000000), .inl (.ref 49)], h5, nc, ns)))
  obtain ⟨x7, s7⟩ := hscr ((i + (1 : Int32))).toInt.toNat (by omega)
  refine g_scr HW rfl (by omega) s7 ?_
  have y8 : -2147483648 ≤ i.toInt + (2 : Int) → i.toInt + (2 : Int) ≤ 2147483647 → (i + (2 : Int32)).toInt = i.toInt + (2 : Int) := t_addC (x := i) (y := (2 : Int32))
  refine zrn_ok HW 4 (zB_iff.mpr (?_ : G (918, [(3, .inl (.int i)), (2, .inl (.ref 49)), (1, .inl (.ref 0)), (0, .inl (.ref 10000000))], [.inl (.int (i + (2 : Int32))), .inl (.ref 10000000), .inl (.int x7), .inl (.ref 49)], h5, nc, ns)))
  obtain ⟨x9, s9⟩ := hscr ((i + (2 : Int32))).toInt.toNat (by omega)
  refine g_scr HW rfl (by omega) s9 ?_
  refine g_tVa (e := te_X5_slipOf_0) (E' := ze_X5_slipOf) (c := 0) (s := 0) HW (tLow_of (IHP _) hD) rfl rfl (show te_X5_slipOf_0 ∈ [te_X5_slipOf_0] from List.mem_cons_self) (by decide +kernel) (Nat.le_of_ble_eq_true rfl) rfl rfl (by omega) (by omega) ok5.1 ok5.2.1 (by have := ok5.2.2; omega) rfl hq_49 rfl (Nat.le_of_ble_eq_true rfl) ⟨⟨_, rfl, hq_49⟩, okA_If _, okA_If _, trivial⟩ (fun v10 T10 h10 m10 k10 f10 lh10 r10 => ?_)
  obtain ⟨w10, rfl, hw10, cd10⟩ := r10
  obtain ⟨x10, rfl, l10, u10⟩ := tint_sp rfl hw10
  have l10 : ((-6) : Int) ≤ x10.toInt := l10
  have u10 : x10.toInt ≤ (7 : Int) := u10
  have ok10 : wOK (zPhi (t, t, none, v)) h.length T10 h10 := ⟨k10, f10, Nat.le_trans lh10 ok5.2.2⟩
  have hq_0 := m10 _ _ hq_0
  have hq_49 := m10 _ _ hq_49
  show G (922, [(3, .inl (.int i)), (2, .inl (.ref 49)), (1, .inl (.ref 0)), (0, .inl (.ref 10000000))], [.inl (.int x10)], h10, nc, ns)
  refine zrn_ok HW 2 (zB_iff.mpr (?_ : G (1662, [(3, .inl (.int i)), (2, .inl (.ref 49)), (1, .inl (.ref 0)), (0, .inl (.ref 10000000))], [], h10, nc, ns)))
  exact nxt T10 h10 _ _ 0 0 (wOK_up ok10 (by omega)) (Or.inl ⟨by decide, by decide, rfl⟩)

theorem lw_case20 {scr : List zV} {post : Option zV → zH → Bool} {G : zS → Prop} {D : Nat} {T : List Nat} {h : zH} {nc ns : Nat} {i : Int32} {t : Int} {v : Bool} (HW : zWalk zprog ze_L_law scr room_1.cells room_1.slots (zD zprog scr D) post G) (HWN : zWalk zprog ze_L_lawN scr room_1.cells room_1.slots (zD zprog scr D) post G) (hD : 300 ≤ D) (IHP : ∀ P : pP, tBel (zPhi P) scr 300) (hscr : ∀ j : Nat, (j : Int) < i.toInt + 6 → ∃ x : Int32, scr[j]? = some (.inl (.int x))) (hi0 : 0 ≤ i.toInt ∧ i.toInt ≤ 100000) (ok : wOK (zPhi (t, t, none, v)) h.length T h) (hl : h.length + 4000 ≤ 1000000) (hc : nc + 4000 ≤ room_1.cells) (hs : ns + 980000 ≤ room_1.slots)
    (HP : ∀ (x : Int64) (pc : Nat), (pc = 449 ∨ pc = 464) → ∀ (h : zH) (nc ns : Nat), G (pc + 1, [(3, .inl (.int i)), (2, .inl (.ref 49)), (1, .inl (.ref 0)), (0, .inl (.ref 10000000))], [], h, nc, ns) → G (pc, [(3, .inl (.int i)), (2, .inl (.ref 49)), (1, .inl (.ref 0)), (0, .inl (.ref 10000000))], [.inl (.long x)], h, nc, ns))
    (nxt : ∀ (T' : List Nat) (h' : zH) (t' : Int) (v' : Bool) (dc ds : Nat), wOK (zPhi (t', t', none, v')) (h.length + dc) T' h' → ((dc ≤ 30 ∧ ds ≤ 3328 ∧ v' = v) ∨ (v = false ∧ v' = true ∧ dc ≤ 3843 ∧ ds ≤ 971974)) → G (1662, [(3, .inl (.int i)), (2, .inl (.ref 49)), (1, .inl (.ref 0)), (0, .inl (.ref 10000000))], [], h', nc + dc, ns + ds)) : G (926, [(3, .inl (.int i)), (2, .inl (.ref 49)), (1, .inl (.ref 0)), (0, .inl (.ref 10000000))], [], h, nc, ns) := by
  have hq_0 : T[0]? = some 4 := ok.2.1.1.1
  have hq_49 : T[49]? = some 5 := ok.2.1.1.2.2.1
  refine zrn_ok HW 1 (zB_iff.mpr (?_ : G (927, [(3, .inl (.int i)), (2, .inl (.ref 49)), (1, .inl (.ref 0)), (0, .inl (.ref 10000000))], [.inl (.ref 0)], h, nc, ns)))
  refine g_tVa (e := te_X4_drawable_0) (E' := ze_X4_drawable) (c := 0) (s := 0) HW (tLow_of (IHP _) hD) rfl rfl (show te_X4_drawable_0 ∈ [te_X4_drawable_0] from List.mem_cons_self) (by decide +kernel) (Nat.le_of_ble_eq_true rfl) rfl rfl (by omega) (by omega) ok.1 ok.2.1 (by have := ok.2.2; omega) rfl hq_0 rfl (Nat.le_of_ble_eq_true rfl) ⟨⟨_, rfl, hq_0⟩, trivial⟩ (fun v1 T1 h1 m1 k1 f1 lh1 r1 => ?_)
  obtain ⟨w1, rfl, hw1, cd1⟩ := r1
  obtain ⟨x1, rfl, l1, u1⟩ := tint_sp rfl hw1
  have l1 : ((-63) : Int) ≤ x1.toInt := l1
  have u1 : x1.toInt ≤ (127 : Int) := u1
  have ok1 : wOK (zPhi (t, t, none, v)) h.length T1 h1 := ⟨k1, f1, Nat.le_trans lh1 ok.2.2⟩
  have hq_0 := m1 _ _ hq_0
  have hq_49 := m1 _ _ hq_49
  show G (930, [(3, .inl (.int i)), (2, .inl (.ref 49)), (1, .inl (.ref 0)), (0, .inl (.ref 10000000))], [.inl (.int x1)], h1, nc, ns)
  refine zrn_ok HW 2 (zB_iff.mpr (?_ : G (932, [(3, .inl (.int i)), (2, .inl (.ref 49)), (1, .inl (.ref 0)), (0, .inl (.ref 10000000))], [.inl (.ref 49)], h1, nc, ns)))
  refine g_tVa (e := te_X5_drawable_0) (E' := ze_X5_drawable) (c := 0) (s := 0) HW (tLow_of (IHP _) hD) rfl rfl (show te_X5_drawable_0 ∈ [te_X5_drawable_0] from List.mem_cons_self) (by decide +kernel) (Nat.le_of_ble_eq_true rfl) rfl rfl (by omega) (by omega) ok1.1 ok1.2.1 (by have := ok1.2.2; omega) rfl hq_49 rfl (Nat.le_of_ble_eq_true rfl) ⟨⟨_, rfl, hq_49⟩, trivial⟩ (fun v2 T2 h2 m2 k2 f2 lh2 r2 => ?_)
  obtain ⟨w2, rfl, hw2, cd2⟩ := r2
  obtain ⟨x2, rfl, l2, u2⟩ := tint_sp rfl hw2
  have l2 : (0 : Int) ≤ x2.toInt := l2
  have u2 : x2.toInt ≤ (60 : Int) := u2
  have ok2 : wOK (zPhi (t, t, none, v)) h.length T2 h2 := ⟨k2, f2, Nat.le_trans lh2 ok1.2.2⟩
  have hq_0 := m2 _ _ hq_0
  have hq_49 := m2 _ _ hq_49
  show G (935, [(3, .inl (.int i)), (2, .inl (.ref 49)), (1, .inl (.ref 0)), (0, .inl (.ref 10000000))], [.inl (.int x2)], h2, nc, ns)
  refine zrn_ok HW 2 (zB_iff.mpr (?_ : G (1662, [(3, .inl (.int i)), (2, .inl (.ref 49)), (1, .inl (.ref 0)), (0, .inl (.ref 10000000))], [], h2, nc, ns)))
  exact nxt T2 h2 _ _ 0 0 (wOK_up ok2 (by omega)) (Or.inl ⟨by decide, by decide, rfl⟩)

theorem lw_case21 {scr : List zV} {post : Option zV → zH → Bool} {G : zS → Prop} {D : Nat} {T : List Nat} {h : zH} {nc ns : Nat} {i : Int32} {t : Int} {v : Bool} (HW : zWalk zprog ze_L_law scr room_1.cells room_1.slots (zD zprog scr D) post G) (HWN : zWalk zprog ze_L_lawN scr room_1.cells room_1.slots (zD zprog scr D) post G) (hD : 300 ≤ D) (IHP : ∀ P : pP, tBel (zPhi P) scr 300) (hscr : ∀ j : Nat, (j : Int) < i.toInt + 6 → ∃ x : Int32, scr[j]? = some (.inl (.int x))) (hi0 : 0 ≤ i.toInt ∧ i.toInt ≤ 100000) (ok : wOK (zPhi (t, t, none, v)) h.length T h) (hl : h.length + 4000 ≤ 1000000) (hc : nc + 4000 ≤ room_1.cells) (hs : ns + 980000 ≤ room_1.slots)
    (HP : ∀ (x : Int64) (pc : Nat), (pc = 449 ∨ pc = 464) → ∀ (h : zH) (nc ns : Nat), G (pc + 1, [(3, .inl (.int i)), (2, .inl (.ref 49)), (1, .inl (.ref 0)), (0, .inl (.ref 10000000))], [], h, nc, ns) → G (pc, [(3, .inl (.int i)), (2, .inl (.ref 49)), (1, .inl (.ref 0)), (0, .inl (.ref 10000000))], [.inl (.long x)], h, nc, ns))
    (nxt : ∀ (T' : List Nat) (h' : zH) (t' : Int) (v' : Bool) (dc ds : Nat), wOK (zPhi (t', t', none, v')) (h.length + dc) T' h' → ((dc ≤ 30 ∧ ds ≤ 3328 ∧ v' = v) ∨ (v = false ∧ v' = true ∧ dc ≤ 3843 ∧ ds ≤ 971974)) → G (1662, [(3, .inl (.int i)), (2, .inl (.ref 49)), (1, .inl (.ref 0)), (0, .inl (.ref 10000000))], [], h', nc + dc, ns + ds)) : G (939, [(3, .inl (.int i)), (2, .inl (.ref 49)), (1, .inl (.ref 0)), (0, .inl (.ref 10000000))], [], h, nc, ns) := by
  have hq_0 : T[0]? = some 4 := ok.2.1.1.1
  have hq_49 : T[49]? = some 5 := ok.2.1.1.2.2.1
  have y1 : -2147483648 ≤ i.toInt + (1 : Int) → i.toInt + (1 : Int) ≤ 2147483647 → (i + (1 : Int32)).toInt = i.toInt + (1 : Int) := t_addC (x := i) (y := (1 : Int32))
  refine zrn_ok HW 5 (zB_iff.mpr (?_ : G (944, [(3, .inl (.int i)), (2, .inl (.ref 49)), (1, .inl (.ref 0)), (0, .inl (.ref 10000000))], [.inl (.int (i + (1 : Int32))), .inl (.ref 10000000), .inl (.ref 0)], h, nc, ns)))
  obtain ⟨x2, s2⟩ := hscr ((i + (1 : Int32))).toInt.toNat (by omega)
  refine g_scr HW rfl (by omega) s2 ?_
  refine g_tVa (e := te_X4_wins_0) (E' := ze_X4_wins) (c := 0) (s := 0) HW (tLow_of (IHP _) hD) rfl rfl (show te_X4_wins_0 ∈ [te_X4_wins_0] from List.mem_cons_self) (by decide +kernel) (Nat.le_of_ble_eq_true rfl) rfl rfl (by omega) (by omega) ok.1 ok.2.1 (by have := ok.2.2; omega) rfl hq_0 rfl (Nat.le_of_ble_eq_true rfl) ⟨⟨_, rfl, hq_0⟩, okA_If _, trivial⟩ (fun v3 T3 h3 m3 k3 f3 lh3 r3 => ?_)
  obtain ⟨w3, rfl, hw3, cd3⟩ := r3
  obtain ⟨x3, rfl, l3, u3⟩ := tint_sp rfl hw3
  have ok3 : wOK (zPhi (t, t, none, v)) h.length T3 h3 := ⟨k3, f3, Nat.le_trans lh3 ok.2.2⟩
  have hq_0 := m3 _ _ hq_0
  have hq_49 := m3 _ _ hq_49
  show G (948, [(3, .inl (.int i)), (2, .inl (.ref 49)), (1, .inl (.ref 0)), (0, .inl (.ref 10000000))], [.inl (.int x3)], h3, nc, ns)
  have y4 : -2147483648 ≤ i.toInt + (1 : Int) → i.toInt + (1 : Int) ≤ 2147483647 → (i + (1 : Int32)).toInt = i.toInt + (1 : Int) := t_addC (x := i) (y := (1 : Int32))
  refine zrn_ok HW 6 (zB_iff.mpr (?_ : G (954, [(3, .inl (.int i)), (2, .inl (.ref 49)), (1, .inl (.ref 0)), (0, .inl (.ref 10000000))], [.inl (.int (i + (1 : Int32))), .inl (.ref 10000000), .inl (.ref 49)], h3, nc, ns)))
  obtain ⟨x5, s5⟩ := hscr ((i + (1 : Int32))).toInt.toNat (by omega)
  refine g_scr HW rfl (by omega) s5 ?_
  refine g_tVa (e := te_X5_wins_0) (E' := ze_X5_wins) (c := 0) (s := 0) HW (tLow_of (IHP _) hD) rfl rfl (show te_X5_wins_0 ∈ [te_X5_wins_0] from List.mem_cons_self) (by decide +kernel) (Nat.le_of_ble_eq_true rfl) rfl rfl (by omega) (by omega) ok3.1 ok3.2.1 (by have := ok3.2.2; omega) rfl hq_49 rfl (Nat.le_of_ble_eq_true rfl) ⟨⟨_, rfl, hq_49⟩, okA_If _, trivial⟩ (fun v6 T6 h6 m6 k6 f6 lh6 r6 => ?_)
  obtain ⟨w6, rfl, hw6, cd6⟩ := r6
  obtain ⟨x6, rfl, l6, u6⟩ := tint_sp rfl hw6
  have l6 : ((-6) : Int) ≤ x6.toInt := l6
  have u6 : x6.toInt ≤ (255 : Int) := u6
  have ok6 : wOK (zPhi (t, t, none, v)) h.length T6 h6 := ⟨k6, f6, Nat.le_trans lh6 ok3.2.2⟩
  have hq_0 := m6 _ _ hq_0
  have hq_49 := m6 _ _ hq_49
  show G (958, [(3, .inl (.int i)), (2, .inl (.ref 49)), (1, .inl (.ref 0)), (0, .inl (.ref 10000000))], [.inl (.int x6)], h6, nc, ns)
  refine zrn_ok HW 2 (zB_iff.mpr (?_ : G (1662, [(3, .inl (.int i)), (2, .inl (.ref 49)), (1, .inl (.ref 0)), (0, .inl (.ref 10000000))], [], h6, nc, ns)))
  exact nxt T6 h6 _ _ 0 0 (wOK_up ok6 (by omega)) (Or.inl ⟨by decide, by decide, rfl⟩)

theorem lw_case22 {scr : List zV} {post : Option zV → zH → Bool} {G : zS → Prop} {D : Nat} {T : List Nat} {h : zH} {nc ns : Nat} {i : Int32} {t : Int} {v : Bool} (HW : zWalk zprog ze_L_law scr room_1.cells room_1.slots (zD zprog scr D) post G) (HWN : zWalk zprog ze_L_lawN scr room_1.cells room_1.slots (zD zprog scr D) post G) (hD : 300 ≤ D) (IHP : ∀ P : pP, tBel (zPhi P) scr 300) (hscr : ∀ j : Nat, (j : Int) < i.toInt + 6 → ∃ x : Int32, scr[j]? = some (.inl (.int x))) (hi0 : 0 ≤ i.toInt ∧ i.toInt ≤ 100000) (ok : wOK (zPhi (t, t, none, v)) h.length T h) (hl : h.length + 4000 ≤ 1000000) (hc : nc + 4000 ≤ room_1.cells) (hs : ns + 980000 ≤ room_1.slots)
    (HP : ∀ (x : Int64) (pc : Nat), (pc = 449 ∨ pc = 464) → ∀ (h : zH) (nc ns : Nat), G (pc + 1, [(3, .inl (.int i)), (2, .inl (.ref 49)), (1, .inl (.ref 0)), (0, .inl (.ref 10000000))], [], h, nc, ns) → G (pc, [(3, .inl (.int i)), (2, .inl (.ref 49)), (1, .inl (.ref 0)), (0, .inl (.ref 10000000))], [.inl (.long x)], h, nc, ns))
    (nxt : ∀ (T' : List Nat) (h' : zH) (t' : Int) (v' : Bool) (dc ds : Nat), wOK (zPhi (t', t', none, v')) (h.length + dc) T' h' → ((dc ≤ 30 ∧ ds ≤ 3328 ∧ v' = v) ∨ (v = false ∧ v' = true ∧ dc ≤ 3843 ∧ ds ≤ 971974)) → G (1662, [(3, .inl (.int i)), (2, .inl (.ref 49)), (1, .inl (.ref 0)), (0, .inl (.ref 10000000))], [], h', nc + dc, ns + ds)) : G (962, [(3, .inl (.int i)), (2, .inl (.ref 49)), (1, .inl (.ref 0)), (0, .inl (.ref 10000000))], [], h, nc, ns) := by
  have hq_0 : T[0]? = some 4 := ok.2.1.1.1
  have hq_49 : T[49]? = some 5 := ok.2.1.1.2.2.1
  have y1 : -2147483648 ≤ i.toInt + (1 : Int) → i.toInt + (1 : Int) ≤ 2147483647 → (i + (1 : Int32)).toInt = i.toInt + (1 : Int) := t_addC (x := i) (y := (1 : Int32))
  refine zrn_ok HW 5 (zB_iff.mpr (?_ : G (967, [(3, .inl (.int i)), (2, .inl (.ref 49)), (1, .inl (.ref 0)), (0, .inl (.ref 10000000))], [.inl (.int (i + (1 : Int32))), .inl (.ref 10000000), .inl (.ref 0)], h, nc, ns)))
  obtain ⟨x2, s2⟩ := hscr ((i + (1 : Int32))).toInt.toNat (by omega)
  refine g_scr HW rfl (by omega) s2 ?_
  refine g_tVa (e := te_X4_worth_0) (E' := ze_X4_worth) (c := 0) (s := 0) HW (tLow_of (IHP _) hD) rfl rfl (show te_X4_worth_0 ∈ [te_X4_worth_0] from List.mem_cons_self) (by decide +kernel) (Nat.le_of_ble_eq_true rfl) rfl rfl (by omega) (by omega) ok.1 ok.2.1 (by have := ok.2.2; omega) rfl hq_0 rfl (Nat.le_of_ble_eq_true rfl) ⟨⟨_, rfl, hq_0⟩, okA_If _, trivial⟩ (fun v3 T3 h3 m3 k3 f3 lh3 r3 => ?_)
  obtain ⟨w3, rfl, hw3, cd3⟩ := r3
  obtain ⟨x3, rfl, l3, u3⟩ := tint_sp rfl hw3
  have ok3 : wOK (zPhi (t, t, none, v)) h.length T3 h3 := ⟨k3, f3, Nat.le_trans lh3 ok.2.2⟩
  have hq_0 := m3 _ _ hq_0
  have hq_49 := m3 _ _ hq_49
  show G (971, [(3, .inl (.int i)), (2, .inl (.ref 49)), (1, .inl (.ref 0)), (0, .inl (.ref 10000000))], [.inl (.int x3)], h3, nc, ns)
  have y4 : -2147483648 ≤ i.toInt + (1 : Int) → i.toInt + (1 : Int) ≤ 2147483647 → (i + (1 : Int32)).toInt = i.toInt + (1 : Int) := t_addC (x := i) (y := (1 : Int32))
  refine zrn_ok HW 6 (zB_iff.mpr (?_ : G (977, [(3, .inl (.int i)), (2, .inl (.ref 49)), (1, .inl (.ref 0)), (0, .inl (.ref 10000000))], [.inl (.int (i + (1 : Int32))), .inl (.ref 10000000), .inl (.ref 49)], h3, nc, ns)))
  obtain ⟨x5, s5⟩ := hscr ((i + (1 : Int32))).toInt.toNat (by omega)
  refine g_scr HW rfl (by omega) s5 ?_
  refine g_tVa (e := te_X5_worth_0) (E' := ze_X5_worth) (c := 0) (s := 0) HW (tLow_of (IHP _) hD) rfl rfl (show te_X5_worth_0 ∈ [te_X5_worth_0] from List.mem_cons_self) (by decide +kernel) (Nat.le_of_ble_eq_true rfl) rfl rfl (by omega) (by omega) ok3.1 ok3.2.1 (by have := ok3.2.2; omega) rfl hq_49 rfl (Nat.le_of_ble_eq_true rfl) ⟨⟨_, rfl, hq_49⟩, okA_If _, trivial⟩ (fun v6 T6 h6 m6 k6 f6 lh6 r6 => ?_)
  obtain ⟨w6, rfl, hw6, cd6⟩ := r6
  obtain ⟨x6, rfl, l6, u6⟩ := tint_sp rfl hw6
  have ok6 : wOK (zPhi (t, t, none, v)) h.length T6 h6 := ⟨k6, f6, Nat.le_trans lh6 ok3.2.2⟩
  have hq_0 := m6 _ _ hq_0
  have hq_49 := m6 _ _ hq_49
  show G (981, [(3, .inl (.int i)), (2, .inl (.ref 49)), (1, .inl (.ref 0)), (0, .inl (.ref 10000000))], [.inl (.int x6)], h6, nc, ns)
  refine zrn_ok HW 2 (zB_iff.mpr (?_ : G (1662, [(3, .inl (.int i)), (2, .inl (.ref 49)), (1, .inl (.ref 0)), (0, .inl (.ref 10000000))], [], h6, nc, ns)))
  exact nxt T6 h6 _ _ 0 0 (wOK_up ok6 (by omega)) (Or.inl ⟨by decide, by decide, rfl⟩)

theorem lw_case23 {scr : List zV} {post : Option zV → zH → Bool} {G : zS → Prop} {D : Nat} {T : List Nat} {h : zH} {nc ns : Nat} {i : Int32} {t : Int} {v : Bool} (HW : zWalk zprog ze_L_law scr room_1.cells room_1.slots (zD zprog scr D) post G) (HWN : zWalk zprog ze_L_lawN scr room_1.cells room_1.slots (zD zprog scr D) post G) (hD : 300 ≤ D) (IHP : ∀ P : pP, tBel (zPhi P) scr 300) (hscr : ∀ j : Nat, (j : Int) < i.toInt + 6 → ∃ x : Int32, scr[j]? = some (.inl (.int x))) (hi0 : 0 ≤ i.toInt ∧ i.toInt ≤ 100000) (ok : wOK (zPhi (t, t, none, v)) h.length T h) (hl : h.length + 4000 ≤ 1000000) (hc : nc + 4000 ≤ room_1.cells) (hs : ns + 980000 ≤ room_1.slots)
    (HP : ∀ (x : Int64) (pc : Nat), (pc = 449 ∨ pc = 464) → ∀ (h : zH) (nc ns : Nat), G (pc + 1, [(3, .inl (.int i)), (2, .inl (.ref 49)), (1, .inl (.ref 0)), (0, .inl (.ref 10000000))], [], h, nc, ns) → G (pc, [(3, .inl (.int i)), (2, .inl (.ref 49)), (1, .inl (.ref 0)), (0, .inl (.ref 10000000))], [.inl (.long x)], h, nc, ns))
    (nxt : ∀ (T' : List Nat) (h' : zH) (t' : Int) (v' : Bool) (dc ds : Nat), wOK (zPhi (t', t', none, v')) (h.length + dc) T' h' → ((dc ≤ 30 ∧ ds ≤ 3328 ∧ v' = v) ∨ (v = false ∧ v' = true ∧ dc ≤ 3843 ∧ ds ≤ 971974)) → G (1662, [(3, .inl (.int i)), (2, .inl (.ref 49)), (1, .inl (.ref 0)), (0, .inl (.ref 10000000))], [], h', nc + dc, ns + ds)) : G (985, [(3, .inl (.int i)), (2, .inl (.ref 49)), (1, .inl (.ref 0)), (0, .inl (.ref 10000000))], [], h, nc, ns) := by
  have hq_0 : T[0]? = some 4 := ok.2.1.1.1
  have hq_49 : T[49]? = some 5 := ok.2.1.1.2.2.1
  have y1 : -2147483648 ≤ i.toInt + (1 : Int) → i.toInt + (1 : Int) ≤ 2147483647 → (i + (1 : Int32)).toInt = i.toInt + (1 : Int) := t_addC (x := i) (y := (1 : Int32))
  refine zrn_ok HW 5 (zB_iff.mpr (?_ : G (990, [(3, .inl (.int i)), (2, .inl (.ref 49)), (1, .inl (.ref 0)), (0, .inl (.ref 10000000))], [.inl (.int (i + (1 : Int32))), .inl (.ref 10000000), .inl (.ref 0)], h, nc, ns)))
  obtain ⟨x2, s2⟩ := hscr ((i + (1 : Int32))).toInt.toNat (by omega)
  refine g_scr HW rfl (by omega) s2 ?_
  refine g_tVa (e := te_X4_plan_0) (E' := ze_X4_plan) (c := 0) (s := 0) HW (tLow_of (IHP _) hD) rfl rfl (show te_X4_plan_0 ∈ [te_X4_plan_0] from List.mem_cons_self) (by decide +kernel) (Nat.le_of_ble_eq_true rfl) rfl rfl (by omega) (by omega) ok.1 ok.2.1 (by have := ok.2.2; omega) rfl hq_0 rfl (Nat.le_of_ble_eq_true rfl) ⟨⟨_, rfl, hq_0⟩, okA_If _, trivial⟩ (fun v3 T3 h3 m3 k3 f3 lh3 r3 => ?_)
  obtain ⟨w3, rfl, hw3, cd3⟩ := r3
  obtain ⟨x3, rfl, l3, u3⟩ := tint_sp rfl hw3
  have ok3 : wOK (zPhi (t, t, none, v)) h.length T3 h3 := ⟨k3, f3, Nat.le_trans lh3 ok.2.2⟩
  have hq_0 := m3 _ _ hq_0
  have hq_49 := m3 _ _ hq_49
  show G (994, [(3, .inl (.int i)), (2, .inl (.ref 49)), (1, .inl (.ref 0)), (0, .inl (.ref 10000000))], [.inl (.int x3)], h3, nc, ns)
  have y4 : -2147483648 ≤ i.toInt + (1 : Int) → i.toInt + (1 : Int) ≤ 2147483647 → (i + (1 : Int32)).toInt = i.toInt + (1 : Int) := t_addC (x := i) (y := (1 : Int32))
  refine zrn_ok HW 6 (zB_iff.mpr (?_ : G (1000, [(3, .inl (.int i)), (2, .inl (.ref 49)), (1, .inl (.ref 0)), (0, .inl (.ref 10000000))], [.inl (.int (i + (1 : Int32))), .inl (.ref 10000000), .inl (.ref 49)], h3, nc, ns)))
  obtain ⟨x5, s5⟩ := hscr ((i + (1 : Int32))).toInt.toNat (by omega)
  refine g_scr HW rfl (by omega) s5 ?_
  have fN6 : ∀ (y6 : Int32) (T6 : List Nat) (h6 : zH), tExt T3 T6 → wOK (zPhi (t, t, none, v)) h.length T6 h6 → G (1004, [(3, .inl (.int i)), (2, .inl (.ref 49)), (1, .inl (.ref 0)), (0, .inl (.ref 10000000))], [.inl (.int y6)], h6, nc + 0, ns + 0) := by
    intro y6 T6 h6 m6 ok6
    refine zrn_ok HW 2 (zB_iff.mpr (?_ : G (1662, [(3, .inl (.int i)), (2, .inl (.ref 49)), (1, .inl (.ref 0)), (0, .inl (.ref 10000000))], [], h6, nc + 0, ns + 0)))
    exact nxt T6 h6 _ _ 0 0 (wOK_up ok6 (by omega)) (Or.inl ⟨by decide, by decide, rfl⟩)
  have fA6 : v = false → ∀ (y6 : Int32) (T6 : List Nat) (h6 : zH), tExt T3 T6 → wOK (zPhi (t, t, none, true)) (h.length + 63) T6 h6 → G (1004, [(3, .inl (.int i)), (2, .inl (.ref 49)), (1, .inl (.ref 0)), (0, .inl (.ref 10000000))], [.inl (.int y6)], h6, nc + 63, ns + 15934) := by
    intro hv0 y6 T6 h6 m6 ok6
    refine zrn_ok HW 2 (zB_iff.mpr (?_ : G (1662, [(3, .inl (.int i)), (2, .inl (.ref 49)), (1, .inl (.ref 0)), (0, .inl (.ref 10000000))], [], h6, nc + 63, ns + 15934)))
    exact nxt T6 h6 _ true 63 15934 (wOK_up ok6 (by omega)) (Or.inr ⟨hv0, rfl, by decide, by decide⟩)
  by_cases hvn : v = true ∨ ¬ (0 ≤ x5.toInt ∧ x5.toInt < hi h3 49 23)
  · refine g_callV (E' := ze_X5_planN) HWN rfl rfl (Nat.le_of_ble_eq_true rfl) (by show nc + 0 ≤ room_1.cells; omega) (by show ns + 0 ≤ room_1.slots; omega) ok3.1 rfl hq_49 rfl (Nat.le_of_ble_eq_true rfl) (by obtain ⟨D2, rfl⟩ : ∃ D2, D = D2 + 133 := ⟨D - 133, by omega⟩; exact c_planN (tBel_le (IHP _) (by decide)) ok3 hvn (fun y6 T6 h6 m6 ok6 => zB_iff.mpr (fN6 y6 T6 h6 m6 ok6)))
  · have hv0 : v = false := by cases v; rfl; exact absurd (Or.inl rfl) hvn
    have nd : 0 ≤ x5.toInt ∧ x5.toInt < hi h3 49 23 := Classical.byContradiction (fun hn => hvn (Or.inr hn))
    refine g_callV (E' := ze_X5_plan) HW rfl rfl (Nat.le_of_ble_eq_true rfl) (by show nc + 63 ≤ room_1.cells; omega) (by show ns + 15934 ≤ room_1.slots; omega) ok3.1 rfl hq_49 rfl (Nat.le_of_ble_eq_true rfl) (by obtain ⟨D2, rfl⟩ : ∃ D2, D = D2 + 133 := ⟨D - 133, by omega⟩; exact c_plan (N := h.length + 63) (tBel_le (IHP _) (by decide)) (wOK_up ok3 (Nat.le_add_right _ _)) (by have := ok3.2.2; omega) (by omega) nd (fun y6 T6 h6 m6 ok6 => zB_iff.mpr (fA6 hv0 y6 T6 h6 m6 ok6)))

theorem lw_case24 {scr : List zV} {post : Option zV → zH → Bool} {G : zS → Prop} {D : Nat} {T : List Nat} {h : zH} {nc ns : Nat} {i : Int32} {t : Int} {v : Bool} (HW : zWalk zprog ze_L_law scr room_1.cells room_1.slots (zD zprog scr D) post G) (HWN : zWalk zprog ze_L_lawN scr room_1.cells room_1.slots (zD zprog scr D) post G) (hD : 300 ≤ D) (IHP : ∀ P : pP, tBel (zPhi P) scr 300) (hscr : ∀ j : Nat, (j : Int) < i.toInt + 6 → ∃ x : Int32, scr[j]? = some (.inl (.int x))) (hi0 : 0 ≤ i.toInt ∧ i.toInt ≤ 100000) (ok : wOK (zPhi (t, t, none, v)) h.length T h) (hl : h.length + 4000 ≤ 1000000) (hc : nc + 4000 ≤ room_1.cells) (hs : ns + 980000 ≤ room_1.slots)
    (HP : ∀ (x : Int64) (pc : Nat), (pc = 449 ∨ pc = 464) → ∀ (h : zH) (nc ns : Nat), G (pc + 1, [(3, .inl (.int i)), (2, .inl (.ref 49)), (1, .inl (.ref 0)), (0, .inl (.ref 10000000))], [], h, nc, ns) → G (pc, [(3, .inl (.int i)), (2, .inl (.ref 49)), (1, .inl (.ref 0)), (0, .inl (.ref 10000000))], [.inl (.long x)], h, nc, ns))
    (nxt : ∀ (T' : List Nat) (h' : zH) (t' : Int) (v' : Bool) (dc ds : Nat), wOK (zPhi (t', t', none, v')) (h.length + dc) T' h' → ((dc ≤ 30 ∧ ds ≤ 3328 ∧ v' = v) ∨ (v = false ∧ v' = true ∧ dc ≤ 3843 ∧ ds ≤ 971974)) → G (1662, [(3, .inl (.int i)), (2, .inl (.ref 49)), (1, .inl (.ref 0)), (0, .inl (.ref 10000000))], [], h', nc + dc, ns + ds)) : G (1008, [(3, .inl (.int i)), (2, .inl (.ref 49)), (1, .inl (.ref 0)), (0, .inl (.ref 10000000))], [], h, nc, ns) := by
  have hq_0 : T[0]? = some 4 := ok.2.1.1.1
  have hq_49 : T[49]? = some 5 := ok.2.1.1.2.2.1
  have y1 : -2147483648 ≤ i.toInt + (1 : Int) → i.toInt + (1 : Int) ≤ 2147483647 → (i + (1 : Int32)).toInt = i.toInt + (1 : Int) := t_addC (x := i) (y := (1 : Int32))
  refine zrn_ok HW 5 (zB_iff.mpr (?_ : G (1013, [(3, .inl (.int i)), (2, .inl (.ref 49)), (1, .inl (.ref 0)), (0, .inl (.ref 10000000))], [.inl (.int (i + (1 : Int32))), .inl (.ref 10000000), .inl (.ref 0)], h, nc, ns)))
  obtain ⟨x2, s2⟩ := hscr ((i + (1 : Int32))).toInt.toNat (by omega)
  refine g_scr HW rfl (by omega) s2 ?_
  refine g_tVa (e := te_X4_till_0) (E' := ze_X4_till) (c := 0) (s := 0) HW (tLow_of (IHP _) hD) rfl rfl (show te_X4_till_0 ∈ [te_X4_till_0] from List.mem_cons_self) (by decide +kernel) (Nat.le_of_ble_eq_true rfl) rfl rfl (by omega) (by omega) ok.1 ok.2.1 (by have := ok.2.2; omega) rfl hq_0 rfl (Nat.le_of_ble_eq_true rfl) ⟨⟨_, rfl, hq_0⟩, okA_If _, trivial⟩ (fun v3 T3 h3 m3 k3 f3 lh3 r3 => ?_)
  obtain ⟨w3, rfl, hw3, cd3⟩ := r3
  obtain ⟨x3, rfl, l3, u3⟩ := tint_sp rfl hw3
  have ok3 : wOK (zPhi (t, t, none, v)) h.length T3 h3 := ⟨k3, f3, Nat.le_trans lh3 ok.2.2⟩
  have hq_0 := m3 _ _ hq_0
  have hq_49 := m3 _ _ hq_49
  show G (1017, [(3, .inl (.int i)), (2, .inl (.ref 49)), (1, .inl (.ref 0)), (0, .inl (.ref 10000000))], [.inl (.int x3)], h3, nc, ns)
  have y4 : -2147483648 ≤ i.toInt + (1 : Int) → i.toInt + (1 : Int) ≤ 2147483647 → (i + (1 : Int32)).toInt = i.toInt + (1 : Int) := t_addC (x := i) (y := (1 : Int32))
  refine zrn_ok HW 6 (zB_iff.mpr (?_ : G (1023, [(3, .inl (.int i)), (2, .inl (.ref 49)), (1, .inl (.ref 0)), (0, .inl (.ref 10000000))], [.inl (.int (i + (1 : Int32))), .inl (.ref 10000000), .inl (.ref 49)], h3, nc, ns)))
  obtain ⟨x5, s5⟩ := hscr ((i + (1 : Int32))).toInt.toNat (by omega)
  refine g_scr HW rfl (by omega) s5 ?_
  have fN6 : ∀ (y6 : Int32) (T6 : List Nat) (h6 : zH), tExt T3 T6 → wOK (zPhi (t, t, none, v)) h.length T6 h6 → G (1027, [(3, .inl (.int i)), (2, .inl (.ref 49)), (1, .inl (.ref 0)), (0, .inl (.ref 10000000))], [.inl (.int y6)], h6, nc + 0, ns + 0) := by
    intro y6 T6 h6 m6 ok6
    refine zrn_ok HW 2 (zB_iff.mpr (?_ : G (1662, [(3, .inl (.int i)), (2, .inl (.ref 49)), (1, .inl (.ref 0)), (0, .inl (.ref 10000000))], [], h6, nc + 0, ns + 0)))
    exact nxt T6 h6 _ _ 0 0 (wOK_up ok6 (by omega)) (Or.inl ⟨by decide, by decide, rfl⟩)
  have fA6 : v = false → ∀ (y6 : Int32) (T6 : List Nat) (h6 : zH), tExt T3 T6 → wOK (zPhi (t, t, none, true)) (h.length + 63) T6 h6 → G (1027, [(3, .inl (.int i)), (2, .inl (.ref 49)), (1, .inl (.ref 0)), (0, .inl (.ref 10000000))], [.inl (.int y6)], h6, nc + 63, ns + 15934) := by
    intro hv0 y6 T6 h6 m6 ok6
    refine zrn_ok HW 2 (zB_iff.mpr (?_ : G (1662, [(3, .inl (.int i)), (2, .inl (.ref 49)), (1, .inl (.ref 0)), (0, .inl (.ref 10000000))], [], h6, nc + 63, ns + 15934)))
    exact nxt T6 h6 _ true 63 15934 (wOK_up ok6 (by omega)) (Or.inr ⟨hv0, rfl, by decide, by decide⟩)
  by_cases hvn : v = true ∨ ¬ (0 ≤ x5.toInt ∧ x5.toInt < hi h3 49 23)
  · refine g_callV (E' := ze_X5_tillN) HWN rfl rfl (Nat.le_of_ble_eq_true rfl) (by show nc + 0 ≤ room_1.cells; omega) (by show ns + 0 ≤ room_1.slots; omega) ok3.1 rfl hq_49 rfl (Nat.le_of_ble_eq_true rfl) (by obtain ⟨D2, rfl⟩ : ∃ D2, D = D2 + 133 := ⟨D - 133, by omega⟩; exact c_tillN (tBel_le (IHP _) (by decide)) ok3 hvn (fun y6 T6 h6 m6 ok6 => zB_iff.mpr (fN6 y6 T6 h6 m6 ok6)))
  · have hv0 : v = false := by cases v; rfl; exact absurd (Or.inl rfl) hvn
    have nd : 0 ≤ x5.toInt ∧ x5.toInt < hi h3 49 23 := Classical.byContradiction (fun hn => hvn (Or.inr hn))
    refine g_callV (E' := ze_X5_till) HW rfl rfl (Nat.le_of_ble_eq_true rfl) (by show nc + 63 ≤ room_1.cells; omega) (by show ns + 15934 ≤ room_1.slots; omega) ok3.1 rfl hq_49 rfl (Nat.le_of_ble_eq_true rfl) (by obtain ⟨D2, rfl⟩ : ∃ D2, D = D2 + 133 := ⟨D - 133, by omega⟩; exact c_till (N := h.length + 63) (tBel_le (IHP _) (by decide)) (wOK_up ok3 (Nat.le_add_right _ _)) (by have := ok3.2.2; omega) (by omega) nd (fun y6 T6 h6 m6 ok6 => zB_iff.mpr (fA6 hv0 y6 T6 h6 m6 ok6)))

theorem lw_case25 {scr : List zV} {post : Option zV → zH → Bool} {G : zS → Prop} {D : Nat} {T : List Nat} {h : zH} {nc ns : Nat} {i : Int32} {t : Int} {v : Bool} (HW : zWalk zprog ze_L_law scr room_1.cells room_1.slots (zD zprog scr D) post G) (HWN : zWalk zprog ze_L_lawN scr room_1.cells room_1.slots (zD zprog scr D) post G) (hD : 300 ≤ D) (IHP : ∀ P : pP, tBel (zPhi P) scr 300) (hscr : ∀ j : Nat, (j : Int) < i.toInt + 6 → ∃ x : Int32, scr[j]? = some (.inl (.int x))) (hi0 : 0 ≤ i.toInt ∧ i.toInt ≤ 100000) (ok : wOK (zPhi (t, t, none, v)) h.length T h) (hl : h.length + 4000 ≤ 1000000) (hc : nc + 4000 ≤ room_1.cells) (hs : ns + 980000 ≤ room_1.slots)
    (HP : ∀ (x : Int64) (pc : Nat), (pc = 449 ∨ pc = 464) → ∀ (h : zH) (nc ns : Nat), G (pc + 1, [(3, .inl (.int i)), (2, .inl (.ref 49)), (1, .inl (.ref 0)), (0, .inl (.ref 10000000))], [], h, nc, ns) → G (pc, [(3, .inl (.int i)), (2, .inl (.ref 49)), (1, .inl (.ref 0)), (0, .inl (.ref 10000000))], [.inl (.long x)], h, nc, ns))
    (nxt : ∀ (T' : List Nat) (h' : zH) (t' : Int) (v' : Bool) (dc ds : Nat), wOK (zPhi (t', t', none, v')) (h.length + dc) T' h' → ((dc ≤ 30 ∧ ds ≤ 3328 ∧ v' = v) ∨ (v = false ∧ v' = true ∧ dc ≤ 3843 ∧ ds ≤ 971974)) → G (1662, [(3, .inl (.int i)), (2, .inl (.ref 49)), (1, .inl (.ref 0)), (0, .inl (.ref 10000000))], [], h', nc + dc, ns + ds)) : G (1031, [(3, .inl (.int i)), (2, .inl (.ref 49)), (1, .inl (.ref 0)), (0, .inl (.ref 10000000))], [], h, nc, ns) := by
  have hq_0 : T[0]? = some 4 := ok.2.1.1.1
  have hq_49 : T[49]? = some 5 := ok.2.1.1.2.2.1
  have y1 : -2147483648 ≤ i.toInt + (1 : Int) → i.toInt + (1 : Int) ≤ 2147483647 → (i + (1 : Int32)).toInt = i.toInt + (1 : Int) := t_addC (x := i) (y := (1 : Int32))
  refine zrn_ok HW 5 (zB_iff.mpr (?_ : G (1036, [(3, .inl (.int i)), (2, .inl (.ref 49)), (1, .inl (.ref 0)), (0, .inl (.ref 10000000))], [.inl (.int (i + (1 : Int32))), .inl (.ref 10000000), .inl (.ref 0)], h, nc, ns)))
  obtain ⟨x2, s2⟩ := hscr ((i + (1 : Int32))).toInt.toNat (by omega)
  refine g_scr HW rfl (by omega) s2 ?_
  refine g_tVa (e := te_X4_atOnce_0) (E' := ze_X4_atOnce) (c := 0) (s := 0) HW (tLow_of (IHP _) hD) rfl rfl (show te_X4_atOnce_0 ∈ [te_X4_atOnce_0] from List.mem_cons_self) (by decide +kernel) (Nat.le_of_ble_eq_true rfl) rfl rfl (by omega) (by omega) ok.1 ok.2.1 (by have := ok.2.2; omega) rfl hq_0 rfl (Nat.le_of_ble_eq_true rfl) ⟨⟨_, rfl, hq_0⟩, okA_If _, trivial⟩ (fun v3 T3 h3 m3 k3 f3 lh3 r3 => ?_)
  obtain ⟨w3, rfl, hw3, cd3⟩ := r3
  obtain ⟨x3, rfl, l3, u3⟩ := tint_sp rfl hw3
  have ok3 : wOK (zPhi (t, t, none, v)) h.length T3 h3 := ⟨k3, f3, Nat.le_trans lh3 ok.2.2⟩
  have hq_0 := m3 _ _ hq_0
  have hq_49 := m3 _ _ hq_49
  show G (1040, [(3, .inl (.int i)), (2, .inl (.ref 49)), (1, .inl (.ref 0)), (0, .inl (.ref 10000000))], [.inl (.int x3)], h3, nc, ns)
  have y4 : -2147483648 ≤ i.toInt + (1 : Int) → i.toInt + (1 : Int) ≤ 2147483647 → (i + (1 : Int32)).toInt = i.toInt + (1 : Int) := t_addC (x := i) (y := (1 : Int32))
  refine zrn_ok HW 6 (zB_iff.mpr (?_ : G (1046, [(3, .inl (.int i)), (2, .inl (.ref 49)), (1, .inl (.ref 0)), (0, .inl (.ref 10000000))], [.inl (.int (i + (1 : Int32))), .inl (.ref 10000000), .inl (.ref 49)], h3, nc, ns)))
  obtain ⟨x5, s5⟩ := hscr ((i + (1 : Int32))).toInt.toNat (by omega)
  refine g_scr HW rfl (by omega) s5 ?_
  have fN6 : ∀ (y6 : Int32) (T6 : List Nat) (h6 : zH), tExt T3 T6 → wOK (zPhi (t, t, none, v)) h.length T6 h6 → G (1050, [(3, .inl (.int i)), (2, .inl (.ref 49)), (1, .inl (.ref 0)), (0, .inl (.ref 10000000))], [.inl (.int y6)], h6, nc + 0, ns + 0) := by
    intro y6 T6 h6 m6 ok6
    refine zrn_ok HW 2 (zB_iff.mpr (?_ : G (1662, [(3, .inl (.int i)), (2, .inl (.ref 49)), (1, .inl (.ref 0)), (0, .inl (.ref 10000000))], [], h6, nc + 0, ns + 0)))
    exact nxt T6 h6 _ _ 0 0 (wOK_up ok6 (by omega)) (Or.inl ⟨by decide, by decide, rfl⟩)
  have fA6 : v = false → ∀ (y6 : Int32) (T6 : List Nat) (h6 : zH), tExt T3 T6 → wOK (zPhi (t, t, none, true)) (h.length + 63) T6 h6 → G (1050, [(3, .inl (.int i)), (2, .inl (.ref 49)), (1, .inl (.ref 0)), (0, .inl (.ref 10000000))], [.inl (.int y6)], h6, nc + 63, ns + 15934) := by
    intro hv0 y6 T6 h6 m6 ok6
    refine zrn_ok HW 2 (zB_iff.mpr (?_ : G (1662, [(3, .inl (.int i)), (2, .inl (.ref 49)), (1, .inl (.ref 0)), (0, .inl (.ref 10000000))], [], h6, nc + 63, ns + 15934)))
    exact nxt T6 h6 _ true 63 15934 (wOK_up ok6 (by omega)) (Or.inr ⟨hv0, rfl, by decide, by decide⟩)
  by_cases hvn : v = true ∨ ¬ (0 ≤ x5.toInt ∧ x5.toInt < hi h3 49 23)
  · refine g_callV (E' := ze_X5_atOnceN) HWN rfl rfl (Nat.le_of_ble_eq_true rfl) (by show nc + 0 ≤ room_1.cells; omega) (by show ns + 0 ≤ room_1.slots; omega) ok3.1 rfl hq_49 rfl (Nat.le_of_ble_eq_true rfl) (by obtain ⟨D2, rfl⟩ : ∃ D2, D = D2 + 133 := ⟨D - 133, by omega⟩; exact c_atOnceN (tBel_le (IHP _) (by decide)) ok3 hvn (fun y6 T6 h6 m6 ok6 => zB_iff.mpr (fN6 y6 T6 h6 m6 ok6)))
  · have hv0 : v = false := by cases v; rfl; exact absurd (Or.inl rfl) hvn
    have nd : 0 ≤ x5.toInt ∧ x5.toInt < hi h3 49 23 := Classical.byContradiction (fun hn => hvn (Or.inr hn))
    refine g_callV (E' := ze_X5_atOnce) HW rfl rfl (Nat.le_of_ble_eq_true rfl) (by show nc + 63 ≤ room_1.cells; omega) (by show ns + 15934 ≤ room_1.slots; omega) ok3.1 rfl hq_49 rfl (Nat.le_of_ble_eq_true rfl) (by obtain ⟨D2, rfl⟩ : ∃ D2, D = D2 + 133 := ⟨D - 133, by omega⟩; exact c_atOnce (N := h.length + 63) (tBel_le (IHP _) (by decide)) (wOK_up ok3 (Nat.le_add_right _ _)) (by have := ok3.2.2; omega) (by omega) nd (fun y6 T6 h6 m6 ok6 => zB_iff.mpr (fA6 hv0 y6 T6 h6 m6 ok6)))
