theorem lw_case0 {scr : List zV} {post : Option zV → zH → Bool} {G : zS → Prop} {D : Nat} {T : List Nat} {h : zH} {nc ns : Nat} {i : Int32} {t : Int} {v : Bool} (HW : zWalk zprog ze_L_law scr room_1.cells room_1.slots (zD zprog scr D) post G) (HWN : zWalk zprog ze_L_lawN scr room_1.cells room_1.slots (zD zprog scr D) post G) (hD : 300 ≤ D) (IHP : ∀ P : pP, tBel (zPhi P) scr 300) (hscr : ∀ j : Nat, (j : Int) < i.toInt + 6 → ∃ x : Int32, scr[j]? = some (.inl (.int x))) (hi0 : 0 ≤ i.toInt ∧ i.toInt ≤ 100000) (ok : wOK (zPhi (t, t, none, v)) h.length T h) (hl : h.length + 4000 ≤ 1000000) (hc : nc + 4000 ≤ room_1.cells) (hs : ns + 980000 ≤ room_1.slots)
    (HP : ∀ (x : Int64) (pc : Nat), (pc = 449 ∨ pc = 464) → ∀ (h : zH) (nc ns : Nat), G (pc + 1, [(3, .inl (.int i)), (2, .inl (.ref 49)), (1, .inl (.ref 0)), (0, .inl (.ref 10000000))], [], h, nc, ns) → G (pc, [(3, .inl (.int i)), (2, .inl (.ref 49)), (1, .inl (.ref 0)), (0, .inl (.ref 10000000))], [.inl (.long x)], h, nc, ns))
    (nxt : ∀ (T' : List Nat) (h' : zH) (t' : Int) (v' : Bool) (dc ds : Nat), wOK (zPhi (t', t', none, v')) (h.length + dc) T' h' → ((dc ≤ 30 ∧ ds ≤ 3328 ∧ v' = v) ∨ (v = false ∧ v' = true ∧ dc ≤ 3843 ∧ ds ≤ 971974)) → G (1662, [(3, .inl (.int i)), (2, .inl (.ref 49)), (1, .inl (.ref 0)), (0, .inl (.ref 10000000))], [], h', nc + dc, ns + ds)) : G (256, [(3, .inl (.int i)), (2, .inl (.ref 49)), (1, .inl (.ref 0)), (0, .inl (.ref 10000000))], [], h, nc, ns) := by
  have hq_0 : T[0]? = some 4 := ok.2.1.1.1
  have hq_49 : T[49]? = some 5 := ok.2.1.1.2.2.1
  have y1 : -2147483648 ≤ i.toInt + (1 : Int) → i.toInt + (1 : Int) ≤ 2147483647 → (i + (1 : Int32)).toInt = i.toInt + (1 : Int) := t_addC (x := i) (y := (1 : Int32))
  refine zrn_ok HW 5 (zB_iff.mpr (?_ : G (261, [(3, .inl (.int i)), (2, .inl (.ref 49)), (1, .inl (.ref 0)), (0, .inl (.ref 10000000))], [.inl (.int (i + (1 : Int32))), .inl (.ref 10000000), .inl (.ref 0)], h, nc, ns)))
  obtain ⟨x2, s2⟩ := hscr ((i + (1 : Int32))).toInt.toNat (by omega)
  refine g_scr HW rfl (by omega) s2 ?_
  have y3 : -2147483648 ≤ i.toInt + (2 : Int) → i.toInt + (2 : Int) ≤ 2147483647 → (i + (2 : Int32)).toInt = i.toInt + (2 : Int) := t_addC (x := i) (y := (2 : Int32))
  refine zrn_ok HW 4 (zB_iff.mpr (?_ : G (266, [(3, .inl (.int i)), (2, .inl (.ref 49)), (1, .inl (.ref 0)), (0, .inl (.ref 10000000))], [.inl (.int (i + (2 : Int32))), .inl (.ref 10000000), .inl (.int x2), .inl (.ref 0)], h, nc, ns)))
  obtain ⟨x4, s4⟩ := hscr ((i + (2 : Int32))).toInt.toNat (by omega)
  refine g_scr HW rfl (by omega) s4 ?_
  have y5 : -2147483648 ≤ i.toInt + (3 : Int) → i.toInt + (3 : Int) ≤ 2147483647 → (i + (3 : Int32)).toInt = i.toInt + (3 : Int) := t_addC (x := i) (y := (3 : Int32))
  refine zrn_ok HW 4 (zB_iff.mpr (?_ : G (271, [(3, .inl (.int i)), (2, .inl (.ref 49)), (1, .inl (.ref 0)), (0, .inl (.ref 10000000))], [.inl (.int (i + (3 : Int32))), .inl (.ref 10000000), .inl (.int x4), .inl (.int x2), .inl (.ref 0)], h, nc, ns)))
  obtain ⟨x6, s6⟩ := hscr ((i + (3 : Int32))).toInt.toNat (by omega)
  refine g_scr HW rfl (by omega) s6 ?_
  refine g_tVa (e := te_X4_row_0) (E' := ze_X4_row) (c := 0) (s := 0) HW (tLow_of (IHP _) hD) rfl rfl (show te_X4_row_0 ∈ [te_X4_row_0] from List.mem_cons_self) (by decide +kernel) (Nat.le_of_ble_eq_true rfl) rfl rfl (by omega) (by omega) ok.1 ok.2.1 (by have := ok.2.2; omega) rfl hq_0 rfl (Nat.le_of_ble_eq_true rfl) ⟨⟨_, rfl, hq_0⟩, okA_If _, okA_If _, okA_If _, trivial⟩ (fun v7 T7 h7 m7 k7 f7 lh7 r7 => ?_)
  obtain ⟨w7, rfl, hw7, cd7⟩ := r7
  obtain ⟨x7, rfl, l7, u7⟩ := tint_sp rfl hw7
  have ok7 : wOK (zPhi (t, t, none, v)) h.length T7 h7 := ⟨k7, f7, Nat.le_trans lh7 ok.2.2⟩
  have hq_0 := m7 _ _ hq_0
  have hq_49 := m7 _ _ hq_49
  show G (275, [(3, .inl (.int i)), (2, .inl (.ref 49)), (1, .inl (.ref 0)), (0, .inl (.ref 10000000))], [.inl (.int x7)], h7, nc, ns)
  have y8 : -2147483648 ≤ i.toInt + (1 : Int) → i.toInt + (1 : Int) ≤ 2147483647 → (i + (1 : Int32)).toInt = i.toInt + (1 : Int) := t_addC (x := i) (y := (1 : Int32))
  refine zrn_ok HW 6 (zB_iff.mpr (?_ : G (281, [(3, .inl (.int i)), (2, .inl (.ref 49)), (1, .inl (.ref 0)), (0, .inl (.ref 10000000))], [.inl (.int (i + (1 : Int32))), .inl (.ref 10000000), .inl (.ref 49)], h7, nc, ns)))
  obtain ⟨x9, s9⟩ := hscr ((i + (1 : Int32))).toInt.toNat (by omega)
  refine g_scr HW rfl (by omega) s9 ?_
  have y10 : -2147483648 ≤ i.toInt + (2 : Int) → i.toInt + (2 : Int) ≤ 2147483647 → (i + (2 : Int32)).toInt = i.toInt + (2 : Int) := t_addC (x := i) (y := (2 : Int32))
  refine zrn_ok HW 4 (zB_iff.mpr (?_ : G (286, [(3, .inl (.int i)), (2, .inl (.ref 49)), (1, .inl (.ref 0)), (0, .inl (.ref 10000000))], [.inl (.int (i + (2 : Int32))), .inl (.ref 10000000), .inl (.int x9), .inl (.ref 49)], h7, nc, ns)))
  obtain ⟨x11, s11⟩ := hscr ((i + (2 : Int32))).toInt.toNat (by omega)
  refine g_scr HW rfl (by omega) s11 ?_
  have y12 : -2147483648 ≤ i.toInt + (3 : Int) → i.toInt + (3 : Int) ≤ 2147483647 → (i + (3 : Int32)).toInt = i.toInt + (3 : Int) := t_addC (x := i) (y := (3 : Int32))
  refine zrn_ok HW 4 (zB_iff.mpr (?_ : G (291, [(3, .inl (.int i)), (2, .inl (.ref 49)), (1, .inl (.ref 0)), (0, .inl (.ref 10000000))], [.inl (.int (i + (3 : Int32))), .inl (.ref 10000000), .inl (.int x11), .inl (.int x9), .inl (.ref 49)], h7, nc, ns)))
  obtain ⟨x13, s13⟩ := hscr ((i + (3 : Int32))).toInt.toNat (by omega)
  refine g_scr HW rfl (by omega) s13 ?_
  refine g_tVa (e := te_X5_row_0) (E' := ze_X5_row) (c := 0) (s := 0) HW (tLow_of (IHP _) hD) rfl rfl (show te_X5_row_0 ∈ [te_X5_row_0] from List.mem_cons_self) (by decide +kernel) (Nat.le_of_ble_eq_true rfl) rfl rfl (by omega) (by omega) ok7.1 ok7.2.1 (by have := ok7.2.2; omega) rfl hq_49 rfl (Nat.le_of_ble_eq_true rfl) ⟨⟨_, rfl, hq_49⟩, okA_If _, okA_If _, okA_If _, trivial⟩ (fun v14 T14 h14 m14 k14 f14 lh14 r14 => ?_)
  obtain ⟨w14, rfl, hw14, cd14⟩ := r14
  obtain ⟨x14, rfl, l14, u14⟩ := tint_sp rfl hw14
  have ok14 : wOK (zPhi (t, t, none, v)) h.length T14 h14 := ⟨k14, f14, Nat.le_trans lh14 ok7.2.2⟩
  have hq_0 := m14 _ _ hq_0
  have hq_49 := m14 _ _ hq_49
  show G (295, [(3, .inl (.int i)), (2, .inl (.ref 49)), (1, .inl (.ref 0)), (0, .inl (.ref 10000000))], [.inl (.int x14)], h14, nc, ns)
  refine zrn_ok HW 2 (zB_iff.mpr (?_ : G (1662, [(3, .inl (.int i)), (2, .inl (.ref 49)), (1, .inl (.ref 0)), (0, .inl (.ref 10000000))], [], h14, nc, ns)))
  exact nxt T14 h14 _ _ 0 0 (wOK_up ok14 (by omega)) (Or.inl ⟨by decide, by decide, rfl⟩)

theorem lw_case1 {scr : List zV} {post : Option zV → zH → Bool} {G : zS → Prop} {D : Nat} {T : List Nat} {h : zH} {nc ns : Nat} {i : Int32} {t : Int} {v : Bool} (HW : zWalk zprog ze_L_law scr room_1.cells room_1.slots (zD zprog scr D) post G) (HWN : zWalk zprog ze_L_lawN scr room_1.cells room_1.slots (zD zprog scr D) post G) (hD : 300 ≤ D) (IHP : ∀ P : pP, tBel (zPhi P) scr 300) (hscr : ∀ j : Nat, (j : Int) < i.toInt + 6 → ∃ x : Int32, scr[j]? = some (.inl (.int x))) (hi0 : 0 ≤ i.toInt ∧ i.toInt ≤ 100000) (ok : wOK (zPhi (t, t, none, v)) h.length T h) (hl : h.length + 4000 ≤ 1000000) (hc : nc + 4000 ≤ room_1.cells) (hs : ns + 980000 ≤ room_1.slots)
    (HP : ∀ (x : Int64) (pc : Nat), (pc = 449 ∨ pc = 464) → ∀ (h : zH) (nc ns : Nat), G (pc + 1, [(3, .inl (.int i)), (2, .inl (.ref 49)), (1, .inl (.ref 0)), (0, .inl (.ref 10000000))], [], h, nc, ns) → G (pc, [(3, .inl (.int i)), (2, .inl (.ref 49)), (1, .inl (.ref 0)), (0, .inl (.ref 10000000))], [.inl (.long x)], h, nc, ns))
    (nxt : ∀ (T' : List Nat) (h' : zH) (t' : Int) (v' : Bool) (dc ds : Nat), wOK (zPhi (t', t', none, v')) (h.length + dc) T' h' → ((dc ≤ 30 ∧ ds ≤ 3328 ∧ v' = v) ∨ (v = false ∧ v' = true ∧ dc ≤ 3843 ∧ ds ≤ 971974)) → G (1662, [(3, .inl (.int i)), (2, .inl (.ref 49)), (1, .inl (.ref 0)), (0, .inl (.ref 10000000))], [], h', nc + dc, ns + ds)) : G (299, [(3, .inl (.int i)), (2, .inl (.ref 49)), (1, .inl (.ref 0)), (0, .inl (.ref 10000000))], [], h, nc, ns) := by
  have hq_0 : T[0]? = some 4 := ok.2.1.1.1
  have hq_49 : T[49]? = some 5 := ok.2.1.1.2.2.1
  have y1 : -2147483648 ≤ i.toInt + (1 : Int) → i.toInt + (1 : Int) ≤ 2147483647 → (i + (1 : Int32)).toInt = i.toInt + (1 : Int) := t_addC (x := i) (y := (1 : Int32))
  refine zrn_ok HW 5 (zB_iff.mpr (?_ : G (304, [(3, .inl (.int i)), (2, .inl (.ref 49)), (1, .inl (.ref 0)), (0, .inl (.ref 10000000))], [.inl (.int (i + (1 : Int32))), .inl (.ref 10000000), .inl (.ref 0)], h, nc, ns)))
  obtain ⟨x2, s2⟩ := hscr ((i + (1 : Int32))).toInt.toNat (by omega)
  refine g_scr HW rfl (by omega) s2 ?_
  have y3 : -2147483648 ≤ i.toInt + (2 : Int) → i.toInt + (2 : Int) ≤ 2147483647 → (i + (2 : Int32)).toInt = i.toInt + (2 : Int) := t_addC (x := i) (y := (2 : Int32))
  refine zrn_ok HW 4 (zB_iff.mpr (?_ : G (309, [(3, .inl (.int i)), (2, .inl (.ref 49)), (1, .inl (.ref 0)), (0, .inl (.ref 10000000))], [.inl (.int (i + (2 : Int32))), .inl (.ref 10000000), .inl (.int x2), .inl (.ref 0)], h, nc, ns)))
  obtain ⟨x4, s4⟩ := hscr ((i + (2 : Int32))).toInt.toNat (by omega)
  refine g_scr HW rfl (by omega) s4 ?_
  have y5 : -2147483648 ≤ i.toInt + (3 : Int) → i.toInt + (3 : Int) ≤ 2147483647 → (i + (3 : Int32)).toInt = i.toInt + (3 : Int) := t_addC (x := i) (y := (3 : Int32))
  refine zrn_ok HW 4 (zB_iff.mpr (?_ : G (314, [(3, .inl (.int i)), (2, .inl (.ref 49)), (1, .inl (.ref 0)), (0, .inl (.ref 10000000))], [.inl (.int (i + (3 : Int32))), .inl (.ref 10000000), .inl (.int x4), .inl (.int x2), .inl (.ref 0)], h, nc, ns)))
  obtain ⟨x6, s6⟩ := hscr ((i + (3 : Int32))).toInt.toNat (by omega)
  refine g_scr HW rfl (by omega) s6 ?_
  have y7 : -2147483648 ≤ i.toInt + (4 : Int) → i.toInt + (4 : Int) ≤ 2147483647 → (i + (4 : Int32)).toInt = i.toInt + (4 : Int) := t_addC (x := i) (y := (4 : Int32))
  refine zrn_ok HW 7 (zB_iff.mpr (?_ : G (323, [(3, .inl (.int i)), (2, .inl (.ref 49)), (1, .inl (.ref 0)), (0, .inl (.ref 10000000))], [.inl (.int (i + (4 : Int32))), .inl (.ref 10000000), .inl (.long ((Int32.toInt64 x6) <<< (Int32.toInt64 (32 : Int32) &&& 63))), .inl (.int x4), .inl (.int x2), .inl (.ref 0)], h, nc, ns)))
  obtain ⟨x8, s8⟩ := hscr ((i + (4 : Int32))).toInt.toNat (by omega)
  refine g_scr HW rfl (by omega) s8 ?_
  refine zrn_ok HW 4 (zB_iff.mpr (?_ : G (330, [(3, .inl (.int i)), (2, .inl (.ref 49)), (1, .inl (.ref 0)), (0, .inl (.ref 10000000))], [.inl (.long (((Int32.toInt64 x6) <<< (Int32.toInt64 (32 : Int32) &&& 63)) ||| ((Int32.toInt64 x8) &&& (4294967295 : Int64)))), .inl (.int x4), .inl (.int x2), .inl (.ref 0)], h, nc, ns)))
  refine g_tVa (e := te_X4_set_0) (E' := ze_X4_set) (c := 0) (s := 0) HW (tLow_of (IHP _) hD) rfl rfl (show te_X4_set_0 ∈ [te_X4_set_0] from List.mem_cons_self) (by decide +kernel) (Nat.le_of_ble_eq_true rfl) rfl rfl (by omega) (by omega) ok.1 ok.2.1 (by have := ok.2.2; omega) rfl hq_0 rfl (Nat.le_of_ble_eq_true rfl) ⟨⟨_, rfl, hq_0⟩, okA_If _, okA_If _, okA_Lf _, trivial⟩ (fun v9 T9 h9 m9 k9 f9 lh9 r9 => ?_)
  obtain ⟨w9, rfl, hw9, cd9⟩ := r9
  obtain ⟨x9, rfl, l9, u9⟩ := tint_sp rfl hw9
  have ok9 : wOK (zPhi (t, t, none, v)) h.length T9 h9 := ⟨k9, f9, Nat.le_trans lh9 ok.2.2⟩
  have hq_0 := m9 _ _ hq_0
  have hq_49 := m9 _ _ hq_49
  show G (333, [(3, .inl (.int i)), (2, .inl (.ref 49)), (1, .inl (.ref 0)), (0, .inl (.ref 10000000))], [.inl (.int x9)], h9, nc, ns)
  have y10 : -2147483648 ≤ i.toInt + (1 : Int) → i.toInt + (1 : Int) ≤ 2147483647 → (i + (1 : Int32)).toInt = i.toInt + (1 : Int) := t_addC (x := i) (y := (1 : Int32))
  refine zrn_ok HW 6 (zB_iff.mpr (?_ : G (339, [(3, .inl (.int i)), (2, .inl (.ref 49)), (1, .inl (.ref 0)), (0, .inl (.ref 10000000))], [.inl (.int (i + (1 : Int32))), .inl (.ref 10000000), .inl (.ref 49)], h9, nc, ns)))
  obtain ⟨x11, s11⟩ := hscr ((i + (1 : Int32))).toInt.toNat (by omega)
  refine g_scr HW rfl (by omega) s11 ?_
  have y12 : -2147483648 ≤ i.toInt + (2 : Int) → i.toInt + (2 : Int) ≤ 2147483647 → (i + (2 : Int32)).toInt = i.toInt + (2 : Int) := t_addC (x := i) (y := (2 : Int32))
  refine zrn_ok HW 4 (zB_iff.mpr (?_ : G (344, [(3, .inl (.int i)), (2, .inl (.ref 49)), (1, .inl (.ref 0)), (0, .inl (.ref 10000000))], [.inl (.int (i + (2 : Int32))), .inl (.ref 10000000), .inl (.int x11), .inl (.ref 49)], h9, nc, ns)))
  obtain ⟨x13, s13⟩ := hscr ((i + (2 : Int32))).toInt.toNat (by omega)
  refine g_scr HW rfl (by omega) s13 ?_
  have y14 : -2147483648 ≤ i.toInt + (3 : Int) → i.toInt + (3 : Int) ≤ 2147483647 → (i + (3 : Int32)).toInt = i.toInt + (3 : Int) := t_addC (x := i) (y := (3 : Int32))
  refine zrn_ok HW 4 (zB_iff.mpr (?_ : G (349, [(3, .inl (.int i)), (2, .inl (.ref 49)), (1, .inl (.ref 0)), (0, .inl (.ref 10000000))], [.inl (.int (i + (3 : Int32))), .inl (.ref 10000000), .inl (.int x13), .inl (.int x11), .inl (.ref 49)], h9, nc, ns)))
  obtain ⟨x15, s15⟩ := hscr ((i + (3 : Int32))).toInt.toNat (by omega)
  refine g_scr HW rfl (by omega) s15 ?_
  have y16 : -2147483648 ≤ i.toInt + (4 : Int) → i.toInt + (4 : Int) ≤ 2147483647 → (i + (4 : Int32)).toInt = i.toInt + (4 : Int) := t_addC (x := i) (y := (4 : Int32))
  refine zrn_ok HW 7 (zB_iff.mpr (?_ : G (358, [(3, .inl (.int i)), (2, .inl (.ref 49)), (1, .inl (.ref 0)), (0, .inl (.ref 10000000))], [.inl (.int (i + (4 : Int32))), .inl (.ref 10000000), .inl (.long ((Int32.toInt64 x15) <<< (Int32.toInt64 (32 : Int32) &&& 63))), .inl (.int x13), .inl (.int x11), .inl (.ref 49)], h9, nc, ns)))
  obtain ⟨x17, s17⟩ := hscr ((i + (4 : Int32))).toInt.toNat (by omega)
  refine g_scr HW rfl (by omega) s17 ?_
  refine zrn_ok HW 4 (zB_iff.mpr (?_ : G (365, [(3, .inl (.int i)), (2, .inl (.ref 49)), (1, .inl (.ref 0)), (0, .inl (.ref 10000000))], [.inl (.long (((Int32.toInt64 x15) <<< (Int32.toInt64 (32 : Int32) &&& 63)) ||| ((Int32.toInt64 x17) &&& (4294967295 : Int64)))), .inl (.int x13), .inl (.int x11), .inl (.ref 49)], h9, nc, ns)))
  refine g_tVa (e := te_X5_set_0) (E' := ze_X5_set) (c := 0) (s := 0) HW (tLow_of (IHP _) hD) rfl rfl (show te_X5_set_0 ∈ [te_X5_set_0] from List.mem_cons_self) (by decide +kernel) (Nat.le_of_ble_eq_true rfl) rfl rfl (by omega) (by omega) ok9.1 ok9.2.1 (by have := ok9.2.2; omega) rfl hq_49 rfl (Nat.le_of_ble_eq_true rfl) ⟨⟨_, rfl, hq_49⟩, okA_If _, okA_If _, okA_Lf _, trivial⟩ (fun v18 T18 h18 m18 k18 f18 lh18 r18 => ?_)
  obtain ⟨w18, rfl, hw18, cd18⟩ := r18
  obtain ⟨x18, rfl, l18, u18⟩ := tint_sp rfl hw18
  have ok18 : wOK (zPhi (t, t, none, v)) h.length T18 h18 := ⟨k18, f18, Nat.le_trans lh18 ok9.2.2⟩
  have hq_0 := m18 _ _ hq_0
  have hq_49 := m18 _ _ hq_49
  show G (368, [(3, .inl (.int i)), (2, .inl (.ref 49)), (1, .inl (.ref 0)), (0, .inl (.ref 10000000))], [.inl (.int x18)], h18, nc, ns)
  refine zrn_ok HW 2 (zB_iff.mpr (?_ : G (1662, [(3, .inl (.int i)), (2, .inl (.ref 49)), (1, .inl (.ref 0)), (0, .inl (.ref 10000000))], [], h18, nc, ns)))
  exact nxt T18 h18 _ _ 0 0 (wOK_up ok18 (by omega)) (Or.inl ⟨by decide, by decide, rfl⟩)

theorem lw_case2 {scr : List zV} {post : Option zV → zH → Bool} {G : zS → Prop} {D : Nat} {T : List Nat} {h : zH} {nc ns : Nat} {i : Int32} {t : Int} {v : Bool} (HW : zWalk zprog ze_L_law scr room_1.cells room_1.slots (zD zprog scr D) post G) (HWN : zWalk zprog ze_L_lawN scr room_1.cells room_1.slots (zD zprog scr D) post G) (hD : 300 ≤ D) (IHP : ∀ P : pP, tBel (zPhi P) scr 300) (hscr : ∀ j : Nat, (j : Int) < i.toInt + 6 → ∃ x : Int32, scr[j]? = some (.inl (.int x))) (hi0 : 0 ≤ i.toInt ∧ i.toInt ≤ 100000) (ok : wOK (zPhi (t, t, none, v)) h.length T h) (hl : h.length + 4000 ≤ 1000000) (hc : nc + 4000 ≤ room_1.cells) (hs : ns + 980000 ≤ room_1.slots)
    (HP : ∀ (x : Int64) (pc : Nat), (pc = 449 ∨ pc = 464) → ∀ (h : zH) (nc ns : Nat), G (pc + 1, [(3, .inl (.int i)), (2, .inl (.ref 49)), (1, .inl (.ref 0)), (0, .inl (.ref 10000000))], [], h, nc, ns) → G (pc, [(3, .inl (.int i)), (2, .inl (.ref 49)), (1, .inl (.ref 0)), (0, .inl (.ref 10000000))], [.inl (.long x)], h, nc, ns))
    (nxt : ∀ (T' : List Nat) (h' : zH) (t' : Int) (v' : Bool) (dc ds : Nat), wOK (zPhi (t', t', none, v')) (h.length + dc) T' h' → ((dc ≤ 30 ∧ ds ≤ 3328 ∧ v' = v) ∨ (v = false ∧ v' = true ∧ dc ≤ 3843 ∧ ds ≤ 971974)) → G (1662, [(3, .inl (.int i)), (2, .inl (.ref 49)), (1, .inl (.ref 0)), (0, .inl (.ref 10000000))], [], h', nc + dc, ns + ds)) : G (372, [(3, .inl (.int i)), (2, .inl (.ref 49)), (1, .inl (.ref 0)), (0, .inl (.ref 10000000))], [], h, nc, ns) := by
  have hq_0 : T[0]? = some 4 := ok.2.1.1.1
  have hq_49 : T[49]? = some 5 := ok.2.1.1.2.2.1
  have y1 : -2147483648 ≤ i.toInt + (1 : Int) → i.toInt + (1 : Int) ≤ 2147483647 → (i + (1 : Int32)).toInt = i.toInt + (1 : Int) := t_addC (x := i) (y := (1 : Int32))
  refine zrn_ok HW 5 (zB_iff.mpr (?_ : G (377, [(3, .inl (.int i)), (2, .inl (.ref 49)), (1, .inl (.ref 0)), (0, .inl (.ref 10000000))], [.inl (.int (i + (1 : Int32))), .inl (.ref 10000000), .inl (.ref 0)], h, nc, ns)))
  obtain ⟨x2, s2⟩ := hscr ((i + (1 : Int32))).toInt.toNat (by omega)
  refine g_scr HW rfl (by omega) s2 ?_
  have y3 : -2147483648 ≤ i.toInt + (2 : Int) → i.toInt + (2 : Int) ≤ 2147483647 → (i + (2 : Int32)).toInt = i.toInt + (2 : Int) := t_addC (x := i) (y := (2 : Int32))
  refine zrn_ok HW 4 (zB_iff.mpr (?_ : G (382, [(3, .inl (.int i)), (2, .inl (.ref 49)), (1, .inl (.ref 0)), (0, .inl (.ref 10000000))], [.inl (.int (i + (2 : Int32))), .inl (.ref 10000000), .inl (.int x2), .inl (.ref 0)], h, nc, ns)))
  obtain ⟨x4, s4⟩ := hscr ((i + (2 : Int32))).toInt.toNat (by omega)
  refine g_scr HW rfl (by omega) s4 ?_
  have y5 : -2147483648 ≤ i.toInt + (3 : Int) → i.toInt + (3 : Int) ≤ 2147483647 → (i + (3 : Int32)).toInt = i.toInt + (3 : Int) := t_addC (x := i) (y := (3 : Int32))
  refine zrn_ok HW 4 (zB_iff.mpr (?_ : G (387, [(3, .inl (.int i)), (2, .inl (.ref 49)), (1, .inl (.ref 0)), (0, .inl (.ref 10000000))], [.inl (.int (i + (3 : Int32))), .inl (.ref 10000000), .inl (.int x4), .inl (.int x2), .inl (.ref 0)], h, nc, ns)))
  obtain ⟨x6, s6⟩ := hscr ((i + (3 : Int32))).toInt.toNat (by omega)
  refine g_scr HW rfl (by omega) s6 ?_
  have y7 : -2147483648 ≤ i.toInt + (4 : Int) → i.toInt + (4 : Int) ≤ 2147483647 → (i + (4 : Int32)).toInt = i.toInt + (4 : Int) := t_addC (x := i) (y := (4 : Int32))
  refine zrn_ok HW 4 (zB_iff.mpr (?_ : G (392, [(3, .inl (.int i)), (2, .inl (.ref 49)), (1, .inl (.ref 0)), (0, .inl (.ref 10000000))], [.inl (.int (i + (4 : Int32))), .inl (.ref 10000000), .inl (.int x6), .inl (.int x4), .inl (.int x2), .inl (.ref 0)], h, nc, ns)))
  obtain ⟨x8, s8⟩ := hscr ((i + (4 : Int32))).toInt.toNat (by omega)
  refine g_scr HW rfl (by omega) s8 ?_
  have y9 : -2147483648 ≤ i.toInt + (5 : Int) → i.toInt + (5 : Int) ≤ 2147483647 → (i + (5 : Int32)).toInt = i.toInt + (5 : Int) := t_addC (x := i) (y := (5 : Int32))
  refine zrn_ok HW 4 (zB_iff.mpr (?_ : G (397, [(3, .inl (.int i)), (2, .inl (.ref 49)), (1, .inl (.ref 0)), (0, .inl (.ref 10000000))], [.inl (.int (i + (5 : Int32))), .inl (.ref 10000000), .inl (.int x8), .inl (.int x6), .inl (.int x4), .inl (.int x2), .inl (.ref 0)], h, nc, ns)))
  obtain ⟨x10, s10⟩ := hscr ((i + (5 : Int32))).toInt.toNat (by omega)
  refine g_scr HW rfl (by omega) s10 ?_
  refine g_tVa (e := te_X4_copy_0) (E' := ze_X4_copy) (c := 0) (s := 0) HW (tLow_of (IHP _) hD) rfl rfl (show te_X4_copy_0 ∈ [te_X4_copy_0] from List.mem_cons_self) (by decide +kernel) (Nat.le_of_ble_eq_true rfl) rfl rfl (by omega) (by omega) ok.1 ok.2.1 (by have := ok.2.2; omega) rfl hq_0 rfl (Nat.le_of_ble_eq_true rfl) ⟨⟨_, rfl, hq_0⟩, okA_If _, okA_If _, okA_If _, okA_If _, okA_If _, trivial⟩ (fun v11 T11 h11 m11 k11 f11 lh11 r11 => ?_)
  obtain ⟨w11, rfl, hw11, cd11⟩ := r11
  obtain ⟨x11, rfl, l11, u11⟩ := tint_sp rfl hw11
  have ok11 : wOK (zPhi (t, t, none, v)) h.length T11 h11 := ⟨k11, f11, Nat.le_trans lh11 ok.2.2⟩
  have hq_0 := m11 _ _ hq_0
  have hq_49 := m11 _ _ hq_49
  show G (401, [(3, .inl (.int i)), (2, .inl (.ref 49)), (1, .inl (.ref 0)), (0, .inl (.ref 10000000))], [.inl (.int x11)], h11, nc, ns)
  have y12 : -2147483648 ≤ i.toInt + (1 : Int) → i.toInt + (1 : Int) ≤ 2147483647 → (i + (1 : Int32)).toInt = i.toInt + (1 : Int) := t_addC (x := i) (y := (1 : Int32))
  refine zrn_ok HW 6 (zB_iff.mpr (?_ : G (407, [(3, .inl (.int i)), (2, .inl (.ref 49)), (1, .inl (.ref 0)), (0, .inl (.ref 10000000))], [.inl (.int (i + (1 : Int32))), .inl (.ref 10000000), .inl (.ref 49)], h11, nc, ns)))
  obtain ⟨x13, s13⟩ := hscr ((i + (1 : Int32))).toInt.toNat (by omega)
  refine g_scr HW rfl (by omega) s13 ?_
  have y14 : -2147483648 ≤ i.toInt + (2 : Int) → i.toInt + (2 : Int) ≤ 2147483647 → (i + (2 : Int32)).toInt = i.toInt + (2 : Int) := t_addC (x := i) (y := (2 : Int32))
  refine zrn_ok HW 4 (zB_iff.mpr (?_ : G (412, [(3, .inl (.int i)), (2, .inl (.ref 49)), (1, .inl (.ref 0)), (0, .inl (.ref 10000000))], [.inl (.int (i + (2 : Int32))), .inl (.ref 10000000), .inl (.int x13), .inl (.ref 49)], h11, nc, ns)))
  obtain ⟨x15, s15⟩ := hscr ((i + (2 : Int32))).toInt.toNat (by omega)
  refine g_scr HW rfl (by omega) s15 ?_
  have y16 : -2147483648 ≤ i.toInt + (3 : Int) → i.toInt + (3 : Int) ≤ 2147483647 → (i + (3 : Int32)).toInt = i.toInt + (3 : Int) := t_addC (x := i) (y := (3 : Int32))
  refine zrn_ok HW 4 (zB_iff.mpr (?_ : G (417, [(3, .inl (.int i)), (2, .inl (.ref 49)), (1, .inl (.ref 0)), (0, .inl (.ref 10000000))], [.inl (.int (i + (3 : Int32))), .inl (.ref 10000000), .inl (.int x15), .inl (.int x13), .inl (.ref 49)], h11, nc, ns)))
  obtain ⟨x17, s17⟩ := hscr ((i + (3 : Int32))).toInt.toNat (by omega)
  refine g_scr HW rfl (by omega) s17 ?_
  have y18 : -2147483648 ≤ i.toInt + (4 : Int) → i.toInt + (4 : Int) ≤ 2147483647 → (i + (4 : Int32)).toInt = i.toInt + (4 : Int) := t_addC (x := i) (y := (4 : Int32))
  refine zrn_ok HW 4 (zB_iff.mpr (?_ : G (422, [(3, .inl (.int i)), (2, .inl (.ref 49)), (1, .inl (.ref 0)), (0, .inl (.ref 10000000))], [.inl (.int (i + (4 : Int32))), .inl (.ref 10000000), .inl (.int x17), .inl (.int x15), .inl (.int x13), .inl (.ref 49)], h11, nc, ns)))
  obtain ⟨x19, s19⟩ := hscr ((i + (4 : Int32))).toInt.toNat (by omega)
  refine g_scr HW rfl (by omega) s19 ?_
  have y20 : -2147483648 ≤ i.toInt + (5 : Int) → i.toInt + (5 : Int) ≤ 2147483647 → (i + (5 : Int32)).toInt = i.toInt + (5 : Int) := t_addC (x := i) (y := (5 : Int32))
  refine zrn_ok HW 4 (zB_iff.mpr (?_ : G (427, [(3, .inl (.int i)), (2, .inl (.ref 49)), (1, .inl (.ref 0)), (0, .inl (.ref 10000000))], [.inl (.int (i + (5 : Int32))), .inl (.ref 10000000), .inl (.int x19), .inl (.int x17), .inl (.int x15), .inl (.int x13), .inl (.ref 49)], h11, nc, ns)))
  obtain ⟨x21, s21⟩ := hscr ((i + (5 : Int32))).toInt.toNat (by omega)
  refine g_scr HW rfl (by omega) s21 ?_
  refine g_tVa (e := te_X5_copy_0) (E' := ze_X5_copy) (c := 0) (s := 0) HW (tLow_of (IHP _) hD) rfl rfl (show te_X5_copy_0 ∈ [te_X5_copy_0] from List.mem_cons_self) (by decide +kernel) (Nat.le_of_ble_eq_true rfl) rfl rfl (by omega) (by omega) ok11.1 ok11.2.1 (by have := ok11.2.2; omega) rfl hq_49 rfl (Nat.le_of_ble_eq_true rfl) ⟨⟨_, rfl, hq_49⟩, okA_If _, okA_If _, okA_If _, okA_If _, okA_If _, trivial⟩ (fun v22 T22 h22 m22 k22 f22 lh22 r22 => ?_)
  obtain ⟨w22, rfl, hw22, cd22⟩ := r22
  obtain ⟨x22, rfl, l22, u22⟩ := tint_sp rfl hw22
  have ok22 : wOK (zPhi (t, t, none, v)) h.length T22 h22 := ⟨k22, f22, Nat.le_trans lh22 ok11.2.2⟩
  have hq_0 := m22 _ _ hq_0
  have hq_49 := m22 _ _ hq_49
  show G (431, [(3, .inl (.int i)), (2, .inl (.ref 49)), (1, .inl (.ref 0)), (0, .inl (.ref 10000000))], [.inl (.int x22)], h22, nc, ns)
  refine zrn_ok HW 2 (zB_iff.mpr (?_ : G (1662, [(3, .inl (.int i)), (2, .inl (.ref 49)), (1, .inl (.ref 0)), (0, .inl (.ref 10000000))], [], h22, nc, ns)))
  exact nxt T22 h22 _ _ 0 0 (wOK_up ok22 (by omega)) (Or.inl ⟨by decide, by decide, rfl⟩)

theorem lw_case3 {scr : List zV} {post : Option zV → zH → Bool} {G : zS → Prop} {D : Nat} {T : List Nat} {h : zH} {nc ns : Nat} {i : Int32} {t : Int} {v : Bool} (HW : zWalk zprog ze_L_law scr room_1.cells room_1.slots (zD zprog scr D) post G) (HWN : zWalk zprog ze_L_lawN scr room_1.cells room_1.slots (zD zprog scr D) post G) (hD : 300 ≤ D) (IHP : ∀ P : pP, tBel (zPhi P) scr 300) (hscr : ∀ j : Nat, (j : Int) < i.toInt + 6 → ∃ x : Int32, scr[j]? = some (.inl (.int x))) (hi0 : 0 ≤ i.toInt ∧ i.toInt ≤ 100000) (ok : wOK (zPhi (t, t, none, v)) h.length T h) (hl : h.length + 4000 ≤ 1000000) (hc : nc + 4000 ≤ room_1.cells) (hs : ns + 980000 ≤ room_1.slots)
    (HP : ∀ (x : Int64) (pc : Nat), (pc = 449 ∨ pc = 464) → ∀ (h : zH) (nc ns : Nat), G (pc + 1, [(3, .inl (.int i)), (2, .inl (.ref 49)), (1, .inl (.ref 0)), (0, .inl (.ref 10000000))], [], h, nc, ns) → G (pc, [(3, .inl (.int i)), (2, .inl (.ref 49)), (1, .inl (.ref 0)), (0, .inl (.ref 10000000))], [.inl (.long x)], h, nc, ns))
    (nxt : ∀ (T' : List Nat) (h' : zH) (t' : Int) (v' : Bool) (dc ds : Nat), wOK (zPhi (t', t', none, v')) (h.length + dc) T' h' → ((dc ≤ 30 ∧ ds ≤ 3328 ∧ v' = v) ∨ (v = false ∧ v' = true ∧ dc ≤ 3843 ∧ ds ≤ 971974)) → G (1662, [(3, .inl (.int i)), (2, .inl (.ref 49)), (1, .inl (.ref 0)), (0, .inl (.ref 10000000))], [], h', nc + dc, ns + ds)) : G (435, [(3, .inl (.int i)), (2, .inl (.ref 49)), (1, .inl (.ref 0)), (0, .inl (.ref 10000000))], [], h, nc, ns) := by
  have hq_0 : T[0]? = some 4 := ok.2.1.1.1
  have hq_49 : T[49]? = some 5 := ok.2.1.1.2.2.1
  have y1 : -2147483648 ≤ i.toInt + (1 : Int) → i.toInt + (1 : Int) ≤ 2147483647 → (i + (1 : Int32)).toInt = i.toInt + (1 : Int) := t_addC (x := i) (y := (1 : Int32))
  refine zrn_ok HW 5 (zB_iff.mpr (?_ : G (440, [(3, .inl (.int i)), (2, .inl (.ref 49)), (1, .inl (.ref 0)), (0, .inl (.ref 10000000))], [.inl (.int (i + (1 : Int32))), .inl (.ref 10000000), .inl (.ref 0)], h, nc, ns)))
  obtain ⟨x2, s2⟩ := hscr ((i + (1 : Int32))).toInt.toNat (by omega)
  refine g_scr HW rfl (by omega) s2 ?_
  have y3 : -2147483648 ≤ i.toInt + (2 : Int) → i.toInt + (2 : Int) ≤ 2147483647 → (i + (2 : Int32)).toInt = i.toInt + (2 : Int) := t_addC (x := i) (y := (2 : Int32))
  refine zrn_ok HW 4 (zB_iff.mpr (?_ : G (445, [(3, .inl (.int i)), (2, .inl (.ref 49)), (1, .inl (.ref 0)), (0, .inl (.ref 10000000))], [.inl (.int (i + (2 : Int32))), .inl (.ref 10000000), .inl (.int x2), .inl (.ref 0)], h, nc, ns)))
  obtain ⟨x4, s4⟩ := hscr ((i + (2 : Int32))).toInt.toNat (by omega)
  refine g_scr HW rfl (by omega) s4 ?_
  refine g_tVa (e := te_X4_element_0) (E' := ze_X4_element) (c := 0) (s := 0) HW (tLow_of (IHP _) hD) rfl rfl (show te_X4_element_0 ∈ [te_X4_element_0] from List.mem_cons_self) (by decide +kernel) (Nat.le_of_ble_eq_true rfl) rfl rfl (by omega) (by omega) ok.1 ok.2.1 (by have := ok.2.2; omega) rfl hq_0 rfl (Nat.le_of_ble_eq_true rfl) ⟨⟨_, rfl, hq_0⟩, okA_If _, okA_If _, trivial⟩ (fun v5 T5 h5 m5 k5 f5 l5 r5 => ?_)
  obtain ⟨w5, rfl, hw5, -⟩ := r5
  obtain ⟨x5, rfl, -⟩ := tlong_sp rfl hw5
  have ok5 : wOK (zPhi (t, t, none, v)) h.length T5 h5 := ⟨k5, f5, Nat.le_trans l5 ok.2.2⟩
  have hq_0 := m5 _ _ hq_0
  have hq_49 := m5 _ _ hq_49
  show G (449, [(3, .inl (.int i)), (2, .inl (.ref 49)), (1, .inl (.ref 0)), (0, .inl (.ref 10000000))], [.inl (.long x5)], h5, nc, ns)
  refine HP x5 449 (by decide) h5 nc ns ?_
  show G (450, [(3, .inl (.int i)), (2, .inl (.ref 49)), (1, .inl (.ref 0)), (0, .inl (.ref 10000000))], [], h5, nc, ns)
  have y6 : -2147483648 ≤ i.toInt + (1 : Int) → i.toInt + (1 : Int) ≤ 2147483647 → (i + (1 : Int32)).toInt = i.toInt + (1 : Int) := t_addC (x := i) (y := (1 : Int32))
  refine zrn_ok HW 5 (zB_iff.mpr (?_ : G (455, [(3, .inl (.int i)), (2, .inl (.ref 49)), (1, .inl (.ref 0)), (0, .inl (.ref 10000000))], [.inl (.int (i + (1 : Int32))), .inl (.ref 10000000), .inl (.ref 49)], h5, nc, ns)))
  obtain ⟨x7, s7⟩ := hscr ((i + (1 : Int32))).toInt.toNat (by omega)
  refine g_scr HW rfl (by omega) s7 ?_
  have y8 : -2147483648 ≤ i.toInt + (2 : Int) → i.toInt + (2 : Int) ≤ 2147483647 → (i + (2 : Int32)).toInt = i.toInt + (2 : Int) := t_addC (x := i) (y := (2 : Int32))
  refine zrn_ok HW 4 (zB_iff.mpr (?_ : G (460, [(3, .inl (.int i)), (2, .inl (.ref 49)), (1, .inl (.ref 0)), (0, .inl (.ref 10000000))], [.inl (.int (i + (2 : Int32))), .inl (.ref 10000000), .inl (.int x7), .inl (.ref 49)], h5, nc, ns)))
  obtain ⟨x9, s9⟩ := hscr ((i + (2 : Int32))).toInt.toNat (by omega)
  refine g_scr HW rfl (by omega) s9 ?_
  refine g_tVa (e := te_X5_element_0) (E' := ze_X5_element) (c := 0) (s := 0) HW (tLow_of (IHP _) hD) rfl rfl (show te_X5_element_0 ∈ [te_X5_element_0] from List.mem_cons_self) (by decide +kernel) (Nat.le_of_ble_eq_true rfl) rfl rfl (by omega) (by omega) ok5.1 ok5.2.1 (by have := ok5.2.2; omega) rfl hq_49 rfl (Nat.le_of_ble_eq_true rfl) ⟨⟨_, rfl, hq_49⟩, okA_If _, okA_If _, trivial⟩ (fun v10 T10 h10 m10 k10 f10 l10 r10 => ?_)
  obtain ⟨w10, rfl, hw10, -⟩ := r10
  obtain ⟨x10, rfl, -⟩ := tlong_sp rfl hw10
  have ok10 : wOK (zPhi (t, t, none, v)) h.length T10 h10 := ⟨k10, f10, Nat.le_trans l10 ok5.2.2⟩
  have hq_0 := m10 _ _ hq_0
  have hq_49 := m10 _ _ hq_49
  show G (464, [(3, .inl (.int i)), (2, .inl (.ref 49)), (1, .inl (.ref 0)), (0, .inl (.ref 10000000))], [.inl (.long x10)], h10, nc, ns)
  refine HP x10 464 (by decide) h10 nc ns ?_
  show G (465, [(3, .inl (.int i)), (2, .inl (.ref 49)), (1, .inl (.ref 0)), (0, .inl (.ref 10000000))], [], h10, nc, ns)
  refine zrn_ok HW 1 (zB_iff.mpr (?_ : G (1662, [(3, .inl (.int i)), (2, .inl (.ref 49)), (1, .inl (.ref 0)), (0, .inl (.ref 10000000))], [], h10, nc, ns)))
  exact nxt T10 h10 _ _ 0 0 (wOK_up ok10 (by omega)) (Or.inl ⟨by decide, by decide, rfl⟩)

theorem lw_case4 {scr : List zV} {post : Option zV → zH → Bool} {G : zS → Prop} {D : Nat} {T : List Nat} {h : zH} {nc ns : Nat} {i : Int32} {t : Int} {v : Bool} (HW : zWalk zprog ze_L_law scr room_1.cells room_1.slots (zD zprog scr D) post G) (HWN : zWalk zprog ze_L_lawN scr room_1.cells room_1.slots (zD zprog scr D) post G) (hD : 300 ≤ D) (IHP : ∀ P : pP, tBel (zPhi P) scr 300) (hscr : ∀ j : Nat, (j : Int) < i.toInt + 6 → ∃ x : Int32, scr[j]? = some (.inl (.int x))) (hi0 : 0 ≤ i.toInt ∧ i.toInt ≤ 100000) (ok : wOK (zPhi (t, t, none, v)) h.length T h) (hl : h.length + 4000 ≤ 1000000) (hc : nc + 4000 ≤ room_1.cells) (hs : ns + 980000 ≤ room_1.slots)
    (HP : ∀ (x : Int64) (pc : Nat), (pc = 449 ∨ pc = 464) → ∀ (h : zH) (nc ns : Nat), G (pc + 1, [(3, .inl (.int i)), (2, .inl (.ref 49)), (1, .inl (.ref 0)), (0, .inl (.ref 10000000))], [], h, nc, ns) → G (pc, [(3, .inl (.int i)), (2, .inl (.ref 49)), (1, .inl (.ref 0)), (0, .inl (.ref 10000000))], [.inl (.long x)], h, nc, ns))
    (nxt : ∀ (T' : List Nat) (h' : zH) (t' : Int) (v' : Bool) (dc ds : Nat), wOK (zPhi (t', t', none, v')) (h.length + dc) T' h' → ((dc ≤ 30 ∧ ds ≤ 3328 ∧ v' = v) ∨ (v = false ∧ v' = true ∧ dc ≤ 3843 ∧ ds ≤ 971974)) → G (1662, [(3, .inl (.int i)), (2, .inl (.ref 49)), (1, .inl (.ref 0)), (0, .inl (.ref 10000000))], [], h', nc + dc, ns + ds)) : G (468, [(3, .inl (.int i)), (2, .inl (.ref 49)), (1, .inl (.ref 0)), (0, .inl (.ref 10000000))], [], h, nc, ns) := by
  have hq_0 : T[0]? = some 4 := ok.2.1.1.1
  have hq_49 : T[49]? = some 5 := ok.2.1.1.2.2.1
  have y1 : -2147483648 ≤ i.toInt + (1 : Int) → i.toInt + (1 : Int) ≤ 2147483647 → (i + (1 : Int32)).toInt = i.toInt + (1 : Int) := t_addC (x := i) (y := (1 : Int32))
  refine zrn_ok HW 5 (zB_iff.mpr (?_ : G (473, [(3, .inl (.int i)), (2, .inl (.ref 49)), (1, .inl (.ref 0)), (0, .inl (.ref 10000000))], [.inl (.int (i + (1 : Int32))), .inl (.ref 10000000), .inl (.ref 0)], h, nc, ns)))
  obtain ⟨x2, s2⟩ := hscr ((i + (1 : Int32))).toInt.toNat (by omega)
  refine g_scr HW rfl (by omega) s2 ?_
  refine g_tVa (e := te_X4_holds_0) (E' := ze_X4_holds) (c := 0) (s := 0) HW (tLow_of (IHP _) hD) rfl rfl (show te_X4_holds_0 ∈ [te_X4_holds_0] from List.mem_cons_self) (by decide +kernel) (Nat.le_of_ble_eq_true rfl) rfl rfl (by omega) (by omega) ok.1 ok.2.1 (by have := ok.2.2; omega) rfl hq_0 rfl (Nat.le_of_ble_eq_true rfl) ⟨⟨_, rfl, hq_0⟩, okA_If _, trivial⟩ (fun v3 T3 h3 m3 k3 f3 lh3 r3 => ?_)
  obtain ⟨w3, rfl, hw3, cd3⟩ := r3
  obtain ⟨x3, rfl, l3, u3⟩ := tint_sp rfl hw3
  have l3 : ((-1) : Int) ≤ x3.toInt := l3
  have u3 : x3.toInt ≤ (17 : Int) := u3
  have ok3 : wOK (zPhi (t, t, none, v)) h.length T3 h3 := ⟨k3, f3, Nat.le_trans lh3 ok.2.2⟩
  have hq_0 := m3 _ _ hq_0
  have hq_49 := m3 _ _ hq_49
  show G (477, [(3, .inl (.int i)), (2, .inl (.ref 49)), (1, .inl (.ref 0)), (0, .inl (.ref 10000000))], [.inl (.int x3)], h3, nc, ns)
  have y4 : -2147483648 ≤ i.toInt + (1 : Int) → i.toInt + (1 : Int) ≤ 2147483647 → (i + (1 : Int32)).toInt = i.toInt + (1 : Int) := t_addC (x := i) (y := (1 : Int32))
  refine zrn_ok HW 6 (zB_iff.mpr (?_ : G (483, [(3, .inl (.int i)), (2, .inl (.ref 49)), (1, .inl (.ref 0)), (0, .inl (.ref 10000000))], [.inl (.int (i + (1 : Int32))), .inl (.ref 10000000), .inl (.ref 49)], h3, nc, ns)))
  obtain ⟨x5, s5⟩ := hscr ((i + (1 : Int32))).toInt.toNat (by omega)
  refine g_scr HW rfl (by omega) s5 ?_
  refine g_tVa (e := te_X5_holds_0) (E' := ze_X5_holds) (c := 0) (s := 0) HW (tLow_of (IHP _) hD) rfl rfl (show te_X5_holds_0 ∈ [te_X5_holds_0] from List.mem_cons_self) (by decide +kernel) (Nat.le_of_ble_eq_true rfl) rfl rfl (by omega) (by omega) ok3.1 ok3.2.1 (by have := ok3.2.2; omega) rfl hq_49 rfl (Nat.le_of_ble_eq_true rfl) ⟨⟨_, rfl, hq_49⟩, okA_If _, trivial⟩ (fun v6 T6 h6 m6 k6 f6 lh6 r6 => ?_)
  obtain ⟨w6, rfl, hw6, cd6⟩ := r6
  obtain ⟨x6, rfl, l6, u6⟩ := tint_sp rfl hw6
  have l6 : ((-1) : Int) ≤ x6.toInt := l6
  have u6 : x6.toInt ≤ (17 : Int) := u6
  have ok6 : wOK (zPhi (t, t, none, v)) h.length T6 h6 := ⟨k6, f6, Nat.le_trans lh6 ok3.2.2⟩
  have hq_0 := m6 _ _ hq_0
  have hq_49 := m6 _ _ hq_49
  show G (487, [(3, .inl (.int i)), (2, .inl (.ref 49)), (1, .inl (.ref 0)), (0, .inl (.ref 10000000))], [.inl (.int x6)], h6, nc, ns)
  refine zrn_ok HW 2 (zB_iff.mpr (?_ : G (1662, [(3, .inl (.int i)), (2, .inl (.ref 49)), (1, .inl (.ref 0)), (0, .inl (.ref 10000000))], [], h6, nc, ns)))
  exact nxt T6 h6 _ _ 0 0 (wOK_up ok6 (by omega)) (Or.inl ⟨by decide, by decide, rfl⟩)

theorem lw_case5 {scr : List zV} {post : Option zV → zH → Bool} {G : zS → Prop} {D : Nat} {T : List Nat} {h : zH} {nc ns : Nat} {i : Int32} {t : Int} {v : Bool} (HW : zWalk zprog ze_L_law scr room_1.cells room_1.slots (zD zprog scr D) post G) (HWN : zWalk zprog ze_L_lawN scr room_1.cells room_1.slots (zD zprog scr D) post G) (hD : 300 ≤ D) (IHP : ∀ P : pP, tBel (zPhi P) scr 300) (hscr : ∀ j : Nat, (j : Int) < i.toInt + 6 → ∃ x : Int32, scr[j]? = some (.inl (.int x))) (hi0 : 0 ≤ i.toInt ∧ i.toInt ≤ 100000) (ok : wOK (zPhi (t, t, none, v)) h.length T h) (hl : h.length + 4000 ≤ 1000000) (hc : nc + 4000 ≤ room_1.cells) (hs : ns + 980000 ≤ room_1.slots)
    (HP : ∀ (x : Int64) (pc : Nat), (pc = 449 ∨ pc = 464) → ∀ (h : zH) (nc ns : Nat), G (pc + 1, [(3, .inl (.int i)), (2, .inl (.ref 49)), (1, .inl (.ref 0)), (0, .inl (.ref 10000000))], [], h, nc, ns) → G (pc, [(3, .inl (.int i)), (2, .inl (.ref 49)), (1, .inl (.ref 0)), (0, .inl (.ref 10000000))], [.inl (.long x)], h, nc, ns))
    (nxt : ∀ (T' : List Nat) (h' : zH) (t' : Int) (v' : Bool) (dc ds : Nat), wOK (zPhi (t', t', none, v')) (h.length + dc) T' h' → ((dc ≤ 30 ∧ ds ≤ 3328 ∧ v' = v) ∨ (v = false ∧ v' = true ∧ dc ≤ 3843 ∧ ds ≤ 971974)) → G (1662, [(3, .inl (.int i)), (2, .inl (.ref 49)), (1, .inl (.ref 0)), (0, .inl (.ref 10000000))], [], h', nc + dc, ns + ds)) : G (491, [(3, .inl (.int i)), (2, .inl (.ref 49)), (1, .inl (.ref 0)), (0, .inl (.ref 10000000))], [], h, nc, ns) := by
  have hq_0 : T[0]? = some 4 := ok.2.1.1.1
  have hq_49 : T[49]? = some 5 := ok.2.1.1.2.2.1
  have y1 : -2147483648 ≤ i.toInt + (1 : Int) → i.toInt + (1 : Int) ≤ 2147483647 → (i + (1 : Int32)).toInt = i.toInt + (1 : Int) := t_addC (x := i) (y := (1 : Int32))
  refine zrn_ok HW 5 (zB_iff.mpr (?_ : G (496, [(3, .inl (.int i)), (2, .inl (.ref 49)), (1, .inl (.ref 0)), (0, .inl (.ref 10000000))], [.inl (.int (i + (1 : Int32))), .inl (.ref 10000000), .inl (.ref 0)], h, nc, ns)))
  obtain ⟨x2, s2⟩ := hscr ((i + (1 : Int32))).toInt.toNat (by omega)
  refine g_scr HW rfl (by omega) s2 ?_
  have y3 : -2147483648 ≤ i.toInt + (2 : Int) → i.toInt + (2 : Int) ≤ 2147483647 → (i + (2 : Int32)).toInt = i.toInt + (2 : Int) := t_addC (x := i) (y := (2 : Int32))
  refine zrn_ok HW 4 (zB_iff.mpr (?_ : G (501, [(3, .inl (.int i)), (2, .inl (.ref 49)), (1, .inl (.ref 0)), (0, .inl (.ref 10000000))], [.inl (.int (i + (2 : Int32))), .inl (.ref 10000000), .inl (.int x2), .inl (.ref 0)], h, nc, ns)))
  obtain ⟨x4, s4⟩ := hscr ((i + (2 : Int32))).toInt.toNat (by omega)
  refine g_scr HW rfl (by omega) s4 ?_
  refine g_tVa (e := te_X4_show_0) (E' := ze_X4_show) (c := 0) (s := 0) HW (tLow_of (IHP _) hD) rfl rfl (show te_X4_show_0 ∈ [te_X4_show_0] from List.mem_cons_self) (by decide +kernel) (Nat.le_of_ble_eq_true rfl) rfl rfl (by omega) (by omega) ok.1 ok.2.1 (by have := ok.2.2; omega) rfl hq_0 rfl (Nat.le_of_ble_eq_true rfl) ⟨⟨_, rfl, hq_0⟩, okA_If _, okA_If _, trivial⟩ (fun v5 T5 h5 m5 k5 f5 lh5 r5 => ?_)
  obtain ⟨w5, rfl, hw5, cd5⟩ := r5
  obtain ⟨x5, rfl, l5, u5⟩ := tint_sp rfl hw5
  have ok5 : wOK (zPhi (t, t, none, v)) h.length T5 h5 := ⟨k5, f5, Nat.le_trans lh5 ok.2.2⟩
  have hq_0 := m5 _ _ hq_0
  have hq_49 := m5 _ _ hq_49
  show G (505, [(3, .inl (.int i)), (2, .inl (.ref 49)), (1, .inl (.ref 0)), (0, .inl (.ref 10000000))], [.inl (.int x5)], h5, nc, ns)
  have y6 : -2147483648 ≤ i.toInt + (1 : Int) → i.toInt + (1 : Int) ≤ 2147483647 → (i + (1 : Int32)).toInt = i.toInt + (1 : Int) := t_addC (x := i) (y := (1 : Int32))
  refine zrn_ok HW 6 (zB_iff.mpr (?_ : G (511, [(3, .inl (.int i)), (2, .inl (.ref 49)), (1, .inl (.ref 0)), (0, .inl (.ref 10000000))], [.inl (.int (i + (1 : Int32))), .inl (.ref 10000000), .inl (.ref 49)], h5, nc, ns)))
  obtain ⟨x7, s7⟩ := hscr ((i + (1 : Int32))).toInt.toNat (by omega)
  refine g_scr HW rfl (by omega) s7 ?_
  have y8 : -2147483648 ≤ i.toInt + (2 : Int) → i.toInt + (2 : Int) ≤ 2147483647 → (i + (2 : Int32)).toInt = i.toInt + (2 : Int) := t_addC (x := i) (y := (2 : Int32))
  refine zrn_ok HW 4 (zB_iff.mpr (?_ : G (516, [(3, .inl (.int i)), (2, .inl (.ref 49)), (1, .inl (.ref 0)), (0, .inl (.ref 10000000))], [.inl (.int (i + (2 : Int32))), .inl (.ref 10000000), .inl (.int x7), .inl (.ref 49)], h5, nc, ns)))
  obtain ⟨x9, s9⟩ := hscr ((i + (2 : Int32))).toInt.toNat (by omega)
  refine g_scr HW rfl (by omega) s9 ?_
  refine g_tVa (e := te_X5_show_0) (E' := ze_X5_show) (c := 0) (s := 0) HW (tLow_of (IHP _) hD) rfl rfl (show te_X5_show_0 ∈ [te_X5_show_0] from List.mem_cons_self) (by decide +kernel) (Nat.le_of_ble_eq_true rfl) rfl rfl (by omega) (by omega) ok5.1 ok5.2.1 (by have := ok5.2.2; omega) rfl hq_49 rfl (Nat.le_of_ble_eq_true rfl) ⟨⟨_, rfl, hq_49⟩, okA_If _, okA_If _, trivial⟩ (fun v10 T10 h10 m10 k10 f10 lh10 r10 => ?_)
  obtain ⟨w10, rfl, hw10, cd10⟩ := r10
  obtain ⟨x10, rfl, l10, u10⟩ := tint_sp rfl hw10
  have ok10 : wOK (zPhi (t, t, none, v)) h.length T10 h10 := ⟨k10, f10, Nat.le_trans lh10 ok5.2.2⟩
  have hq_0 := m10 _ _ hq_0
  have hq_49 := m10 _ _ hq_49
  show G (520, [(3, .inl (.int i)), (2, .inl (.ref 49)), (1, .inl (.ref 0)), (0, .inl (.ref 10000000))], [.inl (.int x10)], h10, nc, ns)
  refine zrn_ok HW 2 (zB_iff.mpr (?_ : G (1662, [(3, .inl (.int i)), (2, .inl (.ref 49)), (1, .inl (.ref 0)), (0, .inl (.ref 10000000))], [], h10, nc, ns)))
  exact nxt T10 h10 _ _ 0 0 (wOK_up ok10 (by omega)) (Or.inl ⟨by decide, by decide, rfl⟩)

theorem lw_case6 {scr : List zV} {post : Option zV → zH → Bool} {G : zS → Prop} {D : Nat} {T : List Nat} {h : zH} {nc ns : Nat} {i : Int32} {t : Int} {v : Bool} (HW : zWalk zprog ze_L_law scr room_1.cells room_1.slots (zD zprog scr D) post G) (HWN : zWalk zprog ze_L_lawN scr room_1.cells room_1.slots (zD zprog scr D) post G) (hD : 300 ≤ D) (IHP : ∀ P : pP, tBel (zPhi P) scr 300) (hscr : ∀ j : Nat, (j : Int) < i.toInt + 6 → ∃ x : Int32, scr[j]? = some (.inl (.int x))) (hi0 : 0 ≤ i.toInt ∧ i.toInt ≤ 100000) (ok : wOK (zPhi (t, t, none, v)) h.length T h) (hl : h.length + 4000 ≤ 1000000) (hc : nc + 4000 ≤ room_1.cells) (hs : ns + 980000 ≤ room_1.slots)
    (HP : ∀ (x : Int64) (pc : Nat), (pc = 449 ∨ pc = 464) → ∀ (h : zH) (nc ns : Nat), G (pc + 1, [(3, .inl (.int i)), (2, .inl (.ref 49)), (1, .inl (.ref 0)), (0, .inl (.ref 10000000))], [], h, nc, ns) → G (pc, [(3, .inl (.int i)), (2, .inl (.ref 49)), (1, .inl (.ref 0)), (0, .inl (.ref 10000000))], [.inl (.long x)], h, nc, ns))
    (nxt : ∀ (T' : List Nat) (h' : zH) (t' : Int) (v' : Bool) (dc ds : Nat), wOK (zPhi (t', t', none, v')) (h.length + dc) T' h' → ((dc ≤ 30 ∧ ds ≤ 3328 ∧ v' = v) ∨ (v = false ∧ v' = true ∧ dc ≤ 3843 ∧ ds ≤ 971974)) → G (1662, [(3, .inl (.int i)), (2, .inl (.ref 49)), (1, .inl (.ref 0)), (0, .inl (.ref 10000000))], [], h', nc + dc, ns + ds)) : G (524, [(3, .inl (.int i)), (2, .inl (.ref 49)), (1, .inl (.ref 0)), (0, .inl (.ref 10000000))], [], h, nc, ns) := by
  have hq_0 : T[0]? = some 4 := ok.2.1.1.1
  have hq_49 : T[49]? = some 5 := ok.2.1.1.2.2.1
  have y1 : -2147483648 ≤ i.toInt + (1 : Int) → i.toInt + (1 : Int) ≤ 2147483647 → (i + (1 : Int32)).toInt = i.toInt + (1 : Int) := t_addC (x := i) (y := (1 : Int32))
  refine zrn_ok HW 5 (zB_iff.mpr (?_ : G (529, [(3, .inl (.int i)), (2, .inl (.ref 49)), (1, .inl (.ref 0)), (0, .inl (.ref 10000000))], [.inl (.int (i + (1 : Int32))), .inl (.ref 10000000), .inl (.ref 0)], h, nc, ns)))
  obtain ⟨x2, s2⟩ := hscr ((i + (1 : Int32))).toInt.toNat (by omega)
  refine g_scr HW rfl (by omega) s2 ?_
  have y3 : -2147483648 ≤ i.toInt + (2 : Int) → i.toInt + (2 : Int) ≤ 2147483647 → (i + (2 : Int32)).toInt = i.toInt + (2 : Int) := t_addC (x := i) (y := (2 : Int32))
  refine zrn_ok HW 4 (zB_iff.mpr (?_ : G (534, [(3, .inl (.int i)), (2, .inl (.ref 49)), (1, .inl (.ref 0)), (0, .inl (.ref 10000000))], [.inl (.int (i + (2 : Int32))), .inl (.ref 10000000), .inl (.int x2), .inl (.ref 0)], h, nc, ns)))
  obtain ⟨x4, s4⟩ := hscr ((i + (2 : Int32))).toInt.toNat (by omega)
  refine g_scr HW rfl (by omega) s4 ?_
  refine g_tVa (e := te_X4_says_0) (E' := ze_X4_says) (c := 0) (s := 0) HW (tLow_of (IHP _) hD) rfl rfl (show te_X4_says_0 ∈ [te_X4_says_0] from List.mem_cons_self) (by decide +kernel) (Nat.le_of_ble_eq_true rfl) rfl rfl (by omega) (by omega) ok.1 ok.2.1 (by have := ok.2.2; omega) rfl hq_0 rfl (Nat.le_of_ble_eq_true rfl) ⟨⟨_, rfl, hq_0⟩, okA_If _, okA_If _, trivial⟩ (fun v5 T5 h5 m5 k5 f5 lh5 r5 => ?_)
  obtain ⟨w5, rfl, hw5, cd5⟩ := r5
  obtain ⟨x5, rfl, l5, u5⟩ := tint_sp rfl hw5
  have ok5 : wOK (zPhi (t, t, none, v)) h.length T5 h5 := ⟨k5, f5, Nat.le_trans lh5 ok.2.2⟩
  have hq_0 := m5 _ _ hq_0
  have hq_49 := m5 _ _ hq_49
  show G (538, [(3, .inl (.int i)), (2, .inl (.ref 49)), (1, .inl (.ref 0)), (0, .inl (.ref 10000000))], [.inl (.int x5)], h5, nc, ns)
  have y6 : -2147483648 ≤ i.toInt + (1 : Int) → i.toInt + (1 : Int) ≤ 2147483647 → (i + (1 : Int32)).toInt = i.toInt + (1 : Int) := t_addC (x := i) (y := (1 : Int32))
  refine zrn_ok HW 6 (zB_iff.mpr (?_ : G (544, [(3, .inl (.int i)), (2, .inl (.ref 49)), (1, .inl (.ref 0)), (0, .inl (.ref 10000000))], [.inl (.int (i + (1 : Int32))), .inl (.ref 10000000), .inl (.ref 49)], h5, nc, ns)))
  obtain ⟨x7, s7⟩ := hscr ((i + (1 : Int32))).toInt.toNat (by omega)
  refine g_scr HW rfl (by omega) s7 ?_
  have y8 : -2147483648 ≤ i.toInt + (2 : Int) → i.toInt + (2 : Int) ≤ 2147483647 → (i + (2 : Int32)).toInt = i.toInt + (2 : Int) := t_addC (x := i) (y := (2 : Int32))
  refine zrn_ok HW 4 (zB_iff.mpr (?_ : G (549, [(3, .inl (.int i)), (2, .inl (.ref 49)), (1, .inl (.ref 0)), (0, .inl (.ref 10000000))], [.inl (.int (i + (2 : Int32))), .inl (.ref 10000000), .inl (.int x7), .inl (.ref 49)], h5, nc, ns)))
  obtain ⟨x9, s9⟩ := hscr ((i + (2 : Int32))).toInt.toNat (by omega)
  refine g_scr HW rfl (by omega) s9 ?_
  refine g_tVa (e := te_X5_says_0) (E' := ze_X5_says) (c := 0) (s := 0) HW (tLow_of (IHP _) hD) rfl rfl (show te_X5_says_0 ∈ [te_X5_says_0] from List.mem_cons_self) (by decide +kernel) (Nat.le_of_ble_eq_true rfl) rfl rfl (by omega) (by omega) ok5.1 ok5.2.1 (by have := ok5.2.2; omega) rfl hq_49 rfl (Nat.le_of_ble_eq_true rfl) ⟨⟨_, rfl, hq_49⟩, okA_If _, okA_If _, trivial⟩ (fun v10 T10 h10 m10 k10 f10 lh10 r10 => ?_)
  obtain ⟨w10, rfl, hw10, cd10⟩ := r10
  obtain ⟨x10, rfl, l10, u10⟩ := tint_sp rfl hw10
  have ok10 : wOK (zPhi (t, t, none, v)) h.length T10 h10 := ⟨k10, f10, Nat.le_trans lh10 ok5.2.2⟩
  have hq_0 := m10 _ _ hq_0
  have hq_49 := m10 _ _ hq_49
  show G (553, [(3, .inl (.int i)), (2, .inl (.ref 49)), (1, .inl (.ref 0)), (0, .inl (.ref 10000000))], [.inl (.int x10)], h10, nc, ns)
  refine zrn_ok HW 2 (zB_iff.mpr (?_ : G (1662, [(3, .inl (.int i)), (2, .inl (.ref 49)), (1, .inl (.ref 0)), (0, .inl (.ref 10000000))], [], h10, nc, ns)))
  exact nxt T10 h10 _ _ 0 0 (wOK_up ok10 (by omega)) (Or.inl ⟨by decide, by decide, rfl⟩)

theorem lw_case7 {scr : List zV} {post : Option zV → zH → Bool} {G : zS → Prop} {D : Nat} {T : List Nat} {h : zH} {nc ns : Nat} {i : Int32} {t : Int} {v : Bool} (HW : zWalk zprog ze_L_law scr room_1.cells room_1.slots (zD zprog scr D) post G) (HWN : zWalk zprog ze_L_lawN scr room_1.cells room_1.slots (zD zprog scr D) post G) (hD : 300 ≤ D) (IHP : ∀ P : pP, tBel (zPhi P) scr 300) (hscr : ∀ j : Nat, (j : Int) < i.toInt + 6 → ∃ x : Int32, scr[j]? = some (.inl (.int x))) (hi0 : 0 ≤ i.toInt ∧ i.toInt ≤ 100000) (ok : wOK (zPhi (t, t, none, v)) h.length T h) (hl : h.length + 4000 ≤ 1000000) (hc : nc + 4000 ≤ room_1.cells) (hs : ns + 980000 ≤ room_1.slots)
    (HP : ∀ (x : Int64) (pc : Nat), (pc = 449 ∨ pc = 464) → ∀ (h : zH) (nc ns : Nat), G (pc + 1, [(3, .inl (.int i)), (2, .inl (.ref 49)), (1, .inl (.ref 0)), (0, .inl (.ref 10000000))], [], h, nc, ns) → G (pc, [(3, .inl (.int i)), (2, .inl (.ref 49)), (1, .inl (.ref 0)), (0, .inl (.ref 10000000))], [.inl (.long x)], h, nc, ns))
    (nxt : ∀ (T' : List Nat) (h' : zH) (t' : Int) (v' : Bool) (dc ds : Nat), wOK (zPhi (t', t', none, v')) (h.length + dc) T' h' → ((dc ≤ 30 ∧ ds ≤ 3328 ∧ v' = v) ∨ (v = false ∧ v' = true ∧ dc ≤ 3843 ∧ ds ≤ 971974)) → G (1662, [(3, .inl (.int i)), (2, .inl (.ref 49)), (1, .inl (.ref 0)), (0, .inl (.ref 10000000))], [], h', nc + dc, ns + ds)) : G (557, [(3, .inl (.int i)), (2, .inl (.ref 49)), (1, .inl (.ref 0)), (0, .inl (.ref 10000000))], [], h, nc, ns) := by
  have hq_0 : T[0]? = some 4 := ok.2.1.1.1
  have hq_49 : T[49]? = some 5 := ok.2.1.1.2.2.1
  have y1 : -2147483648 ≤ i.toInt + (1 : Int) → i.toInt + (1 : Int) ≤ 2147483647 → (i + (1 : Int32)).toInt = i.toInt + (1 : Int) := t_addC (x := i) (y := (1 : Int32))
  refine zrn_ok HW 5 (zB_iff.mpr (?_ : G (562, [(3, .inl (.int i)), (2, .inl (.ref 49)), (1, .inl (.ref 0)), (0, .inl (.ref 10000000))], [.inl (.int (i + (1 : Int32))), .inl (.ref 10000000), .inl (.ref 0)], h, nc, ns)))
  obtain ⟨x2, s2⟩ := hscr ((i + (1 : Int32))).toInt.toNat (by omega)
  refine g_scr HW rfl (by omega) s2 ?_
  refine g_tVa (e := te_X4_slips_0) (E' := ze_X4_slips) (c := 0) (s := 0) HW (tLow_of (IHP _) hD) rfl rfl (show te_X4_slips_0 ∈ [te_X4_slips_0] from List.mem_cons_self) (by decide +kernel) (Nat.le_of_ble_eq_true rfl) rfl rfl (by omega) (by omega) ok.1 ok.2.1 (by have := ok.2.2; omega) rfl hq_0 rfl (Nat.le_of_ble_eq_true rfl) ⟨⟨_, rfl, hq_0⟩, okA_If _, trivial⟩ (fun v3 T3 h3 m3 k3 f3 lh3 r3 => ?_)
  obtain ⟨w3, rfl, hw3, cd3⟩ := r3
  obtain ⟨x3, rfl, l3, u3⟩ := tint_sp rfl hw3
  have ok3 : wOK (zPhi (t, t, none, v)) h.length T3 h3 := ⟨k3, f3, Nat.le_trans lh3 ok.2.2⟩
  have hq_0 := m3 _ _ hq_0
  have hq_49 := m3 _ _ hq_49
  show G (566, [(3, .inl (.int i)), (2, .inl (.ref 49)), (1, .inl (.ref 0)), (0, .inl (.ref 10000000))], [.inl (.int x3)], h3, nc, ns)
  have y4 : -2147483648 ≤ i.toInt + (1 : Int) → i.toInt + (1 : Int) ≤ 2147483647 → (i + (1 : Int32)).toInt = i.toInt + (1 : Int) := t_addC (x := i) (y := (1 : Int32))
  refine zrn_ok HW 6 (zB_iff.mpr (?_ : G (572, [(3, .inl (.int i)), (2, .inl (.ref 49)), (1, .inl (.ref 0)), (0, .inl (.ref 10000000))], [.inl (.int (i + (1 : Int32))), .inl (.ref 10000000), .inl (.ref 49)], h3, nc, ns)))
  obtain ⟨x5, s5⟩ := hscr ((i + (1 : Int32))).toInt.toNat (by omega)
  refine g_scr HW rfl (by omega) s5 ?_
  refine g_tVa (e := te_X5_slips_0) (E' := ze_X5_slips) (c := 0) (s := 0) HW (tLow_of (IHP _) hD) rfl rfl (show te_X5_slips_0 ∈ [te_X5_slips_0] from List.mem_cons_self) (by decide +kernel) (Nat.le_of_ble_eq_true rfl) rfl rfl (by omega) (by omega) ok3.1 ok3.2.1 (by have := ok3.2.2; omega) rfl hq_49 rfl (Nat.le_of_ble_eq_true rfl) ⟨⟨_, rfl, hq_49⟩, okA_If _, trivial⟩ (fun v6 T6 h6 m6 k6 f6 lh6 r6 => ?_)
  obtain ⟨w6, rfl, hw6, cd6⟩ := r6
  obtain ⟨x6, rfl, l6, u6⟩ := tint_sp rfl hw6
  have ok6 : wOK (zPhi (t, t, none, v)) h.length T6 h6 := ⟨k6, f6, Nat.le_trans lh6 ok3.2.2⟩
  have hq_0 := m6 _ _ hq_0
  have hq_49 := m6 _ _ hq_49
  show G (576, [(3, .inl (.int i)), (2, .inl (.ref 49)), (1, .inl (.ref 0)), (0, .inl (.ref 10000000))], [.inl (.int x6)], h6, nc, ns)
  refine zrn_ok HW 2 (zB_iff.mpr (?_ : G (1662, [(3, .inl (.int i)), (2, .inl (.ref 49)), (1, .inl (.ref 0)), (0, .inl (.ref 10000000))], [], h6, nc, ns)))
  exact nxt T6 h6 _ _ 0 0 (wOK_up ok6 (by omega)) (Or.inl ⟨by decide, by decide, rfl⟩)

theorem lw_case8 {scr : List zV} {post : Option zV → zH → Bool} {G : zS → Prop} {D : Nat} {T : List Nat} {h : zH} {nc ns : Nat} {i : Int32} {t : Int} {v : Bool} (HW : zWalk zprog ze_L_law scr room_1.cells room_1.slots (zD zprog scr D) post G) (HWN : zWalk zprog ze_L_lawN scr room_1.cells room_1.slots (zD zprog scr D) post G) (hD : 300 ≤ D) (IHP : ∀ P : pP, tBel (zPhi P) scr 300) (hscr : ∀ j : Nat, (j : Int) < i.toInt + 6 → ∃ x : Int32, scr[j]? = some (.inl (.int x))) (hi0 : 0 ≤ i.toInt ∧ i.toInt ≤ 100000) (ok : wOK (zPhi (t, t, none, v)) h.length T h) (hl : h.length + 4000 ≤ 1000000) (hc : nc + 4000 ≤ room_1.cells) (hs : ns + 980000 ≤ room_1.slots)
    (HP : ∀ (x : Int64) (pc : Nat), (pc = 449 ∨ pc = 464) → ∀ (h : zH) (nc ns : Nat), G (pc + 1, [(3, .inl (.int i)), (2, .inl (.ref 49)), (1, .inl (.ref 0)), (0, .inl (.ref 10000000))], [], h, nc, ns) → G (pc, [(3, .inl (.int i)), (2, .inl (.ref 49)), (1, .inl (.ref 0)), (0, .inl (.ref 10000000))], [.inl (.long x)], h, nc, ns))
    (nxt : ∀ (T' : List Nat) (h' : zH) (t' : Int) (v' : Bool) (dc ds : Nat), wOK (zPhi (t', t', none, v')) (h.length + dc) T' h' → ((dc ≤ 30 ∧ ds ≤ 3328 ∧ v' = v) ∨ (v = false ∧ v' = true ∧ dc ≤ 3843 ∧ ds ≤ 971974)) → G (1662, [(3, .inl (.int i)), (2, .inl (.ref 49)), (1, .inl (.ref 0)), (0, .inl (.ref 10000000))], [], h', nc + dc, ns + ds)) : G (580, [(3, .inl (.int i)), (2, .inl (.ref 49)), (1, .inl (.ref 0)), (0, .inl (.ref 10000000))], [], h, nc, ns) := by
  have hq_0 : T[0]? = some 4 := ok.2.1.1.1
  have hq_49 : T[49]? = some 5 := ok.2.1.1.2.2.1
  have y1 : -2147483648 ≤ i.toInt + (1 : Int) → i.toInt + (1 : Int) ≤ 2147483647 → (i + (1 : Int32)).toInt = i.toInt + (1 : Int) := t_addC (x := i) (y := (1 : Int32))
  refine zrn_ok HW 5 (zB_iff.mpr (?_ : G (585, [(3, .inl (.int i)), (2, .inl (.ref 49)), (1, .inl (.ref 0)), (0, .inl (.ref 10000000))], [.inl (.int (i + (1 : Int32))), .inl (.ref 10000000), .inl (.ref 0)], h, nc, ns)))
  obtain ⟨x2, s2⟩ := hscr ((i + (1 : Int32))).toInt.toNat (by omega)
  refine g_scr HW rfl (by omega) s2 ?_
  refine g_tVa (e := te_X4_rule_0) (E' := ze_X4_rule) (c := 0) (s := 0) HW (tLow_of (IHP _) hD) rfl rfl (show te_X4_rule_0 ∈ [te_X4_rule_0] from List.mem_cons_self) (by decide +kernel) (Nat.le_of_ble_eq_true rfl) rfl rfl (by omega) (by omega) ok.1 ok.2.1 (by have := ok.2.2; omega) rfl hq_0 rfl (Nat.le_of_ble_eq_true rfl) ⟨⟨_, rfl, hq_0⟩, okA_If _, trivial⟩ (fun v3 T3 h3 m3 k3 f3 lh3 r3 => ?_)
  obtain ⟨w3, rfl, hw3, cd3⟩ := r3
  obtain ⟨x3, rfl, l3, u3⟩ := tint_sp rfl hw3
  have ok3 : wOK (zPhi (t, t, none, v)) h.length T3 h3 := ⟨k3, f3, Nat.le_trans lh3 ok.2.2⟩
  have hq_0 := m3 _ _ hq_0
  have hq_49 := m3 _ _ hq_49
  show G (589, [(3, .inl (.int i)), (2, .inl (.ref 49)), (1, .inl (.ref 0)), (0, .inl (.ref 10000000))], [.inl (.int x3)], h3, nc, ns)
  have y4 : -2147483648 ≤ i.toInt + (1 : Int) → i.toInt + (1 : Int) ≤ 2147483647 → (i + (1 : Int32)).toInt = i.toInt + (1 : Int) := t_addC (x := i) (y := (1 : Int32))
  refine zrn_ok HW 6 (zB_iff.mpr (?_ : G (595, [(3, .inl (.int i)), (2, .inl (.ref 49)), (1, .inl (.ref 0)), (0, .inl (.ref 10000000))], [.inl (.int (i + (1 : Int32))), .inl (.ref 10000000), .inl (.ref 49)], h3, nc, ns)))
  obtain ⟨x5, s5⟩ := hscr ((i + (1 : Int32))).toInt.toNat (by omega)
  refine g_scr HW rfl (by omega) s5 ?_
  refine g_tVa (e := te_X5_rule_0) (E' := ze_X5_rule) (c := 0) (s := 0) HW (tLow_of (IHP _) hD) rfl rfl (show te_X5_rule_0 ∈ [te_X5_rule_0] from List.mem_cons_self) (by decide +kernel) (Nat.le_of_ble_eq_true rfl) rfl rfl (by omega) (by omega) ok3.1 ok3.2.1 (by have := ok3.2.2; omega) rfl hq_49 rfl (Nat.le_of_ble_eq_true rfl) ⟨⟨_, rfl, hq_49⟩, okA_If _, trivial⟩ (fun v6 T6 h6 m6 k6 f6 lh6 r6 => ?_)
  obtain ⟨w6, rfl, hw6, cd6⟩ := r6
  obtain ⟨x6, rfl, l6, u6⟩ := tint_sp rfl hw6
  have l6 : ((-6) : Int) ≤ x6.toInt := l6
  have u6 : x6.toInt ≤ (10 : Int) := u6
  have ok6 : wOK (zPhi (t, t, none, v)) h.length T6 h6 := ⟨k6, f6, Nat.le_trans lh6 ok3.2.2⟩
  have hq_0 := m6 _ _ hq_0
  have hq_49 := m6 _ _ hq_49
  show G (599, [(3, .inl (.int i)), (2, .inl (.ref 49)), (1, .inl (.ref 0)), (0, .inl (.ref 10000000))], [.inl (.int x6)], h6, nc, ns)
  refine zrn_ok HW 2 (zB_iff.mpr (?_ : G (1662, [(3, .inl (.int i)), (2, .inl (.ref 49)), (1, .inl (.ref 0)), (0, .inl (.ref 10000000))], [], h6, nc, ns)))
  exact nxt T6 h6 _ _ 0 0 (wOK_up ok6 (by omega)) (Or.inl ⟨by decide, by decide, rfl⟩)

theorem lw_case9 {scr : List zV} {post : Option zV → zH → Bool} {G : zS → Prop} {D : Nat} {T : List Nat} {h : zH} {nc ns : Nat} {i : Int32} {t : Int} {v : Bool} (HW : zWalk zprog ze_L_law scr room_1.cells room_1.slots (zD zprog scr D) post G) (HWN : zWalk zprog ze_L_lawN scr room_1.cells room_1.slots (zD zprog scr D) post G) (hD : 300 ≤ D) (IHP : ∀ P : pP, tBel (zPhi P) scr 300) (hscr : ∀ j : Nat, (j : Int) < i.toInt + 6 → ∃ x : Int32, scr[j]? = some (.inl (.int x))) (hi0 : 0 ≤ i.toInt ∧ i.toInt ≤ 100000) (ok : wOK (zPhi (t, t, none, v)) h.length T h) (hl : h.length + 4000 ≤ 1000000) (hc : nc + 4000 ≤ room_1.cells) (hs : ns + 980000 ≤ room_1.slots)
    (HP : ∀ (x : Int64) (pc : Nat), (pc = 449 ∨ pc = 464) → ∀ (h : zH) (nc ns : Nat), G (pc + 1, [(3, .inl (.int i)), (2, .inl (.ref 49)), (1, .inl (.ref 0)), (0, .inl (.ref 10000000))], [], h, nc, ns) → G (pc, [(3, .inl (.int i)), (2, .inl (.ref 49)), (1, .inl (.ref 0)), (0, .inl (.ref 10000000))], [.inl (.long x)], h, nc, ns))
    (nxt : ∀ (T' : List Nat) (h' : zH) (t' : Int) (v' : Bool) (dc ds : Nat), wOK (zPhi (t', t', none, v')) (h.length + dc) T' h' → ((dc ≤ 30 ∧ ds ≤ 3328 ∧ v' = v) ∨ (v = false ∧ v' = true ∧ dc ≤ 3843 ∧ ds ≤ 971974)) → G (1662, [(3, .inl (.int i)), (2, .inl (.ref 49)), (1, .inl (.ref 0)), (0, .inl (.ref 10000000))], [], h', nc + dc, ns + ds)) : G (603, [(3, .inl (.int i)), (2, .inl (.ref 49)), (1, .inl (.ref 0)), (0, .inl (.ref 10000000))], [], h, nc, ns) := by
  have hq_0 : T[0]? = some 4 := ok.2.1.1.1
  have hq_49 : T[49]? = some 5 := ok.2.1.1.2.2.1
  have y1 : -2147483648 ≤ i.toInt + (1 : Int) → i.toInt + (1 : Int) ≤ 2147483647 → (i + (1 : Int32)).toInt = i.toInt + (1 : Int) := t_addC (x := i) (y := (1 : Int32))
  refine zrn_ok HW 5 (zB_iff.mpr (?_ : G (608, [(3, .inl (.int i)), (2, .inl (.ref 49)), (1, .inl (.ref 0)), (0, .inl (.ref 10000000))], [.inl (.int (i + (1 : Int32))), .inl (.ref 10000000), .inl (.ref 0)], h, nc, ns)))
  obtain ⟨x2, s2⟩ := hscr ((i + (1 : Int32))).toInt.toNat (by omega)
  refine g_scr HW rfl (by omega) s2 ?_
  have y3 : -2147483648 ≤ i.toInt + (2 : Int) → i.toInt + (2 : Int) ≤ 2147483647 → (i + (2 : Int32)).toInt = i.toInt + (2 : Int) := t_addC (x := i) (y := (2 : Int32))
  refine zrn_ok HW 4 (zB_iff.mpr (?_ : G (613, [(3, .inl (.int i)), (2, .inl (.ref 49)), (1, .inl (.ref 0)), (0, .inl (.ref 10000000))], [.inl (.int (i + (2 : Int32))), .inl (.ref 10000000), .inl (.int x2), .inl (.ref 0)], h, nc, ns)))
  obtain ⟨x4, s4⟩ := hscr ((i + (2 : Int32))).toInt.toNat (by omega)
  refine g_scr HW rfl (by omega) s4 ?_
  refine g_tVa (e := te_X4_price_0) (E' := ze_X4_price) (c := 0) (s := 0) HW (tLow_of (IHP _) hD) rfl rfl (show te_X4_price_0 ∈ [te_X4_price_0] from List.mem_cons_self) (by decide +kernel) (Nat.le_of_ble_eq_true rfl) rfl rfl (by omega) (by omega) ok.1 ok.2.1 (by have := ok.2.2; omega) rfl hq_0 rfl (Nat.le_of_ble_eq_true rfl) ⟨⟨_, rfl, hq_0⟩, okA_If _, okA_If _, trivial⟩ (fun v5 T5 h5 m5 k5 f5 lh5 r5 => ?_)
  obtain ⟨w5, rfl, hw5, cd5⟩ := r5
  obtain ⟨x5, rfl, l5, u5⟩ := tint_sp rfl hw5
  have ok5 : wOK (zPhi (t, t, none, v)) h.length T5 h5 := ⟨k5, f5, Nat.le_trans lh5 ok.2.2⟩
  have hq_0 := m5 _ _ hq_0
  have hq_49 := m5 _ _ hq_49
  show G (617, [(3, .inl (.int i)), (2, .inl (.ref 49)), (1, .inl (.ref 0)), (0, .inl (.ref 10000000))], [.inl (.int x5)], h5, nc, ns)
  have y6 : -2147483648 ≤ i.toInt + (1 : Int) → i.toInt + (1 : Int) ≤ 2147483647 → (i + (1 : Int32)).toInt = i.toInt + (1 : Int) := t_addC (x := i) (y := (1 : Int32))
  refine zrn_ok HW 6 (zB_iff.mpr (?_ : G (623, [(3, .inl (.int i)), (2, .inl (.ref 49)), (1, .inl (.ref 0)), (0, .inl (.ref 10000000))], [.inl (.int (i + (1 : Int32))), .inl (.ref 10000000), .inl (.ref 49)], h5, nc, ns)))
  obtain ⟨x7, s7⟩ := hscr ((i + (1 : Int32))).toInt.toNat (by omega)
  refine g_scr HW rfl (by omega) s7 ?_
  have y8 : -2147483648 ≤ i.toInt + (2 : Int) → i.toInt + (2 : Int) ≤ 2147483647 → (i + (2 : Int32)).toInt = i.toInt + (2 : Int) := t_addC (x := i) (y := (2 : Int32))
  refine zrn_ok HW 4 (zB_iff.mpr (?_ : G (628, [(3, .inl (.int i)), (2, .inl (.ref 49)), (1, .inl (.ref 0)), (0, .inl (.ref 10000000))], [.inl (.int (i + (2 : Int32))), .inl (.ref 10000000), .inl (.int x7), .inl (.ref 49)], h5, nc, ns)))
  obtain ⟨x9, s9⟩ := hscr ((i + (2 : Int32))).toInt.toNat (by omega)
  refine g_scr HW rfl (by omega) s9 ?_
  refine g_tVa (e := te_X5_price_0) (E' := ze_X5_price) (c := 0) (s := 0) HW (tLow_of (IHP _) hD) rfl rfl (show te_X5_price_0 ∈ [te_X5_price_0] from List.mem_cons_self) (by decide +kernel) (Nat.le_of_ble_eq_true rfl) rfl rfl (by omega) (by omega) ok5.1 ok5.2.1 (by have := ok5.2.2; omega) rfl hq_49 rfl (Nat.le_of_ble_eq_true rfl) ⟨⟨_, rfl, hq_49⟩, okA_If _, okA_If _, trivial⟩ (fun v10 T10 h10 m10 k10 f10 lh10 r10 => ?_)
  obtain ⟨w10, rfl, hw10, cd10⟩ := r10
  obtain ⟨x10, rfl, l10, u10⟩ := tint_sp rfl hw10
  have l10 : ((-6) : Int) ≤ x10.toInt := l10
  have u10 : x10.toInt ≤ (495 : Int) := u10
  have ok10 : wOK (zPhi (t, t, none, v)) h.length T10 h10 := ⟨k10, f10, Nat.le_trans lh10 ok5.2.2⟩
  have hq_0 := m10 _ _ hq_0
  have hq_49 := m10 _ _ hq_49
  show G (632, [(3, .inl (.int i)), (2, .inl (.ref 49)), (1, .inl (.ref 0)), (0, .inl (.ref 10000000))], [.inl (.int x10)], h10, nc, ns)
  refine zrn_ok HW 2 (zB_iff.mpr (?_ : G (1662, [(3, .inl (.int i)), (2, .inl (.ref 49)), (1, .inl (.ref 0)), (0, .inl (.ref 10000000))], [], h10, nc, ns)))
  exact nxt T10 h10 _ _ 0 0 (wOK_up ok10 (by omega)) (Or.inl ⟨by decide, by decide, rfl⟩)

theorem lw_case10 {scr : List zV} {post : Option zV → zH → Bool} {G : zS → Prop} {D : Nat} {T : List Nat} {h : zH} {nc ns : Nat} {i : Int32} {t : Int} {v : Bool} (HW : zWalk zprog ze_L_law scr room_1.cells room_1.slots (zD zprog scr D) post G) (HWN : zWalk zprog ze_L_lawN scr room_1.cells room_1.slots (zD zprog scr D) post G) (hD : 300 ≤ D) (IHP : ∀ P : pP, tBel (zPhi P) scr 300) (hscr : ∀ j : Nat, (j : Int) < i.toInt + 6 → ∃ x : Int32, scr[j]? = some (.inl (.int x))) (hi0 : 0 ≤ i.toInt ∧ i.toInt ≤ 100000) (ok : wOK (zPhi (t, t, none, v)) h.length T h) (hl : h.length + 4000 ≤ 1000000) (hc : nc + 4000 ≤ room_1.cells) (hs : ns + 980000 ≤ room_1.slots)
    (HP : ∀ (x : Int64) (pc : Nat), (pc = 449 ∨ pc = 464) → ∀ (h : zH) (nc ns : Nat), G (pc + 1, [(3, .inl (.int i)), (2, .inl (.ref 49)), (1, .inl (.ref 0)), (0, .inl (.ref 10000000))], [], h, nc, ns) → G (pc, [(3, .inl (.int i)), (2, .inl (.ref 49)), (1, .inl (.ref 0)), (0, .inl (.ref 10000000))], [.inl (.long x)], h, nc, ns))
    (nxt : ∀ (T' : List Nat) (h' : zH) (t' : Int) (v' : Bool) (dc ds : Nat), wOK (zPhi (t', t', none, v')) (h.length + dc) T' h' → ((dc ≤ 30 ∧ ds ≤ 3328 ∧ v' = v) ∨ (v = false ∧ v' = true ∧ dc ≤ 3843 ∧ ds ≤ 971974)) → G (1662, [(3, .inl (.int i)), (2, .inl (.ref 49)), (1, .inl (.ref 0)), (0, .inl (.ref 10000000))], [], h', nc + dc, ns + ds)) : G (636, [(3, .inl (.int i)), (2, .inl (.ref 49)), (1, .inl (.ref 0)), (0, .inl (.ref 10000000))], [], h, nc, ns) := by
  have hq_0 : T[0]? = some 4 := ok.2.1.1.1
  have hq_49 : T[49]? = some 5 := ok.2.1.1.2.2.1
  have y1 : -2147483648 ≤ i.toInt + (1 : Int) → i.toInt + (1 : Int) ≤ 2147483647 → (i + (1 : Int32)).toInt = i.toInt + (1 : Int) := t_addC (x := i) (y := (1 : Int32))
  refine zrn_ok HW 5 (zB_iff.mpr (?_ : G (641, [(3, .inl (.int i)), (2, .inl (.ref 49)), (1, .inl (.ref 0)), (0, .inl (.ref 10000000))], [.inl (.int (i + (1 : Int32))), .inl (.ref 10000000), .inl (.ref 0)], h, nc, ns)))
  obtain ⟨x2, s2⟩ := hscr ((i + (1 : Int32))).toInt.toNat (by omega)
  refine g_scr HW rfl (by omega) s2 ?_
  have y3 : -2147483648 ≤ i.toInt + (2 : Int) → i.toInt + (2 : Int) ≤ 2147483647 → (i + (2 : Int32)).toInt = i.toInt + (2 : Int) := t_addC (x := i) (y := (2 : Int32))
  refine zrn_ok HW 4 (zB_iff.mpr (?_ : G (646, [(3, .inl (.int i)), (2, .inl (.ref 49)), (1, .inl (.ref 0)), (0, .inl (.ref 10000000))], [.inl (.int (i + (2 : Int32))), .inl (.ref 10000000), .inl (.int x2), .inl (.ref 0)], h, nc, ns)))
  obtain ⟨x4, s4⟩ := hscr ((i + (2 : Int32))).toInt.toNat (by omega)
  refine g_scr HW rfl (by omega) s4 ?_
  have y5 : -2147483648 ≤ i.toInt + (3 : Int) → i.toInt + (3 : Int) ≤ 2147483647 → (i + (3 : Int32)).toInt = i.toInt + (3 : Int) := t_addC (x := i) (y := (3 : Int32))
  refine zrn_ok HW 4 (zB_iff.mpr (?_ : G (651, [(3, .inl (.int i)), (2, .inl (.ref 49)), (1, .inl (.ref 0)), (0, .inl (.ref 10000000))], [.inl (.int (i + (3 : Int32))), .inl (.ref 10000000), .inl (.int x4), .inl (.int x2), .inl (.ref 0)], h, nc, ns)))
  obtain ⟨x6, s6⟩ := hscr ((i + (3 : Int32))).toInt.toNat (by omega)
  refine g_scr HW rfl (by omega) s6 ?_
  refine g_tVa (e := te_X4_thing_0) (E' := ze_X4_thing) (c := 0) (s := 0) HW (tLow_of (IHP _) hD) rfl rfl (show te_X4_thing_0 ∈ [te_X4_thing_0] from List.mem_cons_self) (by decide +kernel) (Nat.le_of_ble_eq_true rfl) rfl rfl (by omega) (by omega) ok.1 ok.2.1 (by have := ok.2.2; omega) rfl hq_0 rfl (Nat.le_of_ble_eq_true rfl) ⟨⟨_, rfl, hq_0⟩, okA_If _, okA_If _, okA_If _, trivial⟩ (fun v7 T7 h7 m7 k7 f7 lh7 r7 => ?_)
  obtain ⟨w7, rfl, hw7, cd7⟩ := r7
  obtain ⟨x7, rfl, l7, u7⟩ := tint_sp rfl hw7
  have ok7 : wOK (zPhi (t, t, none, v)) h.length T7 h7 := ⟨k7, f7, Nat.le_trans lh7 ok.2.2⟩
  have hq_0 := m7 _ _ hq_0
  have hq_49 := m7 _ _ hq_49
  show G (655, [(3, .inl (.int i)), (2, .inl (.ref 49)), (1, .inl (.ref 0)), (0, .inl (.ref 10000000))], [.inl (.int x7)], h7, nc, ns)
  have y8 : -2147483648 ≤ i.toInt + (1 : Int) → i.toInt + (1 : Int) ≤ 2147483647 → (i + (1 : Int32)).toInt = i.toInt + (1 : Int) := t_addC (x := i) (y := (1 : Int32))
  refine zrn_ok HW 6 (zB_iff.mpr (?_ : G (661, [(3, .inl (.int i)), (2, .inl (.ref 49)), (1, .inl (.ref 0)), (0, .inl (.ref 10000000))], [.inl (.int (i + (1 : Int32))), .inl (.ref 10000000), .inl (.ref 49)], h7, nc, ns)))
  obtain ⟨x9, s9⟩ := hscr ((i + (1 : Int32))).toInt.toNat (by omega)
  refine g_scr HW rfl (by omega) s9 ?_
  have y10 : -2147483648 ≤ i.toInt + (2 : Int) → i.toInt + (2 : Int) ≤ 2147483647 → (i + (2 : Int32)).toInt = i.toInt + (2 : Int) := t_addC (x := i) (y := (2 : Int32))
  refine zrn_ok HW 4 (zB_iff.mpr (?_ : G (666, [(3, .inl (.int i)), (2, .inl (.ref 49)), (1, .inl (.ref 0)), (0, .inl (.ref 10000000))], [.inl (.int (i + (2 : Int32))), .inl (.ref 10000000), .inl (.int x9), .inl (.ref 49)], h7, nc, ns)))
  obtain ⟨x11, s11⟩ := hscr ((i + (2 : Int32))).toInt.toNat (by omega)
  refine g_scr HW rfl (by omega) s11 ?_
  have y12 : -2147483648 ≤ i.toInt + (3 : Int) → i.toInt + (3 : Int) ≤ 2147483647 → (i + (3 : Int32)).toInt = i.toInt + (3 : Int) := t_addC (x := i) (y := (3 : Int32))
  refine zrn_ok HW 4 (zB_iff.mpr (?_ : G (671, [(3, .inl (.int i)), (2, .inl (.ref 49)), (1, .inl (.ref 0)), (0, .inl (.ref 10000000))], [.inl (.int (i + (3 : Int32))), .inl (.ref 10000000), .inl (.int x11), .inl (.int x9), .inl (.ref 49)], h7, nc, ns)))
  obtain ⟨x13, s13⟩ := hscr ((i + (3 : Int32))).toInt.toNat (by omega)
  refine g_scr HW rfl (by omega) s13 ?_
  refine g_tVa (e := te_X5_thing_0) (E' := ze_X5_thing) (c := 0) (s := 0) HW (tLow_of (IHP _) hD) rfl rfl (show te_X5_thing_0 ∈ [te_X5_thing_0] from List.mem_cons_self) (by decide +kernel) (Nat.le_of_ble_eq_true rfl) rfl rfl (by omega) (by omega) ok7.1 ok7.2.1 (by have := ok7.2.2; omega) rfl hq_49 rfl (Nat.le_of_ble_eq_true rfl) ⟨⟨_, rfl, hq_49⟩, okA_If _, okA_If _, okA_If _, trivial⟩ (fun v14 T14 h14 m14 k14 f14 lh14 r14 => ?_)
  obtain ⟨w14, rfl, hw14, cd14⟩ := r14
  obtain ⟨x14, rfl, l14, u14⟩ := tint_sp rfl hw14
  have ok14 : wOK (zPhi (t, t, none, v)) h.length T14 h14 := ⟨k14, f14, Nat.le_trans lh14 ok7.2.2⟩
  have hq_0 := m14 _ _ hq_0
  have hq_49 := m14 _ _ hq_49
  show G (675, [(3, .inl (.int i)), (2, .inl (.ref 49)), (1, .inl (.ref 0)), (0, .inl (.ref 10000000))], [.inl (.int x14)], h14, nc, ns)
  refine zrn_ok HW 2 (zB_iff.mpr (?_ : G (1662, [(3, .inl (.int i)), (2, .inl (.ref 49)), (1, .inl (.ref 0)), (0, .inl (.ref 10000000))], [], h14, nc, ns)))
  exact nxt T14 h14 _ _ 0 0 (wOK_up ok14 (by omega)) (Or.inl ⟨by decide, by decide, rfl⟩)

theorem lw_case11 {scr : List zV} {post : Option zV → zH → Bool} {G : zS → Prop} {D : Nat} {T : List Nat} {h : zH} {nc ns : Nat} {i : Int32} {t : Int} {v : Bool} (HW : zWalk zprog ze_L_law scr room_1.cells room_1.slots (zD zprog scr D) post G) (HWN : zWalk zprog ze_L_lawN scr room_1.cells room_1.slots (zD zprog scr D) post G) (hD : 300 ≤ D) (IHP : ∀ P : pP, tBel (zPhi P) scr 300) (hscr : ∀ j : Nat, (j : Int) < i.toInt + 6 → ∃ x : Int32, scr[j]? = some (.inl (.int x))) (hi0 : 0 ≤ i.toInt ∧ i.toInt ≤ 100000) (ok : wOK (zPhi (t, t, none, v)) h.length T h) (hl : h.length + 4000 ≤ 1000000) (hc : nc + 4000 ≤ room_1.cells) (hs : ns + 980000 ≤ room_1.slots)
    (HP : ∀ (x : Int64) (pc : Nat), (pc = 449 ∨ pc = 464) → ∀ (h : zH) (nc ns : Nat), G (pc + 1, [(3, .inl (.int i)), (2, .inl (.ref 49)), (1, .inl (.ref 0)), (0, .inl (.ref 10000000))], [], h, nc, ns) → G (pc, [(3, .inl (.int i)), (2, .inl (.ref 49)), (1, .inl (.ref 0)), (0, .inl (.ref 10000000))], [.inl (.long x)], h, nc, ns))
    (nxt : ∀ (T' : List Nat) (h' : zH) (t' : Int) (v' : Bool) (dc ds : Nat), wOK (zPhi (t', t', none, v')) (h.length + dc) T' h' → ((dc ≤ 30 ∧ ds ≤ 3328 ∧ v' = v) ∨ (v = false ∧ v' = true ∧ dc ≤ 3843 ∧ ds ≤ 971974)) → G (1662, [(3, .inl (.int i)), (2, .inl (.ref 49)), (1, .inl (.ref 0)), (0, .inl (.ref 10000000))], [], h', nc + dc, ns + ds)) : G (679, [(3, .inl (.int i)), (2, .inl (.ref 49)), (1, .inl (.ref 0)), (0, .inl (.ref 10000000))], [], h, nc, ns) := by
  have hq_0 : T[0]? = some 4 := ok.2.1.1.1
  have hq_49 : T[49]? = some 5 := ok.2.1.1.2.2.1
  have y1 : -2147483648 ≤ i.toInt + (1 : Int) → i.toInt + (1 : Int) ≤ 2147483647 → (i + (1 : Int32)).toInt = i.toInt + (1 : Int) := t_addC (x := i) (y := (1 : Int32))
  refine zrn_ok HW 5 (zB_iff.mpr (?_ : G (684, [(3, .inl (.int i)), (2, .inl (.ref 49)), (1, .inl (.ref 0)), (0, .inl (.ref 10000000))], [.inl (.int (i + (1 : Int32))), .inl (.ref 10000000), .inl (.ref 0)], h, nc, ns)))
  obtain ⟨x2, s2⟩ := hscr ((i + (1 : Int32))).toInt.toNat (by omega)
  refine g_scr HW rfl (by omega) s2 ?_
  refine g_tVa (e := te_X4_buyer_0) (E' := ze_X4_buyer) (c := 0) (s := 0) HW (tLow_of (IHP _) hD) rfl rfl (show te_X4_buyer_0 ∈ [te_X4_buyer_0] from List.mem_cons_self) (by decide +kernel) (Nat.le_of_ble_eq_true rfl) rfl rfl (by omega) (by omega) ok.1 ok.2.1 (by have := ok.2.2; omega) rfl hq_0 rfl (Nat.le_of_ble_eq_true rfl) ⟨⟨_, rfl, hq_0⟩, okA_If _, trivial⟩ (fun v3 T3 h3 m3 k3 f3 lh3 r3 => ?_)
  obtain ⟨w3, rfl, hw3, cd3⟩ := r3
  obtain ⟨x3, rfl, l3, u3⟩ := tint_sp rfl hw3
  have ok3 : wOK (zPhi (t, t, none, v)) h.length T3 h3 := ⟨k3, f3, Nat.le_trans lh3 ok.2.2⟩
  have hq_0 := m3 _ _ hq_0
  have hq_49 := m3 _ _ hq_49
  show G (688, [(3, .inl (.int i)), (2, .inl (.ref 49)), (1, .inl (.ref 0)), (0, .inl (.ref 10000000))], [.inl (.int x3)], h3, nc, ns)
  have y4 : -2147483648 ≤ i.toInt + (1 : Int) → i.toInt + (1 : Int) ≤ 2147483647 → (i + (1 : Int32)).toInt = i.toInt + (1 : Int) := t_addC (x := i) (y := (1 : Int32))
  refine zrn_ok HW 6 (zB_iff.mpr (?_ : G (694, [(3, .inl (.int i)), (2, .inl (.ref 49)), (1, .inl (.ref 0)), (0, .inl (.ref 10000000))], [.inl (.int (i + (1 : Int32))), .inl (.ref 10000000), .inl (.ref 49)], h3, nc, ns)))
  obtain ⟨x5, s5⟩ := hscr ((i + (1 : Int32))).toInt.toNat (by omega)
  refine g_scr HW rfl (by omega) s5 ?_
  refine g_tVa (e := te_X5_buyer_0) (E' := ze_X5_buyer) (c := 0) (s := 0) HW (tLow_of (IHP _) hD) rfl rfl (show te_X5_buyer_0 ∈ [te_X5_buyer_0] from List.mem_cons_self) (by decide +kernel) (Nat.le_of_ble_eq_true rfl) rfl rfl (by omega) (by omega) ok3.1 ok3.2.1 (by have := ok3.2.2; omega) rfl hq_49 rfl (Nat.le_of_ble_eq_true rfl) ⟨⟨_, rfl, hq_49⟩, okA_If _, trivial⟩ (fun v6 T6 h6 m6 k6 f6 lh6 r6 => ?_)
  obtain ⟨w6, rfl, hw6, cd6⟩ := r6
  obtain ⟨x6, rfl, l6, u6⟩ := tint_sp rfl hw6
  have ok6 : wOK (zPhi (t, t, none, v)) h.length T6 h6 := ⟨k6, f6, Nat.le_trans lh6 ok3.2.2⟩
  have hq_0 := m6 _ _ hq_0
  have hq_49 := m6 _ _ hq_49
  show G (698, [(3, .inl (.int i)), (2, .inl (.ref 49)), (1, .inl (.ref 0)), (0, .inl (.ref 10000000))], [.inl (.int x6)], h6, nc, ns)
  refine zrn_ok HW 2 (zB_iff.mpr (?_ : G (1662, [(3, .inl (.int i)), (2, .inl (.ref 49)), (1, .inl (.ref 0)), (0, .inl (.ref 10000000))], [], h6, nc, ns)))
  exact nxt T6 h6 _ _ 0 0 (wOK_up ok6 (by omega)) (Or.inl ⟨by decide, by decide, rfl⟩)

theorem lw_case12 {scr : List zV} {post : Option zV → zH → Bool} {G : zS → Prop} {D : Nat} {T : List Nat} {h : zH} {nc ns : Nat} {i : Int32} {t : Int} {v : Bool} (HW : zWalk zprog ze_L_law scr room_1.cells room_1.slots (zD zprog scr D) post G) (HWN : zWalk zprog ze_L_lawN scr room_1.cells room_1.slots (zD zprog scr D) post G) (hD : 300 ≤ D) (IHP : ∀ P : pP, tBel (zPhi P) scr 300) (hscr : ∀ j : Nat, (j : Int) < i.toInt + 6 → ∃ x : Int32, scr[j]? = some (.inl (.int x))) (hi0 : 0 ≤ i.toInt ∧ i.toInt ≤ 100000) (ok : wOK (zPhi (t, t, none, v)) h.length T h) (hl : h.length + 4000 ≤ 1000000) (hc : nc + 4000 ≤ room_1.cells) (hs : ns + 980000 ≤ room_1.slots)
    (HP : ∀ (x : Int64) (pc : Nat), (pc = 449 ∨ pc = 464) → ∀ (h : zH) (nc ns : Nat), G (pc + 1, [(3, .inl (.int i)), (2, .inl (.ref 49)), (1, .inl (.ref 0)), (0, .inl (.ref 10000000))], [], h, nc, ns) → G (pc, [(3, .inl (.int i)), (2, .inl (.ref 49)), (1, .inl (.ref 0)), (0, .inl (.ref 10000000))], [.inl (.long x)], h, nc, ns))
    (nxt : ∀ (T' : List Nat) (h' : zH) (t' : Int) (v' : Bool) (dc ds : Nat), wOK (zPhi (t', t', none, v')) (h.length + dc) T' h' → ((dc ≤ 30 ∧ ds ≤ 3328 ∧ v' = v) ∨ (v = false ∧ v' = true ∧ dc ≤ 3843 ∧ ds ≤ 971974)) → G (1662, [(3, .inl (.int i)), (2, .inl (.ref 49)), (1, .inl (.ref 0)), (0, .inl (.ref 10000000))], [], h', nc + dc, ns + ds)) : G (702, [(3, .inl (.int i)), (2, .inl (.ref 49)), (1, .inl (.ref 0)), (0, .inl (.ref 10000000))], [], h, nc, ns) := by
  have hq_0 : T[0]? = some 4 := ok.2.1.1.1
  have hq_49 : T[49]? = some 5 := ok.2.1.1.2.2.1
  have y1 : -2147483648 ≤ i.toInt + (1 : Int) → i.toInt + (1 : Int) ≤ 2147483647 → (i + (1 : Int32)).toInt = i.toInt + (1 : Int) := t_addC (x := i) (y := (1 : Int32))
  refine zrn_ok HW 5 (zB_iff.mpr (?_ : G (707, [(3, .inl (.int i)), (2, .inl (.ref 49)), (1, .inl (.ref 0)), (0, .inl (.ref 10000000))], [.inl (.int (i + (1 : Int32))), .inl (.ref 10000000), .inl (.ref 0)], h, nc, ns)))
  obtain ⟨x2, s2⟩ := hscr ((i + (1 : Int32))).toInt.toNat (by omega)
  refine g_scr HW rfl (by omega) s2 ?_
  have y3 : -2147483648 ≤ i.toInt + (2 : Int) → i.toInt + (2 : Int) ≤ 2147483647 → (i + (2 : Int32)).toInt = i.toInt + (2 : Int) := t_addC (x := i) (y := (2 : Int32))
  refine zrn_ok HW 4 (zB_iff.mpr (?_ : G (712, [(3, .inl (.int i)), (2, .inl (.ref 49)), (1, .inl (.ref 0)), (0, .inl (.ref 10000000))], [.inl (.int (i + (2 : Int32))), .inl (.ref 10000000), .inl (.int x2), .inl (.ref 0)], h, nc, ns)))
  obtain ⟨x4, s4⟩ := hscr ((i + (2 : Int32))).toInt.toNat (by omega)
  refine g_scr HW rfl (by omega) s4 ?_
  have y5 : -2147483648 ≤ i.toInt + (3 : Int) → i.toInt + (3 : Int) ≤ 2147483647 → (i + (3 : Int32)).toInt = i.toInt + (3 : Int) := t_addC (x := i) (y := (3 : Int32))
  refine zrn_ok HW 4 (zB_iff.mpr (?_ : G (717, [(3, .inl (.int i)), (2, .inl (.ref 49)), (1, .inl (.ref 0)), (0, .inl (.ref 10000000))], [.inl (.int (i + (3 : Int32))), .inl (.ref 10000000), .inl (.int x4), .inl (.int x2), .inl (.ref 0)], h, nc, ns)))
  obtain ⟨x6, s6⟩ := hscr ((i + (3 : Int32))).toInt.toNat (by omega)
  refine g_scr HW rfl (by omega) s6 ?_
  refine g_tVa (e := te_X4_likes_0) (E' := ze_X4_likes) (c := 0) (s := 0) HW (tLow_of (IHP _) hD) rfl rfl (show te_X4_likes_0 ∈ [te_X4_likes_0] from List.mem_cons_self) (by decide +kernel) (Nat.le_of_ble_eq_true rfl) rfl rfl (by omega) (by omega) ok.1 ok.2.1 (by have := ok.2.2; omega) rfl hq_0 rfl (Nat.le_of_ble_eq_true rfl) ⟨⟨_, rfl, hq_0⟩, okA_If _, okA_If _, okA_If _, trivial⟩ (fun v7 T7 h7 m7 k7 f7 lh7 r7 => ?_)
  obtain ⟨w7, rfl, hw7, cd7⟩ := r7
  obtain ⟨x7, rfl, l7, u7⟩ := tint_sp rfl hw7
  have ok7 : wOK (zPhi (t, t, none, v)) h.length T7 h7 := ⟨k7, f7, Nat.le_trans lh7 ok.2.2⟩
  have hq_0 := m7 _ _ hq_0
  have hq_49 := m7 _ _ hq_49
  show G (721, [(3, .inl (.int i)), (2, .inl (.ref 49)), (1, .inl (.ref 0)), (0, .inl (.ref 10000000))], [.inl (.int x7)], h7, nc, ns)
  have y8 : -2147483648 ≤ i.toInt + (1 : Int) → i.toInt + (1 : Int) ≤ 2147483647 → (i + (1 : Int32)).toInt = i.toInt + (1 : Int) := t_addC (x := i) (y := (1 : Int32))
  refine zrn_ok HW 6 (zB_iff.mpr (?_ : G (727, [(3, .inl (.int i)), (2, .inl (.ref 49)), (1, .inl (.ref 0)), (0, .inl (.ref 10000000))], [.inl (.int (i + (1 : Int32))), .inl (.ref 10000000), .inl (.ref 49)], h7, nc, ns)))
  obtain ⟨x9, s9⟩ := hscr ((i + (1 : Int32))).toInt.toNat (by omega)
  refine g_scr HW rfl (by omega) s9 ?_
  have y10 : -2147483648 ≤ i.toInt + (2 : Int) → i.toInt + (2 : Int) ≤ 2147483647 → (i + (2 : Int32)).toInt = i.toInt + (2 : Int) := t_addC (x := i) (y := (2 : Int32))
  refine zrn_ok HW 4 (zB_iff.mpr (?_ : G (732, [(3, .inl (.int i)), (2, .inl (.ref 49)), (1, .inl (.ref 0)), (0, .inl (.ref 10000000))], [.inl (.int (i + (2 : Int32))), .inl (.ref 10000000), .inl (.int x9), .inl (.ref 49)], h7, nc, ns)))
  obtain ⟨x11, s11⟩ := hscr ((i + (2 : Int32))).toInt.toNat (by omega)
  refine g_scr HW rfl (by omega) s11 ?_
  have y12 : -2147483648 ≤ i.toInt + (3 : Int) → i.toInt + (3 : Int) ≤ 2147483647 → (i + (3 : Int32)).toInt = i.toInt + (3 : Int) := t_addC (x := i) (y := (3 : Int32))
  refine zrn_ok HW 4 (zB_iff.mpr (?_ : G (737, [(3, .inl (.int i)), (2, .inl (.ref 49)), (1, .inl (.ref 0)), (0, .inl (.ref 10000000))], [.inl (.int (i + (3 : Int32))), .inl (.ref 10000000), .inl (.int x11), .inl (.int x9), .inl (.ref 49)], h7, nc, ns)))
  obtain ⟨x13, s13⟩ := hscr ((i + (3 : Int32))).toInt.toNat (by omega)
  refine g_scr HW rfl (by omega) s13 ?_
  refine g_tVa (e := te_X5_likes_0) (E' := ze_X5_likes) (c := 0) (s := 0) HW (tLow_of (IHP _) hD) rfl rfl (show te_X5_likes_0 ∈ [te_X5_likes_0] from List.mem_cons_self) (by decide +kernel) (Nat.le_of_ble_eq_true rfl) rfl rfl (by omega) (by omega) ok7.1 ok7.2.1 (by have := ok7.2.2; omega) rfl hq_49 rfl (Nat.le_of_ble_eq_true rfl) ⟨⟨_, rfl, hq_49⟩, okA_If _, okA_If _, okA_If _, trivial⟩ (fun v14 T14 h14 m14 k14 f14 lh14 r14 => ?_)
  obtain ⟨w14, rfl, hw14, cd14⟩ := r14
  obtain ⟨x14, rfl, l14, u14⟩ := tint_sp rfl hw14
  have ok14 : wOK (zPhi (t, t, none, v)) h.length T14 h14 := ⟨k14, f14, Nat.le_trans lh14 ok7.2.2⟩
  have hq_0 := m14 _ _ hq_0
  have hq_49 := m14 _ _ hq_49
  show G (741, [(3, .inl (.int i)), (2, .inl (.ref 49)), (1, .inl (.ref 0)), (0, .inl (.ref 10000000))], [.inl (.int x14)], h14, nc, ns)
  refine zrn_ok HW 2 (zB_iff.mpr (?_ : G (1662, [(3, .inl (.int i)), (2, .inl (.ref 49)), (1, .inl (.ref 0)), (0, .inl (.ref 10000000))], [], h14, nc, ns)))
  exact nxt T14 h14 _ _ 0 0 (wOK_up ok14 (by omega)) (Or.inl ⟨by decide, by decide, rfl⟩)
