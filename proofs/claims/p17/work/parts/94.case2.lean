theorem lw_case26 {scr : List zV} {post : Option zV → zH → Bool} {G : zS → Prop} {D : Nat} {T : List Nat} {h : zH} {nc ns : Nat} {i : Int32} {t : Int} {v : Bool} (HW : zWalk zprog ze_L_law scr room_1.cells room_1.slots (zD zprog scr D) post G) (HWN : zWalk zprog ze_L_lawN scr room_1.cells room_1.slots (zD zprog scr D) post G) (hD : 300 ≤ D) (IHP : ∀ P : pP, tBel (zPhi P) scr 300) (hscr : ∀ j : Nat, (j : Int) < i.toInt + 6 → ∃ x : Int32, scr[j]? = some (.inl (.int x))) (hi0 : 0 ≤ i.toInt ∧ i.toInt ≤ 100000) (ok : wOK (zPhi (t, t, none, v)) h.length T h) (hl : h.length + 4000 ≤ 1000000) (hc : nc + 4000 ≤ room_1.cells) (hs : ns + 980000 ≤ room_1.slots)
    (HP : ∀ (x : Int64) (pc : Nat), (pc = 449 ∨ pc = 464) → ∀ (h : zH) (nc ns : Nat), G (pc + 1, [(3, .inl (.int i)), (2, .inl (.ref 49)), (1, .inl (.ref 0)), (0, .inl (.ref 10000000))], [], h, nc, ns) → G (pc, [(3, .inl (.int i)), (2, .inl (.ref 49)), (1, .inl (.ref 0)), (0, .inl (.ref 10000000))], [.inl (.long x)], h, nc, ns))
    (nxt : ∀ (T' : List Nat) (h' : zH) (t' : Int) (v' : Bool) (dc ds : Nat), wOK (zPhi (t', t', none, v')) (h.length + dc) T' h' → ((dc ≤ 30 ∧ ds ≤ 3328 ∧ v' = v) ∨ (v = false ∧ v' = true ∧ dc ≤ 3843 ∧ ds ≤ 971974)) → G (1662, [(3, .inl (.int i)), (2, .inl (.ref 49)), (1, .inl (.ref 0)), (0, .inl (.ref 10000000))], [], h', nc + dc, ns + ds)) : G (1054, [(3, .inl (.int i)), (2, .inl (.ref 49)), (1, .inl (.ref 0)), (0, .inl (.ref 10000000))], [], h, nc, ns) := by
  have hq_0 : T[0]? = some 4 := ok.2.1.1.1
  have hq_49 : T[49]? = some 5 := ok.2.1.1.2.2.1
  have y1 : -2147483648 ≤ i.toInt + (1 : Int) → i.toInt + (1 : Int) ≤ 2147483647 → (i + (1 : Int32)).toInt = i.toInt + (1 : Int) := t_addC (x := i) (y := (1 : Int32))
  refine zrn_ok HW 5 (zB_iff.mpr (?_ : G (1059, [(3, .inl (.int i)), (2, .inl (.ref 49)), (1, .inl (.ref 0)), (0, .inl (.ref 10000000))], [.inl (.int (i + (1 : Int32))), .inl (.ref 10000000), .inl (.ref 0)], h, nc, ns)))
  obtain ⟨x2, s2⟩ := hscr ((i + (1 : Int32))).toInt.toNat (by omega)
  refine g_scr HW rfl (by omega) s2 ?_
  have y3 : -2147483648 ≤ i.toInt + (2 : Int) → i.toInt + (2 : Int) ≤ 2147483647 → (i + (2 : Int32)).toInt = i.toInt + (2 : Int) := t_addC (x := i) (y := (2 : Int32))
  refine zrn_ok HW 4 (zB_iff.mpr (?_ : G (1064, [(3, .inl (.int i)), (2, .inl (.ref 49)), (1, .inl (.ref 0)), (0, .inl (.ref 10000000))], [.inl (.int (i + (2 : Int32))), .inl (.ref 10000000), .inl (.int x2), .inl (.ref 0)], h, nc, ns)))
  obtain ⟨x4, s4⟩ := hscr ((i + (2 : Int32))).toInt.toNat (by omega)
  refine g_scr HW rfl (by omega) s4 ?_
  refine g_tVa (e := te_X4_mean_0) (E' := ze_X4_mean) (c := 0) (s := 0) HW (tLow_of (IHP _) hD) rfl rfl (show te_X4_mean_0 ∈ [te_X4_mean_0] from List.mem_cons_self) (by decide +kernel) (Nat.le_of_ble_eq_true rfl) rfl rfl (by omega) (by omega) ok.1 ok.2.1 (by have := ok.2.2; omega) rfl hq_0 rfl (Nat.le_of_ble_eq_true rfl) ⟨⟨_, rfl, hq_0⟩, okA_If _, okA_If _, trivial⟩ (fun v5 T5 h5 m5 k5 f5 lh5 r5 => ?_)
  obtain ⟨w5, rfl, hw5, cd5⟩ := r5
  obtain ⟨x5, rfl, l5, u5⟩ := tint_sp rfl hw5
  have ok5 : wOK (zPhi (t, t, none, v)) h.length T5 h5 := ⟨k5, f5, Nat.le_trans lh5 ok.2.2⟩
  have hq_0 := m5 _ _ hq_0
  have hq_49 := m5 _ _ hq_49
  show G (1068, [(3, .inl (.int i)), (2, .inl (.ref 49)), (1, .inl (.ref 0)), (0, .inl (.ref 10000000))], [.inl (.int x5)], h5, nc, ns)
  have y6 : -2147483648 ≤ i.toInt + (1 : Int) → i.toInt + (1 : Int) ≤ 2147483647 → (i + (1 : Int32)).toInt = i.toInt + (1 : Int) := t_addC (x := i) (y := (1 : Int32))
  refine zrn_ok HW 6 (zB_iff.mpr (?_ : G (1074, [(3, .inl (.int i)), (2, .inl (.ref 49)), (1, .inl (.ref 0)), (0, .inl (.ref 10000000))], [.inl (.int (i + (1 : Int32))), .inl (.ref 10000000), .inl (.ref 49)], h5, nc, ns)))
  obtain ⟨x7, s7⟩ := hscr ((i + (1 : Int32))).toInt.toNat (by omega)
  refine g_scr HW rfl (by omega) s7 ?_
  have y8 : -2147483648 ≤ i.toInt + (2 : Int) → i.toInt + (2 : Int) ≤ 2147483647 → (i + (2 : Int32)).toInt = i.toInt + (2 : Int) := t_addC (x := i) (y := (2 : Int32))
  refine zrn_ok HW 4 (zB_iff.mpr (?_ : G (1079, [(3, .inl (.int i)), (2, .inl (.ref 49)), (1, .inl (.ref 0)), (0, .inl (.ref 10000000))], [.inl (.int (i + (2 : Int32))), .inl (.ref 10000000), .inl (.int x7), .inl (.ref 49)], h5, nc, ns)))
  obtain ⟨x9, s9⟩ := hscr ((i + (2 : Int32))).toInt.toNat (by omega)
  refine g_scr HW rfl (by omega) s9 ?_
  have fN10 : ∀ (y10 : Int32) (T10 : List Nat) (h10 : zH), tExt T5 T10 → wOK (zPhi (t, t, none, v)) h.length T10 h10 → G (1083, [(3, .inl (.int i)), (2, .inl (.ref 49)), (1, .inl (.ref 0)), (0, .inl (.ref 10000000))], [.inl (.int y10)], h10, nc + 0, ns + 0) := by
    intro y10 T10 h10 m10 ok10
    refine zrn_ok HW 2 (zB_iff.mpr (?_ : G (1662, [(3, .inl (.int i)), (2, .inl (.ref 49)), (1, .inl (.ref 0)), (0, .inl (.ref 10000000))], [], h10, nc + 0, ns + 0)))
    exact nxt T10 h10 _ _ 0 0 (wOK_up ok10 (by omega)) (Or.inl ⟨by decide, by decide, rfl⟩)
  have fA10 : v = false → ∀ (y10 : Int32) (T10 : List Nat) (h10 : zH), tExt T5 T10 → wOK (zPhi (t, t, none, true)) (h.length + 63) T10 h10 → G (1083, [(3, .inl (.int i)), (2, .inl (.ref 49)), (1, .inl (.ref 0)), (0, .inl (.ref 10000000))], [.inl (.int y10)], h10, nc + 63, ns + 15934) := by
    intro hv0 y10 T10 h10 m10 ok10
    refine zrn_ok HW 2 (zB_iff.mpr (?_ : G (1662, [(3, .inl (.int i)), (2, .inl (.ref 49)), (1, .inl (.ref 0)), (0, .inl (.ref 10000000))], [], h10, nc + 63, ns + 15934)))
    exact nxt T10 h10 _ true 63 15934 (wOK_up ok10 (by omega)) (Or.inr ⟨hv0, rfl, by decide, by decide⟩)
  by_cases hvn : v = true ∨ ¬ ((0 ≤ x7.toInt ∧ x7.toInt < hi h5 49 23) ∧ 0 ≤ x9.toInt ∧ x9.toInt ≤ 8)
  · refine g_callV (E' := ze_X5_meanN) HWN rfl rfl (Nat.le_of_ble_eq_true rfl) (by show nc + 0 ≤ room_1.cells; omega) (by show ns + 0 ≤ room_1.slots; omega) ok5.1 rfl hq_49 rfl (Nat.le_of_ble_eq_true rfl) (by obtain ⟨D2, rfl⟩ : ∃ D2, D = D2 + 133 := ⟨D - 133, by omega⟩; exact c_meanN (tBel_le (IHP _) (by decide)) ok5 hvn (fun y10 T10 h10 m10 ok10 => zB_iff.mpr (fN10 y10 T10 h10 m10 ok10)))
  · have hv0 : v = false := by cases v; rfl; exact absurd (Or.inl rfl) hvn
    have nd : (0 ≤ x7.toInt ∧ x7.toInt < hi h5 49 23) ∧ 0 ≤ x9.toInt ∧ x9.toInt ≤ 8 := Classical.byContradiction (fun hn => hvn (Or.inr hn))
    refine g_callV (E' := ze_X5_mean) HW rfl rfl (Nat.le_of_ble_eq_true rfl) (by show nc + 63 ≤ room_1.cells; omega) (by show ns + 15934 ≤ room_1.slots; omega) ok5.1 rfl hq_49 rfl (Nat.le_of_ble_eq_true rfl) (by obtain ⟨D2, rfl⟩ : ∃ D2, D = D2 + 133 := ⟨D - 133, by omega⟩; exact c_mean (N := h.length + 63) (tBel_le (IHP _) (by decide)) (wOK_up ok5 (Nat.le_add_right _ _)) (by have := ok5.2.2; omega) (by omega) nd (fun y10 T10 h10 m10 ok10 => zB_iff.mpr (fA10 hv0 y10 T10 h10 m10 ok10)))

theorem lw_case27 {scr : List zV} {post : Option zV → zH → Bool} {G : zS → Prop} {D : Nat} {T : List Nat} {h : zH} {nc ns : Nat} {i : Int32} {t : Int} {v : Bool} (HW : zWalk zprog ze_L_law scr room_1.cells room_1.slots (zD zprog scr D) post G) (HWN : zWalk zprog ze_L_lawN scr room_1.cells room_1.slots (zD zprog scr D) post G) (hD : 300 ≤ D) (IHP : ∀ P : pP, tBel (zPhi P) scr 300) (hscr : ∀ j : Nat, (j : Int) < i.toInt + 6 → ∃ x : Int32, scr[j]? = some (.inl (.int x))) (hi0 : 0 ≤ i.toInt ∧ i.toInt ≤ 100000) (ok : wOK (zPhi (t, t, none, v)) h.length T h) (hl : h.length + 4000 ≤ 1000000) (hc : nc + 4000 ≤ room_1.cells) (hs : ns + 980000 ≤ room_1.slots)
    (HP : ∀ (x : Int64) (pc : Nat), (pc = 449 ∨ pc = 464) → ∀ (h : zH) (nc ns : Nat), G (pc + 1, [(3, .inl (.int i)), (2, .inl (.ref 49)), (1, .inl (.ref 0)), (0, .inl (.ref 10000000))], [], h, nc, ns) → G (pc, [(3, .inl (.int i)), (2, .inl (.ref 49)), (1, .inl (.ref 0)), (0, .inl (.ref 10000000))], [.inl (.long x)], h, nc, ns))
    (nxt : ∀ (T' : List Nat) (h' : zH) (t' : Int) (v' : Bool) (dc ds : Nat), wOK (zPhi (t', t', none, v')) (h.length + dc) T' h' → ((dc ≤ 30 ∧ ds ≤ 3328 ∧ v' = v) ∨ (v = false ∧ v' = true ∧ dc ≤ 3843 ∧ ds ≤ 971974)) → G (1662, [(3, .inl (.int i)), (2, .inl (.ref 49)), (1, .inl (.ref 0)), (0, .inl (.ref 10000000))], [], h', nc + dc, ns + ds)) : G (1087, [(3, .inl (.int i)), (2, .inl (.ref 49)), (1, .inl (.ref 0)), (0, .inl (.ref 10000000))], [], h, nc, ns) := by
  have hq_0 : T[0]? = some 4 := ok.2.1.1.1
  have hq_49 : T[49]? = some 5 := ok.2.1.1.2.2.1
  have y1 : -2147483648 ≤ i.toInt + (1 : Int) → i.toInt + (1 : Int) ≤ 2147483647 → (i + (1 : Int32)).toInt = i.toInt + (1 : Int) := t_addC (x := i) (y := (1 : Int32))
  refine zrn_ok HW 5 (zB_iff.mpr (?_ : G (1092, [(3, .inl (.int i)), (2, .inl (.ref 49)), (1, .inl (.ref 0)), (0, .inl (.ref 10000000))], [.inl (.int (i + (1 : Int32))), .inl (.ref 10000000), .inl (.ref 0)], h, nc, ns)))
  obtain ⟨x2, s2⟩ := hscr ((i + (1 : Int32))).toInt.toNat (by omega)
  refine g_scr HW rfl (by omega) s2 ?_
  refine g_tVa (e := te_X4_all_0) (E' := ze_X4_all) (c := 0) (s := 0) HW (tLow_of (IHP _) hD) rfl rfl (show te_X4_all_0 ∈ [te_X4_all_0] from List.mem_cons_self) (by decide +kernel) (Nat.le_of_ble_eq_true rfl) rfl rfl (by omega) (by omega) ok.1 ok.2.1 (by have := ok.2.2; omega) rfl hq_0 rfl (Nat.le_of_ble_eq_true rfl) ⟨⟨_, rfl, hq_0⟩, okA_If _, trivial⟩ (fun v3 T3 h3 m3 k3 f3 lh3 r3 => ?_)
  obtain ⟨w3, rfl, hw3, cd3⟩ := r3
  obtain ⟨x3, rfl, l3, u3⟩ := tint_sp rfl hw3
  have ok3 : wOK (zPhi (t, t, none, v)) h.length T3 h3 := ⟨k3, f3, Nat.le_trans lh3 ok.2.2⟩
  have hq_0 := m3 _ _ hq_0
  have hq_49 := m3 _ _ hq_49
  show G (1096, [(3, .inl (.int i)), (2, .inl (.ref 49)), (1, .inl (.ref 0)), (0, .inl (.ref 10000000))], [.inl (.int x3)], h3, nc, ns)
  have y4 : -2147483648 ≤ i.toInt + (1 : Int) → i.toInt + (1 : Int) ≤ 2147483647 → (i + (1 : Int32)).toInt = i.toInt + (1 : Int) := t_addC (x := i) (y := (1 : Int32))
  refine zrn_ok HW 6 (zB_iff.mpr (?_ : G (1102, [(3, .inl (.int i)), (2, .inl (.ref 49)), (1, .inl (.ref 0)), (0, .inl (.ref 10000000))], [.inl (.int (i + (1 : Int32))), .inl (.ref 10000000), .inl (.ref 49)], h3, nc, ns)))
  obtain ⟨x5, s5⟩ := hscr ((i + (1 : Int32))).toInt.toNat (by omega)
  refine g_scr HW rfl (by omega) s5 ?_
  refine g_tVa (e := te_X5_all_0) (E' := ze_X5_all) (c := 0) (s := 0) HW (tLow_of (IHP _) hD) rfl rfl (show te_X5_all_0 ∈ [te_X5_all_0] from List.mem_cons_self) (by decide +kernel) (Nat.le_of_ble_eq_true rfl) rfl rfl (by omega) (by omega) ok3.1 ok3.2.1 (by have := ok3.2.2; omega) rfl hq_49 rfl (Nat.le_of_ble_eq_true rfl) ⟨⟨_, rfl, hq_49⟩, okA_If _, trivial⟩ (fun v6 T6 h6 m6 k6 f6 lh6 r6 => ?_)
  obtain ⟨w6, rfl, hw6, cd6⟩ := r6
  obtain ⟨x6, rfl, l6, u6⟩ := tint_sp rfl hw6
  have ok6 : wOK (zPhi (t, t, none, v)) h.length T6 h6 := ⟨k6, f6, Nat.le_trans lh6 ok3.2.2⟩
  have hq_0 := m6 _ _ hq_0
  have hq_49 := m6 _ _ hq_49
  show G (1106, [(3, .inl (.int i)), (2, .inl (.ref 49)), (1, .inl (.ref 0)), (0, .inl (.ref 10000000))], [.inl (.int x6)], h6, nc, ns)
  refine zrn_ok HW 2 (zB_iff.mpr (?_ : G (1662, [(3, .inl (.int i)), (2, .inl (.ref 49)), (1, .inl (.ref 0)), (0, .inl (.ref 10000000))], [], h6, nc, ns)))
  exact nxt T6 h6 _ _ 0 0 (wOK_up ok6 (by omega)) (Or.inl ⟨by decide, by decide, rfl⟩)

theorem lw_case28 {scr : List zV} {post : Option zV → zH → Bool} {G : zS → Prop} {D : Nat} {T : List Nat} {h : zH} {nc ns : Nat} {i : Int32} {t : Int} {v : Bool} (HW : zWalk zprog ze_L_law scr room_1.cells room_1.slots (zD zprog scr D) post G) (HWN : zWalk zprog ze_L_lawN scr room_1.cells room_1.slots (zD zprog scr D) post G) (hD : 300 ≤ D) (IHP : ∀ P : pP, tBel (zPhi P) scr 300) (hscr : ∀ j : Nat, (j : Int) < i.toInt + 6 → ∃ x : Int32, scr[j]? = some (.inl (.int x))) (hi0 : 0 ≤ i.toInt ∧ i.toInt ≤ 100000) (ok : wOK (zPhi (t, t, none, v)) h.length T h) (hl : h.length + 4000 ≤ 1000000) (hc : nc + 4000 ≤ room_1.cells) (hs : ns + 980000 ≤ room_1.slots)
    (HP : ∀ (x : Int64) (pc : Nat), (pc = 449 ∨ pc = 464) → ∀ (h : zH) (nc ns : Nat), G (pc + 1, [(3, .inl (.int i)), (2, .inl (.ref 49)), (1, .inl (.ref 0)), (0, .inl (.ref 10000000))], [], h, nc, ns) → G (pc, [(3, .inl (.int i)), (2, .inl (.ref 49)), (1, .inl (.ref 0)), (0, .inl (.ref 10000000))], [.inl (.long x)], h, nc, ns))
    (nxt : ∀ (T' : List Nat) (h' : zH) (t' : Int) (v' : Bool) (dc ds : Nat), wOK (zPhi (t', t', none, v')) (h.length + dc) T' h' → ((dc ≤ 30 ∧ ds ≤ 3328 ∧ v' = v) ∨ (v = false ∧ v' = true ∧ dc ≤ 3843 ∧ ds ≤ 971974)) → G (1662, [(3, .inl (.int i)), (2, .inl (.ref 49)), (1, .inl (.ref 0)), (0, .inl (.ref 10000000))], [], h', nc + dc, ns + ds)) : G (1110, [(3, .inl (.int i)), (2, .inl (.ref 49)), (1, .inl (.ref 0)), (0, .inl (.ref 10000000))], [], h, nc, ns) := by
  have hq_0 : T[0]? = some 4 := ok.2.1.1.1
  have hq_49 : T[49]? = some 5 := ok.2.1.1.2.2.1
  have y1 : -2147483648 ≤ i.toInt + (1 : Int) → i.toInt + (1 : Int) ≤ 2147483647 → (i + (1 : Int32)).toInt = i.toInt + (1 : Int) := t_addC (x := i) (y := (1 : Int32))
  refine zrn_ok HW 5 (zB_iff.mpr (?_ : G (1115, [(3, .inl (.int i)), (2, .inl (.ref 49)), (1, .inl (.ref 0)), (0, .inl (.ref 10000000))], [.inl (.int (i + (1 : Int32))), .inl (.ref 10000000), .inl (.ref 0)], h, nc, ns)))
  obtain ⟨x2, s2⟩ := hscr ((i + (1 : Int32))).toInt.toNat (by omega)
  refine g_scr HW rfl (by omega) s2 ?_
  refine g_tVa (e := te_X4_takings_0) (E' := ze_X4_takings) (c := 0) (s := 0) HW (tLow_of (IHP _) hD) rfl rfl (show te_X4_takings_0 ∈ [te_X4_takings_0] from List.mem_cons_self) (by decide +kernel) (Nat.le_of_ble_eq_true rfl) rfl rfl (by omega) (by omega) ok.1 ok.2.1 (by have := ok.2.2; omega) rfl hq_0 rfl (Nat.le_of_ble_eq_true rfl) ⟨⟨_, rfl, hq_0⟩, okA_If _, trivial⟩ (fun v3 T3 h3 m3 k3 f3 lh3 r3 => ?_)
  obtain ⟨w3, rfl, hw3, cd3⟩ := r3
  obtain ⟨x3, rfl, l3, u3⟩ := tint_sp rfl hw3
  have ok3 : wOK (zPhi (t, t, none, v)) h.length T3 h3 := ⟨k3, f3, Nat.le_trans lh3 ok.2.2⟩
  have hq_0 := m3 _ _ hq_0
  have hq_49 := m3 _ _ hq_49
  show G (1119, [(3, .inl (.int i)), (2, .inl (.ref 49)), (1, .inl (.ref 0)), (0, .inl (.ref 10000000))], [.inl (.int x3)], h3, nc, ns)
  have y4 : -2147483648 ≤ i.toInt + (1 : Int) → i.toInt + (1 : Int) ≤ 2147483647 → (i + (1 : Int32)).toInt = i.toInt + (1 : Int) := t_addC (x := i) (y := (1 : Int32))
  refine zrn_ok HW 6 (zB_iff.mpr (?_ : G (1125, [(3, .inl (.int i)), (2, .inl (.ref 49)), (1, .inl (.ref 0)), (0, .inl (.ref 10000000))], [.inl (.int (i + (1 : Int32))), .inl (.ref 10000000), .inl (.ref 49)], h3, nc, ns)))
  obtain ⟨x5, s5⟩ := hscr ((i + (1 : Int32))).toInt.toNat (by omega)
  refine g_scr HW rfl (by omega) s5 ?_
  refine g_tVa (e := te_X5_takings_0) (E' := ze_X5_takings) (c := 0) (s := 0) HW (tLow_of (IHP _) hD) rfl rfl (show te_X5_takings_0 ∈ [te_X5_takings_0] from List.mem_cons_self) (by decide +kernel) (Nat.le_of_ble_eq_true rfl) rfl rfl (by omega) (by omega) ok3.1 ok3.2.1 (by have := ok3.2.2; omega) rfl hq_49 rfl (Nat.le_of_ble_eq_true rfl) ⟨⟨_, rfl, hq_49⟩, okA_If _, trivial⟩ (fun v6 T6 h6 m6 k6 f6 lh6 r6 => ?_)
  obtain ⟨w6, rfl, hw6, cd6⟩ := r6
  obtain ⟨x6, rfl, l6, u6⟩ := tint_sp rfl hw6
  have ok6 : wOK (zPhi (t, t, none, v)) h.length T6 h6 := ⟨k6, f6, Nat.le_trans lh6 ok3.2.2⟩
  have hq_0 := m6 _ _ hq_0
  have hq_49 := m6 _ _ hq_49
  show G (1129, [(3, .inl (.int i)), (2, .inl (.ref 49)), (1, .inl (.ref 0)), (0, .inl (.ref 10000000))], [.inl (.int x6)], h6, nc, ns)
  refine zrn_ok HW 2 (zB_iff.mpr (?_ : G (1662, [(3, .inl (.int i)), (2, .inl (.ref 49)), (1, .inl (.ref 0)), (0, .inl (.ref 10000000))], [], h6, nc, ns)))
  exact nxt T6 h6 _ _ 0 0 (wOK_up ok6 (by omega)) (Or.inl ⟨by decide, by decide, rfl⟩)

theorem lw_case29 {scr : List zV} {post : Option zV → zH → Bool} {G : zS → Prop} {D : Nat} {T : List Nat} {h : zH} {nc ns : Nat} {i : Int32} {t : Int} {v : Bool} (HW : zWalk zprog ze_L_law scr room_1.cells room_1.slots (zD zprog scr D) post G) (HWN : zWalk zprog ze_L_lawN scr room_1.cells room_1.slots (zD zprog scr D) post G) (hD : 300 ≤ D) (IHP : ∀ P : pP, tBel (zPhi P) scr 300) (hscr : ∀ j : Nat, (j : Int) < i.toInt + 6 → ∃ x : Int32, scr[j]? = some (.inl (.int x))) (hi0 : 0 ≤ i.toInt ∧ i.toInt ≤ 100000) (ok : wOK (zPhi (t, t, none, v)) h.length T h) (hl : h.length + 4000 ≤ 1000000) (hc : nc + 4000 ≤ room_1.cells) (hs : ns + 980000 ≤ room_1.slots)
    (HP : ∀ (x : Int64) (pc : Nat), (pc = 449 ∨ pc = 464) → ∀ (h : zH) (nc ns : Nat), G (pc + 1, [(3, .inl (.int i)), (2, .inl (.ref 49)), (1, .inl (.ref 0)), (0, .inl (.ref 10000000))], [], h, nc, ns) → G (pc, [(3, .inl (.int i)), (2, .inl (.ref 49)), (1, .inl (.ref 0)), (0, .inl (.ref 10000000))], [.inl (.long x)], h, nc, ns))
    (nxt : ∀ (T' : List Nat) (h' : zH) (t' : Int) (v' : Bool) (dc ds : Nat), wOK (zPhi (t', t', none, v')) (h.length + dc) T' h' → ((dc ≤ 30 ∧ ds ≤ 3328 ∧ v' = v) ∨ (v = false ∧ v' = true ∧ dc ≤ 3843 ∧ ds ≤ 971974)) → G (1662, [(3, .inl (.int i)), (2, .inl (.ref 49)), (1, .inl (.ref 0)), (0, .inl (.ref 10000000))], [], h', nc + dc, ns + ds)) : G (1133, [(3, .inl (.int i)), (2, .inl (.ref 49)), (1, .inl (.ref 0)), (0, .inl (.ref 10000000))], [], h, nc, ns) := by
  have hq_0 : T[0]? = some 4 := ok.2.1.1.1
  have hq_49 : T[49]? = some 5 := ok.2.1.1.2.2.1
  refine zrn_ok HW 1 (zB_iff.mpr (?_ : G (1134, [(3, .inl (.int i)), (2, .inl (.ref 49)), (1, .inl (.ref 0)), (0, .inl (.ref 10000000))], [.inl (.ref 0)], h, nc, ns)))
  refine g_tVa (e := te_X4_bestPrice_0) (E' := ze_X4_bestPrice) (c := 0) (s := 0) HW (tLow_of (IHP _) hD) rfl rfl (show te_X4_bestPrice_0 ∈ [te_X4_bestPrice_0] from List.mem_cons_self) (by decide +kernel) (Nat.le_of_ble_eq_true rfl) rfl rfl (by omega) (by omega) ok.1 ok.2.1 (by have := ok.2.2; omega) rfl hq_0 rfl (Nat.le_of_ble_eq_true rfl) ⟨⟨_, rfl, hq_0⟩, trivial⟩ (fun v1 T1 h1 m1 k1 f1 lh1 r1 => ?_)
  obtain ⟨w1, rfl, hw1, cd1⟩ := r1
  obtain ⟨x1, rfl, l1, u1⟩ := tint_sp rfl hw1
  have l1 : (5 : Int) ≤ x1.toInt := l1
  have u1 : x1.toInt ≤ (95 : Int) := u1
  have ok1 : wOK (zPhi (t, t, none, v)) h.length T1 h1 := ⟨k1, f1, Nat.le_trans lh1 ok.2.2⟩
  have hq_0 := m1 _ _ hq_0
  have hq_49 := m1 _ _ hq_49
  show G (1137, [(3, .inl (.int i)), (2, .inl (.ref 49)), (1, .inl (.ref 0)), (0, .inl (.ref 10000000))], [.inl (.int x1)], h1, nc, ns)
  refine zrn_ok HW 2 (zB_iff.mpr (?_ : G (1139, [(3, .inl (.int i)), (2, .inl (.ref 49)), (1, .inl (.ref 0)), (0, .inl (.ref 10000000))], [.inl (.ref 49)], h1, nc, ns)))
  refine g_tVa (e := te_X5_bestPrice_0) (E' := ze_X5_bestPrice) (c := 0) (s := 0) HW (tLow_of (IHP _) hD) rfl rfl (show te_X5_bestPrice_0 ∈ [te_X5_bestPrice_0] from List.mem_cons_self) (by decide +kernel) (Nat.le_of_ble_eq_true rfl) rfl rfl (by omega) (by omega) ok1.1 ok1.2.1 (by have := ok1.2.2; omega) rfl hq_49 rfl (Nat.le_of_ble_eq_true rfl) ⟨⟨_, rfl, hq_49⟩, trivial⟩ (fun v2 T2 h2 m2 k2 f2 lh2 r2 => ?_)
  obtain ⟨w2, rfl, hw2, cd2⟩ := r2
  obtain ⟨x2, rfl, l2, u2⟩ := tint_sp rfl hw2
  have l2 : (0 : Int) ≤ x2.toInt := l2
  have u2 : x2.toInt ≤ (95 : Int) := u2
  have ok2 : wOK (zPhi (t, t, none, v)) h.length T2 h2 := ⟨k2, f2, Nat.le_trans lh2 ok1.2.2⟩
  have hq_0 := m2 _ _ hq_0
  have hq_49 := m2 _ _ hq_49
  show G (1142, [(3, .inl (.int i)), (2, .inl (.ref 49)), (1, .inl (.ref 0)), (0, .inl (.ref 10000000))], [.inl (.int x2)], h2, nc, ns)
  refine zrn_ok HW 2 (zB_iff.mpr (?_ : G (1662, [(3, .inl (.int i)), (2, .inl (.ref 49)), (1, .inl (.ref 0)), (0, .inl (.ref 10000000))], [], h2, nc, ns)))
  exact nxt T2 h2 _ _ 0 0 (wOK_up ok2 (by omega)) (Or.inl ⟨by decide, by decide, rfl⟩)

theorem lw_case30 {scr : List zV} {post : Option zV → zH → Bool} {G : zS → Prop} {D : Nat} {T : List Nat} {h : zH} {nc ns : Nat} {i : Int32} {t : Int} {v : Bool} (HW : zWalk zprog ze_L_law scr room_1.cells room_1.slots (zD zprog scr D) post G) (HWN : zWalk zprog ze_L_lawN scr room_1.cells room_1.slots (zD zprog scr D) post G) (hD : 300 ≤ D) (IHP : ∀ P : pP, tBel (zPhi P) scr 300) (hscr : ∀ j : Nat, (j : Int) < i.toInt + 6 → ∃ x : Int32, scr[j]? = some (.inl (.int x))) (hi0 : 0 ≤ i.toInt ∧ i.toInt ≤ 100000) (ok : wOK (zPhi (t, t, none, v)) h.length T h) (hl : h.length + 4000 ≤ 1000000) (hc : nc + 4000 ≤ room_1.cells) (hs : ns + 980000 ≤ room_1.slots)
    (HP : ∀ (x : Int64) (pc : Nat), (pc = 449 ∨ pc = 464) → ∀ (h : zH) (nc ns : Nat), G (pc + 1, [(3, .inl (.int i)), (2, .inl (.ref 49)), (1, .inl (.ref 0)), (0, .inl (.ref 10000000))], [], h, nc, ns) → G (pc, [(3, .inl (.int i)), (2, .inl (.ref 49)), (1, .inl (.ref 0)), (0, .inl (.ref 10000000))], [.inl (.long x)], h, nc, ns))
    (nxt : ∀ (T' : List Nat) (h' : zH) (t' : Int) (v' : Bool) (dc ds : Nat), wOK (zPhi (t', t', none, v')) (h.length + dc) T' h' → ((dc ≤ 30 ∧ ds ≤ 3328 ∧ v' = v) ∨ (v = false ∧ v' = true ∧ dc ≤ 3843 ∧ ds ≤ 971974)) → G (1662, [(3, .inl (.int i)), (2, .inl (.ref 49)), (1, .inl (.ref 0)), (0, .inl (.ref 10000000))], [], h', nc + dc, ns + ds)) : G (1146, [(3, .inl (.int i)), (2, .inl (.ref 49)), (1, .inl (.ref 0)), (0, .inl (.ref 10000000))], [], h, nc, ns) := by
  have hq_0 : T[0]? = some 4 := ok.2.1.1.1
  have hq_49 : T[49]? = some 5 := ok.2.1.1.2.2.1
  refine zrn_ok HW 1 (zB_iff.mpr (?_ : G (1147, [(3, .inl (.int i)), (2, .inl (.ref 49)), (1, .inl (.ref 0)), (0, .inl (.ref 10000000))], [.inl (.ref 0)], h, nc, ns)))
  refine g_tVa (e := te_X4_full_0) (E' := ze_X4_full) (c := 0) (s := 0) HW (tLow_of (IHP _) hD) rfl rfl (show te_X4_full_0 ∈ [te_X4_full_0] from List.mem_cons_self) (by decide +kernel) (Nat.le_of_ble_eq_true rfl) rfl rfl (by omega) (by omega) ok.1 ok.2.1 (by have := ok.2.2; omega) rfl hq_0 rfl (Nat.le_of_ble_eq_true rfl) ⟨⟨_, rfl, hq_0⟩, trivial⟩ (fun v1 T1 h1 m1 k1 f1 lh1 r1 => ?_)
  obtain ⟨w1, rfl, hw1, cd1⟩ := r1
  obtain ⟨x1, rfl, l1, u1⟩ := tint_sp rfl hw1
  have ok1 : wOK (zPhi (t, t, none, v)) h.length T1 h1 := ⟨k1, f1, Nat.le_trans lh1 ok.2.2⟩
  have hq_0 := m1 _ _ hq_0
  have hq_49 := m1 _ _ hq_49
  show G (1150, [(3, .inl (.int i)), (2, .inl (.ref 49)), (1, .inl (.ref 0)), (0, .inl (.ref 10000000))], [.inl (.int x1)], h1, nc, ns)
  refine zrn_ok HW 2 (zB_iff.mpr (?_ : G (1152, [(3, .inl (.int i)), (2, .inl (.ref 49)), (1, .inl (.ref 0)), (0, .inl (.ref 10000000))], [.inl (.ref 49)], h1, nc, ns)))
  refine g_tVa (e := te_X5_full_0) (E' := ze_X5_full) (c := 0) (s := 0) HW (tLow_of (IHP _) hD) rfl rfl (show te_X5_full_0 ∈ [te_X5_full_0] from List.mem_cons_self) (by decide +kernel) (Nat.le_of_ble_eq_true rfl) rfl rfl (by omega) (by omega) ok1.1 ok1.2.1 (by have := ok1.2.2; omega) rfl hq_49 rfl (Nat.le_of_ble_eq_true rfl) ⟨⟨_, rfl, hq_49⟩, trivial⟩ (fun v2 T2 h2 m2 k2 f2 lh2 r2 => ?_)
  obtain ⟨w2, rfl, hw2, cd2⟩ := r2
  obtain ⟨x2, rfl, l2, u2⟩ := tint_sp rfl hw2
  have ok2 : wOK (zPhi (t, t, none, v)) h.length T2 h2 := ⟨k2, f2, Nat.le_trans lh2 ok1.2.2⟩
  have hq_0 := m2 _ _ hq_0
  have hq_49 := m2 _ _ hq_49
  show G (1155, [(3, .inl (.int i)), (2, .inl (.ref 49)), (1, .inl (.ref 0)), (0, .inl (.ref 10000000))], [.inl (.int x2)], h2, nc, ns)
  refine zrn_ok HW 2 (zB_iff.mpr (?_ : G (1662, [(3, .inl (.int i)), (2, .inl (.ref 49)), (1, .inl (.ref 0)), (0, .inl (.ref 10000000))], [], h2, nc, ns)))
  exact nxt T2 h2 _ _ 0 0 (wOK_up ok2 (by omega)) (Or.inl ⟨by decide, by decide, rfl⟩)

theorem lw_case31 {scr : List zV} {post : Option zV → zH → Bool} {G : zS → Prop} {D : Nat} {T : List Nat} {h : zH} {nc ns : Nat} {i : Int32} {t : Int} {v : Bool} (HW : zWalk zprog ze_L_law scr room_1.cells room_1.slots (zD zprog scr D) post G) (HWN : zWalk zprog ze_L_lawN scr room_1.cells room_1.slots (zD zprog scr D) post G) (hD : 300 ≤ D) (IHP : ∀ P : pP, tBel (zPhi P) scr 300) (hscr : ∀ j : Nat, (j : Int) < i.toInt + 6 → ∃ x : Int32, scr[j]? = some (.inl (.int x))) (hi0 : 0 ≤ i.toInt ∧ i.toInt ≤ 100000) (ok : wOK (zPhi (t, t, none, v)) h.length T h) (hl : h.length + 4000 ≤ 1000000) (hc : nc + 4000 ≤ room_1.cells) (hs : ns + 980000 ≤ room_1.slots)
    (HP : ∀ (x : Int64) (pc : Nat), (pc = 449 ∨ pc = 464) → ∀ (h : zH) (nc ns : Nat), G (pc + 1, [(3, .inl (.int i)), (2, .inl (.ref 49)), (1, .inl (.ref 0)), (0, .inl (.ref 10000000))], [], h, nc, ns) → G (pc, [(3, .inl (.int i)), (2, .inl (.ref 49)), (1, .inl (.ref 0)), (0, .inl (.ref 10000000))], [.inl (.long x)], h, nc, ns))
    (nxt : ∀ (T' : List Nat) (h' : zH) (t' : Int) (v' : Bool) (dc ds : Nat), wOK (zPhi (t', t', none, v')) (h.length + dc) T' h' → ((dc ≤ 30 ∧ ds ≤ 3328 ∧ v' = v) ∨ (v = false ∧ v' = true ∧ dc ≤ 3843 ∧ ds ≤ 971974)) → G (1662, [(3, .inl (.int i)), (2, .inl (.ref 49)), (1, .inl (.ref 0)), (0, .inl (.ref 10000000))], [], h', nc + dc, ns + ds)) : G (1159, [(3, .inl (.int i)), (2, .inl (.ref 49)), (1, .inl (.ref 0)), (0, .inl (.ref 10000000))], [], h, nc, ns) := by
  have hq_0 : T[0]? = some 4 := ok.2.1.1.1
  have hq_49 : T[49]? = some 5 := ok.2.1.1.2.2.1
  have y1 : -2147483648 ≤ i.toInt + (1 : Int) → i.toInt + (1 : Int) ≤ 2147483647 → (i + (1 : Int32)).toInt = i.toInt + (1 : Int) := t_addC (x := i) (y := (1 : Int32))
  refine zrn_ok HW 5 (zB_iff.mpr (?_ : G (1164, [(3, .inl (.int i)), (2, .inl (.ref 49)), (1, .inl (.ref 0)), (0, .inl (.ref 10000000))], [.inl (.int (i + (1 : Int32))), .inl (.ref 10000000), .inl (.ref 0)], h, nc, ns)))
  obtain ⟨x2, s2⟩ := hscr ((i + (1 : Int32))).toInt.toNat (by omega)
  refine g_scr HW rfl (by omega) s2 ?_
  have y3 : -2147483648 ≤ i.toInt + (2 : Int) → i.toInt + (2 : Int) ≤ 2147483647 → (i + (2 : Int32)).toInt = i.toInt + (2 : Int) := t_addC (x := i) (y := (2 : Int32))
  refine zrn_ok HW 4 (zB_iff.mpr (?_ : G (1169, [(3, .inl (.int i)), (2, .inl (.ref 49)), (1, .inl (.ref 0)), (0, .inl (.ref 10000000))], [.inl (.int (i + (2 : Int32))), .inl (.ref 10000000), .inl (.int x2), .inl (.ref 0)], h, nc, ns)))
  obtain ⟨x4, s4⟩ := hscr ((i + (2 : Int32))).toInt.toNat (by omega)
  refine g_scr HW rfl (by omega) s4 ?_
  refine g_tVa (e := te_X4_guess_0) (E' := ze_X4_guess) (c := 0) (s := 0) HW (tLow_of (IHP _) hD) rfl rfl (show te_X4_guess_0 ∈ [te_X4_guess_0] from List.mem_cons_self) (by decide +kernel) (Nat.le_of_ble_eq_true rfl) rfl rfl (by omega) (by omega) ok.1 ok.2.1 (by have := ok.2.2; omega) rfl hq_0 rfl (Nat.le_of_ble_eq_true rfl) ⟨⟨_, rfl, hq_0⟩, okA_If _, okA_If _, trivial⟩ (fun v5 T5 h5 m5 k5 f5 lh5 r5 => ?_)
  obtain ⟨w5, rfl, hw5, cd5⟩ := r5
  obtain ⟨x5, rfl, l5, u5⟩ := tint_sp rfl hw5
  have ok5 : wOK (zPhi (t, t, none, v)) h.length T5 h5 := ⟨k5, f5, Nat.le_trans lh5 ok.2.2⟩
  have hq_0 := m5 _ _ hq_0
  have hq_49 := m5 _ _ hq_49
  show G (1173, [(3, .inl (.int i)), (2, .inl (.ref 49)), (1, .inl (.ref 0)), (0, .inl (.ref 10000000))], [.inl (.int x5)], h5, nc, ns)
  have y6 : -2147483648 ≤ i.toInt + (1 : Int) → i.toInt + (1 : Int) ≤ 2147483647 → (i + (1 : Int32)).toInt = i.toInt + (1 : Int) := t_addC (x := i) (y := (1 : Int32))
  refine zrn_ok HW 6 (zB_iff.mpr (?_ : G (1179, [(3, .inl (.int i)), (2, .inl (.ref 49)), (1, .inl (.ref 0)), (0, .inl (.ref 10000000))], [.inl (.int (i + (1 : Int32))), .inl (.ref 10000000), .inl (.ref 49)], h5, nc, ns)))
  obtain ⟨x7, s7⟩ := hscr ((i + (1 : Int32))).toInt.toNat (by omega)
  refine g_scr HW rfl (by omega) s7 ?_
  have y8 : -2147483648 ≤ i.toInt + (2 : Int) → i.toInt + (2 : Int) ≤ 2147483647 → (i + (2 : Int32)).toInt = i.toInt + (2 : Int) := t_addC (x := i) (y := (2 : Int32))
  refine zrn_ok HW 4 (zB_iff.mpr (?_ : G (1184, [(3, .inl (.int i)), (2, .inl (.ref 49)), (1, .inl (.ref 0)), (0, .inl (.ref 10000000))], [.inl (.int (i + (2 : Int32))), .inl (.ref 10000000), .inl (.int x7), .inl (.ref 49)], h5, nc, ns)))
  obtain ⟨x9, s9⟩ := hscr ((i + (2 : Int32))).toInt.toNat (by omega)
  refine g_scr HW rfl (by omega) s9 ?_
  refine g_tVa (e := te_X5_guess_0) (E' := ze_X5_guess) (c := 0) (s := 0) HW (tLow_of (IHP _) hD) rfl rfl (show te_X5_guess_0 ∈ [te_X5_guess_0] from List.mem_cons_self) (by decide +kernel) (Nat.le_of_ble_eq_true rfl) rfl rfl (by omega) (by omega) ok5.1 ok5.2.1 (by have := ok5.2.2; omega) rfl hq_49 rfl (Nat.le_of_ble_eq_true rfl) ⟨⟨_, rfl, hq_49⟩, okA_If _, okA_If _, trivial⟩ (fun v10 T10 h10 m10 k10 f10 lh10 r10 => ?_)
  obtain ⟨w10, rfl, hw10, cd10⟩ := r10
  obtain ⟨x10, rfl, l10, u10⟩ := tint_sp rfl hw10
  have l10 : ((-6) : Int) ≤ x10.toInt := l10
  have u10 : x10.toInt ≤ (60 : Int) := u10
  have ok10 : wOK (zPhi (t, t, none, v)) h.length T10 h10 := ⟨k10, f10, Nat.le_trans lh10 ok5.2.2⟩
  have hq_0 := m10 _ _ hq_0
  have hq_49 := m10 _ _ hq_49
  show G (1188, [(3, .inl (.int i)), (2, .inl (.ref 49)), (1, .inl (.ref 0)), (0, .inl (.ref 10000000))], [.inl (.int x10)], h10, nc, ns)
  refine zrn_ok HW 2 (zB_iff.mpr (?_ : G (1662, [(3, .inl (.int i)), (2, .inl (.ref 49)), (1, .inl (.ref 0)), (0, .inl (.ref 10000000))], [], h10, nc, ns)))
  exact nxt T10 h10 _ _ 0 0 (wOK_up ok10 (by omega)) (Or.inl ⟨by decide, by decide, rfl⟩)

theorem lw_case32 {scr : List zV} {post : Option zV → zH → Bool} {G : zS → Prop} {D : Nat} {T : List Nat} {h : zH} {nc ns : Nat} {i : Int32} {t : Int} {v : Bool} (HW : zWalk zprog ze_L_law scr room_1.cells room_1.slots (zD zprog scr D) post G) (HWN : zWalk zprog ze_L_lawN scr room_1.cells room_1.slots (zD zprog scr D) post G) (hD : 300 ≤ D) (IHP : ∀ P : pP, tBel (zPhi P) scr 300) (hscr : ∀ j : Nat, (j : Int) < i.toInt + 6 → ∃ x : Int32, scr[j]? = some (.inl (.int x))) (hi0 : 0 ≤ i.toInt ∧ i.toInt ≤ 100000) (ok : wOK (zPhi (t, t, none, v)) h.length T h) (hl : h.length + 4000 ≤ 1000000) (hc : nc + 4000 ≤ room_1.cells) (hs : ns + 980000 ≤ room_1.slots)
    (HP : ∀ (x : Int64) (pc : Nat), (pc = 449 ∨ pc = 464) → ∀ (h : zH) (nc ns : Nat), G (pc + 1, [(3, .inl (.int i)), (2, .inl (.ref 49)), (1, .inl (.ref 0)), (0, .inl (.ref 10000000))], [], h, nc, ns) → G (pc, [(3, .inl (.int i)), (2, .inl (.ref 49)), (1, .inl (.ref 0)), (0, .inl (.ref 10000000))], [.inl (.long x)], h, nc, ns))
    (nxt : ∀ (T' : List Nat) (h' : zH) (t' : Int) (v' : Bool) (dc ds : Nat), wOK (zPhi (t', t', none, v')) (h.length + dc) T' h' → ((dc ≤ 30 ∧ ds ≤ 3328 ∧ v' = v) ∨ (v = false ∧ v' = true ∧ dc ≤ 3843 ∧ ds ≤ 971974)) → G (1662, [(3, .inl (.int i)), (2, .inl (.ref 49)), (1, .inl (.ref 0)), (0, .inl (.ref 10000000))], [], h', nc + dc, ns + ds)) : G (1192, [(3, .inl (.int i)), (2, .inl (.ref 49)), (1, .inl (.ref 0)), (0, .inl (.ref 10000000))], [], h, nc, ns) := by
  have hq_0 : T[0]? = some 4 := ok.2.1.1.1
  have hq_49 : T[49]? = some 5 := ok.2.1.1.2.2.1
  have y1 : -2147483648 ≤ i.toInt + (1 : Int) → i.toInt + (1 : Int) ≤ 2147483647 → (i + (1 : Int32)).toInt = i.toInt + (1 : Int) := t_addC (x := i) (y := (1 : Int32))
  refine zrn_ok HW 5 (zB_iff.mpr (?_ : G (1197, [(3, .inl (.int i)), (2, .inl (.ref 49)), (1, .inl (.ref 0)), (0, .inl (.ref 10000000))], [.inl (.int (i + (1 : Int32))), .inl (.ref 10000000), .inl (.ref 0)], h, nc, ns)))
  obtain ⟨x2, s2⟩ := hscr ((i + (1 : Int32))).toInt.toNat (by omega)
  refine g_scr HW rfl (by omega) s2 ?_
  have y3 : -2147483648 ≤ i.toInt + (2 : Int) → i.toInt + (2 : Int) ≤ 2147483647 → (i + (2 : Int32)).toInt = i.toInt + (2 : Int) := t_addC (x := i) (y := (2 : Int32))
  refine zrn_ok HW 4 (zB_iff.mpr (?_ : G (1202, [(3, .inl (.int i)), (2, .inl (.ref 49)), (1, .inl (.ref 0)), (0, .inl (.ref 10000000))], [.inl (.int (i + (2 : Int32))), .inl (.ref 10000000), .inl (.int x2), .inl (.ref 0)], h, nc, ns)))
  obtain ⟨x4, s4⟩ := hscr ((i + (2 : Int32))).toInt.toNat (by omega)
  refine g_scr HW rfl (by omega) s4 ?_
  refine g_tVa (e := te_X4_suspect_0) (E' := ze_X4_suspect) (c := 0) (s := 0) HW (tLow_of (IHP _) hD) rfl rfl (show te_X4_suspect_0 ∈ [te_X4_suspect_0] from List.mem_cons_self) (by decide +kernel) (Nat.le_of_ble_eq_true rfl) rfl rfl (by omega) (by omega) ok.1 ok.2.1 (by have := ok.2.2; omega) rfl hq_0 rfl (Nat.le_of_ble_eq_true rfl) ⟨⟨_, rfl, hq_0⟩, okA_If _, okA_If _, trivial⟩ (fun v5 T5 h5 m5 k5 f5 lh5 r5 => ?_)
  obtain ⟨w5, rfl, hw5, cd5⟩ := r5
  obtain ⟨x5, rfl, l5, u5⟩ := tint_sp rfl hw5
  have ok5 : wOK (zPhi (t, t, none, v)) h.length T5 h5 := ⟨k5, f5, Nat.le_trans lh5 ok.2.2⟩
  have hq_0 := m5 _ _ hq_0
  have hq_49 := m5 _ _ hq_49
  show G (1206, [(3, .inl (.int i)), (2, .inl (.ref 49)), (1, .inl (.ref 0)), (0, .inl (.ref 10000000))], [.inl (.int x5)], h5, nc, ns)
  have y6 : -2147483648 ≤ i.toInt + (1 : Int) → i.toInt + (1 : Int) ≤ 2147483647 → (i + (1 : Int32)).toInt = i.toInt + (1 : Int) := t_addC (x := i) (y := (1 : Int32))
  refine zrn_ok HW 6 (zB_iff.mpr (?_ : G (1212, [(3, .inl (.int i)), (2, .inl (.ref 49)), (1, .inl (.ref 0)), (0, .inl (.ref 10000000))], [.inl (.int (i + (1 : Int32))), .inl (.ref 10000000), .inl (.ref 49)], h5, nc, ns)))
  obtain ⟨x7, s7⟩ := hscr ((i + (1 : Int32))).toInt.toNat (by omega)
  refine g_scr HW rfl (by omega) s7 ?_
  have y8 : -2147483648 ≤ i.toInt + (2 : Int) → i.toInt + (2 : Int) ≤ 2147483647 → (i + (2 : Int32)).toInt = i.toInt + (2 : Int) := t_addC (x := i) (y := (2 : Int32))
  refine zrn_ok HW 4 (zB_iff.mpr (?_ : G (1217, [(3, .inl (.int i)), (2, .inl (.ref 49)), (1, .inl (.ref 0)), (0, .inl (.ref 10000000))], [.inl (.int (i + (2 : Int32))), .inl (.ref 10000000), .inl (.int x7), .inl (.ref 49)], h5, nc, ns)))
  obtain ⟨x9, s9⟩ := hscr ((i + (2 : Int32))).toInt.toNat (by omega)
  refine g_scr HW rfl (by omega) s9 ?_
  refine g_tVa (e := te_X5_suspect_0) (E' := ze_X5_suspect) (c := 0) (s := 0) HW (tLow_of (IHP _) hD) rfl rfl (show te_X5_suspect_0 ∈ [te_X5_suspect_0] from List.mem_cons_self) (by decide +kernel) (Nat.le_of_ble_eq_true rfl) rfl rfl (by omega) (by omega) ok5.1 ok5.2.1 (by have := ok5.2.2; omega) rfl hq_49 rfl (Nat.le_of_ble_eq_true rfl) ⟨⟨_, rfl, hq_49⟩, okA_If _, okA_If _, trivial⟩ (fun v10 T10 h10 m10 k10 f10 lh10 r10 => ?_)
  obtain ⟨w10, rfl, hw10, cd10⟩ := r10
  obtain ⟨x10, rfl, l10, u10⟩ := tint_sp rfl hw10
  have ok10 : wOK (zPhi (t, t, none, v)) h.length T10 h10 := ⟨k10, f10, Nat.le_trans lh10 ok5.2.2⟩
  have hq_0 := m10 _ _ hq_0
  have hq_49 := m10 _ _ hq_49
  show G (1221, [(3, .inl (.int i)), (2, .inl (.ref 49)), (1, .inl (.ref 0)), (0, .inl (.ref 10000000))], [.inl (.int x10)], h10, nc, ns)
  refine zrn_ok HW 2 (zB_iff.mpr (?_ : G (1662, [(3, .inl (.int i)), (2, .inl (.ref 49)), (1, .inl (.ref 0)), (0, .inl (.ref 10000000))], [], h10, nc, ns)))
  exact nxt T10 h10 _ _ 0 0 (wOK_up ok10 (by omega)) (Or.inl ⟨by decide, by decide, rfl⟩)

theorem lw_case33 {scr : List zV} {post : Option zV → zH → Bool} {G : zS → Prop} {D : Nat} {T : List Nat} {h : zH} {nc ns : Nat} {i : Int32} {t : Int} {v : Bool} (HW : zWalk zprog ze_L_law scr room_1.cells room_1.slots (zD zprog scr D) post G) (HWN : zWalk zprog ze_L_lawN scr room_1.cells room_1.slots (zD zprog scr D) post G) (hD : 300 ≤ D) (IHP : ∀ P : pP, tBel (zPhi P) scr 300) (hscr : ∀ j : Nat, (j : Int) < i.toInt + 6 → ∃ x : Int32, scr[j]? = some (.inl (.int x))) (hi0 : 0 ≤ i.toInt ∧ i.toInt ≤ 100000) (ok : wOK (zPhi (t, t, none, v)) h.length T h) (hl : h.length + 4000 ≤ 1000000) (hc : nc + 4000 ≤ room_1.cells) (hs : ns + 980000 ≤ room_1.slots)
    (HP : ∀ (x : Int64) (pc : Nat), (pc = 449 ∨ pc = 464) → ∀ (h : zH) (nc ns : Nat), G (pc + 1, [(3, .inl (.int i)), (2, .inl (.ref 49)), (1, .inl (.ref 0)), (0, .inl (.ref 10000000))], [], h, nc, ns) → G (pc, [(3, .inl (.int i)), (2, .inl (.ref 49)), (1, .inl (.ref 0)), (0, .inl (.ref 10000000))], [.inl (.long x)], h, nc, ns))
    (nxt : ∀ (T' : List Nat) (h' : zH) (t' : Int) (v' : Bool) (dc ds : Nat), wOK (zPhi (t', t', none, v')) (h.length + dc) T' h' → ((dc ≤ 30 ∧ ds ≤ 3328 ∧ v' = v) ∨ (v = false ∧ v' = true ∧ dc ≤ 3843 ∧ ds ≤ 971974)) → G (1662, [(3, .inl (.int i)), (2, .inl (.ref 49)), (1, .inl (.ref 0)), (0, .inl (.ref 10000000))], [], h', nc + dc, ns + ds)) : G (1225, [(3, .inl (.int i)), (2, .inl (.ref 49)), (1, .inl (.ref 0)), (0, .inl (.ref 10000000))], [], h, nc, ns) := by
  have hq_0 : T[0]? = some 4 := ok.2.1.1.1
  have hq_49 : T[49]? = some 5 := ok.2.1.1.2.2.1
  have y1 : -2147483648 ≤ i.toInt + (1 : Int) → i.toInt + (1 : Int) ≤ 2147483647 → (i + (1 : Int32)).toInt = i.toInt + (1 : Int) := t_addC (x := i) (y := (1 : Int32))
  refine zrn_ok HW 5 (zB_iff.mpr (?_ : G (1230, [(3, .inl (.int i)), (2, .inl (.ref 49)), (1, .inl (.ref 0)), (0, .inl (.ref 10000000))], [.inl (.int (i + (1 : Int32))), .inl (.ref 10000000), .inl (.ref 0)], h, nc, ns)))
  obtain ⟨x2, s2⟩ := hscr ((i + (1 : Int32))).toInt.toNat (by omega)
  refine g_scr HW rfl (by omega) s2 ?_
  have y3 : -2147483648 ≤ i.toInt + (2 : Int) → i.toInt + (2 : Int) ≤ 2147483647 → (i + (2 : Int32)).toInt = i.toInt + (2 : Int) := t_addC (x := i) (y := (2 : Int32))
  refine zrn_ok HW 4 (zB_iff.mpr (?_ : G (1235, [(3, .inl (.int i)), (2, .inl (.ref 49)), (1, .inl (.ref 0)), (0, .inl (.ref 10000000))], [.inl (.int (i + (2 : Int32))), .inl (.ref 10000000), .inl (.int x2), .inl (.ref 0)], h, nc, ns)))
  obtain ⟨x4, s4⟩ := hscr ((i + (2 : Int32))).toInt.toNat (by omega)
  refine g_scr HW rfl (by omega) s4 ?_
  refine g_tVa (e := te_X4_sure_0) (E' := ze_X4_sure) (c := 0) (s := 0) HW (tLow_of (IHP _) hD) rfl rfl (show te_X4_sure_0 ∈ [te_X4_sure_0] from List.mem_cons_self) (by decide +kernel) (Nat.le_of_ble_eq_true rfl) rfl rfl (by omega) (by omega) ok.1 ok.2.1 (by have := ok.2.2; omega) rfl hq_0 rfl (Nat.le_of_ble_eq_true rfl) ⟨⟨_, rfl, hq_0⟩, okA_If _, okA_If _, trivial⟩ (fun v5 T5 h5 m5 k5 f5 lh5 r5 => ?_)
  obtain ⟨w5, rfl, hw5, cd5⟩ := r5
  obtain ⟨x5, rfl, l5, u5⟩ := tint_sp rfl hw5
  have ok5 : wOK (zPhi (t, t, none, v)) h.length T5 h5 := ⟨k5, f5, Nat.le_trans lh5 ok.2.2⟩
  have hq_0 := m5 _ _ hq_0
  have hq_49 := m5 _ _ hq_49
  show G (1239, [(3, .inl (.int i)), (2, .inl (.ref 49)), (1, .inl (.ref 0)), (0, .inl (.ref 10000000))], [.inl (.int x5)], h5, nc, ns)
  have y6 : -2147483648 ≤ i.toInt + (1 : Int) → i.toInt + (1 : Int) ≤ 2147483647 → (i + (1 : Int32)).toInt = i.toInt + (1 : Int) := t_addC (x := i) (y := (1 : Int32))
  refine zrn_ok HW 6 (zB_iff.mpr (?_ : G (1245, [(3, .inl (.int i)), (2, .inl (.ref 49)), (1, .inl (.ref 0)), (0, .inl (.ref 10000000))], [.inl (.int (i + (1 : Int32))), .inl (.ref 10000000), .inl (.ref 49)], h5, nc, ns)))
  obtain ⟨x7, s7⟩ := hscr ((i + (1 : Int32))).toInt.toNat (by omega)
  refine g_scr HW rfl (by omega) s7 ?_
  have y8 : -2147483648 ≤ i.toInt + (2 : Int) → i.toInt + (2 : Int) ≤ 2147483647 → (i + (2 : Int32)).toInt = i.toInt + (2 : Int) := t_addC (x := i) (y := (2 : Int32))
  refine zrn_ok HW 4 (zB_iff.mpr (?_ : G (1250, [(3, .inl (.int i)), (2, .inl (.ref 49)), (1, .inl (.ref 0)), (0, .inl (.ref 10000000))], [.inl (.int (i + (2 : Int32))), .inl (.ref 10000000), .inl (.int x7), .inl (.ref 49)], h5, nc, ns)))
  obtain ⟨x9, s9⟩ := hscr ((i + (2 : Int32))).toInt.toNat (by omega)
  refine g_scr HW rfl (by omega) s9 ?_
  refine g_tVa (e := te_X5_sure_0) (E' := ze_X5_sure) (c := 0) (s := 0) HW (tLow_of (IHP _) hD) rfl rfl (show te_X5_sure_0 ∈ [te_X5_sure_0] from List.mem_cons_self) (by decide +kernel) (Nat.le_of_ble_eq_true rfl) rfl rfl (by omega) (by omega) ok5.1 ok5.2.1 (by have := ok5.2.2; omega) rfl hq_49 rfl (Nat.le_of_ble_eq_true rfl) ⟨⟨_, rfl, hq_49⟩, okA_If _, okA_If _, trivial⟩ (fun v10 T10 h10 m10 k10 f10 lh10 r10 => ?_)
  obtain ⟨w10, rfl, hw10, cd10⟩ := r10
  obtain ⟨x10, rfl, l10, u10⟩ := tint_sp rfl hw10
  have ok10 : wOK (zPhi (t, t, none, v)) h.length T10 h10 := ⟨k10, f10, Nat.le_trans lh10 ok5.2.2⟩
  have hq_0 := m10 _ _ hq_0
  have hq_49 := m10 _ _ hq_49
  show G (1254, [(3, .inl (.int i)), (2, .inl (.ref 49)), (1, .inl (.ref 0)), (0, .inl (.ref 10000000))], [.inl (.int x10)], h10, nc, ns)
  refine zrn_ok HW 2 (zB_iff.mpr (?_ : G (1662, [(3, .inl (.int i)), (2, .inl (.ref 49)), (1, .inl (.ref 0)), (0, .inl (.ref 10000000))], [], h10, nc, ns)))
  exact nxt T10 h10 _ _ 0 0 (wOK_up ok10 (by omega)) (Or.inl ⟨by decide, by decide, rfl⟩)

theorem lw_case34 {scr : List zV} {post : Option zV → zH → Bool} {G : zS → Prop} {D : Nat} {T : List Nat} {h : zH} {nc ns : Nat} {i : Int32} {t : Int} {v : Bool} (HW : zWalk zprog ze_L_law scr room_1.cells room_1.slots (zD zprog scr D) post G) (HWN : zWalk zprog ze_L_lawN scr room_1.cells room_1.slots (zD zprog scr D) post G) (hD : 300 ≤ D) (IHP : ∀ P : pP, tBel (zPhi P) scr 300) (hscr : ∀ j : Nat, (j : Int) < i.toInt + 6 → ∃ x : Int32, scr[j]? = some (.inl (.int x))) (hi0 : 0 ≤ i.toInt ∧ i.toInt ≤ 100000) (ok : wOK (zPhi (t, t, none, v)) h.length T h) (hl : h.length + 4000 ≤ 1000000) (hc : nc + 4000 ≤ room_1.cells) (hs : ns + 980000 ≤ room_1.slots)
    (HP : ∀ (x : Int64) (pc : Nat), (pc = 449 ∨ pc = 464) → ∀ (h : zH) (nc ns : Nat), G (pc + 1, [(3, .inl (.int i)), (2, .inl (.ref 49)), (1, .inl (.ref 0)), (0, .inl (.ref 10000000))], [], h, nc, ns) → G (pc, [(3, .inl (.int i)), (2, .inl (.ref 49)), (1, .inl (.ref 0)), (0, .inl (.ref 10000000))], [.inl (.long x)], h, nc, ns))
    (nxt : ∀ (T' : List Nat) (h' : zH) (t' : Int) (v' : Bool) (dc ds : Nat), wOK (zPhi (t', t', none, v')) (h.length + dc) T' h' → ((dc ≤ 30 ∧ ds ≤ 3328 ∧ v' = v) ∨ (v = false ∧ v' = true ∧ dc ≤ 3843 ∧ ds ≤ 971974)) → G (1662, [(3, .inl (.int i)), (2, .inl (.ref 49)), (1, .inl (.ref 0)), (0, .inl (.ref 10000000))], [], h', nc + dc, ns + ds)) : G (1258, [(3, .inl (.int i)), (2, .inl (.ref 49)), (1, .inl (.ref 0)), (0, .inl (.ref 10000000))], [], h, nc, ns) := by
  have hq_0 : T[0]? = some 4 := ok.2.1.1.1
  have hq_49 : T[49]? = some 5 := ok.2.1.1.2.2.1
  have y1 : -2147483648 ≤ i.toInt + (1 : Int) → i.toInt + (1 : Int) ≤ 2147483647 → (i + (1 : Int32)).toInt = i.toInt + (1 : Int) := t_addC (x := i) (y := (1 : Int32))
  refine zrn_ok HW 5 (zB_iff.mpr (?_ : G (1263, [(3, .inl (.int i)), (2, .inl (.ref 49)), (1, .inl (.ref 0)), (0, .inl (.ref 10000000))], [.inl (.int (i + (1 : Int32))), .inl (.ref 10000000), .inl (.ref 0)], h, nc, ns)))
  obtain ⟨x2, s2⟩ := hscr ((i + (1 : Int32))).toInt.toNat (by omega)
  refine g_scr HW rfl (by omega) s2 ?_
  refine g_tVa (e := te_X4_left_0) (E' := ze_X4_left) (c := 0) (s := 0) HW (tLow_of (IHP _) hD) rfl rfl (show te_X4_left_0 ∈ [te_X4_left_0] from List.mem_cons_self) (by decide +kernel) (Nat.le_of_ble_eq_true rfl) rfl rfl (by omega) (by omega) ok.1 ok.2.1 (by have := ok.2.2; omega) rfl hq_0 rfl (Nat.le_of_ble_eq_true rfl) ⟨⟨_, rfl, hq_0⟩, okA_If _, trivial⟩ (fun v3 T3 h3 m3 k3 f3 lh3 r3 => ?_)
  obtain ⟨w3, rfl, hw3, cd3⟩ := r3
  obtain ⟨x3, rfl, l3, u3⟩ := tint_sp rfl hw3
  have ok3 : wOK (zPhi (t, t, none, v)) h.length T3 h3 := ⟨k3, f3, Nat.le_trans lh3 ok.2.2⟩
  have hq_0 := m3 _ _ hq_0
  have hq_49 := m3 _ _ hq_49
  show G (1267, [(3, .inl (.int i)), (2, .inl (.ref 49)), (1, .inl (.ref 0)), (0, .inl (.ref 10000000))], [.inl (.int x3)], h3, nc, ns)
  have y4 : -2147483648 ≤ i.toInt + (1 : Int) → i.toInt + (1 : Int) ≤ 2147483647 → (i + (1 : Int32)).toInt = i.toInt + (1 : Int) := t_addC (x := i) (y := (1 : Int32))
  refine zrn_ok HW 6 (zB_iff.mpr (?_ : G (1273, [(3, .inl (.int i)), (2, .inl (.ref 49)), (1, .inl (.ref 0)), (0, .inl (.ref 10000000))], [.inl (.int (i + (1 : Int32))), .inl (.ref 10000000), .inl (.ref 49)], h3, nc, ns)))
  obtain ⟨x5, s5⟩ := hscr ((i + (1 : Int32))).toInt.toNat (by omega)
  refine g_scr HW rfl (by omega) s5 ?_
  refine g_tVa (e := te_X5_left_0) (E' := ze_X5_left) (c := 0) (s := 0) HW (tLow_of (IHP _) hD) rfl rfl (show te_X5_left_0 ∈ [te_X5_left_0] from List.mem_cons_self) (by decide +kernel) (Nat.le_of_ble_eq_true rfl) rfl rfl (by omega) (by omega) ok3.1 ok3.2.1 (by have := ok3.2.2; omega) rfl hq_49 rfl (Nat.le_of_ble_eq_true rfl) ⟨⟨_, rfl, hq_49⟩, okA_If _, trivial⟩ (fun v6 T6 h6 m6 k6 f6 lh6 r6 => ?_)
  obtain ⟨w6, rfl, hw6, cd6⟩ := r6
  obtain ⟨x6, rfl, l6, u6⟩ := tint_sp rfl hw6
  have ok6 : wOK (zPhi (t, t, none, v)) h.length T6 h6 := ⟨k6, f6, Nat.le_trans lh6 ok3.2.2⟩
  have hq_0 := m6 _ _ hq_0
  have hq_49 := m6 _ _ hq_49
  show G (1277, [(3, .inl (.int i)), (2, .inl (.ref 49)), (1, .inl (.ref 0)), (0, .inl (.ref 10000000))], [.inl (.int x6)], h6, nc, ns)
  refine zrn_ok HW 2 (zB_iff.mpr (?_ : G (1662, [(3, .inl (.int i)), (2, .inl (.ref 49)), (1, .inl (.ref 0)), (0, .inl (.ref 10000000))], [], h6, nc, ns)))
  exact nxt T6 h6 _ _ 0 0 (wOK_up ok6 (by omega)) (Or.inl ⟨by decide, by decide, rfl⟩)

theorem lw_case35 {scr : List zV} {post : Option zV → zH → Bool} {G : zS → Prop} {D : Nat} {T : List Nat} {h : zH} {nc ns : Nat} {i : Int32} {t : Int} {v : Bool} (HW : zWalk zprog ze_L_law scr room_1.cells room_1.slots (zD zprog scr D) post G) (HWN : zWalk zprog ze_L_lawN scr room_1.cells room_1.slots (zD zprog scr D) post G) (hD : 300 ≤ D) (IHP : ∀ P : pP, tBel (zPhi P) scr 300) (hscr : ∀ j : Nat, (j : Int) < i.toInt + 6 → ∃ x : Int32, scr[j]? = some (.inl (.int x))) (hi0 : 0 ≤ i.toInt ∧ i.toInt ≤ 100000) (ok : wOK (zPhi (t, t, none, v)) h.length T h) (hl : h.length + 4000 ≤ 1000000) (hc : nc + 4000 ≤ room_1.cells) (hs : ns + 980000 ≤ room_1.slots)
    (HP : ∀ (x : Int64) (pc : Nat), (pc = 449 ∨ pc = 464) → ∀ (h : zH) (nc ns : Nat), G (pc + 1, [(3, .inl (.int i)), (2, .inl (.ref 49)), (1, .inl (.ref 0)), (0, .inl (.ref 10000000))], [], h, nc, ns) → G (pc, [(3, .inl (.int i)), (2, .inl (.ref 49)), (1, .inl (.ref 0)), (0, .inl (.ref 10000000))], [.inl (.long x)], h, nc, ns))
    (nxt : ∀ (T' : List Nat) (h' : zH) (t' : Int) (v' : Bool) (dc ds : Nat), wOK (zPhi (t', t', none, v')) (h.length + dc) T' h' → ((dc ≤ 30 ∧ ds ≤ 3328 ∧ v' = v) ∨ (v = false ∧ v' = true ∧ dc ≤ 3843 ∧ ds ≤ 971974)) → G (1662, [(3, .inl (.int i)), (2, .inl (.ref 49)), (1, .inl (.ref 0)), (0, .inl (.ref 10000000))], [], h', nc + dc, ns + ds)) : G (1281, [(3, .inl (.int i)), (2, .inl (.ref 49)), (1, .inl (.ref 0)), (0, .inl (.ref 10000000))], [], h, nc, ns) := by
  have hq_0 : T[0]? = some 4 := ok.2.1.1.1
  have hq_49 : T[49]? = some 5 := ok.2.1.1.2.2.1
  have y1 : -2147483648 ≤ i.toInt + (1 : Int) → i.toInt + (1 : Int) ≤ 2147483647 → (i + (1 : Int32)).toInt = i.toInt + (1 : Int) := t_addC (x := i) (y := (1 : Int32))
  refine zrn_ok HW 5 (zB_iff.mpr (?_ : G (1286, [(3, .inl (.int i)), (2, .inl (.ref 49)), (1, .inl (.ref 0)), (0, .inl (.ref 10000000))], [.inl (.int (i + (1 : Int32))), .inl (.ref 10000000), .inl (.ref 0)], h, nc, ns)))
  obtain ⟨x2, s2⟩ := hscr ((i + (1 : Int32))).toInt.toNat (by omega)
  refine g_scr HW rfl (by omega) s2 ?_
  have y3 : -2147483648 ≤ i.toInt + (2 : Int) → i.toInt + (2 : Int) ≤ 2147483647 → (i + (2 : Int32)).toInt = i.toInt + (2 : Int) := t_addC (x := i) (y := (2 : Int32))
  refine zrn_ok HW 4 (zB_iff.mpr (?_ : G (1291, [(3, .inl (.int i)), (2, .inl (.ref 49)), (1, .inl (.ref 0)), (0, .inl (.ref 10000000))], [.inl (.int (i + (2 : Int32))), .inl (.ref 10000000), .inl (.int x2), .inl (.ref 0)], h, nc, ns)))
  obtain ⟨x4, s4⟩ := hscr ((i + (2 : Int32))).toInt.toNat (by omega)
  refine g_scr HW rfl (by omega) s4 ?_
  refine g_tVa (e := te_X4_judge_0) (E' := ze_X4_judge) (c := 0) (s := 0) HW (tLow_of (IHP _) hD) rfl rfl (show te_X4_judge_0 ∈ [te_X4_judge_0] from List.mem_cons_self) (by decide +kernel) (Nat.le_of_ble_eq_true rfl) rfl rfl (by omega) (by omega) ok.1 ok.2.1 (by have := ok.2.2; omega) rfl hq_0 rfl (Nat.le_of_ble_eq_true rfl) ⟨⟨_, rfl, hq_0⟩, okA_If _, okA_If _, trivial⟩ (fun v5 T5 h5 m5 k5 f5 lh5 r5 => ?_)
  obtain ⟨w5, rfl, hw5, cd5⟩ := r5
  obtain ⟨x5, rfl, l5, u5⟩ := tint_sp rfl hw5
  have ok5 : wOK (zPhi (t, t, none, v)) h.length T5 h5 := ⟨k5, f5, Nat.le_trans lh5 ok.2.2⟩
  have hq_0 := m5 _ _ hq_0
  have hq_49 := m5 _ _ hq_49
  show G (1295, [(3, .inl (.int i)), (2, .inl (.ref 49)), (1, .inl (.ref 0)), (0, .inl (.ref 10000000))], [.inl (.int x5)], h5, nc, ns)
  have y6 : -2147483648 ≤ i.toInt + (1 : Int) → i.toInt + (1 : Int) ≤ 2147483647 → (i + (1 : Int32)).toInt = i.toInt + (1 : Int) := t_addC (x := i) (y := (1 : Int32))
  refine zrn_ok HW 6 (zB_iff.mpr (?_ : G (1301, [(3, .inl (.int i)), (2, .inl (.ref 49)), (1, .inl (.ref 0)), (0, .inl (.ref 10000000))], [.inl (.int (i + (1 : Int32))), .inl (.ref 10000000), .inl (.ref 49)], h5, nc, ns)))
  obtain ⟨x7, s7⟩ := hscr ((i + (1 : Int32))).toInt.toNat (by omega)
  refine g_scr HW rfl (by omega) s7 ?_
  have y8 : -2147483648 ≤ i.toInt + (2 : Int) → i.toInt + (2 : Int) ≤ 2147483647 → (i + (2 : Int32)).toInt = i.toInt + (2 : Int) := t_addC (x := i) (y := (2 : Int32))
  refine zrn_ok HW 4 (zB_iff.mpr (?_ : G (1306, [(3, .inl (.int i)), (2, .inl (.ref 49)), (1, .inl (.ref 0)), (0, .inl (.ref 10000000))], [.inl (.int (i + (2 : Int32))), .inl (.ref 10000000), .inl (.int x7), .inl (.ref 49)], h5, nc, ns)))
  obtain ⟨x9, s9⟩ := hscr ((i + (2 : Int32))).toInt.toNat (by omega)
  refine g_scr HW rfl (by omega) s9 ?_
  refine g_tVa (e := te_X5_judge_0) (E' := ze_X5_judge) (c := 30) (s := 843) HW (tLow_of (IHP _) hD) rfl rfl (show te_X5_judge_0 ∈ [te_X5_judge_0] from List.mem_cons_self) (by decide +kernel) (Nat.le_of_ble_eq_true rfl) rfl rfl (by omega) (by omega) ok5.1 ok5.2.1 (by have := ok5.2.2; omega) rfl hq_49 rfl (Nat.le_of_ble_eq_true rfl) ⟨⟨_, rfl, hq_49⟩, okA_If _, okA_If _, trivial⟩ (fun v10 T10 h10 m10 k10 f10 lh10 r10 => ?_)
  obtain ⟨w10, rfl, hw10, cd10⟩ := r10
  obtain ⟨x10, rfl, l10, u10⟩ := tint_sp rfl hw10
  have ok10 : wOK (zPhi (t, t, none, v)) (h.length + 30) T10 h10 := ⟨k10, f10, Nat.le_trans lh10 (Nat.add_le_add_right ok5.2.2 _)⟩
  have hq_0 := m10 _ _ hq_0
  have hq_49 := m10 _ _ hq_49
  show G (1310, [(3, .inl (.int i)), (2, .inl (.ref 49)), (1, .inl (.ref 0)), (0, .inl (.ref 10000000))], [.inl (.int x10)], h10, (nc + 30), (ns + 843))
  refine zrn_ok HW 2 (zB_iff.mpr (?_ : G (1662, [(3, .inl (.int i)), (2, .inl (.ref 49)), (1, .inl (.ref 0)), (0, .inl (.ref 10000000))], [], h10, (nc + 30), (ns + 843))))
  exact nxt T10 h10 _ _ 30 843 (wOK_up ok10 (by omega)) (Or.inl ⟨by decide, by decide, rfl⟩)

theorem lw_case36 {scr : List zV} {post : Option zV → zH → Bool} {G : zS → Prop} {D : Nat} {T : List Nat} {h : zH} {nc ns : Nat} {i : Int32} {t : Int} {v : Bool} (HW : zWalk zprog ze_L_law scr room_1.cells room_1.slots (zD zprog scr D) post G) (HWN : zWalk zprog ze_L_lawN scr room_1.cells room_1.slots (zD zprog scr D) post G) (hD : 300 ≤ D) (IHP : ∀ P : pP, tBel (zPhi P) scr 300) (hscr : ∀ j : Nat, (j : Int) < i.toInt + 6 → ∃ x : Int32, scr[j]? = some (.inl (.int x))) (hi0 : 0 ≤ i.toInt ∧ i.toInt ≤ 100000) (ok : wOK (zPhi (t, t, none, v)) h.length T h) (hl : h.length + 4000 ≤ 1000000) (hc : nc + 4000 ≤ room_1.cells) (hs : ns + 980000 ≤ room_1.slots)
    (HP : ∀ (x : Int64) (pc : Nat), (pc = 449 ∨ pc = 464) → ∀ (h : zH) (nc ns : Nat), G (pc + 1, [(3, .inl (.int i)), (2, .inl (.ref 49)), (1, .inl (.ref 0)), (0, .inl (.ref 10000000))], [], h, nc, ns) → G (pc, [(3, .inl (.int i)), (2, .inl (.ref 49)), (1, .inl (.ref 0)), (0, .inl (.ref 10000000))], [.inl (.long x)], h, nc, ns))
    (nxt : ∀ (T' : List Nat) (h' : zH) (t' : Int) (v' : Bool) (dc ds : Nat), wOK (zPhi (t', t', none, v')) (h.length + dc) T' h' → ((dc ≤ 30 ∧ ds ≤ 3328 ∧ v' = v) ∨ (v = false ∧ v' = true ∧ dc ≤ 3843 ∧ ds ≤ 971974)) → G (1662, [(3, .inl (.int i)), (2, .inl (.ref 49)), (1, .inl (.ref 0)), (0, .inl (.ref 10000000))], [], h', nc + dc, ns + ds)) : G (1314, [(3, .inl (.int i)), (2, .inl (.ref 49)), (1, .inl (.ref 0)), (0, .inl (.ref 10000000))], [], h, nc, ns) := by
  have hq_0 : T[0]? = some 4 := ok.2.1.1.1
  have hq_49 : T[49]? = some 5 := ok.2.1.1.2.2.1
  have y1 : -2147483648 ≤ i.toInt + (1 : Int) → i.toInt + (1 : Int) ≤ 2147483647 → (i + (1 : Int32)).toInt = i.toInt + (1 : Int) := t_addC (x := i) (y := (1 : Int32))
  refine zrn_ok HW 5 (zB_iff.mpr (?_ : G (1319, [(3, .inl (.int i)), (2, .inl (.ref 49)), (1, .inl (.ref 0)), (0, .inl (.ref 10000000))], [.inl (.int (i + (1 : Int32))), .inl (.ref 10000000), .inl (.ref 0)], h, nc, ns)))
  obtain ⟨x2, s2⟩ := hscr ((i + (1 : Int32))).toInt.toNat (by omega)
  refine g_scr HW rfl (by omega) s2 ?_
  have y3 : -2147483648 ≤ i.toInt + (2 : Int) → i.toInt + (2 : Int) ≤ 2147483647 → (i + (2 : Int32)).toInt = i.toInt + (2 : Int) := t_addC (x := i) (y := (2 : Int32))
  refine zrn_ok HW 4 (zB_iff.mpr (?_ : G (1324, [(3, .inl (.int i)), (2, .inl (.ref 49)), (1, .inl (.ref 0)), (0, .inl (.ref 10000000))], [.inl (.int (i + (2 : Int32))), .inl (.ref 10000000), .inl (.int x2), .inl (.ref 0)], h, nc, ns)))
  obtain ⟨x4, s4⟩ := hscr ((i + (2 : Int32))).toInt.toNat (by omega)
  refine g_scr HW rfl (by omega) s4 ?_
  refine g_tVa (e := te_X4_won_0) (E' := ze_X4_won) (c := 0) (s := 0) HW (tLow_of (IHP _) hD) rfl rfl (show te_X4_won_0 ∈ [te_X4_won_0] from List.mem_cons_self) (by decide +kernel) (Nat.le_of_ble_eq_true rfl) rfl rfl (by omega) (by omega) ok.1 ok.2.1 (by have := ok.2.2; omega) rfl hq_0 rfl (Nat.le_of_ble_eq_true rfl) ⟨⟨_, rfl, hq_0⟩, okA_If _, okA_If _, trivial⟩ (fun v5 T5 h5 m5 k5 f5 lh5 r5 => ?_)
  obtain ⟨w5, rfl, hw5, cd5⟩ := r5
  obtain ⟨x5, rfl, l5, u5⟩ := tint_sp rfl hw5
  have ok5 : wOK (zPhi (t, t, none, v)) h.length T5 h5 := ⟨k5, f5, Nat.le_trans lh5 ok.2.2⟩
  have hq_0 := m5 _ _ hq_0
  have hq_49 := m5 _ _ hq_49
  show G (1328, [(3, .inl (.int i)), (2, .inl (.ref 49)), (1, .inl (.ref 0)), (0, .inl (.ref 10000000))], [.inl (.int x5)], h5, nc, ns)
  have y6 : -2147483648 ≤ i.toInt + (1 : Int) → i.toInt + (1 : Int) ≤ 2147483647 → (i + (1 : Int32)).toInt = i.toInt + (1 : Int) := t_addC (x := i) (y := (1 : Int32))
  refine zrn_ok HW 6 (zB_iff.mpr (?_ : G (1334, [(3, .inl (.int i)), (2, .inl (.ref 49)), (1, .inl (.ref 0)), (0, .inl (.ref 10000000))], [.inl (.int (i + (1 : Int32))), .inl (.ref 10000000), .inl (.ref 49)], h5, nc, ns)))
  obtain ⟨x7, s7⟩ := hscr ((i + (1 : Int32))).toInt.toNat (by omega)
  refine g_scr HW rfl (by omega) s7 ?_
  have y8 : -2147483648 ≤ i.toInt + (2 : Int) → i.toInt + (2 : Int) ≤ 2147483647 → (i + (2 : Int32)).toInt = i.toInt + (2 : Int) := t_addC (x := i) (y := (2 : Int32))
  refine zrn_ok HW 4 (zB_iff.mpr (?_ : G (1339, [(3, .inl (.int i)), (2, .inl (.ref 49)), (1, .inl (.ref 0)), (0, .inl (.ref 10000000))], [.inl (.int (i + (2 : Int32))), .inl (.ref 10000000), .inl (.int x7), .inl (.ref 49)], h5, nc, ns)))
  obtain ⟨x9, s9⟩ := hscr ((i + (2 : Int32))).toInt.toNat (by omega)
  refine g_scr HW rfl (by omega) s9 ?_
  refine g_tVa (e := te_X5_won_0) (E' := ze_X5_won) (c := 30) (s := 843) HW (tLow_of (IHP _) hD) rfl rfl (show te_X5_won_0 ∈ [te_X5_won_0] from List.mem_cons_self) (by decide +kernel) (Nat.le_of_ble_eq_true rfl) rfl rfl (by omega) (by omega) ok5.1 ok5.2.1 (by have := ok5.2.2; omega) rfl hq_49 rfl (Nat.le_of_ble_eq_true rfl) ⟨⟨_, rfl, hq_49⟩, okA_If _, okA_If _, trivial⟩ (fun v10 T10 h10 m10 k10 f10 lh10 r10 => ?_)
  obtain ⟨w10, rfl, hw10, cd10⟩ := r10
  obtain ⟨x10, rfl, l10, u10⟩ := tint_sp rfl hw10
  have ok10 : wOK (zPhi (t, t, none, v)) (h.length + 30) T10 h10 := ⟨k10, f10, Nat.le_trans lh10 (Nat.add_le_add_right ok5.2.2 _)⟩
  have hq_0 := m10 _ _ hq_0
  have hq_49 := m10 _ _ hq_49
  show G (1343, [(3, .inl (.int i)), (2, .inl (.ref 49)), (1, .inl (.ref 0)), (0, .inl (.ref 10000000))], [.inl (.int x10)], h10, (nc + 30), (ns + 843))
  refine zrn_ok HW 2 (zB_iff.mpr (?_ : G (1662, [(3, .inl (.int i)), (2, .inl (.ref 49)), (1, .inl (.ref 0)), (0, .inl (.ref 10000000))], [], h10, (nc + 30), (ns + 843))))
  exact nxt T10 h10 _ _ 30 843 (wOK_up ok10 (by omega)) (Or.inl ⟨by decide, by decide, rfl⟩)

theorem lw_case37 {scr : List zV} {post : Option zV → zH → Bool} {G : zS → Prop} {D : Nat} {T : List Nat} {h : zH} {nc ns : Nat} {i : Int32} {t : Int} {v : Bool} (HW : zWalk zprog ze_L_law scr room_1.cells room_1.slots (zD zprog scr D) post G) (HWN : zWalk zprog ze_L_lawN scr room_1.cells room_1.slots (zD zprog scr D) post G) (hD : 300 ≤ D) (IHP : ∀ P : pP, tBel (zPhi P) scr 300) (hscr : ∀ j : Nat, (j : Int) < i.toInt + 6 → ∃ x : Int32, scr[j]? = some (.inl (.int x))) (hi0 : 0 ≤ i.toInt ∧ i.toInt ≤ 100000) (ok : wOK (zPhi (t, t, none, v)) h.length T h) (hl : h.length + 4000 ≤ 1000000) (hc : nc + 4000 ≤ room_1.cells) (hs : ns + 980000 ≤ room_1.slots)
    (HP : ∀ (x : Int64) (pc : Nat), (pc = 449 ∨ pc = 464) → ∀ (h : zH) (nc ns : Nat), G (pc + 1, [(3, .inl (.int i)), (2, .inl (.ref 49)), (1, .inl (.ref 0)), (0, .inl (.ref 10000000))], [], h, nc, ns) → G (pc, [(3, .inl (.int i)), (2, .inl (.ref 49)), (1, .inl (.ref 0)), (0, .inl (.ref 10000000))], [.inl (.long x)], h, nc, ns))
    (nxt : ∀ (T' : List Nat) (h' : zH) (t' : Int) (v' : Bool) (dc ds : Nat), wOK (zPhi (t', t', none, v')) (h.length + dc) T' h' → ((dc ≤ 30 ∧ ds ≤ 3328 ∧ v' = v) ∨ (v = false ∧ v' = true ∧ dc ≤ 3843 ∧ ds ≤ 971974)) → G (1662, [(3, .inl (.int i)), (2, .inl (.ref 49)), (1, .inl (.ref 0)), (0, .inl (.ref 10000000))], [], h', nc + dc, ns + ds)) : G (1347, [(3, .inl (.int i)), (2, .inl (.ref 49)), (1, .inl (.ref 0)), (0, .inl (.ref 10000000))], [], h, nc, ns) := by
  have hq_0 : T[0]? = some 4 := ok.2.1.1.1
  have hq_49 : T[49]? = some 5 := ok.2.1.1.2.2.1
  have y1 : -2147483648 ≤ i.toInt + (1 : Int) → i.toInt + (1 : Int) ≤ 2147483647 → (i + (1 : Int32)).toInt = i.toInt + (1 : Int) := t_addC (x := i) (y := (1 : Int32))
  refine zrn_ok HW 5 (zB_iff.mpr (?_ : G (1352, [(3, .inl (.int i)), (2, .inl (.ref 49)), (1, .inl (.ref 0)), (0, .inl (.ref 10000000))], [.inl (.int (i + (1 : Int32))), .inl (.ref 10000000), .inl (.ref 0)], h, nc, ns)))
  obtain ⟨x2, s2⟩ := hscr ((i + (1 : Int32))).toInt.toNat (by omega)
  refine g_scr HW rfl (by omega) s2 ?_
  have y3 : -2147483648 ≤ i.toInt + (2 : Int) → i.toInt + (2 : Int) ≤ 2147483647 → (i + (2 : Int32)).toInt = i.toInt + (2 : Int) := t_addC (x := i) (y := (2 : Int32))
  refine zrn_ok HW 4 (zB_iff.mpr (?_ : G (1357, [(3, .inl (.int i)), (2, .inl (.ref 49)), (1, .inl (.ref 0)), (0, .inl (.ref 10000000))], [.inl (.int (i + (2 : Int32))), .inl (.ref 10000000), .inl (.int x2), .inl (.ref 0)], h, nc, ns)))
  obtain ⟨x4, s4⟩ := hscr ((i + (2 : Int32))).toInt.toNat (by omega)
  refine g_scr HW rfl (by omega) s4 ?_
  have y5 : -2147483648 ≤ i.toInt + (3 : Int) → i.toInt + (3 : Int) ≤ 2147483647 → (i + (3 : Int32)).toInt = i.toInt + (3 : Int) := t_addC (x := i) (y := (3 : Int32))
  refine zrn_ok HW 4 (zB_iff.mpr (?_ : G (1362, [(3, .inl (.int i)), (2, .inl (.ref 49)), (1, .inl (.ref 0)), (0, .inl (.ref 10000000))], [.inl (.int (i + (3 : Int32))), .inl (.ref 10000000), .inl (.int x4), .inl (.int x2), .inl (.ref 0)], h, nc, ns)))
  obtain ⟨x6, s6⟩ := hscr ((i + (3 : Int32))).toInt.toNat (by omega)
  refine g_scr HW rfl (by omega) s6 ?_
  refine g_tVa (e := te_X4_booked_0) (E' := ze_X4_booked) (c := 0) (s := 0) HW (tLow_of (IHP _) hD) rfl rfl (show te_X4_booked_0 ∈ [te_X4_booked_0] from List.mem_cons_self) (by decide +kernel) (Nat.le_of_ble_eq_true rfl) rfl rfl (by omega) (by omega) ok.1 ok.2.1 (by have := ok.2.2; omega) rfl hq_0 rfl (Nat.le_of_ble_eq_true rfl) ⟨⟨_, rfl, hq_0⟩, okA_If _, okA_If _, okA_If _, trivial⟩ (fun v7 T7 h7 m7 k7 f7 lh7 r7 => ?_)
  obtain ⟨w7, rfl, hw7, cd7⟩ := r7
  obtain ⟨x7, rfl, l7, u7⟩ := tint_sp rfl hw7
  have ok7 : wOK (zPhi (t, t, none, v)) h.length T7 h7 := ⟨k7, f7, Nat.le_trans lh7 ok.2.2⟩
  have hq_0 := m7 _ _ hq_0
  have hq_49 := m7 _ _ hq_49
  show G (1366, [(3, .inl (.int i)), (2, .inl (.ref 49)), (1, .inl (.ref 0)), (0, .inl (.ref 10000000))], [.inl (.int x7)], h7, nc, ns)
  have y8 : -2147483648 ≤ i.toInt + (1 : Int) → i.toInt + (1 : Int) ≤ 2147483647 → (i + (1 : Int32)).toInt = i.toInt + (1 : Int) := t_addC (x := i) (y := (1 : Int32))
  refine zrn_ok HW 6 (zB_iff.mpr (?_ : G (1372, [(3, .inl (.int i)), (2, .inl (.ref 49)), (1, .inl (.ref 0)), (0, .inl (.ref 10000000))], [.inl (.int (i + (1 : Int32))), .inl (.ref 10000000), .inl (.ref 49)], h7, nc, ns)))
  obtain ⟨x9, s9⟩ := hscr ((i + (1 : Int32))).toInt.toNat (by omega)
  refine g_scr HW rfl (by omega) s9 ?_
  have y10 : -2147483648 ≤ i.toInt + (2 : Int) → i.toInt + (2 : Int) ≤ 2147483647 → (i + (2 : Int32)).toInt = i.toInt + (2 : Int) := t_addC (x := i) (y := (2 : Int32))
  refine zrn_ok HW 4 (zB_iff.mpr (?_ : G (1377, [(3, .inl (.int i)), (2, .inl (.ref 49)), (1, .inl (.ref 0)), (0, .inl (.ref 10000000))], [.inl (.int (i + (2 : Int32))), .inl (.ref 10000000), .inl (.int x9), .inl (.ref 49)], h7, nc, ns)))
  obtain ⟨x11, s11⟩ := hscr ((i + (2 : Int32))).toInt.toNat (by omega)
  refine g_scr HW rfl (by omega) s11 ?_
  have y12 : -2147483648 ≤ i.toInt + (3 : Int) → i.toInt + (3 : Int) ≤ 2147483647 → (i + (3 : Int32)).toInt = i.toInt + (3 : Int) := t_addC (x := i) (y := (3 : Int32))
  refine zrn_ok HW 4 (zB_iff.mpr (?_ : G (1382, [(3, .inl (.int i)), (2, .inl (.ref 49)), (1, .inl (.ref 0)), (0, .inl (.ref 10000000))], [.inl (.int (i + (3 : Int32))), .inl (.ref 10000000), .inl (.int x11), .inl (.int x9), .inl (.ref 49)], h7, nc, ns)))
  obtain ⟨x13, s13⟩ := hscr ((i + (3 : Int32))).toInt.toNat (by omega)
  refine g_scr HW rfl (by omega) s13 ?_
  refine g_tVa (e := te_X5_booked_0) (E' := ze_X5_booked) (c := 30) (s := 843) HW (tLow_of (IHP _) hD) rfl rfl (show te_X5_booked_0 ∈ [te_X5_booked_0] from List.mem_cons_self) (by decide +kernel) (Nat.le_of_ble_eq_true rfl) rfl rfl (by omega) (by omega) ok7.1 ok7.2.1 (by have := ok7.2.2; omega) rfl hq_49 rfl (Nat.le_of_ble_eq_true rfl) ⟨⟨_, rfl, hq_49⟩, okA_If _, okA_If _, okA_If _, trivial⟩ (fun v14 T14 h14 m14 k14 f14 lh14 r14 => ?_)
  obtain ⟨w14, rfl, hw14, cd14⟩ := r14
  obtain ⟨x14, rfl, l14, u14⟩ := tint_sp rfl hw14
  have ok14 : wOK (zPhi (t, t, none, v)) (h.length + 30) T14 h14 := ⟨k14, f14, Nat.le_trans lh14 (Nat.add_le_add_right ok7.2.2 _)⟩
  have hq_0 := m14 _ _ hq_0
  have hq_49 := m14 _ _ hq_49
  show G (1386, [(3, .inl (.int i)), (2, .inl (.ref 49)), (1, .inl (.ref 0)), (0, .inl (.ref 10000000))], [.inl (.int x14)], h14, (nc + 30), (ns + 843))
  refine zrn_ok HW 2 (zB_iff.mpr (?_ : G (1662, [(3, .inl (.int i)), (2, .inl (.ref 49)), (1, .inl (.ref 0)), (0, .inl (.ref 10000000))], [], h14, (nc + 30), (ns + 843))))
  exact nxt T14 h14 _ _ 30 843 (wOK_up ok14 (by omega)) (Or.inl ⟨by decide, by decide, rfl⟩)

theorem lw_case38 {scr : List zV} {post : Option zV → zH → Bool} {G : zS → Prop} {D : Nat} {T : List Nat} {h : zH} {nc ns : Nat} {i : Int32} {t : Int} {v : Bool} (HW : zWalk zprog ze_L_law scr room_1.cells room_1.slots (zD zprog scr D) post G) (HWN : zWalk zprog ze_L_lawN scr room_1.cells room_1.slots (zD zprog scr D) post G) (hD : 300 ≤ D) (IHP : ∀ P : pP, tBel (zPhi P) scr 300) (hscr : ∀ j : Nat, (j : Int) < i.toInt + 6 → ∃ x : Int32, scr[j]? = some (.inl (.int x))) (hi0 : 0 ≤ i.toInt ∧ i.toInt ≤ 100000) (ok : wOK (zPhi (t, t, none, v)) h.length T h) (hl : h.length + 4000 ≤ 1000000) (hc : nc + 4000 ≤ room_1.cells) (hs : ns + 980000 ≤ room_1.slots)
    (HP : ∀ (x : Int64) (pc : Nat), (pc = 449 ∨ pc = 464) → ∀ (h : zH) (nc ns : Nat), G (pc + 1, [(3, .inl (.int i)), (2, .inl (.ref 49)), (1, .inl (.ref 0)), (0, .inl (.ref 10000000))], [], h, nc, ns) → G (pc, [(3, .inl (.int i)), (2, .inl (.ref 49)), (1, .inl (.ref 0)), (0, .inl (.ref 10000000))], [.inl (.long x)], h, nc, ns))
    (nxt : ∀ (T' : List Nat) (h' : zH) (t' : Int) (v' : Bool) (dc ds : Nat), wOK (zPhi (t', t', none, v')) (h.length + dc) T' h' → ((dc ≤ 30 ∧ ds ≤ 3328 ∧ v' = v) ∨ (v = false ∧ v' = true ∧ dc ≤ 3843 ∧ ds ≤ 971974)) → G (1662, [(3, .inl (.int i)), (2, .inl (.ref 49)), (1, .inl (.ref 0)), (0, .inl (.ref 10000000))], [], h', nc + dc, ns + ds)) : G (1390, [(3, .inl (.int i)), (2, .inl (.ref 49)), (1, .inl (.ref 0)), (0, .inl (.ref 10000000))], [], h, nc, ns) := by
  have hq_0 : T[0]? = some 4 := ok.2.1.1.1
  have hq_49 : T[49]? = some 5 := ok.2.1.1.2.2.1
  have y1 : -2147483648 ≤ i.toInt + (1 : Int) → i.toInt + (1 : Int) ≤ 2147483647 → (i + (1 : Int32)).toInt = i.toInt + (1 : Int) := t_addC (x := i) (y := (1 : Int32))
  refine zrn_ok HW 5 (zB_iff.mpr (?_ : G (1395, [(3, .inl (.int i)), (2, .inl (.ref 49)), (1, .inl (.ref 0)), (0, .inl (.ref 10000000))], [.inl (.int (i + (1 : Int32))), .inl (.ref 10000000), .inl (.ref 0)], h, nc, ns)))
  obtain ⟨x2, s2⟩ := hscr ((i + (1 : Int32))).toInt.toNat (by omega)
  refine g_scr HW rfl (by omega) s2 ?_
  refine g_tVa (e := te_X4_chain_0) (E' := ze_X4_chain) (c := 0) (s := 0) HW (tLow_of (IHP _) hD) rfl rfl (show te_X4_chain_0 ∈ [te_X4_chain_0] from List.mem_cons_self) (by decide +kernel) (Nat.le_of_ble_eq_true rfl) rfl rfl (by omega) (by omega) ok.1 ok.2.1 (by have := ok.2.2; omega) rfl hq_0 rfl (Nat.le_of_ble_eq_true rfl) ⟨⟨_, rfl, hq_0⟩, okA_If _, trivial⟩ (fun v3 T3 h3 m3 k3 f3 lh3 r3 => ?_)
  obtain ⟨w3, rfl, hw3, cd3⟩ := r3
  obtain ⟨x3, rfl, l3, u3⟩ := tint_sp rfl hw3
  have ok3 : wOK (zPhi (t, t, none, v)) h.length T3 h3 := ⟨k3, f3, Nat.le_trans lh3 ok.2.2⟩
  have hq_0 := m3 _ _ hq_0
  have hq_49 := m3 _ _ hq_49
  show G (1399, [(3, .inl (.int i)), (2, .inl (.ref 49)), (1, .inl (.ref 0)), (0, .inl (.ref 10000000))], [.inl (.int x3)], h3, nc, ns)
  have y4 : -2147483648 ≤ i.toInt + (1 : Int) → i.toInt + (1 : Int) ≤ 2147483647 → (i + (1 : Int32)).toInt = i.toInt + (1 : Int) := t_addC (x := i) (y := (1 : Int32))
  refine zrn_ok HW 6 (zB_iff.mpr (?_ : G (1405, [(3, .inl (.int i)), (2, .inl (.ref 49)), (1, .inl (.ref 0)), (0, .inl (.ref 10000000))], [.inl (.int (i + (1 : Int32))), .inl (.ref 10000000), .inl (.ref 49)], h3, nc, ns)))
  obtain ⟨x5, s5⟩ := hscr ((i + (1 : Int32))).toInt.toNat (by omega)
  refine g_scr HW rfl (by omega) s5 ?_
  refine g_tVa (e := te_X5_chain_0) (E' := ze_X5_chain) (c := 13) (s := 3328) HW (tLow_of (IHP _) hD) rfl rfl (show te_X5_chain_0 ∈ [te_X5_chain_0] from List.mem_cons_self) (by decide +kernel) (Nat.le_of_ble_eq_true rfl) rfl rfl (by omega) (by omega) ok3.1 ok3.2.1 (by have := ok3.2.2; omega) rfl hq_49 rfl (Nat.le_of_ble_eq_true rfl) ⟨⟨_, rfl, hq_49⟩, okA_If _, trivial⟩ (fun v6 T6 h6 m6 k6 f6 lh6 r6 => ?_)
  obtain ⟨w6, rfl, hw6, cd6⟩ := r6
  obtain ⟨x6, rfl, l6, u6⟩ := tint_sp rfl hw6
  have l6 : ((-6) : Int) ≤ x6.toInt := l6
  have u6 : x6.toInt ≤ (12 : Int) := u6
  have ok6 : wOK (zPhi (t, t, none, v)) (h.length + 13) T6 h6 := ⟨k6, f6, Nat.le_trans lh6 (Nat.add_le_add_right ok3.2.2 _)⟩
  have hq_0 := m6 _ _ hq_0
  have hq_49 := m6 _ _ hq_49
  show G (1409, [(3, .inl (.int i)), (2, .inl (.ref 49)), (1, .inl (.ref 0)), (0, .inl (.ref 10000000))], [.inl (.int x6)], h6, (nc + 13), (ns + 3328))
  refine zrn_ok HW 2 (zB_iff.mpr (?_ : G (1662, [(3, .inl (.int i)), (2, .inl (.ref 49)), (1, .inl (.ref 0)), (0, .inl (.ref 10000000))], [], h6, (nc + 13), (ns + 3328))))
  exact nxt T6 h6 _ _ 13 3328 (wOK_up ok6 (by omega)) (Or.inl ⟨by decide, by decide, rfl⟩)
