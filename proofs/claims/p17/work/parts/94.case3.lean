theorem lw_case39 {scr : List zV} {post : Option zV → zH → Bool} {G : zS → Prop} {D : Nat} {T : List Nat} {h : zH} {nc ns : Nat} {i : Int32} {t : Int} {v : Bool} (HW : zWalk zprog ze_L_law scr room_1.cells room_1.slots (zD zprog scr D) post G) (HWN : zWalk zprog ze_L_lawN scr room_1.cells room_1.slots (zD zprog scr D) post G) (hD : 300 ≤ D) (IHP : ∀ P : pP, tBel (zPhi P) scr 300) (hscr : ∀ j : Nat, (j : Int) < i.toInt + 6 → ∃ x : Int32, scr[j]? = some (.inl (.int x))) (hi0 : 0 ≤ i.toInt ∧ i.toInt ≤ 100000) (ok : wOK (zPhi (t, t, none, v)) h.length T h) (hl : h.length + 4000 ≤ 1000000) (hc : nc + 4000 ≤ room_1.cells) (hs : ns + 980000 ≤ room_1.slots)
    (HP : ∀ (x : Int64) (pc : Nat), (pc = 449 ∨ pc = 464) → ∀ (h : zH) (nc ns : Nat), G (pc + 1, [(3, .inl (.int i)), (2, .inl (.ref 49)), (1, .inl (.ref 0)), (0, .inl (.ref 10000000))], [], h, nc, ns) → G (pc, [(3, .inl (.int i)), (2, .inl (.ref 49)), (1, .inl (.ref 0)), (0, .inl (.ref 10000000))], [.inl (.long x)], h, nc, ns))
    (nxt : ∀ (T' : List Nat) (h' : zH) (t' : Int) (v' : Bool) (dc ds : Nat), wOK (zPhi (t', t', none, v')) (h.length + dc) T' h' → ((dc ≤ 30 ∧ ds ≤ 3328 ∧ v' = v) ∨ (v = false ∧ v' = true ∧ dc ≤ 3843 ∧ ds ≤ 971974)) → G (1662, [(3, .inl (.int i)), (2, .inl (.ref 49)), (1, .inl (.ref 0)), (0, .inl (.ref 10000000))], [], h', nc + dc, ns + ds)) : G (1413, [(3, .inl (.int i)), (2, .inl (.ref 49)), (1, .inl (.ref 0)), (0, .inl (.ref 10000000))], [], h, nc, ns) := by
  have hq_0 : T[0]? = some 4 := ok.2.1.1.1
  have hq_49 : T[49]? = some 5 := ok.2.1.1.2.2.1
  have y1 : -2147483648 ≤ i.toInt + (1 : Int) → i.toInt + (1 : Int) ≤ 2147483647 → (i + (1 : Int32)).toInt = i.toInt + (1 : Int) := t_addC (x := i) (y := (1 : Int32))
  refine zrn_ok HW 5 (zB_iff.mpr (?_ : G (1418, [(3, .inl (.int i)), (2, .inl (.ref 49)), (1, .inl (.ref 0)), (0, .inl (.ref 10000000))], [.inl (.int (i + (1 : Int32))), .inl (.ref 10000000), .inl (.ref 0)], h, nc, ns)))
  obtain ⟨x2, s2⟩ := hscr ((i + (1 : Int32))).toInt.toNat (by omega)
  refine g_scr HW rfl (by omega) s2 ?_
  refine g_tVa (e := te_X4_dearest_0) (E' := ze_X4_dearest) (c := 0) (s := 0) HW (tLow_of (IHP _) hD) rfl rfl (show te_X4_dearest_0 ∈ [te_X4_dearest_0] from List.mem_cons_self) (by decide +kernel) (Nat.le_of_ble_eq_true rfl) rfl rfl (by omega) (by omega) ok.1 ok.2.1 (by have := ok.2.2; omega) rfl hq_0 rfl (Nat.le_of_ble_eq_true rfl) ⟨⟨_, rfl, hq_0⟩, okA_If _, trivial⟩ (fun v3 T3 h3 m3 k3 f3 lh3 r3 => ?_)
  obtain ⟨w3, rfl, hw3, cd3⟩ := r3
  obtain ⟨x3, rfl, l3, u3⟩ := tint_sp rfl hw3
  have ok3 : wOK (zPhi (t, t, none, v)) h.length T3 h3 := ⟨k3, f3, Nat.le_trans lh3 ok.2.2⟩
  have hq_0 := m3 _ _ hq_0
  have hq_49 := m3 _ _ hq_49
  show G (1422, [(3, .inl (.int i)), (2, .inl (.ref 49)), (1, .inl (.ref 0)), (0, .inl (.ref 10000000))], [.inl (.int x3)], h3, nc, ns)
  have y4 : -2147483648 ≤ i.toInt + (1 : Int) → i.toInt + (1 : Int) ≤ 2147483647 → (i + (1 : Int32)).toInt = i.toInt + (1 : Int) := t_addC (x := i) (y := (1 : Int32))
  refine zrn_ok HW 6 (zB_iff.mpr (?_ : G (1428, [(3, .inl (.int i)), (2, .inl (.ref 49)), (1, .inl (.ref 0)), (0, .inl (.ref 10000000))], [.inl (.int (i + (1 : Int32))), .inl (.ref 10000000), .inl (.ref 49)], h3, nc, ns)))
  obtain ⟨x5, s5⟩ := hscr ((i + (1 : Int32))).toInt.toNat (by omega)
  refine g_scr HW rfl (by omega) s5 ?_
  refine g_tVa (e := te_X5_dearest_0) (E' := ze_X5_dearest) (c := 0) (s := 0) HW (tLow_of (IHP _) hD) rfl rfl (show te_X5_dearest_0 ∈ [te_X5_dearest_0] from List.mem_cons_self) (by decide +kernel) (Nat.le_of_ble_eq_true rfl) rfl rfl (by omega) (by omega) ok3.1 ok3.2.1 (by have := ok3.2.2; omega) rfl hq_49 rfl (Nat.le_of_ble_eq_true rfl) ⟨⟨_, rfl, hq_49⟩, okA_If _, trivial⟩ (fun v6 T6 h6 m6 k6 f6 lh6 r6 => ?_)
  obtain ⟨w6, rfl, hw6, cd6⟩ := r6
  obtain ⟨x6, rfl, l6, u6⟩ := tint_sp rfl hw6
  have l6 : ((-6) : Int) ≤ x6.toInt := l6
  have u6 : x6.toInt ≤ (7 : Int) := u6
  have ok6 : wOK (zPhi (t, t, none, v)) h.length T6 h6 := ⟨k6, f6, Nat.le_trans lh6 ok3.2.2⟩
  have hq_0 := m6 _ _ hq_0
  have hq_49 := m6 _ _ hq_49
  show G (1432, [(3, .inl (.int i)), (2, .inl (.ref 49)), (1, .inl (.ref 0)), (0, .inl (.ref 10000000))], [.inl (.int x6)], h6, nc, ns)
  refine zrn_ok HW 2 (zB_iff.mpr (?_ : G (1662, [(3, .inl (.int i)), (2, .inl (.ref 49)), (1, .inl (.ref 0)), (0, .inl (.ref 10000000))], [], h6, nc, ns)))
  exact nxt T6 h6 _ _ 0 0 (wOK_up ok6 (by omega)) (Or.inl ⟨by decide, by decide, rfl⟩)

theorem lw_case40 {scr : List zV} {post : Option zV → zH → Bool} {G : zS → Prop} {D : Nat} {T : List Nat} {h : zH} {nc ns : Nat} {i : Int32} {t : Int} {v : Bool} (HW : zWalk zprog ze_L_law scr room_1.cells room_1.slots (zD zprog scr D) post G) (HWN : zWalk zprog ze_L_lawN scr room_1.cells room_1.slots (zD zprog scr D) post G) (hD : 300 ≤ D) (IHP : ∀ P : pP, tBel (zPhi P) scr 300) (hscr : ∀ j : Nat, (j : Int) < i.toInt + 6 → ∃ x : Int32, scr[j]? = some (.inl (.int x))) (hi0 : 0 ≤ i.toInt ∧ i.toInt ≤ 100000) (ok : wOK (zPhi (t, t, none, v)) h.length T h) (hl : h.length + 4000 ≤ 1000000) (hc : nc + 4000 ≤ room_1.cells) (hs : ns + 980000 ≤ room_1.slots)
    (HP : ∀ (x : Int64) (pc : Nat), (pc = 449 ∨ pc = 464) → ∀ (h : zH) (nc ns : Nat), G (pc + 1, [(3, .inl (.int i)), (2, .inl (.ref 49)), (1, .inl (.ref 0)), (0, .inl (.ref 10000000))], [], h, nc, ns) → G (pc, [(3, .inl (.int i)), (2, .inl (.ref 49)), (1, .inl (.ref 0)), (0, .inl (.ref 10000000))], [.inl (.long x)], h, nc, ns))
    (nxt : ∀ (T' : List Nat) (h' : zH) (t' : Int) (v' : Bool) (dc ds : Nat), wOK (zPhi (t', t', none, v')) (h.length + dc) T' h' → ((dc ≤ 30 ∧ ds ≤ 3328 ∧ v' = v) ∨ (v = false ∧ v' = true ∧ dc ≤ 3843 ∧ ds ≤ 971974)) → G (1662, [(3, .inl (.int i)), (2, .inl (.ref 49)), (1, .inl (.ref 0)), (0, .inl (.ref 10000000))], [], h', nc + dc, ns + ds)) : G (1436, [(3, .inl (.int i)), (2, .inl (.ref 49)), (1, .inl (.ref 0)), (0, .inl (.ref 10000000))], [], h, nc, ns) := by
  have hq_0 : T[0]? = some 4 := ok.2.1.1.1
  have hq_49 : T[49]? = some 5 := ok.2.1.1.2.2.1
  have y1 : -2147483648 ≤ i.toInt + (1 : Int) → i.toInt + (1 : Int) ≤ 2147483647 → (i + (1 : Int32)).toInt = i.toInt + (1 : Int) := t_addC (x := i) (y := (1 : Int32))
  refine zrn_ok HW 5 (zB_iff.mpr (?_ : G (1441, [(3, .inl (.int i)), (2, .inl (.ref 49)), (1, .inl (.ref 0)), (0, .inl (.ref 10000000))], [.inl (.int (i + (1 : Int32))), .inl (.ref 10000000), .inl (.ref 0)], h, nc, ns)))
  obtain ⟨x2, s2⟩ := hscr ((i + (1 : Int32))).toInt.toNat (by omega)
  refine g_scr HW rfl (by omega) s2 ?_
  refine g_tVa (e := te_X4_fondest_0) (E' := ze_X4_fondest) (c := 0) (s := 0) HW (tLow_of (IHP _) hD) rfl rfl (show te_X4_fondest_0 ∈ [te_X4_fondest_0] from List.mem_cons_self) (by decide +kernel) (Nat.le_of_ble_eq_true rfl) rfl rfl (by omega) (by omega) ok.1 ok.2.1 (by have := ok.2.2; omega) rfl hq_0 rfl (Nat.le_of_ble_eq_true rfl) ⟨⟨_, rfl, hq_0⟩, okA_If _, trivial⟩ (fun v3 T3 h3 m3 k3 f3 lh3 r3 => ?_)
  obtain ⟨w3, rfl, hw3, cd3⟩ := r3
  obtain ⟨x3, rfl, l3, u3⟩ := tint_sp rfl hw3
  have ok3 : wOK (zPhi (t, t, none, v)) h.length T3 h3 := ⟨k3, f3, Nat.le_trans lh3 ok.2.2⟩
  have hq_0 := m3 _ _ hq_0
  have hq_49 := m3 _ _ hq_49
  show G (1445, [(3, .inl (.int i)), (2, .inl (.ref 49)), (1, .inl (.ref 0)), (0, .inl (.ref 10000000))], [.inl (.int x3)], h3, nc, ns)
  have y4 : -2147483648 ≤ i.toInt + (1 : Int) → i.toInt + (1 : Int) ≤ 2147483647 → (i + (1 : Int32)).toInt = i.toInt + (1 : Int) := t_addC (x := i) (y := (1 : Int32))
  refine zrn_ok HW 6 (zB_iff.mpr (?_ : G (1451, [(3, .inl (.int i)), (2, .inl (.ref 49)), (1, .inl (.ref 0)), (0, .inl (.ref 10000000))], [.inl (.int (i + (1 : Int32))), .inl (.ref 10000000), .inl (.ref 49)], h3, nc, ns)))
  obtain ⟨x5, s5⟩ := hscr ((i + (1 : Int32))).toInt.toNat (by omega)
  refine g_scr HW rfl (by omega) s5 ?_
  refine g_tVa (e := te_X5_fondest_0) (E' := ze_X5_fondest) (c := 0) (s := 0) HW (tLow_of (IHP _) hD) rfl rfl (show te_X5_fondest_0 ∈ [te_X5_fondest_0] from List.mem_cons_self) (by decide +kernel) (Nat.le_of_ble_eq_true rfl) rfl rfl (by omega) (by omega) ok3.1 ok3.2.1 (by have := ok3.2.2; omega) rfl hq_49 rfl (Nat.le_of_ble_eq_true rfl) ⟨⟨_, rfl, hq_49⟩, okA_If _, trivial⟩ (fun v6 T6 h6 m6 k6 f6 lh6 r6 => ?_)
  obtain ⟨w6, rfl, hw6, cd6⟩ := r6
  obtain ⟨x6, rfl, l6, u6⟩ := tint_sp rfl hw6
  have l6 : ((-6) : Int) ≤ x6.toInt := l6
  have u6 : x6.toInt ≤ (3 : Int) := u6
  have ok6 : wOK (zPhi (t, t, none, v)) h.length T6 h6 := ⟨k6, f6, Nat.le_trans lh6 ok3.2.2⟩
  have hq_0 := m6 _ _ hq_0
  have hq_49 := m6 _ _ hq_49
  show G (1455, [(3, .inl (.int i)), (2, .inl (.ref 49)), (1, .inl (.ref 0)), (0, .inl (.ref 10000000))], [.inl (.int x6)], h6, nc, ns)
  refine zrn_ok HW 2 (zB_iff.mpr (?_ : G (1662, [(3, .inl (.int i)), (2, .inl (.ref 49)), (1, .inl (.ref 0)), (0, .inl (.ref 10000000))], [], h6, nc, ns)))
  exact nxt T6 h6 _ _ 0 0 (wOK_up ok6 (by omega)) (Or.inl ⟨by decide, by decide, rfl⟩)

theorem lw_case41 {scr : List zV} {post : Option zV → zH → Bool} {G : zS → Prop} {D : Nat} {T : List Nat} {h : zH} {nc ns : Nat} {i : Int32} {t : Int} {v : Bool} (HW : zWalk zprog ze_L_law scr room_1.cells room_1.slots (zD zprog scr D) post G) (HWN : zWalk zprog ze_L_lawN scr room_1.cells room_1.slots (zD zprog scr D) post G) (hD : 300 ≤ D) (IHP : ∀ P : pP, tBel (zPhi P) scr 300) (hscr : ∀ j : Nat, (j : Int) < i.toInt + 6 → ∃ x : Int32, scr[j]? = some (.inl (.int x))) (hi0 : 0 ≤ i.toInt ∧ i.toInt ≤ 100000) (ok : wOK (zPhi (t, t, none, v)) h.length T h) (hl : h.length + 4000 ≤ 1000000) (hc : nc + 4000 ≤ room_1.cells) (hs : ns + 980000 ≤ room_1.slots)
    (HP : ∀ (x : Int64) (pc : Nat), (pc = 449 ∨ pc = 464) → ∀ (h : zH) (nc ns : Nat), G (pc + 1, [(3, .inl (.int i)), (2, .inl (.ref 49)), (1, .inl (.ref 0)), (0, .inl (.ref 10000000))], [], h, nc, ns) → G (pc, [(3, .inl (.int i)), (2, .inl (.ref 49)), (1, .inl (.ref 0)), (0, .inl (.ref 10000000))], [.inl (.long x)], h, nc, ns))
    (nxt : ∀ (T' : List Nat) (h' : zH) (t' : Int) (v' : Bool) (dc ds : Nat), wOK (zPhi (t', t', none, v')) (h.length + dc) T' h' → ((dc ≤ 30 ∧ ds ≤ 3328 ∧ v' = v) ∨ (v = false ∧ v' = true ∧ dc ≤ 3843 ∧ ds ≤ 971974)) → G (1662, [(3, .inl (.int i)), (2, .inl (.ref 49)), (1, .inl (.ref 0)), (0, .inl (.ref 10000000))], [], h', nc + dc, ns + ds)) : G (1459, [(3, .inl (.int i)), (2, .inl (.ref 49)), (1, .inl (.ref 0)), (0, .inl (.ref 10000000))], [], h, nc, ns) := by
  have hq_0 : T[0]? = some 4 := ok.2.1.1.1
  have hq_49 : T[49]? = some 5 := ok.2.1.1.2.2.1
  refine zrn_ok HW 1 (zB_iff.mpr (?_ : G (1460, [(3, .inl (.int i)), (2, .inl (.ref 49)), (1, .inl (.ref 0)), (0, .inl (.ref 10000000))], [.inl (.ref 0)], h, nc, ns)))
  refine g_tVa (e := te_X4_envy_0) (E' := ze_X4_envy) (c := 0) (s := 0) HW (tLow_of (IHP _) hD) rfl rfl (show te_X4_envy_0 ∈ [te_X4_envy_0] from List.mem_cons_self) (by decide +kernel) (Nat.le_of_ble_eq_true rfl) rfl rfl (by omega) (by omega) ok.1 ok.2.1 (by have := ok.2.2; omega) rfl hq_0 rfl (Nat.le_of_ble_eq_true rfl) ⟨⟨_, rfl, hq_0⟩, trivial⟩ (fun v1 T1 h1 m1 k1 f1 lh1 r1 => ?_)
  obtain ⟨w1, rfl, hw1, cd1⟩ := r1
  obtain ⟨x1, rfl, l1, u1⟩ := tint_sp rfl hw1
  have l1 : (0 : Int) ≤ x1.toInt := l1
  have u1 : x1.toInt ≤ (16 : Int) := u1
  have ok1 : wOK (zPhi (t, t, none, v)) h.length T1 h1 := ⟨k1, f1, Nat.le_trans lh1 ok.2.2⟩
  have hq_0 := m1 _ _ hq_0
  have hq_49 := m1 _ _ hq_49
  show G (1463, [(3, .inl (.int i)), (2, .inl (.ref 49)), (1, .inl (.ref 0)), (0, .inl (.ref 10000000))], [.inl (.int x1)], h1, nc, ns)
  refine zrn_ok HW 2 (zB_iff.mpr (?_ : G (1465, [(3, .inl (.int i)), (2, .inl (.ref 49)), (1, .inl (.ref 0)), (0, .inl (.ref 10000000))], [.inl (.ref 49)], h1, nc, ns)))
  refine g_tVa (e := te_X5_envy_0) (E' := ze_X5_envy) (c := 0) (s := 0) HW (tLow_of (IHP _) hD) rfl rfl (show te_X5_envy_0 ∈ [te_X5_envy_0] from List.mem_cons_self) (by decide +kernel) (Nat.le_of_ble_eq_true rfl) rfl rfl (by omega) (by omega) ok1.1 ok1.2.1 (by have := ok1.2.2; omega) rfl hq_49 rfl (Nat.le_of_ble_eq_true rfl) ⟨⟨_, rfl, hq_49⟩, trivial⟩ (fun v2 T2 h2 m2 k2 f2 lh2 r2 => ?_)
  obtain ⟨w2, rfl, hw2, cd2⟩ := r2
  obtain ⟨x2, rfl, l2, u2⟩ := tint_sp rfl hw2
  have l2 : (0 : Int) ≤ x2.toInt := l2
  have u2 : x2.toInt ≤ (12 : Int) := u2
  have ok2 : wOK (zPhi (t, t, none, v)) h.length T2 h2 := ⟨k2, f2, Nat.le_trans lh2 ok1.2.2⟩
  have hq_0 := m2 _ _ hq_0
  have hq_49 := m2 _ _ hq_49
  show G (1468, [(3, .inl (.int i)), (2, .inl (.ref 49)), (1, .inl (.ref 0)), (0, .inl (.ref 10000000))], [.inl (.int x2)], h2, nc, ns)
  refine zrn_ok HW 2 (zB_iff.mpr (?_ : G (1662, [(3, .inl (.int i)), (2, .inl (.ref 49)), (1, .inl (.ref 0)), (0, .inl (.ref 10000000))], [], h2, nc, ns)))
  exact nxt T2 h2 _ _ 0 0 (wOK_up ok2 (by omega)) (Or.inl ⟨by decide, by decide, rfl⟩)

theorem lw_case42 {scr : List zV} {post : Option zV → zH → Bool} {G : zS → Prop} {D : Nat} {T : List Nat} {h : zH} {nc ns : Nat} {i : Int32} {t : Int} {v : Bool} (HW : zWalk zprog ze_L_law scr room_1.cells room_1.slots (zD zprog scr D) post G) (HWN : zWalk zprog ze_L_lawN scr room_1.cells room_1.slots (zD zprog scr D) post G) (hD : 300 ≤ D) (IHP : ∀ P : pP, tBel (zPhi P) scr 300) (hscr : ∀ j : Nat, (j : Int) < i.toInt + 6 → ∃ x : Int32, scr[j]? = some (.inl (.int x))) (hi0 : 0 ≤ i.toInt ∧ i.toInt ≤ 100000) (ok : wOK (zPhi (t, t, none, v)) h.length T h) (hl : h.length + 4000 ≤ 1000000) (hc : nc + 4000 ≤ room_1.cells) (hs : ns + 980000 ≤ room_1.slots)
    (HP : ∀ (x : Int64) (pc : Nat), (pc = 449 ∨ pc = 464) → ∀ (h : zH) (nc ns : Nat), G (pc + 1, [(3, .inl (.int i)), (2, .inl (.ref 49)), (1, .inl (.ref 0)), (0, .inl (.ref 10000000))], [], h, nc, ns) → G (pc, [(3, .inl (.int i)), (2, .inl (.ref 49)), (1, .inl (.ref 0)), (0, .inl (.ref 10000000))], [.inl (.long x)], h, nc, ns))
    (nxt : ∀ (T' : List Nat) (h' : zH) (t' : Int) (v' : Bool) (dc ds : Nat), wOK (zPhi (t', t', none, v')) (h.length + dc) T' h' → ((dc ≤ 30 ∧ ds ≤ 3328 ∧ v' = v) ∨ (v = false ∧ v' = true ∧ dc ≤ 3843 ∧ ds ≤ 971974)) → G (1662, [(3, .inl (.int i)), (2, .inl (.ref 49)), (1, .inl (.ref 0)), (0, .inl (.ref 10000000))], [], h', nc + dc, ns + ds)) : G (1472, [(3, .inl (.int i)), (2, .inl (.ref 49)), (1, .inl (.ref 0)), (0, .inl (.ref 10000000))], [], h, nc, ns) := by
  have hq_0 : T[0]? = some 4 := ok.2.1.1.1
  have hq_49 : T[49]? = some 5 := ok.2.1.1.2.2.1
  refine zrn_ok HW 1 (zB_iff.mpr (?_ : G (1473, [(3, .inl (.int i)), (2, .inl (.ref 49)), (1, .inl (.ref 0)), (0, .inl (.ref 10000000))], [.inl (.ref 0)], h, nc, ns)))
  refine g_tVa (e := te_X4_poorest_0) (E' := ze_X4_poorest) (c := 0) (s := 0) HW (tLow_of (IHP _) hD) rfl rfl (show te_X4_poorest_0 ∈ [te_X4_poorest_0] from List.mem_cons_self) (by decide +kernel) (Nat.le_of_ble_eq_true rfl) rfl rfl (by omega) (by omega) ok.1 ok.2.1 (by have := ok.2.2; omega) rfl hq_0 rfl (Nat.le_of_ble_eq_true rfl) ⟨⟨_, rfl, hq_0⟩, trivial⟩ (fun v1 T1 h1 m1 k1 f1 lh1 r1 => ?_)
  obtain ⟨w1, rfl, hw1, cd1⟩ := r1
  obtain ⟨x1, rfl, l1, u1⟩ := tint_sp rfl hw1
  have ok1 : wOK (zPhi (t, t, none, v)) h.length T1 h1 := ⟨k1, f1, Nat.le_trans lh1 ok.2.2⟩
  have hq_0 := m1 _ _ hq_0
  have hq_49 := m1 _ _ hq_49
  show G (1476, [(3, .inl (.int i)), (2, .inl (.ref 49)), (1, .inl (.ref 0)), (0, .inl (.ref 10000000))], [.inl (.int x1)], h1, nc, ns)
  refine zrn_ok HW 2 (zB_iff.mpr (?_ : G (1478, [(3, .inl (.int i)), (2, .inl (.ref 49)), (1, .inl (.ref 0)), (0, .inl (.ref 10000000))], [.inl (.ref 49)], h1, nc, ns)))
  refine g_tVa (e := te_X5_poorest_0) (E' := ze_X5_poorest) (c := 0) (s := 0) HW (tLow_of (IHP _) hD) rfl rfl (show te_X5_poorest_0 ∈ [te_X5_poorest_0] from List.mem_cons_self) (by decide +kernel) (Nat.le_of_ble_eq_true rfl) rfl rfl (by omega) (by omega) ok1.1 ok1.2.1 (by have := ok1.2.2; omega) rfl hq_49 rfl (Nat.le_of_ble_eq_true rfl) ⟨⟨_, rfl, hq_49⟩, trivial⟩ (fun v2 T2 h2 m2 k2 f2 lh2 r2 => ?_)
  obtain ⟨w2, rfl, hw2, cd2⟩ := r2
  obtain ⟨x2, rfl, l2, u2⟩ := tint_sp rfl hw2
  have l2 : ((-6) : Int) ≤ x2.toInt := l2
  have u2 : x2.toInt ≤ (3 : Int) := u2
  have ok2 : wOK (zPhi (t, t, none, v)) h.length T2 h2 := ⟨k2, f2, Nat.le_trans lh2 ok1.2.2⟩
  have hq_0 := m2 _ _ hq_0
  have hq_49 := m2 _ _ hq_49
  show G (1481, [(3, .inl (.int i)), (2, .inl (.ref 49)), (1, .inl (.ref 0)), (0, .inl (.ref 10000000))], [.inl (.int x2)], h2, nc, ns)
  refine zrn_ok HW 2 (zB_iff.mpr (?_ : G (1662, [(3, .inl (.int i)), (2, .inl (.ref 49)), (1, .inl (.ref 0)), (0, .inl (.ref 10000000))], [], h2, nc, ns)))
  exact nxt T2 h2 _ _ 0 0 (wOK_up ok2 (by omega)) (Or.inl ⟨by decide, by decide, rfl⟩)

theorem lw_case43 {scr : List zV} {post : Option zV → zH → Bool} {G : zS → Prop} {D : Nat} {T : List Nat} {h : zH} {nc ns : Nat} {i : Int32} {t : Int} {v : Bool} (HW : zWalk zprog ze_L_law scr room_1.cells room_1.slots (zD zprog scr D) post G) (HWN : zWalk zprog ze_L_lawN scr room_1.cells room_1.slots (zD zprog scr D) post G) (hD : 300 ≤ D) (IHP : ∀ P : pP, tBel (zPhi P) scr 300) (hscr : ∀ j : Nat, (j : Int) < i.toInt + 6 → ∃ x : Int32, scr[j]? = some (.inl (.int x))) (hi0 : 0 ≤ i.toInt ∧ i.toInt ≤ 100000) (ok : wOK (zPhi (t, t, none, v)) h.length T h) (hl : h.length + 4000 ≤ 1000000) (hc : nc + 4000 ≤ room_1.cells) (hs : ns + 980000 ≤ room_1.slots)
    (HP : ∀ (x : Int64) (pc : Nat), (pc = 449 ∨ pc = 464) → ∀ (h : zH) (nc ns : Nat), G (pc + 1, [(3, .inl (.int i)), (2, .inl (.ref 49)), (1, .inl (.ref 0)), (0, .inl (.ref 10000000))], [], h, nc, ns) → G (pc, [(3, .inl (.int i)), (2, .inl (.ref 49)), (1, .inl (.ref 0)), (0, .inl (.ref 10000000))], [.inl (.long x)], h, nc, ns))
    (nxt : ∀ (T' : List Nat) (h' : zH) (t' : Int) (v' : Bool) (dc ds : Nat), wOK (zPhi (t', t', none, v')) (h.length + dc) T' h' → ((dc ≤ 30 ∧ ds ≤ 3328 ∧ v' = v) ∨ (v = false ∧ v' = true ∧ dc ≤ 3843 ∧ ds ≤ 971974)) → G (1662, [(3, .inl (.int i)), (2, .inl (.ref 49)), (1, .inl (.ref 0)), (0, .inl (.ref 10000000))], [], h', nc + dc, ns + ds)) : G (1485, [(3, .inl (.int i)), (2, .inl (.ref 49)), (1, .inl (.ref 0)), (0, .inl (.ref 10000000))], [], h, nc, ns) := by
  have hq_0 : T[0]? = some 4 := ok.2.1.1.1
  have hq_49 : T[49]? = some 5 := ok.2.1.1.2.2.1
  refine zrn_ok HW 1 (zB_iff.mpr (?_ : G (1486, [(3, .inl (.int i)), (2, .inl (.ref 49)), (1, .inl (.ref 0)), (0, .inl (.ref 10000000))], [.inl (.ref 0)], h, nc, ns)))
  refine g_tVa (e := te_X4_oldest_0) (E' := ze_X4_oldest) (c := 0) (s := 0) HW (tLow_of (IHP _) hD) rfl rfl (show te_X4_oldest_0 ∈ [te_X4_oldest_0] from List.mem_cons_self) (by decide +kernel) (Nat.le_of_ble_eq_true rfl) rfl rfl (by omega) (by omega) ok.1 ok.2.1 (by have := ok.2.2; omega) rfl hq_0 rfl (Nat.le_of_ble_eq_true rfl) ⟨⟨_, rfl, hq_0⟩, trivial⟩ (fun v1 T1 h1 m1 k1 f1 lh1 r1 => ?_)
  obtain ⟨w1, rfl, hw1, cd1⟩ := r1
  obtain ⟨x1, rfl, l1, u1⟩ := tint_sp rfl hw1
  have ok1 : wOK (zPhi (t, t, none, v)) h.length T1 h1 := ⟨k1, f1, Nat.le_trans lh1 ok.2.2⟩
  have hq_0 := m1 _ _ hq_0
  have hq_49 := m1 _ _ hq_49
  show G (1489, [(3, .inl (.int i)), (2, .inl (.ref 49)), (1, .inl (.ref 0)), (0, .inl (.ref 10000000))], [.inl (.int x1)], h1, nc, ns)
  refine zrn_ok HW 2 (zB_iff.mpr (?_ : G (1491, [(3, .inl (.int i)), (2, .inl (.ref 49)), (1, .inl (.ref 0)), (0, .inl (.ref 10000000))], [.inl (.ref 49)], h1, nc, ns)))
  refine g_tVa (e := te_X5_oldest_0) (E' := ze_X5_oldest) (c := 0) (s := 0) HW (tLow_of (IHP _) hD) rfl rfl (show te_X5_oldest_0 ∈ [te_X5_oldest_0] from List.mem_cons_self) (by decide +kernel) (Nat.le_of_ble_eq_true rfl) rfl rfl (by omega) (by omega) ok1.1 ok1.2.1 (by have := ok1.2.2; omega) rfl hq_49 rfl (Nat.le_of_ble_eq_true rfl) ⟨⟨_, rfl, hq_49⟩, trivial⟩ (fun v2 T2 h2 m2 k2 f2 lh2 r2 => ?_)
  obtain ⟨w2, rfl, hw2, cd2⟩ := r2
  obtain ⟨x2, rfl, l2, u2⟩ := tint_sp rfl hw2
  have l2 : ((-6) : Int) ≤ x2.toInt := l2
  have u2 : x2.toInt ≤ (7 : Int) := u2
  have ok2 : wOK (zPhi (t, t, none, v)) h.length T2 h2 := ⟨k2, f2, Nat.le_trans lh2 ok1.2.2⟩
  have hq_0 := m2 _ _ hq_0
  have hq_49 := m2 _ _ hq_49
  show G (1494, [(3, .inl (.int i)), (2, .inl (.ref 49)), (1, .inl (.ref 0)), (0, .inl (.ref 10000000))], [.inl (.int x2)], h2, nc, ns)
  refine zrn_ok HW 2 (zB_iff.mpr (?_ : G (1662, [(3, .inl (.int i)), (2, .inl (.ref 49)), (1, .inl (.ref 0)), (0, .inl (.ref 10000000))], [], h2, nc, ns)))
  exact nxt T2 h2 _ _ 0 0 (wOK_up ok2 (by omega)) (Or.inl ⟨by decide, by decide, rfl⟩)

theorem lw_case44 {scr : List zV} {post : Option zV → zH → Bool} {G : zS → Prop} {D : Nat} {T : List Nat} {h : zH} {nc ns : Nat} {i : Int32} {t : Int} {v : Bool} (HW : zWalk zprog ze_L_law scr room_1.cells room_1.slots (zD zprog scr D) post G) (HWN : zWalk zprog ze_L_lawN scr room_1.cells room_1.slots (zD zprog scr D) post G) (hD : 300 ≤ D) (IHP : ∀ P : pP, tBel (zPhi P) scr 300) (hscr : ∀ j : Nat, (j : Int) < i.toInt + 6 → ∃ x : Int32, scr[j]? = some (.inl (.int x))) (hi0 : 0 ≤ i.toInt ∧ i.toInt ≤ 100000) (ok : wOK (zPhi (t, t, none, v)) h.length T h) (hl : h.length + 4000 ≤ 1000000) (hc : nc + 4000 ≤ room_1.cells) (hs : ns + 980000 ≤ room_1.slots)
    (HP : ∀ (x : Int64) (pc : Nat), (pc = 449 ∨ pc = 464) → ∀ (h : zH) (nc ns : Nat), G (pc + 1, [(3, .inl (.int i)), (2, .inl (.ref 49)), (1, .inl (.ref 0)), (0, .inl (.ref 10000000))], [], h, nc, ns) → G (pc, [(3, .inl (.int i)), (2, .inl (.ref 49)), (1, .inl (.ref 0)), (0, .inl (.ref 10000000))], [.inl (.long x)], h, nc, ns))
    (nxt : ∀ (T' : List Nat) (h' : zH) (t' : Int) (v' : Bool) (dc ds : Nat), wOK (zPhi (t', t', none, v')) (h.length + dc) T' h' → ((dc ≤ 30 ∧ ds ≤ 3328 ∧ v' = v) ∨ (v = false ∧ v' = true ∧ dc ≤ 3843 ∧ ds ≤ 971974)) → G (1662, [(3, .inl (.int i)), (2, .inl (.ref 49)), (1, .inl (.ref 0)), (0, .inl (.ref 10000000))], [], h', nc + dc, ns + ds)) : G (1498, [(3, .inl (.int i)), (2, .inl (.ref 49)), (1, .inl (.ref 0)), (0, .inl (.ref 10000000))], [], h, nc, ns) := by
  have hq_0 : T[0]? = some 4 := ok.2.1.1.1
  have hq_49 : T[49]? = some 5 := ok.2.1.1.2.2.1
  have y1 : -2147483648 ≤ i.toInt + (1 : Int) → i.toInt + (1 : Int) ≤ 2147483647 → (i + (1 : Int32)).toInt = i.toInt + (1 : Int) := t_addC (x := i) (y := (1 : Int32))
  refine zrn_ok HW 5 (zB_iff.mpr (?_ : G (1503, [(3, .inl (.int i)), (2, .inl (.ref 49)), (1, .inl (.ref 0)), (0, .inl (.ref 10000000))], [.inl (.int (i + (1 : Int32))), .inl (.ref 10000000), .inl (.ref 0)], h, nc, ns)))
  obtain ⟨x2, s2⟩ := hscr ((i + (1 : Int32))).toInt.toNat (by omega)
  refine g_scr HW rfl (by omega) s2 ?_
  refine g_tVa (e := te_X4_go_0) (E' := ze_X4_go) (c := 0) (s := 0) HW (tLow_of (IHP _) hD) rfl rfl (show te_X4_go_0 ∈ [te_X4_go_0] from List.mem_cons_self) (by decide +kernel) (Nat.le_of_ble_eq_true rfl) rfl rfl (by omega) (by omega) ok.1 ok.2.1 (by have := ok.2.2; omega) rfl hq_0 rfl (Nat.le_of_ble_eq_true rfl) ⟨⟨_, rfl, hq_0⟩, okA_If _, trivial⟩ (fun v3 T3 h3 m3 k3 f3 lh3 r3 => ?_)
  obtain ⟨w3, rfl, hw3, cd3⟩ := r3
  obtain ⟨x3, rfl, l3, u3⟩ := tint_sp rfl hw3
  have ok3 : wOK (zPhi (t, t, none, v)) h.length T3 h3 := ⟨k3, f3, Nat.le_trans lh3 ok.2.2⟩
  have hq_0 := m3 _ _ hq_0
  have hq_49 := m3 _ _ hq_49
  show G (1507, [(3, .inl (.int i)), (2, .inl (.ref 49)), (1, .inl (.ref 0)), (0, .inl (.ref 10000000))], [.inl (.int x3)], h3, nc, ns)
  have y4 : -2147483648 ≤ i.toInt + (1 : Int) → i.toInt + (1 : Int) ≤ 2147483647 → (i + (1 : Int32)).toInt = i.toInt + (1 : Int) := t_addC (x := i) (y := (1 : Int32))
  refine zrn_ok HW 6 (zB_iff.mpr (?_ : G (1513, [(3, .inl (.int i)), (2, .inl (.ref 49)), (1, .inl (.ref 0)), (0, .inl (.ref 10000000))], [.inl (.int (i + (1 : Int32))), .inl (.ref 10000000), .inl (.ref 49)], h3, nc, ns)))
  obtain ⟨x5, s5⟩ := hscr ((i + (1 : Int32))).toInt.toNat (by omega)
  refine g_scr HW rfl (by omega) s5 ?_
  refine g_tVa (e := te_X5_go_0) (E' := ze_X5_go) (c := 0) (s := 0) HW (tLow_of (IHP _) hD) rfl rfl (show te_X5_go_0 ∈ [te_X5_go_0] from List.mem_cons_self) (by decide +kernel) (Nat.le_of_ble_eq_true rfl) rfl rfl (by omega) (by omega) ok3.1 ok3.2.1 (by have := ok3.2.2; omega) rfl hq_49 rfl (Nat.le_of_ble_eq_true rfl) ⟨⟨_, rfl, hq_49⟩, okA_If _, trivial⟩ (fun v6 T6 h6 m6 k6 f6 lh6 r6 => ?_)
  obtain ⟨w6, rfl, hw6, cd6⟩ := r6
  obtain ⟨x6, rfl, l6, u6⟩ := tint_sp rfl hw6
  have ok6 : wOK (zPhi (t, t, none, v)) h.length T6 h6 := ⟨k6, f6, Nat.le_trans lh6 ok3.2.2⟩
  have hq_0 := m6 _ _ hq_0
  have hq_49 := m6 _ _ hq_49
  show G (1517, [(3, .inl (.int i)), (2, .inl (.ref 49)), (1, .inl (.ref 0)), (0, .inl (.ref 10000000))], [.inl (.int x6)], h6, nc, ns)
  refine zrn_ok HW 2 (zB_iff.mpr (?_ : G (1662, [(3, .inl (.int i)), (2, .inl (.ref 49)), (1, .inl (.ref 0)), (0, .inl (.ref 10000000))], [], h6, nc, ns)))
  exact nxt T6 h6 _ _ 0 0 (wOK_up ok6 (by omega)) (Or.inl ⟨by decide, by decide, rfl⟩)

theorem lw_case45 {scr : List zV} {post : Option zV → zH → Bool} {G : zS → Prop} {D : Nat} {T : List Nat} {h : zH} {nc ns : Nat} {i : Int32} {t : Int} {v : Bool} (HW : zWalk zprog ze_L_law scr room_1.cells room_1.slots (zD zprog scr D) post G) (HWN : zWalk zprog ze_L_lawN scr room_1.cells room_1.slots (zD zprog scr D) post G) (hD : 300 ≤ D) (IHP : ∀ P : pP, tBel (zPhi P) scr 300) (hscr : ∀ j : Nat, (j : Int) < i.toInt + 6 → ∃ x : Int32, scr[j]? = some (.inl (.int x))) (hi0 : 0 ≤ i.toInt ∧ i.toInt ≤ 100000) (ok : wOK (zPhi (t, t, none, v)) h.length T h) (hl : h.length + 4000 ≤ 1000000) (hc : nc + 4000 ≤ room_1.cells) (hs : ns + 980000 ≤ room_1.slots)
    (HP : ∀ (x : Int64) (pc : Nat), (pc = 449 ∨ pc = 464) → ∀ (h : zH) (nc ns : Nat), G (pc + 1, [(3, .inl (.int i)), (2, .inl (.ref 49)), (1, .inl (.ref 0)), (0, .inl (.ref 10000000))], [], h, nc, ns) → G (pc, [(3, .inl (.int i)), (2, .inl (.ref 49)), (1, .inl (.ref 0)), (0, .inl (.ref 10000000))], [.inl (.long x)], h, nc, ns))
    (nxt : ∀ (T' : List Nat) (h' : zH) (t' : Int) (v' : Bool) (dc ds : Nat), wOK (zPhi (t', t', none, v')) (h.length + dc) T' h' → ((dc ≤ 30 ∧ ds ≤ 3328 ∧ v' = v) ∨ (v = false ∧ v' = true ∧ dc ≤ 3843 ∧ ds ≤ 971974)) → G (1662, [(3, .inl (.int i)), (2, .inl (.ref 49)), (1, .inl (.ref 0)), (0, .inl (.ref 10000000))], [], h', nc + dc, ns + ds)) : G (1521, [(3, .inl (.int i)), (2, .inl (.ref 49)), (1, .inl (.ref 0)), (0, .inl (.ref 10000000))], [], h, nc, ns) := by
  have hq_0 : T[0]? = some 4 := ok.2.1.1.1
  have hq_49 : T[49]? = some 5 := ok.2.1.1.2.2.1
  have y1 : -2147483648 ≤ i.toInt + (1 : Int) → i.toInt + (1 : Int) ≤ 2147483647 → (i + (1 : Int32)).toInt = i.toInt + (1 : Int) := t_addC (x := i) (y := (1 : Int32))
  refine zrn_ok HW 5 (zB_iff.mpr (?_ : G (1526, [(3, .inl (.int i)), (2, .inl (.ref 49)), (1, .inl (.ref 0)), (0, .inl (.ref 10000000))], [.inl (.int (i + (1 : Int32))), .inl (.ref 10000000), .inl (.ref 0)], h, nc, ns)))
  obtain ⟨x2, s2⟩ := hscr ((i + (1 : Int32))).toInt.toNat (by omega)
  refine g_scr HW rfl (by omega) s2 ?_
  refine g_tVa (e := te_X4_five_0) (E' := ze_X4_five) (c := 0) (s := 0) HW (tLow_of (IHP _) hD) rfl rfl (show te_X4_five_0 ∈ [te_X4_five_0] from List.mem_cons_self) (by decide +kernel) (Nat.le_of_ble_eq_true rfl) rfl rfl (by omega) (by omega) ok.1 ok.2.1 (by have := ok.2.2; omega) rfl hq_0 rfl (Nat.le_of_ble_eq_true rfl) ⟨⟨_, rfl, hq_0⟩, okA_If _, trivial⟩ (fun v3 T3 h3 m3 k3 f3 lh3 r3 => ?_)
  obtain ⟨w3, rfl, hw3, cd3⟩ := r3
  obtain ⟨x3, rfl, l3, u3⟩ := tint_sp rfl hw3
  have ok3 : wOK (zPhi (t, t, none, v)) h.length T3 h3 := ⟨k3, f3, Nat.le_trans lh3 ok.2.2⟩
  have hq_0 := m3 _ _ hq_0
  have hq_49 := m3 _ _ hq_49
  show G (1530, [(3, .inl (.int i)), (2, .inl (.ref 49)), (1, .inl (.ref 0)), (0, .inl (.ref 10000000))], [.inl (.int x3)], h3, nc, ns)
  have y4 : -2147483648 ≤ i.toInt + (1 : Int) → i.toInt + (1 : Int) ≤ 2147483647 → (i + (1 : Int32)).toInt = i.toInt + (1 : Int) := t_addC (x := i) (y := (1 : Int32))
  refine zrn_ok HW 6 (zB_iff.mpr (?_ : G (1536, [(3, .inl (.int i)), (2, .inl (.ref 49)), (1, .inl (.ref 0)), (0, .inl (.ref 10000000))], [.inl (.int (i + (1 : Int32))), .inl (.ref 10000000), .inl (.ref 49)], h3, nc, ns)))
  obtain ⟨x5, s5⟩ := hscr ((i + (1 : Int32))).toInt.toNat (by omega)
  refine g_scr HW rfl (by omega) s5 ?_
  refine g_tVa (e := te_X5_five_0) (E' := ze_X5_five) (c := 0) (s := 0) HW (tLow_of (IHP _) hD) rfl rfl (show te_X5_five_0 ∈ [te_X5_five_0] from List.mem_cons_self) (by decide +kernel) (Nat.le_of_ble_eq_true rfl) rfl rfl (by omega) (by omega) ok3.1 ok3.2.1 (by have := ok3.2.2; omega) rfl hq_49 rfl (Nat.le_of_ble_eq_true rfl) ⟨⟨_, rfl, hq_49⟩, okA_If _, trivial⟩ (fun v6 T6 h6 m6 k6 f6 lh6 r6 => ?_)
  obtain ⟨w6, rfl, hw6, cd6⟩ := r6
  obtain ⟨x6, rfl, l6, u6⟩ := tint_sp rfl hw6
  have ok6 : wOK (zPhi (t, t, none, v)) h.length T6 h6 := ⟨k6, f6, Nat.le_trans lh6 ok3.2.2⟩
  have hq_0 := m6 _ _ hq_0
  have hq_49 := m6 _ _ hq_49
  show G (1540, [(3, .inl (.int i)), (2, .inl (.ref 49)), (1, .inl (.ref 0)), (0, .inl (.ref 10000000))], [.inl (.int x6)], h6, nc, ns)
  refine zrn_ok HW 2 (zB_iff.mpr (?_ : G (1662, [(3, .inl (.int i)), (2, .inl (.ref 49)), (1, .inl (.ref 0)), (0, .inl (.ref 10000000))], [], h6, nc, ns)))
  exact nxt T6 h6 _ _ 0 0 (wOK_up ok6 (by omega)) (Or.inl ⟨by decide, by decide, rfl⟩)

theorem lw_case46 {scr : List zV} {post : Option zV → zH → Bool} {G : zS → Prop} {D : Nat} {T : List Nat} {h : zH} {nc ns : Nat} {i : Int32} {t : Int} {v : Bool} (HW : zWalk zprog ze_L_law scr room_1.cells room_1.slots (zD zprog scr D) post G) (HWN : zWalk zprog ze_L_lawN scr room_1.cells room_1.slots (zD zprog scr D) post G) (hD : 300 ≤ D) (IHP : ∀ P : pP, tBel (zPhi P) scr 300) (hscr : ∀ j : Nat, (j : Int) < i.toInt + 6 → ∃ x : Int32, scr[j]? = some (.inl (.int x))) (hi0 : 0 ≤ i.toInt ∧ i.toInt ≤ 100000) (ok : wOK (zPhi (t, t, none, v)) h.length T h) (hl : h.length + 4000 ≤ 1000000) (hc : nc + 4000 ≤ room_1.cells) (hs : ns + 980000 ≤ room_1.slots)
    (HP : ∀ (x : Int64) (pc : Nat), (pc = 449 ∨ pc = 464) → ∀ (h : zH) (nc ns : Nat), G (pc + 1, [(3, .inl (.int i)), (2, .inl (.ref 49)), (1, .inl (.ref 0)), (0, .inl (.ref 10000000))], [], h, nc, ns) → G (pc, [(3, .inl (.int i)), (2, .inl (.ref 49)), (1, .inl (.ref 0)), (0, .inl (.ref 10000000))], [.inl (.long x)], h, nc, ns))
    (nxt : ∀ (T' : List Nat) (h' : zH) (t' : Int) (v' : Bool) (dc ds : Nat), wOK (zPhi (t', t', none, v')) (h.length + dc) T' h' → ((dc ≤ 30 ∧ ds ≤ 3328 ∧ v' = v) ∨ (v = false ∧ v' = true ∧ dc ≤ 3843 ∧ ds ≤ 971974)) → G (1662, [(3, .inl (.int i)), (2, .inl (.ref 49)), (1, .inl (.ref 0)), (0, .inl (.ref 10000000))], [], h', nc + dc, ns + ds)) : G (1544, [(3, .inl (.int i)), (2, .inl (.ref 49)), (1, .inl (.ref 0)), (0, .inl (.ref 10000000))], [], h, nc, ns) := by
  have hq_0 : T[0]? = some 4 := ok.2.1.1.1
  have hq_49 : T[49]? = some 5 := ok.2.1.1.2.2.1
  have y1 : -2147483648 ≤ i.toInt + (1 : Int) → i.toInt + (1 : Int) ≤ 2147483647 → (i + (1 : Int32)).toInt = i.toInt + (1 : Int) := t_addC (x := i) (y := (1 : Int32))
  refine zrn_ok HW 5 (zB_iff.mpr (?_ : G (1549, [(3, .inl (.int i)), (2, .inl (.ref 49)), (1, .inl (.ref 0)), (0, .inl (.ref 10000000))], [.inl (.int (i + (1 : Int32))), .inl (.ref 10000000), .inl (.ref 0)], h, nc, ns)))
  obtain ⟨x2, s2⟩ := hscr ((i + (1 : Int32))).toInt.toNat (by omega)
  refine g_scr HW rfl (by omega) s2 ?_
  refine g_tVa (e := te_X4_plays_0) (E' := ze_X4_plays) (c := 0) (s := 0) HW (tLow_of (IHP _) hD) rfl rfl (show te_X4_plays_0 ∈ [te_X4_plays_0] from List.mem_cons_self) (by decide +kernel) (Nat.le_of_ble_eq_true rfl) rfl rfl (by omega) (by omega) ok.1 ok.2.1 (by have := ok.2.2; omega) rfl hq_0 rfl (Nat.le_of_ble_eq_true rfl) ⟨⟨_, rfl, hq_0⟩, okA_If _, trivial⟩ (fun v3 T3 h3 m3 k3 f3 lh3 r3 => ?_)
  obtain ⟨w3, rfl, hw3, cd3⟩ := r3
  obtain ⟨x3, rfl, l3, u3⟩ := tint_sp rfl hw3
  have ok3 : wOK (zPhi (t, t, none, v)) h.length T3 h3 := ⟨k3, f3, Nat.le_trans lh3 ok.2.2⟩
  have hq_0 := m3 _ _ hq_0
  have hq_49 := m3 _ _ hq_49
  show G (1553, [(3, .inl (.int i)), (2, .inl (.ref 49)), (1, .inl (.ref 0)), (0, .inl (.ref 10000000))], [.inl (.int x3)], h3, nc, ns)
  have y4 : -2147483648 ≤ i.toInt + (1 : Int) → i.toInt + (1 : Int) ≤ 2147483647 → (i + (1 : Int32)).toInt = i.toInt + (1 : Int) := t_addC (x := i) (y := (1 : Int32))
  refine zrn_ok HW 6 (zB_iff.mpr (?_ : G (1559, [(3, .inl (.int i)), (2, .inl (.ref 49)), (1, .inl (.ref 0)), (0, .inl (.ref 10000000))], [.inl (.int (i + (1 : Int32))), .inl (.ref 10000000), .inl (.ref 49)], h3, nc, ns)))
  obtain ⟨x5, s5⟩ := hscr ((i + (1 : Int32))).toInt.toNat (by omega)
  refine g_scr HW rfl (by omega) s5 ?_
  have fN6 : ∀ (y6 : Int32) (T6 : List Nat) (h6 : zH), tExt T3 T6 → wOK (zPhi (t, t, none, v)) h.length T6 h6 → G (1563, [(3, .inl (.int i)), (2, .inl (.ref 49)), (1, .inl (.ref 0)), (0, .inl (.ref 10000000))], [.inl (.int y6)], h6, nc + 0, ns + 0) := by
    intro y6 T6 h6 m6 ok6
    refine zrn_ok HW 2 (zB_iff.mpr (?_ : G (1662, [(3, .inl (.int i)), (2, .inl (.ref 49)), (1, .inl (.ref 0)), (0, .inl (.ref 10000000))], [], h6, nc + 0, ns + 0)))
    exact nxt T6 h6 _ _ 0 0 (wOK_up ok6 (by omega)) (Or.inl ⟨by decide, by decide, rfl⟩)
  have fA6 : v = false → ∀ (y6 : Int32) (T6 : List Nat) (h6 : zH), tExt T3 T6 → wOK (zPhi (t, t, none, true)) (h.length + 3843) T6 h6 → G (1563, [(3, .inl (.int i)), (2, .inl (.ref 49)), (1, .inl (.ref 0)), (0, .inl (.ref 10000000))], [.inl (.int y6)], h6, nc + 3843, ns + 971974) := by
    intro hv0 y6 T6 h6 m6 ok6
    refine zrn_ok HW 2 (zB_iff.mpr (?_ : G (1662, [(3, .inl (.int i)), (2, .inl (.ref 49)), (1, .inl (.ref 0)), (0, .inl (.ref 10000000))], [], h6, nc + 3843, ns + 971974)))
    exact nxt T6 h6 _ true 3843 971974 (wOK_up ok6 (by omega)) (Or.inr ⟨hv0, rfl, by decide, by decide⟩)
  by_cases hvn : v = true ∨ ¬ ((0 ≤ x5.toInt ∧ x5.toInt < hi h3 49 23) ∧ hi h3 49 11 ≤ hi h3 72 x5.toInt.toNat)
  · refine g_callV (E' := ze_X5_playsN) HWN rfl rfl (Nat.le_of_ble_eq_true rfl) (by show nc + 0 ≤ room_1.cells; omega) (by show ns + 0 ≤ room_1.slots; omega) ok3.1 rfl hq_49 rfl (Nat.le_of_ble_eq_true rfl) (by obtain ⟨D2, rfl⟩ : ∃ D2, D = D2 + 131 := ⟨D - 131, by omega⟩; exact c_playsN (tBel_le (IHP _) (by decide)) ok3 hvn (fun y6 T6 h6 m6 ok6 => zB_iff.mpr (fN6 y6 T6 h6 m6 ok6)))
  · have hv0 : v = false := by cases v; rfl; exact absurd (Or.inl rfl) hvn
    have nd : (0 ≤ x5.toInt ∧ x5.toInt < hi h3 49 23) ∧ hi h3 49 11 ≤ hi h3 72 x5.toInt.toNat := Classical.byContradiction (fun hn => hvn (Or.inr hn))
    refine g_callV (E' := ze_X5_plays) HW rfl rfl (Nat.le_of_ble_eq_true rfl) (by show nc + 3843 ≤ room_1.cells; omega) (by show ns + 971974 ≤ room_1.slots; omega) ok3.1 rfl hq_49 rfl (Nat.le_of_ble_eq_true rfl) (by obtain ⟨D2, rfl⟩ : ∃ D2, D = D2 + 131 := ⟨D - 131, by omega⟩; exact c_plays (N := 0) ⟨ok3.1, ok3.2.1, Nat.le_refl _⟩ (by have := ok3.2.2; omega) nd (fun y6 T6 h6 m6 ok6 => zB_iff.mpr (fA6 hv0 y6 T6 h6 m6 (wOK_up ok6 (by have := ok3.2.2; omega)))))

theorem lw_case47 {scr : List zV} {post : Option zV → zH → Bool} {G : zS → Prop} {D : Nat} {T : List Nat} {h : zH} {nc ns : Nat} {i : Int32} {t : Int} {v : Bool} (HW : zWalk zprog ze_L_law scr room_1.cells room_1.slots (zD zprog scr D) post G) (HWN : zWalk zprog ze_L_lawN scr room_1.cells room_1.slots (zD zprog scr D) post G) (hD : 300 ≤ D) (IHP : ∀ P : pP, tBel (zPhi P) scr 300) (hscr : ∀ j : Nat, (j : Int) < i.toInt + 6 → ∃ x : Int32, scr[j]? = some (.inl (.int x))) (hi0 : 0 ≤ i.toInt ∧ i.toInt ≤ 100000) (ok : wOK (zPhi (t, t, none, v)) h.length T h) (hl : h.length + 4000 ≤ 1000000) (hc : nc + 4000 ≤ room_1.cells) (hs : ns + 980000 ≤ room_1.slots)
    (HP : ∀ (x : Int64) (pc : Nat), (pc = 449 ∨ pc = 464) → ∀ (h : zH) (nc ns : Nat), G (pc + 1, [(3, .inl (.int i)), (2, .inl (.ref 49)), (1, .inl (.ref 0)), (0, .inl (.ref 10000000))], [], h, nc, ns) → G (pc, [(3, .inl (.int i)), (2, .inl (.ref 49)), (1, .inl (.ref 0)), (0, .inl (.ref 10000000))], [.inl (.long x)], h, nc, ns))
    (nxt : ∀ (T' : List Nat) (h' : zH) (t' : Int) (v' : Bool) (dc ds : Nat), wOK (zPhi (t', t', none, v')) (h.length + dc) T' h' → ((dc ≤ 30 ∧ ds ≤ 3328 ∧ v' = v) ∨ (v = false ∧ v' = true ∧ dc ≤ 3843 ∧ ds ≤ 971974)) → G (1662, [(3, .inl (.int i)), (2, .inl (.ref 49)), (1, .inl (.ref 0)), (0, .inl (.ref 10000000))], [], h', nc + dc, ns + ds)) : G (1567, [(3, .inl (.int i)), (2, .inl (.ref 49)), (1, .inl (.ref 0)), (0, .inl (.ref 10000000))], [], h, nc, ns) := by
  have hq_0 : T[0]? = some 4 := ok.2.1.1.1
  have hq_49 : T[49]? = some 5 := ok.2.1.1.2.2.1
  have y1 : -2147483648 ≤ i.toInt + (1 : Int) → i.toInt + (1 : Int) ≤ 2147483647 → (i + (1 : Int32)).toInt = i.toInt + (1 : Int) := t_addC (x := i) (y := (1 : Int32))
  refine zrn_ok HW 5 (zB_iff.mpr (?_ : G (1572, [(3, .inl (.int i)), (2, .inl (.ref 49)), (1, .inl (.ref 0)), (0, .inl (.ref 10000000))], [.inl (.int (i + (1 : Int32))), .inl (.ref 10000000), .inl (.ref 0)], h, nc, ns)))
  obtain ⟨x2, s2⟩ := hscr ((i + (1 : Int32))).toInt.toNat (by omega)
  refine g_scr HW rfl (by omega) s2 ?_
  refine g_tVa (e := te_X4_fete_0) (E' := ze_X4_fete) (c := 0) (s := 0) HW (tLow_of (IHP _) hD) rfl rfl (show te_X4_fete_0 ∈ [te_X4_fete_0] from List.mem_cons_self) (by decide +kernel) (Nat.le_of_ble_eq_true rfl) rfl rfl (by omega) (by omega) ok.1 ok.2.1 (by have := ok.2.2; omega) rfl hq_0 rfl (Nat.le_of_ble_eq_true rfl) ⟨⟨_, rfl, hq_0⟩, okA_If _, trivial⟩ (fun v3 T3 h3 m3 k3 f3 lh3 r3 => ?_)
  obtain ⟨w3, rfl, hw3, cd3⟩ := r3
  obtain ⟨x3, rfl, l3, u3⟩ := tint_sp rfl hw3
  have ok3 : wOK (zPhi (t, t, none, v)) h.length T3 h3 := ⟨k3, f3, Nat.le_trans lh3 ok.2.2⟩
  have hq_0 := m3 _ _ hq_0
  have hq_49 := m3 _ _ hq_49
  show G (1576, [(3, .inl (.int i)), (2, .inl (.ref 49)), (1, .inl (.ref 0)), (0, .inl (.ref 10000000))], [.inl (.int x3)], h3, nc, ns)
  have y4 : -2147483648 ≤ i.toInt + (1 : Int) → i.toInt + (1 : Int) ≤ 2147483647 → (i + (1 : Int32)).toInt = i.toInt + (1 : Int) := t_addC (x := i) (y := (1 : Int32))
  refine zrn_ok HW 6 (zB_iff.mpr (?_ : G (1582, [(3, .inl (.int i)), (2, .inl (.ref 49)), (1, .inl (.ref 0)), (0, .inl (.ref 10000000))], [.inl (.int (i + (1 : Int32))), .inl (.ref 10000000), .inl (.ref 49)], h3, nc, ns)))
  obtain ⟨x5, s5⟩ := hscr ((i + (1 : Int32))).toInt.toNat (by omega)
  refine g_scr HW rfl (by omega) s5 ?_
  refine g_tVa (e := te_X5_fete_0) (E' := ze_X5_fete) (c := 0) (s := 0) HW (tLow_of (IHP _) hD) rfl rfl (show te_X5_fete_0 ∈ [te_X5_fete_0] from List.mem_cons_self) (by decide +kernel) (Nat.le_of_ble_eq_true rfl) rfl rfl (by omega) (by omega) ok3.1 ok3.2.1 (by have := ok3.2.2; omega) rfl hq_49 rfl (Nat.le_of_ble_eq_true rfl) ⟨⟨_, rfl, hq_49⟩, okA_If _, trivial⟩ (fun v6 T6 h6 m6 k6 f6 lh6 r6 => ?_)
  obtain ⟨w6, rfl, hw6, cd6⟩ := r6
  obtain ⟨x6, rfl, l6, u6⟩ := tint_sp rfl hw6
  have ok6 : wOK (zPhi (t, t, none, v)) h.length T6 h6 := ⟨k6, f6, Nat.le_trans lh6 ok3.2.2⟩
  have hq_0 := m6 _ _ hq_0
  have hq_49 := m6 _ _ hq_49
  show G (1586, [(3, .inl (.int i)), (2, .inl (.ref 49)), (1, .inl (.ref 0)), (0, .inl (.ref 10000000))], [.inl (.int x6)], h6, nc, ns)
  refine zrn_ok HW 2 (zB_iff.mpr (?_ : G (1662, [(3, .inl (.int i)), (2, .inl (.ref 49)), (1, .inl (.ref 0)), (0, .inl (.ref 10000000))], [], h6, nc, ns)))
  exact nxt T6 h6 _ _ 0 0 (wOK_up ok6 (by omega)) (Or.inl ⟨by decide, by decide, rfl⟩)

theorem lw_case48 {scr : List zV} {post : Option zV → zH → Bool} {G : zS → Prop} {D : Nat} {T : List Nat} {h : zH} {nc ns : Nat} {i : Int32} {t : Int} {v : Bool} (HW : zWalk zprog ze_L_law scr room_1.cells room_1.slots (zD zprog scr D) post G) (HWN : zWalk zprog ze_L_lawN scr room_1.cells room_1.slots (zD zprog scr D) post G) (hD : 300 ≤ D) (IHP : ∀ P : pP, tBel (zPhi P) scr 300) (hscr : ∀ j : Nat, (j : Int) < i.toInt + 6 → ∃ x : Int32, scr[j]? = some (.inl (.int x))) (hi0 : 0 ≤ i.toInt ∧ i.toInt ≤ 100000) (ok : wOK (zPhi (t, t, none, v)) h.length T h) (hl : h.length + 4000 ≤ 1000000) (hc : nc + 4000 ≤ room_1.cells) (hs : ns + 980000 ≤ room_1.slots)
    (HP : ∀ (x : Int64) (pc : Nat), (pc = 449 ∨ pc = 464) → ∀ (h : zH) (nc ns : Nat), G (pc + 1, [(3, .inl (.int i)), (2, .inl (.ref 49)), (1, .inl (.ref 0)), (0, .inl (.ref 10000000))], [], h, nc, ns) → G (pc, [(3, .inl (.int i)), (2, .inl (.ref 49)), (1, .inl (.ref 0)), (0, .inl (.ref 10000000))], [.inl (.long x)], h, nc, ns))
    (nxt : ∀ (T' : List Nat) (h' : zH) (t' : Int) (v' : Bool) (dc ds : Nat), wOK (zPhi (t', t', none, v')) (h.length + dc) T' h' → ((dc ≤ 30 ∧ ds ≤ 3328 ∧ v' = v) ∨ (v = false ∧ v' = true ∧ dc ≤ 3843 ∧ ds ≤ 971974)) → G (1662, [(3, .inl (.int i)), (2, .inl (.ref 49)), (1, .inl (.ref 0)), (0, .inl (.ref 10000000))], [], h', nc + dc, ns + ds)) : G (1590, [(3, .inl (.int i)), (2, .inl (.ref 49)), (1, .inl (.ref 0)), (0, .inl (.ref 10000000))], [], h, nc, ns) := by
  have hq_0 : T[0]? = some 4 := ok.2.1.1.1
  have hq_49 : T[49]? = some 5 := ok.2.1.1.2.2.1
  have y1 : -2147483648 ≤ i.toInt + (1 : Int) → i.toInt + (1 : Int) ≤ 2147483647 → (i + (1 : Int32)).toInt = i.toInt + (1 : Int) := t_addC (x := i) (y := (1 : Int32))
  refine zrn_ok HW 5 (zB_iff.mpr (?_ : G (1595, [(3, .inl (.int i)), (2, .inl (.ref 49)), (1, .inl (.ref 0)), (0, .inl (.ref 10000000))], [.inl (.int (i + (1 : Int32))), .inl (.ref 10000000), .inl (.ref 0)], h, nc, ns)))
  obtain ⟨x2, s2⟩ := hscr ((i + (1 : Int32))).toInt.toNat (by omega)
  refine g_scr HW rfl (by omega) s2 ?_
  refine g_tVa (e := te_X4_seed_0) (E' := ze_X4_seed) (c := 0) (s := 0) HW (tLow_of (IHP _) hD) rfl rfl (show te_X4_seed_0 ∈ [te_X4_seed_0] from List.mem_cons_self) (by decide +kernel) (Nat.le_of_ble_eq_true rfl) rfl rfl (by omega) (by omega) ok.1 ok.2.1 (by have := ok.2.2; omega) rfl hq_0 rfl (Nat.le_of_ble_eq_true rfl) ⟨⟨_, rfl, hq_0⟩, okA_If _, trivial⟩ (fun v3 T3 h3 m3 k3 f3 lh3 r3 => ?_)
  obtain ⟨w3, rfl, hw3, cd3⟩ := r3
  obtain ⟨x3, rfl, l3, u3⟩ := tint_sp rfl hw3
  have ok3 : wOK (zPhi (t, t, none, v)) h.length T3 h3 := ⟨k3, f3, Nat.le_trans lh3 ok.2.2⟩
  have hq_0 := m3 _ _ hq_0
  have hq_49 := m3 _ _ hq_49
  show G (1599, [(3, .inl (.int i)), (2, .inl (.ref 49)), (1, .inl (.ref 0)), (0, .inl (.ref 10000000))], [.inl (.int x3)], h3, nc, ns)
  have y4 : -2147483648 ≤ i.toInt + (1 : Int) → i.toInt + (1 : Int) ≤ 2147483647 → (i + (1 : Int32)).toInt = i.toInt + (1 : Int) := t_addC (x := i) (y := (1 : Int32))
  refine zrn_ok HW 6 (zB_iff.mpr (?_ : G (1605, [(3, .inl (.int i)), (2, .inl (.ref 49)), (1, .inl (.ref 0)), (0, .inl (.ref 10000000))], [.inl (.int (i + (1 : Int32))), .inl (.ref 10000000), .inl (.ref 49)], h3, nc, ns)))
  obtain ⟨x5, s5⟩ := hscr ((i + (1 : Int32))).toInt.toNat (by omega)
  refine g_scr HW rfl (by omega) s5 ?_
  refine g_tVa (e := te_X5_seed_0) (E' := ze_X5_seed) (c := 0) (s := 0) HW (tLow_of (IHP _) hD) rfl rfl (show te_X5_seed_0 ∈ [te_X5_seed_0] from List.mem_cons_self) (by decide +kernel) (Nat.le_of_ble_eq_true rfl) rfl rfl (by omega) (by omega) ok3.1 ok3.2.1 (by have := ok3.2.2; omega) rfl hq_49 rfl (Nat.le_of_ble_eq_true rfl) ⟨⟨_, rfl, hq_49⟩, okA_If _, trivial⟩ (fun v6 T6 h6 m6 k6 f6 lh6 r6 => ?_)
  obtain ⟨w6, rfl, hw6, cd6⟩ := r6
  obtain ⟨x6, rfl, l6, u6⟩ := tint_sp rfl hw6
  have ok6 : wOK (zPhi (t, t, none, v)) h.length T6 h6 := ⟨k6, f6, Nat.le_trans lh6 ok3.2.2⟩
  have hq_0 := m6 _ _ hq_0
  have hq_49 := m6 _ _ hq_49
  show G (1609, [(3, .inl (.int i)), (2, .inl (.ref 49)), (1, .inl (.ref 0)), (0, .inl (.ref 10000000))], [.inl (.int x6)], h6, nc, ns)
  refine zrn_ok HW 2 (zB_iff.mpr (?_ : G (1662, [(3, .inl (.int i)), (2, .inl (.ref 49)), (1, .inl (.ref 0)), (0, .inl (.ref 10000000))], [], h6, nc, ns)))
  exact nxt T6 h6 _ _ 0 0 (wOK_up ok6 (by omega)) (Or.inl ⟨by decide, by decide, rfl⟩)

theorem lw_case49 {scr : List zV} {post : Option zV → zH → Bool} {G : zS → Prop} {D : Nat} {T : List Nat} {h : zH} {nc ns : Nat} {i : Int32} {t : Int} {v : Bool} (HW : zWalk zprog ze_L_law scr room_1.cells room_1.slots (zD zprog scr D) post G) (HWN : zWalk zprog ze_L_lawN scr room_1.cells room_1.slots (zD zprog scr D) post G) (hD : 300 ≤ D) (IHP : ∀ P : pP, tBel (zPhi P) scr 300) (hscr : ∀ j : Nat, (j : Int) < i.toInt + 6 → ∃ x : Int32, scr[j]? = some (.inl (.int x))) (hi0 : 0 ≤ i.toInt ∧ i.toInt ≤ 100000) (ok : wOK (zPhi (t, t, none, v)) h.length T h) (hl : h.length + 4000 ≤ 1000000) (hc : nc + 4000 ≤ room_1.cells) (hs : ns + 980000 ≤ room_1.slots)
    (HP : ∀ (x : Int64) (pc : Nat), (pc = 449 ∨ pc = 464) → ∀ (h : zH) (nc ns : Nat), G (pc + 1, [(3, .inl (.int i)), (2, .inl (.ref 49)), (1, .inl (.ref 0)), (0, .inl (.ref 10000000))], [], h, nc, ns) → G (pc, [(3, .inl (.int i)), (2, .inl (.ref 49)), (1, .inl (.ref 0)), (0, .inl (.ref 10000000))], [.inl (.long x)], h, nc, ns))
    (nxt : ∀ (T' : List Nat) (h' : zH) (t' : Int) (v' : Bool) (dc ds : Nat), wOK (zPhi (t', t', none, v')) (h.length + dc) T' h' → ((dc ≤ 30 ∧ ds ≤ 3328 ∧ v' = v) ∨ (v = false ∧ v' = true ∧ dc ≤ 3843 ∧ ds ≤ 971974)) → G (1662, [(3, .inl (.int i)), (2, .inl (.ref 49)), (1, .inl (.ref 0)), (0, .inl (.ref 10000000))], [], h', nc + dc, ns + ds)) : G (1613, [(3, .inl (.int i)), (2, .inl (.ref 49)), (1, .inl (.ref 0)), (0, .inl (.ref 10000000))], [], h, nc, ns) := by
  have hq_0 : T[0]? = some 4 := ok.2.1.1.1
  have hq_49 : T[49]? = some 5 := ok.2.1.1.2.2.1
  refine zrn_ok HW 1 (zB_iff.mpr (?_ : G (1614, [(3, .inl (.int i)), (2, .inl (.ref 49)), (1, .inl (.ref 0)), (0, .inl (.ref 10000000))], [.inl (.ref 0)], h, nc, ns)))
  refine g_tVa (e := te_X4_image_0) (E' := ze_X4_image) (c := 0) (s := 0) HW (tLow_of (IHP _) hD) rfl rfl (show te_X4_image_0 ∈ [te_X4_image_0] from List.mem_cons_self) (by decide +kernel) (Nat.le_of_ble_eq_true rfl) rfl rfl (by omega) (by omega) ok.1 ok.2.1 (by have := ok.2.2; omega) rfl hq_0 rfl (Nat.le_of_ble_eq_true rfl) ⟨⟨_, rfl, hq_0⟩, trivial⟩ (fun v1 T1 h1 m1 k1 f1 lh1 r1 => ?_)
  obtain ⟨w1, rfl, hw1, cd1⟩ := r1
  obtain ⟨x1, rfl, l1, u1⟩ := tint_sp rfl hw1
  have l1 : (1 : Int) ≤ x1.toInt := l1
  have u1 : x1.toInt ≤ (1 : Int) := u1
  have ok1 : wOK (zPhi (t, t, none, v)) h.length T1 h1 := ⟨k1, f1, Nat.le_trans lh1 ok.2.2⟩
  have hq_0 := m1 _ _ hq_0
  have hq_49 := m1 _ _ hq_49
  show G (1617, [(3, .inl (.int i)), (2, .inl (.ref 49)), (1, .inl (.ref 0)), (0, .inl (.ref 10000000))], [.inl (.int x1)], h1, nc, ns)
  refine zrn_ok HW 2 (zB_iff.mpr (?_ : G (1619, [(3, .inl (.int i)), (2, .inl (.ref 49)), (1, .inl (.ref 0)), (0, .inl (.ref 10000000))], [.inl (.ref 49)], h1, nc, ns)))
  refine g_tVa (e := te_X5_image_0) (E' := ze_X5_image) (c := 30) (s := 843) HW (tLow_of (IHP _) hD) rfl rfl (show te_X5_image_0 ∈ [te_X5_image_0] from List.mem_cons_self) (by decide +kernel) (Nat.le_of_ble_eq_true rfl) rfl rfl (by omega) (by omega) ok1.1 ok1.2.1 (by have := ok1.2.2; omega) rfl hq_49 rfl (Nat.le_of_ble_eq_true rfl) ⟨⟨_, rfl, hq_49⟩, trivial⟩ (fun v2 T2 h2 m2 k2 f2 lh2 r2 => ?_)
  obtain ⟨w2, rfl, hw2, cd2⟩ := r2
  obtain ⟨x2, rfl, l2, u2⟩ := tint_sp rfl hw2
  have ok2 : wOK (zPhi (t, t, none, v)) (h.length + 30) T2 h2 := ⟨k2, f2, Nat.le_trans lh2 (Nat.add_le_add_right ok1.2.2 _)⟩
  have hq_0 := m2 _ _ hq_0
  have hq_49 := m2 _ _ hq_49
  show G (1622, [(3, .inl (.int i)), (2, .inl (.ref 49)), (1, .inl (.ref 0)), (0, .inl (.ref 10000000))], [.inl (.int x2)], h2, (nc + 30), (ns + 843))
  refine zrn_ok HW 2 (zB_iff.mpr (?_ : G (1662, [(3, .inl (.int i)), (2, .inl (.ref 49)), (1, .inl (.ref 0)), (0, .inl (.ref 10000000))], [], h2, (nc + 30), (ns + 843))))
  exact nxt T2 h2 _ _ 30 843 (wOK_up ok2 (by omega)) (Or.inl ⟨by decide, by decide, rfl⟩)

theorem lw_case50 {scr : List zV} {post : Option zV → zH → Bool} {G : zS → Prop} {D : Nat} {T : List Nat} {h : zH} {nc ns : Nat} {i : Int32} {t : Int} {v : Bool} (HW : zWalk zprog ze_L_law scr room_1.cells room_1.slots (zD zprog scr D) post G) (HWN : zWalk zprog ze_L_lawN scr room_1.cells room_1.slots (zD zprog scr D) post G) (hD : 300 ≤ D) (IHP : ∀ P : pP, tBel (zPhi P) scr 300) (hscr : ∀ j : Nat, (j : Int) < i.toInt + 6 → ∃ x : Int32, scr[j]? = some (.inl (.int x))) (hi0 : 0 ≤ i.toInt ∧ i.toInt ≤ 100000) (ok : wOK (zPhi (t, t, none, v)) h.length T h) (hl : h.length + 4000 ≤ 1000000) (hc : nc + 4000 ≤ room_1.cells) (hs : ns + 980000 ≤ room_1.slots)
    (HP : ∀ (x : Int64) (pc : Nat), (pc = 449 ∨ pc = 464) → ∀ (h : zH) (nc ns : Nat), G (pc + 1, [(3, .inl (.int i)), (2, .inl (.ref 49)), (1, .inl (.ref 0)), (0, .inl (.ref 10000000))], [], h, nc, ns) → G (pc, [(3, .inl (.int i)), (2, .inl (.ref 49)), (1, .inl (.ref 0)), (0, .inl (.ref 10000000))], [.inl (.long x)], h, nc, ns))
    (nxt : ∀ (T' : List Nat) (h' : zH) (t' : Int) (v' : Bool) (dc ds : Nat), wOK (zPhi (t', t', none, v')) (h.length + dc) T' h' → ((dc ≤ 30 ∧ ds ≤ 3328 ∧ v' = v) ∨ (v = false ∧ v' = true ∧ dc ≤ 3843 ∧ ds ≤ 971974)) → G (1662, [(3, .inl (.int i)), (2, .inl (.ref 49)), (1, .inl (.ref 0)), (0, .inl (.ref 10000000))], [], h', nc + dc, ns + ds)) : G (1626, [(3, .inl (.int i)), (2, .inl (.ref 49)), (1, .inl (.ref 0)), (0, .inl (.ref 10000000))], [], h, nc, ns) := by
  have hq_0 : T[0]? = some 4 := ok.2.1.1.1
  have hq_49 : T[49]? = some 5 := ok.2.1.1.2.2.1
  refine zrn_ok HW 1 (zB_iff.mpr (?_ : G (1627, [(3, .inl (.int i)), (2, .inl (.ref 49)), (1, .inl (.ref 0)), (0, .inl (.ref 10000000))], [.inl (.ref 0)], h, nc, ns)))
  refine g_tVa (e := te_X4_back_0) (E' := ze_X4_back) (c := 0) (s := 0) HW (tLow_of (IHP _) hD) rfl rfl (show te_X4_back_0 ∈ [te_X4_back_0] from List.mem_cons_self) (by decide +kernel) (Nat.le_of_ble_eq_true rfl) rfl rfl (by omega) (by omega) ok.1 ok.2.1 (by have := ok.2.2; omega) rfl hq_0 rfl (Nat.le_of_ble_eq_true rfl) ⟨⟨_, rfl, hq_0⟩, trivial⟩ (fun v1 T1 h1 m1 k1 f1 lh1 r1 => ?_)
  obtain ⟨w1, rfl, hw1, cd1⟩ := r1
  obtain ⟨x1, rfl, l1, u1⟩ := tint_sp rfl hw1
  have ok1 : wOK (zPhi (t, t, none, v)) h.length T1 h1 := ⟨k1, f1, Nat.le_trans lh1 ok.2.2⟩
  have hq_0 := m1 _ _ hq_0
  have hq_49 := m1 _ _ hq_49
  show G (1630, [(3, .inl (.int i)), (2, .inl (.ref 49)), (1, .inl (.ref 0)), (0, .inl (.ref 10000000))], [.inl (.int x1)], h1, nc, ns)
  refine zrn_ok HW 2 (zB_iff.mpr (?_ : G (1632, [(3, .inl (.int i)), (2, .inl (.ref 49)), (1, .inl (.ref 0)), (0, .inl (.ref 10000000))], [.inl (.ref 49)], h1, nc, ns)))
  refine g_tVa (e := te_X5_back_0) (E' := ze_X5_back) (c := 0) (s := 0) HW (tLow_of (IHP _) hD) rfl rfl (show te_X5_back_0 ∈ [te_X5_back_0] from List.mem_cons_self) (by decide +kernel) (Nat.le_of_ble_eq_true rfl) rfl rfl (by omega) (by omega) ok1.1 ok1.2.1 (by have := ok1.2.2; omega) rfl hq_49 rfl (Nat.le_of_ble_eq_true rfl) ⟨⟨_, rfl, hq_49⟩, trivial⟩ (fun v2 T2 h2 m2 k2 f2 lh2 r2 => ?_)
  obtain ⟨w2, rfl, hw2, cd2⟩ := r2
  obtain ⟨x2, rfl, l2, u2⟩ := tint_sp rfl hw2
  have ok2 : wOK (zPhi (t, t, none, v)) h.length T2 h2 := ⟨k2, f2, Nat.le_trans lh2 ok1.2.2⟩
  have hq_0 := m2 _ _ hq_0
  have hq_49 := m2 _ _ hq_49
  show G (1635, [(3, .inl (.int i)), (2, .inl (.ref 49)), (1, .inl (.ref 0)), (0, .inl (.ref 10000000))], [.inl (.int x2)], h2, nc, ns)
  refine zrn_ok HW 2 (zB_iff.mpr (?_ : G (1662, [(3, .inl (.int i)), (2, .inl (.ref 49)), (1, .inl (.ref 0)), (0, .inl (.ref 10000000))], [], h2, nc, ns)))
  exact nxt T2 h2 _ _ 0 0 (wOK_up ok2 (by omega)) (Or.inl ⟨by decide, by decide, rfl⟩)

theorem lw_case51 {scr : List zV} {post : Option zV → zH → Bool} {G : zS → Prop} {D : Nat} {T : List Nat} {h : zH} {nc ns : Nat} {i : Int32} {t : Int} {v : Bool} (HW : zWalk zprog ze_L_law scr room_1.cells room_1.slots (zD zprog scr D) post G) (HWN : zWalk zprog ze_L_lawN scr room_1.cells room_1.slots (zD zprog scr D) post G) (hD : 300 ≤ D) (IHP : ∀ P : pP, tBel (zPhi P) scr 300) (hscr : ∀ j : Nat, (j : Int) < i.toInt + 6 → ∃ x : Int32, scr[j]? = some (.inl (.int x))) (hi0 : 0 ≤ i.toInt ∧ i.toInt ≤ 100000) (ok : wOK (zPhi (t, t, none, v)) h.length T h) (hl : h.length + 4000 ≤ 1000000) (hc : nc + 4000 ≤ room_1.cells) (hs : ns + 980000 ≤ room_1.slots)
    (HP : ∀ (x : Int64) (pc : Nat), (pc = 449 ∨ pc = 464) → ∀ (h : zH) (nc ns : Nat), G (pc + 1, [(3, .inl (.int i)), (2, .inl (.ref 49)), (1, .inl (.ref 0)), (0, .inl (.ref 10000000))], [], h, nc, ns) → G (pc, [(3, .inl (.int i)), (2, .inl (.ref 49)), (1, .inl (.ref 0)), (0, .inl (.ref 10000000))], [.inl (.long x)], h, nc, ns))
    (nxt : ∀ (T' : List Nat) (h' : zH) (t' : Int) (v' : Bool) (dc ds : Nat), wOK (zPhi (t', t', none, v')) (h.length + dc) T' h' → ((dc ≤ 30 ∧ ds ≤ 3328 ∧ v' = v) ∨ (v = false ∧ v' = true ∧ dc ≤ 3843 ∧ ds ≤ 971974)) → G (1662, [(3, .inl (.int i)), (2, .inl (.ref 49)), (1, .inl (.ref 0)), (0, .inl (.ref 10000000))], [], h', nc + dc, ns + ds)) : G (1639, [(3, .inl (.int i)), (2, .inl (.ref 49)), (1, .inl (.ref 0)), (0, .inl (.ref 10000000))], [], h, nc, ns) := by
  have hq_0 : T[0]? = some 4 := ok.2.1.1.1
  have hq_49 : T[49]? = some 5 := ok.2.1.1.2.2.1
  have y1 : -2147483648 ≤ i.toInt + (1 : Int) → i.toInt + (1 : Int) ≤ 2147483647 → (i + (1 : Int32)).toInt = i.toInt + (1 : Int) := t_addC (x := i) (y := (1 : Int32))
  refine zrn_ok HW 5 (zB_iff.mpr (?_ : G (1644, [(3, .inl (.int i)), (2, .inl (.ref 49)), (1, .inl (.ref 0)), (0, .inl (.ref 10000000))], [.inl (.int (i + (1 : Int32))), .inl (.ref 10000000), .inl (.ref 0)], h, nc, ns)))
  obtain ⟨x2, s2⟩ := hscr ((i + (1 : Int32))).toInt.toNat (by omega)
  refine g_scr HW rfl (by omega) s2 ?_
  refine g_tVa (e := te_X4_status_0) (E' := ze_X4_status) (c := 0) (s := 0) HW (tLow_of (IHP _) hD) rfl rfl (show te_X4_status_0 ∈ [te_X4_status_0] from List.mem_cons_self) (by decide +kernel) (Nat.le_of_ble_eq_true rfl) rfl rfl (by omega) (by omega) ok.1 ok.2.1 (by have := ok.2.2; omega) rfl hq_0 rfl (Nat.le_of_ble_eq_true rfl) ⟨⟨_, rfl, hq_0⟩, okA_If _, trivial⟩ (fun v3 T3 h3 m3 k3 f3 lh3 r3 => ?_)
  obtain ⟨w3, rfl, hw3, cd3⟩ := r3
  obtain ⟨x3, rfl, l3, u3⟩ := tint_sp rfl hw3
  have ok3 : wOK (zPhi (t, t, none, v)) h.length T3 h3 := ⟨k3, f3, Nat.le_trans lh3 ok.2.2⟩
  have hq_0 := m3 _ _ hq_0
  have hq_49 := m3 _ _ hq_49
  show G (1648, [(3, .inl (.int i)), (2, .inl (.ref 49)), (1, .inl (.ref 0)), (0, .inl (.ref 10000000))], [.inl (.int x3)], h3, nc, ns)
  have y4 : -2147483648 ≤ i.toInt + (1 : Int) → i.toInt + (1 : Int) ≤ 2147483647 → (i + (1 : Int32)).toInt = i.toInt + (1 : Int) := t_addC (x := i) (y := (1 : Int32))
  refine zrn_ok HW 6 (zB_iff.mpr (?_ : G (1654, [(3, .inl (.int i)), (2, .inl (.ref 49)), (1, .inl (.ref 0)), (0, .inl (.ref 10000000))], [.inl (.int (i + (1 : Int32))), .inl (.ref 10000000), .inl (.ref 49)], h3, nc, ns)))
  obtain ⟨x5, s5⟩ := hscr ((i + (1 : Int32))).toInt.toNat (by omega)
  refine g_scr HW rfl (by omega) s5 ?_
  refine g_tVa (e := te_X5_status_0) (E' := ze_X5_status) (c := 0) (s := 0) HW (tLow_of (IHP _) hD) rfl rfl (show te_X5_status_0 ∈ [te_X5_status_0] from List.mem_cons_self) (by decide +kernel) (Nat.le_of_ble_eq_true rfl) rfl rfl (by omega) (by omega) ok3.1 ok3.2.1 (by have := ok3.2.2; omega) rfl hq_49 rfl (Nat.le_of_ble_eq_true rfl) ⟨⟨_, rfl, hq_49⟩, okA_If _, trivial⟩ (fun v6 T6 h6 m6 k6 f6 lh6 r6 => ?_)
  obtain ⟨w6, rfl, hw6, cd6⟩ := r6
  obtain ⟨x6, rfl, l6, u6⟩ := tint_sp rfl hw6
  have ok6 : wOK (zPhi (t, t, none, v)) h.length T6 h6 := ⟨k6, f6, Nat.le_trans lh6 ok3.2.2⟩
  have hq_0 := m6 _ _ hq_0
  have hq_49 := m6 _ _ hq_49
  show G (1658, [(3, .inl (.int i)), (2, .inl (.ref 49)), (1, .inl (.ref 0)), (0, .inl (.ref 10000000))], [.inl (.int x6)], h6, nc, ns)
  refine zrn_ok HW 2 (zB_iff.mpr (?_ : G (1662, [(3, .inl (.int i)), (2, .inl (.ref 49)), (1, .inl (.ref 0)), (0, .inl (.ref 10000000))], [], h6, nc, ns)))
  exact nxt T6 h6 _ _ 0 0 (wOK_up ok6 (by omega)) (Or.inl ⟨by decide, by decide, rfl⟩)
