theorem lw_case39 {scr : List zV} {post : Option zV → zH → Bool} {G : zS → Prop} {D : Nat} {T : List Nat} {h : zH} {nc ns : Nat} {i : Int32} {t : Int} {v : Bool} (HW : zWalk zprog ze_L_law scr room_1.cells room_1.slots (zD zprog scr D) post G) (HWN : zWalk zprog ze_L_lawN scr room_1.cells room_1.slots (zD zprog scr D) post G) (hsc0 : cT scr) (hD : 300 ≤ D) (IHP : ∀ P : pP, tBel (zPhi P) scr 300) (hscr : ∀ j : Nat, (j : Int) < i.toInt + 6 → ∃ x : Int32, scr[j]? = some (.inl (.int x))) (hi0 : 0 ≤ i.toInt ∧ i.toInt ≤ 100000) (rel : REL T h t v) (hl : h.length ≤ 900000) (hc : nc + 4000 ≤ room_1.cells) (hs : ns + 980000 ≤ room_1.slots)
    (nxt : ∀ (T' : List Nat) (h' : zH) (t' : Int) (v' : Bool) (dc ds : Nat), REL T' h' t' v' → h'.length ≤ h.length + dc → ((dc ≤ 30 ∧ ds ≤ 3328 ∧ v' = v) ∨ (v = false ∧ v' = true ∧ dc ≤ 3843 ∧ ds ≤ 971974)) → G (1663, [(3, .inl (.int i)), (2, .inl (.ref 49)), (1, .inl (.ref 0)), (0, .inl (.ref 10000000))], [], h', nc + dc, ns + ds)) : G (1414, [(3, .inl (.int i)), (2, .inl (.ref 49)), (1, .inl (.ref 0)), (0, .inl (.ref 10000000))], [], h, nc, ns) := by
  have hq_0 : T[0]? = some 4 := rel.1.2.1.1.1
  have hq_49 : T[49]? = some 5 := rel.1.2.1.1.2.2.1
  have z1 : -2147483648 ≤ i.toInt + (1 : Int) → i.toInt + (1 : Int) ≤ 2147483647 → (i + (1 : Int32)).toInt = i.toInt + (1 : Int) := t_addC (x := i) (y := (1 : Int32))
  refine zrn_ok HW 5 (zB_iff.mpr (?_ : G (1419, [(3, .inl (.int i)), (2, .inl (.ref 49)), (1, .inl (.ref 0)), (0, .inl (.ref 10000000))], [.inl (.int (i + (1 : Int32))), .inl (.ref 10000000), .inl (.ref 0)], h, nc, ns)))
  obtain ⟨y1, s1⟩ := hscr ((i + (1 : Int32))).toInt.toNat (by omega)
  refine g_scr HW rfl (by omega) s1 ?_
  refine g_callV (E' := ze_X4_dearest) HW rfl rfl (Nat.le_of_ble_eq_true rfl) (by show nc + 0 ≤ room_1.cells; omega) (by show ns + 0 ≤ room_1.slots; omega) rel.1.1 rfl hq_0 rfl (Nat.le_of_ble_eq_true rfl) (lp_dearest hsc0 IHP hD rel hl _ (fun a T7 h7 m7 ok7 f7 K7 => zB_iff.mpr ?_))
  show G (1423, [(3, .inl (.int i)), (2, .inl (.ref 49)), (1, .inl (.ref 0)), (0, .inl (.ref 10000000))], [.inl (.int a)], h7, nc, ns)
  have hq_49 : T7[49]? = some 5 := ok7.2.1.1.2.2.1
  refine zrn_ok HW 5 (zB_iff.mpr (?_ : G (1428, [(3, .inl (.int i)), (2, .inl (.ref 49)), (1, .inl (.ref 0)), (0, .inl (.ref 10000000))], [.inl (.int (i + (1 : Int32))), .inl (.ref 10000000), .inl (.ref 49), .inl (.int a)], h7, nc, ns)))
  refine g_scr HW rfl (by omega) s1 ?_
  refine g_callV (E' := ze_X5_dearest) HW rfl rfl (Nat.le_of_ble_eq_true rfl) (by show nc + 0 ≤ room_1.cells; omega) (by show ns + 0 ≤ room_1.slots; omega) ok7.1 rfl hq_49 rfl (Nat.le_of_ble_eq_true rfl) (K7 _ (fun T9 h9 m9 rel9 l9 => zB_iff.mpr ?_))
  show G (1432, [(3, .inl (.int i)), (2, .inl (.ref 49)), (1, .inl (.ref 0)), (0, .inl (.ref 10000000))], [.inl (.int a), .inl (.int a)], h9, nc + 0, ns + 0)
  refine zrn_ok HW 1 (zbr_ex (cd := .eq) (x := a) (y := a) (fun _ => zB_iff.mpr ?_) (fun hc => (hc (zop_int.mpr (show a.toInt = a.toInt from rfl))).elim))
  exact nxt T9 h9 _ _ 0 0 rel9 l9 (Or.inl ⟨by decide, by decide, rfl⟩)

theorem lw_case40 {scr : List zV} {post : Option zV → zH → Bool} {G : zS → Prop} {D : Nat} {T : List Nat} {h : zH} {nc ns : Nat} {i : Int32} {t : Int} {v : Bool} (HW : zWalk zprog ze_L_law scr room_1.cells room_1.slots (zD zprog scr D) post G) (HWN : zWalk zprog ze_L_lawN scr room_1.cells room_1.slots (zD zprog scr D) post G) (hsc0 : cT scr) (hD : 300 ≤ D) (IHP : ∀ P : pP, tBel (zPhi P) scr 300) (hscr : ∀ j : Nat, (j : Int) < i.toInt + 6 → ∃ x : Int32, scr[j]? = some (.inl (.int x))) (hi0 : 0 ≤ i.toInt ∧ i.toInt ≤ 100000) (rel : REL T h t v) (hl : h.length ≤ 900000) (hc : nc + 4000 ≤ room_1.cells) (hs : ns + 980000 ≤ room_1.slots)
    (nxt : ∀ (T' : List Nat) (h' : zH) (t' : Int) (v' : Bool) (dc ds : Nat), REL T' h' t' v' → h'.length ≤ h.length + dc → ((dc ≤ 30 ∧ ds ≤ 3328 ∧ v' = v) ∨ (v = false ∧ v' = true ∧ dc ≤ 3843 ∧ ds ≤ 971974)) → G (1663, [(3, .inl (.int i)), (2, .inl (.ref 49)), (1, .inl (.ref 0)), (0, .inl (.ref 10000000))], [], h', nc + dc, ns + ds)) : G (1437, [(3, .inl (.int i)), (2, .inl (.ref 49)), (1, .inl (.ref 0)), (0, .inl (.ref 10000000))], [], h, nc, ns) := by
  have hq_0 : T[0]? = some 4 := rel.1.2.1.1.1
  have hq_49 : T[49]? = some 5 := rel.1.2.1.1.2.2.1
  have z1 : -2147483648 ≤ i.toInt + (1 : Int) → i.toInt + (1 : Int) ≤ 2147483647 → (i + (1 : Int32)).toInt = i.toInt + (1 : Int) := t_addC (x := i) (y := (1 : Int32))
  refine zrn_ok HW 5 (zB_iff.mpr (?_ : G (1442, [(3, .inl (.int i)), (2, .inl (.ref 49)), (1, .inl (.ref 0)), (0, .inl (.ref 10000000))], [.inl (.int (i + (1 : Int32))), .inl (.ref 10000000), .inl (.ref 0)], h, nc, ns)))
  obtain ⟨y1, s1⟩ := hscr ((i + (1 : Int32))).toInt.toNat (by omega)
  refine g_scr HW rfl (by omega) s1 ?_
  refine g_callV (E' := ze_X4_fondest) HW rfl rfl (Nat.le_of_ble_eq_true rfl) (by show nc + 0 ≤ room_1.cells; omega) (by show ns + 0 ≤ room_1.slots; omega) rel.1.1 rfl hq_0 rfl (Nat.le_of_ble_eq_true rfl) (lp_fondest hsc0 IHP hD rel hl _ (fun a T7 h7 m7 ok7 f7 K7 => zB_iff.mpr ?_))
  show G (1446, [(3, .inl (.int i)), (2, .inl (.ref 49)), (1, .inl (.ref 0)), (0, .inl (.ref 10000000))], [.inl (.int a)], h7, nc, ns)
  have hq_49 : T7[49]? = some 5 := ok7.2.1.1.2.2.1
  refine zrn_ok HW 5 (zB_iff.mpr (?_ : G (1451, [(3, .inl (.int i)), (2, .inl (.ref 49)), (1, .inl (.ref 0)), (0, .inl (.ref 10000000))], [.inl (.int (i + (1 : Int32))), .inl (.ref 10000000), .inl (.ref 49), .inl (.int a)], h7, nc, ns)))
  refine g_scr HW rfl (by omega) s1 ?_
  refine g_callV (E' := ze_X5_fondest) HW rfl rfl (Nat.le_of_ble_eq_true rfl) (by show nc + 0 ≤ room_1.cells; omega) (by show ns + 0 ≤ room_1.slots; omega) ok7.1 rfl hq_49 rfl (Nat.le_of_ble_eq_true rfl) (K7 _ (fun T9 h9 m9 rel9 l9 => zB_iff.mpr ?_))
  show G (1455, [(3, .inl (.int i)), (2, .inl (.ref 49)), (1, .inl (.ref 0)), (0, .inl (.ref 10000000))], [.inl (.int a), .inl (.int a)], h9, nc + 0, ns + 0)
  refine zrn_ok HW 1 (zbr_ex (cd := .eq) (x := a) (y := a) (fun _ => zB_iff.mpr ?_) (fun hc => (hc (zop_int.mpr (show a.toInt = a.toInt from rfl))).elim))
  exact nxt T9 h9 _ _ 0 0 rel9 l9 (Or.inl ⟨by decide, by decide, rfl⟩)

theorem lw_case41 {scr : List zV} {post : Option zV → zH → Bool} {G : zS → Prop} {D : Nat} {T : List Nat} {h : zH} {nc ns : Nat} {i : Int32} {t : Int} {v : Bool} (HW : zWalk zprog ze_L_law scr room_1.cells room_1.slots (zD zprog scr D) post G) (HWN : zWalk zprog ze_L_lawN scr room_1.cells room_1.slots (zD zprog scr D) post G) (hsc0 : cT scr) (hD : 300 ≤ D) (IHP : ∀ P : pP, tBel (zPhi P) scr 300) (hscr : ∀ j : Nat, (j : Int) < i.toInt + 6 → ∃ x : Int32, scr[j]? = some (.inl (.int x))) (hi0 : 0 ≤ i.toInt ∧ i.toInt ≤ 100000) (rel : REL T h t v) (hl : h.length ≤ 900000) (hc : nc + 4000 ≤ room_1.cells) (hs : ns + 980000 ≤ room_1.slots)
    (nxt : ∀ (T' : List Nat) (h' : zH) (t' : Int) (v' : Bool) (dc ds : Nat), REL T' h' t' v' → h'.length ≤ h.length + dc → ((dc ≤ 30 ∧ ds ≤ 3328 ∧ v' = v) ∨ (v = false ∧ v' = true ∧ dc ≤ 3843 ∧ ds ≤ 971974)) → G (1663, [(3, .inl (.int i)), (2, .inl (.ref 49)), (1, .inl (.ref 0)), (0, .inl (.ref 10000000))], [], h', nc + dc, ns + ds)) : G (1460, [(3, .inl (.int i)), (2, .inl (.ref 49)), (1, .inl (.ref 0)), (0, .inl (.ref 10000000))], [], h, nc, ns) := by
  have hq_0 : T[0]? = some 4 := rel.1.2.1.1.1
  have hq_49 : T[49]? = some 5 := rel.1.2.1.1.2.2.1
  refine zrn_ok HW 1 (zB_iff.mpr (?_ : G (1461, [(3, .inl (.int i)), (2, .inl (.ref 49)), (1, .inl (.ref 0)), (0, .inl (.ref 10000000))], [.inl (.ref 0)], h, nc, ns)))
  refine g_callV (E' := ze_X4_envy) HW rfl rfl (Nat.le_of_ble_eq_true rfl) (by show nc + 0 ≤ room_1.cells; omega) (by show ns + 0 ≤ room_1.slots; omega) rel.1.1 rfl hq_0 rfl (Nat.le_of_ble_eq_true rfl) (lp_envy hsc0 IHP hD rel hl _ (fun a T7 h7 m7 ok7 f7 K7 => zB_iff.mpr ?_))
  show G (1464, [(3, .inl (.int i)), (2, .inl (.ref 49)), (1, .inl (.ref 0)), (0, .inl (.ref 10000000))], [.inl (.int a)], h7, nc, ns)
  have hq_49 : T7[49]? = some 5 := ok7.2.1.1.2.2.1
  refine zrn_ok HW 1 (zB_iff.mpr (?_ : G (1465, [(3, .inl (.int i)), (2, .inl (.ref 49)), (1, .inl (.ref 0)), (0, .inl (.ref 10000000))], [.inl (.ref 49), .inl (.int a)], h7, nc, ns)))
  refine g_callV (E' := ze_X5_envy) HW rfl rfl (Nat.le_of_ble_eq_true rfl) (by show nc + 0 ≤ room_1.cells; omega) (by show ns + 0 ≤ room_1.slots; omega) ok7.1 rfl hq_49 rfl (Nat.le_of_ble_eq_true rfl) (K7 _ (fun T9 h9 m9 rel9 l9 => zB_iff.mpr ?_))
  show G (1468, [(3, .inl (.int i)), (2, .inl (.ref 49)), (1, .inl (.ref 0)), (0, .inl (.ref 10000000))], [.inl (.int a), .inl (.int a)], h9, nc + 0, ns + 0)
  refine zrn_ok HW 1 (zbr_ex (cd := .eq) (x := a) (y := a) (fun _ => zB_iff.mpr ?_) (fun hc => (hc (zop_int.mpr (show a.toInt = a.toInt from rfl))).elim))
  exact nxt T9 h9 _ _ 0 0 rel9 l9 (Or.inl ⟨by decide, by decide, rfl⟩)

theorem lw_case42 {scr : List zV} {post : Option zV → zH → Bool} {G : zS → Prop} {D : Nat} {T : List Nat} {h : zH} {nc ns : Nat} {i : Int32} {t : Int} {v : Bool} (HW : zWalk zprog ze_L_law scr room_1.cells room_1.slots (zD zprog scr D) post G) (HWN : zWalk zprog ze_L_lawN scr room_1.cells room_1.slots (zD zprog scr D) post G) (hsc0 : cT scr) (hD : 300 ≤ D) (IHP : ∀ P : pP, tBel (zPhi P) scr 300) (hscr : ∀ j : Nat, (j : Int) < i.toInt + 6 → ∃ x : Int32, scr[j]? = some (.inl (.int x))) (hi0 : 0 ≤ i.toInt ∧ i.toInt ≤ 100000) (rel : REL T h t v) (hl : h.length ≤ 900000) (hc : nc + 4000 ≤ room_1.cells) (hs : ns + 980000 ≤ room_1.slots)
    (nxt : ∀ (T' : List Nat) (h' : zH) (t' : Int) (v' : Bool) (dc ds : Nat), REL T' h' t' v' → h'.length ≤ h.length + dc → ((dc ≤ 30 ∧ ds ≤ 3328 ∧ v' = v) ∨ (v = false ∧ v' = true ∧ dc ≤ 3843 ∧ ds ≤ 971974)) → G (1663, [(3, .inl (.int i)), (2, .inl (.ref 49)), (1, .inl (.ref 0)), (0, .inl (.ref 10000000))], [], h', nc + dc, ns + ds)) : G (1473, [(3, .inl (.int i)), (2, .inl (.ref 49)), (1, .inl (.ref 0)), (0, .inl (.ref 10000000))], [], h, nc, ns) := by
  have hq_0 : T[0]? = some 4 := rel.1.2.1.1.1
  have hq_49 : T[49]? = some 5 := rel.1.2.1.1.2.2.1
  refine zrn_ok HW 1 (zB_iff.mpr (?_ : G (1474, [(3, .inl (.int i)), (2, .inl (.ref 49)), (1, .inl (.ref 0)), (0, .inl (.ref 10000000))], [.inl (.ref 0)], h, nc, ns)))
  refine g_callV (E' := ze_X4_poorest) HW rfl rfl (Nat.le_of_ble_eq_true rfl) (by show nc + 0 ≤ room_1.cells; omega) (by show ns + 0 ≤ room_1.slots; omega) rel.1.1 rfl hq_0 rfl (Nat.le_of_ble_eq_true rfl) (lp_poorest hsc0 IHP hD rel hl _ (fun a T7 h7 m7 ok7 f7 K7 => zB_iff.mpr ?_))
  show G (1477, [(3, .inl (.int i)), (2, .inl (.ref 49)), (1, .inl (.ref 0)), (0, .inl (.ref 10000000))], [.inl (.int a)], h7, nc, ns)
  have hq_49 : T7[49]? = some 5 := ok7.2.1.1.2.2.1
  refine zrn_ok HW 1 (zB_iff.mpr (?_ : G (1478, [(3, .inl (.int i)), (2, .inl (.ref 49)), (1, .inl (.ref 0)), (0, .inl (.ref 10000000))], [.inl (.ref 49), .inl (.int a)], h7, nc, ns)))
  refine g_callV (E' := ze_X5_poorest) HW rfl rfl (Nat.le_of_ble_eq_true rfl) (by show nc + 0 ≤ room_1.cells; omega) (by show ns + 0 ≤ room_1.slots; omega) ok7.1 rfl hq_49 rfl (Nat.le_of_ble_eq_true rfl) (K7 _ (fun T9 h9 m9 rel9 l9 => zB_iff.mpr ?_))
  show G (1481, [(3, .inl (.int i)), (2, .inl (.ref 49)), (1, .inl (.ref 0)), (0, .inl (.ref 10000000))], [.inl (.int a), .inl (.int a)], h9, nc + 0, ns + 0)
  refine zrn_ok HW 1 (zbr_ex (cd := .eq) (x := a) (y := a) (fun _ => zB_iff.mpr ?_) (fun hc => (hc (zop_int.mpr (show a.toInt = a.toInt from rfl))).elim))
  exact nxt T9 h9 _ _ 0 0 rel9 l9 (Or.inl ⟨by decide, by decide, rfl⟩)

theorem lw_case43 {scr : List zV} {post : Option zV → zH → Bool} {G : zS → Prop} {D : Nat} {T : List Nat} {h : zH} {nc ns : Nat} {i : Int32} {t : Int} {v : Bool} (HW : zWalk zprog ze_L_law scr room_1.cells room_1.slots (zD zprog scr D) post G) (HWN : zWalk zprog ze_L_lawN scr room_1.cells room_1.slots (zD zprog scr D) post G) (hsc0 : cT scr) (hD : 300 ≤ D) (IHP : ∀ P : pP, tBel (zPhi P) scr 300) (hscr : ∀ j : Nat, (j : Int) < i.toInt + 6 → ∃ x : Int32, scr[j]? = some (.inl (.int x))) (hi0 : 0 ≤ i.toInt ∧ i.toInt ≤ 100000) (rel : REL T h t v) (hl : h.length ≤ 900000) (hc : nc + 4000 ≤ room_1.cells) (hs : ns + 980000 ≤ room_1.slots)
    (nxt : ∀ (T' : List Nat) (h' : zH) (t' : Int) (v' : Bool) (dc ds : Nat), REL T' h' t' v' → h'.length ≤ h.length + dc → ((dc ≤ 30 ∧ ds ≤ 3328 ∧ v' = v) ∨ (v = false ∧ v' = true ∧ dc ≤ 3843 ∧ ds ≤ 971974)) → G (1663, [(3, .inl (.int i)), (2, .inl (.ref 49)), (1, .inl (.ref 0)), (0, .inl (.ref 10000000))], [], h', nc + dc, ns + ds)) : G (1486, [(3, .inl (.int i)), (2, .inl (.ref 49)), (1, .inl (.ref 0)), (0, .inl (.ref 10000000))], [], h, nc, ns) := by
  have hq_0 : T[0]? = some 4 := rel.1.2.1.1.1
  have hq_49 : T[49]? = some 5 := rel.1.2.1.1.2.2.1
  refine zrn_ok HW 1 (zB_iff.mpr (?_ : G (1487, [(3, .inl (.int i)), (2, .inl (.ref 49)), (1, .inl (.ref 0)), (0, .inl (.ref 10000000))], [.inl (.ref 0)], h, nc, ns)))
  refine g_callV (E' := ze_X4_oldest) HW rfl rfl (Nat.le_of_ble_eq_true rfl) (by show nc + 0 ≤ room_1.cells; omega) (by show ns + 0 ≤ room_1.slots; omega) rel.1.1 rfl hq_0 rfl (Nat.le_of_ble_eq_true rfl) (lp_oldest hsc0 IHP hD rel hl _ (fun a T7 h7 m7 ok7 f7 K7 => zB_iff.mpr ?_))
  show G (1490, [(3, .inl (.int i)), (2, .inl (.ref 49)), (1, .inl (.ref 0)), (0, .inl (.ref 10000000))], [.inl (.int a)], h7, nc, ns)
  have hq_49 : T7[49]? = some 5 := ok7.2.1.1.2.2.1
  refine zrn_ok HW 1 (zB_iff.mpr (?_ : G (1491, [(3, .inl (.int i)), (2, .inl (.ref 49)), (1, .inl (.ref 0)), (0, .inl (.ref 10000000))], [.inl (.ref 49), .inl (.int a)], h7, nc, ns)))
  refine g_callV (E' := ze_X5_oldest) HW rfl rfl (Nat.le_of_ble_eq_true rfl) (by show nc + 0 ≤ room_1.cells; omega) (by show ns + 0 ≤ room_1.slots; omega) ok7.1 rfl hq_49 rfl (Nat.le_of_ble_eq_true rfl) (K7 _ (fun T9 h9 m9 rel9 l9 => zB_iff.mpr ?_))
  show G (1494, [(3, .inl (.int i)), (2, .inl (.ref 49)), (1, .inl (.ref 0)), (0, .inl (.ref 10000000))], [.inl (.int a), .inl (.int a)], h9, nc + 0, ns + 0)
  refine zrn_ok HW 1 (zbr_ex (cd := .eq) (x := a) (y := a) (fun _ => zB_iff.mpr ?_) (fun hc => (hc (zop_int.mpr (show a.toInt = a.toInt from rfl))).elim))
  exact nxt T9 h9 _ _ 0 0 rel9 l9 (Or.inl ⟨by decide, by decide, rfl⟩)

theorem lw_case44 {scr : List zV} {post : Option zV → zH → Bool} {G : zS → Prop} {D : Nat} {T : List Nat} {h : zH} {nc ns : Nat} {i : Int32} {t : Int} {v : Bool} (HW : zWalk zprog ze_L_law scr room_1.cells room_1.slots (zD zprog scr D) post G) (HWN : zWalk zprog ze_L_lawN scr room_1.cells room_1.slots (zD zprog scr D) post G) (hsc0 : cT scr) (hD : 300 ≤ D) (IHP : ∀ P : pP, tBel (zPhi P) scr 300) (hscr : ∀ j : Nat, (j : Int) < i.toInt + 6 → ∃ x : Int32, scr[j]? = some (.inl (.int x))) (hi0 : 0 ≤ i.toInt ∧ i.toInt ≤ 100000) (rel : REL T h t v) (hl : h.length ≤ 900000) (hc : nc + 4000 ≤ room_1.cells) (hs : ns + 980000 ≤ room_1.slots)
    (nxt : ∀ (T' : List Nat) (h' : zH) (t' : Int) (v' : Bool) (dc ds : Nat), REL T' h' t' v' → h'.length ≤ h.length + dc → ((dc ≤ 30 ∧ ds ≤ 3328 ∧ v' = v) ∨ (v = false ∧ v' = true ∧ dc ≤ 3843 ∧ ds ≤ 971974)) → G (1663, [(3, .inl (.int i)), (2, .inl (.ref 49)), (1, .inl (.ref 0)), (0, .inl (.ref 10000000))], [], h', nc + dc, ns + ds)) : G (1499, [(3, .inl (.int i)), (2, .inl (.ref 49)), (1, .inl (.ref 0)), (0, .inl (.ref 10000000))], [], h, nc, ns) := by
  have hq_0 : T[0]? = some 4 := rel.1.2.1.1.1
  have hq_49 : T[49]? = some 5 := rel.1.2.1.1.2.2.1
  have z1 : -2147483648 ≤ i.toInt + (1 : Int) → i.toInt + (1 : Int) ≤ 2147483647 → (i + (1 : Int32)).toInt = i.toInt + (1 : Int) := t_addC (x := i) (y := (1 : Int32))
  refine zrn_ok HW 5 (zB_iff.mpr (?_ : G (1504, [(3, .inl (.int i)), (2, .inl (.ref 49)), (1, .inl (.ref 0)), (0, .inl (.ref 10000000))], [.inl (.int (i + (1 : Int32))), .inl (.ref 10000000), .inl (.ref 0)], h, nc, ns)))
  obtain ⟨y1, s1⟩ := hscr ((i + (1 : Int32))).toInt.toNat (by omega)
  refine g_scr HW rfl (by omega) s1 ?_
  refine g_callV (E' := ze_X4_go) HW rfl rfl (Nat.le_of_ble_eq_true rfl) (by show nc + 0 ≤ room_1.cells; omega) (by show ns + 0 ≤ room_1.slots; omega) rel.1.1 rfl hq_0 rfl (Nat.le_of_ble_eq_true rfl) (lp_go hsc0 IHP hD rel hl _ (fun a T7 h7 m7 ok7 f7 K7 => zB_iff.mpr ?_))
  show G (1508, [(3, .inl (.int i)), (2, .inl (.ref 49)), (1, .inl (.ref 0)), (0, .inl (.ref 10000000))], [.inl (.int a)], h7, nc, ns)
  have hq_49 : T7[49]? = some 5 := ok7.2.1.1.2.2.1
  refine zrn_ok HW 5 (zB_iff.mpr (?_ : G (1513, [(3, .inl (.int i)), (2, .inl (.ref 49)), (1, .inl (.ref 0)), (0, .inl (.ref 10000000))], [.inl (.int (i + (1 : Int32))), .inl (.ref 10000000), .inl (.ref 49), .inl (.int a)], h7, nc, ns)))
  refine g_scr HW rfl (by omega) s1 ?_
  refine g_callV (E' := ze_X5_go) HW rfl rfl (Nat.le_of_ble_eq_true rfl) (by show nc + 0 ≤ room_1.cells; omega) (by show ns + 0 ≤ room_1.slots; omega) ok7.1 rfl hq_49 rfl (Nat.le_of_ble_eq_true rfl) (K7 _ (fun T9 h9 m9 rel9 l9 => zB_iff.mpr ?_))
  show G (1517, [(3, .inl (.int i)), (2, .inl (.ref 49)), (1, .inl (.ref 0)), (0, .inl (.ref 10000000))], [.inl (.int a), .inl (.int a)], h9, nc + 0, ns + 0)
  refine zrn_ok HW 1 (zbr_ex (cd := .eq) (x := a) (y := a) (fun _ => zB_iff.mpr ?_) (fun hc => (hc (zop_int.mpr (show a.toInt = a.toInt from rfl))).elim))
  exact nxt T9 h9 _ _ 0 0 rel9 l9 (Or.inl ⟨by decide, by decide, rfl⟩)

theorem lw_case45 {scr : List zV} {post : Option zV → zH → Bool} {G : zS → Prop} {D : Nat} {T : List Nat} {h : zH} {nc ns : Nat} {i : Int32} {t : Int} {v : Bool} (HW : zWalk zprog ze_L_law scr room_1.cells room_1.slots (zD zprog scr D) post G) (HWN : zWalk zprog ze_L_lawN scr room_1.cells room_1.slots (zD zprog scr D) post G) (hsc0 : cT scr) (hD : 300 ≤ D) (IHP : ∀ P : pP, tBel (zPhi P) scr 300) (hscr : ∀ j : Nat, (j : Int) < i.toInt + 6 → ∃ x : Int32, scr[j]? = some (.inl (.int x))) (hi0 : 0 ≤ i.toInt ∧ i.toInt ≤ 100000) (rel : REL T h t v) (hl : h.length ≤ 900000) (hc : nc + 4000 ≤ room_1.cells) (hs : ns + 980000 ≤ room_1.slots)
    (nxt : ∀ (T' : List Nat) (h' : zH) (t' : Int) (v' : Bool) (dc ds : Nat), REL T' h' t' v' → h'.length ≤ h.length + dc → ((dc ≤ 30 ∧ ds ≤ 3328 ∧ v' = v) ∨ (v = false ∧ v' = true ∧ dc ≤ 3843 ∧ ds ≤ 971974)) → G (1663, [(3, .inl (.int i)), (2, .inl (.ref 49)), (1, .inl (.ref 0)), (0, .inl (.ref 10000000))], [], h', nc + dc, ns + ds)) : G (1522, [(3, .inl (.int i)), (2, .inl (.ref 49)), (1, .inl (.ref 0)), (0, .inl (.ref 10000000))], [], h, nc, ns) := by
  have hq_0 : T[0]? = some 4 := rel.1.2.1.1.1
  have hq_49 : T[49]? = some 5 := rel.1.2.1.1.2.2.1
  have z1 : -2147483648 ≤ i.toInt + (1 : Int) → i.toInt + (1 : Int) ≤ 2147483647 → (i + (1 : Int32)).toInt = i.toInt + (1 : Int) := t_addC (x := i) (y := (1 : Int32))
  refine zrn_ok HW 5 (zB_iff.mpr (?_ : G (1527, [(3, .inl (.int i)), (2, .inl (.ref 49)), (1, .inl (.ref 0)), (0, .inl (.ref 10000000))], [.inl (.int (i + (1 : Int32))), .inl (.ref 10000000), .inl (.ref 0)], h, nc, ns)))
  obtain ⟨y1, s1⟩ := hscr ((i + (1 : Int32))).toInt.toNat (by omega)
  refine g_scr HW rfl (by omega) s1 ?_
  refine g_callV (E' := ze_X4_five) HW rfl rfl (Nat.le_of_ble_eq_true rfl) (by show nc + 0 ≤ room_1.cells; omega) (by show ns + 0 ≤ room_1.slots; omega) rel.1.1 rfl hq_0 rfl (Nat.le_of_ble_eq_true rfl) (lp_five hsc0 IHP hD rel hl _ (fun a T7 h7 m7 ok7 f7 K7 => zB_iff.mpr ?_))
  show G (1531, [(3, .inl (.int i)), (2, .inl (.ref 49)), (1, .inl (.ref 0)), (0, .inl (.ref 10000000))], [.inl (.int a)], h7, nc, ns)
  have hq_49 : T7[49]? = some 5 := ok7.2.1.1.2.2.1
  refine zrn_ok HW 5 (zB_iff.mpr (?_ : G (1536, [(3, .inl (.int i)), (2, .inl (.ref 49)), (1, .inl (.ref 0)), (0, .inl (.ref 10000000))], [.inl (.int (i + (1 : Int32))), .inl (.ref 10000000), .inl (.ref 49), .inl (.int a)], h7, nc, ns)))
  refine g_scr HW rfl (by omega) s1 ?_
  refine g_callV (E' := ze_X5_five) HW rfl rfl (Nat.le_of_ble_eq_true rfl) (by show nc + 0 ≤ room_1.cells; omega) (by show ns + 0 ≤ room_1.slots; omega) ok7.1 rfl hq_49 rfl (Nat.le_of_ble_eq_true rfl) (K7 _ (fun T9 h9 m9 rel9 l9 => zB_iff.mpr ?_))
  show G (1540, [(3, .inl (.int i)), (2, .inl (.ref 49)), (1, .inl (.ref 0)), (0, .inl (.ref 10000000))], [.inl (.int a), .inl (.int a)], h9, nc + 0, ns + 0)
  refine zrn_ok HW 1 (zbr_ex (cd := .eq) (x := a) (y := a) (fun _ => zB_iff.mpr ?_) (fun hc => (hc (zop_int.mpr (show a.toInt = a.toInt from rfl))).elim))
  exact nxt T9 h9 _ _ 0 0 rel9 l9 (Or.inl ⟨by decide, by decide, rfl⟩)

theorem lw_case46 {scr : List zV} {post : Option zV → zH → Bool} {G : zS → Prop} {D : Nat} {T : List Nat} {h : zH} {nc ns : Nat} {i : Int32} {t : Int} {v : Bool} (HW : zWalk zprog ze_L_law scr room_1.cells room_1.slots (zD zprog scr D) post G) (HWN : zWalk zprog ze_L_lawN scr room_1.cells room_1.slots (zD zprog scr D) post G) (hsc0 : cT scr) (hD : 300 ≤ D) (IHP : ∀ P : pP, tBel (zPhi P) scr 300) (hscr : ∀ j : Nat, (j : Int) < i.toInt + 6 → ∃ x : Int32, scr[j]? = some (.inl (.int x))) (hi0 : 0 ≤ i.toInt ∧ i.toInt ≤ 100000) (rel : REL T h t v) (hl : h.length ≤ 900000) (hc : nc + 4000 ≤ room_1.cells) (hs : ns + 980000 ≤ room_1.slots)
    (nxt : ∀ (T' : List Nat) (h' : zH) (t' : Int) (v' : Bool) (dc ds : Nat), REL T' h' t' v' → h'.length ≤ h.length + dc → ((dc ≤ 30 ∧ ds ≤ 3328 ∧ v' = v) ∨ (v = false ∧ v' = true ∧ dc ≤ 3843 ∧ ds ≤ 971974)) → G (1663, [(3, .inl (.int i)), (2, .inl (.ref 49)), (1, .inl (.ref 0)), (0, .inl (.ref 10000000))], [], h', nc + dc, ns + ds)) : G (1545, [(3, .inl (.int i)), (2, .inl (.ref 49)), (1, .inl (.ref 0)), (0, .inl (.ref 10000000))], [], h, nc, ns) := by
  have hq_0 : T[0]? = some 4 := rel.1.2.1.1.1
  have hq_49 : T[49]? = some 5 := rel.1.2.1.1.2.2.1
  have z1 : -2147483648 ≤ i.toInt + (1 : Int) → i.toInt + (1 : Int) ≤ 2147483647 → (i + (1 : Int32)).toInt = i.toInt + (1 : Int) := t_addC (x := i) (y := (1 : Int32))
  refine zrn_ok HW 5 (zB_iff.mpr (?_ : G (1550, [(3, .inl (.int i)), (2, .inl (.ref 49)), (1, .inl (.ref 0)), (0, .inl (.ref 10000000))], [.inl (.int (i + (1 : Int32))), .inl (.ref 10000000), .inl (.ref 0)], h, nc, ns)))
  obtain ⟨y1, s1⟩ := hscr ((i + (1 : Int32))).toInt.toNat (by omega)
  refine g_scr HW rfl (by omega) s1 ?_
  cases v with
  | true =>
    refine g_callV (E' := ze_X4_plays) HW rfl rfl (Nat.le_of_ble_eq_true rfl) (by show nc + 0 ≤ room_1.cells; omega) (by show ns + 0 ≤ room_1.slots; omega) rel.1.1 rfl hq_0 rfl (Nat.le_of_ble_eq_true rfl) (lp_playsA hsc0 IHP hD rel hl _ (fun a T7 h7 m7 ok7 f7 K7 => zB_iff.mpr ?_))
    show G (1554, [(3, .inl (.int i)), (2, .inl (.ref 49)), (1, .inl (.ref 0)), (0, .inl (.ref 10000000))], [.inl (.int a)], h7, nc, ns)
    have hq_49 : T7[49]? = some 5 := ok7.2.1.1.2.2.1
    refine zrn_ok HW 5 (zB_iff.mpr (?_ : G (1559, [(3, .inl (.int i)), (2, .inl (.ref 49)), (1, .inl (.ref 0)), (0, .inl (.ref 10000000))], [.inl (.int (i + (1 : Int32))), .inl (.ref 10000000), .inl (.ref 49), .inl (.int a)], h7, nc, ns)))
    refine g_scr HW rfl (by omega) s1 ?_
    refine g_callV (E' := ze_X5_playsN) HWN rfl rfl (Nat.le_of_ble_eq_true rfl) (by show nc + 0 ≤ room_1.cells; omega) (by show ns + 0 ≤ room_1.slots; omega) ok7.1 rfl hq_49 rfl (Nat.le_of_ble_eq_true rfl) (K7 _ (fun T9 h9 m9 rel9 l9 => zB_iff.mpr ?_))
    show G (1563, [(3, .inl (.int i)), (2, .inl (.ref 49)), (1, .inl (.ref 0)), (0, .inl (.ref 10000000))], [.inl (.int a), .inl (.int a)], h9, nc + 0, ns + 0)
    refine zrn_ok HW 1 (zbr_ex (cd := .eq) (x := a) (y := a) (fun _ => zB_iff.mpr ?_) (fun hc => (hc (zop_int.mpr (show a.toInt = a.toInt from rfl))).elim))
    exact nxt T9 h9 _ _ 0 0 rel9 l9 (Or.inl ⟨by decide, by decide, rfl⟩)
  | false =>
    by_cases nd : (0 ≤ y1.toInt ∧ y1.toInt < hi h 49 23) ∧ hi h 49 11 ≤ hi h 72 y1.toInt.toNat
    · refine g_callV (E' := ze_X4_plays) HW rfl rfl (Nat.le_of_ble_eq_true rfl) (by show nc + 0 ≤ room_1.cells; omega) (by show ns + 0 ≤ room_1.slots; omega) rel.1.1 rfl hq_0 rfl (Nat.le_of_ble_eq_true rfl) (lp_playsB hsc0 IHP hD rel hl nd _ (fun a T7 h7 m7 ok7 f7 K7 => zB_iff.mpr ?_))
      show G (1554, [(3, .inl (.int i)), (2, .inl (.ref 49)), (1, .inl (.ref 0)), (0, .inl (.ref 10000000))], [.inl (.int a)], h7, nc, ns)
      have hq_49 : T7[49]? = some 5 := ok7.2.1.1.2.2.1
      refine zrn_ok HW 5 (zB_iff.mpr (?_ : G (1559, [(3, .inl (.int i)), (2, .inl (.ref 49)), (1, .inl (.ref 0)), (0, .inl (.ref 10000000))], [.inl (.int (i + (1 : Int32))), .inl (.ref 10000000), .inl (.ref 49), .inl (.int a)], h7, nc, ns)))
      refine g_scr HW rfl (by omega) s1 ?_
      refine g_callV (E' := ze_X5_plays) HW rfl rfl (Nat.le_of_ble_eq_true rfl) (by show nc + 3843 ≤ room_1.cells; omega) (by show ns + 971974 ≤ room_1.slots; omega) ok7.1 rfl hq_49 rfl (Nat.le_of_ble_eq_true rfl) (K7 _ (fun T9 h9 m9 rel9 l9 => zB_iff.mpr ?_))
      show G (1563, [(3, .inl (.int i)), (2, .inl (.ref 49)), (1, .inl (.ref 0)), (0, .inl (.ref 10000000))], [.inl (.int a), .inl (.int a)], h9, nc + 3843, ns + 971974)
      refine zrn_ok HW 1 (zbr_ex (cd := .eq) (x := a) (y := a) (fun _ => zB_iff.mpr ?_) (fun hc => (hc (zop_int.mpr (show a.toInt = a.toInt from rfl))).elim))
      exact nxt T9 h9 _ _ 3843 971974 rel9 l9 (Or.inr ⟨rfl, rfl, by decide, by decide⟩)
    · refine g_callV (E' := ze_X4_plays) HW rfl rfl (Nat.le_of_ble_eq_true rfl) (by show nc + 0 ≤ room_1.cells; omega) (by show ns + 0 ≤ room_1.slots; omega) rel.1.1 rfl hq_0 rfl (Nat.le_of_ble_eq_true rfl) (lp_playsR hsc0 IHP hD rel hl nd _ (fun a T7 h7 m7 ok7 f7 K7 => zB_iff.mpr ?_))
      show G (1554, [(3, .inl (.int i)), (2, .inl (.ref 49)), (1, .inl (.ref 0)), (0, .inl (.ref 10000000))], [.inl (.int a)], h7, nc, ns)
      have hq_49 : T7[49]? = some 5 := ok7.2.1.1.2.2.1
      refine zrn_ok HW 5 (zB_iff.mpr (?_ : G (1559, [(3, .inl (.int i)), (2, .inl (.ref 49)), (1, .inl (.ref 0)), (0, .inl (.ref 10000000))], [.inl (.int (i + (1 : Int32))), .inl (.ref 10000000), .inl (.ref 49), .inl (.int a)], h7, nc, ns)))
      refine g_scr HW rfl (by omega) s1 ?_
      refine g_callV (E' := ze_X5_playsN) HWN rfl rfl (Nat.le_of_ble_eq_true rfl) (by show nc + 0 ≤ room_1.cells; omega) (by show ns + 0 ≤ room_1.slots; omega) ok7.1 rfl hq_49 rfl (Nat.le_of_ble_eq_true rfl) (K7 _ (fun T9 h9 m9 rel9 l9 => zB_iff.mpr ?_))
      show G (1563, [(3, .inl (.int i)), (2, .inl (.ref 49)), (1, .inl (.ref 0)), (0, .inl (.ref 10000000))], [.inl (.int a), .inl (.int a)], h9, nc + 0, ns + 0)
      refine zrn_ok HW 1 (zbr_ex (cd := .eq) (x := a) (y := a) (fun _ => zB_iff.mpr ?_) (fun hc => (hc (zop_int.mpr (show a.toInt = a.toInt from rfl))).elim))
      exact nxt T9 h9 _ _ 0 0 rel9 l9 (Or.inl ⟨by decide, by decide, rfl⟩)

theorem lw_case47 {scr : List zV} {post : Option zV → zH → Bool} {G : zS → Prop} {D : Nat} {T : List Nat} {h : zH} {nc ns : Nat} {i : Int32} {t : Int} {v : Bool} (HW : zWalk zprog ze_L_law scr room_1.cells room_1.slots (zD zprog scr D) post G) (HWN : zWalk zprog ze_L_lawN scr room_1.cells room_1.slots (zD zprog scr D) post G) (hsc0 : cT scr) (hD : 300 ≤ D) (IHP : ∀ P : pP, tBel (zPhi P) scr 300) (hscr : ∀ j : Nat, (j : Int) < i.toInt + 6 → ∃ x : Int32, scr[j]? = some (.inl (.int x))) (hi0 : 0 ≤ i.toInt ∧ i.toInt ≤ 100000) (rel : REL T h t v) (hl : h.length ≤ 900000) (hc : nc + 4000 ≤ room_1.cells) (hs : ns + 980000 ≤ room_1.slots)
    (nxt : ∀ (T' : List Nat) (h' : zH) (t' : Int) (v' : Bool) (dc ds : Nat), REL T' h' t' v' → h'.length ≤ h.length + dc → ((dc ≤ 30 ∧ ds ≤ 3328 ∧ v' = v) ∨ (v = false ∧ v' = true ∧ dc ≤ 3843 ∧ ds ≤ 971974)) → G (1663, [(3, .inl (.int i)), (2, .inl (.ref 49)), (1, .inl (.ref 0)), (0, .inl (.ref 10000000))], [], h', nc + dc, ns + ds)) : G (1568, [(3, .inl (.int i)), (2, .inl (.ref 49)), (1, .inl (.ref 0)), (0, .inl (.ref 10000000))], [], h, nc, ns) := by
  have hq_0 : T[0]? = some 4 := rel.1.2.1.1.1
  have hq_49 : T[49]? = some 5 := rel.1.2.1.1.2.2.1
  have z1 : -2147483648 ≤ i.toInt + (1 : Int) → i.toInt + (1 : Int) ≤ 2147483647 → (i + (1 : Int32)).toInt = i.toInt + (1 : Int) := t_addC (x := i) (y := (1 : Int32))
  refine zrn_ok HW 5 (zB_iff.mpr (?_ : G (1573, [(3, .inl (.int i)), (2, .inl (.ref 49)), (1, .inl (.ref 0)), (0, .inl (.ref 10000000))], [.inl (.int (i + (1 : Int32))), .inl (.ref 10000000), .inl (.ref 0)], h, nc, ns)))
  obtain ⟨y1, s1⟩ := hscr ((i + (1 : Int32))).toInt.toNat (by omega)
  refine g_scr HW rfl (by omega) s1 ?_
  refine g_callV (E' := ze_X4_fete) HW rfl rfl (Nat.le_of_ble_eq_true rfl) (by show nc + 0 ≤ room_1.cells; omega) (by show ns + 0 ≤ room_1.slots; omega) rel.1.1 rfl hq_0 rfl (Nat.le_of_ble_eq_true rfl) (lp_fete hsc0 IHP hD rel hl _ (fun a T7 h7 m7 ok7 f7 K7 => zB_iff.mpr ?_))
  show G (1577, [(3, .inl (.int i)), (2, .inl (.ref 49)), (1, .inl (.ref 0)), (0, .inl (.ref 10000000))], [.inl (.int a)], h7, nc, ns)
  have hq_49 : T7[49]? = some 5 := ok7.2.1.1.2.2.1
  refine zrn_ok HW 5 (zB_iff.mpr (?_ : G (1582, [(3, .inl (.int i)), (2, .inl (.ref 49)), (1, .inl (.ref 0)), (0, .inl (.ref 10000000))], [.inl (.int (i + (1 : Int32))), .inl (.ref 10000000), .inl (.ref 49), .inl (.int a)], h7, nc, ns)))
  refine g_scr HW rfl (by omega) s1 ?_
  refine g_callV (E' := ze_X5_fete) HW rfl rfl (Nat.le_of_ble_eq_true rfl) (by show nc + 0 ≤ room_1.cells; omega) (by show ns + 0 ≤ room_1.slots; omega) ok7.1 rfl hq_49 rfl (Nat.le_of_ble_eq_true rfl) (K7 _ (fun T9 h9 m9 rel9 l9 => zB_iff.mpr ?_))
  show G (1586, [(3, .inl (.int i)), (2, .inl (.ref 49)), (1, .inl (.ref 0)), (0, .inl (.ref 10000000))], [.inl (.int a), .inl (.int a)], h9, nc + 0, ns + 0)
  refine zrn_ok HW 1 (zbr_ex (cd := .eq) (x := a) (y := a) (fun _ => zB_iff.mpr ?_) (fun hc => (hc (zop_int.mpr (show a.toInt = a.toInt from rfl))).elim))
  exact nxt T9 h9 _ _ 0 0 rel9 l9 (Or.inl ⟨by decide, by decide, rfl⟩)

theorem lw_case48 {scr : List zV} {post : Option zV → zH → Bool} {G : zS → Prop} {D : Nat} {T : List Nat} {h : zH} {nc ns : Nat} {i : Int32} {t : Int} {v : Bool} (HW : zWalk zprog ze_L_law scr room_1.cells room_1.slots (zD zprog scr D) post G) (HWN : zWalk zprog ze_L_lawN scr room_1.cells room_1.slots (zD zprog scr D) post G) (hsc0 : cT scr) (hD : 300 ≤ D) (IHP : ∀ P : pP, tBel (zPhi P) scr 300) (hscr : ∀ j : Nat, (j : Int) < i.toInt + 6 → ∃ x : Int32, scr[j]? = some (.inl (.int x))) (hi0 : 0 ≤ i.toInt ∧ i.toInt ≤ 100000) (rel : REL T h t v) (hl : h.length ≤ 900000) (hc : nc + 4000 ≤ room_1.cells) (hs : ns + 980000 ≤ room_1.slots)
    (nxt : ∀ (T' : List Nat) (h' : zH) (t' : Int) (v' : Bool) (dc ds : Nat), REL T' h' t' v' → h'.length ≤ h.length + dc → ((dc ≤ 30 ∧ ds ≤ 3328 ∧ v' = v) ∨ (v = false ∧ v' = true ∧ dc ≤ 3843 ∧ ds ≤ 971974)) → G (1663, [(3, .inl (.int i)), (2, .inl (.ref 49)), (1, .inl (.ref 0)), (0, .inl (.ref 10000000))], [], h', nc + dc, ns + ds)) : G (1591, [(3, .inl (.int i)), (2, .inl (.ref 49)), (1, .inl (.ref 0)), (0, .inl (.ref 10000000))], [], h, nc, ns) := by
  have hq_0 : T[0]? = some 4 := rel.1.2.1.1.1
  have hq_49 : T[49]? = some 5 := rel.1.2.1.1.2.2.1
  have z1 : -2147483648 ≤ i.toInt + (1 : Int) → i.toInt + (1 : Int) ≤ 2147483647 → (i + (1 : Int32)).toInt = i.toInt + (1 : Int) := t_addC (x := i) (y := (1 : Int32))
  refine zrn_ok HW 5 (zB_iff.mpr (?_ : G (1596, [(3, .inl (.int i)), (2, .inl (.ref 49)), (1, .inl (.ref 0)), (0, .inl (.ref 10000000))], [.inl (.int (i + (1 : Int32))), .inl (.ref 10000000), .inl (.ref 0)], h, nc, ns)))
  obtain ⟨y1, s1⟩ := hscr ((i + (1 : Int32))).toInt.toNat (by omega)
  refine g_scr HW rfl (by omega) s1 ?_
  refine g_callV (E' := ze_X4_seed) HW rfl rfl (Nat.le_of_ble_eq_true rfl) (by show nc + 0 ≤ room_1.cells; omega) (by show ns + 0 ≤ room_1.slots; omega) rel.1.1 rfl hq_0 rfl (Nat.le_of_ble_eq_true rfl) (lp_seed hsc0 IHP hD rel hl _ (fun a T7 h7 m7 ok7 f7 K7 => zB_iff.mpr ?_))
  show G (1600, [(3, .inl (.int i)), (2, .inl (.ref 49)), (1, .inl (.ref 0)), (0, .inl (.ref 10000000))], [.inl (.int a)], h7, nc, ns)
  have hq_49 : T7[49]? = some 5 := ok7.2.1.1.2.2.1
  refine zrn_ok HW 5 (zB_iff.mpr (?_ : G (1605, [(3, .inl (.int i)), (2, .inl (.ref 49)), (1, .inl (.ref 0)), (0, .inl (.ref 10000000))], [.inl (.int (i + (1 : Int32))), .inl (.ref 10000000), .inl (.ref 49), .inl (.int a)], h7, nc, ns)))
  refine g_scr HW rfl (by omega) s1 ?_
  refine g_callV (E' := ze_X5_seed) HW rfl rfl (Nat.le_of_ble_eq_true rfl) (by show nc + 0 ≤ room_1.cells; omega) (by show ns + 0 ≤ room_1.slots; omega) ok7.1 rfl hq_49 rfl (Nat.le_of_ble_eq_true rfl) (K7 _ (fun T9 h9 m9 rel9 l9 => zB_iff.mpr ?_))
  show G (1609, [(3, .inl (.int i)), (2, .inl (.ref 49)), (1, .inl (.ref 0)), (0, .inl (.ref 10000000))], [.inl (.int a), .inl (.int a)], h9, nc + 0, ns + 0)
  refine zrn_ok HW 1 (zbr_ex (cd := .eq) (x := a) (y := a) (fun _ => zB_iff.mpr ?_) (fun hc => (hc (zop_int.mpr (show a.toInt = a.toInt from rfl))).elim))
  exact nxt T9 h9 _ _ 0 0 rel9 l9 (Or.inl ⟨by decide, by decide, rfl⟩)

theorem lw_case49 {scr : List zV} {post : Option zV → zH → Bool} {G : zS → Prop} {D : Nat} {T : List Nat} {h : zH} {nc ns : Nat} {i : Int32} {t : Int} {v : Bool} (HW : zWalk zprog ze_L_law scr room_1.cells room_1.slots (zD zprog scr D) post G) (HWN : zWalk zprog ze_L_lawN scr room_1.cells room_1.slots (zD zprog scr D) post G) (hsc0 : cT scr) (hD : 300 ≤ D) (IHP : ∀ P : pP, tBel (zPhi P) scr 300) (hscr : ∀ j : Nat, (j : Int) < i.toInt + 6 → ∃ x : Int32, scr[j]? = some (.inl (.int x))) (hi0 : 0 ≤ i.toInt ∧ i.toInt ≤ 100000) (rel : REL T h t v) (hl : h.length ≤ 900000) (hc : nc + 4000 ≤ room_1.cells) (hs : ns + 980000 ≤ room_1.slots)
    (nxt : ∀ (T' : List Nat) (h' : zH) (t' : Int) (v' : Bool) (dc ds : Nat), REL T' h' t' v' → h'.length ≤ h.length + dc → ((dc ≤ 30 ∧ ds ≤ 3328 ∧ v' = v) ∨ (v = false ∧ v' = true ∧ dc ≤ 3843 ∧ ds ≤ 971974)) → G (1663, [(3, .inl (.int i)), (2, .inl (.ref 49)), (1, .inl (.ref 0)), (0, .inl (.ref 10000000))], [], h', nc + dc, ns + ds)) : G (1614, [(3, .inl (.int i)), (2, .inl (.ref 49)), (1, .inl (.ref 0)), (0, .inl (.ref 10000000))], [], h, nc, ns) := by
  have hq_0 : T[0]? = some 4 := rel.1.2.1.1.1
  have hq_49 : T[49]? = some 5 := rel.1.2.1.1.2.2.1
  refine zrn_ok HW 1 (zB_iff.mpr (?_ : G (1615, [(3, .inl (.int i)), (2, .inl (.ref 49)), (1, .inl (.ref 0)), (0, .inl (.ref 10000000))], [.inl (.ref 0)], h, nc, ns)))
  refine g_callV (E' := ze_X4_image) HW rfl rfl (Nat.le_of_ble_eq_true rfl) (by show nc + 0 ≤ room_1.cells; omega) (by show ns + 0 ≤ room_1.slots; omega) rel.1.1 rfl hq_0 rfl (Nat.le_of_ble_eq_true rfl) (lp_image hsc0 IHP hD rel hl _ (fun a T7 h7 m7 ok7 f7 K7 => zB_iff.mpr ?_))
  show G (1618, [(3, .inl (.int i)), (2, .inl (.ref 49)), (1, .inl (.ref 0)), (0, .inl (.ref 10000000))], [.inl (.int a)], h7, nc, ns)
  have hq_49 : T7[49]? = some 5 := ok7.2.1.1.2.2.1
  refine zrn_ok HW 1 (zB_iff.mpr (?_ : G (1619, [(3, .inl (.int i)), (2, .inl (.ref 49)), (1, .inl (.ref 0)), (0, .inl (.ref 10000000))], [.inl (.ref 49), .inl (.int a)], h7, nc, ns)))
  refine g_callV (E' := ze_X5_image) HW rfl rfl (Nat.le_of_ble_eq_true rfl) (by show nc + 30 ≤ room_1.cells; omega) (by show ns + 843 ≤ room_1.slots; omega) ok7.1 rfl hq_49 rfl (Nat.le_of_ble_eq_true rfl) (K7 _ (fun T9 h9 m9 rel9 l9 => zB_iff.mpr ?_))
  show G (1622, [(3, .inl (.int i)), (2, .inl (.ref 49)), (1, .inl (.ref 0)), (0, .inl (.ref 10000000))], [.inl (.int a), .inl (.int a)], h9, nc + 30, ns + 843)
  refine zrn_ok HW 1 (zbr_ex (cd := .eq) (x := a) (y := a) (fun _ => zB_iff.mpr ?_) (fun hc => (hc (zop_int.mpr (show a.toInt = a.toInt from rfl))).elim))
  exact nxt T9 h9 _ _ 30 843 rel9 l9 (Or.inl ⟨by decide, by decide, rfl⟩)

theorem lw_case50 {scr : List zV} {post : Option zV → zH → Bool} {G : zS → Prop} {D : Nat} {T : List Nat} {h : zH} {nc ns : Nat} {i : Int32} {t : Int} {v : Bool} (HW : zWalk zprog ze_L_law scr room_1.cells room_1.slots (zD zprog scr D) post G) (HWN : zWalk zprog ze_L_lawN scr room_1.cells room_1.slots (zD zprog scr D) post G) (hsc0 : cT scr) (hD : 300 ≤ D) (IHP : ∀ P : pP, tBel (zPhi P) scr 300) (hscr : ∀ j : Nat, (j : Int) < i.toInt + 6 → ∃ x : Int32, scr[j]? = some (.inl (.int x))) (hi0 : 0 ≤ i.toInt ∧ i.toInt ≤ 100000) (rel : REL T h t v) (hl : h.length ≤ 900000) (hc : nc + 4000 ≤ room_1.cells) (hs : ns + 980000 ≤ room_1.slots)
    (nxt : ∀ (T' : List Nat) (h' : zH) (t' : Int) (v' : Bool) (dc ds : Nat), REL T' h' t' v' → h'.length ≤ h.length + dc → ((dc ≤ 30 ∧ ds ≤ 3328 ∧ v' = v) ∨ (v = false ∧ v' = true ∧ dc ≤ 3843 ∧ ds ≤ 971974)) → G (1663, [(3, .inl (.int i)), (2, .inl (.ref 49)), (1, .inl (.ref 0)), (0, .inl (.ref 10000000))], [], h', nc + dc, ns + ds)) : G (1627, [(3, .inl (.int i)), (2, .inl (.ref 49)), (1, .inl (.ref 0)), (0, .inl (.ref 10000000))], [], h, nc, ns) := by
  have hq_0 : T[0]? = some 4 := rel.1.2.1.1.1
  have hq_49 : T[49]? = some 5 := rel.1.2.1.1.2.2.1
  refine zrn_ok HW 1 (zB_iff.mpr (?_ : G (1628, [(3, .inl (.int i)), (2, .inl (.ref 49)), (1, .inl (.ref 0)), (0, .inl (.ref 10000000))], [.inl (.ref 0)], h, nc, ns)))
  refine g_callV (E' := ze_X4_back) HW rfl rfl (Nat.le_of_ble_eq_true rfl) (by show nc + 0 ≤ room_1.cells; omega) (by show ns + 0 ≤ room_1.slots; omega) rel.1.1 rfl hq_0 rfl (Nat.le_of_ble_eq_true rfl) (lp_back hsc0 IHP hD rel hl _ (fun a T7 h7 m7 ok7 f7 K7 => zB_iff.mpr ?_))
  show G (1631, [(3, .inl (.int i)), (2, .inl (.ref 49)), (1, .inl (.ref 0)), (0, .inl (.ref 10000000))], [.inl (.int a)], h7, nc, ns)
  have hq_49 : T7[49]? = some 5 := ok7.2.1.1.2.2.1
  refine zrn_ok HW 1 (zB_iff.mpr (?_ : G (1632, [(3, .inl (.int i)), (2, .inl (.ref 49)), (1, .inl (.ref 0)), (0, .inl (.ref 10000000))], [.inl (.ref 49), .inl (.int a)], h7, nc, ns)))
  refine g_callV (E' := ze_X5_back) HW rfl rfl (Nat.le_of_ble_eq_true rfl) (by show nc + 0 ≤ room_1.cells; omega) (by show ns + 0 ≤ room_1.slots; omega) ok7.1 rfl hq_49 rfl (Nat.le_of_ble_eq_true rfl) (K7 _ (fun T9 h9 m9 rel9 l9 => zB_iff.mpr ?_))
  show G (1635, [(3, .inl (.int i)), (2, .inl (.ref 49)), (1, .inl (.ref 0)), (0, .inl (.ref 10000000))], [.inl (.int a), .inl (.int a)], h9, nc + 0, ns + 0)
  refine zrn_ok HW 1 (zbr_ex (cd := .eq) (x := a) (y := a) (fun _ => zB_iff.mpr ?_) (fun hc => (hc (zop_int.mpr (show a.toInt = a.toInt from rfl))).elim))
  exact nxt T9 h9 _ _ 0 0 rel9 l9 (Or.inl ⟨by decide, by decide, rfl⟩)

theorem lw_case51 {scr : List zV} {post : Option zV → zH → Bool} {G : zS → Prop} {D : Nat} {T : List Nat} {h : zH} {nc ns : Nat} {i : Int32} {t : Int} {v : Bool} (HW : zWalk zprog ze_L_law scr room_1.cells room_1.slots (zD zprog scr D) post G) (HWN : zWalk zprog ze_L_lawN scr room_1.cells room_1.slots (zD zprog scr D) post G) (hsc0 : cT scr) (hD : 300 ≤ D) (IHP : ∀ P : pP, tBel (zPhi P) scr 300) (hscr : ∀ j : Nat, (j : Int) < i.toInt + 6 → ∃ x : Int32, scr[j]? = some (.inl (.int x))) (hi0 : 0 ≤ i.toInt ∧ i.toInt ≤ 100000) (rel : REL T h t v) (hl : h.length ≤ 900000) (hc : nc + 4000 ≤ room_1.cells) (hs : ns + 980000 ≤ room_1.slots)
    (nxt : ∀ (T' : List Nat) (h' : zH) (t' : Int) (v' : Bool) (dc ds : Nat), REL T' h' t' v' → h'.length ≤ h.length + dc → ((dc ≤ 30 ∧ ds ≤ 3328 ∧ v' = v) ∨ (v = false ∧ v' = true ∧ dc ≤ 3843 ∧ ds ≤ 971974)) → G (1663, [(3, .inl (.int i)), (2, .inl (.ref 49)), (1, .inl (.ref 0)), (0, .inl (.ref 10000000))], [], h', nc + dc, ns + ds)) : G (1640, [(3, .inl (.int i)), (2, .inl (.ref 49)), (1, .inl (.ref 0)), (0, .inl (.ref 10000000))], [], h, nc, ns) := by
  have hq_0 : T[0]? = some 4 := rel.1.2.1.1.1
  have hq_49 : T[49]? = some 5 := rel.1.2.1.1.2.2.1
  have z1 : -2147483648 ≤ i.toInt + (1 : Int) → i.toInt + (1 : Int) ≤ 2147483647 → (i + (1 : Int32)).toInt = i.toInt + (1 : Int) := t_addC (x := i) (y := (1 : Int32))
  refine zrn_ok HW 5 (zB_iff.mpr (?_ : G (1645, [(3, .inl (.int i)), (2, .inl (.ref 49)), (1, .inl (.ref 0)), (0, .inl (.ref 10000000))], [.inl (.int (i + (1 : Int32))), .inl (.ref 10000000), .inl (.ref 0)], h, nc, ns)))
  obtain ⟨y1, s1⟩ := hscr ((i + (1 : Int32))).toInt.toNat (by omega)
  refine g_scr HW rfl (by omega) s1 ?_
  refine g_callV (E' := ze_X4_status) HW rfl rfl (Nat.le_of_ble_eq_true rfl) (by show nc + 0 ≤ room_1.cells; omega) (by show ns + 0 ≤ room_1.slots; omega) rel.1.1 rfl hq_0 rfl (Nat.le_of_ble_eq_true rfl) (lp_status hsc0 IHP hD rel hl _ (fun a T7 h7 m7 ok7 f7 K7 => zB_iff.mpr ?_))
  show G (1649, [(3, .inl (.int i)), (2, .inl (.ref 49)), (1, .inl (.ref 0)), (0, .inl (.ref 10000000))], [.inl (.int a)], h7, nc, ns)
  have hq_49 : T7[49]? = some 5 := ok7.2.1.1.2.2.1
  refine zrn_ok HW 5 (zB_iff.mpr (?_ : G (1654, [(3, .inl (.int i)), (2, .inl (.ref 49)), (1, .inl (.ref 0)), (0, .inl (.ref 10000000))], [.inl (.int (i + (1 : Int32))), .inl (.ref 10000000), .inl (.ref 49), .inl (.int a)], h7, nc, ns)))
  refine g_scr HW rfl (by omega) s1 ?_
  refine g_callV (E' := ze_X5_status) HW rfl rfl (Nat.le_of_ble_eq_true rfl) (by show nc + 0 ≤ room_1.cells; omega) (by show ns + 0 ≤ room_1.slots; omega) ok7.1 rfl hq_49 rfl (Nat.le_of_ble_eq_true rfl) (K7 _ (fun T9 h9 m9 rel9 l9 => zB_iff.mpr ?_))
  show G (1658, [(3, .inl (.int i)), (2, .inl (.ref 49)), (1, .inl (.ref 0)), (0, .inl (.ref 10000000))], [.inl (.int a), .inl (.int a)], h9, nc + 0, ns + 0)
  refine zrn_ok HW 1 (zbr_ex (cd := .eq) (x := a) (y := a) (fun _ => zB_iff.mpr ?_) (fun hc => (hc (zop_int.mpr (show a.toInt = a.toInt from rfl))).elim))
  exact nxt T9 h9 _ _ 0 0 rel9 l9 (Or.inl ⟨by decide, by decide, rfl⟩)
