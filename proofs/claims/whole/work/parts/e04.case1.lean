theorem lw_case13 {scr : List zV} {post : Option zV → zH → Bool} {G : zS → Prop} {D : Nat} {T : List Nat} {h : zH} {nc ns : Nat} {i : Int32} {t : Int} {v : Bool} (HW : zWalk zprog ze_L_law scr room_1.cells room_1.slots (zD zprog scr D) post G) (HWN : zWalk zprog ze_L_lawN scr room_1.cells room_1.slots (zD zprog scr D) post G) (hsc0 : cT scr) (hD : 300 ≤ D) (IHP : ∀ P : pP, tBel (zPhi P) scr 300) (hscr : ∀ j : Nat, (j : Int) < i.toInt + 6 → ∃ x : Int32, scr[j]? = some (.inl (.int x))) (hi0 : 0 ≤ i.toInt ∧ i.toInt ≤ 100000) (rel : REL T h t v) (hl : h.length ≤ 900000) (hc : nc + 4000 ≤ room_1.cells) (hs : ns + 980000 ≤ room_1.slots)
    (nxt : ∀ (T' : List Nat) (h' : zH) (t' : Int) (v' : Bool) (dc ds : Nat), REL T' h' t' v' → h'.length ≤ h.length + dc → ((dc ≤ 30 ∧ ds ≤ 3328 ∧ v' = v) ∨ (v = false ∧ v' = true ∧ dc ≤ 3843 ∧ ds ≤ 971974)) → G (1663, [(3, .inl (.int i)), (2, .inl (.ref 49)), (1, .inl (.ref 0)), (0, .inl (.ref 10000000))], [], h', nc + dc, ns + ds)) : G (746, [(3, .inl (.int i)), (2, .inl (.ref 49)), (1, .inl (.ref 0)), (0, .inl (.ref 10000000))], [], h, nc, ns) := by
  have hq_0 : T[0]? = some 4 := rel.1.2.1.1.1
  have hq_49 : T[49]? = some 5 := rel.1.2.1.1.2.2.1
  have z1 : -2147483648 ≤ i.toInt + (1 : Int) → i.toInt + (1 : Int) ≤ 2147483647 → (i + (1 : Int32)).toInt = i.toInt + (1 : Int) := t_addC (x := i) (y := (1 : Int32))
  refine zrn_ok HW 5 (zB_iff.mpr (?_ : G (751, [(3, .inl (.int i)), (2, .inl (.ref 49)), (1, .inl (.ref 0)), (0, .inl (.ref 10000000))], [.inl (.int (i + (1 : Int32))), .inl (.ref 10000000), .inl (.ref 0)], h, nc, ns)))
  obtain ⟨y1, s1⟩ := hscr ((i + (1 : Int32))).toInt.toNat (by omega)
  refine g_scr HW rfl (by omega) s1 ?_
  have z2 : -2147483648 ≤ i.toInt + (2 : Int) → i.toInt + (2 : Int) ≤ 2147483647 → (i + (2 : Int32)).toInt = i.toInt + (2 : Int) := t_addC (x := i) (y := (2 : Int32))
  refine zrn_ok HW 4 (zB_iff.mpr (?_ : G (756, [(3, .inl (.int i)), (2, .inl (.ref 49)), (1, .inl (.ref 0)), (0, .inl (.ref 10000000))], [.inl (.int (i + (2 : Int32))), .inl (.ref 10000000), .inl (.int y1), .inl (.ref 0)], h, nc, ns)))
  obtain ⟨y2, s2⟩ := hscr ((i + (2 : Int32))).toInt.toNat (by omega)
  refine g_scr HW rfl (by omega) s2 ?_
  refine g_callV (E' := ze_X4_purse) HW rfl rfl (Nat.le_of_ble_eq_true rfl) (by show nc + 0 ≤ room_1.cells; omega) (by show ns + 0 ≤ room_1.slots; omega) rel.1.1 rfl hq_0 rfl (Nat.le_of_ble_eq_true rfl) (lp_purse hsc0 IHP hD rel hl _ (fun a T7 h7 m7 ok7 f7 K7 => zB_iff.mpr ?_))
  show G (760, [(3, .inl (.int i)), (2, .inl (.ref 49)), (1, .inl (.ref 0)), (0, .inl (.ref 10000000))], [.inl (.int a)], h7, nc, ns)
  have hq_49 : T7[49]? = some 5 := ok7.2.1.1.2.2.1
  refine zrn_ok HW 5 (zB_iff.mpr (?_ : G (765, [(3, .inl (.int i)), (2, .inl (.ref 49)), (1, .inl (.ref 0)), (0, .inl (.ref 10000000))], [.inl (.int (i + (1 : Int32))), .inl (.ref 10000000), .inl (.ref 49), .inl (.int a)], h7, nc, ns)))
  refine g_scr HW rfl (by omega) s1 ?_
  refine zrn_ok HW 4 (zB_iff.mpr (?_ : G (770, [(3, .inl (.int i)), (2, .inl (.ref 49)), (1, .inl (.ref 0)), (0, .inl (.ref 10000000))], [.inl (.int (i + (2 : Int32))), .inl (.ref 10000000), .inl (.int y1), .inl (.ref 49), .inl (.int a)], h7, nc, ns)))
  refine g_scr HW rfl (by omega) s2 ?_
  refine g_callV (E' := ze_X5_purse) HW rfl rfl (Nat.le_of_ble_eq_true rfl) (by show nc + 0 ≤ room_1.cells; omega) (by show ns + 0 ≤ room_1.slots; omega) ok7.1 rfl hq_49 rfl (Nat.le_of_ble_eq_true rfl) (K7 _ (fun T9 h9 m9 rel9 l9 => zB_iff.mpr ?_))
  show G (774, [(3, .inl (.int i)), (2, .inl (.ref 49)), (1, .inl (.ref 0)), (0, .inl (.ref 10000000))], [.inl (.int a), .inl (.int a)], h9, nc + 0, ns + 0)
  refine zrn_ok HW 1 (zbr_ex (cd := .eq) (x := a) (y := a) (fun _ => zB_iff.mpr ?_) (fun hc => (hc (zop_int.mpr (show a.toInt = a.toInt from rfl))).elim))
  exact nxt T9 h9 _ _ 0 0 rel9 l9 (Or.inl ⟨by decide, by decide, rfl⟩)

theorem lw_case14 {scr : List zV} {post : Option zV → zH → Bool} {G : zS → Prop} {D : Nat} {T : List Nat} {h : zH} {nc ns : Nat} {i : Int32} {t : Int} {v : Bool} (HW : zWalk zprog ze_L_law scr room_1.cells room_1.slots (zD zprog scr D) post G) (HWN : zWalk zprog ze_L_lawN scr room_1.cells room_1.slots (zD zprog scr D) post G) (hsc0 : cT scr) (hD : 300 ≤ D) (IHP : ∀ P : pP, tBel (zPhi P) scr 300) (hscr : ∀ j : Nat, (j : Int) < i.toInt + 6 → ∃ x : Int32, scr[j]? = some (.inl (.int x))) (hi0 : 0 ≤ i.toInt ∧ i.toInt ≤ 100000) (rel : REL T h t v) (hl : h.length ≤ 900000) (hc : nc + 4000 ≤ room_1.cells) (hs : ns + 980000 ≤ room_1.slots)
    (nxt : ∀ (T' : List Nat) (h' : zH) (t' : Int) (v' : Bool) (dc ds : Nat), REL T' h' t' v' → h'.length ≤ h.length + dc → ((dc ≤ 30 ∧ ds ≤ 3328 ∧ v' = v) ∨ (v = false ∧ v' = true ∧ dc ≤ 3843 ∧ ds ≤ 971974)) → G (1663, [(3, .inl (.int i)), (2, .inl (.ref 49)), (1, .inl (.ref 0)), (0, .inl (.ref 10000000))], [], h', nc + dc, ns + ds)) : G (779, [(3, .inl (.int i)), (2, .inl (.ref 49)), (1, .inl (.ref 0)), (0, .inl (.ref 10000000))], [], h, nc, ns) := by
  have hq_0 : T[0]? = some 4 := rel.1.2.1.1.1
  have hq_49 : T[49]? = some 5 := rel.1.2.1.1.2.2.1
  have z1 : -2147483648 ≤ i.toInt + (1 : Int) → i.toInt + (1 : Int) ≤ 2147483647 → (i + (1 : Int32)).toInt = i.toInt + (1 : Int) := t_addC (x := i) (y := (1 : Int32))
  refine zrn_ok HW 5 (zB_iff.mpr (?_ : G (784, [(3, .inl (.int i)), (2, .inl (.ref 49)), (1, .inl (.ref 0)), (0, .inl (.ref 10000000))], [.inl (.int (i + (1 : Int32))), .inl (.ref 10000000), .inl (.ref 0)], h, nc, ns)))
  obtain ⟨y1, s1⟩ := hscr ((i + (1 : Int32))).toInt.toNat (by omega)
  refine g_scr HW rfl (by omega) s1 ?_
  refine g_callV (E' := ze_X4_feed) HW rfl rfl (Nat.le_of_ble_eq_true rfl) (by show nc + 0 ≤ room_1.cells; omega) (by show ns + 0 ≤ room_1.slots; omega) rel.1.1 rfl hq_0 rfl (Nat.le_of_ble_eq_true rfl) (lp_feed hsc0 IHP hD rel hl _ (fun a T7 h7 m7 ok7 f7 K7 => zB_iff.mpr ?_))
  show G (788, [(3, .inl (.int i)), (2, .inl (.ref 49)), (1, .inl (.ref 0)), (0, .inl (.ref 10000000))], [.inl (.int a)], h7, nc, ns)
  have hq_49 : T7[49]? = some 5 := ok7.2.1.1.2.2.1
  refine zrn_ok HW 5 (zB_iff.mpr (?_ : G (793, [(3, .inl (.int i)), (2, .inl (.ref 49)), (1, .inl (.ref 0)), (0, .inl (.ref 10000000))], [.inl (.int (i + (1 : Int32))), .inl (.ref 10000000), .inl (.ref 49), .inl (.int a)], h7, nc, ns)))
  refine g_scr HW rfl (by omega) s1 ?_
  refine g_callV (E' := ze_X5_feed) HW rfl rfl (Nat.le_of_ble_eq_true rfl) (by show nc + 0 ≤ room_1.cells; omega) (by show ns + 0 ≤ room_1.slots; omega) ok7.1 rfl hq_49 rfl (Nat.le_of_ble_eq_true rfl) (K7 _ (fun T9 h9 m9 rel9 l9 => zB_iff.mpr ?_))
  show G (797, [(3, .inl (.int i)), (2, .inl (.ref 49)), (1, .inl (.ref 0)), (0, .inl (.ref 10000000))], [.inl (.int a), .inl (.int a)], h9, nc + 0, ns + 0)
  refine zrn_ok HW 1 (zbr_ex (cd := .eq) (x := a) (y := a) (fun _ => zB_iff.mpr ?_) (fun hc => (hc (zop_int.mpr (show a.toInt = a.toInt from rfl))).elim))
  exact nxt T9 h9 _ _ 0 0 rel9 l9 (Or.inl ⟨by decide, by decide, rfl⟩)

theorem lw_case15 {scr : List zV} {post : Option zV → zH → Bool} {G : zS → Prop} {D : Nat} {T : List Nat} {h : zH} {nc ns : Nat} {i : Int32} {t : Int} {v : Bool} (HW : zWalk zprog ze_L_law scr room_1.cells room_1.slots (zD zprog scr D) post G) (HWN : zWalk zprog ze_L_lawN scr room_1.cells room_1.slots (zD zprog scr D) post G) (hsc0 : cT scr) (hD : 300 ≤ D) (IHP : ∀ P : pP, tBel (zPhi P) scr 300) (hscr : ∀ j : Nat, (j : Int) < i.toInt + 6 → ∃ x : Int32, scr[j]? = some (.inl (.int x))) (hi0 : 0 ≤ i.toInt ∧ i.toInt ≤ 100000) (rel : REL T h t v) (hl : h.length ≤ 900000) (hc : nc + 4000 ≤ room_1.cells) (hs : ns + 980000 ≤ room_1.slots)
    (nxt : ∀ (T' : List Nat) (h' : zH) (t' : Int) (v' : Bool) (dc ds : Nat), REL T' h' t' v' → h'.length ≤ h.length + dc → ((dc ≤ 30 ∧ ds ≤ 3328 ∧ v' = v) ∨ (v = false ∧ v' = true ∧ dc ≤ 3843 ∧ ds ≤ 971974)) → G (1663, [(3, .inl (.int i)), (2, .inl (.ref 49)), (1, .inl (.ref 0)), (0, .inl (.ref 10000000))], [], h', nc + dc, ns + ds)) : G (802, [(3, .inl (.int i)), (2, .inl (.ref 49)), (1, .inl (.ref 0)), (0, .inl (.ref 10000000))], [], h, nc, ns) := by
  have hq_0 : T[0]? = some 4 := rel.1.2.1.1.1
  have hq_49 : T[49]? = some 5 := rel.1.2.1.1.2.2.1
  refine zrn_ok HW 1 (zB_iff.mpr (?_ : G (803, [(3, .inl (.int i)), (2, .inl (.ref 49)), (1, .inl (.ref 0)), (0, .inl (.ref 10000000))], [.inl (.ref 0)], h, nc, ns)))
  refine g_callV (E' := ze_X4_wipe) HW rfl rfl (Nat.le_of_ble_eq_true rfl) (by show nc + 0 ≤ room_1.cells; omega) (by show ns + 0 ≤ room_1.slots; omega) rel.1.1 rfl hq_0 rfl (Nat.le_of_ble_eq_true rfl) (lp_wipe hsc0 IHP hD rel hl _ (fun a T7 h7 m7 ok7 f7 K7 => zB_iff.mpr ?_))
  show G (806, [(3, .inl (.int i)), (2, .inl (.ref 49)), (1, .inl (.ref 0)), (0, .inl (.ref 10000000))], [.inl (.int a)], h7, nc, ns)
  have hq_49 : T7[49]? = some 5 := ok7.2.1.1.2.2.1
  refine zrn_ok HW 1 (zB_iff.mpr (?_ : G (807, [(3, .inl (.int i)), (2, .inl (.ref 49)), (1, .inl (.ref 0)), (0, .inl (.ref 10000000))], [.inl (.ref 49), .inl (.int a)], h7, nc, ns)))
  refine g_callV (E' := ze_X5_wipe) HW rfl rfl (Nat.le_of_ble_eq_true rfl) (by show nc + 0 ≤ room_1.cells; omega) (by show ns + 0 ≤ room_1.slots; omega) ok7.1 rfl hq_49 rfl (Nat.le_of_ble_eq_true rfl) (K7 _ (fun T9 h9 m9 rel9 l9 => zB_iff.mpr ?_))
  show G (810, [(3, .inl (.int i)), (2, .inl (.ref 49)), (1, .inl (.ref 0)), (0, .inl (.ref 10000000))], [.inl (.int a), .inl (.int a)], h9, nc + 0, ns + 0)
  refine zrn_ok HW 1 (zbr_ex (cd := .eq) (x := a) (y := a) (fun _ => zB_iff.mpr ?_) (fun hc => (hc (zop_int.mpr (show a.toInt = a.toInt from rfl))).elim))
  exact nxt T9 h9 _ _ 0 0 rel9 l9 (Or.inl ⟨by decide, by decide, rfl⟩)

theorem lw_case16 {scr : List zV} {post : Option zV → zH → Bool} {G : zS → Prop} {D : Nat} {T : List Nat} {h : zH} {nc ns : Nat} {i : Int32} {t : Int} {v : Bool} (HW : zWalk zprog ze_L_law scr room_1.cells room_1.slots (zD zprog scr D) post G) (HWN : zWalk zprog ze_L_lawN scr room_1.cells room_1.slots (zD zprog scr D) post G) (hsc0 : cT scr) (hD : 300 ≤ D) (IHP : ∀ P : pP, tBel (zPhi P) scr 300) (hscr : ∀ j : Nat, (j : Int) < i.toInt + 6 → ∃ x : Int32, scr[j]? = some (.inl (.int x))) (hi0 : 0 ≤ i.toInt ∧ i.toInt ≤ 100000) (rel : REL T h t v) (hl : h.length ≤ 900000) (hc : nc + 4000 ≤ room_1.cells) (hs : ns + 980000 ≤ room_1.slots)
    (nxt : ∀ (T' : List Nat) (h' : zH) (t' : Int) (v' : Bool) (dc ds : Nat), REL T' h' t' v' → h'.length ≤ h.length + dc → ((dc ≤ 30 ∧ ds ≤ 3328 ∧ v' = v) ∨ (v = false ∧ v' = true ∧ dc ≤ 3843 ∧ ds ≤ 971974)) → G (1663, [(3, .inl (.int i)), (2, .inl (.ref 49)), (1, .inl (.ref 0)), (0, .inl (.ref 10000000))], [], h', nc + dc, ns + ds)) : G (815, [(3, .inl (.int i)), (2, .inl (.ref 49)), (1, .inl (.ref 0)), (0, .inl (.ref 10000000))], [], h, nc, ns) := by
  have hq_0 : T[0]? = some 4 := rel.1.2.1.1.1
  have hq_49 : T[49]? = some 5 := rel.1.2.1.1.2.2.1
  refine zrn_ok HW 1 (zB_iff.mpr (?_ : G (816, [(3, .inl (.int i)), (2, .inl (.ref 49)), (1, .inl (.ref 0)), (0, .inl (.ref 10000000))], [.inl (.ref 0)], h, nc, ns)))
  refine g_callV (E' := ze_X4_stall) HW rfl rfl (Nat.le_of_ble_eq_true rfl) (by show nc + 0 ≤ room_1.cells; omega) (by show ns + 0 ≤ room_1.slots; omega) rel.1.1 rfl hq_0 rfl (Nat.le_of_ble_eq_true rfl) (lp_stall hsc0 IHP hD rel hl _ (fun a T7 h7 m7 ok7 f7 K7 => zB_iff.mpr ?_))
  show G (819, [(3, .inl (.int i)), (2, .inl (.ref 49)), (1, .inl (.ref 0)), (0, .inl (.ref 10000000))], [.inl (.int a)], h7, nc, ns)
  have hq_49 : T7[49]? = some 5 := ok7.2.1.1.2.2.1
  refine zrn_ok HW 1 (zB_iff.mpr (?_ : G (820, [(3, .inl (.int i)), (2, .inl (.ref 49)), (1, .inl (.ref 0)), (0, .inl (.ref 10000000))], [.inl (.ref 49), .inl (.int a)], h7, nc, ns)))
  refine g_callV (E' := ze_X5_stall) HW rfl rfl (Nat.le_of_ble_eq_true rfl) (by show nc + 30 ≤ room_1.cells; omega) (by show ns + 843 ≤ room_1.slots; omega) ok7.1 rfl hq_49 rfl (Nat.le_of_ble_eq_true rfl) (K7 _ (fun T9 h9 m9 rel9 l9 => zB_iff.mpr ?_))
  show G (823, [(3, .inl (.int i)), (2, .inl (.ref 49)), (1, .inl (.ref 0)), (0, .inl (.ref 10000000))], [.inl (.int a), .inl (.int a)], h9, nc + 30, ns + 843)
  refine zrn_ok HW 1 (zbr_ex (cd := .eq) (x := a) (y := a) (fun _ => zB_iff.mpr ?_) (fun hc => (hc (zop_int.mpr (show a.toInt = a.toInt from rfl))).elim))
  exact nxt T9 h9 _ _ 30 843 rel9 l9 (Or.inl ⟨by decide, by decide, rfl⟩)

theorem lw_case17 {scr : List zV} {post : Option zV → zH → Bool} {G : zS → Prop} {D : Nat} {T : List Nat} {h : zH} {nc ns : Nat} {i : Int32} {t : Int} {v : Bool} (HW : zWalk zprog ze_L_law scr room_1.cells room_1.slots (zD zprog scr D) post G) (HWN : zWalk zprog ze_L_lawN scr room_1.cells room_1.slots (zD zprog scr D) post G) (hsc0 : cT scr) (hD : 300 ≤ D) (IHP : ∀ P : pP, tBel (zPhi P) scr 300) (hscr : ∀ j : Nat, (j : Int) < i.toInt + 6 → ∃ x : Int32, scr[j]? = some (.inl (.int x))) (hi0 : 0 ≤ i.toInt ∧ i.toInt ≤ 100000) (rel : REL T h t v) (hl : h.length ≤ 900000) (hc : nc + 4000 ≤ room_1.cells) (hs : ns + 980000 ≤ room_1.slots)
    (nxt : ∀ (T' : List Nat) (h' : zH) (t' : Int) (v' : Bool) (dc ds : Nat), REL T' h' t' v' → h'.length ≤ h.length + dc → ((dc ≤ 30 ∧ ds ≤ 3328 ∧ v' = v) ∨ (v = false ∧ v' = true ∧ dc ≤ 3843 ∧ ds ≤ 971974)) → G (1663, [(3, .inl (.int i)), (2, .inl (.ref 49)), (1, .inl (.ref 0)), (0, .inl (.ref 10000000))], [], h', nc + dc, ns + ds)) : G (828, [(3, .inl (.int i)), (2, .inl (.ref 49)), (1, .inl (.ref 0)), (0, .inl (.ref 10000000))], [], h, nc, ns) := by
  have hq_0 : T[0]? = some 4 := rel.1.2.1.1.1
  have hq_49 : T[49]? = some 5 := rel.1.2.1.1.2.2.1
  have z1 : -2147483648 ≤ i.toInt + (1 : Int) → i.toInt + (1 : Int) ≤ 2147483647 → (i + (1 : Int32)).toInt = i.toInt + (1 : Int) := t_addC (x := i) (y := (1 : Int32))
  refine zrn_ok HW 5 (zB_iff.mpr (?_ : G (833, [(3, .inl (.int i)), (2, .inl (.ref 49)), (1, .inl (.ref 0)), (0, .inl (.ref 10000000))], [.inl (.int (i + (1 : Int32))), .inl (.ref 10000000), .inl (.ref 0)], h, nc, ns)))
  obtain ⟨y1, s1⟩ := hscr ((i + (1 : Int32))).toInt.toNat (by omega)
  refine g_scr HW rfl (by omega) s1 ?_
  have z2 : -2147483648 ≤ i.toInt + (2 : Int) → i.toInt + (2 : Int) ≤ 2147483647 → (i + (2 : Int32)).toInt = i.toInt + (2 : Int) := t_addC (x := i) (y := (2 : Int32))
  refine zrn_ok HW 4 (zB_iff.mpr (?_ : G (838, [(3, .inl (.int i)), (2, .inl (.ref 49)), (1, .inl (.ref 0)), (0, .inl (.ref 10000000))], [.inl (.int (i + (2 : Int32))), .inl (.ref 10000000), .inl (.int y1), .inl (.ref 0)], h, nc, ns)))
  obtain ⟨y2, s2⟩ := hscr ((i + (2 : Int32))).toInt.toNat (by omega)
  refine g_scr HW rfl (by omega) s2 ?_
  refine g_callV (E' := ze_X4_thingOf) HW rfl rfl (Nat.le_of_ble_eq_true rfl) (by show nc + 0 ≤ room_1.cells; omega) (by show ns + 0 ≤ room_1.slots; omega) rel.1.1 rfl hq_0 rfl (Nat.le_of_ble_eq_true rfl) (lp_thingOf hsc0 IHP hD rel hl _ (fun a T7 h7 m7 ok7 f7 K7 => zB_iff.mpr ?_))
  show G (842, [(3, .inl (.int i)), (2, .inl (.ref 49)), (1, .inl (.ref 0)), (0, .inl (.ref 10000000))], [.inl (.int a)], h7, nc, ns)
  have hq_49 : T7[49]? = some 5 := ok7.2.1.1.2.2.1
  refine zrn_ok HW 5 (zB_iff.mpr (?_ : G (847, [(3, .inl (.int i)), (2, .inl (.ref 49)), (1, .inl (.ref 0)), (0, .inl (.ref 10000000))], [.inl (.int (i + (1 : Int32))), .inl (.ref 10000000), .inl (.ref 49), .inl (.int a)], h7, nc, ns)))
  refine g_scr HW rfl (by omega) s1 ?_
  refine zrn_ok HW 4 (zB_iff.mpr (?_ : G (852, [(3, .inl (.int i)), (2, .inl (.ref 49)), (1, .inl (.ref 0)), (0, .inl (.ref 10000000))], [.inl (.int (i + (2 : Int32))), .inl (.ref 10000000), .inl (.int y1), .inl (.ref 49), .inl (.int a)], h7, nc, ns)))
  refine g_scr HW rfl (by omega) s2 ?_
  refine g_callV (E' := ze_X5_thingOf) HW rfl rfl (Nat.le_of_ble_eq_true rfl) (by show nc + 0 ≤ room_1.cells; omega) (by show ns + 0 ≤ room_1.slots; omega) ok7.1 rfl hq_49 rfl (Nat.le_of_ble_eq_true rfl) (K7 _ (fun T9 h9 m9 rel9 l9 => zB_iff.mpr ?_))
  show G (856, [(3, .inl (.int i)), (2, .inl (.ref 49)), (1, .inl (.ref 0)), (0, .inl (.ref 10000000))], [.inl (.int a), .inl (.int a)], h9, nc + 0, ns + 0)
  refine zrn_ok HW 1 (zbr_ex (cd := .eq) (x := a) (y := a) (fun _ => zB_iff.mpr ?_) (fun hc => (hc (zop_int.mpr (show a.toInt = a.toInt from rfl))).elim))
  exact nxt T9 h9 _ _ 0 0 rel9 l9 (Or.inl ⟨by decide, by decide, rfl⟩)

theorem lw_case18 {scr : List zV} {post : Option zV → zH → Bool} {G : zS → Prop} {D : Nat} {T : List Nat} {h : zH} {nc ns : Nat} {i : Int32} {t : Int} {v : Bool} (HW : zWalk zprog ze_L_law scr room_1.cells room_1.slots (zD zprog scr D) post G) (HWN : zWalk zprog ze_L_lawN scr room_1.cells room_1.slots (zD zprog scr D) post G) (hsc0 : cT scr) (hD : 300 ≤ D) (IHP : ∀ P : pP, tBel (zPhi P) scr 300) (hscr : ∀ j : Nat, (j : Int) < i.toInt + 6 → ∃ x : Int32, scr[j]? = some (.inl (.int x))) (hi0 : 0 ≤ i.toInt ∧ i.toInt ≤ 100000) (rel : REL T h t v) (hl : h.length ≤ 900000) (hc : nc + 4000 ≤ room_1.cells) (hs : ns + 980000 ≤ room_1.slots)
    (nxt : ∀ (T' : List Nat) (h' : zH) (t' : Int) (v' : Bool) (dc ds : Nat), REL T' h' t' v' → h'.length ≤ h.length + dc → ((dc ≤ 30 ∧ ds ≤ 3328 ∧ v' = v) ∨ (v = false ∧ v' = true ∧ dc ≤ 3843 ∧ ds ≤ 971974)) → G (1663, [(3, .inl (.int i)), (2, .inl (.ref 49)), (1, .inl (.ref 0)), (0, .inl (.ref 10000000))], [], h', nc + dc, ns + ds)) : G (861, [(3, .inl (.int i)), (2, .inl (.ref 49)), (1, .inl (.ref 0)), (0, .inl (.ref 10000000))], [], h, nc, ns) := by
  have hq_0 : T[0]? = some 4 := rel.1.2.1.1.1
  have hq_49 : T[49]? = some 5 := rel.1.2.1.1.2.2.1
  have z1 : -2147483648 ≤ i.toInt + (1 : Int) → i.toInt + (1 : Int) ≤ 2147483647 → (i + (1 : Int32)).toInt = i.toInt + (1 : Int) := t_addC (x := i) (y := (1 : Int32))
  refine zrn_ok HW 5 (zB_iff.mpr (?_ : G (866, [(3, .inl (.int i)), (2, .inl (.ref 49)), (1, .inl (.ref 0)), (0, .inl (.ref 10000000))], [.inl (.int (i + (1 : Int32))), .inl (.ref 10000000), .inl (.ref 0)], h, nc, ns)))
  obtain ⟨y1, s1⟩ := hscr ((i + (1 : Int32))).toInt.toNat (by omega)
  refine g_scr HW rfl (by omega) s1 ?_
  have z2 : -2147483648 ≤ i.toInt + (2 : Int) → i.toInt + (2 : Int) ≤ 2147483647 → (i + (2 : Int32)).toInt = i.toInt + (2 : Int) := t_addC (x := i) (y := (2 : Int32))
  refine zrn_ok HW 4 (zB_iff.mpr (?_ : G (871, [(3, .inl (.int i)), (2, .inl (.ref 49)), (1, .inl (.ref 0)), (0, .inl (.ref 10000000))], [.inl (.int (i + (2 : Int32))), .inl (.ref 10000000), .inl (.int y1), .inl (.ref 0)], h, nc, ns)))
  obtain ⟨y2, s2⟩ := hscr ((i + (2 : Int32))).toInt.toNat (by omega)
  refine g_scr HW rfl (by omega) s2 ?_
  refine g_callV (E' := ze_X4_buyerOf) HW rfl rfl (Nat.le_of_ble_eq_true rfl) (by show nc + 0 ≤ room_1.cells; omega) (by show ns + 0 ≤ room_1.slots; omega) rel.1.1 rfl hq_0 rfl (Nat.le_of_ble_eq_true rfl) (lp_buyerOf hsc0 IHP hD rel hl _ (fun a T7 h7 m7 ok7 f7 K7 => zB_iff.mpr ?_))
  show G (875, [(3, .inl (.int i)), (2, .inl (.ref 49)), (1, .inl (.ref 0)), (0, .inl (.ref 10000000))], [.inl (.int a)], h7, nc, ns)
  have hq_49 : T7[49]? = some 5 := ok7.2.1.1.2.2.1
  refine zrn_ok HW 5 (zB_iff.mpr (?_ : G (880, [(3, .inl (.int i)), (2, .inl (.ref 49)), (1, .inl (.ref 0)), (0, .inl (.ref 10000000))], [.inl (.int (i + (1 : Int32))), .inl (.ref 10000000), .inl (.ref 49), .inl (.int a)], h7, nc, ns)))
  refine g_scr HW rfl (by omega) s1 ?_
  refine zrn_ok HW 4 (zB_iff.mpr (?_ : G (885, [(3, .inl (.int i)), (2, .inl (.ref 49)), (1, .inl (.ref 0)), (0, .inl (.ref 10000000))], [.inl (.int (i + (2 : Int32))), .inl (.ref 10000000), .inl (.int y1), .inl (.ref 49), .inl (.int a)], h7, nc, ns)))
  refine g_scr HW rfl (by omega) s2 ?_
  refine g_callV (E' := ze_X5_buyerOf) HW rfl rfl (Nat.le_of_ble_eq_true rfl) (by show nc + 0 ≤ room_1.cells; omega) (by show ns + 0 ≤ room_1.slots; omega) ok7.1 rfl hq_49 rfl (Nat.le_of_ble_eq_true rfl) (K7 _ (fun T9 h9 m9 rel9 l9 => zB_iff.mpr ?_))
  show G (889, [(3, .inl (.int i)), (2, .inl (.ref 49)), (1, .inl (.ref 0)), (0, .inl (.ref 10000000))], [.inl (.int a), .inl (.int a)], h9, nc + 0, ns + 0)
  refine zrn_ok HW 1 (zbr_ex (cd := .eq) (x := a) (y := a) (fun _ => zB_iff.mpr ?_) (fun hc => (hc (zop_int.mpr (show a.toInt = a.toInt from rfl))).elim))
  exact nxt T9 h9 _ _ 0 0 rel9 l9 (Or.inl ⟨by decide, by decide, rfl⟩)

theorem lw_case19 {scr : List zV} {post : Option zV → zH → Bool} {G : zS → Prop} {D : Nat} {T : List Nat} {h : zH} {nc ns : Nat} {i : Int32} {t : Int} {v : Bool} (HW : zWalk zprog ze_L_law scr room_1.cells room_1.slots (zD zprog scr D) post G) (HWN : zWalk zprog ze_L_lawN scr room_1.cells room_1.slots (zD zprog scr D) post G) (hsc0 : cT scr) (hD : 300 ≤ D) (IHP : ∀ P : pP, tBel (zPhi P) scr 300) (hscr : ∀ j : Nat, (j : Int) < i.toInt + 6 → ∃ x : Int32, scr[j]? = some (.inl (.int x))) (hi0 : 0 ≤ i.toInt ∧ i.toInt ≤ 100000) (rel : REL T h t v) (hl : h.length ≤ 900000) (hc : nc + 4000 ≤ room_1.cells) (hs : ns + 980000 ≤ room_1.slots)
    (nxt : ∀ (T' : List Nat) (h' : zH) (t' : Int) (v' : Bool) (dc ds : Nat), REL T' h' t' v' → h'.length ≤ h.length + dc → ((dc ≤ 30 ∧ ds ≤ 3328 ∧ v' = v) ∨ (v = false ∧ v' = true ∧ dc ≤ 3843 ∧ ds ≤ 971974)) → G (1663, [(3, .inl (.int i)), (2, .inl (.ref 49)), (1, .inl (.ref 0)), (0, .inl (.ref 10000000))], [], h', nc + dc, ns + ds)) : G (894, [(3, .inl (.int i)), (2, .inl (.ref 49)), (1, .inl (.ref 0)), (0, .inl (.ref 10000000))], [], h, nc, ns) := by
  have hq_0 : T[0]? = some 4 := rel.1.2.1.1.1
  have hq_49 : T[49]? = some 5 := rel.1.2.1.1.2.2.1
  have z1 : -2147483648 ≤ i.toInt + (1 : Int) → i.toInt + (1 : Int) ≤ 2147483647 → (i + (1 : Int32)).toInt = i.toInt + (1 : Int) := t_addC (x := i) (y := (1 : Int32))
  refine zrn_ok HW 5 (zB_iff.mpr (?_ : G (899, [(3, .inl (.int i)), (2, .inl (.ref 49)), (1, .inl (.ref 0)), (0, .inl (.ref 10000000))], [.inl (.int (i + (1 : Int32))), .inl (.ref 10000000), .inl (.ref 0)], h, nc, ns)))
  obtain ⟨y1, s1⟩ := hscr ((i + (1 : Int32))).toInt.toNat (by omega)
  refine g_scr HW rfl (by omega) s1 ?_
  have z2 : -2147483648 ≤ i.toInt + (2 : Int) → i.toInt + (2 : Int) ≤ 2147483647 → (i + (2 : Int32)).toInt = i.toInt + (2 : Int) := t_addC (x := i) (y := (2 : Int32))
  refine zrn_ok HW 4 (zB_iff.mpr (?_ : G (904, [(3, .inl (.int i)), (2, .inl (.ref 49)), (1, .inl (.ref 0)), (0, .inl (.ref 10000000))], [.inl (.int (i + (2 : Int32))), .inl (.ref 10000000), .inl (.int y1), .inl (.ref 0)], h, nc, ns)))
  obtain ⟨y2, s2⟩ := hscr ((i + (2 : Int32))).toInt.toNat (by omega)
  refine g_scr HW rfl (by omega) s2 ?_
  refine g_callV (E' := ze_X4_slipOf) HW rfl rfl (Nat.le_of_ble_eq_true rfl) (by show nc + 0 ≤ room_1.cells; omega) (by show ns + 0 ≤ room_1.slots; omega) rel.1.1 rfl hq_0 rfl (Nat.le_of_ble_eq_true rfl) (lp_slipOf hsc0 IHP hD rel hl _ (fun a T7 h7 m7 ok7 f7 K7 => zB_iff.mpr ?_))
  show G (908, [(3, .inl (.int i)), (2, .inl (.ref 49)), (1, .inl (.ref 0)), (0, .inl (.ref 10000000))], [.inl (.int a)], h7, nc, ns)
  have hq_49 : T7[49]? = some 5 := ok7.2.1.1.2.2.1
  refine zrn_ok HW 5 (zB_iff.mpr (?_ : G (913, [(3, .inl (.int i)), (2, .inl (.ref 49)), (1, .inl (.ref 0)), (0, .inl (.ref 10000000))], [.inl (.int (i + (1 : Int32))), .inl (.ref 10000000), .inl (.ref 49), .inl (.int a)], h7, nc, ns)))
  refine g_scr HW rfl (by omega) s1 ?_
  refine zrn_ok HW 4 (zB_iff.mpr (?_ : G (918, [(3, .inl (.int i)), (2, .inl (.ref 49)), (1, .inl (.ref 0)), (0, .inl (.ref 10000000))], [.inl (.int (i + (2 : Int32))), .inl (.ref 10000000), .inl (.int y1), .inl (.ref 49), .inl (.int a)], h7, nc, ns)))
  refine g_scr HW rfl (by omega) s2 ?_
  refine g_callV (E' := ze_X5_slipOf) HW rfl rfl (Nat.le_of_ble_eq_true rfl) (by show nc + 0 ≤ room_1.cells; omega) (by show ns + 0 ≤ room_1.slots; omega) ok7.1 rfl hq_49 rfl (Nat.le_of_ble_eq_true rfl) (K7 _ (fun T9 h9 m9 rel9 l9 => zB_iff.mpr ?_))
  show G (922, [(3, .inl (.int i)), (2, .inl (.ref 49)), (1, .inl (.ref 0)), (0, .inl (.ref 10000000))], [.inl (.int a), .inl (.int a)], h9, nc + 0, ns + 0)
  refine zrn_ok HW 1 (zbr_ex (cd := .eq) (x := a) (y := a) (fun _ => zB_iff.mpr ?_) (fun hc => (hc (zop_int.mpr (show a.toInt = a.toInt from rfl))).elim))
  exact nxt T9 h9 _ _ 0 0 rel9 l9 (Or.inl ⟨by decide, by decide, rfl⟩)

theorem lw_case20 {scr : List zV} {post : Option zV → zH → Bool} {G : zS → Prop} {D : Nat} {T : List Nat} {h : zH} {nc ns : Nat} {i : Int32} {t : Int} {v : Bool} (HW : zWalk zprog ze_L_law scr room_1.cells room_1.slots (zD zprog scr D) post G) (HWN : zWalk zprog ze_L_lawN scr room_1.cells room_1.slots (zD zprog scr D) post G) (hsc0 : cT scr) (hD : 300 ≤ D) (IHP : ∀ P : pP, tBel (zPhi P) scr 300) (hscr : ∀ j : Nat, (j : Int) < i.toInt + 6 → ∃ x : Int32, scr[j]? = some (.inl (.int x))) (hi0 : 0 ≤ i.toInt ∧ i.toInt ≤ 100000) (rel : REL T h t v) (hl : h.length ≤ 900000) (hc : nc + 4000 ≤ room_1.cells) (hs : ns + 980000 ≤ room_1.slots)
    (nxt : ∀ (T' : List Nat) (h' : zH) (t' : Int) (v' : Bool) (dc ds : Nat), REL T' h' t' v' → h'.length ≤ h.length + dc → ((dc ≤ 30 ∧ ds ≤ 3328 ∧ v' = v) ∨ (v = false ∧ v' = true ∧ dc ≤ 3843 ∧ ds ≤ 971974)) → G (1663, [(3, .inl (.int i)), (2, .inl (.ref 49)), (1, .inl (.ref 0)), (0, .inl (.ref 10000000))], [], h', nc + dc, ns + ds)) : G (927, [(3, .inl (.int i)), (2, .inl (.ref 49)), (1, .inl (.ref 0)), (0, .inl (.ref 10000000))], [], h, nc, ns) := by
  have hq_0 : T[0]? = some 4 := rel.1.2.1.1.1
  have hq_49 : T[49]? = some 5 := rel.1.2.1.1.2.2.1
  refine zrn_ok HW 1 (zB_iff.mpr (?_ : G (928, [(3, .inl (.int i)), (2, .inl (.ref 49)), (1, .inl (.ref 0)), (0, .inl (.ref 10000000))], [.inl (.ref 0)], h, nc, ns)))
  refine g_callV (E' := ze_X4_drawable) HW rfl rfl (Nat.le_of_ble_eq_true rfl) (by show nc + 0 ≤ room_1.cells; omega) (by show ns + 0 ≤ room_1.slots; omega) rel.1.1 rfl hq_0 rfl (Nat.le_of_ble_eq_true rfl) (lp_drawable hsc0 IHP hD rel hl _ (fun a T7 h7 m7 ok7 f7 K7 => zB_iff.mpr ?_))
  show G (931, [(3, .inl (.int i)), (2, .inl (.ref 49)), (1, .inl (.ref 0)), (0, .inl (.ref 10000000))], [.inl (.int a)], h7, nc, ns)
  have hq_49 : T7[49]? = some 5 := ok7.2.1.1.2.2.1
  refine zrn_ok HW 1 (zB_iff.mpr (?_ : G (932, [(3, .inl (.int i)), (2, .inl (.ref 49)), (1, .inl (.ref 0)), (0, .inl (.ref 10000000))], [.inl (.ref 49), .inl (.int a)], h7, nc, ns)))
  refine g_callV (E' := ze_X5_drawable) HW rfl rfl (Nat.le_of_ble_eq_true rfl) (by show nc + 0 ≤ room_1.cells; omega) (by show ns + 0 ≤ room_1.slots; omega) ok7.1 rfl hq_49 rfl (Nat.le_of_ble_eq_true rfl) (K7 _ (fun T9 h9 m9 rel9 l9 => zB_iff.mpr ?_))
  show G (935, [(3, .inl (.int i)), (2, .inl (.ref 49)), (1, .inl (.ref 0)), (0, .inl (.ref 10000000))], [.inl (.int a), .inl (.int a)], h9, nc + 0, ns + 0)
  refine zrn_ok HW 1 (zbr_ex (cd := .eq) (x := a) (y := a) (fun _ => zB_iff.mpr ?_) (fun hc => (hc (zop_int.mpr (show a.toInt = a.toInt from rfl))).elim))
  exact nxt T9 h9 _ _ 0 0 rel9 l9 (Or.inl ⟨by decide, by decide, rfl⟩)

theorem lw_case21 {scr : List zV} {post : Option zV → zH → Bool} {G : zS → Prop} {D : Nat} {T : List Nat} {h : zH} {nc ns : Nat} {i : Int32} {t : Int} {v : Bool} (HW : zWalk zprog ze_L_law scr room_1.cells room_1.slots (zD zprog scr D) post G) (HWN : zWalk zprog ze_L_lawN scr room_1.cells room_1.slots (zD zprog scr D) post G) (hsc0 : cT scr) (hD : 300 ≤ D) (IHP : ∀ P : pP, tBel (zPhi P) scr 300) (hscr : ∀ j : Nat, (j : Int) < i.toInt + 6 → ∃ x : Int32, scr[j]? = some (.inl (.int x))) (hi0 : 0 ≤ i.toInt ∧ i.toInt ≤ 100000) (rel : REL T h t v) (hl : h.length ≤ 900000) (hc : nc + 4000 ≤ room_1.cells) (hs : ns + 980000 ≤ room_1.slots)
    (nxt : ∀ (T' : List Nat) (h' : zH) (t' : Int) (v' : Bool) (dc ds : Nat), REL T' h' t' v' → h'.length ≤ h.length + dc → ((dc ≤ 30 ∧ ds ≤ 3328 ∧ v' = v) ∨ (v = false ∧ v' = true ∧ dc ≤ 3843 ∧ ds ≤ 971974)) → G (1663, [(3, .inl (.int i)), (2, .inl (.ref 49)), (1, .inl (.ref 0)), (0, .inl (.ref 10000000))], [], h', nc + dc, ns + ds)) : G (940, [(3, .inl (.int i)), (2, .inl (.ref 49)), (1, .inl (.ref 0)), (0, .inl (.ref 10000000))], [], h, nc, ns) := by
  have hq_0 : T[0]? = some 4 := rel.1.2.1.1.1
  have hq_49 : T[49]? = some 5 := rel.1.2.1.1.2.2.1
  have z1 : -2147483648 ≤ i.toInt + (1 : Int) → i.toInt + (1 : Int) ≤ 2147483647 → (i + (1 : Int32)).toInt = i.toInt + (1 : Int) := t_addC (x := i) (y := (1 : Int32))
  refine zrn_ok HW 5 (zB_iff.mpr (?_ : G (945, [(3, .inl (.int i)), (2, .inl (.ref 49)), (1, .inl (.ref 0)), (0, .inl (.ref 10000000))], [.inl (.int (i + (1 : Int32))), .inl (.ref 10000000), .inl (.ref 0)], h, nc, ns)))
  obtain ⟨y1, s1⟩ := hscr ((i + (1 : Int32))).toInt.toNat (by omega)
  refine g_scr HW rfl (by omega) s1 ?_
  refine g_callV (E' := ze_X4_wins) HW rfl rfl (Nat.le_of_ble_eq_true rfl) (by show nc + 0 ≤ room_1.cells; omega) (by show ns + 0 ≤ room_1.slots; omega) rel.1.1 rfl hq_0 rfl (Nat.le_of_ble_eq_true rfl) (lp_wins hsc0 IHP hD rel hl _ (fun a T7 h7 m7 ok7 f7 K7 => zB_iff.mpr ?_))
  show G (949, [(3, .inl (.int i)), (2, .inl (.ref 49)), (1, .inl (.ref 0)), (0, .inl (.ref 10000000))], [.inl (.int a)], h7, nc, ns)
  have hq_49 : T7[49]? = some 5 := ok7.2.1.1.2.2.1
  refine zrn_ok HW 5 (zB_iff.mpr (?_ : G (954, [(3, .inl (.int i)), (2, .inl (.ref 49)), (1, .inl (.ref 0)), (0, .inl (.ref 10000000))], [.inl (.int (i + (1 : Int32))), .inl (.ref 10000000), .inl (.ref 49), .inl (.int a)], h7, nc, ns)))
  refine g_scr HW rfl (by omega) s1 ?_
  refine g_callV (E' := ze_X5_wins) HW rfl rfl (Nat.le_of_ble_eq_true rfl) (by show nc + 0 ≤ room_1.cells; omega) (by show ns + 0 ≤ room_1.slots; omega) ok7.1 rfl hq_49 rfl (Nat.le_of_ble_eq_true rfl) (K7 _ (fun T9 h9 m9 rel9 l9 => zB_iff.mpr ?_))
  show G (958, [(3, .inl (.int i)), (2, .inl (.ref 49)), (1, .inl (.ref 0)), (0, .inl (.ref 10000000))], [.inl (.int a), .inl (.int a)], h9, nc + 0, ns + 0)
  refine zrn_ok HW 1 (zbr_ex (cd := .eq) (x := a) (y := a) (fun _ => zB_iff.mpr ?_) (fun hc => (hc (zop_int.mpr (show a.toInt = a.toInt from rfl))).elim))
  exact nxt T9 h9 _ _ 0 0 rel9 l9 (Or.inl ⟨by decide, by decide, rfl⟩)

theorem lw_case22 {scr : List zV} {post : Option zV → zH → Bool} {G : zS → Prop} {D : Nat} {T : List Nat} {h : zH} {nc ns : Nat} {i : Int32} {t : Int} {v : Bool} (HW : zWalk zprog ze_L_law scr room_1.cells room_1.slots (zD zprog scr D) post G) (HWN : zWalk zprog ze_L_lawN scr room_1.cells room_1.slots (zD zprog scr D) post G) (hsc0 : cT scr) (hD : 300 ≤ D) (IHP : ∀ P : pP, tBel (zPhi P) scr 300) (hscr : ∀ j : Nat, (j : Int) < i.toInt + 6 → ∃ x : Int32, scr[j]? = some (.inl (.int x))) (hi0 : 0 ≤ i.toInt ∧ i.toInt ≤ 100000) (rel : REL T h t v) (hl : h.length ≤ 900000) (hc : nc + 4000 ≤ room_1.cells) (hs : ns + 980000 ≤ room_1.slots)
    (nxt : ∀ (T' : List Nat) (h' : zH) (t' : Int) (v' : Bool) (dc ds : Nat), REL T' h' t' v' → h'.length ≤ h.length + dc → ((dc ≤ 30 ∧ ds ≤ 3328 ∧ v' = v) ∨ (v = false ∧ v' = true ∧ dc ≤ 3843 ∧ ds ≤ 971974)) → G (1663, [(3, .inl (.int i)), (2, .inl (.ref 49)), (1, .inl (.ref 0)), (0, .inl (.ref 10000000))], [], h', nc + dc, ns + ds)) : G (963, [(3, .inl (.int i)), (2, .inl (.ref 49)), (1, .inl (.ref 0)), (0, .inl (.ref 10000000))], [], h, nc, ns) := by
  have hq_0 : T[0]? = some 4 := rel.1.2.1.1.1
  have hq_49 : T[49]? = some 5 := rel.1.2.1.1.2.2.1
  have z1 : -2147483648 ≤ i.toInt + (1 : Int) → i.toInt + (1 : Int) ≤ 2147483647 → (i + (1 : Int32)).toInt = i.toInt + (1 : Int) := t_addC (x := i) (y := (1 : Int32))
  refine zrn_ok HW 5 (zB_iff.mpr (?_ : G (968, [(3, .inl (.int i)), (2, .inl (.ref 49)), (1, .inl (.ref 0)), (0, .inl (.ref 10000000))], [.inl (.int (i + (1 : Int32))), .inl (.ref 10000000), .inl (.ref 0)], h, nc, ns)))
  obtain ⟨y1, s1⟩ := hscr ((i + (1 : Int32))).toInt.toNat (by omega)
  refine g_scr HW rfl (by omega) s1 ?_
  refine g_callV (E' := ze_X4_worth) HW rfl rfl (Nat.le_of_ble_eq_true rfl) (by show nc + 0 ≤ room_1.cells; omega) (by show ns + 0 ≤ room_1.slots; omega) rel.1.1 rfl hq_0 rfl (Nat.le_of_ble_eq_true rfl) (lp_worth hsc0 IHP hD rel hl _ (fun a T7 h7 m7 ok7 f7 K7 => zB_iff.mpr ?_))
  show G (972, [(3, .inl (.int i)), (2, .inl (.ref 49)), (1, .inl (.ref 0)), (0, .inl (.ref 10000000))], [.inl (.int a)], h7, nc, ns)
  have hq_49 : T7[49]? = some 5 := ok7.2.1.1.2.2.1
  refine zrn_ok HW 5 (zB_iff.mpr (?_ : G (977, [(3, .inl (.int i)), (2, .inl (.ref 49)), (1, .inl (.ref 0)), (0, .inl (.ref 10000000))], [.inl (.int (i + (1 : Int32))), .inl (.ref 10000000), .inl (.ref 49), .inl (.int a)], h7, nc, ns)))
  refine g_scr HW rfl (by omega) s1 ?_
  refine g_callV (E' := ze_X5_worth) HW rfl rfl (Nat.le_of_ble_eq_true rfl) (by show nc + 0 ≤ room_1.cells; omega) (by show ns + 0 ≤ room_1.slots; omega) ok7.1 rfl hq_49 rfl (Nat.le_of_ble_eq_true rfl) (K7 _ (fun T9 h9 m9 rel9 l9 => zB_iff.mpr ?_))
  show G (981, [(3, .inl (.int i)), (2, .inl (.ref 49)), (1, .inl (.ref 0)), (0, .inl (.ref 10000000))], [.inl (.int a), .inl (.int a)], h9, nc + 0, ns + 0)
  refine zrn_ok HW 1 (zbr_ex (cd := .eq) (x := a) (y := a) (fun _ => zB_iff.mpr ?_) (fun hc => (hc (zop_int.mpr (show a.toInt = a.toInt from rfl))).elim))
  exact nxt T9 h9 _ _ 0 0 rel9 l9 (Or.inl ⟨by decide, by decide, rfl⟩)

theorem lw_case23 {scr : List zV} {post : Option zV → zH → Bool} {G : zS → Prop} {D : Nat} {T : List Nat} {h : zH} {nc ns : Nat} {i : Int32} {t : Int} {v : Bool} (HW : zWalk zprog ze_L_law scr room_1.cells room_1.slots (zD zprog scr D) post G) (HWN : zWalk zprog ze_L_lawN scr room_1.cells room_1.slots (zD zprog scr D) post G) (hsc0 : cT scr) (hD : 300 ≤ D) (IHP : ∀ P : pP, tBel (zPhi P) scr 300) (hscr : ∀ j : Nat, (j : Int) < i.toInt + 6 → ∃ x : Int32, scr[j]? = some (.inl (.int x))) (hi0 : 0 ≤ i.toInt ∧ i.toInt ≤ 100000) (rel : REL T h t v) (hl : h.length ≤ 900000) (hc : nc + 4000 ≤ room_1.cells) (hs : ns + 980000 ≤ room_1.slots)
    (nxt : ∀ (T' : List Nat) (h' : zH) (t' : Int) (v' : Bool) (dc ds : Nat), REL T' h' t' v' → h'.length ≤ h.length + dc → ((dc ≤ 30 ∧ ds ≤ 3328 ∧ v' = v) ∨ (v = false ∧ v' = true ∧ dc ≤ 3843 ∧ ds ≤ 971974)) → G (1663, [(3, .inl (.int i)), (2, .inl (.ref 49)), (1, .inl (.ref 0)), (0, .inl (.ref 10000000))], [], h', nc + dc, ns + ds)) : G (986, [(3, .inl (.int i)), (2, .inl (.ref 49)), (1, .inl (.ref 0)), (0, .inl (.ref 10000000))], [], h, nc, ns) := by
  have hq_0 : T[0]? = some 4 := rel.1.2.1.1.1
  have hq_49 : T[49]? = some 5 := rel.1.2.1.1.2.2.1
  have z1 : -2147483648 ≤ i.toInt + (1 : Int) → i.toInt + (1 : Int) ≤ 2147483647 → (i + (1 : Int32)).toInt = i.toInt + (1 : Int) := t_addC (x := i) (y := (1 : Int32))
  refine zrn_ok HW 5 (zB_iff.mpr (?_ : G (991, [(3, .inl (.int i)), (2, .inl (.ref 49)), (1, .inl (.ref 0)), (0, .inl (.ref 10000000))], [.inl (.int (i + (1 : Int32))), .inl (.ref 10000000), .inl (.ref 0)], h, nc, ns)))
  obtain ⟨y1, s1⟩ := hscr ((i + (1 : Int32))).toInt.toNat (by omega)
  refine g_scr HW rfl (by omega) s1 ?_
  cases v with
  | true =>
    refine g_callV (E' := ze_X4_plan) HW rfl rfl (Nat.le_of_ble_eq_true rfl) (by show nc + 0 ≤ room_1.cells; omega) (by show ns + 0 ≤ room_1.slots; omega) rel.1.1 rfl hq_0 rfl (Nat.le_of_ble_eq_true rfl) (lp_planA hsc0 IHP hD rel hl _ (fun a T7 h7 m7 ok7 f7 K7 => zB_iff.mpr ?_))
    show G (995, [(3, .inl (.int i)), (2, .inl (.ref 49)), (1, .inl (.ref 0)), (0, .inl (.ref 10000000))], [.inl (.int a)], h7, nc, ns)
    have hq_49 : T7[49]? = some 5 := ok7.2.1.1.2.2.1
    refine zrn_ok HW 5 (zB_iff.mpr (?_ : G (1000, [(3, .inl (.int i)), (2, .inl (.ref 49)), (1, .inl (.ref 0)), (0, .inl (.ref 10000000))], [.inl (.int (i + (1 : Int32))), .inl (.ref 10000000), .inl (.ref 49), .inl (.int a)], h7, nc, ns)))
    refine g_scr HW rfl (by omega) s1 ?_
    refine g_callV (E' := ze_X5_planN) HWN rfl rfl (Nat.le_of_ble_eq_true rfl) (by show nc + 0 ≤ room_1.cells; omega) (by show ns + 0 ≤ room_1.slots; omega) ok7.1 rfl hq_49 rfl (Nat.le_of_ble_eq_true rfl) (K7 _ (fun T9 h9 m9 rel9 l9 => zB_iff.mpr ?_))
    show G (1004, [(3, .inl (.int i)), (2, .inl (.ref 49)), (1, .inl (.ref 0)), (0, .inl (.ref 10000000))], [.inl (.int a), .inl (.int a)], h9, nc + 0, ns + 0)
    refine zrn_ok HW 1 (zbr_ex (cd := .eq) (x := a) (y := a) (fun _ => zB_iff.mpr ?_) (fun hc => (hc (zop_int.mpr (show a.toInt = a.toInt from rfl))).elim))
    exact nxt T9 h9 _ _ 0 0 rel9 l9 (Or.inl ⟨by decide, by decide, rfl⟩)
  | false =>
    by_cases nd : 0 ≤ y1.toInt ∧ y1.toInt < hi h 49 23
    · refine g_callV (E' := ze_X4_plan) HW rfl rfl (Nat.le_of_ble_eq_true rfl) (by show nc + 0 ≤ room_1.cells; omega) (by show ns + 0 ≤ room_1.slots; omega) rel.1.1 rfl hq_0 rfl (Nat.le_of_ble_eq_true rfl) (lp_planB hsc0 IHP hD rel hl nd _ (fun a T7 h7 m7 ok7 f7 K7 => zB_iff.mpr ?_))
      show G (995, [(3, .inl (.int i)), (2, .inl (.ref 49)), (1, .inl (.ref 0)), (0, .inl (.ref 10000000))], [.inl (.int a)], h7, nc, ns)
      have hq_49 : T7[49]? = some 5 := ok7.2.1.1.2.2.1
      refine zrn_ok HW 5 (zB_iff.mpr (?_ : G (1000, [(3, .inl (.int i)), (2, .inl (.ref 49)), (1, .inl (.ref 0)), (0, .inl (.ref 10000000))], [.inl (.int (i + (1 : Int32))), .inl (.ref 10000000), .inl (.ref 49), .inl (.int a)], h7, nc, ns)))
      refine g_scr HW rfl (by omega) s1 ?_
      refine g_callV (E' := ze_X5_plan) HW rfl rfl (Nat.le_of_ble_eq_true rfl) (by show nc + 63 ≤ room_1.cells; omega) (by show ns + 15934 ≤ room_1.slots; omega) ok7.1 rfl hq_49 rfl (Nat.le_of_ble_eq_true rfl) (K7 _ (fun T9 h9 m9 rel9 l9 => zB_iff.mpr ?_))
      show G (1004, [(3, .inl (.int i)), (2, .inl (.ref 49)), (1, .inl (.ref 0)), (0, .inl (.ref 10000000))], [.inl (.int a), .inl (.int a)], h9, nc + 63, ns + 15934)
      refine zrn_ok HW 1 (zbr_ex (cd := .eq) (x := a) (y := a) (fun _ => zB_iff.mpr ?_) (fun hc => (hc (zop_int.mpr (show a.toInt = a.toInt from rfl))).elim))
      exact nxt T9 h9 _ _ 63 15934 rel9 l9 (Or.inr ⟨rfl, rfl, by decide, by decide⟩)
    · refine g_callV (E' := ze_X4_plan) HW rfl rfl (Nat.le_of_ble_eq_true rfl) (by show nc + 0 ≤ room_1.cells; omega) (by show ns + 0 ≤ room_1.slots; omega) rel.1.1 rfl hq_0 rfl (Nat.le_of_ble_eq_true rfl) (lp_planR hsc0 IHP hD rel hl nd _ (fun a T7 h7 m7 ok7 f7 K7 => zB_iff.mpr ?_))
      show G (995, [(3, .inl (.int i)), (2, .inl (.ref 49)), (1, .inl (.ref 0)), (0, .inl (.ref 10000000))], [.inl (.int a)], h7, nc, ns)
      have hq_49 : T7[49]? = some 5 := ok7.2.1.1.2.2.1
      refine zrn_ok HW 5 (zB_iff.mpr (?_ : G (1000, [(3, .inl (.int i)), (2, .inl (.ref 49)), (1, .inl (.ref 0)), (0, .inl (.ref 10000000))], [.inl (.int (i + (1 : Int32))), .inl (.ref 10000000), .inl (.ref 49), .inl (.int a)], h7, nc, ns)))
      refine g_scr HW rfl (by omega) s1 ?_
      refine g_callV (E' := ze_X5_planN) HWN rfl rfl (Nat.le_of_ble_eq_true rfl) (by show nc + 0 ≤ room_1.cells; omega) (by show ns + 0 ≤ room_1.slots; omega) ok7.1 rfl hq_49 rfl (Nat.le_of_ble_eq_true rfl) (K7 _ (fun T9 h9 m9 rel9 l9 => zB_iff.mpr ?_))
      show G (1004, [(3, .inl (.int i)), (2, .inl (.ref 49)), (1, .inl (.ref 0)), (0, .inl (.ref 10000000))], [.inl (.int a), .inl (.int a)], h9, nc + 0, ns + 0)
      refine zrn_ok HW 1 (zbr_ex (cd := .eq) (x := a) (y := a) (fun _ => zB_iff.mpr ?_) (fun hc => (hc (zop_int.mpr (show a.toInt = a.toInt from rfl))).elim))
      exact nxt T9 h9 _ _ 0 0 rel9 l9 (Or.inl ⟨by decide, by decide, rfl⟩)

theorem lw_case24 {scr : List zV} {post : Option zV → zH → Bool} {G : zS → Prop} {D : Nat} {T : List Nat} {h : zH} {nc ns : Nat} {i : Int32} {t : Int} {v : Bool} (HW : zWalk zprog ze_L_law scr room_1.cells room_1.slots (zD zprog scr D) post G) (HWN : zWalk zprog ze_L_lawN scr room_1.cells room_1.slots (zD zprog scr D) post G) (hsc0 : cT scr) (hD : 300 ≤ D) (IHP : ∀ P : pP, tBel (zPhi P) scr 300) (hscr : ∀ j : Nat, (j : Int) < i.toInt + 6 → ∃ x : Int32, scr[j]? = some (.inl (.int x))) (hi0 : 0 ≤ i.toInt ∧ i.toInt ≤ 100000) (rel : REL T h t v) (hl : h.length ≤ 900000) (hc : nc + 4000 ≤ room_1.cells) (hs : ns + 980000 ≤ room_1.slots)
    (nxt : ∀ (T' : List Nat) (h' : zH) (t' : Int) (v' : Bool) (dc ds : Nat), REL T' h' t' v' → h'.length ≤ h.length + dc → ((dc ≤ 30 ∧ ds ≤ 3328 ∧ v' = v) ∨ (v = false ∧ v' = true ∧ dc ≤ 3843 ∧ ds ≤ 971974)) → G (1663, [(3, .inl (.int i)), (2, .inl (.ref 49)), (1, .inl (.ref 0)), (0, .inl (.ref 10000000))], [], h', nc + dc, ns + ds)) : G (1009, [(3, .inl (.int i)), (2, .inl (.ref 49)), (1, .inl (.ref 0)), (0, .inl (.ref 10000000))], [], h, nc, ns) := by
  have hq_0 : T[0]? = some 4 := rel.1.2.1.1.1
  have hq_49 : T[49]? = some 5 := rel.1.2.1.1.2.2.1
  have z1 : -2147483648 ≤ i.toInt + (1 : Int) → i.toInt + (1 : Int) ≤ 2147483647 → (i + (1 : Int32)).toInt = i.toInt + (1 : Int) := t_addC (x := i) (y := (1 : Int32))
  refine zrn_ok HW 5 (zB_iff.mpr (?_ : G (1014, [(3, .inl (.int i)), (2, .inl (.ref 49)), (1, .inl (.ref 0)), (0, .inl (.ref 10000000))], [.inl (.int (i + (1 : Int32))), .inl (.ref 10000000), .inl (.ref 0)], h, nc, ns)))
  obtain ⟨y1, s1⟩ := hscr ((i + (1 : Int32))).toInt.toNat (by omega)
  refine g_scr HW rfl (by omega) s1 ?_
  cases v with
  | true =>
    refine g_callV (E' := ze_X4_till) HW rfl rfl (Nat.le_of_ble_eq_true rfl) (by show nc + 0 ≤ room_1.cells; omega) (by show ns + 0 ≤ room_1.slots; omega) rel.1.1 rfl hq_0 rfl (Nat.le_of_ble_eq_true rfl) (lp_tillA hsc0 IHP hD rel hl _ (fun a T7 h7 m7 ok7 f7 K7 => zB_iff.mpr ?_))
    show G (1018, [(3, .inl (.int i)), (2, .inl (.ref 49)), (1, .inl (.ref 0)), (0, .inl (.ref 10000000))], [.inl (.int a)], h7, nc, ns)
    have hq_49 : T7[49]? = some 5 := ok7.2.1.1.2.2.1
    refine zrn_ok HW 5 (zB_iff.mpr (?_ : G (1023, [(3, .inl (.int i)), (2, .inl (.ref 49)), (1, .inl (.ref 0)), (0, .inl (.ref 10000000))], [.inl (.int (i + (1 : Int32))), .inl (.ref 10000000), .inl (.ref 49), .inl (.int a)], h7, nc, ns)))
    refine g_scr HW rfl (by omega) s1 ?_
    refine g_callV (E' := ze_X5_tillN) HWN rfl rfl (Nat.le_of_ble_eq_true rfl) (by show nc + 0 ≤ room_1.cells; omega) (by show ns + 0 ≤ room_1.slots; omega) ok7.1 rfl hq_49 rfl (Nat.le_of_ble_eq_true rfl) (K7 _ (fun T9 h9 m9 rel9 l9 => zB_iff.mpr ?_))
    show G (1027, [(3, .inl (.int i)), (2, .inl (.ref 49)), (1, .inl (.ref 0)), (0, .inl (.ref 10000000))], [.inl (.int a), .inl (.int a)], h9, nc + 0, ns + 0)
    refine zrn_ok HW 1 (zbr_ex (cd := .eq) (x := a) (y := a) (fun _ => zB_iff.mpr ?_) (fun hc => (hc (zop_int.mpr (show a.toInt = a.toInt from rfl))).elim))
    exact nxt T9 h9 _ _ 0 0 rel9 l9 (Or.inl ⟨by decide, by decide, rfl⟩)
  | false =>
    by_cases nd : 0 ≤ y1.toInt ∧ y1.toInt < hi h 49 23
    · refine g_callV (E' := ze_X4_till) HW rfl rfl (Nat.le_of_ble_eq_true rfl) (by show nc + 0 ≤ room_1.cells; omega) (by show ns + 0 ≤ room_1.slots; omega) rel.1.1 rfl hq_0 rfl (Nat.le_of_ble_eq_true rfl) (lp_tillB hsc0 IHP hD rel hl nd _ (fun a T7 h7 m7 ok7 f7 K7 => zB_iff.mpr ?_))
      show G (1018, [(3, .inl (.int i)), (2, .inl (.ref 49)), (1, .inl (.ref 0)), (0, .inl (.ref 10000000))], [.inl (.int a)], h7, nc, ns)
      have hq_49 : T7[49]? = some 5 := ok7.2.1.1.2.2.1
      refine zrn_ok HW 5 (zB_iff.mpr (?_ : G (1023, [(3, .inl (.int i)), (2, .inl (.ref 49)), (1, .inl (.ref 0)), (0, .inl (.ref 10000000))], [.inl (.int (i + (1 : Int32))), .inl (.ref 10000000), .inl (.ref 49), .inl (.int a)], h7, nc, ns)))
      refine g_scr HW rfl (by omega) s1 ?_
      refine g_callV (E' := ze_X5_till) HW rfl rfl (Nat.le_of_ble_eq_true rfl) (by show nc + 63 ≤ room_1.cells; omega) (by show ns + 15934 ≤ room_1.slots; omega) ok7.1 rfl hq_49 rfl (Nat.le_of_ble_eq_true rfl) (K7 _ (fun T9 h9 m9 rel9 l9 => zB_iff.mpr ?_))
      show G (1027, [(3, .inl (.int i)), (2, .inl (.ref 49)), (1, .inl (.ref 0)), (0, .inl (.ref 10000000))], [.inl (.int a), .inl (.int a)], h9, nc + 63, ns + 15934)
      refine zrn_ok HW 1 (zbr_ex (cd := .eq) (x := a) (y := a) (fun _ => zB_iff.mpr ?_) (fun hc => (hc (zop_int.mpr (show a.toInt = a.toInt from rfl))).elim))
      exact nxt T9 h9 _ _ 63 15934 rel9 l9 (Or.inr ⟨rfl, rfl, by decide, by decide⟩)
    · refine g_callV (E' := ze_X4_till) HW rfl rfl (Nat.le_of_ble_eq_true rfl) (by show nc + 0 ≤ room_1.cells; omega) (by show ns + 0 ≤ room_1.slots; omega) rel.1.1 rfl hq_0 rfl (Nat.le_of_ble_eq_true rfl) (lp_tillR hsc0 IHP hD rel hl nd _ (fun a T7 h7 m7 ok7 f7 K7 => zB_iff.mpr ?_))
      show G (1018, [(3, .inl (.int i)), (2, .inl (.ref 49)), (1, .inl (.ref 0)), (0, .inl (.ref 10000000))], [.inl (.int a)], h7, nc, ns)
      have hq_49 : T7[49]? = some 5 := ok7.2.1.1.2.2.1
      refine zrn_ok HW 5 (zB_iff.mpr (?_ : G (1023, [(3, .inl (.int i)), (2, .inl (.ref 49)), (1, .inl (.ref 0)), (0, .inl (.ref 10000000))], [.inl (.int (i + (1 : Int32))), .inl (.ref 10000000), .inl (.ref 49), .inl (.int a)], h7, nc, ns)))
      refine g_scr HW rfl (by omega) s1 ?_
      refine g_callV (E' := ze_X5_tillN) HWN rfl rfl (Nat.le_of_ble_eq_true rfl) (by show nc + 0 ≤ room_1.cells; omega) (by show ns + 0 ≤ room_1.slots; omega) ok7.1 rfl hq_49 rfl (Nat.le_of_ble_eq_true rfl) (K7 _ (fun T9 h9 m9 rel9 l9 => zB_iff.mpr ?_))
      show G (1027, [(3, .inl (.int i)), (2, .inl (.ref 49)), (1, .inl (.ref 0)), (0, .inl (.ref 10000000))], [.inl (.int a), .inl (.int a)], h9, nc + 0, ns + 0)
      refine zrn_ok HW 1 (zbr_ex (cd := .eq) (x := a) (y := a) (fun _ => zB_iff.mpr ?_) (fun hc => (hc (zop_int.mpr (show a.toInt = a.toInt from rfl))).elim))
      exact nxt T9 h9 _ _ 0 0 rel9 l9 (Or.inl ⟨by decide, by decide, rfl⟩)

theorem lw_case25 {scr : List zV} {post : Option zV → zH → Bool} {G : zS → Prop} {D : Nat} {T : List Nat} {h : zH} {nc ns : Nat} {i : Int32} {t : Int} {v : Bool} (HW : zWalk zprog ze_L_law scr room_1.cells room_1.slots (zD zprog scr D) post G) (HWN : zWalk zprog ze_L_lawN scr room_1.cells room_1.slots (zD zprog scr D) post G) (hsc0 : cT scr) (hD : 300 ≤ D) (IHP : ∀ P : pP, tBel (zPhi P) scr 300) (hscr : ∀ j : Nat, (j : Int) < i.toInt + 6 → ∃ x : Int32, scr[j]? = some (.inl (.int x))) (hi0 : 0 ≤ i.toInt ∧ i.toInt ≤ 100000) (rel : REL T h t v) (hl : h.length ≤ 900000) (hc : nc + 4000 ≤ room_1.cells) (hs : ns + 980000 ≤ room_1.slots)
    (nxt : ∀ (T' : List Nat) (h' : zH) (t' : Int) (v' : Bool) (dc ds : Nat), REL T' h' t' v' → h'.length ≤ h.length + dc → ((dc ≤ 30 ∧ ds ≤ 3328 ∧ v' = v) ∨ (v = false ∧ v' = true ∧ dc ≤ 3843 ∧ ds ≤ 971974)) → G (1663, [(3, .inl (.int i)), (2, .inl (.ref 49)), (1, .inl (.ref 0)), (0, .inl (.ref 10000000))], [], h', nc + dc, ns + ds)) : G (1032, [(3, .inl (.int i)), (2, .inl (.ref 49)), (1, .inl (.ref 0)), (0, .inl (.ref 10000000))], [], h, nc, ns) := by
  have hq_0 : T[0]? = some 4 := rel.1.2.1.1.1
  have hq_49 : T[49]? = some 5 := rel.1.2.1.1.2.2.1
  have z1 : -2147483648 ≤ i.toInt + (1 : Int) → i.toInt + (1 : Int) ≤ 2147483647 → (i + (1 : Int32)).toInt = i.toInt + (1 : Int) := t_addC (x := i) (y := (1 : Int32))
  refine zrn_ok HW 5 (zB_iff.mpr (?_ : G (1037, [(3, .inl (.int i)), (2, .inl (.ref 49)), (1, .inl (.ref 0)), (0, .inl (.ref 10000000))], [.inl (.int (i + (1 : Int32))), .inl (.ref 10000000), .inl (.ref 0)], h, nc, ns)))
  obtain ⟨y1, s1⟩ := hscr ((i + (1 : Int32))).toInt.toNat (by omega)
  refine g_scr HW rfl (by omega) s1 ?_
  cases v with
  | true =>
    refine g_callV (E' := ze_X4_atOnce) HW rfl rfl (Nat.le_of_ble_eq_true rfl) (by show nc + 0 ≤ room_1.cells; omega) (by show ns + 0 ≤ room_1.slots; omega) rel.1.1 rfl hq_0 rfl (Nat.le_of_ble_eq_true rfl) (lp_atOnceA hsc0 IHP hD rel hl _ (fun a T7 h7 m7 ok7 f7 K7 => zB_iff.mpr ?_))
    show G (1041, [(3, .inl (.int i)), (2, .inl (.ref 49)), (1, .inl (.ref 0)), (0, .inl (.ref 10000000))], [.inl (.int a)], h7, nc, ns)
    have hq_49 : T7[49]? = some 5 := ok7.2.1.1.2.2.1
    refine zrn_ok HW 5 (zB_iff.mpr (?_ : G (1046, [(3, .inl (.int i)), (2, .inl (.ref 49)), (1, .inl (.ref 0)), (0, .inl (.ref 10000000))], [.inl (.int (i + (1 : Int32))), .inl (.ref 10000000), .inl (.ref 49), .inl (.int a)], h7, nc, ns)))
    refine g_scr HW rfl (by omega) s1 ?_
    refine g_callV (E' := ze_X5_atOnceN) HWN rfl rfl (Nat.le_of_ble_eq_true rfl) (by show nc + 0 ≤ room_1.cells; omega) (by show ns + 0 ≤ room_1.slots; omega) ok7.1 rfl hq_49 rfl (Nat.le_of_ble_eq_true rfl) (K7 _ (fun T9 h9 m9 rel9 l9 => zB_iff.mpr ?_))
    show G (1050, [(3, .inl (.int i)), (2, .inl (.ref 49)), (1, .inl (.ref 0)), (0, .inl (.ref 10000000))], [.inl (.int a), .inl (.int a)], h9, nc + 0, ns + 0)
    refine zrn_ok HW 1 (zbr_ex (cd := .eq) (x := a) (y := a) (fun _ => zB_iff.mpr ?_) (fun hc => (hc (zop_int.mpr (show a.toInt = a.toInt from rfl))).elim))
    exact nxt T9 h9 _ _ 0 0 rel9 l9 (Or.inl ⟨by decide, by decide, rfl⟩)
  | false =>
    by_cases nd : 0 ≤ y1.toInt ∧ y1.toInt < hi h 49 23
    · refine g_callV (E' := ze_X4_atOnce) HW rfl rfl (Nat.le_of_ble_eq_true rfl) (by show nc + 0 ≤ room_1.cells; omega) (by show ns + 0 ≤ room_1.slots; omega) rel.1.1 rfl hq_0 rfl (Nat.le_of_ble_eq_true rfl) (lp_atOnceB hsc0 IHP hD rel hl nd _ (fun a T7 h7 m7 ok7 f7 K7 => zB_iff.mpr ?_))
      show G (1041, [(3, .inl (.int i)), (2, .inl (.ref 49)), (1, .inl (.ref 0)), (0, .inl (.ref 10000000))], [.inl (.int a)], h7, nc, ns)
      have hq_49 : T7[49]? = some 5 := ok7.2.1.1.2.2.1
      refine zrn_ok HW 5 (zB_iff.mpr (?_ : G (1046, [(3, .inl (.int i)), (2, .inl (.ref 49)), (1, .inl (.ref 0)), (0, .inl (.ref 10000000))], [.inl (.int (i + (1 : Int32))), .inl (.ref 10000000), .inl (.ref 49), .inl (.int a)], h7, nc, ns)))
      refine g_scr HW rfl (by omega) s1 ?_
      refine g_callV (E' := ze_X5_atOnce) HW rfl rfl (Nat.le_of_ble_eq_true rfl) (by show nc + 63 ≤ room_1.cells; omega) (by show ns + 15934 ≤ room_1.slots; omega) ok7.1 rfl hq_49 rfl (Nat.le_of_ble_eq_true rfl) (K7 _ (fun T9 h9 m9 rel9 l9 => zB_iff.mpr ?_))
      show G (1050, [(3, .inl (.int i)), (2, .inl (.ref 49)), (1, .inl (.ref 0)), (0, .inl (.ref 10000000))], [.inl (.int a), .inl (.int a)], h9, nc + 63, ns + 15934)
      refine zrn_ok HW 1 (zbr_ex (cd := .eq) (x := a) (y := a) (fun _ => zB_iff.mpr ?_) (fun hc => (hc (zop_int.mpr (show a.toInt = a.toInt from rfl))).elim))
      exact nxt T9 h9 _ _ 63 15934 rel9 l9 (Or.inr ⟨rfl, rfl, by decide, by decide⟩)
    · refine g_callV (E' := ze_X4_atOnce) HW rfl rfl (Nat.le_of_ble_eq_true rfl) (by show nc + 0 ≤ room_1.cells; omega) (by show ns + 0 ≤ room_1.slots; omega) rel.1.1 rfl hq_0 rfl (Nat.le_of_ble_eq_true rfl) (lp_atOnceR hsc0 IHP hD rel hl nd _ (fun a T7 h7 m7 ok7 f7 K7 => zB_iff.mpr ?_))
      show G (1041, [(3, .inl (.int i)), (2, .inl (.ref 49)), (1, .inl (.ref 0)), (0, .inl (.ref 10000000))], [.inl (.int a)], h7, nc, ns)
      have hq_49 : T7[49]? = some 5 := ok7.2.1.1.2.2.1
      refine zrn_ok HW 5 (zB_iff.mpr (?_ : G (1046, [(3, .inl (.int i)), (2, .inl (.ref 49)), (1, .inl (.ref 0)), (0, .inl (.ref 10000000))], [.inl (.int (i + (1 : Int32))), .inl (.ref 10000000), .inl (.ref 49), .inl (.int a)], h7, nc, ns)))
      refine g_scr HW rfl (by omega) s1 ?_
      refine g_callV (E' := ze_X5_atOnceN) HWN rfl rfl (Nat.le_of_ble_eq_true rfl) (by show nc + 0 ≤ room_1.cells; omega) (by show ns + 0 ≤ room_1.slots; omega) ok7.1 rfl hq_49 rfl (Nat.le_of_ble_eq_true rfl) (K7 _ (fun T9 h9 m9 rel9 l9 => zB_iff.mpr ?_))
      show G (1050, [(3, .inl (.int i)), (2, .inl (.ref 49)), (1, .inl (.ref 0)), (0, .inl (.ref 10000000))], [.inl (.int a), .inl (.int a)], h9, nc + 0, ns + 0)
      refine zrn_ok HW 1 (zbr_ex (cd := .eq) (x := a) (y := a) (fun _ => zB_iff.mpr ?_) (fun hc => (hc (zop_int.mpr (show a.toInt = a.toInt from rfl))).elim))
      exact nxt T9 h9 _ _ 0 0 rel9 l9 (Or.inl ⟨by decide, by decide, rfl⟩)
