theorem lw_case26 {scr : List zV} {post : Option zV → zH → Bool} {G : zS → Prop} {D : Nat} {T : List Nat} {h : zH} {nc ns : Nat} {i : Int32} {t : Int} {v : Bool} (HW : zWalk zprog ze_L_law scr room_1.cells room_1.slots (zD zprog scr D) post G) (HWN : zWalk zprog ze_L_lawN scr room_1.cells room_1.slots (zD zprog scr D) post G) (hsc0 : cT scr) (hD : 300 ≤ D) (IHP : ∀ P : pP, tBel (zPhi P) scr 300) (hscr : ∀ j : Nat, (j : Int) < i.toInt + 6 → ∃ x : Int32, scr[j]? = some (.inl (.int x))) (hi0 : 0 ≤ i.toInt ∧ i.toInt ≤ 100000) (rel : REL T h t v) (hl : h.length ≤ 900000) (hc : nc + 4000 ≤ room_1.cells) (hs : ns + 980000 ≤ room_1.slots)
    (nxt : ∀ (T' : List Nat) (h' : zH) (t' : Int) (v' : Bool) (dc ds : Nat), REL T' h' t' v' → h'.length ≤ h.length + dc → ((dc ≤ 30 ∧ ds ≤ 3328 ∧ v' = v) ∨ (v = false ∧ v' = true ∧ dc ≤ 3843 ∧ ds ≤ 971974)) → G (1663, [(3, .inl (.int i)), (2, .inl (.ref 49)), (1, .inl (.ref 0)), (0, .inl (.ref 10000000))], [], h', nc + dc, ns + ds)) : G (1055, [(3, .inl (.int i)), (2, .inl (.ref 49)), (1, .inl (.ref 0)), (0, .inl (.ref 10000000))], [], h, nc, ns) := by
  have hq_0 : T[0]? = some 4 := rel.1.2.1.1.1
  have hq_49 : T[49]? = some 5 := rel.1.2.1.1.2.2.1
  have z1 : -2147483648 ≤ i.toInt + (1 : Int) → i.toInt + (1 : Int) ≤ 2147483647 → (i + (1 : Int32)).toInt = i.toInt + (1 : Int) := t_addC (x := i) (y := (1 : Int32))
  refine zrn_ok HW 5 (zB_iff.mpr (?_ : G (1060, [(3, .inl (.int i)), (2, .inl (.ref 49)), (1, .inl (.ref 0)), (0, .inl (.ref 10000000))], [.inl (.int (i + (1 : Int32))), .inl (.ref 10000000), .inl (.ref 0)], h, nc, ns)))
  obtain ⟨y1, s1⟩ := hscr ((i + (1 : Int32))).toInt.toNat (by omega)
  refine g_scr HW rfl (by omega) s1 ?_
  have z2 : -2147483648 ≤ i.toInt + (2 : Int) → i.toInt + (2 : Int) ≤ 2147483647 → (i + (2 : Int32)).toInt = i.toInt + (2 : Int) := t_addC (x := i) (y := (2 : Int32))
  refine zrn_ok HW 4 (zB_iff.mpr (?_ : G (1065, [(3, .inl (.int i)), (2, .inl (.ref 49)), (1, .inl (.ref 0)), (0, .inl (.ref 10000000))], [.inl (.int (i + (2 : Int32))), .inl (.ref 10000000), .inl (.int y1), .inl (.ref 0)], h, nc, ns)))
  obtain ⟨y2, s2⟩ := hscr ((i + (2 : Int32))).toInt.toNat (by omega)
  refine g_scr HW rfl (by omega) s2 ?_
  cases v with
  | true =>
    refine g_callV (E' := ze_X4_mean) HW rfl rfl (Nat.le_of_ble_eq_true rfl) (by show nc + 0 ≤ room_1.cells; omega) (by show ns + 0 ≤ room_1.slots; omega) rel.1.1 rfl hq_0 rfl (Nat.le_of_ble_eq_true rfl) (lp_meanA hsc0 IHP hD rel hl _ (fun a T7 h7 m7 ok7 f7 K7 => zB_iff.mpr ?_))
    show G (1069, [(3, .inl (.int i)), (2, .inl (.ref 49)), (1, .inl (.ref 0)), (0, .inl (.ref 10000000))], [.inl (.int a)], h7, nc, ns)
    have hq_49 : T7[49]? = some 5 := ok7.2.1.1.2.2.1
    refine zrn_ok HW 5 (zB_iff.mpr (?_ : G (1074, [(3, .inl (.int i)), (2, .inl (.ref 49)), (1, .inl (.ref 0)), (0, .inl (.ref 10000000))], [.inl (.int (i + (1 : Int32))), .inl (.ref 10000000), .inl (.ref 49), .inl (.int a)], h7, nc, ns)))
    refine g_scr HW rfl (by omega) s1 ?_
    refine zrn_ok HW 4 (zB_iff.mpr (?_ : G (1079, [(3, .inl (.int i)), (2, .inl (.ref 49)), (1, .inl (.ref 0)), (0, .inl (.ref 10000000))], [.inl (.int (i + (2 : Int32))), .inl (.ref 10000000), .inl (.int y1), .inl (.ref 49), .inl (.int a)], h7, nc, ns)))
    refine g_scr HW rfl (by omega) s2 ?_
    refine g_callV (E' := ze_X5_meanN) HWN rfl rfl (Nat.le_of_ble_eq_true rfl) (by show nc + 0 ≤ room_1.cells; omega) (by show ns + 0 ≤ room_1.slots; omega) ok7.1 rfl hq_49 rfl (Nat.le_of_ble_eq_true rfl) (K7 _ (fun T9 h9 m9 rel9 l9 => zB_iff.mpr ?_))
    show G (1083, [(3, .inl (.int i)), (2, .inl (.ref 49)), (1, .inl (.ref 0)), (0, .inl (.ref 10000000))], [.inl (.int a), .inl (.int a)], h9, nc + 0, ns + 0)
    refine zrn_ok HW 1 (zbr_ex (cd := .eq) (x := a) (y := a) (fun _ => zB_iff.mpr ?_) (fun hc => (hc (zop_int.mpr (show a.toInt = a.toInt from rfl))).elim))
    exact nxt T9 h9 _ _ 0 0 rel9 l9 (Or.inl ⟨by decide, by decide, rfl⟩)
  | false =>
    by_cases nd : (0 ≤ y1.toInt ∧ y1.toInt < hi h 49 23) ∧ 0 ≤ y2.toInt ∧ y2.toInt ≤ 8
    · refine g_callV (E' := ze_X4_mean) HW rfl rfl (Nat.le_of_ble_eq_true rfl) (by show nc + 0 ≤ room_1.cells; omega) (by show ns + 0 ≤ room_1.slots; omega) rel.1.1 rfl hq_0 rfl (Nat.le_of_ble_eq_true rfl) (lp_meanB hsc0 IHP hD rel hl nd _ (fun a T7 h7 m7 ok7 f7 K7 => zB_iff.mpr ?_))
      show G (1069, [(3, .inl (.int i)), (2, .inl (.ref 49)), (1, .inl (.ref 0)), (0, .inl (.ref 10000000))], [.inl (.int a)], h7, nc, ns)
      have hq_49 : T7[49]? = some 5 := ok7.2.1.1.2.2.1
      refine zrn_ok HW 5 (zB_iff.mpr (?_ : G (1074, [(3, .inl (.int i)), (2, .inl (.ref 49)), (1, .inl (.ref 0)), (0, .inl (.ref 10000000))], [.inl (.int (i + (1 : Int32))), .inl (.ref 10000000), .inl (.ref 49), .inl (.int a)], h7, nc, ns)))
      refine g_scr HW rfl (by omega) s1 ?_
      refine zrn_ok HW 4 (zB_iff.mpr (?_ : G (1079, [(3, .inl (.int i)), (2, .inl (.ref 49)), (1, .inl (.ref 0)), (0, .inl (.ref 10000000))], [.inl (.int (i + (2 : Int32))), .inl (.ref 10000000), .inl (.int y1), .inl (.ref 49), .inl (.int a)], h7, nc, ns)))
      refine g_scr HW rfl (by omega) s2 ?_
      refine g_callV (E' := ze_X5_mean) HW rfl rfl (Nat.le_of_ble_eq_true rfl) (by show nc + 63 ≤ room_1.cells; omega) (by show ns + 15934 ≤ room_1.slots; omega) ok7.1 rfl hq_49 rfl (Nat.le_of_ble_eq_true rfl) (K7 _ (fun T9 h9 m9 rel9 l9 => zB_iff.mpr ?_))
      show G (1083, [(3, .inl (.int i)), (2, .inl (.ref 49)), (1, .inl (.ref 0)), (0, .inl (.ref 10000000))], [.inl (.int a), .inl (.int a)], h9, nc + 63, ns + 15934)
      refine zrn_ok HW 1 (zbr_ex (cd := .eq) (x := a) (y := a) (fun _ => zB_iff.mpr ?_) (fun hc => (hc (zop_int.mpr (show a.toInt = a.toInt from rfl))).elim))
      exact nxt T9 h9 _ _ 63 15934 rel9 l9 (Or.inr ⟨rfl, rfl, by decide, by decide⟩)
    · refine g_callV (E' := ze_X4_mean) HW rfl rfl (Nat.le_of_ble_eq_true rfl) (by show nc + 0 ≤ room_1.cells; omega) (by show ns + 0 ≤ room_1.slots; omega) rel.1.1 rfl hq_0 rfl (Nat.le_of_ble_eq_true rfl) (lp_meanR hsc0 IHP hD rel hl nd _ (fun a T7 h7 m7 ok7 f7 K7 => zB_iff.mpr ?_))
      show G (1069, [(3, .inl (.int i)), (2, .inl (.ref 49)), (1, .inl (.ref 0)), (0, .inl (.ref 10000000))], [.inl (.int a)], h7, nc, ns)
      have hq_49 : T7[49]? = some 5 := ok7.2.1.1.2.2.1
      refine zrn_ok HW 5 (zB_iff.mpr (?_ : G (1074, [(3, .inl (.int i)), (2, .inl (.ref 49)), (1, .inl (.ref 0)), (0, .inl (.ref 10000000))], [.inl (.int (i + (1 : Int32))), .inl (.ref 10000000), .inl (.ref 49), .inl (.int a)], h7, nc, ns)))
      refine g_scr HW rfl (by omega) s1 ?_
      refine zrn_ok HW 4 (zB_iff.mpr (?_ : G (1079, [(3, .inl (.int i)), (2, .inl (.ref 49)), (1, .inl (.ref 0)), (0, .inl (.ref 10000000))], [.inl (.int (i + (2 : Int32))), .inl (.ref 10000000), .inl (.int y1), .inl (.ref 49), .inl (.int a)], h7, nc, ns)))
      refine g_scr HW rfl (by omega) s2 ?_
      refine g_callV (E' := ze_X5_meanN) HWN rfl rfl (Nat.le_of_ble_eq_true rfl) (by show nc + 0 ≤ room_1.cells; omega) (by show ns + 0 ≤ room_1.slots; omega) ok7.1 rfl hq_49 rfl (Nat.le_of_ble_eq_true rfl) (K7 _ (fun T9 h9 m9 rel9 l9 => zB_iff.mpr ?_))
      show G (1083, [(3, .inl (.int i)), (2, .inl (.ref 49)), (1, .inl (.ref 0)), (0, .inl (.ref 10000000))], [.inl (.int a), .inl (.int a)], h9, nc + 0, ns + 0)
      refine zrn_ok HW 1 (zbr_ex (cd := .eq) (x := a) (y := a) (fun _ => zB_iff.mpr ?_) (fun hc => (hc (zop_int.mpr (show a.toInt = a.toInt from rfl))).elim))
      exact nxt T9 h9 _ _ 0 0 rel9 l9 (Or.inl ⟨by decide, by decide, rfl⟩)

theorem lw_case27 {scr : List zV} {post : Option zV → zH → Bool} {G : zS → Prop} {D : Nat} {T : List Nat} {h : zH} {nc ns : Nat} {i : Int32} {t : Int} {v : Bool} (HW : zWalk zprog ze_L_law scr room_1.cells room_1.slots (zD zprog scr D) post G) (HWN : zWalk zprog ze_L_lawN scr room_1.cells room_1.slots (zD zprog scr D) post G) (hsc0 : cT scr) (hD : 300 ≤ D) (IHP : ∀ P : pP, tBel (zPhi P) scr 300) (hscr : ∀ j : Nat, (j : Int) < i.toInt + 6 → ∃ x : Int32, scr[j]? = some (.inl (.int x))) (hi0 : 0 ≤ i.toInt ∧ i.toInt ≤ 100000) (rel : REL T h t v) (hl : h.length ≤ 900000) (hc : nc + 4000 ≤ room_1.cells) (hs : ns + 980000 ≤ room_1.slots)
    (nxt : ∀ (T' : List Nat) (h' : zH) (t' : Int) (v' : Bool) (dc ds : Nat), REL T' h' t' v' → h'.length ≤ h.length + dc → ((dc ≤ 30 ∧ ds ≤ 3328 ∧ v' = v) ∨ (v = false ∧ v' = true ∧ dc ≤ 3843 ∧ ds ≤ 971974)) → G (1663, [(3, .inl (.int i)), (2, .inl (.ref 49)), (1, .inl (.ref 0)), (0, .inl (.ref 10000000))], [], h', nc + dc, ns + ds)) : G (1088, [(3, .inl (.int i)), (2, .inl (.ref 49)), (1, .inl (.ref 0)), (0, .inl (.ref 10000000))], [], h, nc, ns) := by
  have hq_0 : T[0]? = some 4 := rel.1.2.1.1.1
  have hq_49 : T[49]? = some 5 := rel.1.2.1.1.2.2.1
  have z1 : -2147483648 ≤ i.toInt + (1 : Int) → i.toInt + (1 : Int) ≤ 2147483647 → (i + (1 : Int32)).toInt = i.toInt + (1 : Int) := t_addC (x := i) (y := (1 : Int32))
  refine zrn_ok HW 5 (zB_iff.mpr (?_ : G (1093, [(3, .inl (.int i)), (2, .inl (.ref 49)), (1, .inl (.ref 0)), (0, .inl (.ref 10000000))], [.inl (.int (i + (1 : Int32))), .inl (.ref 10000000), .inl (.ref 0)], h, nc, ns)))
  obtain ⟨y1, s1⟩ := hscr ((i + (1 : Int32))).toInt.toNat (by omega)
  refine g_scr HW rfl (by omega) s1 ?_
  refine g_callV (E' := ze_X4_all) HW rfl rfl (Nat.le_of_ble_eq_true rfl) (by show nc + 0 ≤ room_1.cells; omega) (by show ns + 0 ≤ room_1.slots; omega) rel.1.1 rfl hq_0 rfl (Nat.le_of_ble_eq_true rfl) (lp_all hsc0 IHP hD rel hl _ (fun a T7 h7 m7 ok7 f7 K7 => zB_iff.mpr ?_))
  show G (1097, [(3, .inl (.int i)), (2, .inl (.ref 49)), (1, .inl (.ref 0)), (0, .inl (.ref 10000000))], [.inl (.int a)], h7, nc, ns)
  have hq_49 : T7[49]? = some 5 := ok7.2.1.1.2.2.1
  refine zrn_ok HW 5 (zB_iff.mpr (?_ : G (1102, [(3, .inl (.int i)), (2, .inl (.ref 49)), (1, .inl (.ref 0)), (0, .inl (.ref 10000000))], [.inl (.int (i + (1 : Int32))), .inl (.ref 10000000), .inl (.ref 49), .inl (.int a)], h7, nc, ns)))
  refine g_scr HW rfl (by omega) s1 ?_
  refine g_callV (E' := ze_X5_all) HW rfl rfl (Nat.le_of_ble_eq_true rfl) (by show nc + 0 ≤ room_1.cells; omega) (by show ns + 0 ≤ room_1.slots; omega) ok7.1 rfl hq_49 rfl (Nat.le_of_ble_eq_true rfl) (K7 _ (fun T9 h9 m9 rel9 l9 => zB_iff.mpr ?_))
  show G (1106, [(3, .inl (.int i)), (2, .inl (.ref 49)), (1, .inl (.ref 0)), (0, .inl (.ref 10000000))], [.inl (.int a), .inl (.int a)], h9, nc + 0, ns + 0)
  refine zrn_ok HW 1 (zbr_ex (cd := .eq) (x := a) (y := a) (fun _ => zB_iff.mpr ?_) (fun hc => (hc (zop_int.mpr (show a.toInt = a.toInt from rfl))).elim))
  exact nxt T9 h9 _ _ 0 0 rel9 l9 (Or.inl ⟨by decide, by decide, rfl⟩)

theorem lw_case28 {scr : List zV} {post : Option zV → zH → Bool} {G : zS → Prop} {D : Nat} {T : List Nat} {h : zH} {nc ns : Nat} {i : Int32} {t : Int} {v : Bool} (HW : zWalk zprog ze_L_law scr room_1.cells room_1.slots (zD zprog scr D) post G) (HWN : zWalk zprog ze_L_lawN scr room_1.cells room_1.slots (zD zprog scr D) post G) (hsc0 : cT scr) (hD : 300 ≤ D) (IHP : ∀ P : pP, tBel (zPhi P) scr 300) (hscr : ∀ j : Nat, (j : Int) < i.toInt + 6 → ∃ x : Int32, scr[j]? = some (.inl (.int x))) (hi0 : 0 ≤ i.toInt ∧ i.toInt ≤ 100000) (rel : REL T h t v) (hl : h.length ≤ 900000) (hc : nc + 4000 ≤ room_1.cells) (hs : ns + 980000 ≤ room_1.slots)
    (nxt : ∀ (T' : List Nat) (h' : zH) (t' : Int) (v' : Bool) (dc ds : Nat), REL T' h' t' v' → h'.length ≤ h.length + dc → ((dc ≤ 30 ∧ ds ≤ 3328 ∧ v' = v) ∨ (v = false ∧ v' = true ∧ dc ≤ 3843 ∧ ds ≤ 971974)) → G (1663, [(3, .inl (.int i)), (2, .inl (.ref 49)), (1, .inl (.ref 0)), (0, .inl (.ref 10000000))], [], h', nc + dc, ns + ds)) : G (1111, [(3, .inl (.int i)), (2, .inl (.ref 49)), (1, .inl (.ref 0)), (0, .inl (.ref 10000000))], [], h, nc, ns) := by
  have hq_0 : T[0]? = some 4 := rel.1.2.1.1.1
  have hq_49 : T[49]? = some 5 := rel.1.2.1.1.2.2.1
  have z1 : -2147483648 ≤ i.toInt + (1 : Int) → i.toInt + (1 : Int) ≤ 2147483647 → (i + (1 : Int32)).toInt = i.toInt + (1 : Int) := t_addC (x := i) (y := (1 : Int32))
  refine zrn_ok HW 5 (zB_iff.mpr (?_ : G (1116, [(3, .inl (.int i)), (2, .inl (.ref 49)), (1, .inl (.ref 0)), (0, .inl (.ref 10000000))], [.inl (.int (i + (1 : Int32))), .inl (.ref 10000000), .inl (.ref 0)], h, nc, ns)))
  obtain ⟨y1, s1⟩ := hscr ((i + (1 : Int32))).toInt.toNat (by omega)
  refine g_scr HW rfl (by omega) s1 ?_
  refine g_callV (E' := ze_X4_takings) HW rfl rfl (Nat.le_of_ble_eq_true rfl) (by show nc + 0 ≤ room_1.cells; omega) (by show ns + 0 ≤ room_1.slots; omega) rel.1.1 rfl hq_0 rfl (Nat.le_of_ble_eq_true rfl) (lp_takings hsc0 IHP hD rel hl _ (fun a T7 h7 m7 ok7 f7 K7 => zB_iff.mpr ?_))
  show G (1120, [(3, .inl (.int i)), (2, .inl (.ref 49)), (1, .inl (.ref 0)), (0, .inl (.ref 10000000))], [.inl (.int a)], h7, nc, ns)
  have hq_49 : T7[49]? = some 5 := ok7.2.1.1.2.2.1
  refine zrn_ok HW 5 (zB_iff.mpr (?_ : G (1125, [(3, .inl (.int i)), (2, .inl (.ref 49)), (1, .inl (.ref 0)), (0, .inl (.ref 10000000))], [.inl (.int (i + (1 : Int32))), .inl (.ref 10000000), .inl (.ref 49), .inl (.int a)], h7, nc, ns)))
  refine g_scr HW rfl (by omega) s1 ?_
  refine g_callV (E' := ze_X5_takings) HW rfl rfl (Nat.le_of_ble_eq_true rfl) (by show nc + 0 ≤ room_1.cells; omega) (by show ns + 0 ≤ room_1.slots; omega) ok7.1 rfl hq_49 rfl (Nat.le_of_ble_eq_true rfl) (K7 _ (fun T9 h9 m9 rel9 l9 => zB_iff.mpr ?_))
  show G (1129, [(3, .inl (.int i)), (2, .inl (.ref 49)), (1, .inl (.ref 0)), (0, .inl (.ref 10000000))], [.inl (.int a), .inl (.int a)], h9, nc + 0, ns + 0)
  refine zrn_ok HW 1 (zbr_ex (cd := .eq) (x := a) (y := a) (fun _ => zB_iff.mpr ?_) (fun hc => (hc (zop_int.mpr (show a.toInt = a.toInt from rfl))).elim))
  exact nxt T9 h9 _ _ 0 0 rel9 l9 (Or.inl ⟨by decide, by decide, rfl⟩)

theorem lw_case29 {scr : List zV} {post : Option zV → zH → Bool} {G : zS → Prop} {D : Nat} {T : List Nat} {h : zH} {nc ns : Nat} {i : Int32} {t : Int} {v : Bool} (HW : zWalk zprog ze_L_law scr room_1.cells room_1.slots (zD zprog scr D) post G) (HWN : zWalk zprog ze_L_lawN scr room_1.cells room_1.slots (zD zprog scr D) post G) (hsc0 : cT scr) (hD : 300 ≤ D) (IHP : ∀ P : pP, tBel (zPhi P) scr 300) (hscr : ∀ j : Nat, (j : Int) < i.toInt + 6 → ∃ x : Int32, scr[j]? = some (.inl (.int x))) (hi0 : 0 ≤ i.toInt ∧ i.toInt ≤ 100000) (rel : REL T h t v) (hl : h.length ≤ 900000) (hc : nc + 4000 ≤ room_1.cells) (hs : ns + 980000 ≤ room_1.slots)
    (nxt : ∀ (T' : List Nat) (h' : zH) (t' : Int) (v' : Bool) (dc ds : Nat), REL T' h' t' v' → h'.length ≤ h.length + dc → ((dc ≤ 30 ∧ ds ≤ 3328 ∧ v' = v) ∨ (v = false ∧ v' = true ∧ dc ≤ 3843 ∧ ds ≤ 971974)) → G (1663, [(3, .inl (.int i)), (2, .inl (.ref 49)), (1, .inl (.ref 0)), (0, .inl (.ref 10000000))], [], h', nc + dc, ns + ds)) : G (1134, [(3, .inl (.int i)), (2, .inl (.ref 49)), (1, .inl (.ref 0)), (0, .inl (.ref 10000000))], [], h, nc, ns) := by
  have hq_0 : T[0]? = some 4 := rel.1.2.1.1.1
  have hq_49 : T[49]? = some 5 := rel.1.2.1.1.2.2.1
  refine zrn_ok HW 1 (zB_iff.mpr (?_ : G (1135, [(3, .inl (.int i)), (2, .inl (.ref 49)), (1, .inl (.ref 0)), (0, .inl (.ref 10000000))], [.inl (.ref 0)], h, nc, ns)))
  refine g_callV (E' := ze_X4_bestPrice) HW rfl rfl (Nat.le_of_ble_eq_true rfl) (by show nc + 0 ≤ room_1.cells; omega) (by show ns + 0 ≤ room_1.slots; omega) rel.1.1 rfl hq_0 rfl (Nat.le_of_ble_eq_true rfl) (lp_bestPrice hsc0 IHP hD rel hl _ (fun a T7 h7 m7 ok7 f7 K7 => zB_iff.mpr ?_))
  show G (1138, [(3, .inl (.int i)), (2, .inl (.ref 49)), (1, .inl (.ref 0)), (0, .inl (.ref 10000000))], [.inl (.int a)], h7, nc, ns)
  have hq_49 : T7[49]? = some 5 := ok7.2.1.1.2.2.1
  refine zrn_ok HW 1 (zB_iff.mpr (?_ : G (1139, [(3, .inl (.int i)), (2, .inl (.ref 49)), (1, .inl (.ref 0)), (0, .inl (.ref 10000000))], [.inl (.ref 49), .inl (.int a)], h7, nc, ns)))
  refine g_callV (E' := ze_X5_bestPrice) HW rfl rfl (Nat.le_of_ble_eq_true rfl) (by show nc + 0 ≤ room_1.cells; omega) (by show ns + 0 ≤ room_1.slots; omega) ok7.1 rfl hq_49 rfl (Nat.le_of_ble_eq_true rfl) (K7 _ (fun T9 h9 m9 rel9 l9 => zB_iff.mpr ?_))
  show G (1142, [(3, .inl (.int i)), (2, .inl (.ref 49)), (1, .inl (.ref 0)), (0, .inl (.ref 10000000))], [.inl (.int a), .inl (.int a)], h9, nc + 0, ns + 0)
  refine zrn_ok HW 1 (zbr_ex (cd := .eq) (x := a) (y := a) (fun _ => zB_iff.mpr ?_) (fun hc => (hc (zop_int.mpr (show a.toInt = a.toInt from rfl))).elim))
  exact nxt T9 h9 _ _ 0 0 rel9 l9 (Or.inl ⟨by decide, by decide, rfl⟩)

theorem lw_case30 {scr : List zV} {post : Option zV → zH → Bool} {G : zS → Prop} {D : Nat} {T : List Nat} {h : zH} {nc ns : Nat} {i : Int32} {t : Int} {v : Bool} (HW : zWalk zprog ze_L_law scr room_1.cells room_1.slots (zD zprog scr D) post G) (HWN : zWalk zprog ze_L_lawN scr room_1.cells room_1.slots (zD zprog scr D) post G) (hsc0 : cT scr) (hD : 300 ≤ D) (IHP : ∀ P : pP, tBel (zPhi P) scr 300) (hscr : ∀ j : Nat, (j : Int) < i.toInt + 6 → ∃ x : Int32, scr[j]? = some (.inl (.int x))) (hi0 : 0 ≤ i.toInt ∧ i.toInt ≤ 100000) (rel : REL T h t v) (hl : h.length ≤ 900000) (hc : nc + 4000 ≤ room_1.cells) (hs : ns + 980000 ≤ room_1.slots)
    (nxt : ∀ (T' : List Nat) (h' : zH) (t' : Int) (v' : Bool) (dc ds : Nat), REL T' h' t' v' → h'.length ≤ h.length + dc → ((dc ≤ 30 ∧ ds ≤ 3328 ∧ v' = v) ∨ (v = false ∧ v' = true ∧ dc ≤ 3843 ∧ ds ≤ 971974)) → G (1663, [(3, .inl (.int i)), (2, .inl (.ref 49)), (1, .inl (.ref 0)), (0, .inl (.ref 10000000))], [], h', nc + dc, ns + ds)) : G (1147, [(3, .inl (.int i)), (2, .inl (.ref 49)), (1, .inl (.ref 0)), (0, .inl (.ref 10000000))], [], h, nc, ns) := by
  have hq_0 : T[0]? = some 4 := rel.1.2.1.1.1
  have hq_49 : T[49]? = some 5 := rel.1.2.1.1.2.2.1
  refine zrn_ok HW 1 (zB_iff.mpr (?_ : G (1148, [(3, .inl (.int i)), (2, .inl (.ref 49)), (1, .inl (.ref 0)), (0, .inl (.ref 10000000))], [.inl (.ref 0)], h, nc, ns)))
  refine g_callV (E' := ze_X4_full) HW rfl rfl (Nat.le_of_ble_eq_true rfl) (by show nc + 0 ≤ room_1.cells; omega) (by show ns + 0 ≤ room_1.slots; omega) rel.1.1 rfl hq_0 rfl (Nat.le_of_ble_eq_true rfl) (lp_full hsc0 IHP hD rel hl _ (fun a T7 h7 m7 ok7 f7 K7 => zB_iff.mpr ?_))
  show G (1151, [(3, .inl (.int i)), (2, .inl (.ref 49)), (1, .inl (.ref 0)), (0, .inl (.ref 10000000))], [.inl (.int a)], h7, nc, ns)
  have hq_49 : T7[49]? = some 5 := ok7.2.1.1.2.2.1
  refine zrn_ok HW 1 (zB_iff.mpr (?_ : G (1152, [(3, .inl (.int i)), (2, .inl (.ref 49)), (1, .inl (.ref 0)), (0, .inl (.ref 10000000))], [.inl (.ref 49), .inl (.int a)], h7, nc, ns)))
  refine g_callV (E' := ze_X5_full) HW rfl rfl (Nat.le_of_ble_eq_true rfl) (by show nc + 0 ≤ room_1.cells; omega) (by show ns + 0 ≤ room_1.slots; omega) ok7.1 rfl hq_49 rfl (Nat.le_of_ble_eq_true rfl) (K7 _ (fun T9 h9 m9 rel9 l9 => zB_iff.mpr ?_))
  show G (1155, [(3, .inl (.int i)), (2, .inl (.ref 49)), (1, .inl (.ref 0)), (0, .inl (.ref 10000000))], [.inl (.int a), .inl (.int a)], h9, nc + 0, ns + 0)
  refine zrn_ok HW 1 (zbr_ex (cd := .eq) (x := a) (y := a) (fun _ => zB_iff.mpr ?_) (fun hc => (hc (zop_int.mpr (show a.toInt = a.toInt from rfl))).elim))
  exact nxt T9 h9 _ _ 0 0 rel9 l9 (Or.inl ⟨by decide, by decide, rfl⟩)

theorem lw_case31 {scr : List zV} {post : Option zV → zH → Bool} {G : zS → Prop} {D : Nat} {T : List Nat} {h : zH} {nc ns : Nat} {i : Int32} {t : Int} {v : Bool} (HW : zWalk zprog ze_L_law scr room_1.cells room_1.slots (zD zprog scr D) post G) (HWN : zWalk zprog ze_L_lawN scr room_1.cells room_1.slots (zD zprog scr D) post G) (hsc0 : cT scr) (hD : 300 ≤ D) (IHP : ∀ P : pP, tBel (zPhi P) scr 300) (hscr : ∀ j : Nat, (j : Int) < i.toInt + 6 → ∃ x : Int32, scr[j]? = some (.inl (.int x))) (hi0 : 0 ≤ i.toInt ∧ i.toInt ≤ 100000) (rel : REL T h t v) (hl : h.length ≤ 900000) (hc : nc + 4000 ≤ room_1.cells) (hs : ns + 980000 ≤ room_1.slots)
    (nxt : ∀ (T' : List Nat) (h' : zH) (t' : Int) (v' : Bool) (dc ds : Nat), REL T' h' t' v' → h'.length ≤ h.length + dc → ((dc ≤ 30 ∧ ds ≤ 3328 ∧ v' = v) ∨ (v = false ∧ v' = true ∧ dc ≤ 3843 ∧ ds ≤ 971974)) → G (1663, [(3, .inl (.int i)), (2, .inl (.ref 49)), (1, .inl (.ref 0)), (0, .inl (.ref 10000000))], [], h', nc + dc, ns + ds)) : G (1160, [(3, .inl (.int i)), (2, .inl (.ref 49)), (1, .inl (.ref 0)), (0, .inl (.ref 10000000))], [], h, nc, ns) := by
  have hq_0 : T[0]? = some 4 := rel.1.2.1.1.1
  have hq_49 : T[49]? = some 5 := rel.1.2.1.1.2.2.1
  have z1 : -2147483648 ≤ i.toInt + (1 : Int) → i.toInt + (1 : Int) ≤ 2147483647 → (i + (1 : Int32)).toInt = i.toInt + (1 : Int) := t_addC (x := i) (y := (1 : Int32))
  refine zrn_ok HW 5 (zB_iff.mpr (?_ : G (1165, [(3, .inl (.int i)), (2, .inl (.ref 49)), (1, .inl (.ref 0)), (0, .inl (.ref 10000000))], [.inl (.int (i + (1 : Int32))), .inl (.ref 10000000), .inl (.ref 0)], h, nc, ns)))
  obtain ⟨y1, s1⟩ := hscr ((i + (1 : Int32))).toInt.toNat (by omega)
  refine g_scr HW rfl (by omega) s1 ?_
  have z2 : -2147483648 ≤ i.toInt + (2 : Int) → i.toInt + (2 : Int) ≤ 2147483647 → (i + (2 : Int32)).toInt = i.toInt + (2 : Int) := t_addC (x := i) (y := (2 : Int32))
  refine zrn_ok HW 4 (zB_iff.mpr (?_ : G (1170, [(3, .inl (.int i)), (2, .inl (.ref 49)), (1, .inl (.ref 0)), (0, .inl (.ref 10000000))], [.inl (.int (i + (2 : Int32))), .inl (.ref 10000000), .inl (.int y1), .inl (.ref 0)], h, nc, ns)))
  obtain ⟨y2, s2⟩ := hscr ((i + (2 : Int32))).toInt.toNat (by omega)
  refine g_scr HW rfl (by omega) s2 ?_
  refine g_callV (E' := ze_X4_guess) HW rfl rfl (Nat.le_of_ble_eq_true rfl) (by show nc + 0 ≤ room_1.cells; omega) (by show ns + 0 ≤ room_1.slots; omega) rel.1.1 rfl hq_0 rfl (Nat.le_of_ble_eq_true rfl) (lp_guess hsc0 IHP hD rel hl _ (fun a T7 h7 m7 ok7 f7 K7 => zB_iff.mpr ?_))
  show G (1174, [(3, .inl (.int i)), (2, .inl (.ref 49)), (1, .inl (.ref 0)), (0, .inl (.ref 10000000))], [.inl (.int a)], h7, nc, ns)
  have hq_49 : T7[49]? = some 5 := ok7.2.1.1.2.2.1
  refine zrn_ok HW 5 (zB_iff.mpr (?_ : G (1179, [(3, .inl (.int i)), (2, .inl (.ref 49)), (1, .inl (.ref 0)), (0, .inl (.ref 10000000))], [.inl (.int (i + (1 : Int32))), .inl (.ref 10000000), .inl (.ref 49), .inl (.int a)], h7, nc, ns)))
  refine g_scr HW rfl (by omega) s1 ?_
  refine zrn_ok HW 4 (zB_iff.mpr (?_ : G (1184, [(3, .inl (.int i)), (2, .inl (.ref 49)), (1, .inl (.ref 0)), (0, .inl (.ref 10000000))], [.inl (.int (i + (2 : Int32))), .inl (.ref 10000000), .inl (.int y1), .inl (.ref 49), .inl (.int a)], h7, nc, ns)))
  refine g_scr HW rfl (by omega) s2 ?_
  refine g_callV (E' := ze_X5_guess) HW rfl rfl (Nat.le_of_ble_eq_true rfl) (by show nc + 0 ≤ room_1.cells; omega) (by show ns + 0 ≤ room_1.slots; omega) ok7.1 rfl hq_49 rfl (Nat.le_of_ble_eq_true rfl) (K7 _ (fun T9 h9 m9 rel9 l9 => zB_iff.mpr ?_))
  show G (1188, [(3, .inl (.int i)), (2, .inl (.ref 49)), (1, .inl (.ref 0)), (0, .inl (.ref 10000000))], [.inl (.int a), .inl (.int a)], h9, nc + 0, ns + 0)
  refine zrn_ok HW 1 (zbr_ex (cd := .eq) (x := a) (y := a) (fun _ => zB_iff.mpr ?_) (fun hc => (hc (zop_int.mpr (show a.toInt = a.toInt from rfl))).elim))
  exact nxt T9 h9 _ _ 0 0 rel9 l9 (Or.inl ⟨by decide, by decide, rfl⟩)

theorem lw_case32 {scr : List zV} {post : Option zV → zH → Bool} {G : zS → Prop} {D : Nat} {T : List Nat} {h : zH} {nc ns : Nat} {i : Int32} {t : Int} {v : Bool} (HW : zWalk zprog ze_L_law scr room_1.cells room_1.slots (zD zprog scr D) post G) (HWN : zWalk zprog ze_L_lawN scr room_1.cells room_1.slots (zD zprog scr D) post G) (hsc0 : cT scr) (hD : 300 ≤ D) (IHP : ∀ P : pP, tBel (zPhi P) scr 300) (hscr : ∀ j : Nat, (j : Int) < i.toInt + 6 → ∃ x : Int32, scr[j]? = some (.inl (.int x))) (hi0 : 0 ≤ i.toInt ∧ i.toInt ≤ 100000) (rel : REL T h t v) (hl : h.length ≤ 900000) (hc : nc + 4000 ≤ room_1.cells) (hs : ns + 980000 ≤ room_1.slots)
    (nxt : ∀ (T' : List Nat) (h' : zH) (t' : Int) (v' : Bool) (dc ds : Nat), REL T' h' t' v' → h'.length ≤ h.length + dc → ((dc ≤ 30 ∧ ds ≤ 3328 ∧ v' = v) ∨ (v = false ∧ v' = true ∧ dc ≤ 3843 ∧ ds ≤ 971974)) → G (1663, [(3, .inl (.int i)), (2, .inl (.ref 49)), (1, .inl (.ref 0)), (0, .inl (.ref 10000000))], [], h', nc + dc, ns + ds)) : G (1193, [(3, .inl (.int i)), (2, .inl (.ref 49)), (1, .inl (.ref 0)), (0, .inl (.ref 10000000))], [], h, nc, ns) := by
  have hq_0 : T[0]? = some 4 := rel.1.2.1.1.1
  have hq_49 : T[49]? = some 5 := rel.1.2.1.1.2.2.1
  have z1 : -2147483648 ≤ i.toInt + (1 : Int) → i.toInt + (1 : Int) ≤ 2147483647 → (i + (1 : Int32)).toInt = i.toInt + (1 : Int) := t_addC (x := i) (y := (1 : Int32))
  refine zrn_ok HW 5 (zB_iff.mpr (?_ : G (1198, [(3, .inl (.int i)), (2, .inl (.ref 49)), (1, .inl (.ref 0)), (0, .inl (.ref 10000000))], [.inl (.int (i + (1 : Int32))), .inl (.ref 10000000), .inl (.ref 0)], h, nc, ns)))
  obtain ⟨y1, s1⟩ := hscr ((i + (1 : Int32))).toInt.toNat (by omega)
  refine g_scr HW rfl (by omega) s1 ?_
  have z2 : -2147483648 ≤ i.toInt + (2 : Int) → i.toInt + (2 : Int) ≤ 2147483647 → (i + (2 : Int32)).toInt = i.toInt + (2 : Int) := t_addC (x := i) (y := (2 : Int32))
  refine zrn_ok HW 4 (zB_iff.mpr (?_ : G (1203, [(3, .inl (.int i)), (2, .inl (.ref 49)), (1, .inl (.ref 0)), (0, .inl (.ref 10000000))], [.inl (.int (i + (2 : Int32))), .inl (.ref 10000000), .inl (.int y1), .inl (.ref 0)], h, nc, ns)))
  obtain ⟨y2, s2⟩ := hscr ((i + (2 : Int32))).toInt.toNat (by omega)
  refine g_scr HW rfl (by omega) s2 ?_
  refine g_callV (E' := ze_X4_suspect) HW rfl rfl (Nat.le_of_ble_eq_true rfl) (by show nc + 0 ≤ room_1.cells; omega) (by show ns + 0 ≤ room_1.slots; omega) rel.1.1 rfl hq_0 rfl (Nat.le_of_ble_eq_true rfl) (lp_suspect hsc0 IHP hD rel hl _ (fun a T7 h7 m7 ok7 f7 K7 => zB_iff.mpr ?_))
  show G (1207, [(3, .inl (.int i)), (2, .inl (.ref 49)), (1, .inl (.ref 0)), (0, .inl (.ref 10000000))], [.inl (.int a)], h7, nc, ns)
  have hq_49 : T7[49]? = some 5 := ok7.2.1.1.2.2.1
  refine zrn_ok HW 5 (zB_iff.mpr (?_ : G (1212, [(3, .inl (.int i)), (2, .inl (.ref 49)), (1, .inl (.ref 0)), (0, .inl (.ref 10000000))], [.inl (.int (i + (1 : Int32))), .inl (.ref 10000000), .inl (.ref 49), .inl (.int a)], h7, nc, ns)))
  refine g_scr HW rfl (by omega) s1 ?_
  refine zrn_ok HW 4 (zB_iff.mpr (?_ : G (1217, [(3, .inl (.int i)), (2, .inl (.ref 49)), (1, .inl (.ref 0)), (0, .inl (.ref 10000000))], [.inl (.int (i + (2 : Int32))), .inl (.ref 10000000), .inl (.int y1), .inl (.ref 49), .inl (.int a)], h7, nc, ns)))
  refine g_scr HW rfl (by omega) s2 ?_
  refine g_callV (E' := ze_X5_suspect) HW rfl rfl (Nat.le_of_ble_eq_true rfl) (by show nc + 0 ≤ room_1.cells; omega) (by show ns + 0 ≤ room_1.slots; omega) ok7.1 rfl hq_49 rfl (Nat.le_of_ble_eq_true rfl) (K7 _ (fun T9 h9 m9 rel9 l9 => zB_iff.mpr ?_))
  show G (1221, [(3, .inl (.int i)), (2, .inl (.ref 49)), (1, .inl (.ref 0)), (0, .inl (.ref 10000000))], [.inl (.int a), .inl (.int a)], h9, nc + 0, ns + 0)
  refine zrn_ok HW 1 (zbr_ex (cd := .eq) (x := a) (y := a) (fun _ => zB_iff.mpr ?_) (fun hc => (hc (zop_int.mpr (show a.toInt = a.toInt from rfl))).elim))
  exact nxt T9 h9 _ _ 0 0 rel9 l9 (Or.inl ⟨by decide, by decide, rfl⟩)

theorem lw_case33 {scr : List zV} {post : Option zV → zH → Bool} {G : zS → Prop} {D : Nat} {T : List Nat} {h : zH} {nc ns : Nat} {i : Int32} {t : Int} {v : Bool} (HW : zWalk zprog ze_L_law scr room_1.cells room_1.slots (zD zprog scr D) post G) (HWN : zWalk zprog ze_L_lawN scr room_1.cells room_1.slots (zD zprog scr D) post G) (hsc0 : cT scr) (hD : 300 ≤ D) (IHP : ∀ P : pP, tBel (zPhi P) scr 300) (hscr : ∀ j : Nat, (j : Int) < i.toInt + 6 → ∃ x : Int32, scr[j]? = some (.inl (.int x))) (hi0 : 0 ≤ i.toInt ∧ i.toInt ≤ 100000) (rel : REL T h t v) (hl : h.length ≤ 900000) (hc : nc + 4000 ≤ room_1.cells) (hs : ns + 980000 ≤ room_1.slots)
    (nxt : ∀ (T' : List Nat) (h' : zH) (t' : Int) (v' : Bool) (dc ds : Nat), REL T' h' t' v' → h'.length ≤ h.length + dc → ((dc ≤ 30 ∧ ds ≤ 3328 ∧ v' = v) ∨ (v = false ∧ v' = true ∧ dc ≤ 3843 ∧ ds ≤ 971974)) → G (1663, [(3, .inl (.int i)), (2, .inl (.ref 49)), (1, .inl (.ref 0)), (0, .inl (.ref 10000000))], [], h', nc + dc, ns + ds)) : G (1226, [(3, .inl (.int i)), (2, .inl (.ref 49)), (1, .inl (.ref 0)), (0, .inl (.ref 10000000))], [], h, nc, ns) := by
  have hq_0 : T[0]? = some 4 := rel.1.2.1.1.1
  have hq_49 : T[49]? = some 5 := rel.1.2.1.1.2.2.1
  have z1 : -2147483648 ≤ i.toInt + (1 : Int) → i.toInt + (1 : Int) ≤ 2147483647 → (i + (1 : Int32)).toInt = i.toInt + (1 : Int) := t_addC (x := i) (y := (1 : Int32))
  refine zrn_ok HW 5 (zB_iff.mpr (?_ : G (1231, [(3, .inl (.int i)), (2, .inl (.ref 49)), (1, .inl (.ref 0)), (0, .inl (.ref 10000000))], [.inl (.int (i + (1 : Int32))), .inl (.ref 10000000), .inl (.ref 0)], h, nc, ns)))
  obtain ⟨y1, s1⟩ := hscr ((i + (1 : Int32))).toInt.toNat (by omega)
  refine g_scr HW rfl (by omega) s1 ?_
  have z2 : -2147483648 ≤ i.toInt + (2 : Int) → i.toInt + (2 : Int) ≤ 2147483647 → (i + (2 : Int32)).toInt = i.toInt + (2 : Int) := t_addC (x := i) (y := (2 : Int32))
  refine zrn_ok HW 4 (zB_iff.mpr (?_ : G (1236, [(3, .inl (.int i)), (2, .inl (.ref 49)), (1, .inl (.ref 0)), (0, .inl (.ref 10000000))], [.inl (.int (i + (2 : Int32))), .inl (.ref 10000000), .inl (.int y1), .inl (.ref 0)], h, nc, ns)))
  obtain ⟨y2, s2⟩ := hscr ((i + (2 : Int32))).toInt.toNat (by omega)
  refine g_scr HW rfl (by omega) s2 ?_
  refine g_callV (E' := ze_X4_sure) HW rfl rfl (Nat.le_of_ble_eq_true rfl) (by show nc + 0 ≤ room_1.cells; omega) (by show ns + 0 ≤ room_1.slots; omega) rel.1.1 rfl hq_0 rfl (Nat.le_of_ble_eq_true rfl) (lp_sure hsc0 IHP hD rel hl _ (fun a T7 h7 m7 ok7 f7 K7 => zB_iff.mpr ?_))
  show G (1240, [(3, .inl (.int i)), (2, .inl (.ref 49)), (1, .inl (.ref 0)), (0, .inl (.ref 10000000))], [.inl (.int a)], h7, nc, ns)
  have hq_49 : T7[49]? = some 5 := ok7.2.1.1.2.2.1
  refine zrn_ok HW 5 (zB_iff.mpr (?_ : G (1245, [(3, .inl (.int i)), (2, .inl (.ref 49)), (1, .inl (.ref 0)), (0, .inl (.ref 10000000))], [.inl (.int (i + (1 : Int32))), .inl (.ref 10000000), .inl (.ref 49), .inl (.int a)], h7, nc, ns)))
  refine g_scr HW rfl (by omega) s1 ?_
  refine zrn_ok HW 4 (zB_iff.mpr (?_ : G (1250, [(3, .inl (.int i)), (2, .inl (.ref 49)), (1, .inl (.ref 0)), (0, .inl (.ref 10000000))], [.inl (.int (i + (2 : Int32))), .inl (.ref 10000000), .inl (.int y1), .inl (.ref 49), .inl (.int a)], h7, nc, ns)))
  refine g_scr HW rfl (by omega) s2 ?_
  refine g_callV (E' := ze_X5_sure) HW rfl rfl (Nat.le_of_ble_eq_true rfl) (by show nc + 0 ≤ room_1.cells; omega) (by show ns + 0 ≤ room_1.slots; omega) ok7.1 rfl hq_49 rfl (Nat.le_of_ble_eq_true rfl) (K7 _ (fun T9 h9 m9 rel9 l9 => zB_iff.mpr ?_))
  show G (1254, [(3, .inl (.int i)), (2, .inl (.ref 49)), (1, .inl (.ref 0)), (0, .inl (.ref 10000000))], [.inl (.int a), .inl (.int a)], h9, nc + 0, ns + 0)
  refine zrn_ok HW 1 (zbr_ex (cd := .eq) (x := a) (y := a) (fun _ => zB_iff.mpr ?_) (fun hc => (hc (zop_int.mpr (show a.toInt = a.toInt from rfl))).elim))
  exact nxt T9 h9 _ _ 0 0 rel9 l9 (Or.inl ⟨by decide, by decide, rfl⟩)

theorem lw_case34 {scr : List zV} {post : Option zV → zH → Bool} {G : zS → Prop} {D : Nat} {T : List Nat} {h : zH} {nc ns : Nat} {i : Int32} {t : Int} {v : Bool} (HW : zWalk zprog ze_L_law scr room_1.cells room_1.slots (zD zprog scr D) post G) (HWN : zWalk zprog ze_L_lawN scr room_1.cells room_1.slots (zD zprog scr D) post G) (hsc0 : cT scr) (hD : 300 ≤ D) (IHP : ∀ P : pP, tBel (zPhi P) scr 300) (hscr : ∀ j : Nat, (j : Int) < i.toInt + 6 → ∃ x : Int32, scr[j]? = some (.inl (.int x))) (hi0 : 0 ≤ i.toInt ∧ i.toInt ≤ 100000) (rel : REL T h t v) (hl : h.length ≤ 900000) (hc : nc + 4000 ≤ room_1.cells) (hs : ns + 980000 ≤ room_1.slots)
    (nxt : ∀ (T' : List Nat) (h' : zH) (t' : Int) (v' : Bool) (dc ds : Nat), REL T' h' t' v' → h'.length ≤ h.length + dc → ((dc ≤ 30 ∧ ds ≤ 3328 ∧ v' = v) ∨ (v = false ∧ v' = true ∧ dc ≤ 3843 ∧ ds ≤ 971974)) → G (1663, [(3, .inl (.int i)), (2, .inl (.ref 49)), (1, .inl (.ref 0)), (0, .inl (.ref 10000000))], [], h', nc + dc, ns + ds)) : G (1259, [(3, .inl (.int i)), (2, .inl (.ref 49)), (1, .inl (.ref 0)), (0, .inl (.ref 10000000))], [], h, nc, ns) := by
  have hq_0 : T[0]? = some 4 := rel.1.2.1.1.1
  have hq_49 : T[49]? = some 5 := rel.1.2.1.1.2.2.1
  have z1 : -2147483648 ≤ i.toInt + (1 : Int) → i.toInt + (1 : Int) ≤ 2147483647 → (i + (1 : Int32)).toInt = i.toInt + (1 : Int) := t_addC (x := i) (y := (1 : Int32))
  refine zrn_ok HW 5 (zB_iff.mpr (?_ : G (1264, [(3, .inl (.int i)), (2, .inl (.ref 49)), (1, .inl (.ref 0)), (0, .inl (.ref 10000000))], [.inl (.int (i + (1 : Int32))), .inl (.ref 10000000), .inl (.ref 0)], h, nc, ns)))
  obtain ⟨y1, s1⟩ := hscr ((i + (1 : Int32))).toInt.toNat (by omega)
  refine g_scr HW rfl (by omega) s1 ?_
  refine g_callV (E' := ze_X4_left) HW rfl rfl (Nat.le_of_ble_eq_true rfl) (by show nc + 0 ≤ room_1.cells; omega) (by show ns + 0 ≤ room_1.slots; omega) rel.1.1 rfl hq_0 rfl (Nat.le_of_ble_eq_true rfl) (lp_left hsc0 IHP hD rel hl _ (fun a T7 h7 m7 ok7 f7 K7 => zB_iff.mpr ?_))
  show G (1268, [(3, .inl (.int i)), (2, .inl (.ref 49)), (1, .inl (.ref 0)), (0, .inl (.ref 10000000))], [.inl (.int a)], h7, nc, ns)
  have hq_49 : T7[49]? = some 5 := ok7.2.1.1.2.2.1
  refine zrn_ok HW 5 (zB_iff.mpr (?_ : G (1273, [(3, .inl (.int i)), (2, .inl (.ref 49)), (1, .inl (.ref 0)), (0, .inl (.ref 10000000))], [.inl (.int (i + (1 : Int32))), .inl (.ref 10000000), .inl (.ref 49), .inl (.int a)], h7, nc, ns)))
  refine g_scr HW rfl (by omega) s1 ?_
  refine g_callV (E' := ze_X5_left) HW rfl rfl (Nat.le_of_ble_eq_true rfl) (by show nc + 0 ≤ room_1.cells; omega) (by show ns + 0 ≤ room_1.slots; omega) ok7.1 rfl hq_49 rfl (Nat.le_of_ble_eq_true rfl) (K7 _ (fun T9 h9 m9 rel9 l9 => zB_iff.mpr ?_))
  show G (1277, [(3, .inl (.int i)), (2, .inl (.ref 49)), (1, .inl (.ref 0)), (0, .inl (.ref 10000000))], [.inl (.int a), .inl (.int a)], h9, nc + 0, ns + 0)
  refine zrn_ok HW 1 (zbr_ex (cd := .eq) (x := a) (y := a) (fun _ => zB_iff.mpr ?_) (fun hc => (hc (zop_int.mpr (show a.toInt = a.toInt from rfl))).elim))
  exact nxt T9 h9 _ _ 0 0 rel9 l9 (Or.inl ⟨by decide, by decide, rfl⟩)

theorem lw_case35 {scr : List zV} {post : Option zV → zH → Bool} {G : zS → Prop} {D : Nat} {T : List Nat} {h : zH} {nc ns : Nat} {i : Int32} {t : Int} {v : Bool} (HW : zWalk zprog ze_L_law scr room_1.cells room_1.slots (zD zprog scr D) post G) (HWN : zWalk zprog ze_L_lawN scr room_1.cells room_1.slots (zD zprog scr D) post G) (hsc0 : cT scr) (hD : 300 ≤ D) (IHP : ∀ P : pP, tBel (zPhi P) scr 300) (hscr : ∀ j : Nat, (j : Int) < i.toInt + 6 → ∃ x : Int32, scr[j]? = some (.inl (.int x))) (hi0 : 0 ≤ i.toInt ∧ i.toInt ≤ 100000) (rel : REL T h t v) (hl : h.length ≤ 900000) (hc : nc + 4000 ≤ room_1.cells) (hs : ns + 980000 ≤ room_1.slots)
    (nxt : ∀ (T' : List Nat) (h' : zH) (t' : Int) (v' : Bool) (dc ds : Nat), REL T' h' t' v' → h'.length ≤ h.length + dc → ((dc ≤ 30 ∧ ds ≤ 3328 ∧ v' = v) ∨ (v = false ∧ v' = true ∧ dc ≤ 3843 ∧ ds ≤ 971974)) → G (1663, [(3, .inl (.int i)), (2, .inl (.ref 49)), (1, .inl (.ref 0)), (0, .inl (.ref 10000000))], [], h', nc + dc, ns + ds)) : G (1282, [(3, .inl (.int i)), (2, .inl (.ref 49)), (1, .inl (.ref 0)), (0, .inl (.ref 10000000))], [], h, nc, ns) := by
  have hq_0 : T[0]? = some 4 := rel.1.2.1.1.1
  have hq_49 : T[49]? = some 5 := rel.1.2.1.1.2.2.1
  have z1 : -2147483648 ≤ i.toInt + (1 : Int) → i.toInt + (1 : Int) ≤ 2147483647 → (i + (1 : Int32)).toInt = i.toInt + (1 : Int) := t_addC (x := i) (y := (1 : Int32))
  refine zrn_ok HW 5 (zB_iff.mpr (?_ : G (1287, [(3, .inl (.int i)), (2, .inl (.ref 49)), (1, .inl (.ref 0)), (0, .inl (.ref 10000000))], [.inl (.int (i + (1 : Int32))), .inl (.ref 10000000), .inl (.ref 0)], h, nc, ns)))
  obtain ⟨y1, s1⟩ := hscr ((i + (1 : Int32))).toInt.toNat (by omega)
  refine g_scr HW rfl (by omega) s1 ?_
  have z2 : -2147483648 ≤ i.toInt + (2 : Int) → i.toInt + (2 : Int) ≤ 2147483647 → (i + (2 : Int32)).toInt = i.toInt + (2 : Int) := t_addC (x := i) (y := (2 : Int32))
  refine zrn_ok HW 4 (zB_iff.mpr (?_ : G (1292, [(3, .inl (.int i)), (2, .inl (.ref 49)), (1, .inl (.ref 0)), (0, .inl (.ref 10000000))], [.inl (.int (i + (2 : Int32))), .inl (.ref 10000000), .inl (.int y1), .inl (.ref 0)], h, nc, ns)))
  obtain ⟨y2, s2⟩ := hscr ((i + (2 : Int32))).toInt.toNat (by omega)
  refine g_scr HW rfl (by omega) s2 ?_
  refine g_callV (E' := ze_X4_judge) HW rfl rfl (Nat.le_of_ble_eq_true rfl) (by show nc + 0 ≤ room_1.cells; omega) (by show ns + 0 ≤ room_1.slots; omega) rel.1.1 rfl hq_0 rfl (Nat.le_of_ble_eq_true rfl) (lp_judge hsc0 IHP hD rel hl _ (fun a T7 h7 m7 ok7 f7 K7 => zB_iff.mpr ?_))
  show G (1296, [(3, .inl (.int i)), (2, .inl (.ref 49)), (1, .inl (.ref 0)), (0, .inl (.ref 10000000))], [.inl (.int a)], h7, nc, ns)
  have hq_49 : T7[49]? = some 5 := ok7.2.1.1.2.2.1
  refine zrn_ok HW 5 (zB_iff.mpr (?_ : G (1301, [(3, .inl (.int i)), (2, .inl (.ref 49)), (1, .inl (.ref 0)), (0, .inl (.ref 10000000))], [.inl (.int (i + (1 : Int32))), .inl (.ref 10000000), .inl (.ref 49), .inl (.int a)], h7, nc, ns)))
  refine g_scr HW rfl (by omega) s1 ?_
  refine zrn_ok HW 4 (zB_iff.mpr (?_ : G (1306, [(3, .inl (.int i)), (2, .inl (.ref 49)), (1, .inl (.ref 0)), (0, .inl (.ref 10000000))], [.inl (.int (i + (2 : Int32))), .inl (.ref 10000000), .inl (.int y1), .inl (.ref 49), .inl (.int a)], h7, nc, ns)))
  refine g_scr HW rfl (by omega) s2 ?_
  refine g_callV (E' := ze_X5_judge) HW rfl rfl (Nat.le_of_ble_eq_true rfl) (by show nc + 30 ≤ room_1.cells; omega) (by show ns + 843 ≤ room_1.slots; omega) ok7.1 rfl hq_49 rfl (Nat.le_of_ble_eq_true rfl) (K7 _ (fun T9 h9 m9 rel9 l9 => zB_iff.mpr ?_))
  show G (1310, [(3, .inl (.int i)), (2, .inl (.ref 49)), (1, .inl (.ref 0)), (0, .inl (.ref 10000000))], [.inl (.int a), .inl (.int a)], h9, nc + 30, ns + 843)
  refine zrn_ok HW 1 (zbr_ex (cd := .eq) (x := a) (y := a) (fun _ => zB_iff.mpr ?_) (fun hc => (hc (zop_int.mpr (show a.toInt = a.toInt from rfl))).elim))
  exact nxt T9 h9 _ _ 30 843 rel9 l9 (Or.inl ⟨by decide, by decide, rfl⟩)

theorem lw_case36 {scr : List zV} {post : Option zV → zH → Bool} {G : zS → Prop} {D : Nat} {T : List Nat} {h : zH} {nc ns : Nat} {i : Int32} {t : Int} {v : Bool} (HW : zWalk zprog ze_L_law scr room_1.cells room_1.slots (zD zprog scr D) post G) (HWN : zWalk zprog ze_L_lawN scr room_1.cells room_1.slots (zD zprog scr D) post G) (hsc0 : cT scr) (hD : 300 ≤ D) (IHP : ∀ P : pP, tBel (zPhi P) scr 300) (hscr : ∀ j : Nat, (j : Int) < i.toInt + 6 → ∃ x : Int32, scr[j]? = some (.inl (.int x))) (hi0 : 0 ≤ i.toInt ∧ i.toInt ≤ 100000) (rel : REL T h t v) (hl : h.length ≤ 900000) (hc : nc + 4000 ≤ room_1.cells) (hs : ns + 980000 ≤ room_1.slots)
    (nxt : ∀ (T' : List Nat) (h' : zH) (t' : Int) (v' : Bool) (dc ds : Nat), REL T' h' t' v' → h'.length ≤ h.length + dc → ((dc ≤ 30 ∧ ds ≤ 3328 ∧ v' = v) ∨ (v = false ∧ v' = true ∧ dc ≤ 3843 ∧ ds ≤ 971974)) → G (1663, [(3, .inl (.int i)), (2, .inl (.ref 49)), (1, .inl (.ref 0)), (0, .inl (.ref 10000000))], [], h', nc + dc, ns + ds)) : G (1315, [(3, .inl (.int i)), (2, .inl (.ref 49)), (1, .inl (.ref 0)), (0, .inl (.ref 10000000))], [], h, nc, ns) := by
  have hq_0 : T[0]? = some 4 := rel.1.2.1.1.1
  have hq_49 : T[49]? = some 5 := rel.1.2.1.1.2.2.1
  have z1 : -2147483648 ≤ i.toInt + (1 : Int) → i.toInt + (1 : Int) ≤ 2147483647 → (i + (1 : Int32)).toInt = i.toInt + (1 : Int) := t_addC (x := i) (y := (1 : Int32))
  refine zrn_ok HW 5 (zB_iff.mpr (?_ : G (1320, [(3, .inl (.int i)), (2, .inl (.ref 49)), (1, .inl (.ref 0)), (0, .inl (.ref 10000000))], [.inl (.int (i + (1 : Int32))), .inl (.ref 10000000), .inl (.ref 0)], h, nc, ns)))
  obtain ⟨y1, s1⟩ := hscr ((i + (1 : Int32))).toInt.toNat (by omega)
  refine g_scr HW rfl (by omega) s1 ?_
  have z2 : -2147483648 ≤ i.toInt + (2 : Int) → i.toInt + (2 : Int) ≤ 2147483647 → (i + (2 : Int32)).toInt = i.toInt + (2 : Int) := t_addC (x := i) (y := (2 : Int32))
  refine zrn_ok HW 4 (zB_iff.mpr (?_ : G (1325, [(3, .inl (.int i)), (2, .inl (.ref 49)), (1, .inl (.ref 0)), (0, .inl (.ref 10000000))], [.inl (.int (i + (2 : Int32))), .inl (.ref 10000000), .inl (.int y1), .inl (.ref 0)], h, nc, ns)))
  obtain ⟨y2, s2⟩ := hscr ((i + (2 : Int32))).toInt.toNat (by omega)
  refine g_scr HW rfl (by omega) s2 ?_
  refine g_callV (E' := ze_X4_won) HW rfl rfl (Nat.le_of_ble_eq_true rfl) (by show nc + 0 ≤ room_1.cells; omega) (by show ns + 0 ≤ room_1.slots; omega) rel.1.1 rfl hq_0 rfl (Nat.le_of_ble_eq_true rfl) (lp_won hsc0 IHP hD rel hl _ (fun a T7 h7 m7 ok7 f7 K7 => zB_iff.mpr ?_))
  show G (1329, [(3, .inl (.int i)), (2, .inl (.ref 49)), (1, .inl (.ref 0)), (0, .inl (.ref 10000000))], [.inl (.int a)], h7, nc, ns)
  have hq_49 : T7[49]? = some 5 := ok7.2.1.1.2.2.1
  refine zrn_ok HW 5 (zB_iff.mpr (?_ : G (1334, [(3, .inl (.int i)), (2, .inl (.ref 49)), (1, .inl (.ref 0)), (0, .inl (.ref 10000000))], [.inl (.int (i + (1 : Int32))), .inl (.ref 10000000), .inl (.ref 49), .inl (.int a)], h7, nc, ns)))
  refine g_scr HW rfl (by omega) s1 ?_
  refine zrn_ok HW 4 (zB_iff.mpr (?_ : G (1339, [(3, .inl (.int i)), (2, .inl (.ref 49)), (1, .inl (.ref 0)), (0, .inl (.ref 10000000))], [.inl (.int (i + (2 : Int32))), .inl (.ref 10000000), .inl (.int y1), .inl (.ref 49), .inl (.int a)], h7, nc, ns)))
  refine g_scr HW rfl (by omega) s2 ?_
  refine g_callV (E' := ze_X5_won) HW rfl rfl (Nat.le_of_ble_eq_true rfl) (by show nc + 30 ≤ room_1.cells; omega) (by show ns + 843 ≤ room_1.slots; omega) ok7.1 rfl hq_49 rfl (Nat.le_of_ble_eq_true rfl) (K7 _ (fun T9 h9 m9 rel9 l9 => zB_iff.mpr ?_))
  show G (1343, [(3, .inl (.int i)), (2, .inl (.ref 49)), (1, .inl (.ref 0)), (0, .inl (.ref 10000000))], [.inl (.int a), .inl (.int a)], h9, nc + 30, ns + 843)
  refine zrn_ok HW 1 (zbr_ex (cd := .eq) (x := a) (y := a) (fun _ => zB_iff.mpr ?_) (fun hc => (hc (zop_int.mpr (show a.toInt = a.toInt from rfl))).elim))
  exact nxt T9 h9 _ _ 30 843 rel9 l9 (Or.inl ⟨by decide, by decide, rfl⟩)

theorem lw_case37 {scr : List zV} {post : Option zV → zH → Bool} {G : zS → Prop} {D : Nat} {T : List Nat} {h : zH} {nc ns : Nat} {i : Int32} {t : Int} {v : Bool} (HW : zWalk zprog ze_L_law scr room_1.cells room_1.slots (zD zprog scr D) post G) (HWN : zWalk zprog ze_L_lawN scr room_1.cells room_1.slots (zD zprog scr D) post G) (hsc0 : cT scr) (hD : 300 ≤ D) (IHP : ∀ P : pP, tBel (zPhi P) scr 300) (hscr : ∀ j : Nat, (j : Int) < i.toInt + 6 → ∃ x : Int32, scr[j]? = some (.inl (.int x))) (hi0 : 0 ≤ i.toInt ∧ i.toInt ≤ 100000) (rel : REL T h t v) (hl : h.length ≤ 900000) (hc : nc + 4000 ≤ room_1.cells) (hs : ns + 980000 ≤ room_1.slots)
    (nxt : ∀ (T' : List Nat) (h' : zH) (t' : Int) (v' : Bool) (dc ds : Nat), REL T' h' t' v' → h'.length ≤ h.length + dc → ((dc ≤ 30 ∧ ds ≤ 3328 ∧ v' = v) ∨ (v = false ∧ v' = true ∧ dc ≤ 3843 ∧ ds ≤ 971974)) → G (1663, [(3, .inl (.int i)), (2, .inl (.ref 49)), (1, .inl (.ref 0)), (0, .inl (.ref 10000000))], [], h', nc + dc, ns + ds)) : G (1348, [(3, .inl (.int i)), (2, .inl (.ref 49)), (1, .inl (.ref 0)), (0, .inl (.ref 10000000))], [], h, nc, ns) := by
  have hq_0 : T[0]? = some 4 := rel.1.2.1.1.1
  have hq_49 : T[49]? = some 5 := rel.1.2.1.1.2.2.1
  have z1 : -2147483648 ≤ i.toInt + (1 : Int) → i.toInt + (1 : Int) ≤ 2147483647 → (i + (1 : Int32)).toInt = i.toInt + (1 : Int) := t_addC (x := i) (y := (1 : Int32))
  refine zrn_ok HW 5 (zB_iff.mpr (?_ : G (1353, [(3, .inl (.int i)), (2, .inl (.ref 49)), (1, .inl (.ref 0)), (0, .inl (.ref 10000000))], [.inl (.int (i + (1 : Int32))), .inl (.ref 10000000), .inl (.ref 0)], h, nc, ns)))
  obtain ⟨y1, s1⟩ := hscr ((i + (1 : Int32))).toInt.toNat (by omega)
  refine g_scr HW rfl (by omega) s1 ?_
  have z2 : -2147483648 ≤ i.toInt + (2 : Int) → i.toInt + (2 : Int) ≤ 2147483647 → (i + (2 : Int32)).toInt = i.toInt + (2 : Int) := t_addC (x := i) (y := (2 : Int32))
  refine zrn_ok HW 4 (zB_iff.mpr (?_ : G (1358, [(3, .inl (.int i)), (2, .inl (.ref 49)), (1, .inl (.ref 0)), (0, .inl (.ref 10000000))], [.inl (.int (i + (2 : Int32))), .inl (.ref 10000000), .inl (.int y1), .inl (.ref 0)], h, nc, ns)))
  obtain ⟨y2, s2⟩ := hscr ((i + (2 : Int32))).toInt.toNat (by omega)
  refine g_scr HW rfl (by omega) s2 ?_
  have z3 : -2147483648 ≤ i.toInt + (3 : Int) → i.toInt + (3 : Int) ≤ 2147483647 → (i + (3 : Int32)).toInt = i.toInt + (3 : Int) := t_addC (x := i) (y := (3 : Int32))
  refine zrn_ok HW 4 (zB_iff.mpr (?_ : G (1363, [(3, .inl (.int i)), (2, .inl (.ref 49)), (1, .inl (.ref 0)), (0, .inl (.ref 10000000))], [.inl (.int (i + (3 : Int32))), .inl (.ref 10000000), .inl (.int y2), .inl (.int y1), .inl (.ref 0)], h, nc, ns)))
  obtain ⟨y3, s3⟩ := hscr ((i + (3 : Int32))).toInt.toNat (by omega)
  refine g_scr HW rfl (by omega) s3 ?_
  refine g_callV (E' := ze_X4_booked) HW rfl rfl (Nat.le_of_ble_eq_true rfl) (by show nc + 0 ≤ room_1.cells; omega) (by show ns + 0 ≤ room_1.slots; omega) rel.1.1 rfl hq_0 rfl (Nat.le_of_ble_eq_true rfl) (lp_booked hsc0 IHP hD rel hl _ (fun a T7 h7 m7 ok7 f7 K7 => zB_iff.mpr ?_))
  show G (1367, [(3, .inl (.int i)), (2, .inl (.ref 49)), (1, .inl (.ref 0)), (0, .inl (.ref 10000000))], [.inl (.int a)], h7, nc, ns)
  have hq_49 : T7[49]? = some 5 := ok7.2.1.1.2.2.1
  refine zrn_ok HW 5 (zB_iff.mpr (?_ : G (1372, [(3, .inl (.int i)), (2, .inl (.ref 49)), (1, .inl (.ref 0)), (0, .inl (.ref 10000000))], [.inl (.int (i + (1 : Int32))), .inl (.ref 10000000), .inl (.ref 49), .inl (.int a)], h7, nc, ns)))
  refine g_scr HW rfl (by omega) s1 ?_
  refine zrn_ok HW 4 (zB_iff.mpr (?_ : G (1377, [(3, .inl (.int i)), (2, .inl (.ref 49)), (1, .inl (.ref 0)), (0, .inl (.ref 10000000))], [.inl (.int (i + (2 : Int32))), .inl (.ref 10000000), .inl (.int y1), .inl (.ref 49), .inl (.int a)], h7, nc, ns)))
  refine g_scr HW rfl (by omega) s2 ?_
  refine zrn_ok HW 4 (zB_iff.mpr (?_ : G (1382, [(3, .inl (.int i)), (2, .inl (.ref 49)), (1, .inl (.ref 0)), (0, .inl (.ref 10000000))], [.inl (.int (i + (3 : Int32))), .inl (.ref 10000000), .inl (.int y2), .inl (.int y1), .inl (.ref 49), .inl (.int a)], h7, nc, ns)))
  refine g_scr HW rfl (by omega) s3 ?_
  refine g_callV (E' := ze_X5_booked) HW rfl rfl (Nat.le_of_ble_eq_true rfl) (by show nc + 30 ≤ room_1.cells; omega) (by show ns + 843 ≤ room_1.slots; omega) ok7.1 rfl hq_49 rfl (Nat.le_of_ble_eq_true rfl) (K7 _ (fun T9 h9 m9 rel9 l9 => zB_iff.mpr ?_))
  show G (1386, [(3, .inl (.int i)), (2, .inl (.ref 49)), (1, .inl (.ref 0)), (0, .inl (.ref 10000000))], [.inl (.int a), .inl (.int a)], h9, nc + 30, ns + 843)
  refine zrn_ok HW 1 (zbr_ex (cd := .eq) (x := a) (y := a) (fun _ => zB_iff.mpr ?_) (fun hc => (hc (zop_int.mpr (show a.toInt = a.toInt from rfl))).elim))
  exact nxt T9 h9 _ _ 30 843 rel9 l9 (Or.inl ⟨by decide, by decide, rfl⟩)

theorem lw_case38 {scr : List zV} {post : Option zV → zH → Bool} {G : zS → Prop} {D : Nat} {T : List Nat} {h : zH} {nc ns : Nat} {i : Int32} {t : Int} {v : Bool} (HW : zWalk zprog ze_L_law scr room_1.cells room_1.slots (zD zprog scr D) post G) (HWN : zWalk zprog ze_L_lawN scr room_1.cells room_1.slots (zD zprog scr D) post G) (hsc0 : cT scr) (hD : 300 ≤ D) (IHP : ∀ P : pP, tBel (zPhi P) scr 300) (hscr : ∀ j : Nat, (j : Int) < i.toInt + 6 → ∃ x : Int32, scr[j]? = some (.inl (.int x))) (hi0 : 0 ≤ i.toInt ∧ i.toInt ≤ 100000) (rel : REL T h t v) (hl : h.length ≤ 900000) (hc : nc + 4000 ≤ room_1.cells) (hs : ns + 980000 ≤ room_1.slots)
    (nxt : ∀ (T' : List Nat) (h' : zH) (t' : Int) (v' : Bool) (dc ds : Nat), REL T' h' t' v' → h'.length ≤ h.length + dc → ((dc ≤ 30 ∧ ds ≤ 3328 ∧ v' = v) ∨ (v = false ∧ v' = true ∧ dc ≤ 3843 ∧ ds ≤ 971974)) → G (1663, [(3, .inl (.int i)), (2, .inl (.ref 49)), (1, .inl (.ref 0)), (0, .inl (.ref 10000000))], [], h', nc + dc, ns + ds)) : G (1391, [(3, .inl (.int i)), (2, .inl (.ref 49)), (1, .inl (.ref 0)), (0, .inl (.ref 10000000))], [], h, nc, ns) := by
  have hq_0 : T[0]? = some 4 := rel.1.2.1.1.1
  have hq_49 : T[49]? = some 5 := rel.1.2.1.1.2.2.1
  have z1 : -2147483648 ≤ i.toInt + (1 : Int) → i.toInt + (1 : Int) ≤ 2147483647 → (i + (1 : Int32)).toInt = i.toInt + (1 : Int) := t_addC (x := i) (y := (1 : Int32))
  refine zrn_ok HW 5 (zB_iff.mpr (?_ : G (1396, [(3, .inl (.int i)), (2, .inl (.ref 49)), (1, .inl (.ref 0)), (0, .inl (.ref 10000000))], [.inl (.int (i + (1 : Int32))), .inl (.ref 10000000), .inl (.ref 0)], h, nc, ns)))
  obtain ⟨y1, s1⟩ := hscr ((i + (1 : Int32))).toInt.toNat (by omega)
  refine g_scr HW rfl (by omega) s1 ?_
  refine g_callV (E' := ze_X4_chain) HW rfl rfl (Nat.le_of_ble_eq_true rfl) (by show nc + 0 ≤ room_1.cells; omega) (by show ns + 0 ≤ room_1.slots; omega) rel.1.1 rfl hq_0 rfl (Nat.le_of_ble_eq_true rfl) (lp_chain hsc0 IHP hD rel hl _ (fun a T7 h7 m7 ok7 f7 K7 => zB_iff.mpr ?_))
  show G (1400, [(3, .inl (.int i)), (2, .inl (.ref 49)), (1, .inl (.ref 0)), (0, .inl (.ref 10000000))], [.inl (.int a)], h7, nc, ns)
  have hq_49 : T7[49]? = some 5 := ok7.2.1.1.2.2.1
  refine zrn_ok HW 5 (zB_iff.mpr (?_ : G (1405, [(3, .inl (.int i)), (2, .inl (.ref 49)), (1, .inl (.ref 0)), (0, .inl (.ref 10000000))], [.inl (.int (i + (1 : Int32))), .inl (.ref 10000000), .inl (.ref 49), .inl (.int a)], h7, nc, ns)))
  refine g_scr HW rfl (by omega) s1 ?_
  refine g_callV (E' := ze_X5_chain) HW rfl rfl (Nat.le_of_ble_eq_true rfl) (by show nc + 13 ≤ room_1.cells; omega) (by show ns + 3328 ≤ room_1.slots; omega) ok7.1 rfl hq_49 rfl (Nat.le_of_ble_eq_true rfl) (K7 _ (fun T9 h9 m9 rel9 l9 => zB_iff.mpr ?_))
  show G (1409, [(3, .inl (.int i)), (2, .inl (.ref 49)), (1, .inl (.ref 0)), (0, .inl (.ref 10000000))], [.inl (.int a), .inl (.int a)], h9, nc + 13, ns + 3328)
  refine zrn_ok HW 1 (zbr_ex (cd := .eq) (x := a) (y := a) (fun _ => zB_iff.mpr ?_) (fun hc => (hc (zop_int.mpr (show a.toInt = a.toInt from rfl))).elim))
  exact nxt T9 h9 _ _ 13 3328 rel9 l9 (Or.inl ⟨by decide, by decide, rfl⟩)
