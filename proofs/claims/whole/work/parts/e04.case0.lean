/-- two longs that are one: the law goes on -/
theorem lw_lc {x : Int64} {kt kf : Bool} (ht : kt = true) : zbr (zcond .eq (zcmpL (.inl (.long x)) (.inl (.long x))) (.inl (.int 0))) kt kf = true := by
  rcases zcmp3 x x with ⟨h, e⟩ | ⟨h, e⟩ | ⟨h, e⟩
  · omega
  · rw [e]
    exact ht
  · omega
theorem lw_case0 {scr : List zV} {post : Option zV → zH → Bool} {G : zS → Prop} {D : Nat} {T : List Nat} {h : zH} {nc ns : Nat} {i : Int32} {t : Int} {v : Bool} (HW : zWalk zprog ze_L_law scr room_1.cells room_1.slots (zD zprog scr D) post G) (HWN : zWalk zprog ze_L_lawN scr room_1.cells room_1.slots (zD zprog scr D) post G) (hsc0 : cT scr) (hD : 300 ≤ D) (IHP : ∀ P : pP, tBel (zPhi P) scr 300) (hscr : ∀ j : Nat, (j : Int) < i.toInt + 6 → ∃ x : Int32, scr[j]? = some (.inl (.int x))) (hi0 : 0 ≤ i.toInt ∧ i.toInt ≤ 100000) (rel : REL T h t v) (hl : h.length ≤ 900000) (hc : nc + 4000 ≤ room_1.cells) (hs : ns + 980000 ≤ room_1.slots)
    (nxt : ∀ (T' : List Nat) (h' : zH) (t' : Int) (v' : Bool) (dc ds : Nat), REL T' h' t' v' → h'.length ≤ h.length + dc → ((dc ≤ 30 ∧ ds ≤ 3328 ∧ v' = v) ∨ (v = false ∧ v' = true ∧ dc ≤ 3843 ∧ ds ≤ 971974)) → G (1663, [(3, .inl (.int i)), (2, .inl (.ref 49)), (1, .inl (.ref 0)), (0, .inl (.ref 10000000))], [], h', nc + dc, ns + ds)) : G (256, [(3, .inl (.int i)), (2, .inl (.ref 49)), (1, .inl (.ref 0)), (0, .inl (.ref 10000000))], [], h, nc, ns) := by
  have hq_0 : T[0]? = some 4 := rel.1.2.1.1.1
  have hq_49 : T[49]? = some 5 := rel.1.2.1.1.2.2.1
  have z1 : -2147483648 ≤ i.toInt + (1 : Int) → i.toInt + (1 : Int) ≤ 2147483647 → (i + (1 : Int32)).toInt = i.toInt + (1 : Int) := t_addC (x := i) (y := (1 : Int32))
  refine zrn_ok HW 5 (zB_iff.mpr (?_ : G (261, [(3, .inl (.int i)), (2, .inl (.ref 49)), (1, .inl (.ref 0)), (0, .inl (.ref 10000000))], [.inl (.int (i + (1 : Int32))), .inl (.ref 10000000), .inl (.ref 0)], h, nc, ns)))
  obtain ⟨y1, s1⟩ := hscr ((i + (1 : Int32))).toInt.toNat (by omega)
  refine g_scr HW rfl (by omega) s1 ?_
  have z2 : -2147483648 ≤ i.toInt + (2 : Int) → i.toInt + (2 : Int) ≤ 2147483647 → (i + (2 : Int32)).toInt = i.toInt + (2 : Int) := t_addC (x := i) (y := (2 : Int32))
  refine zrn_ok HW 4 (zB_iff.mpr (?_ : G (266, [(3, .inl (.int i)), (2, .inl (.ref 49)), (1, .inl (.ref 0)), (0, .inl (.ref 10000000))], [.inl (.int (i + (2 : Int32))), .inl (.ref 10000000), .inl (.int y1), .inl (.ref 0)], h, nc, ns)))
  obtain ⟨y2, s2⟩ := hscr ((i + (2 : Int32))).toInt.toNat (by omega)
  refine g_scr HW rfl (by omega) s2 ?_
  have z3 : -2147483648 ≤ i.toInt + (3 : Int) → i.toInt + (3 : Int) ≤ 2147483647 → (i + (3 : Int32)).toInt = i.toInt + (3 : Int) := t_addC (x := i) (y := (3 : Int32))
  refine zrn_ok HW 4 (zB_iff.mpr (?_ : G (271, [(3, .inl (.int i)), (2, .inl (.ref 49)), (1, .inl (.ref 0)), (0, .inl (.ref 10000000))], [.inl (.int (i + (3 : Int32))), .inl (.ref 10000000), .inl (.int y2), .inl (.int y1), .inl (.ref 0)], h, nc, ns)))
  obtain ⟨y3, s3⟩ := hscr ((i + (3 : Int32))).toInt.toNat (by omega)
  refine g_scr HW rfl (by omega) s3 ?_
  refine g_callV (E' := ze_X4_row) HW rfl rfl (Nat.le_of_ble_eq_true rfl) (by show nc + 0 ≤ room_1.cells; omega) (by show ns + 0 ≤ room_1.slots; omega) rel.1.1 rfl hq_0 rfl (Nat.le_of_ble_eq_true rfl) (lp_row hsc0 IHP hD rel hl _ (fun a T7 h7 m7 ok7 f7 K7 => zB_iff.mpr ?_))
  show G (275, [(3, .inl (.int i)), (2, .inl (.ref 49)), (1, .inl (.ref 0)), (0, .inl (.ref 10000000))], [.inl (.int a)], h7, nc, ns)
  have hq_49 : T7[49]? = some 5 := ok7.2.1.1.2.2.1
  refine zrn_ok HW 5 (zB_iff.mpr (?_ : G (280, [(3, .inl (.int i)), (2, .inl (.ref 49)), (1, .inl (.ref 0)), (0, .inl (.ref 10000000))], [.inl (.int (i + (1 : Int32))), .inl (.ref 10000000), .inl (.ref 49), .inl (.int a)], h7, nc, ns)))
  refine g_scr HW rfl (by omega) s1 ?_
  refine zrn_ok HW 4 (zB_iff.mpr (?_ : G (285, [(3, .inl (.int i)), (2, .inl (.ref 49)), (1, .inl (.ref 0)), (0, .inl (.ref 10000000))], [.inl (.int (i + (2 : Int32))), .inl (.ref 10000000), .inl (.int y1), .inl (.ref 49), .inl (.int a)], h7, nc, ns)))
  refine g_scr HW rfl (by omega) s2 ?_
  refine zrn_ok HW 4 (zB_iff.mpr (?_ : G (290, [(3, .inl (.int i)), (2, .inl (.ref 49)), (1, .inl (.ref 0)), (0, .inl (.ref 10000000))], [.inl (.int (i + (3 : Int32))), .inl (.ref 10000000), .inl (.int y2), .inl (.int y1), .inl (.ref 49), .inl (.int a)], h7, nc, ns)))
  refine g_scr HW rfl (by omega) s3 ?_
  refine g_callV (E' := ze_X5_row) HW rfl rfl (Nat.le_of_ble_eq_true rfl) (by show nc + 0 ≤ room_1.cells; omega) (by show ns + 0 ≤ room_1.slots; omega) ok7.1 rfl hq_49 rfl (Nat.le_of_ble_eq_true rfl) (K7 _ (fun T9 h9 m9 rel9 l9 => zB_iff.mpr ?_))
  show G (294, [(3, .inl (.int i)), (2, .inl (.ref 49)), (1, .inl (.ref 0)), (0, .inl (.ref 10000000))], [.inl (.int a), .inl (.int a)], h9, nc + 0, ns + 0)
  refine zrn_ok HW 1 (zbr_ex (cd := .eq) (x := a) (y := a) (fun _ => zB_iff.mpr ?_) (fun hc => (hc (zop_int.mpr (show a.toInt = a.toInt from rfl))).elim))
  exact nxt T9 h9 _ _ 0 0 rel9 l9 (Or.inl ⟨by decide, by decide, rfl⟩)

theorem lw_case1 {scr : List zV} {post : Option zV → zH → Bool} {G : zS → Prop} {D : Nat} {T : List Nat} {h : zH} {nc ns : Nat} {i : Int32} {t : Int} {v : Bool} (HW : zWalk zprog ze_L_law scr room_1.cells room_1.slots (zD zprog scr D) post G) (HWN : zWalk zprog ze_L_lawN scr room_1.cells room_1.slots (zD zprog scr D) post G) (hsc0 : cT scr) (hD : 300 ≤ D) (IHP : ∀ P : pP, tBel (zPhi P) scr 300) (hscr : ∀ j : Nat, (j : Int) < i.toInt + 6 → ∃ x : Int32, scr[j]? = some (.inl (.int x))) (hi0 : 0 ≤ i.toInt ∧ i.toInt ≤ 100000) (rel : REL T h t v) (hl : h.length ≤ 900000) (hc : nc + 4000 ≤ room_1.cells) (hs : ns + 980000 ≤ room_1.slots)
    (nxt : ∀ (T' : List Nat) (h' : zH) (t' : Int) (v' : Bool) (dc ds : Nat), REL T' h' t' v' → h'.length ≤ h.length + dc → ((dc ≤ 30 ∧ ds ≤ 3328 ∧ v' = v) ∨ (v = false ∧ v' = true ∧ dc ≤ 3843 ∧ ds ≤ 971974)) → G (1663, [(3, .inl (.int i)), (2, .inl (.ref 49)), (1, .inl (.ref 0)), (0, .inl (.ref 10000000))], [], h', nc + dc, ns + ds)) : G (299, [(3, .inl (.int i)), (2, .inl (.ref 49)), (1, .inl (.ref 0)), (0, .inl (.ref 10000000))], [], h, nc, ns) := by
  have hq_0 : T[0]? = some 4 := rel.1.2.1.1.1
  have hq_49 : T[49]? = some 5 := rel.1.2.1.1.2.2.1
  have z1 : -2147483648 ≤ i.toInt + (1 : Int) → i.toInt + (1 : Int) ≤ 2147483647 → (i + (1 : Int32)).toInt = i.toInt + (1 : Int) := t_addC (x := i) (y := (1 : Int32))
  refine zrn_ok HW 5 (zB_iff.mpr (?_ : G (304, [(3, .inl (.int i)), (2, .inl (.ref 49)), (1, .inl (.ref 0)), (0, .inl (.ref 10000000))], [.inl (.int (i + (1 : Int32))), .inl (.ref 10000000), .inl (.ref 0)], h, nc, ns)))
  obtain ⟨y1, s1⟩ := hscr ((i + (1 : Int32))).toInt.toNat (by omega)
  refine g_scr HW rfl (by omega) s1 ?_
  have z2 : -2147483648 ≤ i.toInt + (2 : Int) → i.toInt + (2 : Int) ≤ 2147483647 → (i + (2 : Int32)).toInt = i.toInt + (2 : Int) := t_addC (x := i) (y := (2 : Int32))
  refine zrn_ok HW 4 (zB_iff.mpr (?_ : G (309, [(3, .inl (.int i)), (2, .inl (.ref 49)), (1, .inl (.ref 0)), (0, .inl (.ref 10000000))], [.inl (.int (i + (2 : Int32))), .inl (.ref 10000000), .inl (.int y1), .inl (.ref 0)], h, nc, ns)))
  obtain ⟨y2, s2⟩ := hscr ((i + (2 : Int32))).toInt.toNat (by omega)
  refine g_scr HW rfl (by omega) s2 ?_
  have z3 : -2147483648 ≤ i.toInt + (3 : Int) → i.toInt + (3 : Int) ≤ 2147483647 → (i + (3 : Int32)).toInt = i.toInt + (3 : Int) := t_addC (x := i) (y := (3 : Int32))
  refine zrn_ok HW 4 (zB_iff.mpr (?_ : G (314, [(3, .inl (.int i)), (2, .inl (.ref 49)), (1, .inl (.ref 0)), (0, .inl (.ref 10000000))], [.inl (.int (i + (3 : Int32))), .inl (.ref 10000000), .inl (.int y2), .inl (.int y1), .inl (.ref 0)], h, nc, ns)))
  obtain ⟨y3, s3⟩ := hscr ((i + (3 : Int32))).toInt.toNat (by omega)
  refine g_scr HW rfl (by omega) s3 ?_
  have z4 : -2147483648 ≤ i.toInt + (4 : Int) → i.toInt + (4 : Int) ≤ 2147483647 → (i + (4 : Int32)).toInt = i.toInt + (4 : Int) := t_addC (x := i) (y := (4 : Int32))
  refine zrn_ok HW 7 (zB_iff.mpr (?_ : G (323, [(3, .inl (.int i)), (2, .inl (.ref 49)), (1, .inl (.ref 0)), (0, .inl (.ref 10000000))], [.inl (.int (i + (4 : Int32))), .inl (.ref 10000000), .inl (.long ((Int32.toInt64 y3) <<< (Int32.toInt64 (32 : Int32) &&& 63))), .inl (.int y2), .inl (.int y1), .inl (.ref 0)], h, nc, ns)))
  obtain ⟨y4, s4⟩ := hscr ((i + (4 : Int32))).toInt.toNat (by omega)
  refine g_scr HW rfl (by omega) s4 ?_
  refine zrn_ok HW 4 (zB_iff.mpr (?_ : G (330, [(3, .inl (.int i)), (2, .inl (.ref 49)), (1, .inl (.ref 0)), (0, .inl (.ref 10000000))], [.inl (.long (((Int32.toInt64 y3) <<< (Int32.toInt64 (32 : Int32) &&& 63)) ||| ((Int32.toInt64 y4) &&& (4294967295 : Int64)))), .inl (.int y2), .inl (.int y1), .inl (.ref 0)], h, nc, ns)))
  refine g_callV (E' := ze_X4_set) HW rfl rfl (Nat.le_of_ble_eq_true rfl) (by show nc + 0 ≤ room_1.cells; omega) (by show ns + 0 ≤ room_1.slots; omega) rel.1.1 rfl hq_0 rfl (Nat.le_of_ble_eq_true rfl) (lp_set hsc0 IHP hD rel hl _ (fun a T7 h7 m7 ok7 f7 K7 => zB_iff.mpr ?_))
  show G (333, [(3, .inl (.int i)), (2, .inl (.ref 49)), (1, .inl (.ref 0)), (0, .inl (.ref 10000000))], [.inl (.int a)], h7, nc, ns)
  have hq_49 : T7[49]? = some 5 := ok7.2.1.1.2.2.1
  refine zrn_ok HW 5 (zB_iff.mpr (?_ : G (338, [(3, .inl (.int i)), (2, .inl (.ref 49)), (1, .inl (.ref 0)), (0, .inl (.ref 10000000))], [.inl (.int (i + (1 : Int32))), .inl (.ref 10000000), .inl (.ref 49), .inl (.int a)], h7, nc, ns)))
  refine g_scr HW rfl (by omega) s1 ?_
  refine zrn_ok HW 4 (zB_iff.mpr (?_ : G (343, [(3, .inl (.int i)), (2, .inl (.ref 49)), (1, .inl (.ref 0)), (0, .inl (.ref 10000000))], [.inl (.int (i + (2 : Int32))), .inl (.ref 10000000), .inl (.int y1), .inl (.ref 49), .inl (.int a)], h7, nc, ns)))
  refine g_scr HW rfl (by omega) s2 ?_
  refine zrn_ok HW 4 (zB_iff.mpr (?_ : G (348, [(3, .inl (.int i)), (2, .inl (.ref 49)), (1, .inl (.ref 0)), (0, .inl (.ref 10000000))], [.inl (.int (i + (3 : Int32))), .inl (.ref 10000000), .inl (.int y2), .inl (.int y1), .inl (.ref 49), .inl (.int a)], h7, nc, ns)))
  refine g_scr HW rfl (by omega) s3 ?_
  refine zrn_ok HW 7 (zB_iff.mpr (?_ : G (357, [(3, .inl (.int i)), (2, .inl (.ref 49)), (1, .inl (.ref 0)), (0, .inl (.ref 10000000))], [.inl (.int (i + (4 : Int32))), .inl (.ref 10000000), .inl (.long ((Int32.toInt64 y3) <<< (Int32.toInt64 (32 : Int32) &&& 63))), .inl (.int y2), .inl (.int y1), .inl (.ref 49), .inl (.int a)], h7, nc, ns)))
  refine g_scr HW rfl (by omega) s4 ?_
  refine zrn_ok HW 4 (zB_iff.mpr (?_ : G (364, [(3, .inl (.int i)), (2, .inl (.ref 49)), (1, .inl (.ref 0)), (0, .inl (.ref 10000000))], [.inl (.long (((Int32.toInt64 y3) <<< (Int32.toInt64 (32 : Int32) &&& 63)) ||| ((Int32.toInt64 y4) &&& (4294967295 : Int64)))), .inl (.int y2), .inl (.int y1), .inl (.ref 49), .inl (.int a)], h7, nc, ns)))
  refine g_callV (E' := ze_X5_set) HW rfl rfl (Nat.le_of_ble_eq_true rfl) (by show nc + 0 ≤ room_1.cells; omega) (by show ns + 0 ≤ room_1.slots; omega) ok7.1 rfl hq_49 rfl (Nat.le_of_ble_eq_true rfl) (K7 _ (fun T9 h9 m9 rel9 l9 => zB_iff.mpr ?_))
  show G (367, [(3, .inl (.int i)), (2, .inl (.ref 49)), (1, .inl (.ref 0)), (0, .inl (.ref 10000000))], [.inl (.int a), .inl (.int a)], h9, nc + 0, ns + 0)
  refine zrn_ok HW 1 (zbr_ex (cd := .eq) (x := a) (y := a) (fun _ => zB_iff.mpr ?_) (fun hc => (hc (zop_int.mpr (show a.toInt = a.toInt from rfl))).elim))
  exact nxt T9 h9 _ _ 0 0 rel9 l9 (Or.inl ⟨by decide, by decide, rfl⟩)

theorem lw_case2 {scr : List zV} {post : Option zV → zH → Bool} {G : zS → Prop} {D : Nat} {T : List Nat} {h : zH} {nc ns : Nat} {i : Int32} {t : Int} {v : Bool} (HW : zWalk zprog ze_L_law scr room_1.cells room_1.slots (zD zprog scr D) post G) (HWN : zWalk zprog ze_L_lawN scr room_1.cells room_1.slots (zD zprog scr D) post G) (hsc0 : cT scr) (hD : 300 ≤ D) (IHP : ∀ P : pP, tBel (zPhi P) scr 300) (hscr : ∀ j : Nat, (j : Int) < i.toInt + 6 → ∃ x : Int32, scr[j]? = some (.inl (.int x))) (hi0 : 0 ≤ i.toInt ∧ i.toInt ≤ 100000) (rel : REL T h t v) (hl : h.length ≤ 900000) (hc : nc + 4000 ≤ room_1.cells) (hs : ns + 980000 ≤ room_1.slots)
    (nxt : ∀ (T' : List Nat) (h' : zH) (t' : Int) (v' : Bool) (dc ds : Nat), REL T' h' t' v' → h'.length ≤ h.length + dc → ((dc ≤ 30 ∧ ds ≤ 3328 ∧ v' = v) ∨ (v = false ∧ v' = true ∧ dc ≤ 3843 ∧ ds ≤ 971974)) → G (1663, [(3, .inl (.int i)), (2, .inl (.ref 49)), (1, .inl (.ref 0)), (0, .inl (.ref 10000000))], [], h', nc + dc, ns + ds)) : G (372, [(3, .inl (.int i)), (2, .inl (.ref 49)), (1, .inl (.ref 0)), (0, .inl (.ref 10000000))], [], h, nc, ns) := by
  have hq_0 : T[0]? = some 4 := rel.1.2.1.1.1
  have hq_49 : T[49]? = some 5 := rel.1.2.1.1.2.2.1
  have z1 : -2147483648 ≤ i.toInt + (1 : Int) → i.toInt + (1 : Int) ≤ 2147483647 → (i + (1 : Int32)).toInt = i.toInt + (1 : Int) := t_addC (x := i) (y := (1 : Int32))
  refine zrn_ok HW 5 (zB_iff.mpr (?_ : G (377, [(3, .inl (.int i)), (2, .inl (.ref 49)), (1, .inl (.ref 0)), (0, .inl (.ref 10000000))], [.inl (.int (i + (1 : Int32))), .inl (.ref 10000000), .inl (.ref 0)], h, nc, ns)))
  obtain ⟨y1, s1⟩ := hscr ((i + (1 : Int32))).toInt.toNat (by omega)
  refine g_scr HW rfl (by omega) s1 ?_
  have z2 : -2147483648 ≤ i.toInt + (2 : Int) → i.toInt + (2 : Int) ≤ 2147483647 → (i + (2 : Int32)).toInt = i.toInt + (2 : Int) := t_addC (x := i) (y := (2 : Int32))
  refine zrn_ok HW 4 (zB_iff.mpr (?_ : G (382, [(3, .inl (.int i)), (2, .inl (.ref 49)), (1, .inl (.ref 0)), (0, .inl (.ref 10000000))], [.inl (.int (i + (2 : Int32))), .inl (.ref 10000000), .inl (.int y1), .inl (.ref 0)], h, nc, ns)))
  obtain ⟨y2, s2⟩ := hscr ((i + (2 : Int32))).toInt.toNat (by omega)
  refine g_scr HW rfl (by omega) s2 ?_
  have z3 : -2147483648 ≤ i.toInt + (3 : Int) → i.toInt + (3 : Int) ≤ 2147483647 → (i + (3 : Int32)).toInt = i.toInt + (3 : Int) := t_addC (x := i) (y := (3 : Int32))
  refine zrn_ok HW 4 (zB_iff.mpr (?_ : G (387, [(3, .inl (.int i)), (2, .inl (.ref 49)), (1, .inl (.ref 0)), (0, .inl (.ref 10000000))], [.inl (.int (i + (3 : Int32))), .inl (.ref 10000000), .inl (.int y2), .inl (.int y1), .inl (.ref 0)], h, nc, ns)))
  obtain ⟨y3, s3⟩ := hscr ((i + (3 : Int32))).toInt.toNat (by omega)
  refine g_scr HW rfl (by omega) s3 ?_
  have z4 : -2147483648 ≤ i.toInt + (4 : Int) → i.toInt + (4 : Int) ≤ 2147483647 → (i + (4 : Int32)).toInt = i.toInt + (4 : Int) := t_addC (x := i) (y := (4 : Int32))
  refine zrn_ok HW 4 (zB_iff.mpr (?_ : G (392, [(3, .inl (.int i)), (2, .inl (.ref 49)), (1, .inl (.ref 0)), (0, .inl (.ref 10000000))], [.inl (.int (i + (4 : Int32))), .inl (.ref 10000000), .inl (.int y3), .inl (.int y2), .inl (.int y1), .inl (.ref 0)], h, nc, ns)))
  obtain ⟨y4, s4⟩ := hscr ((i + (4 : Int32))).toInt.toNat (by omega)
  refine g_scr HW rfl (by omega) s4 ?_
  have z5 : -2147483648 ≤ i.toInt + (5 : Int) → i.toInt + (5 : Int) ≤ 2147483647 → (i + (5 : Int32)).toInt = i.toInt + (5 : Int) := t_addC (x := i) (y := (5 : Int32))
  refine zrn_ok HW 4 (zB_iff.mpr (?_ : G (397, [(3, .inl (.int i)), (2, .inl (.ref 49)), (1, .inl (.ref 0)), (0, .inl (.ref 10000000))], [.inl (.int (i + (5 : Int32))), .inl (.ref 10000000), .inl (.int y4), .inl (.int y3), .inl (.int y2), .inl (.int y1), .inl (.ref 0)], h, nc, ns)))
  obtain ⟨y5, s5⟩ := hscr ((i + (5 : Int32))).toInt.toNat (by omega)
  refine g_scr HW rfl (by omega) s5 ?_
  refine g_callV (E' := ze_X4_copy) HW rfl rfl (Nat.le_of_ble_eq_true rfl) (by show nc + 0 ≤ room_1.cells; omega) (by show ns + 0 ≤ room_1.slots; omega) rel.1.1 rfl hq_0 rfl (Nat.le_of_ble_eq_true rfl) (lp_copy hsc0 IHP hD rel hl _ (fun a T7 h7 m7 ok7 f7 K7 => zB_iff.mpr ?_))
  show G (401, [(3, .inl (.int i)), (2, .inl (.ref 49)), (1, .inl (.ref 0)), (0, .inl (.ref 10000000))], [.inl (.int a)], h7, nc, ns)
  have hq_49 : T7[49]? = some 5 := ok7.2.1.1.2.2.1
  refine zrn_ok HW 5 (zB_iff.mpr (?_ : G (406, [(3, .inl (.int i)), (2, .inl (.ref 49)), (1, .inl (.ref 0)), (0, .inl (.ref 10000000))], [.inl (.int (i + (1 : Int32))), .inl (.ref 10000000), .inl (.ref 49), .inl (.int a)], h7, nc, ns)))
  refine g_scr HW rfl (by omega) s1 ?_
  refine zrn_ok HW 4 (zB_iff.mpr (?_ : G (411, [(3, .inl (.int i)), (2, .inl (.ref 49)), (1, .inl (.ref 0)), (0, .inl (.ref 10000000))], [.inl (.int (i + (2 : Int32))), .inl (.ref 10000000), .inl (.int y1), .inl (.ref 49), .inl (.int a)], h7, nc, ns)))
  refine g_scr HW rfl (by omega) s2 ?_
  refine zrn_ok HW 4 (zB_iff.mpr (?_ : G (416, [(3, .inl (.int i)), (2, .inl (.ref 49)), (1, .inl (.ref 0)), (0, .inl (.ref 10000000))], [.inl (.int (i + (3 : Int32))), .inl (.ref 10000000), .inl (.int y2), .inl (.int y1), .inl (.ref 49), .inl (.int a)], h7, nc, ns)))
  refine g_scr HW rfl (by omega) s3 ?_
  refine zrn_ok HW 4 (zB_iff.mpr (?_ : G (421, [(3, .inl (.int i)), (2, .inl (.ref 49)), (1, .inl (.ref 0)), (0, .inl (.ref 10000000))], [.inl (.int (i + (4 : Int32))), .inl (.ref 10000000), .inl (.int y3), .inl (.int y2), .inl (.int y1), .inl (.ref 49), .inl (.int a)], h7, nc, ns)))
  refine g_scr HW rfl (by omega) s4 ?_
  refine zrn_ok HW 4 (zB_iff.mpr (?_ : G (426, [(3, .inl (.int i)), (2, .inl (.ref 49)), (1, .inl (.ref 0)), (0, .inl (.ref 10000000))], [.inl (.int (i + (5 : Int32))), .inl (.ref 10000000), .inl (.int y4), .inl (.int y3), .inl (.int y2), .inl (.int y1), .inl (.ref 49), .inl (.int a)], h7, nc, ns)))
  refine g_scr HW rfl (by omega) s5 ?_
  refine g_callV (E' := ze_X5_copy) HW rfl rfl (Nat.le_of_ble_eq_true rfl) (by show nc + 0 ≤ room_1.cells; omega) (by show ns + 0 ≤ room_1.slots; omega) ok7.1 rfl hq_49 rfl (Nat.le_of_ble_eq_true rfl) (K7 _ (fun T9 h9 m9 rel9 l9 => zB_iff.mpr ?_))
  show G (430, [(3, .inl (.int i)), (2, .inl (.ref 49)), (1, .inl (.ref 0)), (0, .inl (.ref 10000000))], [.inl (.int a), .inl (.int a)], h9, nc + 0, ns + 0)
  refine zrn_ok HW 1 (zbr_ex (cd := .eq) (x := a) (y := a) (fun _ => zB_iff.mpr ?_) (fun hc => (hc (zop_int.mpr (show a.toInt = a.toInt from rfl))).elim))
  exact nxt T9 h9 _ _ 0 0 rel9 l9 (Or.inl ⟨by decide, by decide, rfl⟩)

theorem lw_case3 {scr : List zV} {post : Option zV → zH → Bool} {G : zS → Prop} {D : Nat} {T : List Nat} {h : zH} {nc ns : Nat} {i : Int32} {t : Int} {v : Bool} (HW : zWalk zprog ze_L_law scr room_1.cells room_1.slots (zD zprog scr D) post G) (HWN : zWalk zprog ze_L_lawN scr room_1.cells room_1.slots (zD zprog scr D) post G) (hsc0 : cT scr) (hD : 300 ≤ D) (IHP : ∀ P : pP, tBel (zPhi P) scr 300) (hscr : ∀ j : Nat, (j : Int) < i.toInt + 6 → ∃ x : Int32, scr[j]? = some (.inl (.int x))) (hi0 : 0 ≤ i.toInt ∧ i.toInt ≤ 100000) (rel : REL T h t v) (hl : h.length ≤ 900000) (hc : nc + 4000 ≤ room_1.cells) (hs : ns + 980000 ≤ room_1.slots)
    (nxt : ∀ (T' : List Nat) (h' : zH) (t' : Int) (v' : Bool) (dc ds : Nat), REL T' h' t' v' → h'.length ≤ h.length + dc → ((dc ≤ 30 ∧ ds ≤ 3328 ∧ v' = v) ∨ (v = false ∧ v' = true ∧ dc ≤ 3843 ∧ ds ≤ 971974)) → G (1663, [(3, .inl (.int i)), (2, .inl (.ref 49)), (1, .inl (.ref 0)), (0, .inl (.ref 10000000))], [], h', nc + dc, ns + ds)) : G (435, [(3, .inl (.int i)), (2, .inl (.ref 49)), (1, .inl (.ref 0)), (0, .inl (.ref 10000000))], [], h, nc, ns) := by
  have hq_0 : T[0]? = some 4 := rel.1.2.1.1.1
  have hq_49 : T[49]? = some 5 := rel.1.2.1.1.2.2.1
  have z1 : -2147483648 ≤ i.toInt + (1 : Int) → i.toInt + (1 : Int) ≤ 2147483647 → (i + (1 : Int32)).toInt = i.toInt + (1 : Int) := t_addC (x := i) (y := (1 : Int32))
  refine zrn_ok HW 5 (zB_iff.mpr (?_ : G (440, [(3, .inl (.int i)), (2, .inl (.ref 49)), (1, .inl (.ref 0)), (0, .inl (.ref 10000000))], [.inl (.int (i + (1 : Int32))), .inl (.ref 10000000), .inl (.ref 0)], h, nc, ns)))
  obtain ⟨y1, s1⟩ := hscr ((i + (1 : Int32))).toInt.toNat (by omega)
  refine g_scr HW rfl (by omega) s1 ?_
  have z2 : -2147483648 ≤ i.toInt + (2 : Int) → i.toInt + (2 : Int) ≤ 2147483647 → (i + (2 : Int32)).toInt = i.toInt + (2 : Int) := t_addC (x := i) (y := (2 : Int32))
  refine zrn_ok HW 4 (zB_iff.mpr (?_ : G (445, [(3, .inl (.int i)), (2, .inl (.ref 49)), (1, .inl (.ref 0)), (0, .inl (.ref 10000000))], [.inl (.int (i + (2 : Int32))), .inl (.ref 10000000), .inl (.int y1), .inl (.ref 0)], h, nc, ns)))
  obtain ⟨y2, s2⟩ := hscr ((i + (2 : Int32))).toInt.toNat (by omega)
  refine g_scr HW rfl (by omega) s2 ?_
  obtain ⟨a, Z4, Z5⟩ := lp_element (x1 := y1) (x2 := y2) hsc0 IHP hD rel hl
  refine g_callV (E' := ze_X4_element) HW rfl rfl (Nat.le_of_ble_eq_true rfl) (by show nc + 0 ≤ room_1.cells; omega) (by show ns + 0 ≤ room_1.slots; omega) rel.1.1 rfl hq_0 rfl (Nat.le_of_ble_eq_true rfl) ((Z4 _).trans (zB_iff.mpr ?_))
  show G (449, [(3, .inl (.int i)), (2, .inl (.ref 49)), (1, .inl (.ref 0)), (0, .inl (.ref 10000000))], [.inl (.long a)], h, nc, ns)
  refine zrn_ok HW 5 (zB_iff.mpr (?_ : G (454, [(3, .inl (.int i)), (2, .inl (.ref 49)), (1, .inl (.ref 0)), (0, .inl (.ref 10000000))], [.inl (.int (i + (1 : Int32))), .inl (.ref 10000000), .inl (.ref 49), .inl (.long a)], h, nc, ns)))
  refine g_scr HW rfl (by omega) s1 ?_
  refine zrn_ok HW 4 (zB_iff.mpr (?_ : G (459, [(3, .inl (.int i)), (2, .inl (.ref 49)), (1, .inl (.ref 0)), (0, .inl (.ref 10000000))], [.inl (.int (i + (2 : Int32))), .inl (.ref 10000000), .inl (.int y1), .inl (.ref 49), .inl (.long a)], h, nc, ns)))
  refine g_scr HW rfl (by omega) s2 ?_
  refine g_callV (E' := ze_X5_element) HW rfl rfl (Nat.le_of_ble_eq_true rfl) (by show nc + 0 ≤ room_1.cells; omega) (by show ns + 0 ≤ room_1.slots; omega) rel.1.1 rfl hq_49 rfl (Nat.le_of_ble_eq_true rfl) ((Z5 _).trans (zB_iff.mpr ?_))
  show G (463, [(3, .inl (.int i)), (2, .inl (.ref 49)), (1, .inl (.ref 0)), (0, .inl (.ref 10000000))], [.inl (.long a), .inl (.long a)], h, nc, ns)
  refine zrn_ok HW 2 (t_and2 (zisI_lcmp a a) (lw_lc (x := a) (zB_iff.mpr ?_)))
  exact nxt T h _ _ 0 0 rel (Nat.le_refl _) (Or.inl ⟨by decide, by decide, rfl⟩)

theorem lw_case4 {scr : List zV} {post : Option zV → zH → Bool} {G : zS → Prop} {D : Nat} {T : List Nat} {h : zH} {nc ns : Nat} {i : Int32} {t : Int} {v : Bool} (HW : zWalk zprog ze_L_law scr room_1.cells room_1.slots (zD zprog scr D) post G) (HWN : zWalk zprog ze_L_lawN scr room_1.cells room_1.slots (zD zprog scr D) post G) (hsc0 : cT scr) (hD : 300 ≤ D) (IHP : ∀ P : pP, tBel (zPhi P) scr 300) (hscr : ∀ j : Nat, (j : Int) < i.toInt + 6 → ∃ x : Int32, scr[j]? = some (.inl (.int x))) (hi0 : 0 ≤ i.toInt ∧ i.toInt ≤ 100000) (rel : REL T h t v) (hl : h.length ≤ 900000) (hc : nc + 4000 ≤ room_1.cells) (hs : ns + 980000 ≤ room_1.slots)
    (nxt : ∀ (T' : List Nat) (h' : zH) (t' : Int) (v' : Bool) (dc ds : Nat), REL T' h' t' v' → h'.length ≤ h.length + dc → ((dc ≤ 30 ∧ ds ≤ 3328 ∧ v' = v) ∨ (v = false ∧ v' = true ∧ dc ≤ 3843 ∧ ds ≤ 971974)) → G (1663, [(3, .inl (.int i)), (2, .inl (.ref 49)), (1, .inl (.ref 0)), (0, .inl (.ref 10000000))], [], h', nc + dc, ns + ds)) : G (469, [(3, .inl (.int i)), (2, .inl (.ref 49)), (1, .inl (.ref 0)), (0, .inl (.ref 10000000))], [], h, nc, ns) := by
  have hq_0 : T[0]? = some 4 := rel.1.2.1.1.1
  have hq_49 : T[49]? = some 5 := rel.1.2.1.1.2.2.1
  have z1 : -2147483648 ≤ i.toInt + (1 : Int) → i.toInt + (1 : Int) ≤ 2147483647 → (i + (1 : Int32)).toInt = i.toInt + (1 : Int) := t_addC (x := i) (y := (1 : Int32))
  refine zrn_ok HW 5 (zB_iff.mpr (?_ : G (474, [(3, .inl (.int i)), (2, .inl (.ref 49)), (1, .inl (.ref 0)), (0, .inl (.ref 10000000))], [.inl (.int (i + (1 : Int32))), .inl (.ref 10000000), .inl (.ref 0)], h, nc, ns)))
  obtain ⟨y1, s1⟩ := hscr ((i + (1 : Int32))).toInt.toNat (by omega)
  refine g_scr HW rfl (by omega) s1 ?_
  refine g_callV (E' := ze_X4_holds) HW rfl rfl (Nat.le_of_ble_eq_true rfl) (by show nc + 0 ≤ room_1.cells; omega) (by show ns + 0 ≤ room_1.slots; omega) rel.1.1 rfl hq_0 rfl (Nat.le_of_ble_eq_true rfl) (lp_holds hsc0 IHP hD rel hl _ (fun a T7 h7 m7 ok7 f7 K7 => zB_iff.mpr ?_))
  show G (478, [(3, .inl (.int i)), (2, .inl (.ref 49)), (1, .inl (.ref 0)), (0, .inl (.ref 10000000))], [.inl (.int a)], h7, nc, ns)
  have hq_49 : T7[49]? = some 5 := ok7.2.1.1.2.2.1
  refine zrn_ok HW 5 (zB_iff.mpr (?_ : G (483, [(3, .inl (.int i)), (2, .inl (.ref 49)), (1, .inl (.ref 0)), (0, .inl (.ref 10000000))], [.inl (.int (i + (1 : Int32))), .inl (.ref 10000000), .inl (.ref 49), .inl (.int a)], h7, nc, ns)))
  refine g_scr HW rfl (by omega) s1 ?_
  refine g_callV (E' := ze_X5_holds) HW rfl rfl (Nat.le_of_ble_eq_true rfl) (by show nc + 0 ≤ room_1.cells; omega) (by show ns + 0 ≤ room_1.slots; omega) ok7.1 rfl hq_49 rfl (Nat.le_of_ble_eq_true rfl) (K7 _ (fun T9 h9 m9 rel9 l9 => zB_iff.mpr ?_))
  show G (487, [(3, .inl (.int i)), (2, .inl (.ref 49)), (1, .inl (.ref 0)), (0, .inl (.ref 10000000))], [.inl (.int a), .inl (.int a)], h9, nc + 0, ns + 0)
  refine zrn_ok HW 1 (zbr_ex (cd := .eq) (x := a) (y := a) (fun _ => zB_iff.mpr ?_) (fun hc => (hc (zop_int.mpr (show a.toInt = a.toInt from rfl))).elim))
  exact nxt T9 h9 _ _ 0 0 rel9 l9 (Or.inl ⟨by decide, by decide, rfl⟩)

theorem lw_case5 {scr : List zV} {post : Option zV → zH → Bool} {G : zS → Prop} {D : Nat} {T : List Nat} {h : zH} {nc ns : Nat} {i : Int32} {t : Int} {v : Bool} (HW : zWalk zprog ze_L_law scr room_1.cells room_1.slots (zD zprog scr D) post G) (HWN : zWalk zprog ze_L_lawN scr room_1.cells room_1.slots (zD zprog scr D) post G) (hsc0 : cT scr) (hD : 300 ≤ D) (IHP : ∀ P : pP, tBel (zPhi P) scr 300) (hscr : ∀ j : Nat, (j : Int) < i.toInt + 6 → ∃ x : Int32, scr[j]? = some (.inl (.int x))) (hi0 : 0 ≤ i.toInt ∧ i.toInt ≤ 100000) (rel : REL T h t v) (hl : h.length ≤ 900000) (hc : nc + 4000 ≤ room_1.cells) (hs : ns + 980000 ≤ room_1.slots)
    (nxt : ∀ (T' : List Nat) (h' : zH) (t' : Int) (v' : Bool) (dc ds : Nat), REL T' h' t' v' → h'.length ≤ h.length + dc → ((dc ≤ 30 ∧ ds ≤ 3328 ∧ v' = v) ∨ (v = false ∧ v' = true ∧ dc ≤ 3843 ∧ ds ≤ 971974)) → G (1663, [(3, .inl (.int i)), (2, .inl (.ref 49)), (1, .inl (.ref 0)), (0, .inl (.ref 10000000))], [], h', nc + dc, ns + ds)) : G (492, [(3, .inl (.int i)), (2, .inl (.ref 49)), (1, .inl (.ref 0)), (0, .inl (.ref 10000000))], [], h, nc, ns) := by
  have hq_0 : T[0]? = some 4 := rel.1.2.1.1.1
  have hq_49 : T[49]? = some 5 := rel.1.2.1.1.2.2.1
  have z1 : -2147483648 ≤ i.toInt + (1 : Int) → i.toInt + (1 : Int) ≤ 2147483647 → (i + (1 : Int32)).toInt = i.toInt + (1 : Int) := t_addC (x := i) (y := (1 : Int32))
  refine zrn_ok HW 5 (zB_iff.mpr (?_ : G (497, [(3, .inl (.int i)), (2, .inl (.ref 49)), (1, .inl (.ref 0)), (0, .inl (.ref 10000000))], [.inl (.int (i + (1 : Int32))), .inl (.ref 10000000), .inl (.ref 0)], h, nc, ns)))
  obtain ⟨y1, s1⟩ := hscr ((i + (1 : Int32))).toInt.toNat (by omega)
  refine g_scr HW rfl (by omega) s1 ?_
  have z2 : -2147483648 ≤ i.toInt + (2 : Int) → i.toInt + (2 : Int) ≤ 2147483647 → (i + (2 : Int32)).toInt = i.toInt + (2 : Int) := t_addC (x := i) (y := (2 : Int32))
  refine zrn_ok HW 4 (zB_iff.mpr (?_ : G (502, [(3, .inl (.int i)), (2, .inl (.ref 49)), (1, .inl (.ref 0)), (0, .inl (.ref 10000000))], [.inl (.int (i + (2 : Int32))), .inl (.ref 10000000), .inl (.int y1), .inl (.ref 0)], h, nc, ns)))
  obtain ⟨y2, s2⟩ := hscr ((i + (2 : Int32))).toInt.toNat (by omega)
  refine g_scr HW rfl (by omega) s2 ?_
  refine g_callV (E' := ze_X4_show) HW rfl rfl (Nat.le_of_ble_eq_true rfl) (by show nc + 0 ≤ room_1.cells; omega) (by show ns + 0 ≤ room_1.slots; omega) rel.1.1 rfl hq_0 rfl (Nat.le_of_ble_eq_true rfl) (lp_show hsc0 IHP hD rel hl _ (fun a T7 h7 m7 ok7 f7 K7 => zB_iff.mpr ?_))
  show G (506, [(3, .inl (.int i)), (2, .inl (.ref 49)), (1, .inl (.ref 0)), (0, .inl (.ref 10000000))], [.inl (.int a)], h7, nc, ns)
  have hq_49 : T7[49]? = some 5 := ok7.2.1.1.2.2.1
  refine zrn_ok HW 5 (zB_iff.mpr (?_ : G (511, [(3, .inl (.int i)), (2, .inl (.ref 49)), (1, .inl (.ref 0)), (0, .inl (.ref 10000000))], [.inl (.int (i + (1 : Int32))), .inl (.ref 10000000), .inl (.ref 49), .inl (.int a)], h7, nc, ns)))
  refine g_scr HW rfl (by omega) s1 ?_
  refine zrn_ok HW 4 (zB_iff.mpr (?_ : G (516, [(3, .inl (.int i)), (2, .inl (.ref 49)), (1, .inl (.ref 0)), (0, .inl (.ref 10000000))], [.inl (.int (i + (2 : Int32))), .inl (.ref 10000000), .inl (.int y1), .inl (.ref 49), .inl (.int a)], h7, nc, ns)))
  refine g_scr HW rfl (by omega) s2 ?_
  refine g_callV (E' := ze_X5_show) HW rfl rfl (Nat.le_of_ble_eq_true rfl) (by show nc + 0 ≤ room_1.cells; omega) (by show ns + 0 ≤ room_1.slots; omega) ok7.1 rfl hq_49 rfl (Nat.le_of_ble_eq_true rfl) (K7 _ (fun T9 h9 m9 rel9 l9 => zB_iff.mpr ?_))
  show G (520, [(3, .inl (.int i)), (2, .inl (.ref 49)), (1, .inl (.ref 0)), (0, .inl (.ref 10000000))], [.inl (.int a), .inl (.int a)], h9, nc + 0, ns + 0)
  refine zrn_ok HW 1 (zbr_ex (cd := .eq) (x := a) (y := a) (fun _ => zB_iff.mpr ?_) (fun hc => (hc (zop_int.mpr (show a.toInt = a.toInt from rfl))).elim))
  exact nxt T9 h9 _ _ 0 0 rel9 l9 (Or.inl ⟨by decide, by decide, rfl⟩)

theorem lw_case6 {scr : List zV} {post : Option zV → zH → Bool} {G : zS → Prop} {D : Nat} {T : List Nat} {h : zH} {nc ns : Nat} {i : Int32} {t : Int} {v : Bool} (HW : zWalk zprog ze_L_law scr room_1.cells room_1.slots (zD zprog scr D) post G) (HWN : zWalk zprog ze_L_lawN scr room_1.cells room_1.slots (zD zprog scr D) post G) (hsc0 : cT scr) (hD : 300 ≤ D) (IHP : ∀ P : pP, tBel (zPhi P) scr 300) (hscr : ∀ j : Nat, (j : Int) < i.toInt + 6 → ∃ x : Int32, scr[j]? = some (.inl (.int x))) (hi0 : 0 ≤ i.toInt ∧ i.toInt ≤ 100000) (rel : REL T h t v) (hl : h.length ≤ 900000) (hc : nc + 4000 ≤ room_1.cells) (hs : ns + 980000 ≤ room_1.slots)
    (nxt : ∀ (T' : List Nat) (h' : zH) (t' : Int) (v' : Bool) (dc ds : Nat), REL T' h' t' v' → h'.length ≤ h.length + dc → ((dc ≤ 30 ∧ ds ≤ 3328 ∧ v' = v) ∨ (v = false ∧ v' = true ∧ dc ≤ 3843 ∧ ds ≤ 971974)) → G (1663, [(3, .inl (.int i)), (2, .inl (.ref 49)), (1, .inl (.ref 0)), (0, .inl (.ref 10000000))], [], h', nc + dc, ns + ds)) : G (525, [(3, .inl (.int i)), (2, .inl (.ref 49)), (1, .inl (.ref 0)), (0, .inl (.ref 10000000))], [], h, nc, ns) := by
  have hq_0 : T[0]? = some 4 := rel.1.2.1.1.1
  have hq_49 : T[49]? = some 5 := rel.1.2.1.1.2.2.1
  have z1 : -2147483648 ≤ i.toInt + (1 : Int) → i.toInt + (1 : Int) ≤ 2147483647 → (i + (1 : Int32)).toInt = i.toInt + (1 : Int) := t_addC (x := i) (y := (1 : Int32))
  refine zrn_ok HW 5 (zB_iff.mpr (?_ : G (530, [(3, .inl (.int i)), (2, .inl (.ref 49)), (1, .inl (.ref 0)), (0, .inl (.ref 10000000))], [.inl (.int (i + (1 : Int32))), .inl (.ref 10000000), .inl (.ref 0)], h, nc, ns)))
  obtain ⟨y1, s1⟩ := hscr ((i + (1 : Int32))).toInt.toNat (by omega)
  refine g_scr HW rfl (by omega) s1 ?_
  have z2 : -2147483648 ≤ i.toInt + (2 : Int) → i.toInt + (2 : Int) ≤ 2147483647 → (i + (2 : Int32)).toInt = i.toInt + (2 : Int) := t_addC (x := i) (y := (2 : Int32))
  refine zrn_ok HW 4 (zB_iff.mpr (?_ : G (535, [(3, .inl (.int i)), (2, .inl (.ref 49)), (1, .inl (.ref 0)), (0, .inl (.ref 10000000))], [.inl (.int (i + (2 : Int32))), .inl (.ref 10000000), .inl (.int y1), .inl (.ref 0)], h, nc, ns)))
  obtain ⟨y2, s2⟩ := hscr ((i + (2 : Int32))).toInt.toNat (by omega)
  refine g_scr HW rfl (by omega) s2 ?_
  refine g_callV (E' := ze_X4_says) HW rfl rfl (Nat.le_of_ble_eq_true rfl) (by show nc + 0 ≤ room_1.cells; omega) (by show ns + 0 ≤ room_1.slots; omega) rel.1.1 rfl hq_0 rfl (Nat.le_of_ble_eq_true rfl) (lp_says hsc0 IHP hD rel hl _ (fun a T7 h7 m7 ok7 f7 K7 => zB_iff.mpr ?_))
  show G (539, [(3, .inl (.int i)), (2, .inl (.ref 49)), (1, .inl (.ref 0)), (0, .inl (.ref 10000000))], [.inl (.int a)], h7, nc, ns)
  have hq_49 : T7[49]? = some 5 := ok7.2.1.1.2.2.1
  refine zrn_ok HW 5 (zB_iff.mpr (?_ : G (544, [(3, .inl (.int i)), (2, .inl (.ref 49)), (1, .inl (.ref 0)), (0, .inl (.ref 10000000))], [.inl (.int (i + (1 : Int32))), .inl (.ref 10000000), .inl (.ref 49), .inl (.int a)], h7, nc, ns)))
  refine g_scr HW rfl (by omega) s1 ?_
  refine zrn_ok HW 4 (zB_iff.mpr (?_ : G (549, [(3, .inl (.int i)), (2, .inl (.ref 49)), (1, .inl (.ref 0)), (0, .inl (.ref 10000000))], [.inl (.int (i + (2 : Int32))), .inl (.ref 10000000), .inl (.int y1), .inl (.ref 49), .inl (.int a)], h7, nc, ns)))
  refine g_scr HW rfl (by omega) s2 ?_
  refine g_callV (E' := ze_X5_says) HW rfl rfl (Nat.le_of_ble_eq_true rfl) (by show nc + 0 ≤ room_1.cells; omega) (by show ns + 0 ≤ room_1.slots; omega) ok7.1 rfl hq_49 rfl (Nat.le_of_ble_eq_true rfl) (K7 _ (fun T9 h9 m9 rel9 l9 => zB_iff.mpr ?_))
  show G (553, [(3, .inl (.int i)), (2, .inl (.ref 49)), (1, .inl (.ref 0)), (0, .inl (.ref 10000000))], [.inl (.int a), .inl (.int a)], h9, nc + 0, ns + 0)
  refine zrn_ok HW 1 (zbr_ex (cd := .eq) (x := a) (y := a) (fun _ => zB_iff.mpr ?_) (fun hc => (hc (zop_int.mpr (show a.toInt = a.toInt from rfl))).elim))
  exact nxt T9 h9 _ _ 0 0 rel9 l9 (Or.inl ⟨by decide, by decide, rfl⟩)

theorem lw_case7 {scr : List zV} {post : Option zV → zH → Bool} {G : zS → Prop} {D : Nat} {T : List Nat} {h : zH} {nc ns : Nat} {i : Int32} {t : Int} {v : Bool} (HW : zWalk zprog ze_L_law scr room_1.cells room_1.slots (zD zprog scr D) post G) (HWN : zWalk zprog ze_L_lawN scr room_1.cells room_1.slots (zD zprog scr D) post G) (hsc0 : cT scr) (hD : 300 ≤ D) (IHP : ∀ P : pP, tBel (zPhi P) scr 300) (hscr : ∀ j : Nat, (j : Int) < i.toInt + 6 → ∃ x : Int32, scr[j]? = some (.inl (.int x))) (hi0 : 0 ≤ i.toInt ∧ i.toInt ≤ 100000) (rel : REL T h t v) (hl : h.length ≤ 900000) (hc : nc + 4000 ≤ room_1.cells) (hs : ns + 980000 ≤ room_1.slots)
    (nxt : ∀ (T' : List Nat) (h' : zH) (t' : Int) (v' : Bool) (dc ds : Nat), REL T' h' t' v' → h'.length ≤ h.length + dc → ((dc ≤ 30 ∧ ds ≤ 3328 ∧ v' = v) ∨ (v = false ∧ v' = true ∧ dc ≤ 3843 ∧ ds ≤ 971974)) → G (1663, [(3, .inl (.int i)), (2, .inl (.ref 49)), (1, .inl (.ref 0)), (0, .inl (.ref 10000000))], [], h', nc + dc, ns + ds)) : G (558, [(3, .inl (.int i)), (2, .inl (.ref 49)), (1, .inl (.ref 0)), (0, .inl (.ref 10000000))], [], h, nc, ns) := by
  have hq_0 : T[0]? = some 4 := rel.1.2.1.1.1
  have hq_49 : T[49]? = some 5 := rel.1.2.1.1.2.2.1
  have z1 : -2147483648 ≤ i.toInt + (1 : Int) → i.toInt + (1 : Int) ≤ 2147483647 → (i + (1 : Int32)).toInt = i.toInt + (1 : Int) := t_addC (x := i) (y := (1 : Int32))
  refine zrn_ok HW 5 (zB_iff.mpr (?_ : G (563, [(3, .inl (.int i)), (2, .inl (.ref 49)), (1, .inl (.ref 0)), (0, .inl (.ref 10000000))], [.inl (.int (i + (1 : Int32))), .inl (.ref 10000000), .inl (.ref 0)], h, nc, ns)))
  obtain ⟨y1, s1⟩ := hscr ((i + (1 : Int32))).toInt.toNat (by omega)
  refine g_scr HW rfl (by omega) s1 ?_
  refine g_callV (E' := ze_X4_slips) HW rfl rfl (Nat.le_of_ble_eq_true rfl) (by show nc + 0 ≤ room_1.cells; omega) (by show ns + 0 ≤ room_1.slots; omega) rel.1.1 rfl hq_0 rfl (Nat.le_of_ble_eq_true rfl) (lp_slips hsc0 IHP hD rel hl _ (fun a T7 h7 m7 ok7 f7 K7 => zB_iff.mpr ?_))
  show G (567, [(3, .inl (.int i)), (2, .inl (.ref 49)), (1, .inl (.ref 0)), (0, .inl (.ref 10000000))], [.inl (.int a)], h7, nc, ns)
  have hq_49 : T7[49]? = some 5 := ok7.2.1.1.2.2.1
  refine zrn_ok HW 5 (zB_iff.mpr (?_ : G (572, [(3, .inl (.int i)), (2, .inl (.ref 49)), (1, .inl (.ref 0)), (0, .inl (.ref 10000000))], [.inl (.int (i + (1 : Int32))), .inl (.ref 10000000), .inl (.ref 49), .inl (.int a)], h7, nc, ns)))
  refine g_scr HW rfl (by omega) s1 ?_
  refine g_callV (E' := ze_X5_slips) HW rfl rfl (Nat.le_of_ble_eq_true rfl) (by show nc + 0 ≤ room_1.cells; omega) (by show ns + 0 ≤ room_1.slots; omega) ok7.1 rfl hq_49 rfl (Nat.le_of_ble_eq_true rfl) (K7 _ (fun T9 h9 m9 rel9 l9 => zB_iff.mpr ?_))
  show G (576, [(3, .inl (.int i)), (2, .inl (.ref 49)), (1, .inl (.ref 0)), (0, .inl (.ref 10000000))], [.inl (.int a), .inl (.int a)], h9, nc + 0, ns + 0)
  refine zrn_ok HW 1 (zbr_ex (cd := .eq) (x := a) (y := a) (fun _ => zB_iff.mpr ?_) (fun hc => (hc (zop_int.mpr (show a.toInt = a.toInt from rfl))).elim))
  exact nxt T9 h9 _ _ 0 0 rel9 l9 (Or.inl ⟨by decide, by decide, rfl⟩)

theorem lw_case8 {scr : List zV} {post : Option zV → zH → Bool} {G : zS → Prop} {D : Nat} {T : List Nat} {h : zH} {nc ns : Nat} {i : Int32} {t : Int} {v : Bool} (HW : zWalk zprog ze_L_law scr room_1.cells room_1.slots (zD zprog scr D) post G) (HWN : zWalk zprog ze_L_lawN scr room_1.cells room_1.slots (zD zprog scr D) post G) (hsc0 : cT scr) (hD : 300 ≤ D) (IHP : ∀ P : pP, tBel (zPhi P) scr 300) (hscr : ∀ j : Nat, (j : Int) < i.toInt + 6 → ∃ x : Int32, scr[j]? = some (.inl (.int x))) (hi0 : 0 ≤ i.toInt ∧ i.toInt ≤ 100000) (rel : REL T h t v) (hl : h.length ≤ 900000) (hc : nc + 4000 ≤ room_1.cells) (hs : ns + 980000 ≤ room_1.slots)
    (nxt : ∀ (T' : List Nat) (h' : zH) (t' : Int) (v' : Bool) (dc ds : Nat), REL T' h' t' v' → h'.length ≤ h.length + dc → ((dc ≤ 30 ∧ ds ≤ 3328 ∧ v' = v) ∨ (v = false ∧ v' = true ∧ dc ≤ 3843 ∧ ds ≤ 971974)) → G (1663, [(3, .inl (.int i)), (2, .inl (.ref 49)), (1, .inl (.ref 0)), (0, .inl (.ref 10000000))], [], h', nc + dc, ns + ds)) : G (581, [(3, .inl (.int i)), (2, .inl (.ref 49)), (1, .inl (.ref 0)), (0, .inl (.ref 10000000))], [], h, nc, ns) := by
  have hq_0 : T[0]? = some 4 := rel.1.2.1.1.1
  have hq_49 : T[49]? = some 5 := rel.1.2.1.1.2.2.1
  have z1 : -2147483648 ≤ i.toInt + (1 : Int) → i.toInt + (1 : Int) ≤ 2147483647 → (i + (1 : Int32)).toInt = i.toInt + (1 : Int) := t_addC (x := i) (y := (1 : Int32))
  refine zrn_ok HW 5 (zB_iff.mpr (?_ : G (586, [(3, .inl (.int i)), (2, .inl (.ref 49)), (1, .inl (.ref 0)), (0, .inl (.ref 10000000))], [.inl (.int (i + (1 : Int32))), .inl (.ref 10000000), .inl (.ref 0)], h, nc, ns)))
  obtain ⟨y1, s1⟩ := hscr ((i + (1 : Int32))).toInt.toNat (by omega)
  refine g_scr HW rfl (by omega) s1 ?_
  refine g_callV (E' := ze_X4_rule) HW rfl rfl (Nat.le_of_ble_eq_true rfl) (by show nc + 0 ≤ room_1.cells; omega) (by show ns + 0 ≤ room_1.slots; omega) rel.1.1 rfl hq_0 rfl (Nat.le_of_ble_eq_true rfl) (lp_rule hsc0 IHP hD rel hl _ (fun a T7 h7 m7 ok7 f7 K7 => zB_iff.mpr ?_))
  show G (590, [(3, .inl (.int i)), (2, .inl (.ref 49)), (1, .inl (.ref 0)), (0, .inl (.ref 10000000))], [.inl (.int a)], h7, nc, ns)
  have hq_49 : T7[49]? = some 5 := ok7.2.1.1.2.2.1
  refine zrn_ok HW 5 (zB_iff.mpr (?_ : G (595, [(3, .inl (.int i)), (2, .inl (.ref 49)), (1, .inl (.ref 0)), (0, .inl (.ref 10000000))], [.inl (.int (i + (1 : Int32))), .inl (.ref 10000000), .inl (.ref 49), .inl (.int a)], h7, nc, ns)))
  refine g_scr HW rfl (by omega) s1 ?_
  refine g_callV (E' := ze_X5_rule) HW rfl rfl (Nat.le_of_ble_eq_true rfl) (by show nc + 0 ≤ room_1.cells; omega) (by show ns + 0 ≤ room_1.slots; omega) ok7.1 rfl hq_49 rfl (Nat.le_of_ble_eq_true rfl) (K7 _ (fun T9 h9 m9 rel9 l9 => zB_iff.mpr ?_))
  show G (599, [(3, .inl (.int i)), (2, .inl (.ref 49)), (1, .inl (.ref 0)), (0, .inl (.ref 10000000))], [.inl (.int a), .inl (.int a)], h9, nc + 0, ns + 0)
  refine zrn_ok HW 1 (zbr_ex (cd := .eq) (x := a) (y := a) (fun _ => zB_iff.mpr ?_) (fun hc => (hc (zop_int.mpr (show a.toInt = a.toInt from rfl))).elim))
  exact nxt T9 h9 _ _ 0 0 rel9 l9 (Or.inl ⟨by decide, by decide, rfl⟩)

theorem lw_case9 {scr : List zV} {post : Option zV → zH → Bool} {G : zS → Prop} {D : Nat} {T : List Nat} {h : zH} {nc ns : Nat} {i : Int32} {t : Int} {v : Bool} (HW : zWalk zprog ze_L_law scr room_1.cells room_1.slots (zD zprog scr D) post G) (HWN : zWalk zprog ze_L_lawN scr room_1.cells room_1.slots (zD zprog scr D) post G) (hsc0 : cT scr) (hD : 300 ≤ D) (IHP : ∀ P : pP, tBel (zPhi P) scr 300) (hscr : ∀ j : Nat, (j : Int) < i.toInt + 6 → ∃ x : Int32, scr[j]? = some (.inl (.int x))) (hi0 : 0 ≤ i.toInt ∧ i.toInt ≤ 100000) (rel : REL T h t v) (hl : h.length ≤ 900000) (hc : nc + 4000 ≤ room_1.cells) (hs : ns + 980000 ≤ room_1.slots)
    (nxt : ∀ (T' : List Nat) (h' : zH) (t' : Int) (v' : Bool) (dc ds : Nat), REL T' h' t' v' → h'.length ≤ h.length + dc → ((dc ≤ 30 ∧ ds ≤ 3328 ∧ v' = v) ∨ (v = false ∧ v' = true ∧ dc ≤ 3843 ∧ ds ≤ 971974)) → G (1663, [(3, .inl (.int i)), (2, .inl (.ref 49)), (1, .inl (.ref 0)), (0, .inl (.ref 10000000))], [], h', nc + dc, ns + ds)) : G (604, [(3, .inl (.int i)), (2, .inl (.ref 49)), (1, .inl (.ref 0)), (0, .inl (.ref 10000000))], [], h, nc, ns) := by
  have hq_0 : T[0]? = some 4 := rel.1.2.1.1.1
  have hq_49 : T[49]? = some 5 := rel.1.2.1.1.2.2.1
  have z1 : -2147483648 ≤ i.toInt + (1 : Int) → i.toInt + (1 : Int) ≤ 2147483647 → (i + (1 : Int32)).toInt = i.toInt + (1 : Int) := t_addC (x := i) (y := (1 : Int32))
  refine zrn_ok HW 5 (zB_iff.mpr (?_ : G (609, [(3, .inl (.int i)), (2, .inl (.ref 49)), (1, .inl (.ref 0)), (0, .inl (.ref 10000000))], [.inl (.int (i + (1 : Int32))), .inl (.ref 10000000), .inl (.ref 0)], h, nc, ns)))
  obtain ⟨y1, s1⟩ := hscr ((i + (1 : Int32))).toInt.toNat (by omega)
  refine g_scr HW rfl (by omega) s1 ?_
  have z2 : -2147483648 ≤ i.toInt + (2 : Int) → i.toInt + (2 : Int) ≤ 2147483647 → (i + (2 : Int32)).toInt = i.toInt + (2 : Int) := t_addC (x := i) (y := (2 : Int32))
  refine zrn_ok HW 4 (zB_iff.mpr (?_ : G (614, [(3, .inl (.int i)), (2, .inl (.ref 49)), (1, .inl (.ref 0)), (0, .inl (.ref 10000000))], [.inl (.int (i + (2 : Int32))), .inl (.ref 10000000), .inl (.int y1), .inl (.ref 0)], h, nc, ns)))
  obtain ⟨y2, s2⟩ := hscr ((i + (2 : Int32))).toInt.toNat (by omega)
  refine g_scr HW rfl (by omega) s2 ?_
  refine g_callV (E' := ze_X4_price) HW rfl rfl (Nat.le_of_ble_eq_true rfl) (by show nc + 0 ≤ room_1.cells; omega) (by show ns + 0 ≤ room_1.slots; omega) rel.1.1 rfl hq_0 rfl (Nat.le_of_ble_eq_true rfl) (lp_price hsc0 IHP hD rel hl _ (fun a T7 h7 m7 ok7 f7 K7 => zB_iff.mpr ?_))
  show G (618, [(3, .inl (.int i)), (2, .inl (.ref 49)), (1, .inl (.ref 0)), (0, .inl (.ref 10000000))], [.inl (.int a)], h7, nc, ns)
  have hq_49 : T7[49]? = some 5 := ok7.2.1.1.2.2.1
  refine zrn_ok HW 5 (zB_iff.mpr (?_ : G (623, [(3, .inl (.int i)), (2, .inl (.ref 49)), (1, .inl (.ref 0)), (0, .inl (.ref 10000000))], [.inl (.int (i + (1 : Int32))), .inl (.ref 10000000), .inl (.ref 49), .inl (.int a)], h7, nc, ns)))
  refine g_scr HW rfl (by omega) s1 ?_
  refine zrn_ok HW 4 (zB_iff.mpr (?_ : G (628, [(3, .inl (.int i)), (2, .inl (.ref 49)), (1, .inl (.ref 0)), (0, .inl (.ref 10000000))], [.inl (.int (i + (2 : Int32))), .inl (.ref 10000000), .inl (.int y1), .inl (.ref 49), .inl (.int a)], h7, nc, ns)))
  refine g_scr HW rfl (by omega) s2 ?_
  refine g_callV (E' := ze_X5_price) HW rfl rfl (Nat.le_of_ble_eq_true rfl) (by show nc + 0 ≤ room_1.cells; omega) (by show ns + 0 ≤ room_1.slots; omega) ok7.1 rfl hq_49 rfl (Nat.le_of_ble_eq_true rfl) (K7 _ (fun T9 h9 m9 rel9 l9 => zB_iff.mpr ?_))
  show G (632, [(3, .inl (.int i)), (2, .inl (.ref 49)), (1, .inl (.ref 0)), (0, .inl (.ref 10000000))], [.inl (.int a), .inl (.int a)], h9, nc + 0, ns + 0)
  refine zrn_ok HW 1 (zbr_ex (cd := .eq) (x := a) (y := a) (fun _ => zB_iff.mpr ?_) (fun hc => (hc (zop_int.mpr (show a.toInt = a.toInt from rfl))).elim))
  exact nxt T9 h9 _ _ 0 0 rel9 l9 (Or.inl ⟨by decide, by decide, rfl⟩)

theorem lw_case10 {scr : List zV} {post : Option zV → zH → Bool} {G : zS → Prop} {D : Nat} {T : List Nat} {h : zH} {nc ns : Nat} {i : Int32} {t : Int} {v : Bool} (HW : zWalk zprog ze_L_law scr room_1.cells room_1.slots (zD zprog scr D) post G) (HWN : zWalk zprog ze_L_lawN scr room_1.cells room_1.slots (zD zprog scr D) post G) (hsc0 : cT scr) (hD : 300 ≤ D) (IHP : ∀ P : pP, tBel (zPhi P) scr 300) (hscr : ∀ j : Nat, (j : Int) < i.toInt + 6 → ∃ x : Int32, scr[j]? = some (.inl (.int x))) (hi0 : 0 ≤ i.toInt ∧ i.toInt ≤ 100000) (rel : REL T h t v) (hl : h.length ≤ 900000) (hc : nc + 4000 ≤ room_1.cells) (hs : ns + 980000 ≤ room_1.slots)
    (nxt : ∀ (T' : List Nat) (h' : zH) (t' : Int) (v' : Bool) (dc ds : Nat), REL T' h' t' v' → h'.length ≤ h.length + dc → ((dc ≤ 30 ∧ ds ≤ 3328 ∧ v' = v) ∨ (v = false ∧ v' = true ∧ dc ≤ 3843 ∧ ds ≤ 971974)) → G (1663, [(3, .inl (.int i)), (2, .inl (.ref 49)), (1, .inl (.ref 0)), (0, .inl (.ref 10000000))], [], h', nc + dc, ns + ds)) : G (637, [(3, .inl (.int i)), (2, .inl (.ref 49)), (1, .inl (.ref 0)), (0, .inl (.ref 10000000))], [], h, nc, ns) := by
  have hq_0 : T[0]? = some 4 := rel.1.2.1.1.1
  have hq_49 : T[49]? = some 5 := rel.1.2.1.1.2.2.1
  have z1 : -2147483648 ≤ i.toInt + (1 : Int) → i.toInt + (1 : Int) ≤ 2147483647 → (i + (1 : Int32)).toInt = i.toInt + (1 : Int) := t_addC (x := i) (y := (1 : Int32))
  refine zrn_ok HW 5 (zB_iff.mpr (?_ : G (642, [(3, .inl (.int i)), (2, .inl (.ref 49)), (1, .inl (.ref 0)), (0, .inl (.ref 10000000))], [.inl (.int (i + (1 : Int32))), .inl (.ref 10000000), .inl (.ref 0)], h, nc, ns)))
  obtain ⟨y1, s1⟩ := hscr ((i + (1 : Int32))).toInt.toNat (by omega)
  refine g_scr HW rfl (by omega) s1 ?_
  have z2 : -2147483648 ≤ i.toInt + (2 : Int) → i.toInt + (2 : Int) ≤ 2147483647 → (i + (2 : Int32)).toInt = i.toInt + (2 : Int) := t_addC (x := i) (y := (2 : Int32))
  refine zrn_ok HW 4 (zB_iff.mpr (?_ : G (647, [(3, .inl (.int i)), (2, .inl (.ref 49)), (1, .inl (.ref 0)), (0, .inl (.ref 10000000))], [.inl (.int (i + (2 : Int32))), .inl (.ref 10000000), .inl (.int y1), .inl (.ref 0)], h, nc, ns)))
  obtain ⟨y2, s2⟩ := hscr ((i + (2 : Int32))).toInt.toNat (by omega)
  refine g_scr HW rfl (by omega) s2 ?_
  have z3 : -2147483648 ≤ i.toInt + (3 : Int) → i.toInt + (3 : Int) ≤ 2147483647 → (i + (3 : Int32)).toInt = i.toInt + (3 : Int) := t_addC (x := i) (y := (3 : Int32))
  refine zrn_ok HW 4 (zB_iff.mpr (?_ : G (652, [(3, .inl (.int i)), (2, .inl (.ref 49)), (1, .inl (.ref 0)), (0, .inl (.ref 10000000))], [.inl (.int (i + (3 : Int32))), .inl (.ref 10000000), .inl (.int y2), .inl (.int y1), .inl (.ref 0)], h, nc, ns)))
  obtain ⟨y3, s3⟩ := hscr ((i + (3 : Int32))).toInt.toNat (by omega)
  refine g_scr HW rfl (by omega) s3 ?_
  refine g_callV (E' := ze_X4_thing) HW rfl rfl (Nat.le_of_ble_eq_true rfl) (by show nc + 0 ≤ room_1.cells; omega) (by show ns + 0 ≤ room_1.slots; omega) rel.1.1 rfl hq_0 rfl (Nat.le_of_ble_eq_true rfl) (lp_thing hsc0 IHP hD rel hl _ (fun a T7 h7 m7 ok7 f7 K7 => zB_iff.mpr ?_))
  show G (656, [(3, .inl (.int i)), (2, .inl (.ref 49)), (1, .inl (.ref 0)), (0, .inl (.ref 10000000))], [.inl (.int a)], h7, nc, ns)
  have hq_49 : T7[49]? = some 5 := ok7.2.1.1.2.2.1
  refine zrn_ok HW 5 (zB_iff.mpr (?_ : G (661, [(3, .inl (.int i)), (2, .inl (.ref 49)), (1, .inl (.ref 0)), (0, .inl (.ref 10000000))], [.inl (.int (i + (1 : Int32))), .inl (.ref 10000000), .inl (.ref 49), .inl (.int a)], h7, nc, ns)))
  refine g_scr HW rfl (by omega) s1 ?_
  refine zrn_ok HW 4 (zB_iff.mpr (?_ : G (666, [(3, .inl (.int i)), (2, .inl (.ref 49)), (1, .inl (.ref 0)), (0, .inl (.ref 10000000))], [.inl (.int (i + (2 : Int32))), .inl (.ref 10000000), .inl (.int y1), .inl (.ref 49), .inl (.int a)], h7, nc, ns)))
  refine g_scr HW rfl (by omega) s2 ?_
  refine zrn_ok HW 4 (zB_iff.mpr (?_ : G (671, [(3, .inl (.int i)), (2, .inl (.ref 49)), (1, .inl (.ref 0)), (0, .inl (.ref 10000000))], [.inl (.int (i + (3 : Int32))), .inl (.ref 10000000), .inl (.int y2), .inl (.int y1), .inl (.ref 49), .inl (.int a)], h7, nc, ns)))
  refine g_scr HW rfl (by omega) s3 ?_
  refine g_callV (E' := ze_X5_thing) HW rfl rfl (Nat.le_of_ble_eq_true rfl) (by show nc + 0 ≤ room_1.cells; omega) (by show ns + 0 ≤ room_1.slots; omega) ok7.1 rfl hq_49 rfl (Nat.le_of_ble_eq_true rfl) (K7 _ (fun T9 h9 m9 rel9 l9 => zB_iff.mpr ?_))
  show G (675, [(3, .inl (.int i)), (2, .inl (.ref 49)), (1, .inl (.ref 0)), (0, .inl (.ref 10000000))], [.inl (.int a), .inl (.int a)], h9, nc + 0, ns + 0)
  refine zrn_ok HW 1 (zbr_ex (cd := .eq) (x := a) (y := a) (fun _ => zB_iff.mpr ?_) (fun hc => (hc (zop_int.mpr (show a.toInt = a.toInt from rfl))).elim))
  exact nxt T9 h9 _ _ 0 0 rel9 l9 (Or.inl ⟨by decide, by decide, rfl⟩)

theorem lw_case11 {scr : List zV} {post : Option zV → zH → Bool} {G : zS → Prop} {D : Nat} {T : List Nat} {h : zH} {nc ns : Nat} {i : Int32} {t : Int} {v : Bool} (HW : zWalk zprog ze_L_law scr room_1.cells room_1.slots (zD zprog scr D) post G) (HWN : zWalk zprog ze_L_lawN scr room_1.cells room_1.slots (zD zprog scr D) post G) (hsc0 : cT scr) (hD : 300 ≤ D) (IHP : ∀ P : pP, tBel (zPhi P) scr 300) (hscr : ∀ j : Nat, (j : Int) < i.toInt + 6 → ∃ x : Int32, scr[j]? = some (.inl (.int x))) (hi0 : 0 ≤ i.toInt ∧ i.toInt ≤ 100000) (rel : REL T h t v) (hl : h.length ≤ 900000) (hc : nc + 4000 ≤ room_1.cells) (hs : ns + 980000 ≤ room_1.slots)
    (nxt : ∀ (T' : List Nat) (h' : zH) (t' : Int) (v' : Bool) (dc ds : Nat), REL T' h' t' v' → h'.length ≤ h.length + dc → ((dc ≤ 30 ∧ ds ≤ 3328 ∧ v' = v) ∨ (v = false ∧ v' = true ∧ dc ≤ 3843 ∧ ds ≤ 971974)) → G (1663, [(3, .inl (.int i)), (2, .inl (.ref 49)), (1, .inl (.ref 0)), (0, .inl (.ref 10000000))], [], h', nc + dc, ns + ds)) : G (680, [(3, .inl (.int i)), (2, .inl (.ref 49)), (1, .inl (.ref 0)), (0, .inl (.ref 10000000))], [], h, nc, ns) := by
  have hq_0 : T[0]? = some 4 := rel.1.2.1.1.1
  have hq_49 : T[49]? = some 5 := rel.1.2.1.1.2.2.1
  have z1 : -2147483648 ≤ i.toInt + (1 : Int) → i.toInt + (1 : Int) ≤ 2147483647 → (i + (1 : Int32)).toInt = i.toInt + (1 : Int) := t_addC (x := i) (y := (1 : Int32))
  refine zrn_ok HW 5 (zB_iff.mpr (?_ : G (685, [(3, .inl (.int i)), (2, .inl (.ref 49)), (1, .inl (.ref 0)), (0, .inl (.ref 10000000))], [.inl (.int (i + (1 : Int32))), .inl (.ref 10000000), .inl (.ref 0)], h, nc, ns)))
  obtain ⟨y1, s1⟩ := hscr ((i + (1 : Int32))).toInt.toNat (by omega)
  refine g_scr HW rfl (by omega) s1 ?_
  refine g_callV (E' := ze_X4_buyer) HW rfl rfl (Nat.le_of_ble_eq_true rfl) (by show nc + 0 ≤ room_1.cells; omega) (by show ns + 0 ≤ room_1.slots; omega) rel.1.1 rfl hq_0 rfl (Nat.le_of_ble_eq_true rfl) (lp_buyer hsc0 IHP hD rel hl _ (fun a T7 h7 m7 ok7 f7 K7 => zB_iff.mpr ?_))
  show G (689, [(3, .inl (.int i)), (2, .inl (.ref 49)), (1, .inl (.ref 0)), (0, .inl (.ref 10000000))], [.inl (.int a)], h7, nc, ns)
  have hq_49 : T7[49]? = some 5 := ok7.2.1.1.2.2.1
  refine zrn_ok HW 5 (zB_iff.mpr (?_ : G (694, [(3, .inl (.int i)), (2, .inl (.ref 49)), (1, .inl (.ref 0)), (0, .inl (.ref 10000000))], [.inl (.int (i + (1 : Int32))), .inl (.ref 10000000), .inl (.ref 49), .inl (.int a)], h7, nc, ns)))
  refine g_scr HW rfl (by omega) s1 ?_
  refine g_callV (E' := ze_X5_buyer) HW rfl rfl (Nat.le_of_ble_eq_true rfl) (by show nc + 0 ≤ room_1.cells; omega) (by show ns + 0 ≤ room_1.slots; omega) ok7.1 rfl hq_49 rfl (Nat.le_of_ble_eq_true rfl) (K7 _ (fun T9 h9 m9 rel9 l9 => zB_iff.mpr ?_))
  show G (698, [(3, .inl (.int i)), (2, .inl (.ref 49)), (1, .inl (.ref 0)), (0, .inl (.ref 10000000))], [.inl (.int a), .inl (.int a)], h9, nc + 0, ns + 0)
  refine zrn_ok HW 1 (zbr_ex (cd := .eq) (x := a) (y := a) (fun _ => zB_iff.mpr ?_) (fun hc => (hc (zop_int.mpr (show a.toInt = a.toInt from rfl))).elim))
  exact nxt T9 h9 _ _ 0 0 rel9 l9 (Or.inl ⟨by decide, by decide, rfl⟩)

theorem lw_case12 {scr : List zV} {post : Option zV → zH → Bool} {G : zS → Prop} {D : Nat} {T : List Nat} {h : zH} {nc ns : Nat} {i : Int32} {t : Int} {v : Bool} (HW : zWalk zprog ze_L_law scr room_1.cells room_1.slots (zD zprog scr D) post G) (HWN : zWalk zprog ze_L_lawN scr room_1.cells room_1.slots (zD zprog scr D) post G) (hsc0 : cT scr) (hD : 300 ≤ D) (IHP : ∀ P : pP, tBel (zPhi P) scr 300) (hscr : ∀ j : Nat, (j : Int) < i.toInt + 6 → ∃ x : Int32, scr[j]? = some (.inl (.int x))) (hi0 : 0 ≤ i.toInt ∧ i.toInt ≤ 100000) (rel : REL T h t v) (hl : h.length ≤ 900000) (hc : nc + 4000 ≤ room_1.cells) (hs : ns + 980000 ≤ room_1.slots)
    (nxt : ∀ (T' : List Nat) (h' : zH) (t' : Int) (v' : Bool) (dc ds : Nat), REL T' h' t' v' → h'.length ≤ h.length + dc → ((dc ≤ 30 ∧ ds ≤ 3328 ∧ v' = v) ∨ (v = false ∧ v' = true ∧ dc ≤ 3843 ∧ ds ≤ 971974)) → G (1663, [(3, .inl (.int i)), (2, .inl (.ref 49)), (1, .inl (.ref 0)), (0, .inl (.ref 10000000))], [], h', nc + dc, ns + ds)) : G (703, [(3, .inl (.int i)), (2, .inl (.ref 49)), (1, .inl (.ref 0)), (0, .inl (.ref 10000000))], [], h, nc, ns) := by
  have hq_0 : T[0]? = some 4 := rel.1.2.1.1.1
  have hq_49 : T[49]? = some 5 := rel.1.2.1.1.2.2.1
  have z1 : -2147483648 ≤ i.toInt + (1 : Int) → i.toInt + (1 : Int) ≤ 2147483647 → (i + (1 : Int32)).toInt = i.toInt + (1 : Int) := t_addC (x := i) (y := (1 : Int32))
  refine zrn_ok HW 5 (zB_iff.mpr (?_ : G (708, [(3, .inl (.int i)), (2, .inl (.ref 49)), (1, .inl (.ref 0)), (0, .inl (.ref 10000000))], [.inl (.int (i + (1 : Int32))), .inl (.ref 10000000), .inl (.ref 0)], h, nc, ns)))
  obtain ⟨y1, s1⟩ := hscr ((i + (1 : Int32))).toInt.toNat (by omega)
  refine g_scr HW rfl (by omega) s1 ?_
  have z2 : -2147483648 ≤ i.toInt + (2 : Int) → i.toInt + (2 : Int) ≤ 2147483647 → (i + (2 : Int32)).toInt = i.toInt + (2 : Int) := t_addC (x := i) (y := (2 : Int32))
  refine zrn_ok HW 4 (zB_iff.mpr (?_ : G (713, [(3, .inl (.int i)), (2, .inl (.ref 49)), (1, .inl (.ref 0)), (0, .inl (.ref 10000000))], [.inl (.int (i + (2 : Int32))), .inl (.ref 10000000), .inl (.int y1), .inl (.ref 0)], h, nc, ns)))
  obtain ⟨y2, s2⟩ := hscr ((i + (2 : Int32))).toInt.toNat (by omega)
  refine g_scr HW rfl (by omega) s2 ?_
  have z3 : -2147483648 ≤ i.toInt + (3 : Int) → i.toInt + (3 : Int) ≤ 2147483647 → (i + (3 : Int32)).toInt = i.toInt + (3 : Int) := t_addC (x := i) (y := (3 : Int32))
  refine zrn_ok HW 4 (zB_iff.mpr (?_ : G (718, [(3, .inl (.int i)), (2, .inl (.ref 49)), (1, .inl (.ref 0)), (0, .inl (.ref 10000000))], [.inl (.int (i + (3 : Int32))), .inl (.ref 10000000), .inl (.int y2), .inl (.int y1), .inl (.ref 0)], h, nc, ns)))
  obtain ⟨y3, s3⟩ := hscr ((i + (3 : Int32))).toInt.toNat (by omega)
  refine g_scr HW rfl (by omega) s3 ?_
  refine g_callV (E' := ze_X4_likes) HW rfl rfl (Nat.le_of_ble_eq_true rfl) (by show nc + 0 ≤ room_1.cells; omega) (by show ns + 0 ≤ room_1.slots; omega) rel.1.1 rfl hq_0 rfl (Nat.le_of_ble_eq_true rfl) (lp_likes hsc0 IHP hD rel hl _ (fun a T7 h7 m7 ok7 f7 K7 => zB_iff.mpr ?_))
  show G (722, [(3, .inl (.int i)), (2, .inl (.ref 49)), (1, .inl (.ref 0)), (0, .inl (.ref 10000000))], [.inl (.int a)], h7, nc, ns)
  have hq_49 : T7[49]? = some 5 := ok7.2.1.1.2.2.1
  refine zrn_ok HW 5 (zB_iff.mpr (?_ : G (727, [(3, .inl (.int i)), (2, .inl (.ref 49)), (1, .inl (.ref 0)), (0, .inl (.ref 10000000))], [.inl (.int (i + (1 : Int32))), .inl (.ref 10000000), .inl (.ref 49), .inl (.int a)], h7, nc, ns)))
  refine g_scr HW rfl (by omega) s1 ?_
  refine zrn_ok HW 4 (zB_iff.mpr (?_ : G (732, [(3, .inl (.int i)), (2, .inl (.ref 49)), (1, .inl (.ref 0)), (0, .inl (.ref 10000000))], [.inl (.int (i + (2 : Int32))), .inl (.ref 10000000), .inl (.int y1), .inl (.ref 49), .inl (.int a)], h7, nc, ns)))
  refine g_scr HW rfl (by omega) s2 ?_
  refine zrn_ok HW 4 (zB_iff.mpr (?_ : G (737, [(3, .inl (.int i)), (2, .inl (.ref 49)), (1, .inl (.ref 0)), (0, .inl (.ref 10000000))], [.inl (.int (i + (3 : Int32))), .inl (.ref 10000000), .inl (.int y2), .inl (.int y1), .inl (.ref 49), .inl (.int a)], h7, nc, ns)))
  refine g_scr HW rfl (by omega) s3 ?_
  refine g_callV (E' := ze_X5_likes) HW rfl rfl (Nat.le_of_ble_eq_true rfl) (by show nc + 0 ≤ room_1.cells; omega) (by show ns + 0 ≤ room_1.slots; omega) ok7.1 rfl hq_49 rfl (Nat.le_of_ble_eq_true rfl) (K7 _ (fun T9 h9 m9 rel9 l9 => zB_iff.mpr ?_))
  show G (741, [(3, .inl (.int i)), (2, .inl (.ref 49)), (1, .inl (.ref 0)), (0, .inl (.ref 10000000))], [.inl (.int a), .inl (.int a)], h9, nc + 0, ns + 0)
  refine zrn_ok HW 1 (zbr_ex (cd := .eq) (x := a) (y := a) (fun _ => zB_iff.mpr ?_) (fun hc => (hc (zop_int.mpr (show a.toInt = a.toInt from rfl))).elim))
  exact nxt T9 h9 _ _ 0 0 rel9 l9 (Or.inl ⟨by decide, by decide, rfl⟩)
