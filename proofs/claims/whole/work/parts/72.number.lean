/-- a number is told: where it writes -/
def nFr (h h' : zH) : Prop := ∀ p i : Nat, (p ≠ 49 ∨ (i ≠ 28 ∧ i ≠ 29 ∧ i ≠ 30 ∧ i ≠ 31 ∧ i ≠ 32)) → p ≠ 78 → hget h' p i = hget h p i
theorem nFr_hi {h h' : zH} (f : nFr h h') {p i : Nat} (hp : p ≠ 49 ∨ (i ≠ 28 ∧ i ≠ 29 ∧ i ≠ 30 ∧ i ≠ 31 ∧ i ≠ 32)) (h2 : p ≠ 78) : hi h' p i = hi h p i := hi_eq (f p i hp h2)
theorem nFr_l {h h1 h2 : zH} (f : nFr h h1) (g : lFr h1 h2) : nFr h h2 := fun p i hp h78 => (g p i hp).trans (f p i hp h78)
theorem nFr_n {h h1 h2 : zH} (f : nFr h h1) (g : nFr h1 h2) : nFr h h2 := fun p i hp h78 => (g p i hp h78).trans (f p i hp h78)
theorem zPhi_low {n m : Int} {μ ν : Int} {v : Bool} {N : Nat} {T : List Nat} {h : zH} (ok : wOK (zPhi (n, m, some ν, v)) N T h) (hμ : μ ≤ ν) : wOK (zPhi (n, m, some μ, v)) N T h := by
  obtain ⟨c1, ⟨p1, p2, p3, p4, p5, p6, p7⟩, c3⟩ := ok
  exact ⟨c1, ⟨p1, p2, p3, p4, p5, fun κ hκ => by cases hκ; have := p6 ν rfl; exact ⟨by omega, this.2⟩, p7⟩, c3⟩
theorem zPhi_at {n m : Int} {μ : Int} {v : Bool} {N : Nat} {T : List Nat} {h : zH} (ok : wOK (zPhi (n, m, some μ, v)) N T h) : μ ≤ hi h 49 28 ∧ hi h 49 28 ≤ m := ok.2.1.2.2.2.2.2.1 μ rfl
theorem c_number {n m : Int} {v : Bool} {μ : Int} {N : Nat} {scr : List zV} {d : Nat} {T : List Nat} {h : zH} {i y z : Int32} {post : Option zV → zH → Bool} (ok : wOK (zPhi (n, m, some μ, v)) N T h) (hi0 : 0 ≤ i.toInt ∧ i.toInt ≤ 2)
    (k1 : ∀ (f : Int32) (h' : zH), wOK (zPhi (n, m, some μ, v)) N T h' → hi h 49 31 = f.toInt → y.toInt ≤ f.toInt → f.toInt ≤ z.toInt → hi h' 78 i.toInt.toNat = f.toInt → (∀ j, j ≠ i.toInt.toNat → hi h' 78 j = hi h 78 j) → nFr h h' → post (some (.inl (.int 1))) h' = true) (k0 : ∀ h' : zH, wOK (zPhi (n, m, some μ, v)) N T h' → nFr h h' → post (some (.inl (.int 0))) h' = true) : zD zprog scr (d + 3) 203 [.inl (.ref 49), .inl (.int i), .inl (.int y), .inl (.int z)] h post = true := by
  have hq_q := ok.2.1.1.2.2.1
  have hst := p_stab (n, m, some μ, v)
  refine zD_intro (E := ze_X5_number) rfl rfl (fun G HW => ?_)
  have t78 : T[78]? = some 40 := ((ok.2.1.2.1 49 5 hq_q (Or.inl rfl)).1.1 (33, 29, 40) (by decide +kernel)).2
  refine zrn_ok HW 1 (zB_iff.mpr (?_ : G (1, [(0, .inl (.ref 49)), (1, .inl (.int i)), (2, .inl (.int y)), (3, .inl (.int z))], [.inl (.ref 49)], h, 0, 0)))
  obtain ⟨x1, g1, e1, l1, u1⟩ := hi_val (i := 29) ok.1 hq_q (by decide) rfl
  have l1 : (0 : Int) ≤ x1.toInt := l1
  have u1 : x1.toInt ≤ (4 : Int) := u1
  refine g_getf HW rfl ok.1 hq_q rfl g1 ?_
  refine zrn_ok HW 2 (zbr_ex (cd := .ne) (x := x1) (y := (2 : Int32)) (fun hc2 => zB_iff.mpr ?_) (fun hc2 => zB_iff.mpr ?_))
  · -- pc 23
    have i2 : ¬ x1.toInt = (2 : Int) := zop_int.mp hc2
    refine zrn_ok HW 1 (zB_iff.mpr (?_ : G (24, [(0, .inl (.ref 49)), (1, .inl (.int i)), (2, .inl (.int y)), (3, .inl (.int z))], [.inl (.ref 49)], h, 0, 0)))
    refine g_callV (E' := ze_X5_wrong) HW rfl rfl (Nat.le_of_ble_eq_true rfl) (Nat.le_of_ble_eq_true rfl) (Nat.le_of_ble_eq_true rfl) ok.1 rfl hq_q rfl (Nat.le_of_ble_eq_true rfl) (c_wrong ok (fun h3 ok3 fr3 => zB_iff.mpr ?_))
    show G (27, [(0, .inl (.ref 49)), (1, .inl (.int i)), (2, .inl (.int y)), (3, .inl (.int z))], [.inl (.int (0 : Int32))], h3, 0, 0)
    refine zrn_ok HW 1 ?_
    exact zret_z rfl rfl (k0 _ ok3 (fun p i hp _ => fr3 p i hp))
  · -- pc 8
    have i2 : ¬ (¬ x1.toInt = (2 : Int)) := fun e => hc2 (zop_int.mpr e)
    refine zrn_ok HW 1 (zB_iff.mpr (?_ : G (9, [(0, .inl (.ref 49)), (1, .inl (.int i)), (2, .inl (.int y)), (3, .inl (.int z))], [.inl (.ref 49)], h, 0, 0)))
    obtain ⟨x4, g4, e4, l4, u4⟩ := hi_val (i := 31) ok.1 hq_q (by decide) rfl
    have l4 : ((-2147483648) : Int) ≤ x4.toInt := l4
    have u4 : x4.toInt ≤ (2147483647 : Int) := u4
    refine g_getf HW rfl ok.1 hq_q rfl g4 ?_
    refine zrn_ok HW 5 (zB_iff.mpr (?_ : G (17, [(0, .inl (.ref 49)), (1, .inl (.int i)), (2, .inl (.int y)), (3, .inl (.int z))], [.inl (.long (Int32.toInt64 z)), .inl (.long (Int32.toInt64 y)), .inl (.long (Int32.toInt64 x4))], h, 0, 0)))
    refine g_callS (b := 0) (E' := ze_X5_in) HW (Or.inl rfl) rfl rfl (Nat.le_of_ble_eq_true rfl) (Nat.le_of_ble_eq_true rfl) (Nat.le_of_ble_eq_true rfl) (Nat.le_of_ble_eq_true rfl) (c_in (fun a5 b5 => zB_iff.mpr ?_) (fun n5 => zB_iff.mpr ?_))
    · show G (20, [(0, .inl (.ref 49)), (1, .inl (.int i)), (2, .inl (.int y)), (3, .inl (.int z))], [.inl (.int (1 : Int32))], h, 0, 0)
      have a5 : y.toInt ≤ x4.toInt := by have r0 : (Int32.toInt64 x4).toInt = x4.toInt := q_i2l _; have r1 : (Int32.toInt64 y).toInt = y.toInt := q_i2l _; have r2 : (Int32.toInt64 z).toInt = z.toInt := q_i2l _; omega
      have b5 : x4.toInt ≤ z.toInt := by have r0 : (Int32.toInt64 x4).toInt = x4.toInt := q_i2l _; have r1 : (Int32.toInt64 y).toInt = y.toInt := q_i2l _; have r2 : (Int32.toInt64 z).toInt = z.toInt := q_i2l _; omega
      refine zrn_ok HW 2 (zB_iff.mpr (?_ : G (29, [(0, .inl (.ref 49)), (1, .inl (.int i)), (2, .inl (.int y)), (3, .inl (.int z))], [.inl (.ref 49)], h, 0, 0)))
      have o7 : hget h 49 33 = some (.inl (.ref 78)) := ((ok.2.1.2.1 49 5 hq_q (Or.inl rfl)).1.1 (33, 29, 40) (by decide +kernel)).1
      have t7 : T[78]? = some 40 := ((ok.2.1.2.1 49 5 hq_q (Or.inl rfl)).1.1 (33, 29, 40) (by decide +kernel)).2
      refine g_getf HW rfl ok.1 hq_q rfl o7 ?_
      refine zrn_ok HW 2 (zB_iff.mpr (?_ : G (34, [(0, .inl (.ref 49)), (1, .inl (.int i)), (2, .inl (.int y)), (3, .inl (.int z))], [.inl (.ref 49), .inl (.int i), .inl (.ref 78)], h, 0, 0)))
      obtain ⟨x8, g8, e8, l8, u8⟩ := hi_val (i := 31) ok.1 hq_q (by decide) rfl
      have l8 : ((-2147483648) : Int) ≤ x8.toInt := l8
      have u8 : x8.toInt ≤ (2147483647 : Int) := u8
      refine g_getf HW rfl ok.1 hq_q rfl g8 ?_
      have ok9 : wOK (zPhi (n, m, some μ, v)) N T (hput h 78 (i).toInt.toNat (.inl (.int x8))) := wOK_put hst ok t7 rfl ⟨_, rfl, t_lo _, t_hi _⟩
      refine g_iast HW rfl ok.1 t7 rfl (by omega) (by show _ < (3 : Int); omega) ?_
      refine zrn_ok HW 1 (zB_iff.mpr (?_ : G (39, [(0, .inl (.ref 49)), (1, .inl (.int i)), (2, .inl (.int y)), (3, .inl (.int z))], [.inl (.ref 49)], (hput h 78 (i).toInt.toNat (.inl (.int x8))), 0, 0)))
      refine g_callV (E' := ze_X5_look) HW rfl rfl (Nat.le_of_ble_eq_true rfl) (Nat.le_of_ble_eq_true rfl) (Nat.le_of_ble_eq_true rfl) ok9.1 rfl hq_q rfl (Nat.le_of_ble_eq_true rfl) (c_look ok9 (fun h10 okn10 st10 fr10 => zB_iff.mpr ?_))
      show G (42, [(0, .inl (.ref 49)), (1, .inl (.int i)), (2, .inl (.int y)), (3, .inl (.int z))], [], h10, 0, 0)
      have ok10 := zPhi_low okn10 (zPhi_at ok9).1
      refine zrn_ok HW 2 ?_
      obtain ⟨w78, hw78, -⟩ := hOK_get (i := i.toInt.toNat) ok.1 t78 (by show _ < 3; omega)
      refine zret_z rfl rfl (k1 x8 _ ok10 (by omega) (by omega) (by omega) ?_ (fun j hj => ?_) (fun p j hp h78 => ?_))
      · rw [lFr_hi fr10 (Or.inl (by decide))]
        exact hi_put hw78
      · rw [lFr_hi fr10 (Or.inl (by decide)), hi_put_ne (Or.inr hj)]
      · rw [fr10 p j hp, hget_put_ne (Or.inl h78)]
    · show G (20, [(0, .inl (.ref 49)), (1, .inl (.int i)), (2, .inl (.int y)), (3, .inl (.int z))], [.inl (.int (0 : Int32))], h, 0, 0)
      have n5 : ¬ (y.toInt ≤ x4.toInt ∧ x4.toInt ≤ z.toInt) := by have r0 : (Int32.toInt64 x4).toInt = x4.toInt := q_i2l _; have r1 : (Int32.toInt64 y).toInt = y.toInt := q_i2l _; have r2 : (Int32.toInt64 z).toInt = z.toInt := q_i2l _; omega
      refine zrn_ok HW 2 (zB_iff.mpr (?_ : G (24, [(0, .inl (.ref 49)), (1, .inl (.int i)), (2, .inl (.int y)), (3, .inl (.int z))], [.inl (.ref 49)], h, 0, 0)))
      refine g_callV (E' := ze_X5_wrong) HW rfl rfl (Nat.le_of_ble_eq_true rfl) (Nat.le_of_ble_eq_true rfl) (Nat.le_of_ble_eq_true rfl) ok.1 rfl hq_q rfl (Nat.le_of_ble_eq_true rfl) (c_wrong ok (fun h11 ok11 fr11 => zB_iff.mpr ?_))
      show G (27, [(0, .inl (.ref 49)), (1, .inl (.int i)), (2, .inl (.int y)), (3, .inl (.int z))], [.inl (.int (0 : Int32))], h11, 0, 0)
      refine zrn_ok HW 1 ?_
      exact zret_z rfl rfl (k0 _ ok11 (fun p i hp _ => fr11 p i hp))
theorem c_tells {n m : Int} {v : Bool} {μ : Int} {N : Nat} {scr : List zV} {d : Nat} {T : List Nat} {h : zH} {y z : Int32} {post : Option zV → zH → Bool} (ok : wOK (zPhi (n, m, some μ, v)) N T h)
    (k1 : ∀ (f : Int32) (h' : zH), wOK (zPhi (n, m, some μ, v)) N T h' → y.toInt ≤ f.toInt → f.toInt ≤ z.toInt → hi h' 78 0 = f.toInt → nFr h h' → post (some (.inl (.int 1))) h' = true) (k0 : ∀ h' : zH, wOK (zPhi (n, m, some μ, v)) N T h' → nFr h h' → post (some (.inl (.int 0))) h' = true) : zD zprog scr (d + 4) 235 [.inl (.ref 49), .inl (.int y), .inl (.int z)] h post = true := by
  have hq_q := ok.2.1.1.2.2.1
  refine zD_intro (E := ze_X5_tells) rfl rfl (fun G HW => ?_)
  refine zrn_ok HW 1 (zB_iff.mpr (?_ : G (1, [(0, .inl (.ref 49)), (1, .inl (.int y)), (2, .inl (.int z))], [.inl (.ref 49)], h, 0, 0)))
  refine g_callV (E' := ze_X5_look) HW rfl rfl (Nat.le_of_ble_eq_true rfl) (Nat.le_of_ble_eq_true rfl) (Nat.le_of_ble_eq_true rfl) ok.1 rfl hq_q rfl (Nat.le_of_ble_eq_true rfl) (c_look ok (fun h1 okn1 st1 fr1 => zB_iff.mpr ?_))
  show G (4, [(0, .inl (.ref 49)), (1, .inl (.int y)), (2, .inl (.int z))], [], h1, 0, 0)
  have ok1 := zPhi_low okn1 (zPhi_at ok).1
  refine zrn_ok HW 4 (zB_iff.mpr (?_ : G (8, [(0, .inl (.ref 49)), (1, .inl (.int y)), (2, .inl (.int z))], [.inl (.int z), .inl (.int y), .inl (.int (0 : Int32)), .inl (.ref 49)], h1, 0, 0)))
  refine g_callV (E' := ze_X5_number) HW rfl rfl (Nat.le_of_ble_eq_true rfl) (Nat.le_of_ble_eq_true rfl) (Nat.le_of_ble_eq_true rfl) ok1.1 rfl hq_q rfl (Nat.le_of_ble_eq_true rfl) (c_number ok1 (i := (0 : Int32)) ⟨by decide, by decide⟩ (fun f2 h2 ok2 x2 lo2 up2 t2 o2 n2 => zB_iff.mpr ?_) (fun h2 ok2 n2 => zB_iff.mpr ?_))
  · show G (11, [(0, .inl (.ref 49)), (1, .inl (.int y)), (2, .inl (.int z))], [.inl (.int (1 : Int32))], h2, 0, 0)
    have lo2 : y.toInt ≤ f2.toInt := lo2
    have up2 : f2.toInt ≤ z.toInt := up2
    have t2 : hi h2 78 0 = f2.toInt := t2
    have o2 : ∀ j, j ≠ 0 → hi h2 78 j = hi h1 78 j := o2
    refine zrn_ok HW 1 ?_
    exact zret_z rfl rfl (k1 f2 _ ok2 lo2 up2 t2 (nFr_n (fun p i hp _ => fr1 p i hp) n2))
  · show G (11, [(0, .inl (.ref 49)), (1, .inl (.int y)), (2, .inl (.int z))], [.inl (.int (0 : Int32))], h2, 0, 0)
    refine zrn_ok HW 1 ?_
    exact zret_z rfl rfl (k0 _ ok2 (nFr_n (fun p i hp _ => fr1 p i hp) n2))
