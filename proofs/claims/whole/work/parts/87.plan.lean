theorem vFr_cnt {T : List Nat} {h h' : zH} (f : vFr T h h') (hq : T[49]? = some 5) (lay : pLay T h 49) : ∀ k : Nat, hcnt h' 49 k = hcnt h 49 k :=
  hcnt_eq (hDr_eq (vFr_hi f hq (by decide)) (vFr_hi f hq (by decide)) (vFr_hi f hq (by decide)) (fun i => vFr_hi f (lay.1 (16, 17, 31) (by decide +kernel)).2 (by decide)) (fun i => vFr_hi f (lay.1 (18, 18, 32) (by decide +kernel)).2 (by decide)) (fun i => vFr_hi f (lay.1 (19, 19, 33) (by decide +kernel)).2 (by decide)) (fun i => vFr_hi f (lay.1 (20, 20, 34) (by decide +kernel)).2 (by decide)) (fun i => vFr_hi f (lay.1 (22, 22, 36) (by decide +kernel)).2 (by decide)))
theorem vFr_b {T T' : List Nat} {h h1 h2 : zH} (hT : tExt T T') (b : bFr T h h1) (f : vFr T' h1 h2) : bFr T h h2 := fun p i σ hp h42 h41 h49 => (vFr_get f (hT _ _ hp) h42).trans (b p i σ hp h42 h41 h49)
theorem l2i_0 {r : Int64} (h : 0 < (Int64.toInt32 r).toInt) : r.toInt ≠ 0 := fun e => by
  have := tq_l2i (x := r) (by omega) (by omega)
  omega
/-- all that the making of values gives for what follows -/
theorem made {n m : Int} {ρ : Option Int} {N : Nat} {T T1 : List Nat} {h h1 : zH} (hT : tExt T T1) (hq : T[49]? = some 5) (t66 : T[66]? = some 31) (ok1 : wOK (zPhi (n, m, ρ, true)) N T1 h1) (b : bFr T h h1) (e37 : hi h1 49 37 = hi h 49 13) (e38 : hi h1 49 38 = hins h 49 (hi h 49 9).toNat) : hi h1 49 37 = hi h1 49 13 ∧ hi h1 49 38 = hins h1 49 (hi h1 49 9).toNat := by
  have e13 := bFr_hi b (i := 13) hq (by decide) (by decide) (Or.inr (by decide))
  have e9 := bFr_hi b (i := 9) hq (by decide) (by decide) (Or.inr (by decide))
  have ei := hins_eq (q := 49) (fun i => bFr_hi b (i := i) t66 (by decide) (by decide) (Or.inl (by decide))) (hi h 49 9).toNat
  refine ⟨by rw [e37, e13], ?_⟩
  rw [e38, e9, ei]
theorem fresh0 {n m : Int} {ρ : Option Int} {N : Nat} {T1 : List Nat} {h1 : zH} {st : Int32} (ok1 : wOK (zPhi (n, m, ρ, true)) N T1 h1) (hs0 : 0 ≤ st.toInt) (hs1 : st.toInt ≤ 255) (fr : ∀ w rw g s : Nat, g < 62 → s < 256 → hget h1 49 35 = some (.inl (.ref w)) → hget h1 w g = some (.inl (.ref rw)) → hget h1 rw s = some (.inl (.long (-1)))) : ∃ w rw : Nat, hget h1 49 35 = some (.inl (.ref w)) ∧ hget h1 w (0 : Int32).toInt.toNat = some (.inl (.ref rw)) ∧ hget h1 rw st.toInt.toNat = some (.inl (.long (-1))) := by
  obtain ⟨w, gw, tw⟩ : pRef T1 h1 49 35 41 := ok1.2.1.2.2.2.2.2.2.1 rfl
  obtain ⟨vr, gr, sr⟩ := hOK_get (i := 0) ok1.1 tw (by show _ < 62; decide)
  obtain ⟨rw, rfl, trw⟩ : ∃ q : Nat, vr = .inl (.ref q) ∧ T1[q]? = some 42 := sr
  exact ⟨w, rw, gw, gr, fr w rw 0 st.toInt.toNat (by decide) (by omega) gw gr⟩
theorem c_planOfN {n m : Int} {ρ : Option Int} {N : Nat} {scr : List zV} {d : Nat} {T : List Nat} {h : zH} {b : Int32} {post : Option zV → zH → Bool} (ok : wOK (zPhi (n, m, ρ, true)) N T h) (hb : 0 ≤ b.toInt ∧ b.toInt ≤ 3) (kk : ∀ (y : Int32) (T' : List Nat) (h' : zH), tExt T T' → wOK (zPhi (n, m, ρ, true)) N T' h' → bFr T h h' → (0 < y.toInt → 0 < hcnt h' 49 (hi h' 49 9).toNat) → post (some (.inl (.int y))) h' = true) : zD zprog scr (d + 130) 252 [.inl (.ref 49), .inl (.int b)] h post = true := by
  have hq_0 := ok.2.1.1.2.2.1
  have hq_q := hq_0
  have t66 : T[66]? = some 31 := ((ok.2.1.2.1 49 5 hq_0 (Or.inl rfl)).1.1 (16, 17, 31) (by decide +kernel)).2
  refine zD_intro (E := ze_X5_planOfN) rfl rfl (fun G HW => ?_)
  refine zrn_ok HW 3 (zB_iff.mpr (?_ : G (4, [(0, .inl (.ref 49)), (1, .inl (.int b))], [.inl (.int (61 : Int32)), .inl (.int b), .inl (.ref 49)], h, 0, 0)))
  refine g_callV (E' := ze_X5_beginValuesN) HW rfl rfl (Nat.le_of_ble_eq_true rfl) (Nat.le_of_ble_eq_true rfl) (Nat.le_of_ble_eq_true rfl) ok.1 rfl hq_q rfl (Nat.le_of_ble_eq_true rfl) (c_beginValuesN ok ⟨by omega, by omega⟩ ⟨by decide, by decide⟩ (fun h1 ok1 bf1 ea1 eb1 fr1 => zB_iff.mpr ?_))
  show G (7, [(0, .inl (.ref 49)), (1, .inl (.int b))], [], h1, 0, 0)
  have md1 := made (tExt_rf T) hq_0 t66 ok1 bf1 ea1 eb1
  refine zrn_ok HW 2 (zB_iff.mpr (?_ : G (9, [(0, .inl (.ref 49)), (1, .inl (.int b))], [.inl (.ref 49), .inl (.ref 49)], h1, 0, 0)))
  refine g_callV (E' := ze_X5_standing) HW rfl rfl (Nat.le_of_ble_eq_true rfl) (Nat.le_of_ble_eq_true rfl) (Nat.le_of_ble_eq_true rfl) ok1.1 rfl hq_q rfl (Nat.le_of_ble_eq_true rfl) (c_standing5 ok1 hq_q (ok1.2.1.2.1 49 5 hq_q (Or.inl rfl)).1 (fun st2 hs2 sl2 su2 => zB_iff.mpr ?_))
  show G (12, [(0, .inl (.ref 49)), (1, .inl (.int b))], [.inl (.int st2), .inl (.ref 49)], h1, 0, 0)
  have le2 := std_le ok1.1 hq_q (ok1.2.1.2.1 49 5 hq_q (Or.inl rfl)).1 (ok1.2.1.2.1 49 5 hq_q (Or.inl rfl)).2 hs2
  refine zrn_ok HW 1 (zB_iff.mpr (?_ : G (13, [(0, .inl (.ref 49)), (1, .inl (.int b))], [.inl (.int (0 : Int32)), .inl (.int st2), .inl (.ref 49)], h1, 0, 0)))
  refine g_callV (E' := ze_X5_valueAt) HW rfl rfl (Nat.le_of_ble_eq_true rfl) (Nat.le_of_ble_eq_true rfl) (Nat.le_of_ble_eq_true rfl) ok1.1 rfl hq_q rfl (Nat.le_of_ble_eq_true rfl) (c_valueAt 61 _ 0 (by decide) (by decide) (by decide) (by omega) h1 st2 _ ok1 sl2 su2 (by have z0 : (0 : Int32).toInt = 0 := rfl; have := md1.2; omega) (fun r3 h3 ok3 F3 z3 => zB_iff.mpr ?_))
  show G (16, [(0, .inl (.ref 49)), (1, .inl (.int b))], [.inl (.long r3)], h3, 0, 0)
  refine zrn_ok HW 2 ?_
  refine zret_i rfl rfl (kk _ T h3 (tExt_rf T) ok3 (vFr_b (tExt_rf T) bf1 F3) (fun hy => ?_))
  have lay1 := (ok1.2.1.2.1 49 5 hq_q (Or.inl rfl)).1
  have vq := z3 (fresh0 ok1 sl2 su2 fr1) (l2i_0 hy)
  have dr := vQ_draw ok1.1 hq_q lay1 (ok1.2.1.2.1 49 5 hq_q (Or.inl rfl)).2 hs2 md1.1 md1.2 vq
  rw [vFr_cnt F3 hq_q lay1, vFr_hi F3 hq_q (by decide)]
  exact dr
theorem c_meanOfN {n m : Int} {ρ : Option Int} {N : Nat} {scr : List zV} {d : Nat} {T : List Nat} {h : zH} {b g0 : Int32} {post : Option zV → zH → Bool} (ok : wOK (zPhi (n, m, ρ, true)) N T h) (hb : 0 ≤ b.toInt ∧ b.toInt ≤ 3) (hg : 0 ≤ g0.toInt ∧ g0.toInt ≤ 61) (kk : ∀ (y : Int64) (T' : List Nat) (h' : zH), tExt T T' → wOK (zPhi (n, m, ρ, true)) N T' h' → bFr T h h' → post (some (.inl (.long y))) h' = true) : zD zprog scr (d + 130) 253 [.inl (.ref 49), .inl (.int b), .inl (.int g0)] h post = true := by
  have hq_0 := ok.2.1.1.2.2.1
  have hq_q := hq_0
  have t66 : T[66]? = some 31 := ((ok.2.1.2.1 49 5 hq_0 (Or.inl rfl)).1.1 (16, 17, 31) (by decide +kernel)).2
  refine zD_intro (E := ze_X5_meanOfN) rfl rfl (fun G HW => ?_)
  refine zrn_ok HW 3 (zB_iff.mpr (?_ : G (3, [(0, .inl (.ref 49)), (1, .inl (.int b)), (2, .inl (.int g0))], [.inl (.int g0), .inl (.int b), .inl (.ref 49)], h, 0, 0)))
  refine g_callV (E' := ze_X5_beginValuesN) HW rfl rfl (Nat.le_of_ble_eq_true rfl) (Nat.le_of_ble_eq_true rfl) (Nat.le_of_ble_eq_true rfl) ok.1 rfl hq_q rfl (Nat.le_of_ble_eq_true rfl) (c_beginValuesN ok ⟨by omega, by omega⟩ ⟨by omega, by omega⟩ (fun h1 ok1 bf1 ea1 eb1 fr1 => zB_iff.mpr ?_))
  show G (6, [(0, .inl (.ref 49)), (1, .inl (.int b)), (2, .inl (.int g0))], [], h1, 0, 0)
  have md1 := made (tExt_rf T) hq_0 t66 ok1 bf1 ea1 eb1
  refine zrn_ok HW 2 (zB_iff.mpr (?_ : G (8, [(0, .inl (.ref 49)), (1, .inl (.int b)), (2, .inl (.int g0))], [.inl (.ref 49), .inl (.ref 49)], h1, 0, 0)))
  refine g_callV (E' := ze_X5_standing) HW rfl rfl (Nat.le_of_ble_eq_true rfl) (Nat.le_of_ble_eq_true rfl) (Nat.le_of_ble_eq_true rfl) ok1.1 rfl hq_q rfl (Nat.le_of_ble_eq_true rfl) (c_standing5 ok1 hq_q (ok1.2.1.2.1 49 5 hq_q (Or.inl rfl)).1 (fun st2 hs2 sl2 su2 => zB_iff.mpr ?_))
  show G (11, [(0, .inl (.ref 49)), (1, .inl (.int b)), (2, .inl (.int g0))], [.inl (.int st2), .inl (.ref 49)], h1, 0, 0)
  have le2 := std_le ok1.1 hq_q (ok1.2.1.2.1 49 5 hq_q (Or.inl rfl)).1 (ok1.2.1.2.1 49 5 hq_q (Or.inl rfl)).2 hs2
  refine zrn_ok HW 1 (zB_iff.mpr (?_ : G (12, [(0, .inl (.ref 49)), (1, .inl (.int b)), (2, .inl (.int g0))], [.inl (.int (0 : Int32)), .inl (.int st2), .inl (.ref 49)], h1, 0, 0)))
  refine g_callV (E' := ze_X5_valueAt) HW rfl rfl (Nat.le_of_ble_eq_true rfl) (Nat.le_of_ble_eq_true rfl) (Nat.le_of_ble_eq_true rfl) ok1.1 rfl hq_q rfl (Nat.le_of_ble_eq_true rfl) (c_valueAt 61 _ 0 (by decide) (by decide) (by decide) (by omega) h1 st2 _ ok1 sl2 su2 (by have z0 : (0 : Int32).toInt = 0 := rfl; have := md1.2; omega) (fun r3 h3 ok3 F3 z3 => zB_iff.mpr ?_))
  show G (15, [(0, .inl (.ref 49)), (1, .inl (.int b)), (2, .inl (.int g0))], [.inl (.long r3)], h3, 0, 0)
  refine zrn_ok HW 1 ?_
  exact zret_l rfl rfl (kk _ T h3 (tExt_rf T) ok3 (vFr_b (tExt_rf T) bf1 F3))
theorem c_planOf {n m : Int} {ρ : Option Int} {v : Bool} {N : Nat} {scr : List zV} {d : Nat} {T : List Nat} {h : zH} {b : Int32} {post : Option zV → zH → Bool} (ok : wOK (zPhi (n, m, ρ, v)) N T h) (hN : h.length + 63 ≤ N) (h6 : N ≤ 1000000) (hb : 0 ≤ b.toInt ∧ b.toInt ≤ 3) (kk : ∀ (y : Int32) (T' : List Nat) (h' : zH), tExt T T' → wOK (zPhi (n, m, ρ, true)) N T' h' → bFr T h h' → (0 < y.toInt → 0 < hcnt h' 49 (hi h' 49 9).toNat) → post (some (.inl (.int y))) h' = true) : zD zprog scr (d + 130) 209 [.inl (.ref 49), .inl (.int b)] h post = true := by
  have hq_0 := ok.2.1.1.2.2.1
  have hq_q := hq_0
  have t66 : T[66]? = some 31 := ((ok.2.1.2.1 49 5 hq_0 (Or.inl rfl)).1.1 (16, 17, 31) (by decide +kernel)).2
  refine zD_intro (E := ze_X5_planOf) rfl rfl (fun G HW => ?_)
  refine zrn_ok HW 3 (zB_iff.mpr (?_ : G (4, [(0, .inl (.ref 49)), (1, .inl (.int b))], [.inl (.int (61 : Int32)), .inl (.int b), .inl (.ref 49)], h, 0, 0)))
  refine g_callV (E' := ze_X5_beginValues) HW rfl rfl (Nat.le_of_ble_eq_true rfl) (Nat.le_of_ble_eq_true rfl) (Nat.le_of_ble_eq_true rfl) ok.1 rfl hq_q rfl (Nat.le_of_ble_eq_true rfl) (c_beginValues ok hN h6 ⟨by omega, by omega⟩ ⟨by decide, by decide⟩ (fun T1 h1 m1 ok1 bf1 ea1 eb1 fr1 => zB_iff.mpr ?_))
  show G (7, [(0, .inl (.ref 49)), (1, .inl (.int b))], [], h1, 63, 15934)
  have md1 := made m1 hq_0 t66 ok1 bf1 ea1 eb1
  have hq_q := m1 _ _ hq_q
  refine zrn_ok HW 2 (zB_iff.mpr (?_ : G (9, [(0, .inl (.ref 49)), (1, .inl (.int b))], [.inl (.ref 49), .inl (.ref 49)], h1, 63, 15934)))
  refine g_callV (E' := ze_X5_standing) HW rfl rfl (Nat.le_of_ble_eq_true rfl) (Nat.le_of_ble_eq_true rfl) (Nat.le_of_ble_eq_true rfl) ok1.1 rfl hq_q rfl (Nat.le_of_ble_eq_true rfl) (c_standing5 ok1 hq_q (ok1.2.1.2.1 49 5 hq_q (Or.inl rfl)).1 (fun st2 hs2 sl2 su2 => zB_iff.mpr ?_))
  show G (12, [(0, .inl (.ref 49)), (1, .inl (.int b))], [.inl (.int st2), .inl (.ref 49)], h1, 63, 15934)
  have le2 := std_le ok1.1 hq_q (ok1.2.1.2.1 49 5 hq_q (Or.inl rfl)).1 (ok1.2.1.2.1 49 5 hq_q (Or.inl rfl)).2 hs2
  refine zrn_ok HW 1 (zB_iff.mpr (?_ : G (13, [(0, .inl (.ref 49)), (1, .inl (.int b))], [.inl (.int (0 : Int32)), .inl (.int st2), .inl (.ref 49)], h1, 63, 15934)))
  refine g_callV (E' := ze_X5_valueAt) HW rfl rfl (Nat.le_of_ble_eq_true rfl) (Nat.le_of_ble_eq_true rfl) (Nat.le_of_ble_eq_true rfl) ok1.1 rfl hq_q rfl (Nat.le_of_ble_eq_true rfl) (c_valueAt 61 _ 0 (by decide) (by decide) (by decide) (by omega) h1 st2 _ ok1 sl2 su2 (by have z0 : (0 : Int32).toInt = 0 := rfl; have := md1.2; omega) (fun r3 h3 ok3 F3 z3 => zB_iff.mpr ?_))
  show G (16, [(0, .inl (.ref 49)), (1, .inl (.int b))], [.inl (.long r3)], h3, 63, 15934)
  refine zrn_ok HW 2 ?_
  refine zret_i rfl rfl (kk _ T1 h3 (tExt_tr (tExt_rf T) m1) ok3 (vFr_b m1 bf1 F3) (fun hy => ?_))
  have lay1 := (ok1.2.1.2.1 49 5 hq_q (Or.inl rfl)).1
  have vq := z3 (fresh0 ok1 sl2 su2 fr1) (l2i_0 hy)
  have dr := vQ_draw ok1.1 hq_q lay1 (ok1.2.1.2.1 49 5 hq_q (Or.inl rfl)).2 hs2 md1.1 md1.2 vq
  rw [vFr_cnt F3 hq_q lay1, vFr_hi F3 hq_q (by decide)]
  exact dr
theorem c_meanOf {n m : Int} {ρ : Option Int} {v : Bool} {N : Nat} {scr : List zV} {d : Nat} {T : List Nat} {h : zH} {b g0 : Int32} {post : Option zV → zH → Bool} (ok : wOK (zPhi (n, m, ρ, v)) N T h) (hN : h.length + 63 ≤ N) (h6 : N ≤ 1000000) (hb : 0 ≤ b.toInt ∧ b.toInt ≤ 3) (hg : 0 ≤ g0.toInt ∧ g0.toInt ≤ 61) (kk : ∀ (y : Int64) (T' : List Nat) (h' : zH), tExt T T' → wOK (zPhi (n, m, ρ, true)) N T' h' → bFr T h h' → post (some (.inl (.long y))) h' = true) : zD zprog scr (d + 130) 200 [.inl (.ref 49), .inl (.int b), .inl (.int g0)] h post = true := by
  have hq_0 := ok.2.1.1.2.2.1
  have hq_q := hq_0
  have t66 : T[66]? = some 31 := ((ok.2.1.2.1 49 5 hq_0 (Or.inl rfl)).1.1 (16, 17, 31) (by decide +kernel)).2
  refine zD_intro (E := ze_X5_meanOf) rfl rfl (fun G HW => ?_)
  refine zrn_ok HW 3 (zB_iff.mpr (?_ : G (3, [(0, .inl (.ref 49)), (1, .inl (.int b)), (2, .inl (.int g0))], [.inl (.int g0), .inl (.int b), .inl (.ref 49)], h, 0, 0)))
  refine g_callV (E' := ze_X5_beginValues) HW rfl rfl (Nat.le_of_ble_eq_true rfl) (Nat.le_of_ble_eq_true rfl) (Nat.le_of_ble_eq_true rfl) ok.1 rfl hq_q rfl (Nat.le_of_ble_eq_true rfl) (c_beginValues ok hN h6 ⟨by omega, by omega⟩ ⟨by omega, by omega⟩ (fun T1 h1 m1 ok1 bf1 ea1 eb1 fr1 => zB_iff.mpr ?_))
  show G (6, [(0, .inl (.ref 49)), (1, .inl (.int b)), (2, .inl (.int g0))], [], h1, 63, 15934)
  have md1 := made m1 hq_0 t66 ok1 bf1 ea1 eb1
  have hq_q := m1 _ _ hq_q
  refine zrn_ok HW 2 (zB_iff.mpr (?_ : G (8, [(0, .inl (.ref 49)), (1, .inl (.int b)), (2, .inl (.int g0))], [.inl (.ref 49), .inl (.ref 49)], h1, 63, 15934)))
  refine g_callV (E' := ze_X5_standing) HW rfl rfl (Nat.le_of_ble_eq_true rfl) (Nat.le_of_ble_eq_true rfl) (Nat.le_of_ble_eq_true rfl) ok1.1 rfl hq_q rfl (Nat.le_of_ble_eq_true rfl) (c_standing5 ok1 hq_q (ok1.2.1.2.1 49 5 hq_q (Or.inl rfl)).1 (fun st2 hs2 sl2 su2 => zB_iff.mpr ?_))
  show G (11, [(0, .inl (.ref 49)), (1, .inl (.int b)), (2, .inl (.int g0))], [.inl (.int st2), .inl (.ref 49)], h1, 63, 15934)
  have le2 := std_le ok1.1 hq_q (ok1.2.1.2.1 49 5 hq_q (Or.inl rfl)).1 (ok1.2.1.2.1 49 5 hq_q (Or.inl rfl)).2 hs2
  refine zrn_ok HW 1 (zB_iff.mpr (?_ : G (12, [(0, .inl (.ref 49)), (1, .inl (.int b)), (2, .inl (.int g0))], [.inl (.int (0 : Int32)), .inl (.int st2), .inl (.ref 49)], h1, 63, 15934)))
  refine g_callV (E' := ze_X5_valueAt) HW rfl rfl (Nat.le_of_ble_eq_true rfl) (Nat.le_of_ble_eq_true rfl) (Nat.le_of_ble_eq_true rfl) ok1.1 rfl hq_q rfl (Nat.le_of_ble_eq_true rfl) (c_valueAt 61 _ 0 (by decide) (by decide) (by decide) (by omega) h1 st2 _ ok1 sl2 su2 (by have z0 : (0 : Int32).toInt = 0 := rfl; have := md1.2; omega) (fun r3 h3 ok3 F3 z3 => zB_iff.mpr ?_))
  show G (15, [(0, .inl (.ref 49)), (1, .inl (.int b)), (2, .inl (.int g0))], [.inl (.long r3)], h3, 63, 15934)
  refine zrn_ok HW 1 ?_
  exact zret_l rfl rfl (kk _ T1 h3 (tExt_tr (tExt_rf T) m1) ok3 (vFr_b m1 bf1 F3))
