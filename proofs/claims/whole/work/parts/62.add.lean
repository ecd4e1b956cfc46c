theorem p_putJ {P : pP} {T : List Nat} {h : zH} {q τ p0 i0 τ0 : Nat} {v : zV} (hq : T[q]? = some τ) (hτ : τ = 5 ∨ τ = 6) (ht : T[p0]? = some τ0) (hx : pOwn q p0 τ0 i0) (hj : pJ (hput h p0 i0 v) q) (hp : zPhi P T h) : zPhi P T (hput h p0 i0 v) := by
  refine p_keep2 hq hτ (fun p σ i h1 h2 h3 => hget_put_ne ?_) hj hp
  by_cases e : p = p0
  · refine Or.inr (fun e2 => ?_)
    subst e
    subst e2
    rw [ht] at h1
    cases h1
    exact h3 hx
  · exact Or.inl e
/-- an array of pJ's is written behind the things that there are -/
theorem pJ_new {h : zH} {q p0 i0 : Nat} {v : zV} (hn : hi h q 17 ≤ (i0 : Int)) (hx : p0 = q + 19 ∨ p0 = q + 22) (hj : pJ h q) : pJ (hput h p0 i0 v) q := by
  intro t ht
  have e17 : hi (hput h p0 i0 v) q 17 = hi h q 17 := hi_put_ne (Or.inl (by omega))
  have e9 : hi (hput h p0 i0 v) q 9 = hi h q 9 := hi_put_ne (Or.inl (by omega))
  have a17 : ∀ j, hi (hput h p0 i0 v) (q + 17) j = hi h (q + 17) j := fun j => hi_put_ne (Or.inl (by omega))
  rw [e17] at ht
  have a19 : ∀ j : Nat, (j : Int) < hi h q 17 → hi (hput h p0 i0 v) (q + 19) j = hi h (q + 19) j := fun j hj => hi_put_ne (Or.inr (by omega))
  have a22 : ∀ j : Nat, (j : Int) < hi h q 17 → hi (hput h p0 i0 v) (q + 22) j = hi h (q + 22) j := fun j hj => hi_put_ne (Or.inr (by omega))
  rw [e9, a17, a19 t ht, a22 t ht]
  refine ⟨(hj t ht).1, (hj t ht).2.1, fun u hu => ?_⟩
  rw [a19 u (by omega)]
  exact (hj t ht).2.2 u hu
theorem c_addBuyer {P : pP} {N : Nat} {scr : List zV} {d : Nat} {T : List Nat} {h : zH} {x : Int32} {post : Option zV → zH → Bool} (ok : wOK (zPhi P) N T h) (hb : hi h 49 23 ≤ 3) (kk : ∀ h' : zH, wOK (zPhi P) N T h' → post none h' = true) : zD zprog scr (d + 1) 152 [.inl (.ref 49), .inl (.int x)] h post = true := by
  have hq_q := ok.2.1.1.2.2.1
  have hst := p_stab P
  refine zD_intro (E := ze_X5_addBuyer) rfl rfl (fun G HW => ?_)
  have loop : ∀ (k : Nat) (t : Int32) (hl : zH), wOK (zPhi P) N T hl → 0 ≤ t.toInt → t.toInt ≤ 8 → hi hl 49 23 ≤ 3 → 8 - t.toInt < (k : Int) → G (12, [(2, .inl (.int t)), (0, .inl (.ref 49)), (1, .inl (.int x))], [], hl, 0, 0) := by
    intro k
    induction k with
    | zero =>
      intro t hl okl y_0 y_1 y_2 hm
      exfalso
      omega
    | succ k ih =>
      intro t hl okl y_0 y_1 y_2 hm
      refine zrn_ok HW 3 (zbr_ex (cd := .ge) (x := t) (y := (8 : Int32)) (fun hc1 => zB_iff.mpr ?_) (fun hc1 => zB_iff.mpr ?_))
      · -- pc 36
        have i1 : t.toInt ≥ (8 : Int) := zop_int.mp hc1
        refine zrn_ok HW 2 (zB_iff.mpr (?_ : G (38, [(2, .inl (.int t)), (0, .inl (.ref 49)), (1, .inl (.int x))], [.inl (.ref 49), .inl (.ref 49)], hl, 0, 0)))
        obtain ⟨x2, g2, e2, l2, u2⟩ := hi_val (i := 23) okl.1 hq_q (by decide) rfl
        have l2 : (0 : Int) ≤ x2.toInt := l2
        have u2 : x2.toInt ≤ (4 : Int) := u2
        refine g_getf HW rfl okl.1 hq_q rfl g2 ?_
        have y3 : -2147483648 ≤ x2.toInt + (1 : Int) → x2.toInt + (1 : Int) ≤ 2147483647 → (x2 + (1 : Int32)).toInt = x2.toInt + (1 : Int) := t_addC (x := x2) (y := (1 : Int32))
        refine zrn_ok HW 2 (zB_iff.mpr (?_ : G (43, [(2, .inl (.int t)), (0, .inl (.ref 49)), (1, .inl (.int x))], [.inl (.int (x2 + (1 : Int32))), .inl (.ref 49)], hl, 0, 0)))
        have ok4 : wOK (zPhi P) N T (hput hl 49 23 (.inl (.int (x2 + (1 : Int32))))) := wOK_put hst okl hq_q rfl ⟨_, rfl, (by show (0 : Int) ≤ _; omega), (by show _ ≤ (4 : Int); omega)⟩
        refine g_putf HW rfl okl.1 hq_q rfl (by decide) rfl ?_
        refine zrn_ok HW 1 ?_
        exact zret_v rfl (kk _ ok4)
      · -- pc 18
        have i1 : ¬ (t.toInt ≥ (8 : Int)) := fun e => hc1 (zop_int.mpr e)
        refine zrn_ok HW 1 (zB_iff.mpr (?_ : G (19, [(2, .inl (.int t)), (0, .inl (.ref 49)), (1, .inl (.int x))], [.inl (.ref 49)], hl, 0, 0)))
        have o6 : hget hl 49 25 = some (.inl (.ref 73)) := ((okl.2.1.2.1 49 5 hq_q (Or.inl rfl)).1.1 (25, 24, 38) (by decide +kernel)).1
        have t6 : T[73]? = some 38 := ((okl.2.1.2.1 49 5 hq_q (Or.inl rfl)).1.1 (25, 24, 38) (by decide +kernel)).2
        refine g_getf HW rfl okl.1 hq_q rfl o6 ?_
        refine zrn_ok HW 1 (zB_iff.mpr (?_ : G (23, [(2, .inl (.int t)), (0, .inl (.ref 49)), (1, .inl (.int x))], [.inl (.ref 49), .inl (.ref 73)], hl, 0, 0)))
        obtain ⟨x7, g7, e7, l7, u7⟩ := hi_val (i := 23) okl.1 hq_q (by decide) rfl
        have l7 : (0 : Int) ≤ x7.toInt := l7
        have u7 : x7.toInt ≤ (4 : Int) := u7
        refine g_getf HW rfl okl.1 hq_q rfl g7 ?_
        obtain ⟨v8, g8, s8⟩ := hOK_get (i := (x7).toInt.toNat) okl.1 t6 (by show _ < 4; omega)
        obtain ⟨q8, rfl, hq8⟩ : ∃ q : Nat, v8 = .inl (.ref q) ∧ T[q]? = some 39 := s8
        refine g_aald HW rfl okl.1 t6 ⟨by decide, by decide⟩ (by omega) g8 ?_
        refine zrn_ok HW 2 (zB_iff.mpr (?_ : G (29, [(2, .inl (.int t)), (0, .inl (.ref 49)), (1, .inl (.int x))], [.inl (.int (0 : Int32)), .inl (.int t), .inl (.ref q8)], hl, 0, 0)))
        have ok9 : wOK (zPhi P) N T (hput hl q8 (t).toInt.toNat (.inl (.int (0 : Int32)))) := wOK_put hst okl hq8 rfl ⟨_, rfl, (by show ((-2147483648) : Int) ≤ Int32.toInt (0 : Int32); decide), (by show Int32.toInt (0 : Int32) ≤ (2147483647 : Int); decide)⟩
        refine g_iast HW rfl okl.1 hq8 rfl (by omega) (by show _ < (8 : Int); omega) ?_
        have y10 : -2147483648 ≤ t.toInt + (1 : Int) → t.toInt + (1 : Int) ≤ 2147483647 → (t + (1 : Int32)).toInt = t.toInt + (1 : Int) := t_addC (x := t) (y := (1 : Int32))
        refine zrn_ok HW 2 (zB_iff.mpr (?_ : G (12, [(2, .inl (.int (t + (1 : Int32)))), (0, .inl (.ref 49)), (1, .inl (.int x))], [], (hput hl q8 (t).toInt.toNat (.inl (.int (0 : Int32)))), 0, 0)))
        have ez : hi (hput hl q8 (t).toInt.toNat (.inl (.int (0 : Int32)))) 49 23 = hi hl 49 23 := hi_put_ne (Or.inl (ty_ne hq_q hq8 (by decide)))
        exact ih (t + (1 : Int32)) _ ok9 (by omega) (by omega) (by omega) (by omega)
  refine zrn_ok HW 1 (zB_iff.mpr (?_ : G (1, [(0, .inl (.ref 49)), (1, .inl (.int x))], [.inl (.ref 49)], h, 0, 0)))
  have o2 : hget h 49 24 = some (.inl (.ref 72)) := ((ok.2.1.2.1 49 5 hq_q (Or.inl rfl)).1.1 (24, 23, 37) (by decide +kernel)).1
  have t2 : T[72]? = some 37 := ((ok.2.1.2.1 49 5 hq_q (Or.inl rfl)).1.1 (24, 23, 37) (by decide +kernel)).2
  refine g_getf HW rfl ok.1 hq_q rfl o2 ?_
  refine zrn_ok HW 1 (zB_iff.mpr (?_ : G (5, [(0, .inl (.ref 49)), (1, .inl (.int x))], [.inl (.ref 49), .inl (.ref 72)], h, 0, 0)))
  obtain ⟨x3, g3, e3, l3, u3⟩ := hi_val (i := 23) ok.1 hq_q (by decide) rfl
  have l3 : (0 : Int) ≤ x3.toInt := l3
  have u3 : x3.toInt ≤ (4 : Int) := u3
  refine g_getf HW rfl ok.1 hq_q rfl g3 ?_
  refine zrn_ok HW 1 (zB_iff.mpr (?_ : G (9, [(0, .inl (.ref 49)), (1, .inl (.int x))], [.inl (.int x), .inl (.int x3), .inl (.ref 72)], h, 0, 0)))
  have ok4 : wOK (zPhi P) N T (hput h 72 (x3).toInt.toNat (.inl (.int x))) := wOK_put hst ok t2 rfl ⟨_, rfl, t_lo _, t_hi _⟩
  refine g_iast HW rfl ok.1 t2 rfl (by omega) (by show _ < (4 : Int); omega) ?_
  refine zrn_ok HW 2 (zB_iff.mpr (?_ : G (12, [(2, .inl (.int (0 : Int32))), (0, .inl (.ref 49)), (1, .inl (.int x))], [], (hput h 72 (x3).toInt.toNat (.inl (.int x))), 0, 0)))
  have ez : hi (hput h 72 (x3).toInt.toNat (.inl (.int x))) 49 23 = hi h 49 23 := hi_put_ne (Or.inl (by decide))
  exact loop 9 (0 : Int32) _ ok4 (by decide) (by decide) (by omega) (by decide)
theorem tq_X5_buyer_0 {scr : List zV} {P : pP} : tM zty (zPhi P) zprog scr zhts zsm 164 te_X5_buyer_0 := by
  have hst := p_stab P
  refine t_hand2 (E := ze_X5_buyer) (D0 := 1) rfl rfl (by decide +kernel) (fun d T h vs post G hd hok hΦ hlen hvs hp IH HW => ?_)
  obtain ⟨d, rfl⟩ : ∃ d', d = d' + 1 := ⟨d - 1, by omega⟩
  obtain ⟨v_q, vs, rfl, k_q, hvs⟩ := okAs_cons hvs
  obtain ⟨v_x, vs, rfl, k_x, hvs⟩ := okAs_cons hvs
  obtain rfl := okAs_nil hvs
  obtain ⟨q, rfl, hq_q⟩ := tref_sp rfl k_q
  have hq_q : T[q]? = some 5 := hq_q
  obtain ⟨x, rfl, bl_x, bu_x⟩ := tint_sp rfl k_x
  have bl_x : ((-2147483648) : Int) ≤ x.toInt := bl_x
  have bu_x : x.toInt ≤ (2147483647 : Int) := bu_x
  have ok : wOK (zPhi P) h.length T h := ⟨hok, hΦ, Nat.le_refl _⟩
  have RET : ∀ (y : Int32) (T' : List Nat) (h' : zH), tExt T T' → wOK (zPhi P) h.length T' h' → post (some (.inl (.int y))) h' = true := fun y T' h' m' ok' => hp _ T' h' m' ok'.1 ok'.2.1 (by have := ok'.2.2; omega) ⟨_, rfl, okA_If y, fun c hc => by cases hc⟩
  obtain rfl := hΦ.1.2.2.2.2.2 q hq_q
  refine zrn_ok HW 4 (zB_iff.mpr (?_ : G (6, [(0, .inl (.ref 49)), (1, .inl (.int x))], [.inl (.long (9999 : Int64)), .inl (.long (0 : Int64)), .inl (.long (Int32.toInt64 x))], h, 0, 0)))
  refine g_callS (b := 0) (E' := ze_X5_in) HW (Or.inl rfl) rfl rfl (Nat.le_of_ble_eq_true rfl) (Nat.le_of_ble_eq_true rfl) (Nat.le_of_ble_eq_true rfl) (Nat.le_of_ble_eq_true rfl) (c_in (fun a1 b1 => zB_iff.mpr ?_) (fun n1 => zB_iff.mpr ?_))
  · show G (9, [(0, .inl (.ref 49)), (1, .inl (.int x))], [.inl (.int (1 : Int32))], h, 0, 0)
    have a1 : (0 : Int) ≤ x.toInt := by have r0 : (Int32.toInt64 x).toInt = x.toInt := q_i2l _; have r1 : (0 : Int64).toInt = 0 := rfl; have r2 : (9999 : Int64).toInt = 9999 := rfl; omega
    have b1 : x.toInt ≤ (9999 : Int) := by have r0 : (Int32.toInt64 x).toInt = x.toInt := q_i2l _; have r1 : (0 : Int64).toInt = 0 := rfl; have r2 : (9999 : Int64).toInt = 9999 := rfl; omega
    refine zrn_ok HW 2 (zB_iff.mpr (?_ : G (20, [(0, .inl (.ref 49)), (1, .inl (.int x))], [.inl (.ref 49)], h, 0, 0)))
    obtain ⟨x2, g2, e2, l2, u2⟩ := hi_val (i := 23) ok.1 hq_q (by decide) rfl
    have l2 : (0 : Int) ≤ x2.toInt := l2
    have u2 : x2.toInt ≤ (4 : Int) := u2
    refine g_getf HW rfl ok.1 hq_q rfl g2 ?_
    refine zrn_ok HW 2 (zbr_ex (cd := .ne) (x := x2) (y := (4 : Int32)) (fun hc3 => zB_iff.mpr ?_) (fun hc3 => zB_iff.mpr ?_))
    · -- pc 34
      have i3 : ¬ x2.toInt = (4 : Int) := zop_int.mp hc3
      refine zrn_ok HW 2 (zB_iff.mpr (?_ : G (36, [(0, .inl (.ref 49)), (1, .inl (.int x))], [.inl (.int x), .inl (.ref 49)], h, 0, 0)))
      refine g_callV (E' := ze_X5_addBuyer) HW rfl rfl (Nat.le_of_ble_eq_true rfl) (Nat.le_of_ble_eq_true rfl) (Nat.le_of_ble_eq_true rfl) ok.1 rfl hq_q rfl (Nat.le_of_ble_eq_true rfl) (c_addBuyer ok (by omega) (fun h4 ok4 => zB_iff.mpr ?_))
      show G (39, [(0, .inl (.ref 49)), (1, .inl (.int x))], [], h4, 0, 0)
      refine zrn_ok HW 1 (zB_iff.mpr (?_ : G (40, [(0, .inl (.ref 49)), (1, .inl (.int x))], [.inl (.ref 49)], h4, 0, 0)))
      obtain ⟨x5, g5, e5, l5, u5⟩ := hi_val (i := 23) ok4.1 hq_q (by decide) rfl
      have l5 : (0 : Int) ≤ x5.toInt := l5
      have u5 : x5.toInt ≤ (4 : Int) := u5
      refine g_getf HW rfl ok4.1 hq_q rfl g5 ?_
      have y6 : -2147483648 ≤ x5.toInt - (1 : Int) → x5.toInt - (1 : Int) ≤ 2147483647 → (x5 - (1 : Int32)).toInt = x5.toInt - (1 : Int) := t_subC (x := x5) (y := (1 : Int32))
      refine zrn_ok HW 3 ?_
      exact zret_i rfl rfl (RET (x5 - (1 : Int32)) T h4 (tExt_rf T) ok4)
    · -- pc 27
      have i3 : ¬ (¬ x2.toInt = (4 : Int)) := fun e => hc3 (zop_int.mpr e)
      refine zrn_ok HW 2 (zB_iff.mpr (?_ : G (30, [(0, .inl (.ref 49)), (1, .inl (.int x))], [.inl (.int (-6 : Int32)), .inl (.ref 49)], h, 0, 0)))
      refine g_tV (e := te_X5_refuse_0) (E' := ze_X5_refuse) HW (tLow_of IH hd) rfl rfl (show te_X5_refuse_0 ∈ [te_X5_refuse_0] from List.mem_cons_self) (by decide +kernel) (Nat.le_of_ble_eq_true rfl) ⟨rfl, rfl⟩ (by decide) ok.1 ok.2.1 rfl hq_q rfl (Nat.le_of_ble_eq_true rfl) ⟨⟨_, rfl, hq_q⟩, okA_I (by decide) (by decide), trivial⟩ (fun v7 T7 h7 m7 k7 f7 lh7 r7 => ?_)
      obtain ⟨w7, rfl, hw7, cd7⟩ := r7
      obtain ⟨x7, rfl, l7, u7⟩ := tint_sp rfl hw7
      have l7 : ((-6) : Int) ≤ x7.toInt := l7
      have u7 : x7.toInt ≤ ((-2) : Int) := u7
      have ok7 : wOK (zPhi P) h.length T7 h7 := ⟨k7, f7, Nat.le_trans lh7 ok.2.2⟩
      have hq_q := m7 _ _ hq_q
      show G (33, [(0, .inl (.ref 49)), (1, .inl (.int x))], [.inl (.int x7)], h7, 0, 0)
      refine zrn_ok HW 1 ?_
      exact zret_i rfl rfl (RET x7 T7 h7 (tExt_tr (tExt_rf T) m7) ok7)
  · show G (9, [(0, .inl (.ref 49)), (1, .inl (.int x))], [.inl (.int (0 : Int32))], h, 0, 0)
    have n1 : ¬ ((0 : Int) ≤ x.toInt ∧ x.toInt ≤ (9999 : Int)) := by have r0 : (Int32.toInt64 x).toInt = x.toInt := q_i2l _; have r1 : (0 : Int64).toInt = 0 := rfl; have r2 : (9999 : Int64).toInt = 9999 := rfl; omega
    refine zrn_ok HW 3 (zB_iff.mpr (?_ : G (15, [(0, .inl (.ref 49)), (1, .inl (.int x))], [.inl (.int (-2 : Int32)), .inl (.ref 49)], h, 0, 0)))
    refine g_tV (e := te_X5_refuse_0) (E' := ze_X5_refuse) HW (tLow_of IH hd) rfl rfl (show te_X5_refuse_0 ∈ [te_X5_refuse_0] from List.mem_cons_self) (by decide +kernel) (Nat.le_of_ble_eq_true rfl) ⟨rfl, rfl⟩ (by decide) ok.1 ok.2.1 rfl hq_q rfl (Nat.le_of_ble_eq_true rfl) ⟨⟨_, rfl, hq_q⟩, okA_I (by decide) (by decide), trivial⟩ (fun v8 T8 h8 m8 k8 f8 lh8 r8 => ?_)
    obtain ⟨w8, rfl, hw8, cd8⟩ := r8
    obtain ⟨x8, rfl, l8, u8⟩ := tint_sp rfl hw8
    have l8 : ((-6) : Int) ≤ x8.toInt := l8
    have u8 : x8.toInt ≤ ((-2) : Int) := u8
    have ok8 : wOK (zPhi P) h.length T8 h8 := ⟨k8, f8, Nat.le_trans lh8 ok.2.2⟩
    have hq_q := m8 _ _ hq_q
    show G (18, [(0, .inl (.ref 49)), (1, .inl (.int x))], [.inl (.int x8)], h8, 0, 0)
    refine zrn_ok HW 1 ?_
    exact zret_i rfl rfl (RET x8 T8 h8 (tExt_tr (tExt_rf T) m8) ok8)
theorem aT_pJ {T : List Nat} {h hA hl : zH} {y nT n1 : Int32} (hj : pJ h 49) (eT : hi h 49 17 = nT.toInt) (lT : 0 ≤ nT.toInt) (hy : 1 ≤ y.toInt ∧ y.toInt ≤ hi h 49 9) (ho : hi h 66 y.toInt.toNat = 0) (hu : ∀ u : Nat, (u : Int) < hi h 49 17 → hi h 68 u ≠ y.toInt) (f9 : ∀ j, hi hA 49 j = hi h 49 j) (f66 : ∀ j, hi hA 66 j = hi h 66 j) (f68 : ∀ j, j ≠ nT.toInt.toNat → hi hA 68 j = hi h 68 j) (f68n : hi hA 68 nT.toInt.toNat = y.toInt) (f71 : ∀ j, j ≠ nT.toInt.toNat → hi hA 71 j = hi h 71 j) (fr : ∀ p i : Nat, T[p]? ≠ some 39 → hi hl p i = hi hA p i) (t5 : T[49]? = some 5) (t66 : T[66]? = some 31) (t68 : T[68]? = some 33) (t71 : T[71]? = some 36) (e1 : hi (hput hl 49 17 (.inl (.int n1))) 49 17 = n1.toInt) (e2 : n1.toInt = nT.toInt + 1) : pJ (hput hl 49 17 (.inl (.int n1))) 49 := by
  intro t ht
  rw [e1, e2] at ht
  have g9 : hi (hput hl 49 17 (.inl (.int n1))) 49 9 = hi h 49 9 := by rw [hi_put_ne (Or.inr (by decide)), fr 49 9 (by rw [t5]; decide), f9]
  have g66 : ∀ j, hi (hput hl 49 17 (.inl (.int n1))) (49 + 17) j = hi h 66 j := fun j => by rw [hi_put_ne (Or.inl (by decide)), fr _ j (by rw [t66]; decide), f66]
  have g68 : ∀ j, hi (hput hl 49 17 (.inl (.int n1))) (49 + 19) j = hi hA 68 j := fun j => by rw [hi_put_ne (Or.inl (by decide)), fr _ j (by rw [t68]; decide)]
  have g71 : ∀ j, hi (hput hl 49 17 (.inl (.int n1))) (49 + 22) j = hi hA 71 j := fun j => by rw [hi_put_ne (Or.inl (by decide)), fr _ j (by rw [t71]; decide)]
  rw [g9, g66, g68, g71]
  by_cases e : t = nT.toInt.toNat
  · subst e
    rw [f68n]
    refine ⟨hy, fun _ => ho, fun u hu2 => ?_⟩
    rw [g68, f68 u (by omega)]
    exact hu u (by omega)
  · rw [f68 t e, f71 t e]
    refine ⟨(hj t (by omega)).1, (hj t (by omega)).2.1, fun u hu2 => ?_⟩
    rw [g68, f68 u (by omega)]
    exact (hj t (by omega)).2.2 u hu2
theorem c_addThing {P : pP} {N : Nat} {scr : List zV} {d : Nat} {T : List Nat} {h : zH} {x y z : Int32} {post : Option zV → zH → Bool} (ok : wOK (zPhi P) N T h) (hx : 0 ≤ x.toInt ∧ x.toInt ≤ 5) (hy : 1 ≤ y.toInt ∧ y.toInt ≤ hi h 49 9) (hz : 0 ≤ z.toInt ∧ z.toInt ≤ 9) (hn : hi h 49 17 ≤ 7) (ho : hi h 66 y.toInt.toNat = 0) (hu : ∀ u : Nat, (u : Int) < hi h 49 17 → hi h 68 u ≠ y.toInt) (kk : ∀ h' : zH, wOK (zPhi P) N T h' → post none h' = true) : zD zprog scr (d + 1) 153 [.inl (.ref 49), .inl (.int x), .inl (.int y), .inl (.int z)] h post = true := by
  have hq_q := ok.2.1.1.2.2.1
  have hst := p_stab P
  obtain ⟨lay, hj⟩ := ok.2.1.2.1 49 5 hq_q (Or.inl rfl)
  obtain ⟨nT, gT, eT, lT, uT⟩ := hi_val (i := 17) ok.1 hq_q (by decide) rfl
  have lT : (0 : Int) ≤ nT.toInt := lT
  obtain ⟨sl, -, eS, lS, uS⟩ := hi_val (i := 9) ok.1 hq_q (by decide) rfl
  have uS : sl.toInt ≤ (60 : Int) := uS
  have t68 : T[68]? = some 33 := (lay.1 (19, 19, 33) (by decide +kernel)).2
  have t71 : T[71]? = some 36 := (lay.1 (22, 22, 36) (by decide +kernel)).2
  have t66 : T[66]? = some 31 := (lay.1 (16, 17, 31) (by decide +kernel)).2
  refine zD_intro (E := ze_X5_addThing) rfl rfl (fun G HW => ?_)
  refine zrn_ok HW 1 (zB_iff.mpr (?_ : G (1, [(0, .inl (.ref 49)), (1, .inl (.int x)), (2, .inl (.int y)), (3, .inl (.int z))], [.inl (.ref 49)], h, 0, 0)))
  have o2 : hget h 49 18 = some (.inl (.ref 67)) := ((ok.2.1.2.1 49 5 hq_q (Or.inl rfl)).1.1 (18, 18, 32) (by decide +kernel)).1
  have t2 : T[67]? = some 32 := ((ok.2.1.2.1 49 5 hq_q (Or.inl rfl)).1.1 (18, 18, 32) (by decide +kernel)).2
  refine g_getf HW rfl ok.1 hq_q rfl o2 ?_
  refine zrn_ok HW 1 (zB_iff.mpr (?_ : G (5, [(0, .inl (.ref 49)), (1, .inl (.int x)), (2, .inl (.int y)), (3, .inl (.int z))], [.inl (.ref 49), .inl (.ref 67)], h, 0, 0)))
  have g4 : hget h 49 17 = some (.inl (.int nT)) := gT
  refine g_getf HW rfl ok.1 hq_q rfl g4 ?_
  refine zrn_ok HW 1 (zB_iff.mpr (?_ : G (9, [(0, .inl (.ref 49)), (1, .inl (.int x)), (2, .inl (.int y)), (3, .inl (.int z))], [.inl (.int x), .inl (.int nT), .inl (.ref 67)], h, 0, 0)))
  have ok5 : wOK (zPhi P) N T (hput h 67 (nT).toInt.toNat (.inl (.int x))) := wOK_put hst ok t2 rfl ⟨_, rfl, (by show (0 : Int) ≤ _; omega), (by show _ ≤ (5 : Int); omega)⟩
  refine g_iast HW rfl ok.1 t2 rfl (by omega) (by show _ < (8 : Int); omega) ?_
  refine zrn_ok HW 1 (zB_iff.mpr (?_ : G (11, [(0, .inl (.ref 49)), (1, .inl (.int x)), (2, .inl (.int y)), (3, .inl (.int z))], [.inl (.ref 49)], (hput h 67 (nT).toInt.toNat (.inl (.int x))), 0, 0)))
  have o7 : hget (hput h 67 (nT).toInt.toNat (.inl (.int x))) 49 19 = some (.inl (.ref 68)) := ((ok5.2.1.2.1 49 5 hq_q (Or.inl rfl)).1.1 (19, 19, 33) (by decide +kernel)).1
  have t7 : T[68]? = some 33 := ((ok5.2.1.2.1 49 5 hq_q (Or.inl rfl)).1.1 (19, 19, 33) (by decide +kernel)).2
  refine g_getf HW rfl ok5.1 hq_q rfl o7 ?_
  refine zrn_ok HW 1 (zB_iff.mpr (?_ : G (15, [(0, .inl (.ref 49)), (1, .inl (.int x)), (2, .inl (.int y)), (3, .inl (.int z))], [.inl (.ref 49), .inl (.ref 68)], (hput h 67 (nT).toInt.toNat (.inl (.int x))), 0, 0)))
  have g9 : hget (hput h 67 (nT).toInt.toNat (.inl (.int x))) 49 17 = some (.inl (.int nT)) := (hget_put_ne (Or.inl (by decide))).trans (gT)
  refine g_getf HW rfl ok5.1 hq_q rfl g9 ?_
  refine zrn_ok HW 1 (zB_iff.mpr (?_ : G (19, [(0, .inl (.ref 49)), (1, .inl (.int x)), (2, .inl (.int y)), (3, .inl (.int z))], [.inl (.int y), .inl (.int nT), .inl (.ref 68)], (hput h 67 (nT).toInt.toNat (.inl (.int x))), 0, 0)))
  have ok10 : wOK (zPhi P) N T (hput (hput h 67 (nT).toInt.toNat (.inl (.int x))) 68 (nT).toInt.toNat (.inl (.int y))) := ⟨hOK_put ok5.1 t7 ⟨_, rfl, (by show (0 : Int) ≤ _; omega), (by show _ ≤ (60 : Int); omega)⟩, p_putJ hq_q (Or.inl rfl) t68 (Or.inr (Or.inr (Or.inl ⟨rfl, rfl⟩))) (pJ_new (by rw [hi_put_ne (Or.inl (by decide)), eT]; omega) (Or.inl rfl) (ok5.2.1.2.1 49 5 hq_q (Or.inl rfl)).2) ok5.2.1, by rw [hput_len]; exact ok5.2.2⟩
  refine g_iast HW rfl ok5.1 t7 rfl (by omega) (by show _ < (8 : Int); omega) ?_
  refine zrn_ok HW 1 (zB_iff.mpr (?_ : G (21, [(0, .inl (.ref 49)), (1, .inl (.int x)), (2, .inl (.int y)), (3, .inl (.int z))], [.inl (.ref 49)], (hput (hput h 67 (nT).toInt.toNat (.inl (.int x))) 68 (nT).toInt.toNat (.inl (.int y))), 0, 0)))
  have o12 : hget (hput (hput h 67 (nT).toInt.toNat (.inl (.int x))) 68 (nT).toInt.toNat (.inl (.int y))) 49 20 = some (.inl (.ref 69)) := ((ok10.2.1.2.1 49 5 hq_q (Or.inl rfl)).1.1 (20, 20, 34) (by decide +kernel)).1
  have t12 : T[69]? = some 34 := ((ok10.2.1.2.1 49 5 hq_q (Or.inl rfl)).1.1 (20, 20, 34) (by decide +kernel)).2
  refine g_getf HW rfl ok10.1 hq_q rfl o12 ?_
  refine zrn_ok HW 1 (zB_iff.mpr (?_ : G (25, [(0, .inl (.ref 49)), (1, .inl (.int x)), (2, .inl (.int y)), (3, .inl (.int z))], [.inl (.ref 49), .inl (.ref 69)], (hput (hput h 67 (nT).toInt.toNat (.inl (.int x))) 68 (nT).toInt.toNat (.inl (.int y))), 0, 0)))
  have g14 : hget (hput (hput h 67 (nT).toInt.toNat (.inl (.int x))) 68 (nT).toInt.toNat (.inl (.int y))) 49 17 = some (.inl (.int nT)) := (hget_put_ne (Or.inl (by decide))).trans ((hget_put_ne (Or.inl (by decide))).trans (gT))
  refine g_getf HW rfl ok10.1 hq_q rfl g14 ?_
  refine zrn_ok HW 1 (zB_iff.mpr (?_ : G (29, [(0, .inl (.ref 49)), (1, .inl (.int x)), (2, .inl (.int y)), (3, .inl (.int z))], [.inl (.int z), .inl (.int nT), .inl (.ref 69)], (hput (hput h 67 (nT).toInt.toNat (.inl (.int x))) 68 (nT).toInt.toNat (.inl (.int y))), 0, 0)))
  have ok15 : wOK (zPhi P) N T (hput (hput (hput h 67 (nT).toInt.toNat (.inl (.int x))) 68 (nT).toInt.toNat (.inl (.int y))) 69 (nT).toInt.toNat (.inl (.int z))) := wOK_put hst ok10 t12 rfl ⟨_, rfl, (by show (0 : Int) ≤ _; omega), (by show _ ≤ (9 : Int); omega)⟩
  refine g_iast HW rfl ok10.1 t12 rfl (by omega) (by show _ < (8 : Int); omega) ?_
  refine zrn_ok HW 1 (zB_iff.mpr (?_ : G (31, [(0, .inl (.ref 49)), (1, .inl (.int x)), (2, .inl (.int y)), (3, .inl (.int z))], [.inl (.ref 49)], (hput (hput (hput h 67 (nT).toInt.toNat (.inl (.int x))) 68 (nT).toInt.toNat (.inl (.int y))) 69 (nT).toInt.toNat (.inl (.int z))), 0, 0)))
  have o17 : hget (hput (hput (hput h 67 (nT).toInt.toNat (.inl (.int x))) 68 (nT).toInt.toNat (.inl (.int y))) 69 (nT).toInt.toNat (.inl (.int z))) 49 21 = some (.inl (.ref 70)) := ((ok15.2.1.2.1 49 5 hq_q (Or.inl rfl)).1.1 (21, 21, 35) (by decide +kernel)).1
  have t17 : T[70]? = some 35 := ((ok15.2.1.2.1 49 5 hq_q (Or.inl rfl)).1.1 (21, 21, 35) (by decide +kernel)).2
  refine g_getf HW rfl ok15.1 hq_q rfl o17 ?_
  refine zrn_ok HW 1 (zB_iff.mpr (?_ : G (35, [(0, .inl (.ref 49)), (1, .inl (.int x)), (2, .inl (.int y)), (3, .inl (.int z))], [.inl (.ref 49), .inl (.ref 70)], (hput (hput (hput h 67 (nT).toInt.toNat (.inl (.int x))) 68 (nT).toInt.toNat (.inl (.int y))) 69 (nT).toInt.toNat (.inl (.int z))), 0, 0)))
  have g19 : hget (hput (hput (hput h 67 (nT).toInt.toNat (.inl (.int x))) 68 (nT).toInt.toNat (.inl (.int y))) 69 (nT).toInt.toNat (.inl (.int z))) 49 17 = some (.inl (.int nT)) := (hget_put_ne (Or.inl (by decide))).trans ((hget_put_ne (Or.inl (by decide))).trans ((hget_put_ne (Or.inl (by decide))).trans (gT)))
  refine g_getf HW rfl ok15.1 hq_q rfl g19 ?_
  refine zrn_ok HW 1 (zB_iff.mpr (?_ : G (39, [(0, .inl (.ref 49)), (1, .inl (.int x)), (2, .inl (.int y)), (3, .inl (.int z))], [.inl (.int (0 : Int32)), .inl (.int nT), .inl (.ref 70)], (hput (hput (hput h 67 (nT).toInt.toNat (.inl (.int x))) 68 (nT).toInt.toNat (.inl (.int y))) 69 (nT).toInt.toNat (.inl (.int z))), 0, 0)))
  have ok20 : wOK (zPhi P) N T (hput (hput (hput (hput h 67 (nT).toInt.toNat (.inl (.int x))) 68 (nT).toInt.toNat (.inl (.int y))) 69 (nT).toInt.toNat (.inl (.int z))) 70 (nT).toInt.toNat (.inl (.int (0 : Int32)))) := wOK_put hst ok15 t17 rfl ⟨_, rfl, (by show ((-2147483648) : Int) ≤ Int32.toInt (0 : Int32); decide), (by show Int32.toInt (0 : Int32) ≤ (2147483647 : Int); decide)⟩
  refine g_iast HW rfl ok15.1 t17 rfl (by omega) (by show _ < (8 : Int); omega) ?_
  refine zrn_ok HW 1 (zB_iff.mpr (?_ : G (41, [(0, .inl (.ref 49)), (1, .inl (.int x)), (2, .inl (.int y)), (3, .inl (.int z))], [.inl (.ref 49)], (hput (hput (hput (hput h 67 (nT).toInt.toNat (.inl (.int x))) 68 (nT).toInt.toNat (.inl (.int y))) 69 (nT).toInt.toNat (.inl (.int z))) 70 (nT).toInt.toNat (.inl (.int (0 : Int32)))), 0, 0)))
  have o22 : hget (hput (hput (hput (hput h 67 (nT).toInt.toNat (.inl (.int x))) 68 (nT).toInt.toNat (.inl (.int y))) 69 (nT).toInt.toNat (.inl (.int z))) 70 (nT).toInt.toNat (.inl (.int (0 : Int32)))) 49 22 = some (.inl (.ref 71)) := ((ok20.2.1.2.1 49 5 hq_q (Or.inl rfl)).1.1 (22, 22, 36) (by decide +kernel)).1
  have t22 : T[71]? = some 36 := ((ok20.2.1.2.1 49 5 hq_q (Or.inl rfl)).1.1 (22, 22, 36) (by decide +kernel)).2
  refine g_getf HW rfl ok20.1 hq_q rfl o22 ?_
  refine zrn_ok HW 1 (zB_iff.mpr (?_ : G (45, [(0, .inl (.ref 49)), (1, .inl (.int x)), (2, .inl (.int y)), (3, .inl (.int z))], [.inl (.ref 49), .inl (.ref 71)], (hput (hput (hput (hput h 67 (nT).toInt.toNat (.inl (.int x))) 68 (nT).toInt.toNat (.inl (.int y))) 69 (nT).toInt.toNat (.inl (.int z))) 70 (nT).toInt.toNat (.inl (.int (0 : Int32)))), 0, 0)))
  have g24 : hget (hput (hput (hput (hput h 67 (nT).toInt.toNat (.inl (.int x))) 68 (nT).toInt.toNat (.inl (.int y))) 69 (nT).toInt.toNat (.inl (.int z))) 70 (nT).toInt.toNat (.inl (.int (0 : Int32)))) 49 17 = some (.inl (.int nT)) := (hget_put_ne (Or.inl (by decide))).trans ((hget_put_ne (Or.inl (by decide))).trans ((hget_put_ne (Or.inl (by decide))).trans ((hget_put_ne (Or.inl (by decide))).trans (gT))))
  refine g_getf HW rfl ok20.1 hq_q rfl g24 ?_
  refine zrn_ok HW 1 (zB_iff.mpr (?_ : G (49, [(0, .inl (.ref 49)), (1, .inl (.int x)), (2, .inl (.int y)), (3, .inl (.int z))], [.inl (.int (-1 : Int32)), .inl (.int nT), .inl (.ref 71)], (hput (hput (hput (hput h 67 (nT).toInt.toNat (.inl (.int x))) 68 (nT).toInt.toNat (.inl (.int y))) 69 (nT).toInt.toNat (.inl (.int z))) 70 (nT).toInt.toNat (.inl (.int (0 : Int32)))), 0, 0)))
  have ok25 : wOK (zPhi P) N T (hput (hput (hput (hput (hput h 67 (nT).toInt.toNat (.inl (.int x))) 68 (nT).toInt.toNat (.inl (.int y))) 69 (nT).toInt.toNat (.inl (.int z))) 70 (nT).toInt.toNat (.inl (.int (0 : Int32)))) 71 (nT).toInt.toNat (.inl (.int (-1 : Int32)))) := ⟨hOK_put ok20.1 t22 ⟨_, rfl, (by show ((-1) : Int) ≤ Int32.toInt (-1 : Int32); decide), (by show Int32.toInt (-1 : Int32) ≤ (3 : Int); decide)⟩, p_putJ hq_q (Or.inl rfl) t71 (Or.inr (Or.inr (Or.inr ⟨rfl, rfl⟩))) (pJ_new (by rw [hi_put_ne (Or.inl (by decide)), hi_put_ne (Or.inl (by decide)), hi_put_ne (Or.inl (by decide)), hi_put_ne (Or.inl (by decide)), eT]; omega) (Or.inr rfl) (ok20.2.1.2.1 49 5 hq_q (Or.inl rfl)).2) ok20.2.1, by rw [hput_len]; exact ok20.2.2⟩
  refine g_iast HW rfl ok20.1 t22 rfl (by omega) (by show _ < (8 : Int); omega) ?_
  refine zrn_ok HW 2 (zB_iff.mpr (?_ : G (53, [(4, .inl (.int (0 : Int32))), (0, .inl (.ref 49)), (1, .inl (.int x)), (2, .inl (.int y)), (3, .inl (.int z))], [], (hput (hput (hput (hput (hput h 67 (nT).toInt.toNat (.inl (.int x))) 68 (nT).toInt.toNat (.inl (.int y))) 69 (nT).toInt.toNat (.inl (.int z))) 70 (nT).toInt.toNat (.inl (.int (0 : Int32)))) 71 (nT).toInt.toNat (.inl (.int (-1 : Int32)))), 0, 0)))
  obtain ⟨hA, eA⟩ : ∃ hA : zH, hA = (hput (hput (hput (hput (hput h 67 (nT).toInt.toNat (.inl (.int x))) 68 (nT).toInt.toNat (.inl (.int y))) 69 (nT).toInt.toNat (.inl (.int z))) 70 (nT).toInt.toNat (.inl (.int (0 : Int32)))) 71 (nT).toInt.toNat (.inl (.int (-1 : Int32)))) := ⟨_, rfl⟩
  rw [← eA] at ok25 ⊢
  have gA : hget hA 49 17 = some (.inl (.int nT)) := by rw [eA]; exact (hget_put_ne (Or.inl (by decide))).trans ((hget_put_ne (Or.inl (by decide))).trans ((hget_put_ne (Or.inl (by decide))).trans ((hget_put_ne (Or.inl (by decide))).trans ((hget_put_ne (Or.inl (by decide))).trans (gT)))))
  have f9 : ∀ j, hi hA 49 j = hi h 49 j := (fun j => by rw [eA, hi_put_ne (Or.inl (by decide)), hi_put_ne (Or.inl (by decide)), hi_put_ne (Or.inl (by decide)), hi_put_ne (Or.inl (by decide)), hi_put_ne (Or.inl (by decide))])
  have f66 : ∀ j, hi hA 66 j = hi h 66 j := (fun j => by rw [eA, hi_put_ne (Or.inl (by decide)), hi_put_ne (Or.inl (by decide)), hi_put_ne (Or.inl (by decide)), hi_put_ne (Or.inl (by decide)), hi_put_ne (Or.inl (by decide))])
  have f68 : ∀ j, j ≠ nT.toInt.toNat → hi hA 68 j = hi h 68 j := fun j hj => by rw [eA, hi_put_ne (Or.inl (by decide)), hi_put_ne (Or.inl (by decide)), hi_put_ne (Or.inl (by decide)), hi_put_ne (Or.inr hj), hi_put_ne (Or.inl (by decide))]
  have f68n : hi hA 68 nT.toInt.toNat = y.toInt := by
    obtain ⟨w, hw, -⟩ := hOK_get (i := nT.toInt.toNat) ok.1 t68 (by show _ < 8; omega)
    rw [eA, hi_put_ne (Or.inl (by decide)), hi_put_ne (Or.inl (by decide)), hi_put_ne (Or.inl (by decide))]
    exact hi_put ((hget_put_ne (Or.inl (by decide))).trans hw)
  have f71 : ∀ j, j ≠ nT.toInt.toNat → hi hA 71 j = hi h 71 j := fun j hj => by rw [eA, hi_put_ne (Or.inr hj), hi_put_ne (Or.inl (by decide)), hi_put_ne (Or.inl (by decide)), hi_put_ne (Or.inl (by decide)), hi_put_ne (Or.inl (by decide))]
  have loop : ∀ (k : Nat) (b : Int32) (hl : zH), wOK (zPhi P) N T hl → 0 ≤ b.toInt → b.toInt ≤ 4 → (∀ p i : Nat, T[p]? ≠ some 39 → hget hl p i = hget hA p i) → 4 - b.toInt < (k : Int) → G (53, [(4, .inl (.int b)), (0, .inl (.ref 49)), (1, .inl (.int x)), (2, .inl (.int y)), (3, .inl (.int z))], [], hl, 0, 0) := by
    intro k
    induction k with
    | zero =>
      intro b hl okl y0 y1 fr hm
      exfalso
      omega
    | succ k ih =>
      intro b hl okl y0 y1 fr hm
      refine zrn_ok HW 3 (zbr_ex (cd := .ge) (x := b) (y := (4 : Int32)) (fun hc1 => zB_iff.mpr ?_) (fun hc1 => zB_iff.mpr ?_))
      · -- pc 78
        have i1 : b.toInt ≥ (4 : Int) := zop_int.mp hc1
        refine zrn_ok HW 2 (zB_iff.mpr (?_ : G (80, [(4, .inl (.int b)), (0, .inl (.ref 49)), (1, .inl (.int x)), (2, .inl (.int y)), (3, .inl (.int z))], [.inl (.ref 49), .inl (.ref 49)], hl, 0, 0)))
        have g3 : hget hl 49 17 = some (.inl (.int nT)) := (fr 49 17 (by rw [hq_q]; decide)).trans gA
        
        refine g_getf HW rfl okl.1 hq_q rfl g3 ?_
        have y4 : -2147483648 ≤ nT.toInt + (1 : Int) → nT.toInt + (1 : Int) ≤ 2147483647 → (nT + (1 : Int32)).toInt = nT.toInt + (1 : Int) := t_addC (x := nT) (y := (1 : Int32))
        refine zrn_ok HW 2 (zB_iff.mpr (?_ : G (85, [(4, .inl (.int b)), (0, .inl (.ref 49)), (1, .inl (.int x)), (2, .inl (.int y)), (3, .inl (.int z))], [.inl (.int (nT + (1 : Int32))), .inl (.ref 49)], hl, 0, 0)))
        have ok5 : wOK (zPhi P) N T (hput hl 49 17 (.inl (.int (nT + (1 : Int32))))) := ⟨hOK_put okl.1 hq_q ⟨_, rfl, (by show (0 : Int) ≤ _; omega), (by show _ ≤ (8 : Int); omega)⟩, p_putJ hq_q (Or.inl rfl) hq_q (Or.inl ⟨rfl, Or.inl rfl, Or.inr rfl⟩) (aT_pJ hj eT lT hy ho hu f9 f66 f68 f68n f71 (fun p i hp => hi_eq (fr p i hp)) hq_q t66 t68 t71 (hi_put (hw := (fr 49 17 (by rw [hq_q]; decide)).trans gA)) (t_inc (by omega))) okl.2.1, by rw [hput_len]; exact okl.2.2⟩
        refine g_putf HW rfl okl.1 hq_q rfl (by decide) rfl ?_
        refine zrn_ok HW 1 ?_
        exact zret_v rfl (kk _ ok5)
      · -- pc 59
        have i1 : ¬ (b.toInt ≥ (4 : Int)) := fun e => hc1 (zop_int.mpr e)
        refine zrn_ok HW 1 (zB_iff.mpr (?_ : G (60, [(4, .inl (.int b)), (0, .inl (.ref 49)), (1, .inl (.int x)), (2, .inl (.int y)), (3, .inl (.int z))], [.inl (.ref 49)], hl, 0, 0)))
        have o7 : hget hl 49 25 = some (.inl (.ref 73)) := ((okl.2.1.2.1 49 5 hq_q (Or.inl rfl)).1.1 (25, 24, 38) (by decide +kernel)).1
        have t7 : T[73]? = some 38 := ((okl.2.1.2.1 49 5 hq_q (Or.inl rfl)).1.1 (25, 24, 38) (by decide +kernel)).2
        refine g_getf HW rfl okl.1 hq_q rfl o7 ?_
        refine zrn_ok HW 1 (zB_iff.mpr (?_ : G (65, [(4, .inl (.int b)), (0, .inl (.ref 49)), (1, .inl (.int x)), (2, .inl (.int y)), (3, .inl (.int z))], [.inl (.int b), .inl (.ref 73)], hl, 0, 0)))
        obtain ⟨v8, g8, s8⟩ := hOK_get (i := (b).toInt.toNat) okl.1 t7 (by show _ < 4; omega)
        obtain ⟨q8, rfl, hq8⟩ : ∃ q : Nat, v8 = .inl (.ref q) ∧ T[q]? = some 39 := s8
        refine g_aald HW rfl okl.1 t7 ⟨by decide, by decide⟩ (by omega) g8 ?_
        refine zrn_ok HW 1 (zB_iff.mpr (?_ : G (67, [(4, .inl (.int b)), (0, .inl (.ref 49)), (1, .inl (.int x)), (2, .inl (.int y)), (3, .inl (.int z))], [.inl (.ref 49), .inl (.ref q8)], hl, 0, 0)))
        have g10 : hget hl 49 17 = some (.inl (.int nT)) := (fr 49 17 (by rw [hq_q]; decide)).trans gA
        
        refine g_getf HW rfl okl.1 hq_q rfl g10 ?_
        refine zrn_ok HW 1 (zB_iff.mpr (?_ : G (71, [(4, .inl (.int b)), (0, .inl (.ref 49)), (1, .inl (.int x)), (2, .inl (.int y)), (3, .inl (.int z))], [.inl (.int (0 : Int32)), .inl (.int nT), .inl (.ref q8)], hl, 0, 0)))
        have ok11 : wOK (zPhi P) N T (hput hl q8 (nT).toInt.toNat (.inl (.int (0 : Int32)))) := wOK_put hst okl hq8 rfl ⟨_, rfl, (by show ((-2147483648) : Int) ≤ Int32.toInt (0 : Int32); decide), (by show Int32.toInt (0 : Int32) ≤ (2147483647 : Int); decide)⟩
        refine g_iast HW rfl okl.1 hq8 rfl (by omega) (by show _ < (8 : Int); omega) ?_
        have y12 : -2147483648 ≤ b.toInt + (1 : Int) → b.toInt + (1 : Int) ≤ 2147483647 → (b + (1 : Int32)).toInt = b.toInt + (1 : Int) := t_addC (x := b) (y := (1 : Int32))
        refine zrn_ok HW 2 (zB_iff.mpr (?_ : G (53, [(4, .inl (.int (b + (1 : Int32)))), (0, .inl (.ref 49)), (1, .inl (.int x)), (2, .inl (.int y)), (3, .inl (.int z))], [], (hput hl q8 (nT).toInt.toNat (.inl (.int (0 : Int32)))), 0, 0)))
        exact ih (b + (1 : Int32)) _ ok11 (by omega) (by omega) (fun p i hp => (hget_put_ne (Or.inl (fun e => by subst e; exact hp hq8))).trans (fr p i hp)) (by omega)
  exact loop 5 (0 : Int32) _ ok25 (by decide) (by decide) (fun _ _ _ => rfl) (by decide)
