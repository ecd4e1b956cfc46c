theorem hstT : tStab zty 43 (fun _ _ => True) := ⟨fun _ _ _ _ _ _ _ _ _ _ _ _ _ => trivial, fun _ _ _ _ => trivial, p_uni, rfl, rfl, by decide, by decide, by decide⟩
theorem c_comesOut5 {P : pP} {N : Nat} {scr : List zV} {d : Nat} {T : List Nat} {h : zH} {q : Nat} {s b : Int32} {post : Option zV → zH → Bool} (ok0 : wOK (zPhi P) N T h) (hq_q : T[q]? = some 5) (hs : 1 ≤ s.toInt ∧ s.toInt ≤ 60) (hb : 0 ≤ b.toInt ∧ b.toInt ≤ 3)
    (kk : ∀ (r : Int32) (h' : zH), wOK (zPhi P) N T h' → (∀ p i : Nat, p ≠ q + 17 → p ≠ q + 21 → p ≠ q + 22 → (p ≠ q ∨ i ≠ 13) → hget h' p i = hget h p i) → (∀ i, i ≠ s.toInt.toNat → hi h' (q + 17) i = hi h (q + 17) i) → hi h' (q + 17) s.toInt.toNat = 1 → post (some (.inl (.int r))) h' = true) : zD zprog scr (d + 4) 169 [.inl (.ref q), .inl (.int s), .inl (.int b)] h post = true := by
  have ok : wOK (fun _ _ => True) N T h := ⟨ok0.1, trivial, ok0.2.2⟩
  have hst := hstT
  obtain ⟨lay, hJ⟩ := ok0.2.1.2.1 q 5 hq_q (Or.inl rfl)
  refine zD_intro (E := ze_X5_comesOut) rfl rfl (fun G HW => ?_)
  obtain ⟨nT, gT, eT, lT, uT⟩ := hi_val (i := 17) ok.1 hq_q (by decide) rfl
  have lT : (0 : Int) ≤ nT.toInt := lT
  have uT : nT.toInt ≤ (8 : Int) := uT
  have t31 : T[q + 17]? = some 31 := (lay.1 (16, 17, 31) (by decide +kernel)).2
  have t35 : T[q + 21]? = some 35 := (lay.1 (21, 21, 35) (by decide +kernel)).2
  have t36 : T[q + 22]? = some 36 := (lay.1 (22, 22, 36) (by decide +kernel)).2
  have post1 : ∀ (won : Int32), (∀ t : Nat, (t : Int) < hi h q 17 → hi h (q + 19) t = s.toInt → (∀ u : Nat, u < t → hi h (q + 19) u ≠ s.toInt) → hi h (q + 22) t = -1 → nbt won t = 1) → ∀ i j : Nat, ((i + j : Nat) : Int) = nT.toInt → ∀ hl : zH, wOK (fun _ _ => True) N T hl → (∀ p i : Nat, p ≠ q + 17 → p ≠ q + 21 → p ≠ q + 22 → (p ≠ q ∨ i ≠ 13) → hget hl p i = hget h p i) → (∀ i, i ≠ s.toInt.toNat → hi hl (q + 17) i = hi h (q + 17) i) → hi hl (q + 17) s.toInt.toNat = 1 → (∀ t : Nat, t < 8 → hi hl (q + 22) t = if t < j ∧ nbt won t = 1 then b.toInt else hi h (q + 22) t) → G (26, [(4, .inl (.int (Int32.ofNat j))), (3, .inl (.int won)), (0, .inl (.ref q)), (1, .inl (.int s)), (2, .inl (.int b))], [], hl, 0, 0) := by
    intro won hw i
    induction i with
    | zero =>
      intro j hj hl okl F1 F2 F2s F3
      have ej := nI_int (k := j) (by omega)
      have ejn : (Int32.ofNat j).toInt.toNat = j := by omega
      refine zrn_ok HW 2 (zB_iff.mpr (?_ : G (29, [(4, .inl (.int (Int32.ofNat j))), (3, .inl (.int won)), (0, .inl (.ref q)), (1, .inl (.int s)), (2, .inl (.int b))], [.inl (.ref q), .inl (.int (Int32.ofNat j))], hl, 0, 0)))
      have g2 : hget hl q 17 = some (.inl (.int nT)) := (F1 q 17 (by omega) (by omega) (by omega) (Or.inr (by decide))).trans gT
      refine g_getf HW rfl okl.1 hq_q rfl g2 ?_
      refine zrn_ok HW 1 (zbr_ex (cd := .ge) (x := (Int32.ofNat j)) (y := nT) (fun hc3 => zB_iff.mpr ?_) (fun hc3 => zB_iff.mpr ?_))
      · -- pc 84
        have i3 : (Int32.ofNat j).toInt ≥ nT.toInt := zop_int.mp hc3
        refine zrn_ok HW 2 ?_
        refine zret_i rfl rfl (kk won hl ⟨okl.1, ?_, okl.2.2⟩ F1 F2 F2s)
        have ej8 : ∀ t : Nat, (t : Int) < hi h q 17 → t < j ∧ t < 8 := fun t ht => by omega
        have a19 : ∀ t, hi hl (q + 19) t = hi h (q + 19) t := fun t => hi_eq (F1 _ _ (by omega) (by omega) (by omega) (Or.inl (by omega)))
        have a9 : hi hl q 9 = hi h q 9 := hi_eq (F1 _ _ (by omega) (by omega) (by omega) (Or.inr (by decide)))
        have a17 : hi hl q 17 = hi h q 17 := hi_eq (F1 _ _ (by omega) (by omega) (by omega) (Or.inr (by decide)))
        refine p_keep2 hq_q (by decide) (fun p σ i h1 h2 h3 => F1 p i (fun e => ?_) (fun e => ?_) (fun e => ?_) ?_) ?_ ok0.2.1
        · subst e
          rw [t31] at h1
          cases h1
          exact h3 (Or.inr (Or.inl ⟨rfl, rfl⟩))
        · subst e
          rw [t35] at h1
          cases h1
          cases h2
        · subst e
          rw [t36] at h1
          cases h1
          exact h3 (Or.inr (Or.inr (Or.inr ⟨rfl, rfl⟩)))
        · by_cases e : p = q
          · subst e
            rw [hq_q] at h1
            cases h1
            refine Or.inr (fun e2 => ?_)
            subst e2
            cases h2
          · exact Or.inl e
        · intro t ht
          rw [a17] at ht
          rw [a9, a19]
          refine ⟨(hJ t ht).1, fun h2 => ?_, fun u hu => ?_⟩
          · rw [F3 t (ej8 t ht).2] at h2
            by_cases e : t < j ∧ nbt won t = 1
            · rw [if_pos e] at h2
              omega
            · rw [if_neg e] at h2
              have hne : hi h (q + 19) t ≠ s.toInt := fun e2 => e ⟨(ej8 t ht).1, hw t ht e2 (fun u hu => by rw [← e2]; exact (hJ t ht).2.2 u hu) h2⟩
              have h5 := (hJ t ht).1
              rw [F2 _ (by omega)]
              exact (hJ t ht).2.1 h2
          · rw [a19]
            exact (hJ t ht).2.2 u hu
      · -- pc 35
        have i3 : ¬ ((Int32.ofNat j).toInt ≥ nT.toInt) := fun e => hc3 (zop_int.mpr e)
        exfalso
        omega
    | succ i ih =>
      intro j hj hl okl F1 F2 F2s F3
      have ej := nI_int (k := j) (by omega)
      have ejn : (Int32.ofNat j).toInt.toNat = j := by omega
      refine zrn_ok HW 2 (zB_iff.mpr (?_ : G (29, [(4, .inl (.int (Int32.ofNat j))), (3, .inl (.int won)), (0, .inl (.ref q)), (1, .inl (.int s)), (2, .inl (.int b))], [.inl (.ref q), .inl (.int (Int32.ofNat j))], hl, 0, 0)))
      have g2 : hget hl q 17 = some (.inl (.int nT)) := (F1 q 17 (by omega) (by omega) (by omega) (Or.inr (by decide))).trans gT
      refine g_getf HW rfl okl.1 hq_q rfl g2 ?_
      refine zrn_ok HW 1 (zbr_ex (cd := .ge) (x := (Int32.ofNat j)) (y := nT) (fun hc3 => zB_iff.mpr ?_) (fun hc3 => zB_iff.mpr ?_))
      · -- pc 84
        have i3 : (Int32.ofNat j).toInt ≥ nT.toInt := zop_int.mp hc3
        exfalso
        omega
      · -- pc 35
        have i3 : ¬ ((Int32.ofNat j).toInt ≥ nT.toInt) := fun e => hc3 (zop_int.mpr e)
        refine zrn_ok HW 6 (zbr_ex (cd := .eq) (x := ((won >>> ((Int32.ofNat j) &&& 31)) &&& (1 : Int32))) (y := (0 : Int32)) (fun hc4 => zB_iff.mpr ?_) (fun hc4 => zB_iff.mpr ?_))
        · -- pc 78
          have i4 : ((won >>> ((Int32.ofNat j) &&& 31)) &&& (1 : Int32)).toInt = (0 : Int) := zop_int.mp hc4
          refine zrn_ok HW 2 (zB_iff.mpr (?_ : G (26, [(4, .inl (.int ((Int32.ofNat j) + (1 : Int32)))), (3, .inl (.int won)), (0, .inl (.ref q)), (1, .inl (.int s)), (2, .inl (.int b))], [], hl, 0, 0)))
          have enb : nbt won j = ((won >>> (Int32.ofNat j &&& 31)) &&& (1 : Int32)).toInt := rfl
          have := ih (j + 1) (by omega) _ okl F1 F2 F2s (fun t ht => ?_)
          · rw [← nI_add1] at this
            exact this
          · rw [F3 t ht]
            by_cases e : t = j
            · subst e
              rw [if_neg (fun x => by omega), if_neg (fun x => by omega)]
            · by_cases e2 : t < j ∧ nbt won t = 1
              · rw [if_pos e2, if_pos ⟨by omega, e2.2⟩]
              · rw [if_neg e2, if_neg (fun x => e2 ⟨by omega, x.2⟩)]
        · -- pc 44
          have i4 : ¬ (((won >>> ((Int32.ofNat j) &&& 31)) &&& (1 : Int32)).toInt = (0 : Int)) := fun e => hc4 (zop_int.mpr e)
          have enb : nbt won j = ((won >>> (Int32.ofNat j &&& 31)) &&& (1 : Int32)).toInt := rfl
          have bit : nbt won j = 1 := by have := nb_01 (x := won) (t := j) (by omega); omega
          refine zrn_ok HW 1 (zB_iff.mpr (?_ : G (45, [(4, .inl (.int (Int32.ofNat j))), (3, .inl (.int won)), (0, .inl (.ref q)), (1, .inl (.int s)), (2, .inl (.int b))], [.inl (.ref q)], hl, 0, 0)))
          have o6 : hget hl q 22 = some (.inl (.ref (q + 22))) := (F1 q 22 (by omega) (by omega) (by omega) (Or.inr (by decide))).trans (lay.1 (22, 22, 36) (by decide +kernel)).1
          have t6 : T[q + 22]? = some 36 := (lay.1 (22, 22, 36) (by decide +kernel)).2
          refine g_getf HW rfl okl.1 hq_q rfl o6 ?_
          refine zrn_ok HW 2 (zB_iff.mpr (?_ : G (51, [(4, .inl (.int (Int32.ofNat j))), (3, .inl (.int won)), (0, .inl (.ref q)), (1, .inl (.int s)), (2, .inl (.int b))], [.inl (.int b), .inl (.int (Int32.ofNat j)), .inl (.ref (q + 22))], hl, 0, 0)))
          have ok7 : wOK (fun _ _ => True) N T (hput hl (q + 22) ((Int32.ofNat j)).toInt.toNat (.inl (.int b))) := ⟨hOK_put okl.1 t6 ⟨_, rfl, (by show ((-1) : Int) ≤ _; omega), (by show _ ≤ (3 : Int); omega)⟩, trivial, by rw [hput_len]; exact okl.2.2⟩
          refine g_iast HW rfl okl.1 t6 rfl (by omega) (by show _ < (8 : Int); omega) ?_
          refine zrn_ok HW 1 (zB_iff.mpr (?_ : G (53, [(4, .inl (.int (Int32.ofNat j))), (3, .inl (.int won)), (0, .inl (.ref q)), (1, .inl (.int s)), (2, .inl (.int b))], [.inl (.ref q)], (hput hl (q + 22) ((Int32.ofNat j)).toInt.toNat (.inl (.int b))), 0, 0)))
          have o9 : hget (hput hl (q + 22) ((Int32.ofNat j)).toInt.toNat (.inl (.int b))) q 21 = some (.inl (.ref (q + 21))) := (hget_put_ne (by omega)).trans ((F1 q 21 (by omega) (by omega) (by omega) (Or.inr (by decide))).trans (lay.1 (21, 21, 35) (by decide +kernel)).1)
          have t9 : T[q + 21]? = some 35 := (lay.1 (21, 21, 35) (by decide +kernel)).2
          refine g_getf HW rfl ok7.1 hq_q rfl o9 ?_
          refine zrn_ok HW 2 (zB_iff.mpr (?_ : G (59, [(4, .inl (.int (Int32.ofNat j))), (3, .inl (.int won)), (0, .inl (.ref q)), (1, .inl (.int s)), (2, .inl (.int b))], [.inl (.int (Int32.ofNat j)), .inl (.ref (q + 21)), .inl (.int (Int32.ofNat j)), .inl (.ref (q + 21))], (hput hl (q + 22) ((Int32.ofNat j)).toInt.toNat (.inl (.int b))), 0, 0)))
          obtain ⟨x10, g10, e10, l10, u10⟩ := hi_val (i := ((Int32.ofNat j)).toInt.toNat) ok7.1 t9 (by show _ < 8; omega) rfl
          have l10 : ((-2147483648) : Int) ≤ x10.toInt := l10
          have u10 : x10.toInt ≤ (2147483647 : Int) := u10
          refine g_iald HW rfl ok7.1 t9 rfl (by omega) g10 ?_
          refine zrn_ok HW 1 (zB_iff.mpr (?_ : G (61, [(4, .inl (.int (Int32.ofNat j))), (3, .inl (.int won)), (0, .inl (.ref q)), (1, .inl (.int s)), (2, .inl (.int b))], [.inl (.ref q), .inl (.int x10), .inl (.int (Int32.ofNat j)), .inl (.ref (q + 21))], (hput hl (q + 22) ((Int32.ofNat j)).toInt.toNat (.inl (.int b))), 0, 0)))
          have o12 : hget (hput hl (q + 22) ((Int32.ofNat j)).toInt.toNat (.inl (.int b))) q 18 = some (.inl (.ref (q + 18))) := (hget_put_ne (by omega)).trans ((F1 q 18 (by omega) (by omega) (by omega) (Or.inr (by decide))).trans (lay.1 (18, 18, 32) (by decide +kernel)).1)
          have t12 : T[q + 18]? = some 32 := (lay.1 (18, 18, 32) (by decide +kernel)).2
          refine g_getf HW rfl ok7.1 hq_q rfl o12 ?_
          refine zrn_ok HW 1 (zB_iff.mpr (?_ : G (66, [(4, .inl (.int (Int32.ofNat j))), (3, .inl (.int won)), (0, .inl (.ref q)), (1, .inl (.int s)), (2, .inl (.int b))], [.inl (.int (Int32.ofNat j)), .inl (.ref (q + 18)), .inl (.int x10), .inl (.int (Int32.ofNat j)), .inl (.ref (q + 21))], (hput hl (q + 22) ((Int32.ofNat j)).toInt.toNat (.inl (.int b))), 0, 0)))
          obtain ⟨x13, g13, e13, l13, u13⟩ := hi_val (i := ((Int32.ofNat j)).toInt.toNat) ok7.1 t12 (by show _ < 8; omega) rfl
          have l13 : (0 : Int) ≤ x13.toInt := l13
          have u13 : x13.toInt ≤ (5 : Int) := u13
          refine g_iald HW rfl ok7.1 t12 rfl (by omega) g13 ?_
          refine zrn_ok HW 2 (zbr_ex (cd := .ne) (x := x13) (y := (2 : Int32)) (fun hc14 => zB_iff.mpr ?_) (fun hc14 => zB_iff.mpr ?_))
          · -- pc 75
            have i14 : ¬ x13.toInt = (2 : Int) := zop_int.mp hc14
            refine zrn_ok HW 2 (zB_iff.mpr (?_ : G (77, [(4, .inl (.int (Int32.ofNat j))), (3, .inl (.int won)), (0, .inl (.ref q)), (1, .inl (.int s)), (2, .inl (.int b))], [.inl (.int (x10 + (0 : Int32))), .inl (.int (Int32.ofNat j)), .inl (.ref (q + 21))], (hput hl (q + 22) ((Int32.ofNat j)).toInt.toNat (.inl (.int b))), 0, 0)))
            have ok15 : wOK (fun _ _ => True) N T (hput (hput hl (q + 22) ((Int32.ofNat j)).toInt.toNat (.inl (.int b))) (q + 21) ((Int32.ofNat j)).toInt.toNat (.inl (.int (x10 + (0 : Int32))))) := wOK_put hst ok7 t9 rfl ⟨_, rfl, t_lo _, t_hi _⟩
            refine g_iast HW rfl ok7.1 t9 rfl (by omega) (by show _ < (8 : Int); omega) ?_
            refine zrn_ok HW 2 (zB_iff.mpr (?_ : G (26, [(4, .inl (.int ((Int32.ofNat j) + (1 : Int32)))), (3, .inl (.int won)), (0, .inl (.ref q)), (1, .inl (.int s)), (2, .inl (.int b))], [], (hput (hput hl (q + 22) ((Int32.ofNat j)).toInt.toNat (.inl (.int b))) (q + 21) ((Int32.ofNat j)).toInt.toNat (.inl (.int (x10 + (0 : Int32))))), 0, 0)))
            have := ih (j + 1) (by omega) _ ok15 (fun p i h1 h2 h3 h4 => (hget_put_ne (Or.inl h2)).trans ((hget_put_ne (Or.inl h3)).trans (F1 p i h1 h2 h3 h4))) (fun i hi0 => by rw [hi_put_ne (Or.inl (by omega)), hi_put_ne (Or.inl (by omega))]; exact F2 i hi0) (by rw [hi_put_ne (Or.inl (by omega)), hi_put_ne (Or.inl (by omega))]; exact F2s) (fun t ht => ?_)
            · rw [← nI_add1] at this
              exact this
            · rw [hi_put_ne (Or.inl (by omega))]
              by_cases e : t = j
              · subst e
                obtain ⟨w, hw9, -⟩ := hOK_get (i := t) okl.1 t36 (by show _ < 8; omega)
                rw [if_pos ⟨by omega, bit⟩, ejn]
                exact hi_put hw9
              · rw [hi_put_ne (Or.inr (by omega)), F3 t ht]
                by_cases e2 : t < j ∧ nbt won t = 1
                · rw [if_pos e2, if_pos ⟨by omega, e2.2⟩]
                · rw [if_neg e2, if_neg (fun x => e2 ⟨by omega, x.2⟩)]
          · -- pc 71
            have i14 : ¬ (¬ x13.toInt = (2 : Int)) := fun e => hc14 (zop_int.mpr e)
            refine zrn_ok HW 3 (zB_iff.mpr (?_ : G (77, [(4, .inl (.int (Int32.ofNat j))), (3, .inl (.int won)), (0, .inl (.ref q)), (1, .inl (.int s)), (2, .inl (.int b))], [.inl (.int (x10 + (1 : Int32))), .inl (.int (Int32.ofNat j)), .inl (.ref (q + 21))], (hput hl (q + 22) ((Int32.ofNat j)).toInt.toNat (.inl (.int b))), 0, 0)))
            have ok16 : wOK (fun _ _ => True) N T (hput (hput hl (q + 22) ((Int32.ofNat j)).toInt.toNat (.inl (.int b))) (q + 21) ((Int32.ofNat j)).toInt.toNat (.inl (.int (x10 + (1 : Int32))))) := wOK_put hst ok7 t9 rfl ⟨_, rfl, t_lo _, t_hi _⟩
            refine g_iast HW rfl ok7.1 t9 rfl (by omega) (by show _ < (8 : Int); omega) ?_
            refine zrn_ok HW 2 (zB_iff.mpr (?_ : G (26, [(4, .inl (.int ((Int32.ofNat j) + (1 : Int32)))), (3, .inl (.int won)), (0, .inl (.ref q)), (1, .inl (.int s)), (2, .inl (.int b))], [], (hput (hput hl (q + 22) ((Int32.ofNat j)).toInt.toNat (.inl (.int b))) (q + 21) ((Int32.ofNat j)).toInt.toNat (.inl (.int (x10 + (1 : Int32))))), 0, 0)))
            have := ih (j + 1) (by omega) _ ok16 (fun p i h1 h2 h3 h4 => (hget_put_ne (Or.inl h2)).trans ((hget_put_ne (Or.inl h3)).trans (F1 p i h1 h2 h3 h4))) (fun i hi0 => by rw [hi_put_ne (Or.inl (by omega)), hi_put_ne (Or.inl (by omega))]; exact F2 i hi0) (by rw [hi_put_ne (Or.inl (by omega)), hi_put_ne (Or.inl (by omega))]; exact F2s) (fun t ht => ?_)
            · rw [← nI_add1] at this
              exact this
            · rw [hi_put_ne (Or.inl (by omega))]
              by_cases e : t = j
              · subst e
                obtain ⟨w, hw9, -⟩ := hOK_get (i := t) okl.1 t36 (by show _ < 8; omega)
                rw [if_pos ⟨by omega, bit⟩, ejn]
                exact hi_put hw9
              · rw [hi_put_ne (Or.inr (by omega)), F3 t ht]
                by_cases e2 : t < j ∧ nbt won t = 1
                · rw [if_pos e2, if_pos ⟨by omega, e2.2⟩]
                · rw [if_neg e2, if_neg (fun x => e2 ⟨by omega, x.2⟩)]
  refine zrn_ok HW 2 (zB_iff.mpr (?_ : G (2, [(0, .inl (.ref q)), (1, .inl (.int s)), (2, .inl (.int b))], [.inl (.int s), .inl (.ref q)], h, 0, 0)))
  refine g_callV (E' := ze_X5_winsBy) HW rfl rfl (Nat.le_of_ble_eq_true rfl) (Nat.le_of_ble_eq_true rfl) (Nat.le_of_ble_eq_true rfl) ok.1 rfl hq_q rfl (Nat.le_of_ble_eq_true rfl) (c_winsBy5 ok hq_q lay (fun won hw wl wu => zB_iff.mpr ?_))
  show G (5, [(0, .inl (.ref q)), (1, .inl (.int s)), (2, .inl (.int b))], [.inl (.int won)], h, 0, 0)
  refine zrn_ok HW 2 (zB_iff.mpr (?_ : G (7, [(3, .inl (.int won)), (0, .inl (.ref q)), (1, .inl (.int s)), (2, .inl (.int b))], [.inl (.ref q)], h, 0, 0)))
  have o2 : hget h q 16 = some (.inl (.ref (q + 17))) := (lay.1 (16, 17, 31) (by decide +kernel)).1
  have t2 : T[q + 17]? = some 31 := (lay.1 (16, 17, 31) (by decide +kernel)).2
  refine g_getf HW rfl ok.1 hq_q rfl o2 ?_
  refine zrn_ok HW 2 (zB_iff.mpr (?_ : G (12, [(3, .inl (.int won)), (0, .inl (.ref q)), (1, .inl (.int s)), (2, .inl (.int b))], [.inl (.int (1 : Int32)), .inl (.int s), .inl (.ref (q + 17))], h, 0, 0)))
  have ok3 : wOK (fun _ _ => True) N T (hput h (q + 17) (s).toInt.toNat (.inl (.int (1 : Int32)))) := ⟨hOK_put ok.1 t2 ⟨_, rfl, (by show (0 : Int) ≤ Int32.toInt (1 : Int32); decide), (by show Int32.toInt (1 : Int32) ≤ (1 : Int); decide)⟩, trivial, by rw [hput_len]; exact ok.2.2⟩
  refine g_iast HW rfl ok.1 t2 rfl (by omega) (by show _ < (61 : Int); omega) ?_
  refine zrn_ok HW 2 (zB_iff.mpr (?_ : G (15, [(3, .inl (.int won)), (0, .inl (.ref q)), (1, .inl (.int s)), (2, .inl (.int b))], [.inl (.ref q), .inl (.ref q)], (hput h (q + 17) (s).toInt.toNat (.inl (.int (1 : Int32)))), 0, 0)))
  obtain ⟨x4, g4, e4, l4, u4⟩ := hi_val (i := 13) ok3.1 hq_q (by decide) rfl
  have l4 : ((-2147483648) : Int) ≤ x4.toInt := l4
  have u4 : x4.toInt ≤ (2147483647 : Int) := u4
  refine g_getf HW rfl ok3.1 hq_q rfl g4 ?_
  refine zrn_ok HW 2 (zB_iff.mpr (?_ : G (20, [(3, .inl (.int won)), (0, .inl (.ref q)), (1, .inl (.int s)), (2, .inl (.int b))], [.inl (.int (x4 + (1 : Int32))), .inl (.ref q)], (hput h (q + 17) (s).toInt.toNat (.inl (.int (1 : Int32)))), 0, 0)))
  have ok5 : wOK (fun _ _ => True) N T (hput (hput h (q + 17) (s).toInt.toNat (.inl (.int (1 : Int32)))) q 13 (.inl (.int (x4 + (1 : Int32))))) := wOK_put hst ok3 hq_q rfl ⟨_, rfl, t_lo _, t_hi _⟩
  refine g_putf HW rfl ok3.1 hq_q rfl (by decide) rfl ?_
  refine zrn_ok HW 2 (zB_iff.mpr (?_ : G (26, [(4, .inl (.int (0 : Int32))), (3, .inl (.int won)), (0, .inl (.ref q)), (1, .inl (.int s)), (2, .inl (.int b))], [], (hput (hput h (q + 17) (s).toInt.toNat (.inl (.int (1 : Int32)))) q 13 (.inl (.int (x4 + (1 : Int32))))), 0, 0)))
  obtain ⟨w17, hw17, -⟩ := hOK_get (i := s.toInt.toNat) ok0.1 t31 (by show _ < 61; omega)
  refine post1 won hw nT.toInt.toNat 0 (by omega) _ ok5 (fun p i h1 h2 h3 h4 => (hget_put_ne (by omega)).trans (hget_put_ne (Or.inl h1))) (fun i hi0 => by rw [hi_put_ne (Or.inl (by omega)), hi_put_ne (Or.inr (by omega))]) ?_ (fun t ht => ?_)
  · rw [hi_put_ne (Or.inl (by omega)), hi_put hw17]
    rfl
  · rw [hi_put_ne (Or.inl (by omega)), hi_put_ne (Or.inl (by omega)), if_neg (fun x => by omega)]
theorem c_comesOut6 {P : pP} {N : Nat} {scr : List zV} {d : Nat} {T : List Nat} {h : zH} {q : Nat} {s b : Int32} {post : Option zV → zH → Bool} (ok0 : wOK (zPhi P) N T h) (hq_q : T[q]? = some 6) (hs : 1 ≤ s.toInt ∧ s.toInt ≤ 60) (hb : 0 ≤ b.toInt ∧ b.toInt ≤ 3)
    (kk : ∀ (r : Int32) (h' : zH), wOK (zPhi P) N T h' → (∀ p i : Nat, p ≠ q + 17 → p ≠ q + 21 → p ≠ q + 22 → (p ≠ q ∨ i ≠ 13) → hget h' p i = hget h p i) → (∀ i, i ≠ s.toInt.toNat → hi h' (q + 17) i = hi h (q + 17) i) → hi h' (q + 17) s.toInt.toNat = 1 → post (some (.inl (.int r))) h' = true) : zD zprog scr (d + 4) 169 [.inl (.ref q), .inl (.int s), .inl (.int b)] h post = true := by
  have ok : wOK (fun _ _ => True) N T h := ⟨ok0.1, trivial, ok0.2.2⟩
  have hst := hstT
  obtain ⟨lay, hJ⟩ := ok0.2.1.2.1 q 6 hq_q (Or.inr rfl)
  refine zD_intro (E := ze_X5_comesOut) rfl rfl (fun G HW => ?_)
  obtain ⟨nT, gT, eT, lT, uT⟩ := hi_val (i := 17) ok.1 hq_q (by decide) rfl
  have lT : (0 : Int) ≤ nT.toInt := lT
  have uT : nT.toInt ≤ (8 : Int) := uT
  have t31 : T[q + 17]? = some 31 := (lay.1 (16, 17, 31) (by decide +kernel)).2
  have t35 : T[q + 21]? = some 35 := (lay.1 (21, 21, 35) (by decide +kernel)).2
  have t36 : T[q + 22]? = some 36 := (lay.1 (22, 22, 36) (by decide +kernel)).2
  have post1 : ∀ (won : Int32), (∀ t : Nat, (t : Int) < hi h q 17 → hi h (q + 19) t = s.toInt → (∀ u : Nat, u < t → hi h (q + 19) u ≠ s.toInt) → hi h (q + 22) t = -1 → nbt won t = 1) → ∀ i j : Nat, ((i + j : Nat) : Int) = nT.toInt → ∀ hl : zH, wOK (fun _ _ => True) N T hl → (∀ p i : Nat, p ≠ q + 17 → p ≠ q + 21 → p ≠ q + 22 → (p ≠ q ∨ i ≠ 13) → hget hl p i = hget h p i) → (∀ i, i ≠ s.toInt.toNat → hi hl (q + 17) i = hi h (q + 17) i) → hi hl (q + 17) s.toInt.toNat = 1 → (∀ t : Nat, t < 8 → hi hl (q + 22) t = if t < j ∧ nbt won t = 1 then b.toInt else hi h (q + 22) t) → G (26, [(4, .inl (.int (Int32.ofNat j))), (3, .inl (.int won)), (0, .inl (.ref q)), (1, .inl (.int s)), (2, .inl (.int b))], [], hl, 0, 0) := by
    intro won hw i
    induction i with
    | zero =>
      intro j hj hl okl F1 F2 F2s F3
      have ej := nI_int (k := j) (by omega)
      have ejn : (Int32.ofNat j).toInt.toNat = j := by omega
      refine zrn_ok HW 2 (zB_iff.mpr (?_ : G (29, [(4, .inl (.int (Int32.ofNat j))), (3, .inl (.int won)), (0, .inl (.ref q)), (1, .inl (.int s)), (2, .inl (.int b))], [.inl (.ref q), .inl (.int (Int32.ofNat j))], hl, 0, 0)))
      have g2 : hget hl q 17 = some (.inl (.int nT)) := (F1 q 17 (by omega) (by omega) (by omega) (Or.inr (by decide))).trans gT
      refine g_getf HW rfl okl.1 hq_q rfl g2 ?_
      refine zrn_ok HW 1 (zbr_ex (cd := .ge) (x := (Int32.ofNat j)) (y := nT) (fun hc3 => zB_iff.mpr ?_) (fun hc3 => zB_iff.mpr ?_))
      · -- pc 84
        have i3 : (Int32.ofNat j).toInt ≥ nT.toInt := zop_int.mp hc3
        refine zrn_ok HW 2 ?_
        refine zret_i rfl rfl (kk won hl ⟨okl.1, ?_, okl.2.2⟩ F1 F2 F2s)
        have ej8 : ∀ t : Nat, (t : Int) < hi h q 17 → t < j ∧ t < 8 := fun t ht => by omega
        have a19 : ∀ t, hi hl (q + 19) t = hi h (q + 19) t := fun t => hi_eq (F1 _ _ (by omega) (by omega) (by omega) (Or.inl (by omega)))
        have a9 : hi hl q 9 = hi h q 9 := hi_eq (F1 _ _ (by omega) (by omega) (by omega) (Or.inr (by decide)))
        have a17 : hi hl q 17 = hi h q 17 := hi_eq (F1 _ _ (by omega) (by omega) (by omega) (Or.inr (by decide)))
        refine p_keep2 hq_q (by decide) (fun p σ i h1 h2 h3 => F1 p i (fun e => ?_) (fun e => ?_) (fun e => ?_) ?_) ?_ ok0.2.1
        · subst e
          rw [t31] at h1
          cases h1
          exact h3 (Or.inr (Or.inl ⟨rfl, rfl⟩))
        · subst e
          rw [t35] at h1
          cases h1
          cases h2
        · subst e
          rw [t36] at h1
          cases h1
          exact h3 (Or.inr (Or.inr (Or.inr ⟨rfl, rfl⟩)))
        · by_cases e : p = q
          · subst e
            rw [hq_q] at h1
            cases h1
            refine Or.inr (fun e2 => ?_)
            subst e2
            cases h2
          · exact Or.inl e
        · intro t ht
          rw [a17] at ht
          rw [a9, a19]
          refine ⟨(hJ t ht).1, fun h2 => ?_, fun u hu => ?_⟩
          · rw [F3 t (ej8 t ht).2] at h2
            by_cases e : t < j ∧ nbt won t = 1
            · rw [if_pos e] at h2
              omega
            · rw [if_neg e] at h2
              have hne : hi h (q + 19) t ≠ s.toInt := fun e2 => e ⟨(ej8 t ht).1, hw t ht e2 (fun u hu => by rw [← e2]; exact (hJ t ht).2.2 u hu) h2⟩
              have h5 := (hJ t ht).1
              rw [F2 _ (by omega)]
              exact (hJ t ht).2.1 h2
          · rw [a19]
            exact (hJ t ht).2.2 u hu
      · -- pc 35
        have i3 : ¬ ((Int32.ofNat j).toInt ≥ nT.toInt) := fun e => hc3 (zop_int.mpr e)
        exfalso
        omega
    | succ i ih =>
      intro j hj hl okl F1 F2 F2s F3
      have ej := nI_int (k := j) (by omega)
      have ejn : (Int32.ofNat j).toInt.toNat = j := by omega
      refine zrn_ok HW 2 (zB_iff.mpr (?_ : G (29, [(4, .inl (.int (Int32.ofNat j))), (3, .inl (.int won)), (0, .inl (.ref q)), (1, .inl (.int s)), (2, .inl (.int b))], [.inl (.ref q), .inl (.int (Int32.ofNat j))], hl, 0, 0)))
      have g2 : hget hl q 17 = some (.inl (.int nT)) := (F1 q 17 (by omega) (by omega) (by omega) (Or.inr (by decide))).trans gT
      refine g_getf HW rfl okl.1 hq_q rfl g2 ?_
      refine zrn_ok HW 1 (zbr_ex (cd := .ge) (x := (Int32.ofNat j)) (y := nT) (fun hc3 => zB_iff.mpr ?_) (fun hc3 => zB_iff.mpr ?_))
      · -- pc 84
        have i3 : (Int32.ofNat j).toInt ≥ nT.toInt := zop_int.mp hc3
        exfalso
        omega
      · -- pc 35
        have i3 : ¬ ((Int32.ofNat j).toInt ≥ nT.toInt) := fun e => hc3 (zop_int.mpr e)
        refine zrn_ok HW 6 (zbr_ex (cd := .eq) (x := ((won >>> ((Int32.ofNat j) &&& 31)) &&& (1 : Int32))) (y := (0 : Int32)) (fun hc4 => zB_iff.mpr ?_) (fun hc4 => zB_iff.mpr ?_))
        · -- pc 78
          have i4 : ((won >>> ((Int32.ofNat j) &&& 31)) &&& (1 : Int32)).toInt = (0 : Int) := zop_int.mp hc4
          refine zrn_ok HW 2 (zB_iff.mpr (?_ : G (26, [(4, .inl (.int ((Int32.ofNat j) + (1 : Int32)))), (3, .inl (.int won)), (0, .inl (.ref q)), (1, .inl (.int s)), (2, .inl (.int b))], [], hl, 0, 0)))
          have enb : nbt won j = ((won >>> (Int32.ofNat j &&& 31)) &&& (1 : Int32)).toInt := rfl
          have := ih (j + 1) (by omega) _ okl F1 F2 F2s (fun t ht => ?_)
          · rw [← nI_add1] at this
            exact this
          · rw [F3 t ht]
            by_cases e : t = j
            · subst e
              rw [if_neg (fun x => by omega), if_neg (fun x => by omega)]
            · by_cases e2 : t < j ∧ nbt won t = 1
              · rw [if_pos e2, if_pos ⟨by omega, e2.2⟩]
              · rw [if_neg e2, if_neg (fun x => e2 ⟨by omega, x.2⟩)]
        · -- pc 44
          have i4 : ¬ (((won >>> ((Int32.ofNat j) &&& 31)) &&& (1 : Int32)).toInt = (0 : Int)) := fun e => hc4 (zop_int.mpr e)
          have enb : nbt won j = ((won >>> (Int32.ofNat j &&& 31)) &&& (1 : Int32)).toInt := rfl
          have bit : nbt won j = 1 := by have := nb_01 (x := won) (t := j) (by omega); omega
          refine zrn_ok HW 1 (zB_iff.mpr (?_ : G (45, [(4, .inl (.int (Int32.ofNat j))), (3, .inl (.int won)), (0, .inl (.ref q)), (1, .inl (.int s)), (2, .inl (.int b))], [.inl (.ref q)], hl, 0, 0)))
          have o6 : hget hl q 22 = some (.inl (.ref (q + 22))) := (F1 q 22 (by omega) (by omega) (by omega) (Or.inr (by decide))).trans (lay.1 (22, 22, 36) (by decide +kernel)).1
          have t6 : T[q + 22]? = some 36 := (lay.1 (22, 22, 36) (by decide +kernel)).2
          refine g_getf HW rfl okl.1 hq_q rfl o6 ?_
          refine zrn_ok HW 2 (zB_iff.mpr (?_ : G (51, [(4, .inl (.int (Int32.ofNat j))), (3, .inl (.int won)), (0, .inl (.ref q)), (1, .inl (.int s)), (2, .inl (.int b))], [.inl (.int b), .inl (.int (Int32.ofNat j)), .inl (.ref (q + 22))], hl, 0, 0)))
          have ok7 : wOK (fun _ _ => True) N T (hput hl (q + 22) ((Int32.ofNat j)).toInt.toNat (.inl (.int b))) := ⟨hOK_put okl.1 t6 ⟨_, rfl, (by show ((-1) : Int) ≤ _; omega), (by show _ ≤ (3 : Int); omega)⟩, trivial, by rw [hput_len]; exact okl.2.2⟩
          refine g_iast HW rfl okl.1 t6 rfl (by omega) (by show _ < (8 : Int); omega) ?_
          refine zrn_ok HW 1 (zB_iff.mpr (?_ : G (53, [(4, .inl (.int (Int32.ofNat j))), (3, .inl (.int won)), (0, .inl (.ref q)), (1, .inl (.int s)), (2, .inl (.int b))], [.inl (.ref q)], (hput hl (q + 22) ((Int32.ofNat j)).toInt.toNat (.inl (.int b))), 0, 0)))
          have o9 : hget (hput hl (q + 22) ((Int32.ofNat j)).toInt.toNat (.inl (.int b))) q 21 = some (.inl (.ref (q + 21))) := (hget_put_ne (by omega)).trans ((F1 q 21 (by omega) (by omega) (by omega) (Or.inr (by decide))).trans (lay.1 (21, 21, 35) (by decide +kernel)).1)
          have t9 : T[q + 21]? = some 35 := (lay.1 (21, 21, 35) (by decide +kernel)).2
          refine g_getf HW rfl ok7.1 hq_q rfl o9 ?_
          refine zrn_ok HW 2 (zB_iff.mpr (?_ : G (59, [(4, .inl (.int (Int32.ofNat j))), (3, .inl (.int won)), (0, .inl (.ref q)), (1, .inl (.int s)), (2, .inl (.int b))], [.inl (.int (Int32.ofNat j)), .inl (.ref (q + 21)), .inl (.int (Int32.ofNat j)), .inl (.ref (q + 21))], (hput hl (q + 22) ((Int32.ofNat j)).toInt.toNat (.inl (.int b))), 0, 0)))
          obtain ⟨x10, g10, e10, l10, u10⟩ := hi_val (i := ((Int32.ofNat j)).toInt.toNat) ok7.1 t9 (by show _ < 8; omega) rfl
          have l10 : ((-2147483648) : Int) ≤ x10.toInt := l10
          have u10 : x10.toInt ≤ (2147483647 : Int) := u10
          refine g_iald HW rfl ok7.1 t9 rfl (by omega) g10 ?_
          refine zrn_ok HW 1 (zB_iff.mpr (?_ : G (61, [(4, .inl (.int (Int32.ofNat j))), (3, .inl (.int won)), (0, .inl (.ref q)), (1, .inl (.int s)), (2, .inl (.int b))], [.inl (.ref q), .inl (.int x10), .inl (.int (Int32.ofNat j)), .inl (.ref (q + 21))], (hput hl (q + 22) ((Int32.ofNat j)).toInt.toNat (.inl (.int b))), 0, 0)))
          have o12 : hget (hput hl (q + 22) ((Int32.ofNat j)).toInt.toNat (.inl (.int b))) q 18 = some (.inl (.ref (q + 18))) := (hget_put_ne (by omega)).trans ((F1 q 18 (by omega) (by omega) (by omega) (Or.inr (by decide))).trans (lay.1 (18, 18, 32) (by decide +kernel)).1)
          have t12 : T[q + 18]? = some 32 := (lay.1 (18, 18, 32) (by decide +kernel)).2
          refine g_getf HW rfl ok7.1 hq_q rfl o12 ?_
          refine zrn_ok HW 1 (zB_iff.mpr (?_ : G (66, [(4, .inl (.int (Int32.ofNat j))), (3, .inl (.int won)), (0, .inl (.ref q)), (1, .inl (.int s)), (2, .inl (.int b))], [.inl (.int (Int32.ofNat j)), .inl (.ref (q + 18)), .inl (.int x10), .inl (.int (Int32.ofNat j)), .inl (.ref (q + 21))], (hput hl (q + 22) ((Int32.ofNat j)).toInt.toNat (.inl (.int b))), 0, 0)))
          obtain ⟨x13, g13, e13, l13, u13⟩ := hi_val (i := ((Int32.ofNat j)).toInt.toNat) ok7.1 t12 (by show _ < 8; omega) rfl
          have l13 : (0 : Int) ≤ x13.toInt := l13
          have u13 : x13.toInt ≤ (5 : Int) := u13
          refine g_iald HW rfl ok7.1 t12 rfl (by omega) g13 ?_
          refine zrn_ok HW 2 (zbr_ex (cd := .ne) (x := x13) (y := (2 : Int32)) (fun hc14 => zB_iff.mpr ?_) (fun hc14 => zB_iff.mpr ?_))
          · -- pc 75
            have i14 : ¬ x13.toInt = (2 : Int) := zop_int.mp hc14
            refine zrn_ok HW 2 (zB_iff.mpr (?_ : G (77, [(4, .inl (.int (Int32.ofNat j))), (3, .inl (.int won)), (0, .inl (.ref q)), (1, .inl (.int s)), (2, .inl (.int b))], [.inl (.int (x10 + (0 : Int32))), .inl (.int (Int32.ofNat j)), .inl (.ref (q + 21))], (hput hl (q + 22) ((Int32.ofNat j)).toInt.toNat (.inl (.int b))), 0, 0)))
            have ok15 : wOK (fun _ _ => True) N T (hput (hput hl (q + 22) ((Int32.ofNat j)).toInt.toNat (.inl (.int b))) (q + 21) ((Int32.ofNat j)).toInt.toNat (.inl (.int (x10 + (0 : Int32))))) := wOK_put hst ok7 t9 rfl ⟨_, rfl, t_lo _, t_hi _⟩
            refine g_iast HW rfl ok7.1 t9 rfl (by omega) (by show _ < (8 : Int); omega) ?_
            refine zrn_ok HW 2 (zB_iff.mpr (?_ : G (26, [(4, .inl (.int ((Int32.ofNat j) + (1 : Int32)))), (3, .inl (.int won)), (0, .inl (.ref q)), (1, .inl (.int s)), (2, .inl (.int b))], [], (hput (hput hl (q + 22) ((Int32.ofNat j)).toInt.toNat (.inl (.int b))) (q + 21) ((Int32.ofNat j)).toInt.toNat (.inl (.int (x10 + (0 : Int32))))), 0, 0)))
            have := ih (j + 1) (by omega) _ ok15 (fun p i h1 h2 h3 h4 => (hget_put_ne (Or.inl h2)).trans ((hget_put_ne (Or.inl h3)).trans (F1 p i h1 h2 h3 h4))) (fun i hi0 => by rw [hi_put_ne (Or.inl (by omega)), hi_put_ne (Or.inl (by omega))]; exact F2 i hi0) (by rw [hi_put_ne (Or.inl (by omega)), hi_put_ne (Or.inl (by omega))]; exact F2s) (fun t ht => ?_)
            · rw [← nI_add1] at this
              exact this
            · rw [hi_put_ne (Or.inl (by omega))]
              by_cases e : t = j
              · subst e
                obtain ⟨w, hw9, -⟩ := hOK_get (i := t) okl.1 t36 (by show _ < 8; omega)
                rw [if_pos ⟨by omega, bit⟩, ejn]
                exact hi_put hw9
              · rw [hi_put_ne (Or.inr (by omega)), F3 t ht]
                by_cases e2 : t < j ∧ nbt won t = 1
                · rw [if_pos e2, if_pos ⟨by omega, e2.2⟩]
                · rw [if_neg e2, if_neg (fun x => e2 ⟨by omega, x.2⟩)]
          · -- pc 71
            have i14 : ¬ (¬ x13.toInt = (2 : Int)) := fun e => hc14 (zop_int.mpr e)
            refine zrn_ok HW 3 (zB_iff.mpr (?_ : G (77, [(4, .inl (.int (Int32.ofNat j))), (3, .inl (.int won)), (0, .inl (.ref q)), (1, .inl (.int s)), (2, .inl (.int b))], [.inl (.int (x10 + (1 : Int32))), .inl (.int (Int32.ofNat j)), .inl (.ref (q + 21))], (hput hl (q + 22) ((Int32.ofNat j)).toInt.toNat (.inl (.int b))), 0, 0)))
            have ok16 : wOK (fun _ _ => True) N T (hput (hput hl (q + 22) ((Int32.ofNat j)).toInt.toNat (.inl (.int b))) (q + 21) ((Int32.ofNat j)).toInt.toNat (.inl (.int (x10 + (1 : Int32))))) := wOK_put hst ok7 t9 rfl ⟨_, rfl, t_lo _, t_hi _⟩
            refine g_iast HW rfl ok7.1 t9 rfl (by omega) (by show _ < (8 : Int); omega) ?_
            refine zrn_ok HW 2 (zB_iff.mpr (?_ : G (26, [(4, .inl (.int ((Int32.ofNat j) + (1 : Int32)))), (3, .inl (.int won)), (0, .inl (.ref q)), (1, .inl (.int s)), (2, .inl (.int b))], [], (hput (hput hl (q + 22) ((Int32.ofNat j)).toInt.toNat (.inl (.int b))) (q + 21) ((Int32.ofNat j)).toInt.toNat (.inl (.int (x10 + (1 : Int32))))), 0, 0)))
            have := ih (j + 1) (by omega) _ ok16 (fun p i h1 h2 h3 h4 => (hget_put_ne (Or.inl h2)).trans ((hget_put_ne (Or.inl h3)).trans (F1 p i h1 h2 h3 h4))) (fun i hi0 => by rw [hi_put_ne (Or.inl (by omega)), hi_put_ne (Or.inl (by omega))]; exact F2 i hi0) (by rw [hi_put_ne (Or.inl (by omega)), hi_put_ne (Or.inl (by omega))]; exact F2s) (fun t ht => ?_)
            · rw [← nI_add1] at this
              exact this
            · rw [hi_put_ne (Or.inl (by omega))]
              by_cases e : t = j
              · subst e
                obtain ⟨w, hw9, -⟩ := hOK_get (i := t) okl.1 t36 (by show _ < 8; omega)
                rw [if_pos ⟨by omega, bit⟩, ejn]
                exact hi_put hw9
              · rw [hi_put_ne (Or.inr (by omega)), F3 t ht]
                by_cases e2 : t < j ∧ nbt won t = 1
                · rw [if_pos e2, if_pos ⟨by omega, e2.2⟩]
                · rw [if_neg e2, if_neg (fun x => e2 ⟨by omega, x.2⟩)]
  refine zrn_ok HW 2 (zB_iff.mpr (?_ : G (2, [(0, .inl (.ref q)), (1, .inl (.int s)), (2, .inl (.int b))], [.inl (.int s), .inl (.ref q)], h, 0, 0)))
  refine g_callV (E' := ze_X5_winsBy) HW rfl rfl (Nat.le_of_ble_eq_true rfl) (Nat.le_of_ble_eq_true rfl) (Nat.le_of_ble_eq_true rfl) ok.1 rfl hq_q rfl (Nat.le_of_ble_eq_true rfl) (c_winsBy6 ok hq_q lay (fun won hw wl wu => zB_iff.mpr ?_))
  show G (5, [(0, .inl (.ref q)), (1, .inl (.int s)), (2, .inl (.int b))], [.inl (.int won)], h, 0, 0)
  refine zrn_ok HW 2 (zB_iff.mpr (?_ : G (7, [(3, .inl (.int won)), (0, .inl (.ref q)), (1, .inl (.int s)), (2, .inl (.int b))], [.inl (.ref q)], h, 0, 0)))
  have o2 : hget h q 16 = some (.inl (.ref (q + 17))) := (lay.1 (16, 17, 31) (by decide +kernel)).1
  have t2 : T[q + 17]? = some 31 := (lay.1 (16, 17, 31) (by decide +kernel)).2
  refine g_getf HW rfl ok.1 hq_q rfl o2 ?_
  refine zrn_ok HW 2 (zB_iff.mpr (?_ : G (12, [(3, .inl (.int won)), (0, .inl (.ref q)), (1, .inl (.int s)), (2, .inl (.int b))], [.inl (.int (1 : Int32)), .inl (.int s), .inl (.ref (q + 17))], h, 0, 0)))
  have ok3 : wOK (fun _ _ => True) N T (hput h (q + 17) (s).toInt.toNat (.inl (.int (1 : Int32)))) := ⟨hOK_put ok.1 t2 ⟨_, rfl, (by show (0 : Int) ≤ Int32.toInt (1 : Int32); decide), (by show Int32.toInt (1 : Int32) ≤ (1 : Int); decide)⟩, trivial, by rw [hput_len]; exact ok.2.2⟩
  refine g_iast HW rfl ok.1 t2 rfl (by omega) (by show _ < (61 : Int); omega) ?_
  refine zrn_ok HW 2 (zB_iff.mpr (?_ : G (15, [(3, .inl (.int won)), (0, .inl (.ref q)), (1, .inl (.int s)), (2, .inl (.int b))], [.inl (.ref q), .inl (.ref q)], (hput h (q + 17) (s).toInt.toNat (.inl (.int (1 : Int32)))), 0, 0)))
  obtain ⟨x4, g4, e4, l4, u4⟩ := hi_val (i := 13) ok3.1 hq_q (by decide) rfl
  have l4 : ((-2147483648) : Int) ≤ x4.toInt := l4
  have u4 : x4.toInt ≤ (2147483647 : Int) := u4
  refine g_getf HW rfl ok3.1 hq_q rfl g4 ?_
  refine zrn_ok HW 2 (zB_iff.mpr (?_ : G (20, [(3, .inl (.int won)), (0, .inl (.ref q)), (1, .inl (.int s)), (2, .inl (.int b))], [.inl (.int (x4 + (1 : Int32))), .inl (.ref q)], (hput h (q + 17) (s).toInt.toNat (.inl (.int (1 : Int32)))), 0, 0)))
  have ok5 : wOK (fun _ _ => True) N T (hput (hput h (q + 17) (s).toInt.toNat (.inl (.int (1 : Int32)))) q 13 (.inl (.int (x4 + (1 : Int32))))) := wOK_put hst ok3 hq_q rfl ⟨_, rfl, t_lo _, t_hi _⟩
  refine g_putf HW rfl ok3.1 hq_q rfl (by decide) rfl ?_
  refine zrn_ok HW 2 (zB_iff.mpr (?_ : G (26, [(4, .inl (.int (0 : Int32))), (3, .inl (.int won)), (0, .inl (.ref q)), (1, .inl (.int s)), (2, .inl (.int b))], [], (hput (hput h (q + 17) (s).toInt.toNat (.inl (.int (1 : Int32)))) q 13 (.inl (.int (x4 + (1 : Int32))))), 0, 0)))
  obtain ⟨w17, hw17, -⟩ := hOK_get (i := s.toInt.toNat) ok0.1 t31 (by show _ < 61; omega)
  refine post1 won hw nT.toInt.toNat 0 (by omega) _ ok5 (fun p i h1 h2 h3 h4 => (hget_put_ne (by omega)).trans (hget_put_ne (Or.inl h1))) (fun i hi0 => by rw [hi_put_ne (Or.inl (by omega)), hi_put_ne (Or.inr (by omega))]) ?_ (fun t ht => ?_)
  · rw [hi_put_ne (Or.inl (by omega)), hi_put hw17]
    rfl
  · rw [hi_put_ne (Or.inl (by omega)), hi_put_ne (Or.inl (by omega)), if_neg (fun x => by omega)]
