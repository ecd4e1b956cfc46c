theorem hins_eq {h h' : zH} {q : Nat} (a17 : ∀ i, hi h' (q + 17) i = hi h (q + 17) i) : ∀ k : Nat, hins h' q k = hins h q k
  | 0 => rfl
  | k + 1 => by
    show hins h' q k + (1 - hi h' (q + 17) (k + 1)) = hins h q k + (1 - hi h (q + 17) (k + 1))
    rw [hins_eq a17 k, a17]
theorem hDr_eq {h h' : zH} {q : Nat} (e9 : hi h' q 9 = hi h q 9) (e13 : hi h' q 13 = hi h q 13) (e17 : hi h' q 17 = hi h q 17) (a17 : ∀ i, hi h' (q + 17) i = hi h (q + 17) i) (a18 : ∀ i, hi h' (q + 18) i = hi h (q + 18) i) (a19 : ∀ i, hi h' (q + 19) i = hi h (q + 19) i) (a20 : ∀ i, hi h' (q + 20) i = hi h (q + 20) i) (a22 : ∀ i, hi h' (q + 22) i = hi h (q + 22) i) (s : Int) : hDr h' q s ↔ hDr h q s := by
  unfold hDr hFree
  simp only [e9, e13, e17, a17, a18, a19, a20, a22, hins_eq a17]
theorem hcnt_eq {h h' : zH} {q : Nat} (hd : ∀ s : Int, hDr h' q s ↔ hDr h q s) : ∀ k : Nat, hcnt h' q k = hcnt h q k
  | 0 => rfl
  | k + 1 => by
    by_cases e : hDr h q ((k + 1 : Nat) : Int)
    · rw [hcnt_t e, hcnt_t ((hd _).mpr e), hcnt_eq hd k]
    · rw [hcnt_f e, hcnt_f (fun x => e ((hd _).mp x)), hcnt_eq hd k]
theorem hcnt_put {h : zH} {q p i : Nat} {v : zV} (h1 : p ≠ q ∨ (i ≠ 9 ∧ i ≠ 13 ∧ i ≠ 17)) (h2 : p ≠ q + 17 ∧ p ≠ q + 18 ∧ p ≠ q + 19 ∧ p ≠ q + 20 ∧ p ≠ q + 22) : ∀ k : Nat, hcnt (hput h p i v) q k = hcnt h q k :=
  hcnt_eq (hDr_eq (hi_put_ne (by omega)) (hi_put_ne (by omega)) (hi_put_ne (by omega)) (fun _ => hi_put_ne (Or.inl (by omega))) (fun _ => hi_put_ne (Or.inl (by omega))) (fun _ => hi_put_ne (Or.inl (by omega))) (fun _ => hi_put_ne (Or.inl (by omega))) (fun _ => hi_put_ne (Or.inl (by omega))))
theorem hins_out {h h' : zH} {q s : Nat} (a : ∀ i, i ≠ s → hi h' (q + 17) i = hi h (q + 17) i) (h1 : hi h' (q + 17) s = 1) (h0 : hi h (q + 17) s = 0) : ∀ k : Nat, (k < s → hins h' q k = hins h q k) ∧ (1 ≤ s → s ≤ k → hins h' q k + 1 = hins h q k)
  | 0 => ⟨fun _ => rfl, fun x y => absurd x (by omega)⟩
  | k + 1 => by
    obtain ⟨i1, i2⟩ := hins_out a h1 h0 k
    have e1 : hins h' q (k + 1) = hins h' q k + (1 - hi h' (q + 17) (k + 1)) := rfl
    have e2 : hins h q (k + 1) = hins h q k + (1 - hi h (q + 17) (k + 1)) := rfl
    refine ⟨fun hk => ?_, fun hs hk => ?_⟩
    · rw [e1, e2, i1 (by omega), a _ (by omega)]
    · by_cases e : s = k + 1
      · subst e
        have := i1 (by omega)
        omega
      · have := i2 hs (by omega)
        have := a (k + 1) (by omega)
        omega
theorem pJ_in {h : zH} {i : Nat} (hj : pJ h 49) : pJ (hput h 66 i (.inl (.int 0))) 49 := by
  intro t ht
  have e17 : hi (hput h 66 i (.inl (.int 0))) 49 17 = hi h 49 17 := hi_put_ne (Or.inl (by decide))
  have e9 : hi (hput h 66 i (.inl (.int 0))) 49 9 = hi h 49 9 := hi_put_ne (Or.inl (by decide))
  have a19 : ∀ j, hi (hput h 66 i (.inl (.int 0))) (49 + 19) j = hi h (49 + 19) j := fun j => hi_put_ne (Or.inl (by decide))
  have a22 : ∀ j, hi (hput h 66 i (.inl (.int 0))) (49 + 22) j = hi h (49 + 22) j := fun j => hi_put_ne (Or.inl (by decide))
  rw [e17] at ht
  rw [e9, a19, a22]
  refine ⟨(hj t ht).1, fun h2 => ?_, fun u hu => ?_⟩
  · by_cases e0 : (hi h (49 + 19) t).toNat = i
    · rw [e0]
      show hi (hput h 66 i (.inl (.int 0))) 66 i = 0
      unfold hi
      cases hg : hget h 66 i with
      | none =>
        have : hget (hput h 66 i (.inl (.int 0))) 66 i = none := by
          unfold hget hput at *
          split
          · next c hc =>
            split at hc
            · next c2 hc2 =>
              rw [hc2] at hg
              have hg : c2.2[i]? = none := hg
              rw [List.getElem?_set_self (List.getElem?_eq_some_iff.mp hc2).1] at hc
              cases hc
              show (c2.2.set i _)[i]? = none
              rw [List.getElem?_eq_none_iff] at hg ⊢
              rw [List.length_set]
              exact hg
            · next hc2 =>
              rw [hc2] at hc
              cases hc
          · rfl
        rw [this]
      | some w =>
        rw [hget_put hg]
        rfl
    · rw [show hi (hput h 66 i (.inl (.int 0))) (49 + 17) (hi h (49 + 19) t).toNat = hi h (49 + 17) (hi h (49 + 19) t).toNat from hi_put_ne (Or.inr e0)]
      exact (hj t ht).2.1 h2
  · rw [a19]
    exact (hj t ht).2.2 u hu
theorem pJ_has {h : zH} {i : Nat} {v : zV} (hj : pJ h 49) (h0 : ∀ j : Nat, j ≤ 60 → hi h 66 j = 0) (u9 : hi h 49 9 ≤ 60) : pJ (hput h 71 i v) 49 := by
  intro t ht
  have e17 : hi (hput h 71 i v) 49 17 = hi h 49 17 := hi_put_ne (Or.inl (by decide))
  have e9 : hi (hput h 71 i v) 49 9 = hi h 49 9 := hi_put_ne (Or.inl (by decide))
  have a17 : ∀ j, hi (hput h 71 i v) (49 + 17) j = hi h 66 j := fun j => hi_put_ne (Or.inl (by decide))
  have a19 : ∀ j, hi (hput h 71 i v) (49 + 19) j = hi h (49 + 19) j := fun j => hi_put_ne (Or.inl (by decide))
  rw [e17] at ht
  rw [e9, a19, a17]
  have h3 := (hj t ht).1
  refine ⟨h3, fun _ => h0 _ (by omega), fun u hu => ?_⟩
  rw [a19]
  exact (hj t ht).2.2 u hu
theorem c_goesOne {P : pP} {N : Nat} {scr : List zV} {d : Nat} {T : List Nat} {h : zH} {b : Int32} {post : Option zV → zH → Bool} (ok : wOK (zPhi P) N T h) (hb : 0 ≤ b.toInt ∧ b.toInt ≤ 3) (hD : 0 < hcnt h 49 (hi h 49 9).toNat) (kk : ∀ (r : Int32) (h' : zH), wOK (zPhi P) N T h' → hi h' 49 9 = hi h 49 9 → hins h' 49 (hi h 49 9).toNat + 1 = hins h 49 (hi h 49 9).toNat → post (some (.inl (.int r))) h' = true) : zD zprog scr (d + 5) 187 [.inl (.ref 49), .inl (.int b)] h post = true := by
  have hq_q := ok.2.1.1.2.2.1
  have hst := p_stab P
  obtain ⟨sl, -, eS, lS, uS⟩ := hi_val (i := 9) ok.1 hq_q (by decide) rfl
  have lS : (1 : Int) ≤ sl.toInt := lS
  have uS : sl.toInt ≤ (60 : Int) := uS
  refine zD_intro (E := ze_X5_goesOne) rfl rfl (fun G HW => ?_)
  refine zrn_ok HW 1 (zB_iff.mpr (?_ : G (1, [(0, .inl (.ref 49)), (1, .inl (.int b))], [.inl (.ref 49)], h, 0, 0)))
  have o2 : hget h 49 24 = some (.inl (.ref 72)) := ((ok.2.1.2.1 49 5 hq_q (Or.inl rfl)).1.1 (24, 23, 37) (by decide +kernel)).1
  have t2 : T[72]? = some 37 := ((ok.2.1.2.1 49 5 hq_q (Or.inl rfl)).1.1 (24, 23, 37) (by decide +kernel)).2
  refine g_getf HW rfl ok.1 hq_q rfl o2 ?_
  refine zrn_ok HW 2 (zB_iff.mpr (?_ : G (6, [(0, .inl (.ref 49)), (1, .inl (.int b))], [.inl (.int b), .inl (.ref 72), .inl (.int b), .inl (.ref 72)], h, 0, 0)))
  obtain ⟨x3, g3, e3, l3, u3⟩ := hi_val (i := (b).toInt.toNat) ok.1 t2 (by show _ < 4; omega) rfl
  have l3 : ((-2147483648) : Int) ≤ x3.toInt := l3
  have u3 : x3.toInt ≤ (2147483647 : Int) := u3
  refine g_iald HW rfl ok.1 t2 rfl (by omega) g3 ?_
  refine zrn_ok HW 1 (zB_iff.mpr (?_ : G (8, [(0, .inl (.ref 49)), (1, .inl (.int b))], [.inl (.ref 49), .inl (.int x3), .inl (.int b), .inl (.ref 72)], h, 0, 0)))
  obtain ⟨x4, g4, e4, l4, u4⟩ := hi_val (i := 11) ok.1 hq_q (by decide) rfl
  have l4 : (1 : Int) ≤ x4.toInt := l4
  have u4 : x4.toInt ≤ (495 : Int) := u4
  refine g_getf HW rfl ok.1 hq_q rfl g4 ?_
  refine zrn_ok HW 1 (zB_iff.mpr (?_ : G (12, [(0, .inl (.ref 49)), (1, .inl (.int b))], [.inl (.int (x3 - x4)), .inl (.int b), .inl (.ref 72)], h, 0, 0)))
  have ok5 : wOK (zPhi P) N T (hput h 72 (b).toInt.toNat (.inl (.int (x3 - x4)))) := wOK_put hst ok t2 rfl ⟨_, rfl, t_lo _, t_hi _⟩
  refine g_iast HW rfl ok.1 t2 rfl (by omega) (by show _ < (4 : Int); omega) ?_
  refine zrn_ok HW 2 (zB_iff.mpr (?_ : G (15, [(0, .inl (.ref 49)), (1, .inl (.int b))], [.inl (.ref 49), .inl (.ref 49)], (hput h 72 (b).toInt.toNat (.inl (.int (x3 - x4)))), 0, 0)))
  obtain ⟨x6, g6, e6, l6, u6⟩ := hi_val (i := 14) ok5.1 hq_q (by decide) rfl
  have l6 : ((-2147483648) : Int) ≤ x6.toInt := l6
  have u6 : x6.toInt ≤ (2147483647 : Int) := u6
  refine g_getf HW rfl ok5.1 hq_q rfl g6 ?_
  refine zrn_ok HW 1 (zB_iff.mpr (?_ : G (19, [(0, .inl (.ref 49)), (1, .inl (.int b))], [.inl (.ref 49), .inl (.int x6), .inl (.ref 49)], (hput h 72 (b).toInt.toNat (.inl (.int (x3 - x4)))), 0, 0)))
  obtain ⟨x7, g7, e7, l7, u7⟩ := hi_val (i := 11) ok5.1 hq_q (by decide) rfl
  have l7 : (1 : Int) ≤ x7.toInt := l7
  have u7 : x7.toInt ≤ (495 : Int) := u7
  refine g_getf HW rfl ok5.1 hq_q rfl g7 ?_
  refine zrn_ok HW 1 (zB_iff.mpr (?_ : G (23, [(0, .inl (.ref 49)), (1, .inl (.int b))], [.inl (.int (x6 + x7)), .inl (.ref 49)], (hput h 72 (b).toInt.toNat (.inl (.int (x3 - x4)))), 0, 0)))
  have ok8 : wOK (zPhi P) N T (hput (hput h 72 (b).toInt.toNat (.inl (.int (x3 - x4)))) 49 14 (.inl (.int (x6 + x7)))) := wOK_put hst ok5 hq_q rfl ⟨_, rfl, t_lo _, t_hi _⟩
  refine g_putf HW rfl ok5.1 hq_q rfl (by decide) rfl ?_
  refine zrn_ok HW 1 (zB_iff.mpr (?_ : G (27, [(0, .inl (.ref 49)), (1, .inl (.int b))], [.inl (.ref 49)], (hput (hput h 72 (b).toInt.toNat (.inl (.int (x3 - x4)))) 49 14 (.inl (.int (x6 + x7)))), 0, 0)))
  have z9 : hi (hput (hput h 72 (b).toInt.toNat (.inl (.int (x3 - x4)))) 49 14 (.inl (.int (x6 + x7)))) 49 9 = hi h 49 9 := by rw [hi_put_ne (by omega), hi_put_ne (by omega)]
  have zc : 0 < hcnt (hput (hput h 72 (b).toInt.toNat (.inl (.int (x3 - x4)))) 49 14 (.inl (.int (x6 + x7)))) 49 (hi (hput (hput h 72 (b).toInt.toNat (.inl (.int (x3 - x4)))) 49 14 (.inl (.int (x6 + x7)))) 49 9).toNat := by
    rw [z9, hcnt_put (by omega) (by omega), hcnt_put (by omega) (by omega)]
    exact hD
  have zi : ∀ k, hins (hput (hput h 72 (b).toInt.toNat (.inl (.int (x3 - x4)))) 49 14 (.inl (.int (x6 + x7)))) 49 k = hins h 49 k := hins_eq (fun i => by rw [hi_put_ne (Or.inl (by decide)), hi_put_ne (Or.inl (by decide))])
  refine g_callV (E' := ze_X5_drawn) HW rfl rfl (Nat.le_of_ble_eq_true rfl) (Nat.le_of_ble_eq_true rfl) (Nat.le_of_ble_eq_true rfl) ok8.1 rfl hq_q rfl (Nat.le_of_ble_eq_true rfl) (c_drawn ok8 hq_q zc (fun s9 v9 dr9 ok9 => zB_iff.mpr ?_))
  show G (30, [(0, .inl (.ref 49)), (1, .inl (.int b))], [.inl (.int s9)], (hput (hput (hput h 72 (b).toInt.toNat (.inl (.int (x3 - x4)))) 49 14 (.inl (.int (x6 + x7)))) 49 15 (.inl (.int v9))), 0, 0)
  have dd9 := dr9.2.1
  rw [z9] at dd9
  have d19 := dr9.1
  refine zrn_ok HW 4 (zB_iff.mpr (?_ : G (34, [(2, .inl (.int s9)), (0, .inl (.ref 49)), (1, .inl (.int b))], [.inl (.int b), .inl (.int s9), .inl (.ref 49)], (hput (hput (hput h 72 (b).toInt.toNat (.inl (.int (x3 - x4)))) 49 14 (.inl (.int (x6 + x7)))) 49 15 (.inl (.int v9))), 0, 0)))
  refine g_callV (E' := ze_X5_comesOut) HW rfl rfl (Nat.le_of_ble_eq_true rfl) (Nat.le_of_ble_eq_true rfl) (Nat.le_of_ble_eq_true rfl) ok9.1 rfl hq_q rfl (Nat.le_of_ble_eq_true rfl) (c_comesOut5 ok9 hq_q ⟨by omega, by omega⟩ hb (fun r10 h10 ok10 fr10 ot10 os10 => zB_iff.mpr ?_))
  show G (37, [(2, .inl (.int s9)), (0, .inl (.ref 49)), (1, .inl (.int b))], [.inl (.int r10)], h10, 0, 0)
  refine zrn_ok HW 3 ?_
  have y9 : hi h10 49 9 = hi h 49 9 := by rw [hi_eq (fr10 49 9 (by decide) (by decide) (by decide) (Or.inr (by decide))), hi_put_ne (by omega), z9]
  have o0 := dr9.2.2.1
  have zz := (hins_out (h := (hput (hput (hput h 72 (b).toInt.toNat (.inl (.int (x3 - x4)))) 49 14 (.inl (.int (x6 + x7)))) 49 15 (.inl (.int v9)))) (h' := h10) (q := 49) (s := s9.toInt.toNat) ot10 os10 (by rw [hi_put_ne (by omega)]; exact o0) (hi h 49 9).toNat).2 (by omega) (by omega)
  rw [hins_sd, zi] at zz
  exact zret_i rfl rfl (kk _ _ ok10 y9 zz)
theorem tq_X5_go_0 {scr : List zV} {P : pP} : tM zty (zPhi P) zprog scr zhts zsm 186 te_X5_go_0 := by
  have hst := p_stab P
  refine t_hand2 (E := ze_X5_go) (D0 := 5) rfl rfl (by decide +kernel) (fun d T h vs post G hd hok hΦ hlen hvs hp IH HW => ?_)
  obtain ⟨d, rfl⟩ : ∃ d', d = d' + 5 := ⟨d - 5, by omega⟩
  obtain ⟨v_q, vs, rfl, k_q, hvs⟩ := okAs_cons hvs
  obtain ⟨v_x, vs, rfl, k_x, hvs⟩ := okAs_cons hvs
  obtain rfl := okAs_nil hvs
  obtain ⟨q, rfl, hq_q⟩ := tref_sp rfl k_q
  have hq_q : T[q]? = some 5 := hq_q
  obtain ⟨x, rfl, bl_x, bu_x⟩ := tint_sp rfl k_x
  have bl_x : ((-2147483648) : Int) ≤ x.toInt := bl_x
  have bu_x : x.toInt ≤ (2147483647 : Int) := bu_x
  have ok : wOK (zPhi P) h.length T h := ⟨hok, hΦ, Nat.le_refl _⟩
  have RET : ∀ (y : Int32) (T' : List Nat) (h' : zH), tExt T T' → wOK (zPhi P) h.length T' h' → post (some (.inl (.int y))) h' = true := fun y T' h' m' ok' => hp _ T' h' m' ok'.1 ok'.2.1 (by have := ok'.2.2; omega) ⟨_, rfl, okA_If y, fun c hc => by cases hc⟩
  obtain rfl := hΦ.1.2.2.2.2.2 q hq_q
  refine zrn_ok HW 2 (zB_iff.mpr (?_ : G (2, [(0, .inl (.ref 49)), (1, .inl (.int x))], [.inl (.int x), .inl (.ref 49)], h, 0, 0)))
  refine g_callV (E' := ze_X5_isBuyer) HW rfl rfl (Nat.le_of_ble_eq_true rfl) (Nat.le_of_ble_eq_true rfl) (Nat.le_of_ble_eq_true rfl) ok.1 rfl hq_q rfl (Nat.le_of_ble_eq_true rfl) (c_isBuyer ok hq_q (fun r1 f1 => zB_iff.mpr ?_))
  show G (5, [(0, .inl (.ref 49)), (1, .inl (.int x))], [.inl (.int r1)], h, 0, 0)
  obtain ⟨nb1, -, eb1, -, ub1⟩ := hi_val (i := 23) ok.1 hq_q (by decide) rfl
  have ub1 : nb1.toInt ≤ (4 : Int) := ub1
  have f1 : (r1.toInt = 1 ∧ 0 ≤ x.toInt ∧ x.toInt < hi h 49 23) ∨ r1.toInt = 0 := by rcases f1 with ⟨e, x, y⟩ | ⟨e, -⟩; exact Or.inl ⟨by rw [e]; rfl, x, y⟩; exact Or.inr (by rw [e]; rfl)
  refine zrn_ok HW 1 (zbr_ex (cd := .ne) (x := r1) (y := (0 : Int32)) (fun hc2 => zB_iff.mpr ?_) (fun hc2 => zB_iff.mpr ?_))
  · -- pc 15
    have i2 : ¬ r1.toInt = (0 : Int) := zop_int.mp hc2
    refine zrn_ok HW 1 (zB_iff.mpr (?_ : G (16, [(0, .inl (.ref 49)), (1, .inl (.int x))], [.inl (.ref 49)], h, 0, 0)))
    have o4 : hget h 49 24 = some (.inl (.ref 72)) := ((ok.2.1.2.1 49 5 hq_q (Or.inl rfl)).1.1 (24, 23, 37) (by decide +kernel)).1
    have t4 : T[72]? = some 37 := ((ok.2.1.2.1 49 5 hq_q (Or.inl rfl)).1.1 (24, 23, 37) (by decide +kernel)).2
    refine g_getf HW rfl ok.1 hq_q rfl o4 ?_
    refine zrn_ok HW 1 (zB_iff.mpr (?_ : G (20, [(0, .inl (.ref 49)), (1, .inl (.int x))], [.inl (.int x), .inl (.ref 72)], h, 0, 0)))
    obtain ⟨x5, g5, e5, l5, u5⟩ := hi_val (i := (x).toInt.toNat) ok.1 t4 (by show _ < 4; omega) rfl
    have l5 : ((-2147483648) : Int) ≤ x5.toInt := l5
    have u5 : x5.toInt ≤ (2147483647 : Int) := u5
    refine g_iald HW rfl ok.1 t4 rfl (by omega) g5 ?_
    refine zrn_ok HW 1 (zB_iff.mpr (?_ : G (22, [(0, .inl (.ref 49)), (1, .inl (.int x))], [.inl (.ref 49), .inl (.int x5)], h, 0, 0)))
    obtain ⟨x6, g6, e6, l6, u6⟩ := hi_val (i := 11) ok.1 hq_q (by decide) rfl
    have l6 : (1 : Int) ≤ x6.toInt := l6
    have u6 : x6.toInt ≤ (495 : Int) := u6
    refine g_getf HW rfl ok.1 hq_q rfl g6 ?_
    refine zrn_ok HW 1 (zbr_ex (cd := .lt) (x := x5) (y := x6) (fun hc7 => zB_iff.mpr ?_) (fun hc7 => zB_iff.mpr ?_))
    · -- pc 35
      have i7 : x5.toInt < x6.toInt := zop_int.mp hc7
      refine zrn_ok HW 2 (zB_iff.mpr (?_ : G (38, [(0, .inl (.ref 49)), (1, .inl (.int x))], [.inl (.int (-5 : Int32)), .inl (.ref 49)], h, 0, 0)))
      refine g_tV (e := te_X5_refuse_0) (E' := ze_X5_refuse) HW (tLow_of IH hd) rfl rfl (show te_X5_refuse_0 ∈ [te_X5_refuse_0] from List.mem_cons_self) (by decide +kernel) (Nat.le_of_ble_eq_true rfl) ⟨rfl, rfl⟩ (by decide) ok.1 ok.2.1 rfl hq_q rfl (Nat.le_of_ble_eq_true rfl) ⟨⟨_, rfl, hq_q⟩, okA_I (by decide) (by decide), trivial⟩ (fun v8 T8 h8 m8 k8 f8 lh8 r8 => ?_)
      obtain ⟨w8, rfl, hw8, cd8⟩ := r8
      obtain ⟨x8, rfl, l8, u8⟩ := tint_sp rfl hw8
      have l8 : ((-6) : Int) ≤ x8.toInt := l8
      have u8 : x8.toInt ≤ ((-2) : Int) := u8
      have ok8 : wOK (zPhi P) h.length T8 h8 := ⟨k8, f8, Nat.le_trans lh8 ok.2.2⟩
      have hq_q := m8 _ _ hq_q
      have t4 := m8 _ _ t4
      show G (41, [(0, .inl (.ref 49)), (1, .inl (.int x))], [.inl (.int x8)], h8, 0, 0)
      refine zrn_ok HW 1 ?_
      exact zret_i rfl rfl (RET x8 T8 h8 (tExt_tr (tExt_rf T) m8) ok8)
    · -- pc 28
      have i7 : ¬ (x5.toInt < x6.toInt) := fun e => hc7 (zop_int.mpr e)
      refine zrn_ok HW 1 (zB_iff.mpr (?_ : G (29, [(0, .inl (.ref 49)), (1, .inl (.int x))], [.inl (.ref 49)], h, 0, 0)))
      refine g_callV (E' := ze_X5_drawableMany) HW rfl rfl (Nat.le_of_ble_eq_true rfl) (Nat.le_of_ble_eq_true rfl) (Nat.le_of_ble_eq_true rfl) ok.1 rfl hq_q rfl (Nat.le_of_ble_eq_true rfl) (c_drawableMany ok hq_q (ok.2.1.2.1 49 5 hq_q (Or.inl rfl)).1 (ok.2.1.2.1 49 5 hq_q (Or.inl rfl)).2 (fun m9 em9 lm9 um9 => zB_iff.mpr ?_))
      show G (32, [(0, .inl (.ref 49)), (1, .inl (.int x))], [.inl (.int m9)], h, 0, 0)
      refine zrn_ok HW 1 (zbr_ex (cd := .ne) (x := m9) (y := (0 : Int32)) (fun hc10 => zB_iff.mpr ?_) (fun hc10 => zB_iff.mpr ?_))
      · -- pc 42
        have i10 : ¬ m9.toInt = (0 : Int) := zop_int.mp hc10
        refine zrn_ok HW 2 (zB_iff.mpr (?_ : G (44, [(0, .inl (.ref 49)), (1, .inl (.int x))], [.inl (.int x), .inl (.ref 49)], h, 0, 0)))
        refine g_callV (E' := ze_X5_goesOne) HW rfl rfl (Nat.le_of_ble_eq_true rfl) (Nat.le_of_ble_eq_true rfl) (Nat.le_of_ble_eq_true rfl) ok.1 rfl hq_q rfl (Nat.le_of_ble_eq_true rfl) (c_goesOne ok ⟨by omega, by omega⟩ (by omega) (fun r11 h11 ok11 _  _ => zB_iff.mpr ?_))
        show G (47, [(0, .inl (.ref 49)), (1, .inl (.int x))], [.inl (.int r11)], h11, 0, 0)
        refine zrn_ok HW 1 ?_
        exact zret_i rfl rfl (RET r11 T h11 (tExt_rf T) ok11)
      · -- pc 35
        have i10 : ¬ (¬ m9.toInt = (0 : Int)) := fun e => hc10 (zop_int.mpr e)
        refine zrn_ok HW 2 (zB_iff.mpr (?_ : G (38, [(0, .inl (.ref 49)), (1, .inl (.int x))], [.inl (.int (-5 : Int32)), .inl (.ref 49)], h, 0, 0)))
        refine g_tV (e := te_X5_refuse_0) (E' := ze_X5_refuse) HW (tLow_of IH hd) rfl rfl (show te_X5_refuse_0 ∈ [te_X5_refuse_0] from List.mem_cons_self) (by decide +kernel) (Nat.le_of_ble_eq_true rfl) ⟨rfl, rfl⟩ (by decide) ok.1 ok.2.1 rfl hq_q rfl (Nat.le_of_ble_eq_true rfl) ⟨⟨_, rfl, hq_q⟩, okA_I (by decide) (by decide), trivial⟩ (fun v12 T12 h12 m12 k12 f12 lh12 r12 => ?_)
        obtain ⟨w12, rfl, hw12, cd12⟩ := r12
        obtain ⟨x12, rfl, l12, u12⟩ := tint_sp rfl hw12
        have l12 : ((-6) : Int) ≤ x12.toInt := l12
        have u12 : x12.toInt ≤ ((-2) : Int) := u12
        have ok12 : wOK (zPhi P) h.length T12 h12 := ⟨k12, f12, Nat.le_trans lh12 ok.2.2⟩
        have hq_q := m12 _ _ hq_q
        have t4 := m12 _ _ t4
        show G (41, [(0, .inl (.ref 49)), (1, .inl (.int x))], [.inl (.int x12)], h12, 0, 0)
        refine zrn_ok HW 1 ?_
        exact zret_i rfl rfl (RET x12 T12 h12 (tExt_tr (tExt_rf T) m12) ok12)
  · -- pc 8
    have i2 : ¬ (¬ r1.toInt = (0 : Int)) := fun e => hc2 (zop_int.mpr e)
    refine zrn_ok HW 2 (zB_iff.mpr (?_ : G (11, [(0, .inl (.ref 49)), (1, .inl (.int x))], [.inl (.int (-2 : Int32)), .inl (.ref 49)], h, 0, 0)))
    refine g_tV (e := te_X5_refuse_0) (E' := ze_X5_refuse) HW (tLow_of IH hd) rfl rfl (show te_X5_refuse_0 ∈ [te_X5_refuse_0] from List.mem_cons_self) (by decide +kernel) (Nat.le_of_ble_eq_true rfl) ⟨rfl, rfl⟩ (by decide) ok.1 ok.2.1 rfl hq_q rfl (Nat.le_of_ble_eq_true rfl) ⟨⟨_, rfl, hq_q⟩, okA_I (by decide) (by decide), trivial⟩ (fun v13 T13 h13 m13 k13 f13 lh13 r13 => ?_)
    obtain ⟨w13, rfl, hw13, cd13⟩ := r13
    obtain ⟨x13, rfl, l13, u13⟩ := tint_sp rfl hw13
    have l13 : ((-6) : Int) ≤ x13.toInt := l13
    have u13 : x13.toInt ≤ ((-2) : Int) := u13
    have ok13 : wOK (zPhi P) h.length T13 h13 := ⟨k13, f13, Nat.le_trans lh13 ok.2.2⟩
    have hq_q := m13 _ _ hq_q
    show G (14, [(0, .inl (.ref 49)), (1, .inl (.int x))], [.inl (.int x13)], h13, 0, 0)
    refine zrn_ok HW 1 ?_
    exact zret_i rfl rfl (RET x13 T13 h13 (tExt_tr (tExt_rf T) m13) ok13)
theorem tq_X5_five_0 {scr : List zV} {P : pP} : tM zty (zPhi P) zprog scr zhts zsm 180 te_X5_five_0 := by
  have hst := p_stab P
  refine t_hand2 (E := ze_X5_five) (D0 := 4) rfl rfl (by decide +kernel) (fun d T h vs post G hd hok hΦ hlen hvs hp IH HW => ?_)
  obtain ⟨d, rfl⟩ : ∃ d', d = d' + 4 := ⟨d - 4, by omega⟩
  obtain ⟨v_q, vs, rfl, k_q, hvs⟩ := okAs_cons hvs
  obtain ⟨v_x, vs, rfl, k_x, hvs⟩ := okAs_cons hvs
  obtain rfl := okAs_nil hvs
  obtain ⟨q, rfl, hq_q⟩ := tref_sp rfl k_q
  have hq_q : T[q]? = some 5 := hq_q
  obtain ⟨x, rfl, bl_x, bu_x⟩ := tint_sp rfl k_x
  have bl_x : ((-2147483648) : Int) ≤ x.toInt := bl_x
  have bu_x : x.toInt ≤ (2147483647 : Int) := bu_x
  have ok : wOK (zPhi P) h.length T h := ⟨hok, hΦ, Nat.le_refl _⟩
  have RET : ∀ (y : Int32) (T' : List Nat) (h' : zH), tExt T T' → wOK (zPhi P) h.length T' h' → post (some (.inl (.int y))) h' = true := fun y T' h' m' ok' => hp _ T' h' m' ok'.1 ok'.2.1 (by have := ok'.2.2; omega) ⟨_, rfl, okA_If y, fun c hc => by cases hc⟩
  obtain rfl := hΦ.1.2.2.2.2.2 q hq_q
  refine zrn_ok HW 2 (zB_iff.mpr (?_ : G (2, [(0, .inl (.ref 49)), (1, .inl (.int x))], [.inl (.int x), .inl (.ref 49)], h, 0, 0)))
  refine g_callV (E' := ze_X5_isBuyer) HW rfl rfl (Nat.le_of_ble_eq_true rfl) (Nat.le_of_ble_eq_true rfl) (Nat.le_of_ble_eq_true rfl) ok.1 rfl hq_q rfl (Nat.le_of_ble_eq_true rfl) (c_isBuyer ok hq_q (fun r1 f1 => zB_iff.mpr ?_))
  show G (5, [(0, .inl (.ref 49)), (1, .inl (.int x))], [.inl (.int r1)], h, 0, 0)
  obtain ⟨nb1, -, eb1, -, ub1⟩ := hi_val (i := 23) ok.1 hq_q (by decide) rfl
  have ub1 : nb1.toInt ≤ (4 : Int) := ub1
  have f1 : (r1.toInt = 1 ∧ 0 ≤ x.toInt ∧ x.toInt < hi h 49 23) ∨ r1.toInt = 0 := by rcases f1 with ⟨e, x, y⟩ | ⟨e, -⟩; exact Or.inl ⟨by rw [e]; rfl, x, y⟩; exact Or.inr (by rw [e]; rfl)
  refine zrn_ok HW 1 (zbr_ex (cd := .ne) (x := r1) (y := (0 : Int32)) (fun hc2 => zB_iff.mpr ?_) (fun hc2 => zB_iff.mpr ?_))
  · -- pc 15
    have i2 : ¬ r1.toInt = (0 : Int) := zop_int.mp hc2
    refine zrn_ok HW 1 (zB_iff.mpr (?_ : G (16, [(0, .inl (.ref 49)), (1, .inl (.int x))], [.inl (.ref 49)], h, 0, 0)))
    have o4 : hget h 49 24 = some (.inl (.ref 72)) := ((ok.2.1.2.1 49 5 hq_q (Or.inl rfl)).1.1 (24, 23, 37) (by decide +kernel)).1
    have t4 : T[72]? = some 37 := ((ok.2.1.2.1 49 5 hq_q (Or.inl rfl)).1.1 (24, 23, 37) (by decide +kernel)).2
    refine g_getf HW rfl ok.1 hq_q rfl o4 ?_
    refine zrn_ok HW 1 (zB_iff.mpr (?_ : G (20, [(0, .inl (.ref 49)), (1, .inl (.int x))], [.inl (.int x), .inl (.ref 72)], h, 0, 0)))
    obtain ⟨x5, g5, e5, l5, u5⟩ := hi_val (i := (x).toInt.toNat) ok.1 t4 (by show _ < 4; omega) rfl
    have l5 : ((-2147483648) : Int) ≤ x5.toInt := l5
    have u5 : x5.toInt ≤ (2147483647 : Int) := u5
    refine g_iald HW rfl ok.1 t4 rfl (by omega) g5 ?_
    refine zrn_ok HW 1 (zB_iff.mpr (?_ : G (22, [(0, .inl (.ref 49)), (1, .inl (.int x))], [.inl (.ref 49), .inl (.int x5)], h, 0, 0)))
    obtain ⟨x6, g6, e6, l6, u6⟩ := hi_val (i := 12) ok.1 hq_q (by decide) rfl
    have l6 : (1 : Int) ≤ x6.toInt := l6
    have u6 : x6.toInt ≤ (495 : Int) := u6
    refine g_getf HW rfl ok.1 hq_q rfl g6 ?_
    refine zrn_ok HW 1 (zbr_ex (cd := .lt) (x := x5) (y := x6) (fun hc7 => zB_iff.mpr ?_) (fun hc7 => zB_iff.mpr ?_))
    · -- pc 35
      have i7 : x5.toInt < x6.toInt := zop_int.mp hc7
      refine zrn_ok HW 2 (zB_iff.mpr (?_ : G (38, [(0, .inl (.ref 49)), (1, .inl (.int x))], [.inl (.int (-5 : Int32)), .inl (.ref 49)], h, 0, 0)))
      refine g_tV (e := te_X5_refuse_0) (E' := ze_X5_refuse) HW (tLow_of IH hd) rfl rfl (show te_X5_refuse_0 ∈ [te_X5_refuse_0] from List.mem_cons_self) (by decide +kernel) (Nat.le_of_ble_eq_true rfl) ⟨rfl, rfl⟩ (by decide) ok.1 ok.2.1 rfl hq_q rfl (Nat.le_of_ble_eq_true rfl) ⟨⟨_, rfl, hq_q⟩, okA_I (by decide) (by decide), trivial⟩ (fun v8 T8 h8 m8 k8 f8 lh8 r8 => ?_)
      obtain ⟨w8, rfl, hw8, cd8⟩ := r8
      obtain ⟨x8, rfl, l8, u8⟩ := tint_sp rfl hw8
      have l8 : ((-6) : Int) ≤ x8.toInt := l8
      have u8 : x8.toInt ≤ ((-2) : Int) := u8
      have ok8 : wOK (zPhi P) h.length T8 h8 := ⟨k8, f8, Nat.le_trans lh8 ok.2.2⟩
      have hq_q := m8 _ _ hq_q
      have t4 := m8 _ _ t4
      show G (41, [(0, .inl (.ref 49)), (1, .inl (.int x))], [.inl (.int x8)], h8, 0, 0)
      refine zrn_ok HW 1 ?_
      exact zret_i rfl rfl (RET x8 T8 h8 (tExt_tr (tExt_rf T) m8) ok8)
    · -- pc 28
      have i7 : ¬ (x5.toInt < x6.toInt) := fun e => hc7 (zop_int.mpr e)
      refine zrn_ok HW 1 (zB_iff.mpr (?_ : G (29, [(0, .inl (.ref 49)), (1, .inl (.int x))], [.inl (.ref 49)], h, 0, 0)))
      refine g_callV (E' := ze_X5_drawableMany) HW rfl rfl (Nat.le_of_ble_eq_true rfl) (Nat.le_of_ble_eq_true rfl) (Nat.le_of_ble_eq_true rfl) ok.1 rfl hq_q rfl (Nat.le_of_ble_eq_true rfl) (c_drawableMany ok hq_q (ok.2.1.2.1 49 5 hq_q (Or.inl rfl)).1 (ok.2.1.2.1 49 5 hq_q (Or.inl rfl)).2 (fun m9 em9 lm9 um9 => zB_iff.mpr ?_))
      show G (32, [(0, .inl (.ref 49)), (1, .inl (.int x))], [.inl (.int m9)], h, 0, 0)
      refine zrn_ok HW 1 (zbr_ex (cd := .ne) (x := m9) (y := (0 : Int32)) (fun hc10 => zB_iff.mpr ?_) (fun hc10 => zB_iff.mpr ?_))
      · -- pc 42
        have i10 : ¬ m9.toInt = (0 : Int) := zop_int.mp hc10
        refine zrn_ok HW 1 (zB_iff.mpr (?_ : G (43, [(0, .inl (.ref 49)), (1, .inl (.int x))], [.inl (.ref 49)], h, 0, 0)))
        have o12 : hget h 49 24 = some (.inl (.ref 72)) := ((ok.2.1.2.1 49 5 hq_q (Or.inl rfl)).1.1 (24, 23, 37) (by decide +kernel)).1
        have t12 : T[72]? = some 37 := ((ok.2.1.2.1 49 5 hq_q (Or.inl rfl)).1.1 (24, 23, 37) (by decide +kernel)).2
        refine g_getf HW rfl ok.1 hq_q rfl o12 ?_
        refine zrn_ok HW 2 (zB_iff.mpr (?_ : G (48, [(0, .inl (.ref 49)), (1, .inl (.int x))], [.inl (.int x), .inl (.ref 72), .inl (.int x), .inl (.ref 72)], h, 0, 0)))
        obtain ⟨x13, g13, e13, l13, u13⟩ := hi_val (i := (x).toInt.toNat) ok.1 t12 (by show _ < 4; omega) rfl
        have l13 : ((-2147483648) : Int) ≤ x13.toInt := l13
        have u13 : x13.toInt ≤ (2147483647 : Int) := u13
        refine g_iald HW rfl ok.1 t12 rfl (by omega) g13 ?_
        refine zrn_ok HW 1 (zB_iff.mpr (?_ : G (50, [(0, .inl (.ref 49)), (1, .inl (.int x))], [.inl (.ref 49), .inl (.int x13), .inl (.int x), .inl (.ref 72)], h, 0, 0)))
        obtain ⟨x14, g14, e14, l14, u14⟩ := hi_val (i := 12) ok.1 hq_q (by decide) rfl
        have l14 : (1 : Int) ≤ x14.toInt := l14
        have u14 : x14.toInt ≤ (495 : Int) := u14
        refine g_getf HW rfl ok.1 hq_q rfl g14 ?_
        have y15 : -2147483648 ≤ x13.toInt - x14.toInt → x13.toInt - x14.toInt ≤ 2147483647 → (x13 - x14).toInt = x13.toInt - x14.toInt := t_subC (x := x13) (y := x14)
        refine zrn_ok HW 1 (zB_iff.mpr (?_ : G (54, [(0, .inl (.ref 49)), (1, .inl (.int x))], [.inl (.int (x13 - x14)), .inl (.int x), .inl (.ref 72)], h, 0, 0)))
        have ok16 : wOK (zPhi P) h.length T (hput h 72 (x).toInt.toNat (.inl (.int (x13 - x14)))) := wOK_put hst ok t12 rfl ⟨_, rfl, t_lo _, t_hi _⟩
        refine g_iast HW rfl ok.1 t12 rfl (by omega) (by show _ < (4 : Int); omega) ?_
        refine zrn_ok HW 2 (zB_iff.mpr (?_ : G (57, [(0, .inl (.ref 49)), (1, .inl (.int x))], [.inl (.ref 49), .inl (.ref 49)], (hput h 72 (x).toInt.toNat (.inl (.int (x13 - x14)))), 0, 0)))
        obtain ⟨x17, g17, e17, l17, u17⟩ := hi_val (i := 14) ok16.1 hq_q (by decide) rfl
        have l17 : ((-2147483648) : Int) ≤ x17.toInt := l17
        have u17 : x17.toInt ≤ (2147483647 : Int) := u17
        refine g_getf HW rfl ok16.1 hq_q rfl g17 ?_
        refine zrn_ok HW 1 (zB_iff.mpr (?_ : G (61, [(0, .inl (.ref 49)), (1, .inl (.int x))], [.inl (.ref 49), .inl (.int x17), .inl (.ref 49)], (hput h 72 (x).toInt.toNat (.inl (.int (x13 - x14)))), 0, 0)))
        obtain ⟨x18, g18, e18, l18, u18⟩ := hi_val (i := 12) ok16.1 hq_q (by decide) rfl
        have l18 : (1 : Int) ≤ x18.toInt := l18
        have u18 : x18.toInt ≤ (495 : Int) := u18
        refine g_getf HW rfl ok16.1 hq_q rfl g18 ?_
        have y19 : -2147483648 ≤ x17.toInt + x18.toInt → x17.toInt + x18.toInt ≤ 2147483647 → (x17 + x18).toInt = x17.toInt + x18.toInt := t_addC (x := x17) (y := x18)
        refine zrn_ok HW 1 (zB_iff.mpr (?_ : G (65, [(0, .inl (.ref 49)), (1, .inl (.int x))], [.inl (.int (x17 + x18)), .inl (.ref 49)], (hput h 72 (x).toInt.toNat (.inl (.int (x13 - x14)))), 0, 0)))
        have ok20 : wOK (zPhi P) h.length T (hput (hput h 72 (x).toInt.toNat (.inl (.int (x13 - x14)))) 49 14 (.inl (.int (x17 + x18)))) := wOK_put hst ok16 hq_q rfl ⟨_, rfl, t_lo _, t_hi _⟩
        refine g_putf HW rfl ok16.1 hq_q rfl (by decide) rfl ?_
        refine zrn_ok HW 4 (zB_iff.mpr (?_ : G (72, [(3, .inl (.int (0 : Int32))), (2, .inl (.int (0 : Int32))), (0, .inl (.ref 49)), (1, .inl (.int x))], [], (hput (hput h 72 (x).toInt.toNat (.inl (.int (x13 - x14)))) 49 14 (.inl (.int (x17 + x18)))), 0, 0)))
        have loop : ∀ (k : Nat) (k3 : Int32) (won : Int32) (hl : zH), wOK (zPhi P) h.length T hl → 0 ≤ k3.toInt → k3.toInt ≤ 5 → 5 - k3.toInt < (k : Int) → G (72, [(3, .inl (.int k3)), (2, .inl (.int won)), (0, .inl (.ref 49)), (1, .inl (.int x))], [], hl, 0, 0) := by
          intro k
          induction k with
          | zero =>
            intro k3 won hl okl y_0 y_1 hm
            exfalso
            omega
          | succ k ih =>
            intro k3 won hl okl y_0 y_1 hm
            refine zrn_ok HW 3 (zbr_ex (cd := .ge) (x := k3) (y := (5 : Int32)) (fun hc1 => zB_iff.mpr ?_) (fun hc1 => zB_iff.mpr ?_))
            · -- pc 102
              have i1 : k3.toInt ≥ (5 : Int) := zop_int.mp hc1
              refine zrn_ok HW 2 ?_
              exact zret_i rfl rfl (RET won T hl (tExt_rf T) okl)
            · -- pc 77
              have i1 : ¬ (k3.toInt ≥ (5 : Int)) := fun e => hc1 (zop_int.mpr e)
              refine zrn_ok HW 1 (zB_iff.mpr (?_ : G (78, [(3, .inl (.int k3)), (2, .inl (.int won)), (0, .inl (.ref 49)), (1, .inl (.int x))], [.inl (.ref 49)], hl, 0, 0)))
              refine g_callV (E' := ze_X5_drawableMany) HW rfl rfl (Nat.le_of_ble_eq_true rfl) (Nat.le_of_ble_eq_true rfl) (Nat.le_of_ble_eq_true rfl) okl.1 rfl hq_q rfl (Nat.le_of_ble_eq_true rfl) (c_drawableMany okl hq_q (okl.2.1.2.1 49 5 hq_q (Or.inl rfl)).1 (okl.2.1.2.1 49 5 hq_q (Or.inl rfl)).2 (fun m2 em2 lm2 um2 => zB_iff.mpr ?_))
              show G (81, [(3, .inl (.int k3)), (2, .inl (.int won)), (0, .inl (.ref 49)), (1, .inl (.int x))], [.inl (.int m2)], hl, 0, 0)
              refine zrn_ok HW 1 (zbr_ex (cd := .le) (x := m2) (y := (0 : Int32)) (fun hc3 => zB_iff.mpr ?_) (fun hc3 => zB_iff.mpr ?_))
              · -- pc 102
                have i3 : m2.toInt ≤ (0 : Int) := zop_int.mp hc3
                refine zrn_ok HW 2 ?_
                exact zret_i rfl rfl (RET won T hl (tExt_rf T) okl)
              · -- pc 84
                have i3 : ¬ (m2.toInt ≤ (0 : Int)) := fun e => hc3 (zop_int.mpr e)
                refine zrn_ok HW 3 (zB_iff.mpr (?_ : G (87, [(3, .inl (.int k3)), (2, .inl (.int won)), (0, .inl (.ref 49)), (1, .inl (.int x))], [.inl (.ref 49), .inl (.ref 49), .inl (.int won)], hl, 0, 0)))
                have sl4 := hi_val (i := 9) okl.1 hq_q (by decide) rfl
                refine g_callV (E' := ze_X5_drawn) HW rfl rfl (Nat.le_of_ble_eq_true rfl) (Nat.le_of_ble_eq_true rfl) (Nat.le_of_ble_eq_true rfl) okl.1 rfl hq_q rfl (Nat.le_of_ble_eq_true rfl) (c_drawn okl hq_q (by omega) (fun s4 v4 dr4 ok4 => zB_iff.mpr ?_))
                show G (90, [(3, .inl (.int k3)), (2, .inl (.int won)), (0, .inl (.ref 49)), (1, .inl (.int x))], [.inl (.int s4), .inl (.ref 49), .inl (.int won)], (hput hl 49 15 (.inl (.int v4))), 0, 0)
                obtain ⟨sx4, -, es4, -, us4⟩ := sl4
                have us4 : sx4.toInt ≤ (60 : Int) := us4
                have d04 := dr4.1
                have d14 := dr4.2.1
                refine zrn_ok HW 1 (zB_iff.mpr (?_ : G (91, [(3, .inl (.int k3)), (2, .inl (.int won)), (0, .inl (.ref 49)), (1, .inl (.int x))], [.inl (.int x), .inl (.int s4), .inl (.ref 49), .inl (.int won)], (hput hl 49 15 (.inl (.int v4))), 0, 0)))
                refine g_callV (E' := ze_X5_comesOut) HW rfl rfl (Nat.le_of_ble_eq_true rfl) (Nat.le_of_ble_eq_true rfl) (Nat.le_of_ble_eq_true rfl) ok4.1 rfl hq_q rfl (Nat.le_of_ble_eq_true rfl) (c_comesOut5 ok4 hq_q ⟨by omega, by omega⟩ ⟨by omega, by omega⟩ (fun r5 h5 ok5 fr5 ot5 os5 => zB_iff.mpr ?_))
                show G (94, [(3, .inl (.int k3)), (2, .inl (.int won)), (0, .inl (.ref 49)), (1, .inl (.int x))], [.inl (.int r5), .inl (.int won)], h5, 0, 0)
                have y6 : -2147483648 ≤ k3.toInt + (1 : Int) → k3.toInt + (1 : Int) ≤ 2147483647 → (k3 + (1 : Int32)).toInt = k3.toInt + (1 : Int) := t_addC (x := k3) (y := (1 : Int32))
                refine zrn_ok HW 4 (zB_iff.mpr (?_ : G (72, [(3, .inl (.int (k3 + (1 : Int32)))), (2, .inl (.int (won ||| r5))), (0, .inl (.ref 49)), (1, .inl (.int x))], [], h5, 0, 0)))
                exact ih (k3 + (1 : Int32)) (won ||| r5) _ ok5 (by omega) (by omega) (by omega)
        exact loop 6 (0 : Int32) (0 : Int32) _ ok20 (by decide) (by decide) (by decide)
      · -- pc 35
        have i10 : ¬ (¬ m9.toInt = (0 : Int)) := fun e => hc10 (zop_int.mpr e)
        refine zrn_ok HW 2 (zB_iff.mpr (?_ : G (38, [(0, .inl (.ref 49)), (1, .inl (.int x))], [.inl (.int (-5 : Int32)), .inl (.ref 49)], h, 0, 0)))
        refine g_tV (e := te_X5_refuse_0) (E' := ze_X5_refuse) HW (tLow_of IH hd) rfl rfl (show te_X5_refuse_0 ∈ [te_X5_refuse_0] from List.mem_cons_self) (by decide +kernel) (Nat.le_of_ble_eq_true rfl) ⟨rfl, rfl⟩ (by decide) ok.1 ok.2.1 rfl hq_q rfl (Nat.le_of_ble_eq_true rfl) ⟨⟨_, rfl, hq_q⟩, okA_I (by decide) (by decide), trivial⟩ (fun v21 T21 h21 m21 k21 f21 lh21 r21 => ?_)
        obtain ⟨w21, rfl, hw21, cd21⟩ := r21
        obtain ⟨x21, rfl, l21, u21⟩ := tint_sp rfl hw21
        have l21 : ((-6) : Int) ≤ x21.toInt := l21
        have u21 : x21.toInt ≤ ((-2) : Int) := u21
        have ok21 : wOK (zPhi P) h.length T21 h21 := ⟨k21, f21, Nat.le_trans lh21 ok.2.2⟩
        have hq_q := m21 _ _ hq_q
        have t4 := m21 _ _ t4
        show G (41, [(0, .inl (.ref 49)), (1, .inl (.int x))], [.inl (.int x21)], h21, 0, 0)
        refine zrn_ok HW 1 ?_
        exact zret_i rfl rfl (RET x21 T21 h21 (tExt_tr (tExt_rf T) m21) ok21)
  · -- pc 8
    have i2 : ¬ (¬ r1.toInt = (0 : Int)) := fun e => hc2 (zop_int.mpr e)
    refine zrn_ok HW 2 (zB_iff.mpr (?_ : G (11, [(0, .inl (.ref 49)), (1, .inl (.int x))], [.inl (.int (-2 : Int32)), .inl (.ref 49)], h, 0, 0)))
    refine g_tV (e := te_X5_refuse_0) (E' := ze_X5_refuse) HW (tLow_of IH hd) rfl rfl (show te_X5_refuse_0 ∈ [te_X5_refuse_0] from List.mem_cons_self) (by decide +kernel) (Nat.le_of_ble_eq_true rfl) ⟨rfl, rfl⟩ (by decide) ok.1 ok.2.1 rfl hq_q rfl (Nat.le_of_ble_eq_true rfl) ⟨⟨_, rfl, hq_q⟩, okA_I (by decide) (by decide), trivial⟩ (fun v22 T22 h22 m22 k22 f22 lh22 r22 => ?_)
    obtain ⟨w22, rfl, hw22, cd22⟩ := r22
    obtain ⟨x22, rfl, l22, u22⟩ := tint_sp rfl hw22
    have l22 : ((-6) : Int) ≤ x22.toInt := l22
    have u22 : x22.toInt ≤ ((-2) : Int) := u22
    have ok22 : wOK (zPhi P) h.length T22 h22 := ⟨k22, f22, Nat.le_trans lh22 ok.2.2⟩
    have hq_q := m22 _ _ hq_q
    show G (14, [(0, .inl (.ref 49)), (1, .inl (.int x))], [.inl (.int x22)], h22, 0, 0)
    refine zrn_ok HW 1 ?_
    exact zret_i rfl rfl (RET x22 T22 h22 (tExt_tr (tExt_rf T) m22) ok22)
