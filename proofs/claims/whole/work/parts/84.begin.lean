/-- what the making of values leaves: all but the rows of values, and 49's own 35 .. 39 -/
def bFr (T : List Nat) (h h' : zH) : Prop := ∀ p i σ : Nat, T[p]? = some σ → σ ≠ 42 → σ ≠ 41 → (p ≠ 49 ∨ (i ≠ 35 ∧ i ≠ 36 ∧ i ≠ 37 ∧ i ≠ 38 ∧ i ≠ 39)) → hget h' p i = hget h p i
theorem bFr_hi {T : List Nat} {h h' : zH} (f : bFr T h h') {p i σ : Nat} (hp : T[p]? = some σ) (h1 : σ ≠ 42) (h2 : σ ≠ 41) (h3 : p ≠ 49 ∨ (i ≠ 35 ∧ i ≠ 36 ∧ i ≠ 37 ∧ i ≠ 38 ∧ i ≠ 39)) : hi h' p i = hi h p i := hi_eq (f p i σ hp h1 h2 h3)
theorem c_X5_beginValues_20 {n m : Int} {r : Option Int} {N : Nat} {scr : List zV} {d : Nat} {T : List Nat} {h : zH} {b g0 : Int32} {post : Option zV → zH → Bool} {G : zS → Prop} {nc ns : Nat} (HW : zWalk zprog ze_X5_beginValues scr (zEc ze_X5_beginValues) (zEs ze_X5_beginValues) (zD zprog scr (d + 1)) post G) (hnc : nc ≤ zEc ze_X5_beginValues) (hns : ns ≤ zEs ze_X5_beginValues) (ok : wOK (zPhi (n, m, r, true)) N T h) (hb : 0 ≤ b.toInt ∧ b.toInt ≤ 3) (hg : 0 ≤ g0.toInt ∧ g0.toInt ≤ 61)
    (kk : ∀ h' : zH, wOK (zPhi (n, m, r, true)) N T h' → bFr T h h' → hi h' 49 37 = hi h 49 13 → hi h' 49 38 = hins h 49 (hi h 49 9).toNat → (∀ w rw g s : Nat, g < 62 → s < 256 → hget h' 49 35 = some (.inl (.ref w)) → hget h' w g = some (.inl (.ref rw)) → hget h' rw s = some (.inl (.long (-1)))) → post none h' = true) : G (20, [(0, .inl (.ref 49)), (1, .inl (.int b)), (2, .inl (.int g0))], [], h, nc, ns) := by
  have hq_q := ok.2.1.1.2.2.1
  have hst := p_stab (n, m, r, true)
  obtain ⟨w, gw, tw⟩ : pRef T h 49 35 41 := ok.2.1.2.2.2.2.2.2.1 rfl
  have row : ∀ g : Nat, g < 62 → ∃ rw : Nat, hget h w g = some (.inl (.ref rw)) ∧ T[rw]? = some 42 := fun g hg => by
    obtain ⟨vr, gr, sr⟩ := hOK_get (i := g) ok.1 tw (by show _ < 62; omega)
    obtain ⟨rw, rfl, trw⟩ : ∃ q : Nat, vr = .inl (.ref q) ∧ T[q]? = some 42 := sr
    exact ⟨rw, gr, trw⟩
  have fin : ∀ (a : Int32) (hl : zH), wOK (zPhi (n, m, r, true)) N T hl → vFr T h hl → (∀ g s rw : Nat, g < 62 → s < 256 → hget h w g = some (.inl (.ref rw)) → hget hl rw s = some (.inl (.long (-1)))) → ∀ L4 : List (Nat × zV), (L4 = [] ∨ ∃ x : Int32, L4 = [(4, .inl (.int x))]) → G (63, [(3, .inl (.int a))] ++ L4 ++ [(0, .inl (.ref 49)), (1, .inl (.int b)), (2, .inl (.int g0))], [], hl, nc, ns) := by
    intro a hl okl Fl C L4 hL
    rcases hL with rfl | ⟨x4, rfl⟩
    · refine zrn_ok HW 2 (zB_iff.mpr (?_ : G (65, [(3, .inl (.int a)), (0, .inl (.ref 49)), (1, .inl (.int b)), (2, .inl (.int g0))], [.inl (.int b), .inl (.ref 49)], hl, nc, ns)))
      have ok1 : wOK (zPhi (n, m, r, true)) N T (hput hl 49 36 (.inl (.int b))) := wOK_put hst okl hq_q rfl ⟨_, rfl, (by show (0 : Int) ≤ _; omega), (by show _ ≤ (3 : Int); omega)⟩
      refine g_putf HW rfl okl.1 hq_q rfl (by decide) rfl ?_
      refine zrn_ok HW 2 (zB_iff.mpr (?_ : G (70, [(3, .inl (.int a)), (0, .inl (.ref 49)), (1, .inl (.int b)), (2, .inl (.int g0))], [.inl (.ref 49), .inl (.ref 49)], (hput hl 49 36 (.inl (.int b))), nc, ns)))
      obtain ⟨x2, g2, e2, l2, u2⟩ := hi_val (i := 13) ok1.1 hq_q (by decide) rfl
      have l2 : ((-2147483648) : Int) ≤ x2.toInt := l2
      have u2 : x2.toInt ≤ (2147483647 : Int) := u2
      refine g_getf HW rfl ok1.1 hq_q rfl g2 ?_
      have ok3 : wOK (zPhi (n, m, r, true)) N T (hput (hput hl 49 36 (.inl (.int b))) 49 37 (.inl (.int x2))) := wOK_put hst ok1 hq_q rfl ⟨_, rfl, t_lo _, t_hi _⟩
      refine g_putf HW rfl ok1.1 hq_q rfl (by decide) rfl ?_
      refine zrn_ok HW 2 (zB_iff.mpr (?_ : G (78, [(3, .inl (.int a)), (0, .inl (.ref 49)), (1, .inl (.int b)), (2, .inl (.int g0))], [.inl (.ref 49), .inl (.ref 49)], (hput (hput hl 49 36 (.inl (.int b))) 49 37 (.inl (.int x2))), nc, ns)))
      refine g_callV (E' := ze_X5_inside) HW rfl rfl (Nat.le_of_ble_eq_true rfl) (by show nc + 0 ≤ _; omega) (by show ns + 0 ≤ _; omega) ok3.1 rfl hq_q rfl (Nat.le_of_ble_eq_true rfl) (c_inside5 ok3.1 hq_q (ok3.2.1.2.1 49 5 hq_q (Or.inl rfl)).1 (fun i4 ei4 li4 ui4 => zB_iff.mpr ?_))
      show G (81, [(3, .inl (.int a)), (0, .inl (.ref 49)), (1, .inl (.int b)), (2, .inl (.int g0))], [.inl (.int i4), .inl (.ref 49)], (hput (hput hl 49 36 (.inl (.int b))) 49 37 (.inl (.int x2))), nc, ns)
      have ok5 : wOK (zPhi (n, m, r, true)) N T (hput (hput (hput hl 49 36 (.inl (.int b))) 49 37 (.inl (.int x2))) 49 38 (.inl (.int i4))) := wOK_put hst ok3 hq_q rfl ⟨_, rfl, (by show (0 : Int) ≤ _; omega), (by show _ ≤ (60 : Int); omega)⟩
      refine g_putf HW rfl ok3.1 hq_q rfl (by decide) rfl ?_
      refine zrn_ok HW 2 (zB_iff.mpr (?_ : G (86, [(3, .inl (.int a)), (0, .inl (.ref 49)), (1, .inl (.int b)), (2, .inl (.int g0))], [.inl (.int g0), .inl (.ref 49)], (hput (hput (hput hl 49 36 (.inl (.int b))) 49 37 (.inl (.int x2))) 49 38 (.inl (.int i4))), nc, ns)))
      have ok6 : wOK (zPhi (n, m, r, true)) N T (hput (hput (hput (hput hl 49 36 (.inl (.int b))) 49 37 (.inl (.int x2))) 49 38 (.inl (.int i4))) 49 39 (.inl (.int g0))) := wOK_put hst ok5 hq_q rfl ⟨_, rfl, (by show (0 : Int) ≤ _; omega), (by show _ ≤ (61 : Int); omega)⟩
      refine g_putf HW rfl ok5.1 hq_q rfl (by decide) rfl ?_
      refine zrn_ok HW 1 ?_
      obtain ⟨w37, hw37, -⟩ := hOK_get (i := 37) (T := T) (h := (hput hl 49 36 (.inl (.int b)))) (q := 49) ok1.1 hq_q (by decide)
      obtain ⟨w38, hw38, -⟩ := hOK_get (i := 38) (T := T) (h := (hput (hput hl 49 36 (.inl (.int b))) 49 37 (.inl (.int x2)))) (q := 49) ok3.1 hq_q (by decide)
      have es : hi (hput (hput hl 49 36 (.inl (.int b))) 49 37 (.inl (.int x2))) 49 9 = hi h 49 9 := by rw [hi_put_ne (Or.inr (by decide)), hi_put_ne (Or.inr (by decide))]; exact vFr_hi Fl hq_q (by decide)
      have ei2 : hins (hput (hput hl 49 36 (.inl (.int b))) 49 37 (.inl (.int x2))) 49 (hi h 49 9).toNat = hins h 49 (hi h 49 9).toNat := hins_eq (fun j => by rw [hi_put_ne (Or.inl (by decide)), hi_put_ne (Or.inl (by decide))]; exact vFr_hi Fl (show T[66]? = some 31 from ((ok.2.1.2.1 49 5 hq_q (Or.inl rfl)).1.1 (16, 17, 31) (by decide +kernel)).2) (by decide)) _
      refine zret_v rfl (kk (hput (hput (hput (hput hl 49 36 (.inl (.int b))) 49 37 (.inl (.int x2))) 49 38 (.inl (.int i4))) 49 39 (.inl (.int g0))) ok6 (fun p i σ hp h42 h41 h49 => ?_) ?_ ?_ (fun w2 rw2 g2 s2 hg2 hs2 e1 e2 => ?_))
      · rw [hget_put_ne (by omega), hget_put_ne (by omega), hget_put_ne (by omega), hget_put_ne (by omega)]
        exact vFr_get Fl hp h42
      · rw [hi_put_ne (Or.inr (by decide)), hi_put_ne (Or.inr (by decide)), hi_put hw37, ← e2, hi_put_ne (Or.inr (by decide))]
        exact vFr_hi Fl hq_q (by decide)
      · rw [hi_put_ne (Or.inr (by decide)), hi_put hw38, ei4, es, ei2]
      · rw [hget_put_ne (Or.inr (by decide)), hget_put_ne (Or.inr (by decide)), hget_put_ne (Or.inr (by decide)), hget_put_ne (Or.inr (by decide)), vFr_get Fl hq_q (by decide), gw] at e1
        cases e1
        have nw : w ≠ 49 := ty_ne tw hq_q (by decide)
        rw [hget_put_ne (Or.inl nw), hget_put_ne (Or.inl nw), hget_put_ne (Or.inl nw), hget_put_ne (Or.inl nw), vFr_get Fl tw (by decide)] at e2
        obtain ⟨r3, e3, t3⟩ := row g2 hg2
        have e4 := e3.symm.trans e2
        cases e4
        have nr : rw2 ≠ 49 := ty_ne t3 hq_q (by decide)
        rw [hget_put_ne (Or.inl nr), hget_put_ne (Or.inl nr), hget_put_ne (Or.inl nr), hget_put_ne (Or.inl nr)]
        exact C g2 s2 rw2 hg2 hs2 e3
    · refine zrn_ok HW 2 (zB_iff.mpr (?_ : G (65, [(3, .inl (.int a)), (4, .inl (.int x4)), (0, .inl (.ref 49)), (1, .inl (.int b)), (2, .inl (.int g0))], [.inl (.int b), .inl (.ref 49)], hl, nc, ns)))
      have ok1 : wOK (zPhi (n, m, r, true)) N T (hput hl 49 36 (.inl (.int b))) := wOK_put hst okl hq_q rfl ⟨_, rfl, (by show (0 : Int) ≤ _; omega), (by show _ ≤ (3 : Int); omega)⟩
      refine g_putf HW rfl okl.1 hq_q rfl (by decide) rfl ?_
      refine zrn_ok HW 2 (zB_iff.mpr (?_ : G (70, [(3, .inl (.int a)), (4, .inl (.int x4)), (0, .inl (.ref 49)), (1, .inl (.int b)), (2, .inl (.int g0))], [.inl (.ref 49), .inl (.ref 49)], (hput hl 49 36 (.inl (.int b))), nc, ns)))
      obtain ⟨x2, g2, e2, l2, u2⟩ := hi_val (i := 13) ok1.1 hq_q (by decide) rfl
      have l2 : ((-2147483648) : Int) ≤ x2.toInt := l2
      have u2 : x2.toInt ≤ (2147483647 : Int) := u2
      refine g_getf HW rfl ok1.1 hq_q rfl g2 ?_
      have ok3 : wOK (zPhi (n, m, r, true)) N T (hput (hput hl 49 36 (.inl (.int b))) 49 37 (.inl (.int x2))) := wOK_put hst ok1 hq_q rfl ⟨_, rfl, t_lo _, t_hi _⟩
      refine g_putf HW rfl ok1.1 hq_q rfl (by decide) rfl ?_
      refine zrn_ok HW 2 (zB_iff.mpr (?_ : G (78, [(3, .inl (.int a)), (4, .inl (.int x4)), (0, .inl (.ref 49)), (1, .inl (.int b)), (2, .inl (.int g0))], [.inl (.ref 49), .inl (.ref 49)], (hput (hput hl 49 36 (.inl (.int b))) 49 37 (.inl (.int x2))), nc, ns)))
      refine g_callV (E' := ze_X5_inside) HW rfl rfl (Nat.le_of_ble_eq_true rfl) (by show nc + 0 ≤ _; omega) (by show ns + 0 ≤ _; omega) ok3.1 rfl hq_q rfl (Nat.le_of_ble_eq_true rfl) (c_inside5 ok3.1 hq_q (ok3.2.1.2.1 49 5 hq_q (Or.inl rfl)).1 (fun i4 ei4 li4 ui4 => zB_iff.mpr ?_))
      show G (81, [(3, .inl (.int a)), (4, .inl (.int x4)), (0, .inl (.ref 49)), (1, .inl (.int b)), (2, .inl (.int g0))], [.inl (.int i4), .inl (.ref 49)], (hput (hput hl 49 36 (.inl (.int b))) 49 37 (.inl (.int x2))), nc, ns)
      have ok5 : wOK (zPhi (n, m, r, true)) N T (hput (hput (hput hl 49 36 (.inl (.int b))) 49 37 (.inl (.int x2))) 49 38 (.inl (.int i4))) := wOK_put hst ok3 hq_q rfl ⟨_, rfl, (by show (0 : Int) ≤ _; omega), (by show _ ≤ (60 : Int); omega)⟩
      refine g_putf HW rfl ok3.1 hq_q rfl (by decide) rfl ?_
      refine zrn_ok HW 2 (zB_iff.mpr (?_ : G (86, [(3, .inl (.int a)), (4, .inl (.int x4)), (0, .inl (.ref 49)), (1, .inl (.int b)), (2, .inl (.int g0))], [.inl (.int g0), .inl (.ref 49)], (hput (hput (hput hl 49 36 (.inl (.int b))) 49 37 (.inl (.int x2))) 49 38 (.inl (.int i4))), nc, ns)))
      have ok6 : wOK (zPhi (n, m, r, true)) N T (hput (hput (hput (hput hl 49 36 (.inl (.int b))) 49 37 (.inl (.int x2))) 49 38 (.inl (.int i4))) 49 39 (.inl (.int g0))) := wOK_put hst ok5 hq_q rfl ⟨_, rfl, (by show (0 : Int) ≤ _; omega), (by show _ ≤ (61 : Int); omega)⟩
      refine g_putf HW rfl ok5.1 hq_q rfl (by decide) rfl ?_
      refine zrn_ok HW 1 ?_
      obtain ⟨w37, hw37, -⟩ := hOK_get (i := 37) (T := T) (h := (hput hl 49 36 (.inl (.int b)))) (q := 49) ok1.1 hq_q (by decide)
      obtain ⟨w38, hw38, -⟩ := hOK_get (i := 38) (T := T) (h := (hput (hput hl 49 36 (.inl (.int b))) 49 37 (.inl (.int x2)))) (q := 49) ok3.1 hq_q (by decide)
      have es : hi (hput (hput hl 49 36 (.inl (.int b))) 49 37 (.inl (.int x2))) 49 9 = hi h 49 9 := by rw [hi_put_ne (Or.inr (by decide)), hi_put_ne (Or.inr (by decide))]; exact vFr_hi Fl hq_q (by decide)
      have ei2 : hins (hput (hput hl 49 36 (.inl (.int b))) 49 37 (.inl (.int x2))) 49 (hi h 49 9).toNat = hins h 49 (hi h 49 9).toNat := hins_eq (fun j => by rw [hi_put_ne (Or.inl (by decide)), hi_put_ne (Or.inl (by decide))]; exact vFr_hi Fl (show T[66]? = some 31 from ((ok.2.1.2.1 49 5 hq_q (Or.inl rfl)).1.1 (16, 17, 31) (by decide +kernel)).2) (by decide)) _
      refine zret_v rfl (kk (hput (hput (hput (hput hl 49 36 (.inl (.int b))) 49 37 (.inl (.int x2))) 49 38 (.inl (.int i4))) 49 39 (.inl (.int g0))) ok6 (fun p i σ hp h42 h41 h49 => ?_) ?_ ?_ (fun w2 rw2 g2 s2 hg2 hs2 e1 e2 => ?_))
      · rw [hget_put_ne (by omega), hget_put_ne (by omega), hget_put_ne (by omega), hget_put_ne (by omega)]
        exact vFr_get Fl hp h42
      · rw [hi_put_ne (Or.inr (by decide)), hi_put_ne (Or.inr (by decide)), hi_put hw37, ← e2, hi_put_ne (Or.inr (by decide))]
        exact vFr_hi Fl hq_q (by decide)
      · rw [hi_put_ne (Or.inr (by decide)), hi_put hw38, ei4, es, ei2]
      · rw [hget_put_ne (Or.inr (by decide)), hget_put_ne (Or.inr (by decide)), hget_put_ne (Or.inr (by decide)), hget_put_ne (Or.inr (by decide)), vFr_get Fl hq_q (by decide), gw] at e1
        cases e1
        have nw : w ≠ 49 := ty_ne tw hq_q (by decide)
        rw [hget_put_ne (Or.inl nw), hget_put_ne (Or.inl nw), hget_put_ne (Or.inl nw), hget_put_ne (Or.inl nw), vFr_get Fl tw (by decide)] at e2
        obtain ⟨r3, e3, t3⟩ := row g2 hg2
        have e4 := e3.symm.trans e2
        cases e4
        have nr : rw2 ≠ 49 := ty_ne t3 hq_q (by decide)
        rw [hget_put_ne (Or.inl nr), hget_put_ne (Or.inl nr), hget_put_ne (Or.inl nr), hget_put_ne (Or.inl nr)]
        exact C g2 s2 rw2 hg2 hs2 e3
  have inner : ∀ (g rw : Nat), g < 62 → hget h w g = some (.inl (.ref rw)) → T[rw]? = some 42 → (∀ hl : zH, wOK (zPhi (n, m, r, true)) N T hl → vFr T h hl → (∀ g2 s rw2 : Nat, g2 < g + 1 → s < 256 → hget h w g2 = some (.inl (.ref rw2)) → hget hl rw2 s = some (.inl (.long (-1)))) → G (57, [(4, .inl (.int (Int32.ofNat 256))), (3, .inl (.int (Int32.ofNat g))), (0, .inl (.ref 49)), (1, .inl (.int b)), (2, .inl (.int g0))], [], hl, nc, ns)) → ∀ i j : Nat, i + j = 256 → ∀ hl : zH, wOK (zPhi (n, m, r, true)) N T hl → vFr T h hl → (∀ g2 s rw2 : Nat, g2 < g → s < 256 → hget h w g2 = some (.inl (.ref rw2)) → hget hl rw2 s = some (.inl (.long (-1)))) → (∀ s : Nat, s < j → hget hl rw s = some (.inl (.long (-1)))) → G (31, [(4, .inl (.int (Int32.ofNat j))), (3, .inl (.int (Int32.ofNat g))), (0, .inl (.ref 49)), (1, .inl (.int b)), (2, .inl (.int g0))], [], hl, nc, ns) := by
    intro g rw hg62 gr trw next i
    have eg := nI_int (k := g) (by omega)
    have egn : (Int32.ofNat g).toInt.toNat = g := by omega
    induction i with
    | zero =>
      intro j hj hl okl Fl C D
      have ej := nI_int (k := j) (by omega)
      have ejn : (Int32.ofNat j).toInt.toNat = j := by omega
      refine zrn_ok HW 3 (zbr_ex (cd := .ge) (x := (Int32.ofNat j)) (y := (256 : Int32)) (fun hc1 => zB_iff.mpr ?_) (fun hc1 => zB_iff.mpr ?_))
      · -- pc 57
        have i1 : (Int32.ofNat j).toInt ≥ (256 : Int) := zop_int.mp hc1
        have e256 : j = 256 := by omega
        rw [e256] at D
        rw [e256]
        refine next hl okl Fl (fun g2 s2 rw2 hg2 hs2 e2 => ?_)
        by_cases e3 : g2 = g
        · subst e3
          rw [gr] at e2
          cases e2
          exact D s2 hs2
        · exact C g2 s2 rw2 (by omega) hs2 e2
      · -- pc 39
        have i1 : ¬ ((Int32.ofNat j).toInt ≥ (256 : Int)) := fun e => hc1 (zop_int.mpr e)
        exfalso
        omega
    | succ i ih =>
      intro j hj hl okl Fl C D
      have ej := nI_int (k := j) (by omega)
      have ejn : (Int32.ofNat j).toInt.toNat = j := by omega
      refine zrn_ok HW 3 (zbr_ex (cd := .ge) (x := (Int32.ofNat j)) (y := (256 : Int32)) (fun hc1 => zB_iff.mpr ?_) (fun hc1 => zB_iff.mpr ?_))
      · -- pc 57
        have i1 : (Int32.ofNat j).toInt ≥ (256 : Int) := zop_int.mp hc1
        exfalso
        omega
      · -- pc 39
        have i1 : ¬ ((Int32.ofNat j).toInt ≥ (256 : Int)) := fun e => hc1 (zop_int.mpr e)
        refine zrn_ok HW 1 (zB_iff.mpr (?_ : G (40, [(4, .inl (.int (Int32.ofNat j))), (3, .inl (.int (Int32.ofNat g))), (0, .inl (.ref 49)), (1, .inl (.int b)), (2, .inl (.int g0))], [.inl (.ref 49)], hl, nc, ns)))
        have o3 : hget hl 49 35 = some (.inl (.ref w)) := (vFr_get Fl hq_q (by decide)).trans gw
        refine g_getf HW rfl okl.1 hq_q rfl o3 ?_
        refine zrn_ok HW 1 (zB_iff.mpr (?_ : G (44, [(4, .inl (.int (Int32.ofNat j))), (3, .inl (.int (Int32.ofNat g))), (0, .inl (.ref 49)), (1, .inl (.int b)), (2, .inl (.int g0))], [.inl (.int (Int32.ofNat g)), .inl (.ref w)], hl, nc, ns)))
        have o4 : hget hl w (Int32.ofNat g).toInt.toNat = some (.inl (.ref rw)) := by rw [egn]; exact (vFr_get Fl tw (by decide)).trans gr
        refine g_aald HW rfl okl.1 tw ⟨by decide, by decide⟩ (by omega) o4 ?_
        refine zrn_ok HW 2 (zB_iff.mpr (?_ : G (50, [(4, .inl (.int (Int32.ofNat j))), (3, .inl (.int (Int32.ofNat g))), (0, .inl (.ref 49)), (1, .inl (.int b)), (2, .inl (.int g0))], [.inl (.long (-1 : Int64)), .inl (.int (Int32.ofNat j)), .inl (.ref rw)], hl, nc, ns)))
        have ok5 : wOK (zPhi (n, m, r, true)) N T (hput hl rw ((Int32.ofNat j)).toInt.toNat (.inl (.long (-1 : Int64)))) := wOK_put hst okl trw rfl ⟨_, rfl⟩
        refine g_last HW rfl okl.1 trw rfl (by omega) (by show _ < (256 : Int); omega) ?_
        refine zrn_ok HW 2 (zB_iff.mpr (?_ : G (31, [(4, .inl (.int ((Int32.ofNat j) + (1 : Int32)))), (3, .inl (.int (Int32.ofNat g))), (0, .inl (.ref 49)), (1, .inl (.int b)), (2, .inl (.int g0))], [], (hput hl rw ((Int32.ofNat j)).toInt.toNat (.inl (.long (-1 : Int64)))), nc, ns)))
        have := ih (j + 1) (by omega) (hput hl rw ((Int32.ofNat j)).toInt.toNat (.inl (.long (-1 : Int64)))) ok5 (fun p i hp => ?_) (fun g2 s2 rw2 hg2 hs2 e2 => ?_) (fun s2 hs2 => ?_)
        · rw [← nI_add1] at this
          exact this
        · rw [hget_put_ne (Or.inl (fun e => hp (by rw [e]; exact trw)))]
          exact Fl p i hp
        · by_cases e3 : rw2 = rw
          · subst e3
            by_cases e4 : s2 = j
            · subst e4
              obtain ⟨w9, hw9, -⟩ := hOK_get (i := s2) okl.1 trw (by show _ < 256; omega)
              rw [ejn]
              exact hget_put hw9
            · rw [ejn, hget_put_ne (Or.inr e4)]
              exact C g2 s2 rw2 hg2 hs2 e2
          · rw [hget_put_ne (Or.inl e3)]
            exact C g2 s2 rw2 hg2 hs2 e2
        · by_cases e4 : s2 = j
          · subst e4
            obtain ⟨w9, hw9, -⟩ := hOK_get (i := s2) okl.1 trw (by show _ < 256; omega)
            rw [ejn]
            exact hget_put hw9
          · rw [ejn, hget_put_ne (Or.inr e4)]
            exact D s2 (by omega)
  have outer : ∀ i j : Nat, i + j = 62 → ∀ hl : zH, wOK (zPhi (n, m, r, true)) N T hl → vFr T h hl → (∀ g2 s rw2 : Nat, g2 < j → s < 256 → hget h w g2 = some (.inl (.ref rw2)) → hget hl rw2 s = some (.inl (.long (-1)))) → (G (22, [(3, .inl (.int (Int32.ofNat j))), (0, .inl (.ref 49)), (1, .inl (.int b)), (2, .inl (.int g0))], [], hl, nc, ns) ∧ ∀ x4 : Int32, G (22, [(3, .inl (.int (Int32.ofNat j))), (4, .inl (.int x4)), (0, .inl (.ref 49)), (1, .inl (.int b)), (2, .inl (.int g0))], [], hl, nc, ns)) := by
    intro i
    induction i with
    | zero =>
      intro j hj hl okl Fl C
      have ej := nI_int (k := j) (by omega)
      have ejn : (Int32.ofNat j).toInt.toNat = j := by omega
      refine ⟨?_, fun x4 => ?_⟩
      · refine zrn_ok HW 3 (zbr_ex (cd := .gt) (x := (Int32.ofNat j)) (y := (61 : Int32)) (fun hc1 => zB_iff.mpr ?_) (fun hc1 => zB_iff.mpr ?_))
        · -- pc 63
          have i1 : (Int32.ofNat j).toInt > (61 : Int) := zop_int.mp hc1
          exact fin _ hl okl Fl (fun g2 s2 rw2 hg2 hs2 e2 => C g2 s2 rw2 (by omega) hs2 e2) [] (Or.inl rfl)
        · -- pc 28
          have i1 : ¬ ((Int32.ofNat j).toInt > (61 : Int)) := fun e => hc1 (zop_int.mpr e)
          exfalso
          omega
      · refine zrn_ok HW 3 (zbr_ex (cd := .gt) (x := (Int32.ofNat j)) (y := (61 : Int32)) (fun hc1 => zB_iff.mpr ?_) (fun hc1 => zB_iff.mpr ?_))
        · -- pc 63
          have i1 : (Int32.ofNat j).toInt > (61 : Int) := zop_int.mp hc1
          exact fin _ hl okl Fl (fun g2 s2 rw2 hg2 hs2 e2 => C g2 s2 rw2 (by omega) hs2 e2) [(4, .inl (.int x4))] (Or.inr ⟨x4, rfl⟩)
        · -- pc 28
          have i1 : ¬ ((Int32.ofNat j).toInt > (61 : Int)) := fun e => hc1 (zop_int.mpr e)
          exfalso
          omega
    | succ i ih =>
      intro j hj hl okl Fl C
      have ej := nI_int (k := j) (by omega)
      have ejn : (Int32.ofNat j).toInt.toNat = j := by omega
      obtain ⟨rwj, grj, trj⟩ := row j (by omega)
      refine ⟨?_, fun x4 => ?_⟩
      · refine zrn_ok HW 3 (zbr_ex (cd := .gt) (x := (Int32.ofNat j)) (y := (61 : Int32)) (fun hc1 => zB_iff.mpr ?_) (fun hc1 => zB_iff.mpr ?_))
        · -- pc 63
          have i1 : (Int32.ofNat j).toInt > (61 : Int) := zop_int.mp hc1
          exfalso
          omega
        · -- pc 28
          have i1 : ¬ ((Int32.ofNat j).toInt > (61 : Int)) := fun e => hc1 (zop_int.mpr e)
          refine zrn_ok HW 2 (zB_iff.mpr (?_ : G (31, [(4, .inl (.int (0 : Int32))), (3, .inl (.int (Int32.ofNat j))), (0, .inl (.ref 49)), (1, .inl (.int b)), (2, .inl (.int g0))], [], hl, nc, ns)))
          refine inner j rwj (by omega) grj trj (fun h2 ok2 F2 C2 => ?_) 256 0 rfl hl okl Fl C (fun s2 hs2 => absurd hs2 (by omega))
          refine zrn_ok HW 2 (zB_iff.mpr ?_)
          have := (ih (j + 1) (by omega) h2 ok2 F2 C2).2 (Int32.ofNat 256)
          rw [← nI_add1] at this
          exact this
      · refine zrn_ok HW 3 (zbr_ex (cd := .gt) (x := (Int32.ofNat j)) (y := (61 : Int32)) (fun hc1 => zB_iff.mpr ?_) (fun hc1 => zB_iff.mpr ?_))
        · -- pc 63
          have i1 : (Int32.ofNat j).toInt > (61 : Int) := zop_int.mp hc1
          exfalso
          omega
        · -- pc 28
          have i1 : ¬ ((Int32.ofNat j).toInt > (61 : Int)) := fun e => hc1 (zop_int.mpr e)
          refine zrn_ok HW 2 (zB_iff.mpr (?_ : G (31, [(4, .inl (.int (0 : Int32))), (3, .inl (.int (Int32.ofNat j))), (0, .inl (.ref 49)), (1, .inl (.int b)), (2, .inl (.int g0))], [], hl, nc, ns)))
          refine inner j rwj (by omega) grj trj (fun h2 ok2 F2 C2 => ?_) 256 0 rfl hl okl Fl C (fun s2 hs2 => absurd hs2 (by omega))
          refine zrn_ok HW 2 (zB_iff.mpr ?_)
          have := (ih (j + 1) (by omega) h2 ok2 F2 C2).2 (Int32.ofNat 256)
          rw [← nI_add1] at this
          exact this
  refine zrn_ok HW 2 (zB_iff.mpr ?_)
  exact (outer 62 0 rfl h ok (fun _ _ _ => rfl) (fun g2 s2 rw2 hg2 => absurd hg2 (by omega))).1
theorem c_X5_beginValuesN_20 {n m : Int} {r : Option Int} {N : Nat} {scr : List zV} {d : Nat} {T : List Nat} {h : zH} {b g0 : Int32} {post : Option zV → zH → Bool} {G : zS → Prop} {nc ns : Nat} (HW : zWalk zprog ze_X5_beginValuesN scr (zEc ze_X5_beginValuesN) (zEs ze_X5_beginValuesN) (zD zprog scr (d + 1)) post G) (hnc : nc ≤ zEc ze_X5_beginValuesN) (hns : ns ≤ zEs ze_X5_beginValuesN) (ok : wOK (zPhi (n, m, r, true)) N T h) (hb : 0 ≤ b.toInt ∧ b.toInt ≤ 3) (hg : 0 ≤ g0.toInt ∧ g0.toInt ≤ 61)
    (kk : ∀ h' : zH, wOK (zPhi (n, m, r, true)) N T h' → bFr T h h' → hi h' 49 37 = hi h 49 13 → hi h' 49 38 = hins h 49 (hi h 49 9).toNat → (∀ w rw g s : Nat, g < 62 → s < 256 → hget h' 49 35 = some (.inl (.ref w)) → hget h' w g = some (.inl (.ref rw)) → hget h' rw s = some (.inl (.long (-1)))) → post none h' = true) : G (20, [(0, .inl (.ref 49)), (1, .inl (.int b)), (2, .inl (.int g0))], [], h, nc, ns) := by
  have hq_q := ok.2.1.1.2.2.1
  have hst := p_stab (n, m, r, true)
  obtain ⟨w, gw, tw⟩ : pRef T h 49 35 41 := ok.2.1.2.2.2.2.2.2.1 rfl
  have row : ∀ g : Nat, g < 62 → ∃ rw : Nat, hget h w g = some (.inl (.ref rw)) ∧ T[rw]? = some 42 := fun g hg => by
    obtain ⟨vr, gr, sr⟩ := hOK_get (i := g) ok.1 tw (by show _ < 62; omega)
    obtain ⟨rw, rfl, trw⟩ : ∃ q : Nat, vr = .inl (.ref q) ∧ T[q]? = some 42 := sr
    exact ⟨rw, gr, trw⟩
  have fin : ∀ (a : Int32) (hl : zH), wOK (zPhi (n, m, r, true)) N T hl → vFr T h hl → (∀ g s rw : Nat, g < 62 → s < 256 → hget h w g = some (.inl (.ref rw)) → hget hl rw s = some (.inl (.long (-1)))) → ∀ L4 : List (Nat × zV), (L4 = [] ∨ ∃ x : Int32, L4 = [(4, .inl (.int x))]) → G (63, [(3, .inl (.int a))] ++ L4 ++ [(0, .inl (.ref 49)), (1, .inl (.int b)), (2, .inl (.int g0))], [], hl, nc, ns) := by
    intro a hl okl Fl C L4 hL
    rcases hL with rfl | ⟨x4, rfl⟩
    · refine zrn_ok HW 2 (zB_iff.mpr (?_ : G (65, [(3, .inl (.int a)), (0, .inl (.ref 49)), (1, .inl (.int b)), (2, .inl (.int g0))], [.inl (.int b), .inl (.ref 49)], hl, nc, ns)))
      have ok1 : wOK (zPhi (n, m, r, true)) N T (hput hl 49 36 (.inl (.int b))) := wOK_put hst okl hq_q rfl ⟨_, rfl, (by show (0 : Int) ≤ _; omega), (by show _ ≤ (3 : Int); omega)⟩
      refine g_putf HW rfl okl.1 hq_q rfl (by decide) rfl ?_
      refine zrn_ok HW 2 (zB_iff.mpr (?_ : G (70, [(3, .inl (.int a)), (0, .inl (.ref 49)), (1, .inl (.int b)), (2, .inl (.int g0))], [.inl (.ref 49), .inl (.ref 49)], (hput hl 49 36 (.inl (.int b))), nc, ns)))
      obtain ⟨x2, g2, e2, l2, u2⟩ := hi_val (i := 13) ok1.1 hq_q (by decide) rfl
      have l2 : ((-2147483648) : Int) ≤ x2.toInt := l2
      have u2 : x2.toInt ≤ (2147483647 : Int) := u2
      refine g_getf HW rfl ok1.1 hq_q rfl g2 ?_
      have ok3 : wOK (zPhi (n, m, r, true)) N T (hput (hput hl 49 36 (.inl (.int b))) 49 37 (.inl (.int x2))) := wOK_put hst ok1 hq_q rfl ⟨_, rfl, t_lo _, t_hi _⟩
      refine g_putf HW rfl ok1.1 hq_q rfl (by decide) rfl ?_
      refine zrn_ok HW 2 (zB_iff.mpr (?_ : G (78, [(3, .inl (.int a)), (0, .inl (.ref 49)), (1, .inl (.int b)), (2, .inl (.int g0))], [.inl (.ref 49), .inl (.ref 49)], (hput (hput hl 49 36 (.inl (.int b))) 49 37 (.inl (.int x2))), nc, ns)))
      refine g_callV (E' := ze_X5_inside) HW rfl rfl (Nat.le_of_ble_eq_true rfl) (by show nc + 0 ≤ _; omega) (by show ns + 0 ≤ _; omega) ok3.1 rfl hq_q rfl (Nat.le_of_ble_eq_true rfl) (c_inside5 ok3.1 hq_q (ok3.2.1.2.1 49 5 hq_q (Or.inl rfl)).1 (fun i4 ei4 li4 ui4 => zB_iff.mpr ?_))
      show G (81, [(3, .inl (.int a)), (0, .inl (.ref 49)), (1, .inl (.int b)), (2, .inl (.int g0))], [.inl (.int i4), .inl (.ref 49)], (hput (hput hl 49 36 (.inl (.int b))) 49 37 (.inl (.int x2))), nc, ns)
      have ok5 : wOK (zPhi (n, m, r, true)) N T (hput (hput (hput hl 49 36 (.inl (.int b))) 49 37 (.inl (.int x2))) 49 38 (.inl (.int i4))) := wOK_put hst ok3 hq_q rfl ⟨_, rfl, (by show (0 : Int) ≤ _; omega), (by show _ ≤ (60 : Int); omega)⟩
      refine g_putf HW rfl ok3.1 hq_q rfl (by decide) rfl ?_
      refine zrn_ok HW 2 (zB_iff.mpr (?_ : G (86, [(3, .inl (.int a)), (0, .inl (.ref 49)), (1, .inl (.int b)), (2, .inl (.int g0))], [.inl (.int g0), .inl (.ref 49)], (hput (hput (hput hl 49 36 (.inl (.int b))) 49 37 (.inl (.int x2))) 49 38 (.inl (.int i4))), nc, ns)))
      have ok6 : wOK (zPhi (n, m, r, true)) N T (hput (hput (hput (hput hl 49 36 (.inl (.int b))) 49 37 (.inl (.int x2))) 49 38 (.inl (.int i4))) 49 39 (.inl (.int g0))) := wOK_put hst ok5 hq_q rfl ⟨_, rfl, (by show (0 : Int) ≤ _; omega), (by show _ ≤ (61 : Int); omega)⟩
      refine g_putf HW rfl ok5.1 hq_q rfl (by decide) rfl ?_
      refine zrn_ok HW 1 ?_
      obtain ⟨w37, hw37, -⟩ := hOK_get (i := 37) (T := T) (h := (hput hl 49 36 (.inl (.int b)))) (q := 49) ok1.1 hq_q (by decide)
      obtain ⟨w38, hw38, -⟩ := hOK_get (i := 38) (T := T) (h := (hput (hput hl 49 36 (.inl (.int b))) 49 37 (.inl (.int x2)))) (q := 49) ok3.1 hq_q (by decide)
      have es : hi (hput (hput hl 49 36 (.inl (.int b))) 49 37 (.inl (.int x2))) 49 9 = hi h 49 9 := by rw [hi_put_ne (Or.inr (by decide)), hi_put_ne (Or.inr (by decide))]; exact vFr_hi Fl hq_q (by decide)
      have ei2 : hins (hput (hput hl 49 36 (.inl (.int b))) 49 37 (.inl (.int x2))) 49 (hi h 49 9).toNat = hins h 49 (hi h 49 9).toNat := hins_eq (fun j => by rw [hi_put_ne (Or.inl (by decide)), hi_put_ne (Or.inl (by decide))]; exact vFr_hi Fl (show T[66]? = some 31 from ((ok.2.1.2.1 49 5 hq_q (Or.inl rfl)).1.1 (16, 17, 31) (by decide +kernel)).2) (by decide)) _
      refine zret_v rfl (kk (hput (hput (hput (hput hl 49 36 (.inl (.int b))) 49 37 (.inl (.int x2))) 49 38 (.inl (.int i4))) 49 39 (.inl (.int g0))) ok6 (fun p i σ hp h42 h41 h49 => ?_) ?_ ?_ (fun w2 rw2 g2 s2 hg2 hs2 e1 e2 => ?_))
      · rw [hget_put_ne (by omega), hget_put_ne (by omega), hget_put_ne (by omega), hget_put_ne (by omega)]
        exact vFr_get Fl hp h42
      · rw [hi_put_ne (Or.inr (by decide)), hi_put_ne (Or.inr (by decide)), hi_put hw37, ← e2, hi_put_ne (Or.inr (by decide))]
        exact vFr_hi Fl hq_q (by decide)
      · rw [hi_put_ne (Or.inr (by decide)), hi_put hw38, ei4, es, ei2]
      · rw [hget_put_ne (Or.inr (by decide)), hget_put_ne (Or.inr (by decide)), hget_put_ne (Or.inr (by decide)), hget_put_ne (Or.inr (by decide)), vFr_get Fl hq_q (by decide), gw] at e1
        cases e1
        have nw : w ≠ 49 := ty_ne tw hq_q (by decide)
        rw [hget_put_ne (Or.inl nw), hget_put_ne (Or.inl nw), hget_put_ne (Or.inl nw), hget_put_ne (Or.inl nw), vFr_get Fl tw (by decide)] at e2
        obtain ⟨r3, e3, t3⟩ := row g2 hg2
        have e4 := e3.symm.trans e2
        cases e4
        have nr : rw2 ≠ 49 := ty_ne t3 hq_q (by decide)
        rw [hget_put_ne (Or.inl nr), hget_put_ne (Or.inl nr), hget_put_ne (Or.inl nr), hget_put_ne (Or.inl nr)]
        exact C g2 s2 rw2 hg2 hs2 e3
    · refine zrn_ok HW 2 (zB_iff.mpr (?_ : G (65, [(3, .inl (.int a)), (4, .inl (.int x4)), (0, .inl (.ref 49)), (1, .inl (.int b)), (2, .inl (.int g0))], [.inl (.int b), .inl (.ref 49)], hl, nc, ns)))
      have ok1 : wOK (zPhi (n, m, r, true)) N T (hput hl 49 36 (.inl (.int b))) := wOK_put hst okl hq_q rfl ⟨_, rfl, (by show (0 : Int) ≤ _; omega), (by show _ ≤ (3 : Int); omega)⟩
      refine g_putf HW rfl okl.1 hq_q rfl (by decide) rfl ?_
      refine zrn_ok HW 2 (zB_iff.mpr (?_ : G (70, [(3, .inl (.int a)), (4, .inl (.int x4)), (0, .inl (.ref 49)), (1, .inl (.int b)), (2, .inl (.int g0))], [.inl (.ref 49), .inl (.ref 49)], (hput hl 49 36 (.inl (.int b))), nc, ns)))
      obtain ⟨x2, g2, e2, l2, u2⟩ := hi_val (i := 13) ok1.1 hq_q (by decide) rfl
      have l2 : ((-2147483648) : Int) ≤ x2.toInt := l2
      have u2 : x2.toInt ≤ (2147483647 : Int) := u2
      refine g_getf HW rfl ok1.1 hq_q rfl g2 ?_
      have ok3 : wOK (zPhi (n, m, r, true)) N T (hput (hput hl 49 36 (.inl (.int b))) 49 37 (.inl (.int x2))) := wOK_put hst ok1 hq_q rfl ⟨_, rfl, t_lo _, t_hi _⟩
      refine g_putf HW rfl ok1.1 hq_q rfl (by decide) rfl ?_
      refine zrn_ok HW 2 (zB_iff.mpr (?_ : G (78, [(3, .inl (.int a)), (4, .inl (.int x4)), (0, .inl (.ref 49)), (1, .inl (.int b)), (2, .inl (.int g0))], [.inl (.ref 49), .inl (.ref 49)], (hput (hput hl 49 36 (.inl (.int b))) 49 37 (.inl (.int x2))), nc, ns)))
      refine g_callV (E' := ze_X5_inside) HW rfl rfl (Nat.le_of_ble_eq_true rfl) (by show nc + 0 ≤ _; omega) (by show ns + 0 ≤ _; omega) ok3.1 rfl hq_q rfl (Nat.le_of_ble_eq_true rfl) (c_inside5 ok3.1 hq_q (ok3.2.1.2.1 49 5 hq_q (Or.inl rfl)).1 (fun i4 ei4 li4 ui4 => zB_iff.mpr ?_))
      show G (81, [(3, .inl (.int a)), (4, .inl (.int x4)), (0, .inl (.ref 49)), (1, .inl (.int b)), (2, .inl (.int g0))], [.inl (.int i4), .inl (.ref 49)], (hput (hput hl 49 36 (.inl (.int b))) 49 37 (.inl (.int x2))), nc, ns)
      have ok5 : wOK (zPhi (n, m, r, true)) N T (hput (hput (hput hl 49 36 (.inl (.int b))) 49 37 (.inl (.int x2))) 49 38 (.inl (.int i4))) := wOK_put hst ok3 hq_q rfl ⟨_, rfl, (by show (0 : Int) ≤ _; omega), (by show _ ≤ (60 : Int); omega)⟩
      refine g_putf HW rfl ok3.1 hq_q rfl (by decide) rfl ?_
      refine zrn_ok HW 2 (zB_iff.mpr (?_ : G (86, [(3, .inl (.int a)), (4, .inl (.int x4)), (0, .inl (.ref 49)), (1, .inl (.int b)), (2, .inl (.int g0))], [.inl (.int g0), .inl (.ref 49)], (hput (hput (hput hl 49 36 (.inl (.int b))) 49 37 (.inl (.int x2))) 49 38 (.inl (.int i4))), nc, ns)))
      have ok6 : wOK (zPhi (n, m, r, true)) N T (hput (hput (hput (hput hl 49 36 (.inl (.int b))) 49 37 (.inl (.int x2))) 49 38 (.inl (.int i4))) 49 39 (.inl (.int g0))) := wOK_put hst ok5 hq_q rfl ⟨_, rfl, (by show (0 : Int) ≤ _; omega), (by show _ ≤ (61 : Int); omega)⟩
      refine g_putf HW rfl ok5.1 hq_q rfl (by decide) rfl ?_
      refine zrn_ok HW 1 ?_
      obtain ⟨w37, hw37, -⟩ := hOK_get (i := 37) (T := T) (h := (hput hl 49 36 (.inl (.int b)))) (q := 49) ok1.1 hq_q (by decide)
      obtain ⟨w38, hw38, -⟩ := hOK_get (i := 38) (T := T) (h := (hput (hput hl 49 36 (.inl (.int b))) 49 37 (.inl (.int x2)))) (q := 49) ok3.1 hq_q (by decide)
      have es : hi (hput (hput hl 49 36 (.inl (.int b))) 49 37 (.inl (.int x2))) 49 9 = hi h 49 9 := by rw [hi_put_ne (Or.inr (by decide)), hi_put_ne (Or.inr (by decide))]; exact vFr_hi Fl hq_q (by decide)
      have ei2 : hins (hput (hput hl 49 36 (.inl (.int b))) 49 37 (.inl (.int x2))) 49 (hi h 49 9).toNat = hins h 49 (hi h 49 9).toNat := hins_eq (fun j => by rw [hi_put_ne (Or.inl (by decide)), hi_put_ne (Or.inl (by decide))]; exact vFr_hi Fl (show T[66]? = some 31 from ((ok.2.1.2.1 49 5 hq_q (Or.inl rfl)).1.1 (16, 17, 31) (by decide +kernel)).2) (by decide)) _
      refine zret_v rfl (kk (hput (hput (hput (hput hl 49 36 (.inl (.int b))) 49 37 (.inl (.int x2))) 49 38 (.inl (.int i4))) 49 39 (.inl (.int g0))) ok6 (fun p i σ hp h42 h41 h49 => ?_) ?_ ?_ (fun w2 rw2 g2 s2 hg2 hs2 e1 e2 => ?_))
      · rw [hget_put_ne (by omega), hget_put_ne (by omega), hget_put_ne (by omega), hget_put_ne (by omega)]
        exact vFr_get Fl hp h42
      · rw [hi_put_ne (Or.inr (by decide)), hi_put_ne (Or.inr (by decide)), hi_put hw37, ← e2, hi_put_ne (Or.inr (by decide))]
        exact vFr_hi Fl hq_q (by decide)
      · rw [hi_put_ne (Or.inr (by decide)), hi_put hw38, ei4, es, ei2]
      · rw [hget_put_ne (Or.inr (by decide)), hget_put_ne (Or.inr (by decide)), hget_put_ne (Or.inr (by decide)), hget_put_ne (Or.inr (by decide)), vFr_get Fl hq_q (by decide), gw] at e1
        cases e1
        have nw : w ≠ 49 := ty_ne tw hq_q (by decide)
        rw [hget_put_ne (Or.inl nw), hget_put_ne (Or.inl nw), hget_put_ne (Or.inl nw), hget_put_ne (Or.inl nw), vFr_get Fl tw (by decide)] at e2
        obtain ⟨r3, e3, t3⟩ := row g2 hg2
        have e4 := e3.symm.trans e2
        cases e4
        have nr : rw2 ≠ 49 := ty_ne t3 hq_q (by decide)
        rw [hget_put_ne (Or.inl nr), hget_put_ne (Or.inl nr), hget_put_ne (Or.inl nr), hget_put_ne (Or.inl nr)]
        exact C g2 s2 rw2 hg2 hs2 e3
  have inner : ∀ (g rw : Nat), g < 62 → hget h w g = some (.inl (.ref rw)) → T[rw]? = some 42 → (∀ hl : zH, wOK (zPhi (n, m, r, true)) N T hl → vFr T h hl → (∀ g2 s rw2 : Nat, g2 < g + 1 → s < 256 → hget h w g2 = some (.inl (.ref rw2)) → hget hl rw2 s = some (.inl (.long (-1)))) → G (57, [(4, .inl (.int (Int32.ofNat 256))), (3, .inl (.int (Int32.ofNat g))), (0, .inl (.ref 49)), (1, .inl (.int b)), (2, .inl (.int g0))], [], hl, nc, ns)) → ∀ i j : Nat, i + j = 256 → ∀ hl : zH, wOK (zPhi (n, m, r, true)) N T hl → vFr T h hl → (∀ g2 s rw2 : Nat, g2 < g → s < 256 → hget h w g2 = some (.inl (.ref rw2)) → hget hl rw2 s = some (.inl (.long (-1)))) → (∀ s : Nat, s < j → hget hl rw s = some (.inl (.long (-1)))) → G (31, [(4, .inl (.int (Int32.ofNat j))), (3, .inl (.int (Int32.ofNat g))), (0, .inl (.ref 49)), (1, .inl (.int b)), (2, .inl (.int g0))], [], hl, nc, ns) := by
    intro g rw hg62 gr trw next i
    have eg := nI_int (k := g) (by omega)
    have egn : (Int32.ofNat g).toInt.toNat = g := by omega
    induction i with
    | zero =>
      intro j hj hl okl Fl C D
      have ej := nI_int (k := j) (by omega)
      have ejn : (Int32.ofNat j).toInt.toNat = j := by omega
      refine zrn_ok HW 3 (zbr_ex (cd := .ge) (x := (Int32.ofNat j)) (y := (256 : Int32)) (fun hc1 => zB_iff.mpr ?_) (fun hc1 => zB_iff.mpr ?_))
      · -- pc 57
        have i1 : (Int32.ofNat j).toInt ≥ (256 : Int) := zop_int.mp hc1
        have e256 : j = 256 := by omega
        rw [e256] at D
        rw [e256]
        refine next hl okl Fl (fun g2 s2 rw2 hg2 hs2 e2 => ?_)
        by_cases e3 : g2 = g
        · subst e3
          rw [gr] at e2
          cases e2
          exact D s2 hs2
        · exact C g2 s2 rw2 (by omega) hs2 e2
      · -- pc 39
        have i1 : ¬ ((Int32.ofNat j).toInt ≥ (256 : Int)) := fun e => hc1 (zop_int.mpr e)
        exfalso
        omega
    | succ i ih =>
      intro j hj hl okl Fl C D
      have ej := nI_int (k := j) (by omega)
      have ejn : (Int32.ofNat j).toInt.toNat = j := by omega
      refine zrn_ok HW 3 (zbr_ex (cd := .ge) (x := (Int32.ofNat j)) (y := (256 : Int32)) (fun hc1 => zB_iff.mpr ?_) (fun hc1 => zB_iff.mpr ?_))
      · -- pc 57
        have i1 : (Int32.ofNat j).toInt ≥ (256 : Int) := zop_int.mp hc1
        exfalso
        omega
      · -- pc 39
        have i1 : ¬ ((Int32.ofNat j).toInt ≥ (256 : Int)) := fun e => hc1 (zop_int.mpr e)
        refine zrn_ok HW 1 (zB_iff.mpr (?_ : G (40, [(4, .inl (.int (Int32.ofNat j))), (3, .inl (.int (Int32.ofNat g))), (0, .inl (.ref 49)), (1, .inl (.int b)), (2, .inl (.int g0))], [.inl (.ref 49)], hl, nc, ns)))
        have o3 : hget hl 49 35 = some (.inl (.ref w)) := (vFr_get Fl hq_q (by decide)).trans gw
        refine g_getf HW rfl okl.1 hq_q rfl o3 ?_
        refine zrn_ok HW 1 (zB_iff.mpr (?_ : G (44, [(4, .inl (.int (Int32.ofNat j))), (3, .inl (.int (Int32.ofNat g))), (0, .inl (.ref 49)), (1, .inl (.int b)), (2, .inl (.int g0))], [.inl (.int (Int32.ofNat g)), .inl (.ref w)], hl, nc, ns)))
        have o4 : hget hl w (Int32.ofNat g).toInt.toNat = some (.inl (.ref rw)) := by rw [egn]; exact (vFr_get Fl tw (by decide)).trans gr
        refine g_aald HW rfl okl.1 tw ⟨by decide, by decide⟩ (by omega) o4 ?_
        refine zrn_ok HW 2 (zB_iff.mpr (?_ : G (50, [(4, .inl (.int (Int32.ofNat j))), (3, .inl (.int (Int32.ofNat g))), (0, .inl (.ref 49)), (1, .inl (.int b)), (2, .inl (.int g0))], [.inl (.long (-1 : Int64)), .inl (.int (Int32.ofNat j)), .inl (.ref rw)], hl, nc, ns)))
        have ok5 : wOK (zPhi (n, m, r, true)) N T (hput hl rw ((Int32.ofNat j)).toInt.toNat (.inl (.long (-1 : Int64)))) := wOK_put hst okl trw rfl ⟨_, rfl⟩
        refine g_last HW rfl okl.1 trw rfl (by omega) (by show _ < (256 : Int); omega) ?_
        refine zrn_ok HW 2 (zB_iff.mpr (?_ : G (31, [(4, .inl (.int ((Int32.ofNat j) + (1 : Int32)))), (3, .inl (.int (Int32.ofNat g))), (0, .inl (.ref 49)), (1, .inl (.int b)), (2, .inl (.int g0))], [], (hput hl rw ((Int32.ofNat j)).toInt.toNat (.inl (.long (-1 : Int64)))), nc, ns)))
        have := ih (j + 1) (by omega) (hput hl rw ((Int32.ofNat j)).toInt.toNat (.inl (.long (-1 : Int64)))) ok5 (fun p i hp => ?_) (fun g2 s2 rw2 hg2 hs2 e2 => ?_) (fun s2 hs2 => ?_)
        · rw [← nI_add1] at this
          exact this
        · rw [hget_put_ne (Or.inl (fun e => hp (by rw [e]; exact trw)))]
          exact Fl p i hp
        · by_cases e3 : rw2 = rw
          · subst e3
            by_cases e4 : s2 = j
            · subst e4
              obtain ⟨w9, hw9, -⟩ := hOK_get (i := s2) okl.1 trw (by show _ < 256; omega)
              rw [ejn]
              exact hget_put hw9
            · rw [ejn, hget_put_ne (Or.inr e4)]
              exact C g2 s2 rw2 hg2 hs2 e2
          · rw [hget_put_ne (Or.inl e3)]
            exact C g2 s2 rw2 hg2 hs2 e2
        · by_cases e4 : s2 = j
          · subst e4
            obtain ⟨w9, hw9, -⟩ := hOK_get (i := s2) okl.1 trw (by show _ < 256; omega)
            rw [ejn]
            exact hget_put hw9
          · rw [ejn, hget_put_ne (Or.inr e4)]
            exact D s2 (by omega)
  have outer : ∀ i j : Nat, i + j = 62 → ∀ hl : zH, wOK (zPhi (n, m, r, true)) N T hl → vFr T h hl → (∀ g2 s rw2 : Nat, g2 < j → s < 256 → hget h w g2 = some (.inl (.ref rw2)) → hget hl rw2 s = some (.inl (.long (-1)))) → (G (22, [(3, .inl (.int (Int32.ofNat j))), (0, .inl (.ref 49)), (1, .inl (.int b)), (2, .inl (.int g0))], [], hl, nc, ns) ∧ ∀ x4 : Int32, G (22, [(3, .inl (.int (Int32.ofNat j))), (4, .inl (.int x4)), (0, .inl (.ref 49)), (1, .inl (.int b)), (2, .inl (.int g0))], [], hl, nc, ns)) := by
    intro i
    induction i with
    | zero =>
      intro j hj hl okl Fl C
      have ej := nI_int (k := j) (by omega)
      have ejn : (Int32.ofNat j).toInt.toNat = j := by omega
      refine ⟨?_, fun x4 => ?_⟩
      · refine zrn_ok HW 3 (zbr_ex (cd := .gt) (x := (Int32.ofNat j)) (y := (61 : Int32)) (fun hc1 => zB_iff.mpr ?_) (fun hc1 => zB_iff.mpr ?_))
        · -- pc 63
          have i1 : (Int32.ofNat j).toInt > (61 : Int) := zop_int.mp hc1
          exact fin _ hl okl Fl (fun g2 s2 rw2 hg2 hs2 e2 => C g2 s2 rw2 (by omega) hs2 e2) [] (Or.inl rfl)
        · -- pc 28
          have i1 : ¬ ((Int32.ofNat j).toInt > (61 : Int)) := fun e => hc1 (zop_int.mpr e)
          exfalso
          omega
      · refine zrn_ok HW 3 (zbr_ex (cd := .gt) (x := (Int32.ofNat j)) (y := (61 : Int32)) (fun hc1 => zB_iff.mpr ?_) (fun hc1 => zB_iff.mpr ?_))
        · -- pc 63
          have i1 : (Int32.ofNat j).toInt > (61 : Int) := zop_int.mp hc1
          exact fin _ hl okl Fl (fun g2 s2 rw2 hg2 hs2 e2 => C g2 s2 rw2 (by omega) hs2 e2) [(4, .inl (.int x4))] (Or.inr ⟨x4, rfl⟩)
        · -- pc 28
          have i1 : ¬ ((Int32.ofNat j).toInt > (61 : Int)) := fun e => hc1 (zop_int.mpr e)
          exfalso
          omega
    | succ i ih =>
      intro j hj hl okl Fl C
      have ej := nI_int (k := j) (by omega)
      have ejn : (Int32.ofNat j).toInt.toNat = j := by omega
      obtain ⟨rwj, grj, trj⟩ := row j (by omega)
      refine ⟨?_, fun x4 => ?_⟩
      · refine zrn_ok HW 3 (zbr_ex (cd := .gt) (x := (Int32.ofNat j)) (y := (61 : Int32)) (fun hc1 => zB_iff.mpr ?_) (fun hc1 => zB_iff.mpr ?_))
        · -- pc 63
          have i1 : (Int32.ofNat j).toInt > (61 : Int) := zop_int.mp hc1
          exfalso
          omega
        · -- pc 28
          have i1 : ¬ ((Int32.ofNat j).toInt > (61 : Int)) := fun e => hc1 (zop_int.mpr e)
          refine zrn_ok HW 2 (zB_iff.mpr (?_ : G (31, [(4, .inl (.int (0 : Int32))), (3, .inl (.int (Int32.ofNat j))), (0, .inl (.ref 49)), (1, .inl (.int b)), (2, .inl (.int g0))], [], hl, nc, ns)))
          refine inner j rwj (by omega) grj trj (fun h2 ok2 F2 C2 => ?_) 256 0 rfl hl okl Fl C (fun s2 hs2 => absurd hs2 (by omega))
          refine zrn_ok HW 2 (zB_iff.mpr ?_)
          have := (ih (j + 1) (by omega) h2 ok2 F2 C2).2 (Int32.ofNat 256)
          rw [← nI_add1] at this
          exact this
      · refine zrn_ok HW 3 (zbr_ex (cd := .gt) (x := (Int32.ofNat j)) (y := (61 : Int32)) (fun hc1 => zB_iff.mpr ?_) (fun hc1 => zB_iff.mpr ?_))
        · -- pc 63
          have i1 : (Int32.ofNat j).toInt > (61 : Int) := zop_int.mp hc1
          exfalso
          omega
        · -- pc 28
          have i1 : ¬ ((Int32.ofNat j).toInt > (61 : Int)) := fun e => hc1 (zop_int.mpr e)
          refine zrn_ok HW 2 (zB_iff.mpr (?_ : G (31, [(4, .inl (.int (0 : Int32))), (3, .inl (.int (Int32.ofNat j))), (0, .inl (.ref 49)), (1, .inl (.int b)), (2, .inl (.int g0))], [], hl, nc, ns)))
          refine inner j rwj (by omega) grj trj (fun h2 ok2 F2 C2 => ?_) 256 0 rfl hl okl Fl C (fun s2 hs2 => absurd hs2 (by omega))
          refine zrn_ok HW 2 (zB_iff.mpr ?_)
          have := (ih (j + 1) (by omega) h2 ok2 F2 C2).2 (Int32.ofNat 256)
          rw [← nI_add1] at this
          exact this
  refine zrn_ok HW 2 (zB_iff.mpr ?_)
  exact (outer 62 0 rfl h ok (fun _ _ _ => rfl) (fun g2 s2 rw2 hg2 => absurd hg2 (by omega))).1
